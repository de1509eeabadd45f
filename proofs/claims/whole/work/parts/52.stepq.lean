/-! PURE: the step q -/
def oi (L : List (Int32 × Int32)) (s sp : Nat) (y : Int32) (x0 : ze_H) (j : Nat) (x : ze_H) : Prop := (∀ i, i < j → L[i]? = some (x 56 (4 * sp + i), x 55 (4 * sp + i))) ∧ (∀ i, j < i → i ≤ s → L[i - 1]? = some (x 56 (4 * sp + i), x 55 (4 * sp + i))) ∧ (∀ i b, j ≤ i → L[i]? = some b → y < b.1) ∧ ∀ k i, ¬ ((k = 55 ∨ k = 56) ∧ 4 * sp ≤ i ∧ i < 4 * sp + 4) → x k i = x0 k i
theorem ord_x {L : List (Int32 × Int32)} {s sp : Nat} {b1 b2 y : Int32} {x0 : ze_H} (hsp : sp < 164) (hs : s < 4) (kk : Int32 → ze_H → Option (Int32 × ze_H)) : ∀ (j N : Nat) (x : ze_H), j ≤ s → j < N → oi L s sp y x0 j x → ∃ j' x', j' ≤ s ∧ f_K_addInOrder_L27 b1 b2 y (nI (4 * sp)) kk N (nI (4 * sp + j)) x = kk (nI (4 * sp + j')) x' ∧ oi L s sp y x0 j' x' ∧ (∀ b, 0 < j' → L[j' - 1]? = some b → b.1 ≤ y)
  | 0, N, x, hj, hN, H => by
    obtain ⟨N, rfl⟩ : ∃ N', N = N' + 1 := ⟨N - 1, by omega⟩
    refine ⟨0, x, by omega, ?_, H, fun b hb => by omega⟩
    rw [f_K_addInOrder_L27]
    rw [if_pos (nI_le (by omega) (by omega))]
  | j + 1, N, x, hj, hN, H => by
    obtain ⟨N, rfl⟩ : ∃ N', N = N' + 1 := ⟨N - 1, by omega⟩
    have hLj := H.1 j (by omega)
    have e1 : nI (4 * sp + (j + 1)) - 1 = nI (4 * sp + j) := nI_pred _
    have e2 : nI (4 * sp + (j + 1)) + (-1) = nI (4 * sp + j) := pk_m1 _
    rw [f_K_addInOrder_L27]
    rw [if_neg (nI_ge (by omega) (by omega)), e1, e2, zi_nI (by omega) (by omega), nI_clamp (show 4 * sp + j < 2 ^ 31 by omega)]
    by_cases c : x 56 (4 * sp + j) ≤ y
    · rw [if_pos c]
      refine ⟨j + 1, x, hj, rfl, H, fun b hb hb2 => ?_⟩
      rw [show j + 1 - 1 = j by omega, hLj] at hb2
      injection hb2 with hb2
      rw [← hb2]
      exact c
    · rw [if_neg c]
      have H2 : oi L s sp y x0 j (ze_u (ze_u x 55 (4 * sp + (j + 1)) (x 55 (4 * sp + j))) 56 (4 * sp + (j + 1)) (x 56 (4 * sp + j))) := by
        refine ⟨fun i hi => ?_, fun i h1 h2 => ?_, fun i b h1 h2 => ?_, fun k i hk => ?_⟩
        · rw [H.1 i (by omega)]
          simp (disch := omega) only [zu_n]
        · by_cases ci : i = j + 1
          · subst ci
            rw [show j + 1 - 1 = j by omega, hLj]
            simp (disch := omega) only [zu_n, zu_s]
          · rw [H.2.1 i (by omega) h2]
            simp (disch := omega) only [zu_n]
        · by_cases ci : i = j
          · subst ci
            rw [hLj] at h2
            injection h2 with h2
            rw [← h2]
            exact Int32.not_le.mp c
          · exact H.2.2.1 i b (by omega) h2
        · rw [zu_n _ _ _ _ (by omega), zu_n _ _ _ _ (by omega)]
          exact H.2.2.2 k i hk
      obtain ⟨j', x', k1, k2, k3, k4⟩ := ord_x (b1 := b1) (b2 := b2) hsp hs kk j N _ (by omega) (by omega) H2
      refine ⟨j', x', k1, ?_, k3, k4⟩
      rw [← k2]
      simp (disch := omega) only [zi_N, nI_clamp, zlvN, zleN, zu_n]
/-- the class puts a body and key in order -/
theorem add_ord {L : List (Int32 × Int32)} {s sp : Nat} {b y : Int32} {x : ze_H} (hsp : sp < 164) (hs : s < 4) (hL : L.length = s) (hsr : srd L) (e54 : x 54 sp = nI s) (hrow : ∀ i, i < s → L[i]? = some (x 56 (4 * sp + i), x 55 (4 * sp + i))) : ∃ x1, f_K_addInOrder (nI sp) b y x = some (0, x1) ∧ x1 54 sp = nI (s + 1) ∧ (∀ i, i < s + 1 → (ins (y, b) L)[i]? = some (x1 56 (4 * sp + i), x1 55 (4 * sp + i))) ∧ ∀ k i, ¬ (k = 54 ∧ i = sp) → ¬ ((k = 55 ∨ k = 56) ∧ 4 * sp ≤ i ∧ i < 4 * sp + 4) → x1 k i = x k i := by
  have H0 : oi L s sp y x s x := ⟨hrow, fun i h1 h2 => by omega, fun i b' h1 h2 => (by
    rw [List.getElem?_eq_none (by omega)] at h2
    cases h2), fun k i hk => rfl⟩
  obtain ⟨j, x', k1, k2, k3, k4⟩ := ord_x (L := L) (s := s) (sp := sp) (b1 := nI sp) (b2 := b) (y := y) (x0 := x) hsp hs (fun x6 v7 => f_K_addInOrder_J85 (nI sp) b y x6 v7) s 200000 x (Nat.le_refl _) (by omega) H0
  have em : nI sp * 4 = nI (4 * sp) := by rw [l_4, pk_mul, Nat.mul_comm]
  have e54' : x' 54 sp = nI s := by rw [k3.2.2.2 54 sp (by omega)]; exact e54
  refine ⟨ze_u (ze_u (ze_u x' 55 (4 * sp + j) b) 56 (4 * sp + j) y) 54 sp (nI (s + 1)), ?_, zu_s _ _ _ _, fun i hi => ?_, fun k i h1 h2 => ?_⟩
  · have hlt : nI s < (4 : Int32) := nI_lt (b := 4) hs (by omega)
    unfold f_K_addInOrder
    rw [nI_clamp (show sp < 2 ^ 31 by omega), e54, zi_nI hsp (by omega), if_pos hlt, zlet, em, zi_nI hsp (by omega), zlet, nI_add]
    refine Eq.trans k2 ?_
    unfold f_K_addInOrder_J85
    simp (disch := omega) only [zi_N, nI_clamp, zlvN, zu_n, e54', nI_1]
  · rw [ins_at (a := (y, b)) L j hsr (by omega) (fun b' h1 h2 => k4 b' h1 h2) (fun b' h2 => k3.2.2.1 j b' (Nat.le_refl _) h2) i]
    by_cases c1 : i < j
    · rw [if_pos c1, k3.1 i c1]
      simp (disch := omega) only [zu_n]
    · rw [if_neg c1]
      by_cases c2 : i = j
      · subst c2
        rw [if_pos rfl]
        simp (disch := omega) only [zu_n, zu_s]
      · rw [if_neg c2, k3.2.1 i (by omega) (by omega)]
        simp (disch := omega) only [zu_n]
  · rw [zu_n _ _ _ _ (by omega), zu_n _ _ _ _ (by omega), zu_n _ _ _ _ (by omega)]
    exact k3.2.2.2 k i h2
/-- the class makes a row ready -/
theorem hold_x {sp f : Nat} {b3 : Nat} (hsp : sp < 164) (hf : f < 401) (hb : b3 ≤ 4) (kk : ze_H → Option (Int32 × ze_H)) : ∀ (d j s0 N : Nat) (x : ze_H), j + d = b3 → d < N → s0 + d ≤ 401 → x 43 0 = nI 401 → x 43 4 = nI f → x 43 5 = nI s0 → ∃ x1, f_E_hold_L59 (nI sp) (nI b3) kk N (nI j) x = kk x1 ∧ x1 43 5 = nI (s0 + d) ∧ (∀ i, i < d → x1 44 ((f + s0 + i) % 401) = x 15 sp ∧ x1 45 ((f + s0 + i) % 401) = x 55 (4 * sp + (j + i)) ∧ x1 46 ((f + s0 + i) % 401) = x 56 (4 * sp + (j + i))) ∧ (∀ k i, ¬ (k = 43 ∧ i = 5) → ¬ (44 ≤ k ∧ k ≤ 46 ∧ ∃ t, s0 ≤ t ∧ t < s0 + d ∧ i = (f + t) % 401) → x1 k i = x k i)
  | 0, j, s0, N, x, hj, hN, hs, e0, e4, e5 => by
    obtain ⟨N, rfl⟩ : ∃ N', N = N' + 1 := ⟨N - 1, by omega⟩
    refine ⟨x, ?_, e5, fun i hi => by omega, fun _ _ _ _ => rfl⟩
    rw [f_E_hold_L59]
    rw [if_pos (nI_le (by omega) (by omega))]
  | d + 1, j, s0, N, x, hj, hN, hs, e0, e4, e5 => by
    obtain ⟨N, rfl⟩ : ∃ N', N = N' + 1 := ⟨N - 1, by omega⟩
    have hlt := Nat.mod_lt (f + s0) (show 0 < 401 by omega)
    obtain ⟨x2, k1, k2, k3, k4⟩ := hold_x hsp hf hb kk d (j + 1) (s0 + 1) N (ze_u (ze_u (ze_u (ze_u x 44 ((f + s0) % 401) (x 15 sp)) 45 ((f + s0) % 401) (x 55 (4 * sp + j))) 46 ((f + s0) % 401) (x 56 (4 * sp + j))) 43 5 (nI (s0 + 1))) (by omega) (by omega) (by omega) (by simp (disch := omega) only [zu_n]; exact e0) (by simp (disch := omega) only [zu_n]; exact e4) (zu_s _ _ _ _)
    refine ⟨x2, ?_, by rw [k2]; congr 1; omega, fun i hi => ?_, fun k i h1 h2 => ?_⟩
    · rw [f_E_hold_L59]
      rw [if_neg (nI_ge (by omega) (by omega)), show nI sp * 4 + nI j = nI (4 * sp + j) by rw [l_4, pk_mul, nI_add, Nat.mul_comm], zlet, zi_nI (by omega) (by omega), zi_nI (by omega) (by omega), zi_nI (by omega) (by omega), nI_clamp (by omega), nI_clamp (by omega), px_add (k0 := 43) (n0 := 401) (by omega) (by omega) e0 e4 e5 hf (by omega), zcall, zlet, nI_1]
      exact k1
    · rcases i with _ | i
      · rw [Nat.add_zero, Nat.add_zero]
        have hfr : ∀ k, 44 ≤ k → k ≤ 46 → x2 k ((f + s0) % 401) = _ := fun k h1 h2 => k4 k ((f + s0) % 401) (by omega) (fun ⟨_, _, t, t1, t2, t3⟩ => by omega)
        rw [hfr 44 (by omega) (by omega), hfr 45 (by omega) (by omega), hfr 46 (by omega) (by omega)]
        simp (disch := omega) only [zu_n, zu_s, and_self]
      · obtain ⟨g1, g2, g3⟩ := k3 i (by omega)
        rw [show f + s0 + (i + 1) = f + (s0 + 1) + i by omega, g1, g2, g3, show j + (i + 1) = j + 1 + i by omega]
        simp (disch := omega) only [zu_n, and_self]
    · rw [k4 k i h1 (fun ⟨a1, a2, t, t1, t2, t3⟩ => h2 ⟨a1, a2, t, by omega, by omega, t3⟩)]
      by_cases c : 44 ≤ k ∧ k ≤ 46 ∧ i = (f + s0) % 401
      · exact absurd ⟨c.1, c.2.1, s0, Nat.le_refl _, by omega, c.2.2⟩ h2
      · rw [zu_n _ _ _ _ (by omega), zu_n _ _ _ _ (by omega), zu_n _ _ _ _ (by omega), zu_n _ _ _ _ (by omega)]
/-- not more than 240 are held -/
theorem hl_cnt {m : ze_H} {c : Nat} : ∀ h, cntI (m 100) (nI c) h = (hl m c h).length
  | 0 => rfl
  | h + 1 => by
    show cntI (m 100) (nI c) h + _ = (hl m c h ++ _).length
    rw [hl_cnt h, List.length_append]
    by_cases q : m 100 h = nI c
    · rw [if_pos q, if_pos q]
      rfl
    · rw [if_neg q, if_neg q]
      rfl
theorem h_room {n : Nat → Nat} {T : Nat → Nat → Nat} {tb m : ze_H} (pr : PR n T tb) {h : Nat} (h1 : ∀ i, i < h → ∃ r p, r < 4 ∧ v113 (T r) p ∧ m 100 i = nI (40 * r + p)) (h2 : ∀ r p, r < 4 → v113 (T r) p → (hl m (40 * r + p) h).length ≤ 3) : h ≤ 240 := by
  have hfB : ∀ i, i < h → ∃ r' p', r' < 4 ∧ v113 (T r') p' ∧ m 100 i = nI (40 * r' + p') ∧ p' ≤ 38 ∧ 20 * ((m 100 i).toNatClampNeg / 40) + (m 100 i).toNatClampNeg % 40 / 2 = 20 * r' + p' / 2 := fun i hi => by
    obtain ⟨r', p', z1, z2, z6⟩ := h1 i hi
    have hz' := (pr r' z1).1
    have := v113_lt hz' z2
    have := hz'.1
    refine ⟨r', p', z1, z2, z6, by omega, ?_⟩
    rw [z6, nI_clamp (by omega)]
    omega
  have hsum := sumT_cnt (f := fun i => 20 * ((m 100 i).toNatClampNeg / 40) + (m 100 i).toNatClampNeg % 40 / 2) (B := 80) h (fun i hi => by
    obtain ⟨r', p', z1, z2, z3, z4, z5⟩ := hfB i hi
    show 20 * ((m 100 i).toNatClampNeg / 40) + (m 100 i).toNatClampNeg % 40 / 2 < 80
    rw [z5]
    omega)
  have same : ∀ r1 p1 r2 p2, r1 < 4 → r2 < 4 → v113 (T r1) p1 → v113 (T r2) p2 → p1 ≤ 38 → p2 ≤ 38 → 20 * r1 + p1 / 2 = 20 * r2 + p2 / 2 → 40 * r1 + p1 = 40 * r2 + p2 := by
    intro r1 p1 r2 p2 a1 a2 a3 a4 a5 a6 a7
    have hrr : r1 = r2 := by omega
    subst hrr
    have g1 := (sn_inr a3.2).1
    have g2 := (sn_inr a4.2).1
    rcases Nat.lt_trichotomy p1 p2 with c | c | c
    · have : p2 = p1 + 1 := by omega
      rw [this] at a4
      have := a4.1
      omega
    · omega
    · have : p1 = p2 + 1 := by omega
      rw [this] at a3
      have := a3.1
      omega
  have hle := sumT_le (h := fun b => cntB (fun i => 20 * ((m 100 i).toNatClampNeg / 40) + (m 100 i).toNatClampNeg % 40 / 2) b h) 80 (fun b hb => ?_)
  · omega
  · by_cases c : ∃ i, i < h ∧ 20 * ((m 100 i).toNatClampNeg / 40) + (m 100 i).toNatClampNeg % 40 / 2 = b
    · obtain ⟨i, hi, hb'⟩ := c
      obtain ⟨r1, p1, z1, z2, z3, z4, z5⟩ := hfB i hi
      refine Nat.le_trans (cntB_le (h := m 100) (y := nI (40 * r1 + p1)) h (fun j hj hjb => ?_)) (by rw [hl_cnt]; exact h2 r1 p1 z1 z2)
      obtain ⟨r2, p2, y1, y2, y3, y4, y5⟩ := hfB j hj
      rw [y3, same r1 p1 r2 p2 z1 y1 z2 y2 z4 y4 (by omega)]
    · show cntB (fun i => 20 * ((m 100 i).toNatClampNeg / 40) + (m 100 i).toNatClampNeg % 40 / 2) b h ≤ 3
      rw [cntB_0 h (fun i hi hib => c ⟨i, hi, hib⟩)]
      omega
