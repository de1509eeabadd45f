/-! PURE: groups: finding, opening, joining -/
/-- at most three of each kind, and fewer of one: fewer than three times the kinds -/
def sumT (h : Nat → Nat) : Nat → Nat
  | 0 => 0
  | B + 1 => sumT h B + h B
def cntB (f : Nat → Nat) (b : Nat) : Nat → Nat
  | 0 => 0
  | g + 1 => cntB f b g + if f g = b then 1 else 0
theorem sumT_add {h h2 : Nat → Nat} {b0 : Nat} : ∀ B, b0 < B → (∀ b, h2 b = h b + if b0 = b then 1 else 0) → sumT h2 B = sumT h B + 1
  | 0, hb, e => by omega
  | B + 1, hb, e => by
    show sumT h2 B + h2 B = sumT h B + h B + 1
    rw [e B]
    by_cases c : b0 = B
    · subst c
      rw [if_pos rfl]
      have : ∀ C, C ≤ b0 → sumT h2 C = sumT h C := by
        intro C
        induction C with
        | zero => intro _; rfl
        | succ C ih =>
          intro hC
          show sumT h2 C + h2 C = sumT h C + h C
          rw [ih (by omega), e C, if_neg (by omega)]
          omega
      rw [this b0 (Nat.le_refl _)]
      omega
    · rw [if_neg c, sumT_add B (by omega) e]
      omega
theorem sumT_0 : ∀ B, sumT (fun _ => 0) B = 0
  | 0 => rfl
  | B + 1 => by
    show sumT (fun _ => 0) B + 0 = 0
    rw [sumT_0 B]
theorem sumT_cnt {f : Nat → Nat} {B : Nat} : ∀ g, (∀ i, i < g → f i < B) → sumT (fun b => cntB f b g) B = g
  | 0, _ => sumT_0 B
  | g + 1, hf => by
    rw [sumT_add (h := fun b => cntB f b g) (h2 := fun b => cntB f b (g + 1)) B (hf g (by omega)) (fun b => rfl), sumT_cnt g (fun i hi => hf i (by omega))]
theorem sumT_le {h : Nat → Nat} : ∀ B, (∀ b, b < B → h b ≤ 3) → sumT h B ≤ 3 * B
  | 0, _ => Nat.le_refl _
  | B + 1, hb => by
    have := sumT_le B (fun b hb' => hb b (by omega))
    have := hb B (by omega)
    show sumT h B + h B ≤ _
    omega
theorem sumT_lt {h : Nat → Nat} {b0 : Nat} : ∀ B, b0 < B → (∀ b, b < B → h b ≤ 3) → h b0 < 3 → sumT h B < 3 * B
  | 0, hb0, _, _ => by omega
  | B + 1, hb0, hb, h0 => by
    show sumT h B + h B < _
    by_cases c : b0 = B
    · subst c
      have := sumT_le b0 (fun b hb' => hb b (by omega))
      omega
    · have := sumT_lt B (by omega) (fun b hb' => hb b (by omega)) h0
      have := hb B (by omega)
      omega
theorem cntB_le {f : Nat → Nat} {h : Nat → Int32} {b : Nat} {y : Int32} : ∀ g, (∀ i, i < g → f i = b → h i = y) → cntB f b g ≤ cntI h y g
  | 0, _ => Nat.le_refl _
  | g + 1, e => by
    have := cntB_le g (fun i hi => e i (by omega))
    show cntB f b g + (if f g = b then 1 else 0) ≤ cntI h y g + (if h g = y then 1 else 0)
    by_cases c : f g = b
    · rw [if_pos c, if_pos (e g (by omega) c)]
      omega
    · rw [if_neg c]
      omega
theorem cntB_0 {f : Nat → Nat} {b : Nat} : ∀ g, (∀ i, i < g → ¬ f i = b) → cntB f b g = 0
  | 0, _ => rfl
  | g + 1, e => by
    show cntB f b g + (if f g = b then 1 else 0) = 0
    rw [cntB_0 g (fun i hi => e i (by omega)), if_neg (e g (by omega))]
/-- bodies of steps a do not overlap -/
theorem v97_sep {T : Nat → Nat} {n p p' : Nat} (hz : tz n T) (h : v97 T p) (h' : T p' = 97) (hlt : p < p') : p + 4 ≤ p' := by
  obtain ⟨h1, h2, h3, h4⟩ := h
  obtain ⟨g1, -, -, -⟩ := sn_inr h2
  obtain ⟨k1, -, -, -⟩ := sn_inr h4
  have e1 : ne T (p + 1) = (if 48 ≤ T (p + 2) ∧ T (p + 2) ≤ 57 then (nsc T 2 (p + 3) ((0 * 10 + (T (p + 1) - 48)) * 10 + (T (p + 2) - 48))).2 else p + 2) := by
    unfold ne
    rw [nsc_s, if_pos g1, nsc_s]
    split
    · rfl
    · rfl
  by_cases c2 : 48 ≤ T (p + 2) ∧ T (p + 2) ≤ 57
  · rw [if_pos c2, nsc_s] at e1
    by_cases c3 : 48 ≤ T (p + 3) ∧ T (p + 3) ≤ 57
    · have d1 : p' ≠ p + 1 := fun q => by rw [q] at h'; omega
      have d2 : p' ≠ p + 2 := fun q => by rw [q] at h'; omega
      have d3 : p' ≠ p + 3 := fun q => by rw [q] at h'; omega
      omega
    · rw [if_neg c3] at e1
      have e1 : ne T (p + 1) = p + 3 := e1
      rw [e1] at h3
      have d1 : p' ≠ p + 1 := fun q => by rw [q] at h'; omega
      have d2 : p' ≠ p + 2 := fun q => by rw [q] at h'; omega
      have d3 : p' ≠ p + 3 := fun q => by rw [q] at h'; omega
      omega
  · rw [if_neg c2] at e1
    rw [e1] at h3 k1
    have k1 : 48 ≤ T (p + 3) ∧ T (p + 3) ≤ 57 := k1
    have d1 : p' ≠ p + 1 := fun q => by rw [q] at h'; omega
    have d2 : p' ≠ p + 2 := fun q => by rw [q] at h'; omega
    have d3 : p' ≠ p + 3 := fun q => by rw [q] at h'; omega
    omega
section GA
variable {n : Nat → Nat} {T : Nat → Nat → Nat} {tb x m : ze_H} {G R a r p q e l : Nat}
/-- there is room for another group -/
theorem g_room (pr : PR n T tb) {ex g : Nat} (hr : r < 4) (hv : v97 (T r) p) (hrow : ∀ i, i < g → g_row n T tb ex x m i) (hc : ∀ y, cntI (x 48) y g ≤ 3) (h3 : cntI (x 48) (nI (41 * r + p)) g < 3) : g < 120 := by
  have hfB : ∀ i, i < g → ∃ r' p', r' < 4 ∧ v97 (T r') p' ∧ x 48 i = nI (41 * r' + p') ∧ p' ≤ 36 ∧ 10 * ((x 48 i).toNatClampNeg / 41) + (x 48 i).toNatClampNeg % 41 / 4 = 10 * r' + p' / 4 := fun i hi => by
    obtain ⟨r', p', b', z1, z2, z3, z4, z5, z6, -⟩ := hrow i hi
    have hz' := (pr r' z1).1
    have := v97_lt hz' z2
    have := hz'.1
    refine ⟨r', p', z1, z2, z6, by omega, ?_⟩
    rw [z6, nI_clamp (by omega)]
    omega
  have hz := (pr r hr).1
  have hvl := v97_lt hz hv
  have h40 := hz.1
  have hsum := sumT_cnt (f := fun i => 10 * ((x 48 i).toNatClampNeg / 41) + (x 48 i).toNatClampNeg % 41 / 4) (B := 40) g (fun i hi => by
    obtain ⟨r', p', z1, z2, z3, z4, z5⟩ := hfB i hi
    show 10 * ((x 48 i).toNatClampNeg / 41) + (x 48 i).toNatClampNeg % 41 / 4 < 40
    rw [z5]
    omega)
  have same : ∀ r1 p1 r2 p2, r1 < 4 → r2 < 4 → v97 (T r1) p1 → v97 (T r2) p2 → p1 ≤ 36 → p2 ≤ 36 → 10 * r1 + p1 / 4 = 10 * r2 + p2 / 4 → 41 * r1 + p1 = 41 * r2 + p2 := by
    intro r1 p1 r2 p2 a1 a2 a3 a4 a5 a6 a7
    have hrr : r1 = r2 := by omega
    subst hrr
    have hz1 := (pr r1 a1).1
    rcases Nat.lt_trichotomy p1 p2 with c | c | c
    · have := v97_sep hz1 a3 a4.1 c
      omega
    · omega
    · have := v97_sep hz1 a4 a3.1 c
      omega
  have hlt := sumT_lt (h := fun b => cntB (fun i => 10 * ((x 48 i).toNatClampNeg / 41) + (x 48 i).toNatClampNeg % 41 / 4) b g) (b0 := 10 * r + p / 4) 40 (by omega) (fun b hb => ?_) ?_
  · omega
  · by_cases c : ∃ i, i < g ∧ 10 * ((x 48 i).toNatClampNeg / 41) + (x 48 i).toNatClampNeg % 41 / 4 = b
    · obtain ⟨i, hi, hb'⟩ := c
      obtain ⟨r1, p1, z1, z2, z3, z4, z5⟩ := hfB i hi
      refine Nat.le_trans (cntB_le (h := x 48) (y := nI (41 * r1 + p1)) g (fun j hj hjb => ?_)) (hc _)
      obtain ⟨r2, p2, y1, y2, y3, y4, y5⟩ := hfB j hj
      rw [y3, same r1 p1 r2 p2 z1 y1 z2 y2 z4 y4 (by omega)]
    · show cntB (fun i => 10 * ((x 48 i).toNatClampNeg / 41) + (x 48 i).toNatClampNeg % 41 / 4) b g ≤ 3
      rw [cntB_0 g (fun i hi hib => c ⟨i, hi, hib⟩)]
      omega
  · refine Nat.lt_of_le_of_lt (cntB_le (h := x 48) (y := nI (41 * r + p)) g (fun j hj hjb => ?_)) h3
    obtain ⟨r2, p2, y1, y2, y3, y4, y5⟩ := hfB j hj
    rw [y3, same r p r2 p2 hr y1 hv y2 (by omega) y4 (by omega)]
theorem gx_find {g : Nat} {b1 b2 : Int32} (hg : g ≤ 120) (e47 : x 47 5 = nI g) : ∀ (d j : Nat), j + d = g → (∃ c, j ≤ c ∧ c < g ∧ x 48 c = b1 ∧ x 49 c = b2 ∧ ∀ kk N, d < N → f_G_find_L2 b1 b2 kk N (nI j) x = some (nI c, x)) ∨ ((∀ i, j ≤ i → i < g → ¬ (x 48 i = b1 ∧ x 49 i = b2)) ∧ ∀ kk N, d < N → f_G_find_L2 b1 b2 kk N (nI j) x = kk x)
  | 0, j, hj => by
    refine Or.inr ⟨fun i h1 h2 => by omega, fun kk N hN => ?_⟩
    obtain ⟨N, rfl⟩ : ∃ N', N = N' + 1 := ⟨N - 1, by omega⟩
    rw [f_G_find_L2]
    rw [e47, if_pos (nI_le (by omega) (by omega))]
  | d + 1, j, hj => by
    have step : ∀ (kk : ze_H → Option (Int32 × ze_H)) N, f_G_find_L2 b1 b2 kk (N + 1) (nI j) x = if x 48 j = b1 ∧ x 49 j = b2 then some (nI j, x) else f_G_find_L2 b1 b2 kk N (nI (j + 1)) x := fun kk N => by
      rw [f_G_find_L2]
      rw [e47, if_neg (nI_ge (by omega) (by omega)), zi_nI (by omega) (by omega), zi_nI (by omega) (by omega), nI_clamp (by omega), zlet, nI_1]
      by_cases c1 : x 48 j = b1
      · rw [if_pos c1]
        by_cases c2 : x 49 j = b2
        · rw [if_pos c2, if_pos ⟨c1, c2⟩]
        · rw [if_neg c2, if_neg (fun q => c2 q.2)]
      · rw [if_neg c1, if_neg (fun q => c1 q.1)]
    by_cases c : x 48 j = b1 ∧ x 49 j = b2
    · refine Or.inl ⟨j, by omega, by omega, c.1, c.2, fun kk N hN => ?_⟩
      obtain ⟨N, rfl⟩ : ∃ N', N = N' + 1 := ⟨N - 1, by omega⟩
      rw [step, if_pos c]
    · rcases gx_find hg e47 d (j + 1) (by omega) with ⟨i, h1, h2, h3, h4, h5⟩ | ⟨h1, h2⟩
      · refine Or.inl ⟨i, by omega, h2, h3, h4, fun kk N hN => ?_⟩
        obtain ⟨N, rfl⟩ : ∃ N', N = N' + 1 := ⟨N - 1, by omega⟩
        rw [step, if_neg c, h5 kk N (by omega)]
      · refine Or.inr ⟨fun i g1 g2 => ?_, fun kk N hN => ?_⟩
        · by_cases ci : i = j
          · rw [ci]
            exact c
          · exact h1 i (by omega) g2
        · obtain ⟨N, rfl⟩ : ∃ N', N = N' + 1 := ⟨N - 1, by omega⟩
          rw [step, if_neg c, h2 kk N (by omega)]
theorem gx_open {g : Nat} {b1 : Int32} (hg : g ≤ 120) (e47 : x 47 5 = nI g) (kk : Int32 → ze_H → Option (Int32 × ze_H)) : ∀ (d j c0 N : Nat), j + d = g → c0 < 1000 → d < N → f_G_openOf_L4 b1 kk N (nI (c0 + cntI (x 48) b1 j)) (nI j) x = kk (nI (c0 + cntI (x 48) b1 g)) x
  | 0, j, c0, N, hj, hc, hN => by
    obtain ⟨N, rfl⟩ : ∃ N', N = N' + 1 := ⟨N - 1, by omega⟩
    rw [f_G_openOf_L4]
    rw [e47, if_pos (nI_le (by omega) (by omega)), show j = g by omega]
  | d + 1, j, c0, N, hj, hc, hN => by
    obtain ⟨N, rfl⟩ : ∃ N', N = N' + 1 := ⟨N - 1, by omega⟩
    have ih := gx_open (b1 := b1) hg e47 kk d (j + 1) c0 N (by omega) hc (by omega)
    have e : cntI (x 48) b1 (j + 1) = cntI (x 48) b1 j + if x 48 j = b1 then 1 else 0 := rfl
    rw [f_G_openOf_L4]
    rw [e47, if_neg (nI_ge (by omega) (by omega)), zi_nI (by omega) (by omega), nI_clamp (by omega), zlet, zlet, zlet, nI_1, nI_1]
    by_cases c : x 48 j = b1
    · rw [if_pos c]
      rw [e, if_pos c] at ih
      exact ih
    · rw [if_neg c]
      rw [e, if_neg c] at ih
      exact ih
theorem gm_find {g : Nat} {b1 b2 b3 y : Int32} (hl : l < 16) (hg : g ≤ 120) (e22 : m 75 22 = nI g) (e40 : m 75 40 = nI l) (e109 : m 109 l = y) (hu : ∀ i j, i < j → j < g → ¬ (m 94 i = m 94 j ∧ m 95 i = m 95 j)) : ∀ (d j : Nat), j + d = g → (∃ c, j ≤ c ∧ c < g ∧ m 94 c = b1 ∧ m 95 c = y ∧ ∀ kk N l5, d < N → f_M_gather_L31 b1 b2 b3 kk N (nI (cntI (m 94) b1 j)) l5 (nI j) m = kk (nI (cntI (m 94) b1 g)) (nI c) m) ∨ ((∀ i, j ≤ i → i < g → ¬ (m 94 i = b1 ∧ m 95 i = y)) ∧ ∀ kk N l5, d < N → f_M_gather_L31 b1 b2 b3 kk N (nI (cntI (m 94) b1 j)) l5 (nI j) m = kk (nI (cntI (m 94) b1 g)) l5 m)
  | 0, j, hj => by
    refine Or.inr ⟨fun i h1 h2 => by omega, fun kk N l5 hN => ?_⟩
    obtain ⟨N, rfl⟩ : ∃ N', N = N' + 1 := ⟨N - 1, by omega⟩
    rw [f_M_gather_L31]
    rw [e22, if_pos (nI_le (by omega) (by omega)), show j = g by omega]
  | d + 1, j, hj => by
    have e : cntI (m 94) b1 (j + 1) = cntI (m 94) b1 j + if m 94 j = b1 then 1 else 0 := rfl
    have step : ∀ (kk : Int32 → Int32 → ze_H → Option (Int32 × ze_H)) N l5, f_M_gather_L31 b1 b2 b3 kk (N + 1) (nI (cntI (m 94) b1 j)) l5 (nI j) m = f_M_gather_L31 b1 b2 b3 kk N (nI (cntI (m 94) b1 (j + 1))) (if m 94 j = b1 ∧ m 95 j = y then nI j else l5) (nI (j + 1)) m := fun kk N l5 => by
      rw [f_M_gather_L31]
      simp only [e22, if_neg (nI_ge (show j < g by omega) (show g < 2 ^ 31 by omega)), show ∀ t, ze_in (nI j) 120 t = t from fun t => zi_nI (by omega) (by omega) t, nI_clamp (show j < 2 ^ 31 by omega), e40, show ∀ t, ze_in (nI l) 16 t = t from fun t => zi_nI hl (by omega) t, nI_clamp (show l < 2 ^ 31 by omega), e109, zleN, nI_1]
      by_cases c1 : m 94 j = b1
      · rw [if_pos c1, if_pos c1, e, if_pos c1]
        by_cases c2 : m 95 j = y
        · rw [if_pos c2, if_pos ⟨c1, c2⟩]
        · rw [if_neg c2, if_neg (fun q => c2 q.2)]
      · rw [if_neg c1, if_neg c1, e, if_neg c1, if_neg (fun q => c1 q.1)]
        rfl
    by_cases c : m 94 j = b1 ∧ m 95 j = y
    · refine Or.inl ⟨j, by omega, by omega, c.1, c.2, fun kk N l5 hN => ?_⟩
      obtain ⟨N, rfl⟩ : ∃ N', N = N' + 1 := ⟨N - 1, by omega⟩
      rw [step, if_pos c]
      rcases gm_find (b2 := b2) (b3 := b3) hl hg e22 e40 e109 hu d (j + 1) (by omega) with ⟨i, h1, h2, h3, h4, h5⟩ | ⟨h1, h2⟩
      · exact absurd ⟨c.1.trans h3.symm, c.2.trans h4.symm⟩ (hu j i (by omega) h2)
      · exact h2 kk N (nI j) (by omega)
    · rcases gm_find (b2 := b2) (b3 := b3) hl hg e22 e40 e109 hu d (j + 1) (by omega) with ⟨i, h1, h2, h3, h4, h5⟩ | ⟨h1, h2⟩
      · refine Or.inl ⟨i, by omega, h2, h3, h4, fun kk N l5 hN => ?_⟩
        obtain ⟨N, rfl⟩ : ∃ N', N = N' + 1 := ⟨N - 1, by omega⟩
        rw [step, if_neg c, h5 kk N l5 (by omega)]
      · refine Or.inr ⟨fun i g1 g2 => ?_, fun kk N l5 hN => ?_⟩
        · by_cases ci : i = j
          · rw [ci]
            exact c
          · exact h1 i (by omega) g2
        · obtain ⟨N, rfl⟩ : ∃ N', N = N' + 1 := ⟨N - 1, by omega⟩
          rw [step, if_neg c, h2 kk N l5 (by omega)]
end GA
