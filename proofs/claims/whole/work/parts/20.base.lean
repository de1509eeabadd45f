/-! PURE: small numbers, updates, trees -/
theorem zu_at (v : ze_H) (k i : Nat) (x : Int32) (k' i' : Nat) : ze_u v k i x k' i' = if k' = k ∧ i' = i then x else v k' i' := by
  unfold ze_u upd
  by_cases h : k' = k
  · subst h
    by_cases h2 : i' = i <;> simp [h2]
  · simp [h]
theorem zu_s (v : ze_H) (k i : Nat) (x : Int32) : ze_u v k i x k i = x := by rw [zu_at, if_pos ⟨rfl, rfl⟩]
theorem zu_i (v : ze_H) (k i : Nat) (x : Int32) {i' : Nat} (h : ¬ i' = i) : ze_u v k i x k i' = v k i' := by rw [zu_at, if_neg (fun q => h q.2)]
theorem zu_k (v : ze_H) (k i : Nat) (x : Int32) {k' : Nat} (h : ¬ k' = k) : ze_u v k i x k' = v k' := by
  unfold ze_u
  rw [if_neg h]
theorem zi_ok {i : Int32} {n : Nat} (h : vp_in i n) (t : Option (Int32 × ze_H)) : ze_in i n t = t := if_neg h
theorem zi_nI {j n : Nat} (h : j < n) (hn : n < 2 ^ 31) (t : Option (Int32 × ze_H)) : ze_in (nI j) n t = t := zi_ok (vp_in_nI h hn) t
theorem zcall (r : Int32) (v : ze_H) (t : Int32 → ze_H → Option (Int32 × ze_H)) : ze_call (some (r, v)) t = t r v := rfl
theorem zlet (x : Int32) (t : Int32 → Option (Int32 × ze_H)) : ze_let x t = t x := rfl
theorem zlev (x : ze_H) (t : ze_H → Option (Int32 × ze_H)) : ze_lev x t = t x := rfl
/-- an index that the code tests: too small, too large, or in range -/
theorem ix4 (a : Int32) {n : Nat} {M : Int32} (hM : M.toInt = (n : Int)) (hn : n < 2 ^ 31) : a < 0 ∨ (¬ a < 0 ∧ M ≤ a) ∨ (¬ a < 0 ∧ ¬ M ≤ a ∧ ∃ j, j < n ∧ a = nI j) := by
  by_cases h0 : a < 0
  · exact Or.inl h0
  · by_cases h1 : M ≤ a
    · exact Or.inr (Or.inl ⟨h0, h1⟩)
    · obtain ⟨j, hj, e⟩ := nI_of h0
      refine Or.inr (Or.inr ⟨h0, h1, j, ?_, e⟩)
      rw [Int32.le_iff_toInt_le, hM, e, nI_toInt hj] at h1
      omega
theorem i32le (a b : Int32) : a ≤ b ↔ a.toInt ≤ b.toInt := Int32.le_iff_toInt_le
theorem i32lt (a b : Int32) : a < b ↔ a.toInt < b.toInt := Int32.lt_iff_toInt_lt
/-- the class's calls leave the reference's cells, and the other way round -/
def rs_X (x x1 : ze_H) : Prop := ∀ k, 75 ≤ k → x1 k = x k
def rs_M (m m1 : ze_H) : Prop := ∀ k, k < 75 → m1 k = m k
theorem rs_X0 (x : ze_H) : rs_X x x := fun _ _ => rfl
theorem rs_M0 (m : ze_H) : rs_M m m := fun _ _ => rfl
theorem rs_Xu {x x1 : ze_H} {k i : Nat} {y : Int32} (h : rs_X x x1) (hk : k < 75) : rs_X x (ze_u x1 k i y) := fun q hq => by rw [zu_k _ _ _ _ (by omega)]; exact h q hq
theorem rs_Mu {m m1 : ze_H} {k i : Nat} {y : Int32} (h : rs_M m m1) (hk : 75 ≤ k) : rs_M m (ze_u m1 k i y) := fun q hq => by rw [zu_k _ _ _ _ (by omega)]; exact h q hq
theorem rs_Xt {x x1 x2 : ze_H} (h : rs_X x x1) (h2 : rs_X x1 x2) : rs_X x x2 := fun k hk => (h2 k hk).trans (h k hk)
theorem rs_Mt {x x1 x2 : ze_H} (h : rs_M x x1) (h2 : rs_M x1 x2) : rs_M x x2 := fun k hk => (h2 k hk).trans (h k hk)
/-! the relation, part by part: the class's cells in x, the reference's in m -/
def rs_cnt (x m : ze_H) : Prop := (∀ k, k < 8 → x 74 k = m 119 k) ∧ x 0 13 = m 75 58 ∧ x 0 15 = m 75 59
def rs_cls (x m : ze_H) : Prop := ∃ n, n ≤ 4 ∧ x 17 5 = nI n ∧ m 75 7 = nI n ∧ ∀ j, j < n → (∃ t a d h o, 1 ≤ t ∧ t ≤ 7 ∧ a ≤ 5 ∧ d ≤ 20 ∧ h ≤ 1 ∧ o ≤ 1 ∧ x 18 j = nI t ∧ m 81 j = nI t ∧ x 19 j = nI a ∧ m 82 j = nI a ∧ x 20 j = nI d ∧ m 83 j = nI d ∧ x 21 j = nI h ∧ m 84 j = nI h ∧ x 22 j = nI o ∧ m 85 j = nI o)
def rs_ep (x m : ze_H) : Prop := ∀ d, d < 4 → ∃ f t, f ≤ 9 ∧ t ≤ 7 ∧ (0 < f → 0 < t) ∧ x (24 + 3 * d) 3 = nI f ∧ m 86 d = nI f ∧ x (24 + 3 * d) 4 = nI t ∧ m 87 d = nI t
def rs_got (N : Nat) (x m : ze_H) : Prop := ∀ d, d < 5 → ∃ g, g ≤ N ∧ x (24 + 3 * d) 2 = nI g ∧ m 88 d = nI g ∧ ∀ i, i < 8 → x (24 + 3 * d + 1) i = m 89 (8 * d + i) ∧ x (24 + 3 * d + 2) i = m 90 (8 * d + i)
def rs_txt (x m : ze_H) : Prop := ∀ r, r < 4 → ∃ n, n ≤ 40 ∧ x 1 r = nI n ∧ m 77 r = nI n ∧ (∀ i, i < n → ∃ c, 33 ≤ c ∧ c ≤ 126 ∧ x 3 (41 * r + i) = nI c ∧ m 76 (40 * r + i) = nI c) ∧ ∀ i, n ≤ i → i ≤ 40 → x 3 (41 * r + i) = 0
theorem rs_cnt_kp {x x1 m m1 : ze_H} (h : rs_cnt x m) (a1 : x1 74 = x 74) (a2 : x1 0 13 = x 0 13) (a3 : x1 0 15 = x 0 15) (b1 : m1 119 = m 119) (b2 : m1 75 58 = m 75 58) (b3 : m1 75 59 = m 75 59) : rs_cnt x1 m1 := by
  unfold rs_cnt at *
  rw [a1, a2, a3, b1, b2, b3]
  exact h
theorem rs_cls_kp {x x1 m m1 : ze_H} (h : rs_cls x m) (a0 : x1 17 5 = x 17 5) (a1 : x1 18 = x 18) (a2 : x1 19 = x 19) (a3 : x1 20 = x 20) (a4 : x1 21 = x 21) (a5 : x1 22 = x 22) (b0 : m1 75 7 = m 75 7) (b1 : m1 81 = m 81) (b2 : m1 82 = m 82) (b3 : m1 83 = m 83) (b4 : m1 84 = m 84) (b5 : m1 85 = m 85) : rs_cls x1 m1 := by
  unfold rs_cls at *
  rw [a0, a1, a2, a3, a4, a5, b0, b1, b2, b3, b4, b5]
  exact h
theorem rs_ep_kp {x x1 m m1 : ze_H} (h : rs_ep x m) (a1 : ∀ d, d < 4 → x1 (24 + 3 * d) 3 = x (24 + 3 * d) 3 ∧ x1 (24 + 3 * d) 4 = x (24 + 3 * d) 4) (b1 : m1 86 = m 86) (b2 : m1 87 = m 87) : rs_ep x1 m1 := by
  intro d hd
  obtain ⟨f, t, h1, h2, h3, h4, h5, h6, h7⟩ := h d hd
  exact ⟨f, t, h1, h2, h3, by rw [(a1 d hd).1]; exact h4, by rw [b1]; exact h5, by rw [(a1 d hd).2]; exact h6, by rw [b2]; exact h7⟩
theorem rs_got_kp {N : Nat} {x x1 m m1 : ze_H} (h : rs_got N x m) (a1 : ∀ d, d < 5 → x1 (24 + 3 * d) 2 = x (24 + 3 * d) 2 ∧ x1 (24 + 3 * d + 1) = x (24 + 3 * d + 1) ∧ x1 (24 + 3 * d + 2) = x (24 + 3 * d + 2)) (b1 : m1 88 = m 88) (b2 : m1 89 = m 89) (b3 : m1 90 = m 90) : rs_got N x1 m1 := by
  intro d hd
  obtain ⟨g, h1, h2, h3, h4⟩ := h d hd
  refine ⟨g, h1, by rw [(a1 d hd).1]; exact h2, by rw [b1]; exact h3, fun i hi => ?_⟩
  rw [(a1 d hd).2.1, (a1 d hd).2.2, b2, b3]
  exact h4 i hi
theorem rs_txt_kp {x x1 m m1 : ze_H} (h : rs_txt x m) (a1 : x1 1 = x 1) (a2 : x1 3 = x 3) (b1 : m1 77 = m 77) (b2 : m1 76 = m 76) : rs_txt x1 m1 := by
  unfold rs_txt at *
  rw [a1, a2, b1, b2]
  exact h
/-! put -/
theorem nar_c {c : Nat} (h : c < 65536) : vp_nar .char (nI c) = nI c := by
  unfold vp_nar
  rw [(pk_charN h).1]
theorem px_isRoute {j : Nat} (hj : j < 4) (v : ze_H) : f_E_isRoute (nI j) v = some (1, v) := by
  unfold f_E_isRoute
  rw [if_neg (nI_pos (by omega)), if_neg (by rw [i32le, nI_toInt (by omega)]; simp; omega)]
theorem px_isRoute0 {a : Int32} (h : a < 0 ∨ (¬ a < 0 ∧ (4 : Int32) ≤ a)) (v : ze_H) : f_E_isRoute a v = some (0, v) := by
  unfold f_E_isRoute
  rcases h with h | ⟨h, h2⟩
  · rw [if_pos h]
  · rw [if_neg h, if_pos h2]
theorem pm_out {a : Int32} {lo hi : Int32} (h : ¬ a < lo) (h2 : a ≤ hi) (v : ze_H) : f_M_outside a lo hi v = some (0, v) := by
  unfold f_M_outside
  rw [if_neg h, if_pos h2]
theorem pm_out1 {a : Int32} {lo hi : Int32} (h : a < lo ∨ ¬ a ≤ hi) (v : ze_H) : f_M_outside a lo hi v = some (1, v) := by
  unfold f_M_outside
  by_cases h1 : a < lo
  · rw [if_pos h1]
  · rw [if_neg h1, if_neg (h.resolve_left h1)]
theorem sim_put (a : Int32) {c : Nat} (hc : c < 65536) {x m : ze_H} (h : rs_txt x m) : ∃ r x1 m1, f_E_put a (nI c) x = some (r, x1) ∧ f_M_put a (nI c) m = some (r, m1) ∧ rs_txt x1 m1 ∧ (x1 = x ∧ m1 = m ∨ ∃ i y j z, x1 = ze_u (ze_u x 3 i y) 1 j z ∧ ∃ i y, m1 = ze_u (ze_u m 76 i y) 77 j z) := by
  have hc31 : c < 2 ^ 31 := by omega
  rcases ix4 a (n := 4) (M := 4) (by decide) (by decide) with h0 | h0 | ⟨h0, h1, j, hj, rfl⟩
  · refine ⟨0, x, m, ?_, ?_, h, Or.inl ⟨rfl, rfl⟩⟩
    · unfold f_E_put
      rw [px_isRoute0 (Or.inl h0), zcall, if_pos rfl]
    · unfold f_M_put
      rw [pm_out1 (Or.inl h0), zcall, if_neg (by decide)]
  · have h3 : ¬ a ≤ 3 := by
      rw [i32le] at h0 ⊢
      simp at h0 ⊢
      omega
    refine ⟨0, x, m, ?_, ?_, h, Or.inl ⟨rfl, rfl⟩⟩
    · unfold f_E_put
      rw [px_isRoute0 (Or.inr h0), zcall, if_pos rfl]
    · unfold f_M_put
      rw [pm_out1 (Or.inr h3), zcall, if_neg (by decide)]
  · obtain ⟨n, hn, e1, e2, ht, hz⟩ := h j hj
    have h3 : nI j ≤ 3 := by
      rw [i32le, nI_toInt (by omega)]
      simp
      omega
    unfold f_E_put f_M_put
    rw [px_isRoute hj, pm_out h0 h3, zcall, zcall, if_neg (by decide), if_pos rfl]
    by_cases c1 : nI c < 33
    · rw [if_pos c1, if_pos c1]
      exact ⟨0, x, m, rfl, rfl, h, Or.inl ⟨rfl, rfl⟩⟩
    · rw [if_neg c1, if_neg c1]
      by_cases c2 : 126 < nI c
      · rw [if_pos c2, if_pos c2]
        exact ⟨0, x, m, rfl, rfl, h, Or.inl ⟨rfl, rfl⟩⟩
      · rw [if_neg c2, if_neg c2]
        have z4 : ∀ t, ze_in (nI j) 4 t = t := zi_nI hj (by decide)
        have cj : (nI j).toNatClampNeg = j := nI_clamp (by omega)
        simp only [z4, cj, e1, e2]
        by_cases c3 : nI n < 40
        · have hn40 : n < 40 := by
            rw [i32lt, nI_toInt (by omega)] at c3
            simp at c3
            omega
          have b1 : 33 ≤ c := by
            rw [i32lt, nI_toInt hc31] at c1
            simp at c1
            omega
          have b2 : c ≤ 126 := by
            rw [i32lt, nI_toInt hc31] at c2
            simp at c2
            omega
          have m1 : nI j * 41 + nI n = nI (41 * j + n) := by
            rw [show (41 : Int32) = nI 41 from rfl, pk_mul, nI_add, Nat.mul_comm]
          have m2 : 40 * nI j + nI n = nI (40 * j + n) := by
            rw [show (40 : Int32) = nI 40 from rfl, pk_mul, nI_add]
          have z1 : ∀ t, ze_in (nI (41 * j + n)) 164 t = t := zi_nI (by omega) (by decide)
          have z2 : ∀ t, ze_in (nI (40 * j + n)) 160 t = t := zi_nI (by omega) (by decide)
          have k1 : (nI (41 * j + n)).toNatClampNeg = 41 * j + n := nI_clamp (by omega)
          have k2 : (nI (40 * j + n)).toNatClampNeg = 40 * j + n := nI_clamp (by omega)
          rw [if_pos c3, if_pos c3]
          simp only [m1, m2, z1, z2, k1, k2, nar_c hc, zlev]
          have f1 : ze_u x 3 (41 * j + n) (nI c) 1 j = nI n := by rw [zu_k _ _ _ _ (by decide)]; exact e1
          have f2 : ze_u m 76 (40 * j + n) (nI c) 77 j = nI n := by rw [zu_k _ _ _ _ (by decide)]; exact e2
          rw [f1, f2, nI_1]
          refine ⟨1, _, _, rfl, rfl, ?_, Or.inr ⟨_, _, _, _, rfl, _, _, rfl⟩⟩
          intro r hr
          by_cases hrj : r = j
          · subst hrj
            refine ⟨n + 1, hn40, zu_s _ _ _ _, zu_s _ _ _ _, fun i hi => ?_, fun i hi hi2 => ?_⟩
            · by_cases hin : i = n
              · subst hin
                exact ⟨c, b1, b2, by rw [zu_k _ _ _ _ (by decide), zu_s], by rw [zu_k _ _ _ _ (by decide), zu_s]⟩
              · obtain ⟨c', d1, d2, d3, d4⟩ := ht i (by omega)
                exact ⟨c', d1, d2, by rw [zu_k _ _ _ _ (by decide), zu_i _ _ _ _ (by omega)]; exact d3, by rw [zu_k _ _ _ _ (by decide), zu_i _ _ _ _ (by omega)]; exact d4⟩
            · rw [zu_k _ _ _ _ (by decide), zu_i _ _ _ _ (by omega)]
              exact hz i (by omega) hi2
          · obtain ⟨n', q1, q2, q3, q4, q5⟩ := h r hr
            refine ⟨n', q1, by rw [zu_i _ _ _ _ hrj, zu_k _ _ _ _ (by decide)]; exact q2, by rw [zu_i _ _ _ _ hrj, zu_k _ _ _ _ (by decide)]; exact q3, fun i hi => ?_, fun i hi hi2 => ?_⟩
            · obtain ⟨c', d1, d2, d3, d4⟩ := q4 i hi
              exact ⟨c', d1, d2, by rw [zu_k _ _ _ _ (by decide), zu_i _ _ _ _ (by omega)]; exact d3, by rw [zu_k _ _ _ _ (by decide), zu_i _ _ _ _ (by omega)]; exact d4⟩
            · rw [zu_k _ _ _ _ (by decide), zu_i _ _ _ _ (by omega)]
              exact q5 i hi hi2
        · rw [if_neg c3, if_neg c3]
          exact ⟨0, x, m, rfl, rfl, h, Or.inl ⟨rfl, rfl⟩⟩
