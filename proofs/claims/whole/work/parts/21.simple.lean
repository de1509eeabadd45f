/-! clear -/
theorem px_clear_loop {j : Nat} (hj : j < 4) (kk : ze_H → Option (Int32 × ze_H)) : ∀ (d n i : Nat) (v : ze_H), i + d = 40 → d < n → ∃ v1 : ze_H, f_E_clear_L11 (nI j) kk n (nI i) v = kk v1 ∧ (∀ k, ¬ k = 3 → v1 k = v k) ∧ ∀ q, v1 3 q = if 41 * j + i ≤ q ∧ q < 41 * j + 40 then 0 else v 3 q
  | 0, 0, i, v, _, h => absurd h (by omega)
  | 0, n + 1, i, v, hi, _ => by
    refine ⟨v, ?_, fun _ _ => rfl, fun q => ?_⟩
    · unfold f_E_clear_L11
      rw [if_pos (by rw [i32le, nI_toInt (by omega)]; simp; omega)]
    · rw [if_neg (by omega)]
  | d + 1, 0, i, v, _, h => absurd h (by omega)
  | d + 1, n + 1, i, v, hi, hn => by
    have m1 : nI j * 41 + nI i = nI (41 * j + i) := by rw [show (41 : Int32) = nI 41 from rfl, pk_mul, nI_add, Nat.mul_comm]
    obtain ⟨v1, e1, e2, e3⟩ := px_clear_loop hj kk d n (i + 1) (ze_u v 3 (41 * j + i) 0) (by omega) (by omega)
    refine ⟨v1, ?_, fun k hk => (e2 k hk).trans (zu_k _ _ _ _ hk), fun q => ?_⟩
    · rw [← e1]
      conv => lhs; unfold f_E_clear_L11
      rw [if_neg (by rw [i32le, nI_toInt (by omega)]; simp; omega), m1, zi_nI (by omega) (by decide), nI_clamp (by omega), zlev, zlet, nI_1, show vp_nar .char 0 = 0 from rfl]
    · rw [e3 q]
      by_cases hq : q = 41 * j + i
      · subst hq
        rw [if_neg (by omega), zu_s, if_pos (by omega)]
      · rw [zu_i _ _ _ _ hq]
        by_cases c : 41 * j + (i + 1) ≤ q ∧ q < 41 * j + 40
        · rw [if_pos c, if_pos (by omega)]
        · rw [if_neg c, if_neg (by omega)]
theorem sim_clear (a : Int32) {x m : ze_H} (h : rs_txt x m) : ∃ r x1 m1, f_E_clear a x = some (r, x1) ∧ f_M_clear a m = some (r, m1) ∧ rs_txt x1 m1 ∧ (∀ k, ¬ k = 3 → ¬ k = 1 → x1 k = x k) ∧ (∀ k, ¬ k = 77 → m1 k = m k) := by
  rcases ix4 a (n := 4) (M := 4) (by decide) (by decide) with h0 | h0 | ⟨h0, h1, j, hj, rfl⟩
  · refine ⟨0, x, m, ?_, ?_, h, fun _ _ _ => rfl, fun _ _ => rfl⟩
    · unfold f_E_clear
      rw [px_isRoute0 (Or.inl h0), zcall, if_pos rfl]
    · unfold f_M_clear
      rw [pm_out1 (Or.inl h0), zcall, if_neg (by decide)]
  · have h3 : ¬ a ≤ 3 := by
      rw [i32le] at h0 ⊢
      simp at h0 ⊢
      omega
    refine ⟨0, x, m, ?_, ?_, h, fun _ _ _ => rfl, fun _ _ => rfl⟩
    · unfold f_E_clear
      rw [px_isRoute0 (Or.inr h0), zcall, if_pos rfl]
    · unfold f_M_clear
      rw [pm_out1 (Or.inr h3), zcall, if_neg (by decide)]
  · have h3 : nI j ≤ 3 := by
      rw [i32le, nI_toInt (by omega)]
      simp
      omega
    unfold f_E_clear f_M_clear
    rw [px_isRoute hj, pm_out h0 h3, zcall, zcall, if_neg (by decide), if_pos rfl, zlet, zi_nI hj (by decide), nI_clamp (by omega), zlev]
    obtain ⟨v1, e1, e2, e3⟩ := px_clear_loop hj (fun v6 => ze_in (nI j) 4 (ze_lev (ze_u v6 1 j 0) (fun v7 => some (1, v7)))) 40 200000 0 x (by omega) (by omega)
    rw [nI_0] at e1
    rw [e1, zi_nI hj (by decide), zlev]
    refine ⟨1, _, _, rfl, rfl, ?_, fun k hk hk1 => (zu_k _ _ _ _ hk1).trans (e2 k hk), fun k hk => zu_k _ _ _ _ hk⟩
    intro r hr
    by_cases hrj : r = j
    · subst hrj
      refine ⟨0, by omega, zu_s _ _ _ _, zu_s _ _ _ _, fun i hi => absurd hi (by omega), fun i _ hi => ?_⟩
      rw [zu_k _ _ _ _ (by decide), e3]
      by_cases c : i < 40
      · rw [if_pos (by omega)]
      · rw [if_neg (by omega)]
        obtain ⟨n, q1, q2, q3, q4, q5⟩ := h r hr
        exact q5 i (by omega) hi
    · obtain ⟨n', q1, q2, q3, q4, q5⟩ := h r hr
      refine ⟨n', q1, by rw [zu_i _ _ _ _ hrj, e2 1 (by decide)]; exact q2, by rw [zu_i _ _ _ _ hrj]; exact q3, fun i hi => ?_, fun i hi hi2 => ?_⟩
      · obtain ⟨c', d1, d2, d3, d4⟩ := q4 i hi
        exact ⟨c', d1, d2, by rw [zu_k _ _ _ _ (by decide), e3, if_neg (by omega)]; exact d3, by rw [zu_k _ _ _ _ (by decide)]; exact d4⟩
      · rw [zu_k _ _ _ _ (by decide), e3, if_neg (by omega)]
        exact q5 i hi hi2
/-! forget, delivered -/
theorem sim_forget {x m : ze_H} : f_E_forget x = some (0, ze_u x 17 5 0) ∧ f_M_forget m = some (0, ze_u m 75 7 0) ∧ rs_cls (ze_u x 17 5 0) (ze_u m 75 7 0) :=
  ⟨rfl, rfl, 0, by omega, zu_s _ _ _ _, zu_s _ _ _ _, fun j hj => absurd hj (by omega)⟩
theorem sim_delivered (a : Int32) {N : Nat} {x m : ze_H} (h : rs_got N x m) : ∃ r, f_E_delivered a x = some (r, x) ∧ f_M_delivered a m = some (r, m) := by
  rcases ix4 a (n := 5) (M := 5) (by decide) (by decide) with h0 | ⟨h0, h1⟩ | ⟨h0, h1, j, hj, rfl⟩
  · refine ⟨-1, ?_, ?_⟩
    · unfold f_E_delivered
      rw [if_pos h0]
    · unfold f_M_delivered
      rw [pm_out1 (Or.inl h0), zcall, if_neg (by decide)]
  · have h4 : 4 < a := by
      rw [i32le] at h1
      rw [i32lt]
      simp at h1 ⊢
      omega
    refine ⟨-1, ?_, ?_⟩
    · unfold f_E_delivered
      rw [if_neg h0, if_pos h4]
    · unfold f_M_delivered
      rw [pm_out1 (Or.inr (by rw [i32le]; rw [i32lt] at h4; omega)), zcall, if_neg (by decide)]
  · obtain ⟨g, g1, g2, g3, -⟩ := h j hj
    refine ⟨nI g, ?_, ?_⟩
    · unfold f_E_delivered
      rw [if_neg h0, if_neg (by rw [i32lt, nI_toInt (by omega)]; simp; omega), zi_nI hj (by decide), nI_clamp (by omega), g2]
    · unfold f_M_delivered
      rw [pm_out h0 (by rw [i32le, nI_toInt (by omega)]; simp; omega), zcall, if_pos rfl, zi_nI hj (by decide), nI_clamp (by omega), g3]
