/-! clause, fail -/
theorem rng (a : Int32) {lo hi : Int32} {l h : Nat} (el : lo.toInt = (l : Int)) (eh : hi.toInt = (h : Int)) : a < lo ∨ (¬ a < lo ∧ hi < a) ∨ (¬ a < lo ∧ ¬ hi < a ∧ ∃ j, l ≤ j ∧ j ≤ h ∧ a = nI j) := by
  by_cases h0 : a < lo
  · exact Or.inl h0
  · by_cases h1 : hi < a
    · exact Or.inr (Or.inl ⟨h0, h1⟩)
    · refine Or.inr (Or.inr ⟨h0, h1, ?_⟩)
      rw [i32lt, el] at h0
      rw [i32lt, eh] at h1
      obtain ⟨j, hj, e⟩ := nI_of (x := a) (by rw [i32lt]; simp; omega)
      rw [e, nI_toInt hj] at h0 h1
      exact ⟨j, by omega, by omega, e⟩
theorem pm_rg {a lo hi : Int32} (h0 : ¬ a < lo) (h1 : ¬ hi < a) (v : ze_H) : f_M_outside a lo hi v = some (0, v) := pm_out h0 (Int32.not_lt.mp h1) v
theorem pm_rg1 {a lo hi : Int32} (h1 : hi < a) (v : ze_H) : f_M_outside a lo hi v = some (1, v) := pm_out1 (Or.inr (fun q => absurd h1 (Int32.not_lt.mpr q))) v
theorem nar_b {h : Nat} (hh : h ≤ 1) : vp_nar .boolean (nI h) = nI h := by
  rcases (show h = 0 ∨ h = 1 by omega) with rfl | rfl <;> rfl
def cls_x (x : ze_H) (n : Nat) (t a d h o : Int32) : ze_H := ze_u (ze_u (ze_u (ze_u (ze_u (ze_u x 18 n t) 19 n a) 20 n d) 21 n h) 22 n o) 17 5 (nI (n + 1))
def cls_m (m : ze_H) (n : Nat) (t a d h o : Int32) : ze_H := ze_u (ze_u (ze_u (ze_u (ze_u (ze_u m 81 n t) 82 n a) 83 n d) 84 n h) 85 n o) 75 7 (nI (n + 1))
theorem zk (k i : Nat) (y : Int32) (v : ze_H) (k' : Nat) (h : (k' == k) = false) : ze_u v k i y k' = v k' := zu_k _ _ _ _ (by simpa using h)
theorem px_C_add {n : Nat} (hn : n < 4) {h o : Nat} (hh : h ≤ 1) (ho : o ≤ 1) {x : ze_H} (e : x 17 5 = nI n) (t a d : Int32) : f_C_add t a d (nI h) (nI o) x = some (1, cls_x x n t a d (nI h) (nI o)) := by
  have z : ∀ t, ze_in (nI n) 4 t = t := zi_nI hn (by decide)
  have c : (nI n).toNatClampNeg = n := nI_clamp (by omega)
  unfold f_C_add
  rw [if_pos (by rw [e, i32lt, nI_toInt (by omega)]; simp; omega)]
  simp only [zlev, zk 18 _ _ _ 17 rfl, zk 19 _ _ _ 17 rfl, zk 20 _ _ _ 17 rfl, zk 21 _ _ _ 17 rfl, zk 22 _ _ _ 17 rfl, e, z, c, nar_b hh, nar_b ho, nI_1]
  rfl
theorem sim_clause (a1 a2 a3 : Int32) {h o : Nat} (hh : h ≤ 1) (ho : o ≤ 1) {x m : ze_H} (R : rs_cls x m) : ∃ r x1 m1, f_E_clause a1 a2 a3 (nI h) (nI o) x = some (r, x1) ∧ f_M_clause a1 a2 a3 (nI h) (nI o) m = some (r, m1) ∧ rs_cls x1 m1 ∧ (x1 = x ∧ m1 = m ∨ ∃ n t a d h o, x1 = cls_x x n t a d h o ∧ m1 = cls_m m n t a d h o) := by
  unfold f_E_clause f_M_clause f_E_isThrown
  rcases rng a1 (lo := 1) (hi := 7) (l := 1) (h := 7) (by decide) (by decide) with g1 | ⟨g1, g2⟩ | ⟨g1, g2, t, t1, t2, rfl⟩
  · refine ⟨0, x, m, ?_, ?_, R, Or.inl ⟨rfl, rfl⟩⟩
    · rw [if_pos g1, zcall, if_pos rfl]
    · rw [pm_out1 (Or.inl g1), zcall, if_neg (by decide)]
  · refine ⟨0, x, m, ?_, ?_, R, Or.inl ⟨rfl, rfl⟩⟩
    · rw [if_neg g1, if_pos g2, zcall, if_pos rfl]
    · rw [pm_rg1 g2, zcall, if_neg (by decide)]
  rw [if_neg g1, if_neg g2, zcall, if_neg (by decide), pm_rg g1 g2, zcall, if_pos rfl]
  rcases rng a2 (lo := 0) (hi := 5) (l := 0) (h := 5) (by decide) (by decide) with g1 | ⟨g1, g2⟩ | ⟨g1, g2, a, -, a2, rfl⟩
  · refine ⟨0, x, m, ?_, ?_, R, Or.inl ⟨rfl, rfl⟩⟩
    · rw [if_pos g1]
    · rw [pm_out1 (Or.inl g1), zcall, if_neg (by decide)]
  · refine ⟨0, x, m, ?_, ?_, R, Or.inl ⟨rfl, rfl⟩⟩
    · rw [if_neg g1, if_pos g2]
    · rw [pm_rg1 g2, zcall, if_neg (by decide)]
  rw [if_neg g1, if_neg g2, pm_rg g1 g2, zcall, if_pos rfl]
  rcases rng a3 (lo := 0) (hi := 20) (l := 0) (h := 20) (by decide) (by decide) with g1 | ⟨g1, g2⟩ | ⟨g1, g2, d, -, d2, rfl⟩
  · refine ⟨0, x, m, ?_, ?_, R, Or.inl ⟨rfl, rfl⟩⟩
    · rw [if_pos g1]
    · rw [pm_out1 (Or.inl g1), zcall, if_neg (by decide)]
  · refine ⟨0, x, m, ?_, ?_, R, Or.inl ⟨rfl, rfl⟩⟩
    · rw [if_neg g1, if_neg (Int32.not_le.mpr g2)]
    · rw [pm_rg1 g2, zcall, if_neg (by decide)]
  rw [if_neg g1, if_pos (Int32.not_lt.mp g2), pm_rg g1 g2, zcall, if_pos rfl]
  obtain ⟨n, hn, e1, e2, hc⟩ := R
  by_cases hn4 : n < 4
  · have z : ∀ t, ze_in (nI n) 4 t = t := zi_nI hn4 (by decide)
    have c : (nI n).toNatClampNeg = n := nI_clamp (by omega)
    have hlt : nI n < 4 := by rw [i32lt, nI_toInt (by omega)]; simp; omega
    rw [px_C_add hn4 hh ho e1, zcall, e2, if_pos hlt]
    simp only [zlev, zk 81 _ _ _ 75 rfl, zk 82 _ _ _ 75 rfl, zk 83 _ _ _ 75 rfl, zk 84 _ _ _ 75 rfl, zk 85 _ _ _ 75 rfl, e2, z, c, nar_b hh, nar_b ho, nI_1]
    refine ⟨1, _, cls_m m n (nI t) (nI a) (nI d) (nI h) (nI o), rfl, rfl, ?_, Or.inr ⟨n, _, _, _, _, _, rfl, rfl⟩⟩
    refine ⟨n + 1, hn4, zu_s _ _ _ _, zu_s _ _ _ _, fun j hj => ?_⟩
    by_cases hjn : j = n
    · subst hjn
      exact ⟨t, a, d, h, o, t1, t2, a2, d2, hh, ho, zu_s x 18 j (nI t), zu_s m 81 j (nI t), zu_s x 19 j (nI a), zu_s m 82 j (nI a), zu_s x 20 j (nI d), zu_s m 83 j (nI d), zu_s x 21 j (nI h), zu_s m 84 j (nI h), zu_s x 22 j (nI o), zu_s m 85 j (nI o)⟩
    · obtain ⟨t', a', d', h', o', p1, p2, p3, p4, p5, p6, p7, p8, p9, p10, p11, p12, p13, p14, p15, p16⟩ := hc j (by omega)
      exact ⟨t', a', d', h', o', p1, p2, p3, p4, p5, p6, (zu_i x 18 n (nI t) hjn).trans p7, (zu_i m 81 n (nI t) hjn).trans p8, (zu_i x 19 n (nI a) hjn).trans p9, (zu_i m 82 n (nI a) hjn).trans p10, (zu_i x 20 n (nI d) hjn).trans p11, (zu_i m 83 n (nI d) hjn).trans p12, (zu_i x 21 n (nI h) hjn).trans p13, (zu_i m 84 n (nI h) hjn).trans p14, (zu_i x 22 n (nI o) hjn).trans p15, (zu_i m 85 n (nI o) hjn).trans p16⟩
  · have hlt : ¬ nI n < 4 := by rw [i32lt, nI_toInt (by omega)]; simp; omega
    refine ⟨0, x, m, ?_, ?_, ⟨n, hn, e1, e2, hc⟩, Or.inl ⟨rfl, rfl⟩⟩
    · unfold f_C_add
      rw [e1, if_neg hlt, zcall]
      rfl
    · rw [e2, if_neg hlt]
theorem sim_fail (a1 a2 a3 : Int32) {x m : ze_H} (R : rs_ep x m) : ∃ r x1 m1, f_E_fail a1 a2 a3 x = some (r, x1) ∧ f_M_fail a1 a2 a3 m = some (r, m1) ∧ rs_ep x1 m1 ∧ (x1 = x ∧ m1 = m ∨ ∃ j f t, j < 4 ∧ x1 = ze_u (ze_u x (24 + 3 * j) 3 f) (24 + 3 * j) 4 t ∧ m1 = ze_u (ze_u m 86 j f) 87 j t) := by
  unfold f_E_fail f_M_fail f_E_isThrown
  rcases ix4 a1 (n := 4) (M := 4) (by decide) (by decide) with h0 | ⟨h0, h1⟩ | ⟨h0, h1, j, hj, rfl⟩
  · refine ⟨0, x, m, ?_, ?_, R, Or.inl ⟨rfl, rfl⟩⟩
    · rw [if_pos h0]
    · rw [pm_out1 (Or.inl h0), zcall, if_neg (by decide)]
  · have h3 : ¬ a1 ≤ 3 := by
      rw [i32le] at h1 ⊢
      simp at h1 ⊢
      omega
    refine ⟨0, x, m, ?_, ?_, R, Or.inl ⟨rfl, rfl⟩⟩
    · rw [if_neg h0, if_pos h1]
    · rw [pm_out1 (Or.inr h3), zcall, if_neg (by decide)]
  rw [if_neg h0, if_neg h1, pm_out h0 (by rw [i32le, nI_toInt (by omega)]; simp; omega), zcall, if_pos rfl]
  rcases rng a2 (lo := 0) (hi := 9) (l := 0) (h := 9) (by decide) (by decide) with g1 | ⟨g1, g2⟩ | ⟨g1, g2, f, -, f2, rfl⟩
  · refine ⟨0, x, m, ?_, ?_, R, Or.inl ⟨rfl, rfl⟩⟩
    · rw [if_pos g1]
    · rw [pm_out1 (Or.inl g1), zcall, if_neg (by decide)]
  · refine ⟨0, x, m, ?_, ?_, R, Or.inl ⟨rfl, rfl⟩⟩
    · rw [if_neg g1, if_pos g2]
    · rw [pm_rg1 g2, zcall, if_neg (by decide)]
  rw [if_neg g1, if_neg g2, pm_rg g1 g2, zcall, if_pos rfl]
  rcases rng a3 (lo := 1) (hi := 7) (l := 1) (h := 7) (by decide) (by decide) with g1 | ⟨g1, g2⟩ | ⟨g1, g2, t, t1, t2, rfl⟩
  · refine ⟨0, x, m, ?_, ?_, R, Or.inl ⟨rfl, rfl⟩⟩
    · rw [if_pos g1, zcall, if_pos rfl]
    · rw [pm_out1 (Or.inl g1), zcall, if_neg (by decide)]
  · refine ⟨0, x, m, ?_, ?_, R, Or.inl ⟨rfl, rfl⟩⟩
    · rw [if_neg g1, if_pos g2, zcall, if_pos rfl]
    · rw [pm_rg1 g2, zcall, if_neg (by decide)]
  rw [if_neg g1, if_neg g2, zcall, if_neg (by decide), pm_rg g1 g2, zcall, if_pos rfl]
  have z5 : ∀ t, ze_in (nI j) 5 t = t := zi_nI (by omega) (by decide)
  have z4 : ∀ t, ze_in (nI j) 4 t = t := zi_nI hj (by decide)
  have c : (nI j).toNatClampNeg = j := nI_clamp (by omega)
  simp only [z5, z4, c, zlev]
  refine ⟨1, _, _, rfl, rfl, ?_, Or.inr ⟨j, _, _, hj, rfl, rfl⟩⟩
  intro d hd
  by_cases hdj : d = j
  · subst hdj
    exact ⟨f, t, f2, t2, fun _ => t1, by rw [zu_i _ _ _ _ (by decide), zu_s], by rw [zu_k _ _ _ _ (by decide), zu_s], zu_s _ _ _ _, zu_s _ _ _ _⟩
  · obtain ⟨f', t', p1, p2, p3, p4, p5, p6, p7⟩ := R d hd
    exact ⟨f', t', p1, p2, p3, by rw [zu_k _ _ _ _ (by omega), zu_k _ _ _ _ (by omega)]; exact p4, by rw [zu_k _ _ _ _ (by decide), zu_i _ _ _ _ hdj]; exact p5, by rw [zu_k _ _ _ _ (by omega), zu_k _ _ _ _ (by omega)]; exact p6, by rw [zu_i _ _ _ _ hdj, zu_k _ _ _ _ (by decide)]; exact p7⟩
/-! body, key, group -/
theorem nx_xor (a b : Nat) : nI a ^^^ nI b = nI (a ^^^ b) := by
  apply Int32.toBitVec_inj.1
  show BitVec.ofNat 32 a ^^^ BitVec.ofNat 32 b = BitVec.ofNat 32 (a ^^^ b)
  apply BitVec.eq_of_getLsbD_eq
  intro i hi
  simp [hi]
theorem pj_floorMod {q : Nat} (hq : q < 2 ^ 31) (v : ze_H) : f_JM_floorMod (nI q) 8 v = some (nI (q % 8), v) := by
  unfold f_JM_floorMod
  have e : nI q - nI q / 8 * 8 = nI (q % 8) := pk_rem (d := 8) hq (by decide) (by decide)
  have h8 : (0 : Int32) ≤ nI q ^^^ 8 := by
    rw [show (8 : Int32) = nI 8 from rfl, nx_xor]
    exact nI_pos' (Nat.xor_lt_two_pow hq (by decide))
  rw [if_neg (by decide), zlet, e, if_pos h8]
theorem px_slot {N : Nat} (hN : N < 2 ^ 31) {j : Nat} {a1 a2 : Int32} {x m : ze_H} (h : rs_got N x m) : (f_E_isDelivery a1 a2 x = some (0, x) ∧ f_M_slot a1 a2 m = some (-1, m)) ∨ ∃ d k g, d < 5 ∧ k < 8 ∧ k < g ∧ g ≤ N ∧ a1 = nI d ∧ a2 = nI k ∧ x (24 + 3 * d) 2 = nI g ∧ f_E_isDelivery a1 a2 x = some (1, x) ∧ f_M_slot a1 a2 m = some (nI (8 * d + (g - 1 - k) % 8), m) := by
  unfold f_E_isDelivery f_M_slot
  rcases rng a1 (lo := 0) (hi := 4) (l := 0) (h := 4) (by decide) (by decide) with g1 | ⟨g1, g2⟩ | ⟨g1, g2, d, -, d2, rfl⟩
  · left
    exact ⟨by rw [if_pos g1], by rw [pm_out1 (Or.inl g1), zcall, if_neg (by decide)]⟩
  · left
    exact ⟨by rw [if_neg g1, if_pos g2], by rw [pm_rg1 g2, zcall, if_neg (by decide)]⟩
  rw [if_neg g1, if_neg g2, pm_rg g1 g2, zcall, if_pos rfl]
  rcases rng a2 (lo := 0) (hi := 7) (l := 0) (h := 7) (by decide) (by decide) with g1 | ⟨g1, g2⟩ | ⟨g1, g2, k, -, k2, rfl⟩
  · left
    exact ⟨by rw [if_pos g1], by rw [pm_out1 (Or.inl g1), zcall, if_neg (by decide)]⟩
  · left
    have g3 : (8 : Int32) ≤ a2 := by
      rw [i32lt] at g2
      rw [i32le]
      simp at g2 ⊢
      omega
    exact ⟨by rw [if_neg g1, if_pos g3], by rw [pm_rg1 g2, zcall, if_neg (by decide)]⟩
  have g3 : ¬ (8 : Int32) ≤ nI k := by
    rw [i32le, nI_toInt (by omega)]
    simp
    omega
  obtain ⟨g, h1, h2, h3, h4⟩ := h d (by omega)
  have z5 : ∀ t, ze_in (nI d) 5 t = t := zi_nI (by omega) (by decide)
  have c : (nI d).toNatClampNeg = d := nI_clamp (by omega)
  rw [if_neg g1, if_neg g3, pm_rg g1 g2, zcall, if_pos rfl]
  simp only [z5, c, h2, h3]
  by_cases hk : k < g
  · right
    have e1 : ¬ nI g ≤ nI k := nI_ge hk (by omega)
    have e2 : nI k < nI g := nI_lt hk (by omega)
    have e3 : nI g - 1 - nI k = nI (g - 1 - k) := by rw [show (1 : Int32) = nI 1 from rfl, pk_sub (by omega), pk_sub (by omega)]
    refine ⟨d, k, g, by omega, by omega, hk, h1, rfl, rfl, h2, by rw [if_neg e1], ?_⟩
    rw [if_pos e2, if_neg (by decide), e3]
    have e4 : nI (g - 1 - k) - nI (g - 1 - k) / 8 * 8 = nI ((g - 1 - k) % 8) := pk_rem (d := 8) (by omega) (by decide) (by decide)
    rw [e4, show (8 : Int32) = nI 8 from rfl, pk_mul, nI_add]
  · left
    have e1 : nI g ≤ nI k := nI_le (by omega) (by omega)
    have e2 : ¬ nI k < nI g := nI_nlt (by omega) (by omega)
    exact ⟨by rw [if_pos e1], by rw [if_neg e2]⟩
theorem sim_body {N : Nat} (hN : N < 2 ^ 31) (a1 a2 : Int32) {x m : ze_H} (h : rs_got N x m) : ∃ r, f_E_body a1 a2 x = some (r, x) ∧ f_M_body a1 a2 m = some (r, m) := by
  unfold f_E_body f_M_body
  rcases px_slot (j := 0) hN (a1 := a1) (a2 := a2) h with ⟨p1, p2⟩ | ⟨d, k, g, hd, hk, hkg, hg, rfl, rfl, e, p1, p2⟩
  · exact ⟨0, by rw [p1, zcall, if_pos rfl], by rw [p2, zcall, zlet, if_neg (by decide)]⟩
  · have z5 : ∀ t, ze_in (nI d) 5 t = t := zi_nI hd (by decide)
    have c : (nI d).toNatClampNeg = d := nI_clamp (by omega)
    have e3 : nI g - 1 - nI k = nI (g - 1 - k) := by rw [show (1 : Int32) = nI 1 from rfl, pk_sub (by omega), pk_sub (by omega)]
    have hm8 : (g - 1 - k) % 8 < 8 := Nat.mod_lt _ (by decide)
    obtain ⟨g', -, h2, -, h4⟩ := h d hd
    rw [p1, zcall, if_neg (by decide), p2, zcall, zlet, if_pos (nI_pos' (by omega)), zi_nI (by omega) (by decide), nI_clamp (by omega)]
    unfold f_N_slotBefore
    simp only [z5, c, e, e3]
    rw [pj_floorMod (by omega), zcall, zcall, zi_nI hm8 (by decide), nI_clamp (by omega)]
    exact ⟨_, rfl, by rw [(h4 _ hm8).1, zi_nI (by omega) (by decide), nI_clamp (by omega)]⟩
theorem sim_key {N : Nat} (hN : N < 2 ^ 31) (a1 a2 : Int32) {x m : ze_H} (h : rs_got N x m) : ∃ r, f_E_key a1 a2 x = some (r, x) ∧ f_M_key a1 a2 m = some (r, m) := by
  unfold f_E_key f_M_key
  rcases px_slot (j := 0) hN (a1 := a1) (a2 := a2) h with ⟨p1, p2⟩ | ⟨d, k, g, hd, hk, hkg, hg, rfl, rfl, e, p1, p2⟩
  · exact ⟨0, by rw [p1, zcall, if_pos rfl], by rw [p2, zcall, zlet, if_neg (by decide)]⟩
  · have z5 : ∀ t, ze_in (nI d) 5 t = t := zi_nI hd (by decide)
    have c : (nI d).toNatClampNeg = d := nI_clamp (by omega)
    have e3 : nI g - 1 - nI k = nI (g - 1 - k) := by rw [show (1 : Int32) = nI 1 from rfl, pk_sub (by omega), pk_sub (by omega)]
    have hm8 : (g - 1 - k) % 8 < 8 := Nat.mod_lt _ (by decide)
    obtain ⟨g', -, h2, -, h4⟩ := h d hd
    rw [p1, zcall, if_neg (by decide), p2, zcall, zlet, if_pos (nI_pos' (by omega)), zi_nI (by omega) (by decide), nI_clamp (by omega)]
    unfold f_N_slotBefore
    simp only [z5, c, e, e3]
    rw [pj_floorMod (by omega), zcall, zcall, zi_nI hm8 (by decide), nI_clamp (by omega)]
    exact ⟨_, rfl, by rw [(h4 _ hm8).2, zi_nI (by omega) (by decide), nI_clamp (by omega)]⟩
