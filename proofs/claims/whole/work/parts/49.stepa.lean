/-! PURE: the step a -/
section GB
variable {n : Nat → Nat} {T : Nat → Nat → Nat} {tb x m : ze_H} {G R a r p q e l : Nat}
/-- the reference's release, cell by cell -/
theorem m_rel {g i t : Nat} (hg : g ≤ 120) (hi : i < g) (ht : t < 420) (e22 : m 75 22 = nI g) (e36 : m 75 36 = nI t) : ∃ m2, f_M_release (nI i) m = some (0, m2) ∧ ∀ k j, m2 k j = if 94 ≤ k ∧ k ≤ 99 ∧ i ≤ j ∧ j < g - 1 then m k (j + 1) else if k = 75 ∧ j = 22 then nI (g - 1) else if k = 75 ∧ j = 36 then nI (t + 1) else if k = 107 ∧ j = t then m 95 i else if k = 106 ∧ j = t then m 96 i else if k = 105 ∧ j = t then m 99 i else m k j := by
  obtain ⟨m2, s1, s2⟩ := rm_m hg (by omega) (fun v12 => some (0, v12)) (g - 1 - i) i 200000 (ze_u (ze_u (ze_u (ze_u (ze_u m 105 t (m 99 i)) 106 t (m 96 i)) 107 t (m 95 i)) 75 36 (nI (t + 1))) 75 22 (nI (g - 1))) (zu_s _ _ _ _) (by omega) (by omega)
  refine ⟨m2, ?_, fun k j => ?_⟩
  · unfold f_M_release f_M_makeReady
    rw [nI_clamp (by omega), zi_nI (by omega) (by omega), zi_nI (by omega) (by omega), zi_nI (by omega) (by omega), e36]
    simp (disch := omega) only [zi_N, nI_clamp, zlvN, zleN, zcaN, zu_n, e36, e22, nI_1, show nI g - 1 = nI (g - 1) from pk_sub (b := 1) (by omega)]
    exact s1
  · rw [s2]
    by_cases c : 94 ≤ k ∧ k ≤ 99 ∧ i ≤ j ∧ j < g - 1
    · rw [if_pos c, if_pos c]
      simp (disch := omega) only [zu_n]
    · rw [if_neg c, if_neg c, zu_at, zu_at, zu_at, zu_at, zu_at]
theorem m_rel_cup {g i t : Nat} (hg : g ≤ 120) (hi : i < g) (ht : t < 420) (e22 : m 75 22 = nI g) (e36 : m 75 36 = nI t) {m1 : ze_H} (h : f_M_release (nI i) (cup 3 m) = some (0, m1)) : ∃ m2, f_M_release (nI i) m = some (0, m2) ∧ m1 = cup 3 m2 := by
  obtain ⟨m2, a1, a2⟩ := m_rel hg hi ht e22 e36
  obtain ⟨m3, b1, b2⟩ := m_rel (m := cup 3 m) hg hi ht (by rw [cup_n (by omega)]; exact e22) (by rw [cup_n (by omega)]; exact e36)
  rw [b1] at h
  injection h with h
  injection h with _ h
  refine ⟨m2, a1, ?_⟩
  rw [← h]
  funext k j
  by_cases c : k = 119 ∧ j = 3
  · rw [b2, c.1, c.2, if_neg (by omega), if_neg (by omega), if_neg (by omega), if_neg (by omega), if_neg (by omega), if_neg (by omega), cup_s (by omega), zu_s, cup_s (by omega), zu_s, a2, if_neg (by omega), if_neg (by omega), if_neg (by omega), if_neg (by omega), if_neg (by omega), if_neg (by omega)]
  · have e : ∀ k j, ¬ (k = 119 ∧ j = 3) → cup 3 m k j = m k j := fun k j hk => by rw [cup_s (by omega), zu_n _ _ _ _ hk]
    have e2 : cup 3 m2 k j = m2 k j := by rw [cup_s (by omega), zu_n _ _ _ _ c]
    rw [e2, b2, a2, e 95 i (by omega), e 96 i (by omega), e 99 i (by omega), e k j c]
    by_cases c1 : 94 ≤ k ∧ k ≤ 99 ∧ i ≤ j ∧ j < g - 1
    · rw [if_pos c1, if_pos c1, e k (j + 1) (by omega)]
    · rw [if_neg c1, if_neg c1]
/-- a member joins group c of the step at (r, p) -/
theorem g_join (pr : PR n T tb) {g c : Nat} (h : RS n T tb G R a x m) (hR : R + 1 ≤ 401) (he : e < 16) (hl : l < 16) (hE : EX e l x m) (hr : r < 4) (hv : v97 (T r) p) (t11 : tb 11 (41 * r + p) = nI (nv (T r) (p + 1))) (e47 : x 47 5 = nI g) (hg : g ≤ 120) (hc : c < g) (h48 : x 48 c = nI (41 * r + p)) :
    ∃ x1 m1, f_E_gather_J45 (58 + e) (nI (41 * r + p)) (nI c) x = some (0, x1) ∧ f_M_gather_J200 (nI (nv (T r) (p + 1))) (nI c) m = some (0, m1) ∧ RS n T tb G (R + 1) a x1 (cup 3 m1) ∧ m1 75 56 = nI 3 ∧ x1 (58 + e) 3 = nI 3 ∧ (∀ k i, (58 ≤ k ∧ k ≤ 73 ∧ k ≠ 58 + e) → x1 k i = x k i) ∧ (∀ k i, (111 ≤ k ∧ k ≤ 118 ∨ 108 ≤ k ∧ k ≤ 110 ∨ k = 75 ∧ (i = 35 ∨ i = 40 ∨ i = 44 ∨ i = 53)) → m1 k i = m k i) := by
  have hz := (pr r hr).1
  have h40 := hz.1
  have hvl := v97_lt hz hv
  obtain ⟨x0, x1, x2, x3, x4⟩ := hE
  have hh := h
  obtain ⟨h1, h2, h3, h4, h5, h6, h7, h8, h9, h10, h11, h12⟩ := hh
  obtain ⟨g', q1, q2, q3, q4, q5, q6⟩ := h8
  have hgg : g' = g := by
    have : nI g' = nI g := by rw [← q2, e47]
    rw [nI_eq (by omega) (by omega)] at this
    exact this
  subst hgg
  obtain ⟨r', p', b, w1, w2, w3, w4, w5, w6, w7, w8, w9, w10, w11, w12, w13⟩ := q4 c hc
  rw [if_neg (by omega)] at w5
  have hz' := (pr r' w1).1
  have hvl' := v97_lt hz' w2
  have hz40 := hz'.1
  have hrp : r' = r ∧ p' = p := by
    have : nI (41 * r' + p') = nI (41 * r + p) := by rw [← w6, h48]
    rw [nI_eq (by omega) (by omega)] at this
    omega
  obtain ⟨rfl, rfl⟩ := hrp
  have hx8 : ∀ k i, ¬ ((k = 50 ∨ k = 51) ∧ i = c) → ze_u (ze_u x 50 c (x 50 c + x (58 + e) 0)) 51 c (nI (b + 1)) k i = x k i := fun k i hk => by rw [zu_n _ _ _ _ (by omega), zu_n _ _ _ _ (by omega)]
  have hm8 : ∀ k i, ¬ ((k = 96 ∨ k = 97) ∧ i = c) → ze_u (ze_u m 96 c (m 96 c + m 108 l)) 97 c (nI (b + 1)) k i = m k i := fun k i hk => by rw [zu_n _ _ _ _ (by omega), zu_n _ _ _ _ (by omega)]
  have ex : f_E_gather_J45 (58 + e) (nI (41 * r' + p')) (nI c) x = ze_call (f_E_end (58 + e) (nI 3) (ze_u (ze_u x 50 c (x 50 c + x (58 + e) 0)) 51 c (nI (b + 1)))) (fun r9 v10 => if v10 51 c < v10 11 (41 * r' + p') then some (0, v10) else ze_call (f_E_release (nI c) v10) (fun r11 v12 => some (0, v12))) := by
    unfold f_E_gather_J45
    rw [if_neg (show ¬ nI c = -1 by rw [m1_l, nI_m1P (by omega)]; exact id)]
    simp (disch := omega) only [zi_N, nI_clamp, zlvN, zu_n, w10, nI_1]
    rfl
  have em : f_M_gather_J200 (nI (nv (T r') (p' + 1))) (nI c) m = if nI (b + 1) = nI (nv (T r') (p' + 1)) then ze_call (f_M_release (nI c) (ze_u (ze_u m 96 c (m 96 c + m 108 l)) 97 c (nI (b + 1)))) (fun r24 v25 => ze_lev (ze_u v25 75 56 3) (fun v26 => some (0, v26))) else ze_lev (ze_u (ze_u (ze_u m 96 c (m 96 c + m 108 l)) 97 c (nI (b + 1))) 75 56 3) (fun v27 => some (0, v27)) := by
    unfold f_M_gather_J200
    rw [x4]
    simp (disch := omega) only [zi_N, nI_clamp, zlvN, zu_n, zu_s, w11, nI_1]
  have R8 : RSx c n T tb G R a (ze_u (ze_u x 50 c (x 50 c + x (58 + e) 0)) 51 c (nI (b + 1))) (ze_u (ze_u m 96 c (m 96 c + m 108 l)) 97 c (nI (b + 1))) := by
    refine ⟨kp_tab h1 (fun k i hk => hx8 k i (by omega)), kp_mt h2 (fun k i hk => hm8 k i (by omega)), kp_cnt h3 (fun k i hk => hx8 k i (by omega)) (fun k i hk => hm8 k i (by omega)), kp_cls h4 (fun k i hk => hx8 k i (by omega)) (fun k i hk => hm8 k i (by omega)), kp_ep h5 (fun k i hk => hx8 k i (by omega)) (fun k i hk => hm8 k i (by omega)), kp_got h6 (fun k i hk => hx8 k i (by omega)) (fun k i hk => hm8 k i (by omega)), kp_que h7 (fun k i hk => hx8 k i (by omega)) (fun k i hk => hm8 k i (by omega)), ⟨g', q1, by rw [hx8 _ _ (by omega)]; exact q2, by rw [hm8 _ _ (by omega)]; exact q3, fun i hi => ?_, fun y => by rw [cntI_kp (g := x 48) g' (fun i _ => hx8 48 i (by omega))]; exact q5 y, fun i j hi hj => by rw [hx8 48 i (by omega), hx8 48 j (by omega), hx8 49 i (by omega), hx8 49 j (by omega)]; exact q6 i j hi hj⟩, kp_i h9 (fun k i hk => hx8 k i (by omega)) (fun k i hk => hm8 k i (by omega)), kp_q h10 (fun k i hk => hx8 k i (by omega)) (fun k i hk => hm8 k i (by omega)), kp_rdy h11 (Nat.le_refl _) (fun k i hk => hx8 k i (by omega)) (fun k i hk => hm8 k i (by omega)), kp_att h12 (fun k i hk => hx8 k i (by omega)) (fun k i hk => hm8 k i (by omega))⟩
    by_cases ci : i = c
    · subst ci
      refine ⟨r', p', b + 1, w1, w2, w3, w4, by rw [if_pos rfl]; omega, ?_, ?_, ?_, ?_, zu_s _ _ _ _, zu_s _ _ _ _, ?_, ?_⟩
      · rw [hx8 _ _ (by omega)]
        exact w6
      · rw [hm8 _ _ (by omega)]
        exact w7
      · rw [hx8 _ _ (by omega), hm8 _ _ (by omega)]
        exact w8
      · rw [zu_n _ _ _ _ (by omega), zu_s, zu_n _ _ _ _ (by omega), zu_s, w9, x0]
      · rw [hx8 _ _ (by omega), hm8 _ _ (by omega)]
        exact w12
      · rw [hm8 _ _ (by omega)]
        exact w13
    · obtain ⟨r2, p2, b2, z1, z2, z3, z4, z5, z6, z7, z8, z9, z10, z11, z12, z13⟩ := q4 i hi
      rw [if_neg (by omega)] at z5
      refine ⟨r2, p2, b2, z1, z2, z3, z4, by rw [if_neg ci]; exact z5, ?_, ?_, ?_, ?_, ?_, ?_, ?_, ?_⟩
      · rw [hx8 _ _ (by omega)]
        exact z6
      · rw [hm8 _ _ (by omega)]
        exact z7
      · rw [hx8 _ _ (by omega), hm8 _ _ (by omega)]
        exact z8
      · rw [hx8 _ _ (by omega), hm8 _ _ (by omega)]
        exact z9
      · rw [hx8 _ _ (by omega)]
        exact z10
      · rw [hm8 _ _ (by omega)]
        exact z11
      · rw [hx8 _ _ (by omega), hm8 _ _ (by omega)]
        exact z12
      · rw [hm8 _ _ (by omega)]
        exact z13
  have h51 : ze_u (ze_u x 50 c (x 50 c + x (58 + e) 0)) 51 c (nI (b + 1)) 51 c = nI (b + 1) := zu_s _ _ _ _
  have h48' : ze_u (ze_u x 50 c (x 50 c + x (58 + e) 0)) 51 c (nI (b + 1)) 48 c = nI (41 * r' + p') := by rw [hx8 _ _ (by omega)]; exact w6
  have e11 : ze_u (ze_u x 50 c (x 50 c + x (58 + e) 0)) 51 c (nI (b + 1)) 11 (41 * r' + p') = nI (nv (T r') (p' + 1)) := by
    rw [hx8 _ _ (by omega), h1 11 _ (by omega) (by omega)]
    exact t11
  have e22 : ze_u (ze_u m 96 c (m 96 c + m 108 l)) 97 c (nI (b + 1)) 75 22 = nI g' := by rw [hm8 _ _ (by omega)]; exact q3
  have e47' : ze_u (ze_u x 50 c (x 50 c + x (58 + e) 0)) 51 c (nI (b + 1)) 47 5 = nI g' := by rw [hx8 _ _ (by omega)]; exact q2
  obtain ⟨f0, s0, b0, y1, y2, y3, y4, y5, y6, y7, -⟩ := h11
  have e36 : ze_u (ze_u m 96 c (m 96 c + m 108 l)) 97 c (nI (b + 1)) 75 36 = nI (b0 + s0) := by rw [hm8 _ _ (by omega)]; exact y7
  rw [ex, em]
  have hxo : ∀ k i, (58 ≤ k ∧ k ≤ 73) → ze_u (ze_u x 50 c (x 50 c + x (58 + e) 0)) 51 c (nI (b + 1)) k i = x k i := fun k i hk => hx8 k i (by omega)
  have hmo : ∀ k i, (111 ≤ k ∧ k ≤ 118 ∨ 108 ≤ k ∧ k ≤ 110 ∨ k = 75 ∧ (i = 35 ∨ i = 40 ∨ i = 44 ∨ i = 53)) → ze_u (ze_u m 96 c (m 96 c + m 108 l)) 97 c (nI (b + 1)) k i = m k i := fun k i hk => hm8 k i (by omega)
  generalize ze_u (ze_u x 50 c (x 50 c + x (58 + e) 0)) 51 c (nI (b + 1)) = x8 at R8 h51 h48' e11 e47' hxo ⊢
  generalize ze_u (ze_u m 96 c (m 96 c + m 108 l)) 97 c (nI (b + 1)) = m8 at R8 e22 e36 hmo ⊢
  rw [px_end (by omega) x8 he, zcall, zu_n _ _ _ _ (by omega), zu_n _ _ _ _ (by omega), h51, zu_n _ _ _ _ (by omega), zu_n _ _ _ _ (by omega), e11]
  have R10 := RS_end (e := e) (oc := 3) R8 he (by omega) (by omega)
  have hx10 : ∀ k i, (58 ≤ k ∧ k ≤ 73 ∧ k ≠ 58 + e) → ze_u (ze_u x8 (58 + e) 3 (nI 3)) 74 3 (x8 74 3 + 1) k i = x k i := fun k i hk => by rw [zu_n _ _ _ _ (by omega), zu_n _ _ _ _ (by omega), hxo k i (by omega)]
  have h3' : ze_u (ze_u x8 (58 + e) 3 (nI 3)) 74 3 (x8 74 3 + 1) (58 + e) 3 = nI 3 := by rw [zu_n _ _ _ _ (by omega), zu_s]
  have h51'' : ze_u (ze_u x8 (58 + e) 3 (nI 3)) 74 3 (x8 74 3 + 1) 51 c = nI (b + 1) := by rw [zu_n _ _ _ _ (by omega), zu_n _ _ _ _ (by omega)]; exact h51
  have h48'' : ze_u (ze_u x8 (58 + e) 3 (nI 3)) 74 3 (x8 74 3 + 1) 48 c = nI (41 * r' + p') := by rw [zu_n _ _ _ _ (by omega), zu_n _ _ _ _ (by omega)]; exact h48'
  have e47'' : ze_u (ze_u x8 (58 + e) 3 (nI 3)) 74 3 (x8 74 3 + 1) 47 5 = nI g' := by rw [zu_n _ _ _ _ (by omega), zu_n _ _ _ _ (by omega)]; exact e47'
  generalize ze_u (ze_u x8 (58 + e) 3 (nI 3)) 74 3 (x8 74 3 + 1) = x10 at R10 hx10 h3' e47'' h51'' h48'' ⊢
  by_cases cb : b + 1 < nv (T r') (p' + 1)
  · rw [if_pos (nI_lt cb (by omega)), if_neg (show ¬ nI (b + 1) = nI (nv (T r') (p' + 1)) by rw [nI_eqP (by omega) (by omega)]; omega), zlev]
    refine ⟨x10, _, rfl, rfl, ?_, by rw [zu_s]; rfl, h3', hx10, fun k i hk => by rw [zu_n _ _ _ _ (by omega)]; exact hmo k i hk⟩
    have R11 : RS n T tb G R a x10 (cup 3 m8) := by
      obtain ⟨k1, k2, k3, k4, k5, k6, k7, k8, k9, k10, k11, k12⟩ := R10
      refine ⟨k1, k2, k3, k4, k5, k6, k7, ?_, k9, k10, k11, k12⟩
      obtain ⟨g2, u1, u2, u3, u4, u5, u6⟩ := k8
      refine ⟨g2, u1, u2, u3, fun i hi => ?_, u5, u6⟩
      obtain ⟨r2, p2, b2, z1, z2, z3, z4, z5, z6, z7, z8, z9, z10, z11⟩ := u4 i hi
      refine ⟨r2, p2, b2, z1, z2, z3, z4, ?_, z6, z7, z8, z9, z10, z11⟩
      rw [if_neg (show ¬ i = 1000 by omega)]
      by_cases ci : i = c
      · subst ci
        have hz2 := (pr r2 z1).1
        have hvl2 := v97_lt hz2 z2
        have hz240 := hz2.1
        have e1 : nI (41 * r2 + p2) = nI (41 * r' + p') := by rw [← z6, h48'']
        rw [nI_eq (by omega) (by omega)] at e1
        have e2 : r2 = r' ∧ p2 = p' := by omega
        obtain ⟨rfl, rfl⟩ := e2
        have e3 : nI b2 = nI (b + 1) := by rw [← z10, h51'']
        rw [if_pos rfl] at z5
        rw [nI_eq (by omega) (by omega)] at e3
        omega
      · rw [if_neg ci] at z5
        exact z5
    exact RS_kp (RS_mono R11 (Nat.le_refl _) (by omega)) (fun k i hk => rfl) (fun k i c1 c2 => by
      by_cases c3 : k = 119 ∧ i = 3
      · rw [c3.1, c3.2, cup_s (by omega), zu_s, zu_n _ _ _ _ (by omega), cup_s (by omega), zu_s]
      · rw [cup_s (by omega), zu_n _ _ _ _ c3, zu_n _ _ _ _ (by omega), cup_s (by omega), zu_n _ _ _ _ c3])
  · have hbn : b + 1 = nv (T r') (p' + 1) := by omega
    rw [if_neg (nI_nlt (by omega) (by omega)), if_pos (by rw [hbn])]
    obtain ⟨x11, m11, k1, k2, k3, k4, k5⟩ := sim_release pr R10 (Or.inr rfl) hR e47'' hg hc
    obtain ⟨m12, j1, j2⟩ := m_rel_cup hg hc (by omega) e22 e36 k2
    rw [k1, zcall, j1, zcall, zlev]
    refine ⟨x11, _, rfl, rfl, ?_, by rw [zu_s]; rfl, by rw [k4 _ _ (by omega)]; exact h3', fun k i hk => by rw [k4 k i (by omega)]; exact hx10 k i hk, fun k i hk => ?_⟩
    · rw [j2] at k3
      exact RS_kp k3 (fun k i hk => rfl) (fun k i c1 c2 => by
        by_cases c3 : k = 119 ∧ i = 3
        · rw [c3.1, c3.2, cup_s (by omega), zu_s, zu_n _ _ _ _ (by omega), cup_s (by omega), zu_s]
        · rw [cup_s (by omega), zu_n _ _ _ _ c3, zu_n _ _ _ _ (by omega), cup_s (by omega), zu_n _ _ _ _ c3])
    · rw [zu_n _ _ _ _ (by omega)]
      have h5' := k5 k i (by omega) (by omega) (by omega)
      rw [j2, cup_n (by omega), cup_n (by omega)] at h5'
      rw [h5']
      exact hmo k i hk
end GB
