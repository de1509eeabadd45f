/-! PURE: the step q, whole -/
section HQ
variable {n : Nat → Nat} {T : Nat → Nat → Nat} {tb x m : ze_H} {G R a r p q e l : Nat}
theorem rs_q_mk {R1 sp : Nat} {xf mf : ze_H} (pr : PR n T tb) (h : RS n T tb G R a x m) (he : e < 16) (hr : r < 4) (hv : v113 (T r) p) (hsp : sp = 41 * r + p)
    (hx : ∀ k i, ¬ (k = 54 ∧ i = sp) → ¬ ((k = 55 ∨ k = 56) ∧ 4 * sp ≤ i ∧ i < 4 * sp + 4) → ¬ (k = 0 ∧ i = 14) → ¬ (k = 58 + e ∧ i = 3) → ¬ (k = 74 ∧ i = 3) → ¬ (43 ≤ k ∧ k ≤ 46) → xf k i = x k i)
    (hm : ∀ k i, ¬ (k = 75 ∧ (i = 29 ∨ i = 36 ∨ i = 54 ∨ i = 55 ∨ i = 56)) → ¬ (100 ≤ k ∧ k ≤ 102) → ¬ (105 ≤ k ∧ k ≤ 107) → mf k i = m k i)
    (h74 : xf 74 3 = x 74 3 + 1) (kq : k_q T xf mf) (ry : r_rdy n T tb R1 xf mf) : RS n T tb G R1 a xf (cup 3 mf) := by
  have hz := (pr r hr).1
  have h40 := hz.1
  have hvl := v113_lt hz hv
  obtain ⟨h1, h2, h3, h4, h5, h6, h7, h8, h9, h10, h11, h12⟩ := h
  have hc : ∀ k i, ¬ k = 119 → cup 3 mf k i = mf k i := fun k i hk => cup_n hk
  have hx' : ∀ k i, ¬ (k = 54) → ¬ (k = 55 ∨ k = 56) → ¬ (k = 0 ∧ i = 14) → ¬ (58 ≤ k ∧ k ≤ 74) → ¬ (43 ≤ k ∧ k ≤ 46) → xf k i = x k i := fun k i c1 c2 c3 c4 c5 => hx k i (by omega) (by omega) (by omega) (by omega) (by omega) (by omega)
  have hm' : ∀ k i, ¬ k = 119 → ¬ (k = 75 ∧ (i = 29 ∨ i = 36 ∨ i = 54 ∨ i = 55 ∨ i = 56)) → ¬ (100 ≤ k ∧ k ≤ 102) → ¬ (105 ≤ k ∧ k ≤ 107) → cup 3 mf k i = m k i := fun k i c0 c1 c2 c3 => by rw [hc k i c0, hm k i c1 c2 c3]
  refine ⟨kp_tab h1 (fun k i hk => hx' k i (by omega) (by omega) (by omega) (by omega) (by omega)), kp_mt h2 (fun k i hk => hm' k i (by omega) (by omega) (by omega) (by omega)), ⟨fun k hk => ?_, ?_, ?_⟩, kp_cls h4 (fun k i hk => hx' k i (by omega) (by omega) (by omega) (by omega) (by omega)) (fun k i hk => hm' k i (by omega) (by omega) (by omega) (by omega)), kp_ep h5 (fun k i hk => hx' k i (by omega) (by omega) (by omega) (by omega) (by omega)) (fun k i hk => hm' k i (by omega) (by omega) (by omega) (by omega)), kp_got h6 (fun k i hk => hx' k i (by omega) (by omega) (by omega) (by omega) (by omega)) (fun k i hk => hm' k i (by omega) (by omega) (by omega) (by omega)), kp_que h7 (fun k i hk => hx' k i (by omega) (by omega) (by omega) (by omega) (by omega)) (fun k i hk => hm' k i (by omega) (by omega) (by omega) (by omega)), kp_grp h8 (fun k i hk => hx' k i (by omega) (by omega) (by omega) (by omega) (by omega)) (fun k i hk => hm' k i (by omega) (by omega) (by omega) (by omega)), kp_i2 h9 (fun r' p' hr' hp' hT' => ?_) (fun k i hk => hm' k i (by omega) (by omega) (by omega) (by omega)), kp_q kq (fun k i hk => rfl) (fun k i hk => hc k i (by omega)), kp_rdy ry (Nat.le_refl _) (fun k i hk => rfl) (fun k i hk => hc k i (by omega)), kp_att h12 (fun k i hk => hx' k i (by omega) (by omega) (by omega) (by omega) (by omega)) (fun k i hk => hm' k i (by omega) (by omega) (by omega) (by omega))⟩
  · rw [cup_s (by omega)]
    by_cases c : k = 3
    · subst c
      rw [h74, zu_s, hm 119 3 (by omega) (by omega) (by omega), h3.1 3 (by omega)]
    · rw [zu_n _ _ _ _ (by omega), hm 119 k (by omega) (by omega) (by omega), hx 74 k (by omega) (by omega) (by omega) (by omega) (by omega) (by omega)]
      exact h3.1 k hk
  · rw [hx' 0 13 (by omega) (by omega) (by omega) (by omega) (by omega), hm' 75 58 (by omega) (by omega) (by omega) (by omega)]
    exact h3.2.1
  · rw [hx' 0 15 (by omega) (by omega) (by omega) (by omega) (by omega), hm' 75 59 (by omega) (by omega) (by omega) (by omega)]
    exact h3.2.2
  · have hz' := (pr r' hr').1
    have hne : ¬ (r = r' ∧ p = p') := fun cc => by
      obtain ⟨rfl, rfl⟩ := cc
      have := hv.1
      omega
    have hb := blk h40 hz'.1 (show p < n r by omega) hp' hne
    exact ⟨hx _ _ (by omega) (by omega) (by omega) (by omega) (by omega) (by omega), fun j hj => hx _ _ (by omega) (by omega) (by omega) (by omega) (by omega) (by omega)⟩
theorem lf_113 (pr : PR n T tb) (h : RS n T tb G R a x m) (hR : R + 4 ≤ 401) (A : AT n T tb r p e l x m) (hv : v113 (T r) p) (hls : lsx n T tb r (ne (T r) (p + 1))) (t11 : tb 11 (41 * r + p) = nI (nv (T r) (p + 1))) (t15 : tb 15 (41 * r + p) = nI (41 * r + ne (T r) (p + 1))) (RC : Nat → Int32 → Int32 → ze_H → Option (Int32 × ze_H)) (b3 : Int32) : LF n T tb G (R + 4) a r p q e l x m (f_E_attempt RC (58 + e) (nI (41 * r + p)) b3 x) (f_M_act (nI 113) m) := by
  have h10 := xa_at h A
  have A0 := A
  obtain ⟨hr, he, hl', hz, hp, -, hE, h53, h54, h56⟩ := A0
  obtain ⟨x0, x1', x2', x3', x4⟩ := hE
  have h40 := hz.1
  have hvl := v113_lt hz hv
  have hne := sn_end hz hv.2
  rw [hv.1] at h10
  have hh := h
  obtain ⟨h1, h2, h3, h4, h5, h6, h7, h8, h9, ⟨h0, g1, g2, g3, g4, g5⟩, ⟨f, s0, b, w1, w2, w3, w4, w5, w6, w7, w8⟩, h12⟩ := hh
  obtain ⟨g6, g7, g8⟩ := g5 r p hr hv
  -- the class
  obtain ⟨x1, k1, k2, k3, k4⟩ := add_ord (L := srt (hl m (40 * r + p) h0)) (s := (hl m (40 * r + p) h0).length) (sp := 41 * r + p) (b := x (58 + e) 0) (y := x (58 + e) 1) (x := x) (by omega) (by omega) (srt_len _) (srt_srd _) g7 g8
  -- the reference
  have hm1f : ∀ k i, ¬ (k = 75 ∧ (i = 29 ∨ i = 55)) → ¬ (100 ≤ k ∧ k ≤ 102 ∧ i = h0) → ze_u (ze_u (ze_u (ze_u (ze_u m 75 55 (nI (ne (T r) (p + 1)))) 100 h0 (nI (40 * r + p))) 101 h0 (m 108 l)) 102 h0 (m 109 l)) 75 29 (nI (h0 + 1)) k i = m k i := fun k i c1 c2 => by simp (disch := omega) only [zu_n]
  have hm29 : ze_u (ze_u (ze_u (ze_u (ze_u m 75 55 (nI (ne (T r) (p + 1)))) 100 h0 (nI (40 * r + p))) 101 h0 (m 108 l)) 102 h0 (m 109 l)) 75 29 (nI (h0 + 1)) 75 29 = nI (h0 + 1) := zu_s _ _ _ _
  have hm55 : ze_u (ze_u (ze_u (ze_u (ze_u m 75 55 (nI (ne (T r) (p + 1)))) 100 h0 (nI (40 * r + p))) 101 h0 (m 108 l)) 102 h0 (m 109 l)) 75 29 (nI (h0 + 1)) 75 55 = nI (ne (T r) (p + 1)) := by simp (disch := omega) only [zu_n, zu_s]
  have hm100 : ze_u (ze_u (ze_u (ze_u (ze_u m 75 55 (nI (ne (T r) (p + 1)))) 100 h0 (nI (40 * r + p))) 101 h0 (m 108 l)) 102 h0 (m 109 l)) 75 29 (nI (h0 + 1)) 100 h0 = nI (40 * r + p) := by simp (disch := omega) only [zu_n, zu_s]
  have hm101 : ze_u (ze_u (ze_u (ze_u (ze_u m 75 55 (nI (ne (T r) (p + 1)))) 100 h0 (nI (40 * r + p))) 101 h0 (m 108 l)) 102 h0 (m 109 l)) 75 29 (nI (h0 + 1)) 101 h0 = m 108 l := by simp (disch := omega) only [zu_n, zu_s]
  have hm102 : ze_u (ze_u (ze_u (ze_u (ze_u m 75 55 (nI (ne (T r) (p + 1)))) 100 h0 (nI (40 * r + p))) 101 h0 (m 108 l)) 102 h0 (m 109 l)) 75 29 (nI (h0 + 1)) 102 h0 = m 109 l := by simp (disch := omega) only [zu_n, zu_s]
  unfold f_E_attempt f_M_act
  rw [nI_clamp (show 41 * r + p < 2 ^ 31 by omega), zi_nI (by omega) (by omega), zlet, zi_nI (by omega) (by omega), h10, if_neg (show ¬ nI 113 = 33 by decide), if_neg (show ¬ nI 113 = 38 by decide), if_neg (show ¬ nI 113 = 42 by decide), if_neg (show ¬ nI 113 = 43 by decide), if_neg (show ¬ nI 113 = 45 by decide), if_neg (show ¬ nI 113 = 62 by decide), if_neg (show ¬ nI 113 = 63 by decide), if_neg (show ¬ nI 113 = 97 by decide), if_neg (show ¬ nI 113 = 98 by decide), if_neg (show ¬ nI 113 = 102 by decide), if_neg (show ¬ nI 113 = 105 by decide), if_neg (show ¬ nI 113 = 107 by decide), if_pos (show nI 113 = 113 by decide), if_neg (show ¬ nI 113 = 33 by decide), if_neg (show ¬ nI 113 = 38 by decide), if_neg (show ¬ nI 113 = 42 by decide), if_neg (show ¬ nI 113 = 43 by decide), if_neg (show ¬ nI 113 = 45 by decide), if_neg (show ¬ nI 113 = 62 by decide), if_neg (show ¬ nI 113 = 63 by decide), if_neg (show ¬ nI 113 = 97 by decide), if_neg (show ¬ nI 113 = 98 by decide), if_neg (show ¬ nI 113 = 102 by decide), if_neg (show ¬ nI 113 = 105 by decide), if_neg (show ¬ nI 113 = 107 by decide), if_neg (show ¬ nI 113 = 114 by decide), if_neg (show ¬ nI 113 = 115 by decide), h53, h54, show 40 * nI r + nI p = nI (40 * r + p) by rw [l_40, pk_mul, nI_add]]
  unfold f_E_hold f_M_order
  rw [h54, nI_1, me_value hr hz h2 h53 (by omega), zcall, zlet]
  have e40 : ze_u m 75 55 (nI (ne (T r) (p + 1))) 75 40 = nI l := by rw [zu_n _ _ _ _ (by omega)]; exact x4
  have e29 : ze_u m 75 55 (nI (ne (T r) (p + 1))) 75 29 = nI h0 := by rw [zu_n _ _ _ _ (by omega)]; exact g3
  simp (disch := omega) only [e29, e40, x4, g3, zi_N, nI_clamp, zlvN, zleN, zu_n, nI_1]
  generalize ze_u (ze_u (ze_u (ze_u (ze_u m 75 55 (nI (ne (T r) (p + 1)))) 100 h0 (nI (40 * r + p))) 101 h0 (m 108 l)) 102 h0 (m 109 l)) 75 29 (nI (h0 + 1)) = m1 at hm1f hm29 hm55 hm100 hm101 hm102 ⊢
  have hlc : hl m1 (40 * r + p) (h0 + 1) = hl m (40 * r + p) h0 ++ [(m 109 l, m 108 l)] := by
    show hl m1 (40 * r + p) h0 ++ _ = _
    rw [hl_kp (m := m) h0 (fun k i hk => hm1f k i (by omega) (by omega)), if_pos hm100, hm101, hm102]
  have hlo : ∀ c', c' < 160 → ¬ c' = 40 * r + p → hl m1 c' (h0 + 1) = hl m c' h0 := fun c' hc' hcc => by
    show hl m1 c' h0 ++ _ = _
    rw [hl_kp (m := m) h0 (fun k i hk => hm1f k i (by omega) (by omega)), if_neg (fun z => by
      rw [hm100, nI_eq (by omega) (by omega)] at z
      omega), List.append_nil]
  have hlen : (hl m1 (40 * r + p) (h0 + 1)).length = (hl m (40 * r + p) h0).length + 1 := by
    rw [hlc, List.length_append]
    rfl
  have hsrt : srt (hl m1 (40 * r + p) (h0 + 1)) = ins (x (58 + e) 1, x (58 + e) 0) (srt (hl m (40 * r + p) h0)) := by rw [hlc, srt_sn, x0, x1']
  have hcnt : ∀ kk : Int32 → ze_H → Option (Int32 × ze_H), f_M_order_L72 (nI (40 * r + p)) (nI (nv (T r) (p + 1))) kk 200000 0 0 m1 = kk (nI ((hl m (40 * r + p) h0).length + 1)) m1 := fun kk => by
    have := mo_cnt (m := m1) (c := 40 * r + p) (h := h0 + 1) (b2 := nI (nv (T r) (p + 1))) (by omega) hm29 kk (h0 + 1) 0 200000 (by omega) (by omega)
    rw [hlen] at this
    exact this
  rw [k1, zcall, hcnt, k4 0 14 (by omega) (by omega), g2, nI_1, show (3 : Int32) = nI 3 from rfl, px_end (by omega) _ he, zcall]
  have hcr : ∀ r' p', r' < 4 → v113 (T r') p' → ¬ (r = r' ∧ p = p') → p' < n r' ∧ nv (T r') (p' + 1) ≤ 4 ∧ 40 * r' + p' < 160 ∧ ¬ 40 * r' + p' = 40 * r + p ∧ 41 * r + p ≠ 41 * r' + p' := fun r' p' hr' hv' hne => by
    have hz' := (pr r' hr').1
    have hvl' := v113_lt hz' hv'
    have := hz'.1
    have hb := blk h40 hz'.1 (show p < n r by omega) (show p' < n r' by omega) hne
    omega
  generalize hs : (hl m (40 * r + p) h0).length = s at *
  have hx5f : ∀ k i, ¬ (k = 54 ∧ i = 41 * r + p) → ¬ ((k = 55 ∨ k = 56) ∧ 4 * (41 * r + p) ≤ i ∧ i < 4 * (41 * r + p) + 4) → ¬ (k = 0 ∧ i = 14) → ¬ (k = 58 + e ∧ i = 3) → ¬ (k = 74 ∧ i = 3) → ze_u (ze_u (ze_u x1 0 14 (nI (h0 + 1))) (58 + e) 3 (nI 3)) 74 3 (ze_u x1 0 14 (nI (h0 + 1)) 74 3 + 1) k i = x k i := fun k i c1 c2 c3 c4 c5 => by rw [zu_n _ _ _ _ (by omega), zu_n _ _ _ _ (by omega), zu_n _ _ _ _ (by omega), k4 k i c1 c2]
  have h5_74 : ze_u (ze_u (ze_u x1 0 14 (nI (h0 + 1))) (58 + e) 3 (nI 3)) 74 3 (ze_u x1 0 14 (nI (h0 + 1)) 74 3 + 1) 74 3 = x 74 3 + 1 := by rw [zu_s, zu_n _ _ _ _ (by omega), k4 74 3 (by omega) (by omega)]
  have h5_14 : ze_u (ze_u (ze_u x1 0 14 (nI (h0 + 1))) (58 + e) 3 (nI 3)) 74 3 (ze_u x1 0 14 (nI (h0 + 1)) 74 3 + 1) 0 14 = nI (h0 + 1) := by rw [zu_n _ _ _ _ (by omega), zu_n _ _ _ _ (by omega), zu_s]
  have h5_3 : ze_u (ze_u (ze_u x1 0 14 (nI (h0 + 1))) (58 + e) 3 (nI 3)) 74 3 (ze_u x1 0 14 (nI (h0 + 1)) 74 3 + 1) (58 + e) 3 = nI 3 := by rw [zu_n _ _ _ _ (by omega), zu_s]
  have h5_54 : ze_u (ze_u (ze_u x1 0 14 (nI (h0 + 1))) (58 + e) 3 (nI 3)) 74 3 (ze_u x1 0 14 (nI (h0 + 1)) 74 3 + 1) 54 (41 * r + p) = nI (s + 1) := by rw [zu_n _ _ _ _ (by omega), zu_n _ _ _ _ (by omega), zu_n _ _ _ _ (by omega)]; exact k2
  have h5_row : ∀ i, i < s + 1 → (srt (hl m1 (40 * r + p) (h0 + 1)))[i]? = some (ze_u (ze_u (ze_u x1 0 14 (nI (h0 + 1))) (58 + e) 3 (nI 3)) 74 3 (ze_u x1 0 14 (nI (h0 + 1)) 74 3 + 1) 56 (4 * (41 * r + p) + i), ze_u (ze_u (ze_u x1 0 14 (nI (h0 + 1))) (58 + e) 3 (nI 3)) 74 3 (ze_u x1 0 14 (nI (h0 + 1)) 74 3 + 1) 55 (4 * (41 * r + p) + i)) := fun i hi => by
    rw [hsrt, zu_n _ _ _ _ (by omega), zu_n _ _ _ _ (by omega), zu_n _ _ _ _ (by omega), zu_n _ _ _ _ (by omega), zu_n _ _ _ _ (by omega), zu_n _ _ _ _ (by omega)]
    exact k3 i hi
  generalize ze_u (ze_u (ze_u x1 0 14 (nI (h0 + 1))) (58 + e) 3 (nI 3)) 74 3 (ze_u x1 0 14 (nI (h0 + 1)) 74 3 + 1) = x5 at hx5f h5_74 h5_14 h5_3 h5_54 h5_row ⊢
  have e11 : x5 11 (41 * r + p) = nI (nv (T r) (p + 1)) := by
    rw [hx5f _ _ (by omega) (by omega) (by omega) (by omega) (by omega), h1 11 _ (by omega) (by omega)]
    exact t11
  have hents : ∀ i, i < h0 + 1 → ∃ r p, r < 4 ∧ v113 (T r) p ∧ m1 100 i = nI (40 * r + p) := fun i hi => by
    by_cases ci : i = h0
    · subst ci
      exact ⟨r, p, hr, hv, hm100⟩
    · obtain ⟨r', p', z1, z2, z3⟩ := g4 i (by omega)
      exact ⟨r', p', z1, z2, by rw [hm1f 100 i (by omega) (by omega)]; exact z3⟩
  rw [h5_54, e11]
  by_cases cs : s + 1 < nv (T r) (p + 1)
  · rw [if_neg (nI_ge cs (by omega)), zcall]
    have hL : f_M_order_L109 (nI (40 * r + p)) (nI (nv (T r) (p + 1))) (nI (s + 1)) (fun v20 => some (0, ze_u v20 75 56 (nI 3))) 200000 0 m1 = some (0, ze_u m1 75 56 (nI 3)) := by
      obtain ⟨N, hN⟩ : ∃ N, 200000 = N + 1 := ⟨199999, rfl⟩
      rw [hN, f_M_order_L109]
      rw [if_neg (show ¬ nI (s + 1) ≤ 0 from nI_nle (by omega) (by omega)), if_neg (show ¬ nI (s + 1) = nI (nv (T r) (p + 1)) by rw [nI_eqP (by omega) (by omega)]; omega)]
    rw [hL, zcall]
    have kq : k_q T x5 (ze_u m1 75 56 (nI 3)) := by
      have hlz : ∀ c, hl (ze_u m1 75 56 (nI 3)) c (h0 + 1) = hl m1 c (h0 + 1) := fun c => hl_kp (h0 + 1) (fun k i hk => zu_n _ _ _ _ (by omega))
      have hrows : ∀ r' p', r' < 4 → v113 (T r') p' → (hl (ze_u m1 75 56 (nI 3)) (40 * r' + p') (h0 + 1)).length < nv (T r') (p' + 1) ∧ q_row x5 (ze_u m1 75 56 (nI 3)) (h0 + 1) r' p' := fun r' p' hr' hv' => by
        unfold q_row
        rw [hlz]
        by_cases cc : r = r' ∧ p = p'
        · obtain ⟨rfl, rfl⟩ := cc
          rw [hlen]
          exact ⟨cs, h5_54, h5_row⟩
        · obtain ⟨z1, z2, z3, z4, z5⟩ := hcr r' p' hr' hv' cc
          obtain ⟨y1, y2, y3⟩ := g5 r' p' hr' hv'
          rw [hlo _ z3 z4]
          refine ⟨y1, by rw [hx5f _ _ (by omega) (by omega) (by omega) (by omega) (by omega)]; exact y2, fun i hi => ?_⟩
          rw [hx5f _ _ (by omega) (by omega) (by omega) (by omega) (by omega), hx5f _ _ (by omega) (by omega) (by omega) (by omega) (by omega)]
          exact y3 i hi
      have hen : ∀ i, i < h0 + 1 → ∃ r p, r < 4 ∧ v113 (T r) p ∧ ze_u m1 75 56 (nI 3) 100 i = nI (40 * r + p) := fun i hi => by rw [zu_n _ _ _ _ (by omega)]; exact hents i hi
      refine ⟨h0 + 1, h_room pr hen (fun r' p' hr' hv' => ?_), h5_14, by rw [zu_n _ _ _ _ (by omega)]; exact hm29, hen, hrows⟩
      have := (hrows r' p' hr' hv').1
      have := (v113_lt (pr r' hr').1 hv').2.2
      omega
    have ry : r_rdy n T tb (R + 4) x5 (ze_u m1 75 56 (nI 3)) := kp_rdy ⟨f, s0, b, w1, w2, w3, w4, w5, w6, w7, w8⟩ (by omega) (fun k i hk => hx5f k i (by omega) (by omega) (by omega) (by omega) (by omega)) (fun k i hk => by rw [zu_n _ _ _ _ (by omega), hm1f k i (by omega) (by omega)])
    exact ⟨0, 3, x5, ze_u m1 75 56 (nI 3), rfl, rfl, by omega, by omega, rs_q_mk pr h he hr hv rfl (fun k i c1 c2 c3 c4 c5 c6 => hx5f k i c1 c2 c3 c4 c5) (fun k i c1 c2 c3 => by rw [zu_n _ _ _ _ (by omega), hm1f k i (by omega) (by omega)]) h5_74 kq ry, fun k i hk => hx5f k i (by omega) (by omega) (by omega) (by omega) (by omega), fun k i hk => by rw [zu_n _ _ _ _ (by omega), hm1f k i (by omega) (by omega)], fun _ => ⟨zu_s _ _ _ _, fun c => by omega⟩, fun c => absurd rfl c, fun _ => h5_3⟩
  · have hsz : s + 1 = nv (T r) (p + 1) := by omega
    have e29' : m1 75 36 = nI (b + s0) := by rw [hm1f 75 36 (by omega) (by omega)]; exact w7
    rw [if_pos (nI_le (by omega) (by omega))]
    obtain ⟨x6, y1, y2, y3, y4⟩ := hold_x (sp := 41 * r + p) (f := f) (b3 := s + 1) (by omega) w1 (by omega) (fun v12 => some (0, ze_u (ze_u v12 54 (41 * r + p) 0) 0 14 (v12 0 14 - nI (s + 1)))) (s + 1) 0 s0 200000 x5 (by omega) (by omega) (by omega) (by rw [hx5f _ _ (by omega) (by omega) (by omega) (by omega) (by omega)]; exact w3) (by rw [hx5f _ _ (by omega) (by omega) (by omega) (by omega) (by omega)]; exact w4) (by rw [hx5f _ _ (by omega) (by omega) (by omega) (by omega) (by omega)]; exact w5)
    have hsh : s + 1 ≤ h0 + 1 := by
      have h2' : (hl m1 (40 * r + p) (h0 + 1)).length ≤ h0 + 1 := by
        rw [← hl_cnt]
        have : ∀ k, cntI (m1 100) (nI (40 * r + p)) k ≤ k := by
          intro k
          induction k with
          | zero => exact Nat.le_refl _
          | succ k ih =>
            show cntI (m1 100) (nI (40 * r + p)) k + (if m1 100 k = nI (40 * r + p) then 1 else 0) ≤ k + 1
            split <;> omega
        exact this _
      omega
    obtain ⟨m6, z1, z2, z3, z4, z5, z6, z7, z8⟩ := mt_all (c := 40 * r + p) (A := 64 * r + ne (T r) (p + 1)) (b2 := nI (nv (T r) (p + 1))) (b3 := nI (s + 1)) (ro := r) (af := ne (T r) (p + 1)) (by omega) rfl (fun v20 => some (0, ze_u v20 75 56 (nI 3))) (s + 1) (by omega) rfl (by rw [hsz]) (s + 1) 0 (h0 + 1) (b + s0) m1 200000 (by omega) (by omega) (by omega) (by omega) hm29 e29' (by rw [hm1f 75 53 (by omega) (by omega)]; exact h53) hm55 hlen hsh
    have y1' : f_E_hold_L59 (nI (41 * r + p)) (nI (s + 1)) (fun v12 => some (0, ze_u (ze_u v12 54 (41 * r + p) 0) 0 14 (v12 0 14 - nI (s + 1)))) 200000 0 x5 = _ := y1
    have z1' : f_M_order_L109 (nI (40 * r + p)) (nI (nv (T r) (p + 1))) (nI (s + 1)) (fun v20 => some (0, ze_u v20 75 56 (nI 3))) 200000 0 m1 = _ := z1
    have hx6f : ∀ k i, ¬ (43 ≤ k ∧ k ≤ 46) → x6 k i = x5 k i := fun k i hk => y4 k i (by omega) (fun c => by omega)
    rw [y1', z1', zcall, zcall, hx6f 0 14 (by omega), h5_14, show nI (h0 + 1) - nI (s + 1) = nI (h0 + 1 - (s + 1)) from pk_sub (by omega)]
    have hxf : ∀ k i, ¬ (k = 54 ∧ i = 41 * r + p) → ¬ (k = 0 ∧ i = 14) → ze_u (ze_u x6 54 (41 * r + p) 0) 0 14 (nI (h0 + 1 - (s + 1))) k i = x6 k i := fun k i c1 c2 => by rw [zu_n _ _ _ _ c2, zu_n _ _ _ _ c1]
    have hxf54 : ze_u (ze_u x6 54 (41 * r + p) 0) 0 14 (nI (h0 + 1 - (s + 1))) 54 (41 * r + p) = nI 0 := by rw [zu_n _ _ _ _ (by omega), zu_s]; rfl
    have hxf14 : ze_u (ze_u x6 54 (41 * r + p) 0) 0 14 (nI (h0 + 1 - (s + 1))) 0 14 = nI (h0 + 1 - (s + 1)) := zu_s _ _ _ _
    generalize ze_u (ze_u x6 54 (41 * r + p) 0) 0 14 (nI (h0 + 1 - (s + 1))) = x7 at hxf hxf54 hxf14 ⊢
    have hmf : ∀ k i, ¬ (k = 75 ∧ i = 56) → ze_u m6 75 56 (nI 3) k i = m6 k i := fun k i hk => zu_n _ _ _ _ hk
    have hmf56 : ze_u m6 75 56 (nI 3) 75 56 = nI 3 := zu_s _ _ _ _
    generalize ze_u m6 75 56 (nI 3) = m7 at hmf hmf56 ⊢
    have hx7f : ∀ k i, ¬ (k = 54 ∧ i = 41 * r + p) → ¬ ((k = 55 ∨ k = 56) ∧ 4 * (41 * r + p) ≤ i ∧ i < 4 * (41 * r + p) + 4) → ¬ (k = 0 ∧ i = 14) → ¬ (k = 58 + e ∧ i = 3) → ¬ (k = 74 ∧ i = 3) → ¬ (43 ≤ k ∧ k ≤ 46) → x7 k i = x k i := fun k i c1 c2 c3 c4 c5 c6 => by rw [hxf k i c1 c3, hx6f k i c6, hx5f k i c1 c2 c3 c4 c5]
    have hm7f : ∀ k i, ¬ (k = 75 ∧ (i = 29 ∨ i = 36 ∨ i = 54 ∨ i = 55 ∨ i = 56)) → ¬ (100 ≤ k ∧ k ≤ 102) → ¬ (105 ≤ k ∧ k ≤ 107) → m7 k i = m k i := fun k i c1 c2 c3 => by rw [hmf k i (by omega), z8 k i c2 (by omega) (by omega), hm1f k i (by omega) (by omega)]
    have kq : k_q T x7 m7 := by
      have hlz : ∀ c, hl m7 c (h0 + 1 - (s + 1)) = hl m6 c (h0 + 1 - (s + 1)) := fun c => hl_kp _ (fun k i hk => hmf k i (by omega))
      have hrows : ∀ r' p', r' < 4 → v113 (T r') p' → (hl m7 (40 * r' + p') (h0 + 1 - (s + 1))).length < nv (T r') (p' + 1) ∧ q_row x7 m7 (h0 + 1 - (s + 1)) r' p' := fun r' p' hr' hv' => by
        unfold q_row
        rw [hlz]
        by_cases cc : r = r' ∧ p = p'
        · obtain ⟨rfl, rfl⟩ := cc
          rw [z5]
          exact ⟨by show 0 < _; omega, hxf54, fun i hi => absurd hi (Nat.not_lt_zero i)⟩
        · obtain ⟨v1, v2, v3, v4, v5⟩ := hcr r' p' hr' hv' cc
          obtain ⟨u1, u2, u3⟩ := g5 r' p' hr' hv'
          rw [z6 _ v3 v4, hlo _ v3 v4]
          refine ⟨u1, by rw [hx7f _ _ (by omega) (by omega) (by omega) (by omega) (by omega) (by omega)]; exact u2, fun i hi => ?_⟩
          rw [hx7f _ _ (by omega) (by omega) (by omega) (by omega) (by omega) (by omega), hx7f _ _ (by omega) (by omega) (by omega) (by omega) (by omega) (by omega)]
          exact u3 i hi
      refine ⟨h0 + 1 - (s + 1), by omega, hxf14, by rw [hmf _ _ (by omega)]; exact z2, fun i hi => ?_, hrows⟩
      obtain ⟨i', v1, v2⟩ := z7 i hi
      obtain ⟨r', p', v3, v4, v5⟩ := hents i' v1
      exact ⟨r', p', v3, v4, by rw [hmf _ _ (by omega), v2]; exact v5⟩
    have ry : r_rdy n T tb (R + 4) x7 m7 := by
      refine ⟨f, s0 + (s + 1), b, w1, by omega, ?_, ?_, ?_, ?_, ?_, fun i hi => ?_⟩
      · rw [hxf _ _ (by omega) (by omega), y4 43 0 (by omega) (fun c => by omega), hx5f _ _ (by omega) (by omega) (by omega) (by omega) (by omega)]
        exact w3
      · rw [hxf _ _ (by omega) (by omega), y4 43 4 (by omega) (fun c => by omega), hx5f _ _ (by omega) (by omega) (by omega) (by omega) (by omega)]
        exact w4
      · rw [hxf _ _ (by omega) (by omega)]
        exact y2
      · rw [hmf _ _ (by omega), z8 75 35 (by omega) (by omega) (by omega), hm1f 75 35 (by omega) (by omega)]
        exact w6
      · rw [hmf _ _ (by omega), z3, Nat.add_assoc]
      · by_cases ci : i < s0
        · obtain ⟨r', p', v1, v2, v3, v4, v5⟩ := w8 i ci
          have hfx : ∀ k, 44 ≤ k → k ≤ 46 → x7 k ((f + i) % 401) = x k ((f + i) % 401) := fun k c1 c2 => by
            rw [hxf _ _ (by omega) (by omega), y4 k _ (by omega) (fun ⟨_, _, t, t1, t2, t3⟩ => by
              have := mod_ne w1 (show i < t by omega) (show t < 401 by omega)
              omega), hx5f _ _ (by omega) (by omega) (by omega) (by omega) (by omega)]
          have hfm : ∀ k, 105 ≤ k → k ≤ 107 → m7 k (b + i) = m k (b + i) := fun k c1 c2 => by
            rw [hmf _ _ (by omega), z8 k _ (by omega) (by omega) (by omega), hm1f _ _ (by omega) (by omega)]
          exact ⟨r', p', v1, by rw [hfx 44 (by omega) (by omega)]; exact v2, by rw [hfm 105 (by omega) (by omega)]; exact v3, by rw [hfx 45 (by omega) (by omega), hfm 106 (by omega) (by omega)]; exact v4, by rw [hfx 46 (by omega) (by omega), hfm 107 (by omega) (by omega)]; exact v5⟩
        · obtain ⟨i', rfl⟩ : ∃ i', i = s0 + i' := ⟨i - s0, by omega⟩
          obtain ⟨v1, v2, v3⟩ := y3 i' (by omega)
          obtain ⟨y, u1, u2, u3, u4⟩ := z4 i' (by omega)
          rw [h5_row i' (by omega)] at u1
          injection u1 with u1
          rw [Nat.zero_add] at v2 v3
          refine ⟨r, ne (T r) (p + 1), hls, ?_, ?_, ?_, ?_⟩
          · rw [hxf _ _ (by omega) (by omega), ← Nat.add_assoc, v1, hx5f _ _ (by omega) (by omega) (by omega) (by omega) (by omega), h1 15 _ (by omega) (by omega)]
            exact t15
          · rw [hmf _ _ (by omega), ← Nat.add_assoc]
            exact u2
          · rw [hxf _ _ (by omega) (by omega), hmf _ _ (by omega), ← Nat.add_assoc, ← Nat.add_assoc, v2, u3, ← u1]
          · rw [hxf _ _ (by omega) (by omega), hmf _ _ (by omega), ← Nat.add_assoc, ← Nat.add_assoc, v3, u4, ← u1]
    exact ⟨0, 3, x7, m7, rfl, rfl, by omega, by omega, rs_q_mk pr h he hr hv rfl hx7f hm7f (by rw [hxf _ _ (by omega) (by omega), hx6f _ _ (by omega)]; exact h5_74) kq ry, fun k i hk => hx7f k i (by omega) (by omega) (by omega) (by omega) (by omega) (by omega), fun k i hk => hm7f k i (by omega) (by omega) (by omega), fun _ => ⟨hmf56, fun c => by omega⟩, fun c => absurd rfl c, fun _ => by rw [hxf _ _ (by omega) (by omega), hx6f _ _ (by omega)]; exact h5_3⟩
end HQ
