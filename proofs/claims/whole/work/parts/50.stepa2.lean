/-! PURE: the step a, whole -/
section GC
variable {n : Nat → Nat} {T : Nat → Nat → Nat} {tb x m : ze_H} {G R a r p q e l : Nat}
theorem cntI_iff {h h2 : Nat → Int32} {y y2 : Int32} : ∀ g, (∀ i, i < g → (h i = y ↔ h2 i = y2)) → cntI h y g = cntI h2 y2 g
  | 0, _ => rfl
  | g + 1, e => by
    show cntI h y g + (if h g = y then 1 else 0) = cntI h2 y2 g + (if h2 g = y2 then 1 else 0)
    rw [cntI_iff g (fun i hi => e i (by omega))]
    by_cases c : h g = y
    · rw [if_pos c, if_pos ((e g (by omega)).1 c)]
    · rw [if_neg c, if_neg (fun q => c ((e g (by omega)).2 q))]
theorem lf_97 (pr : PR n T tb) (h : RS n T tb G R a x m) (hR : R + 1 ≤ 401) (A : AT n T tb r p e l x m) (hv : v97 (T r) p) (hls : lsx n T tb r (a97 (T r) p)) (t11 : tb 11 (41 * r + p) = nI (nv (T r) (p + 1))) (t12 : tb 12 (41 * r + p) = nI (nv (T r) (ne (T r) (p + 1) + 1))) (t15 : tb 15 (41 * r + p) = nI (41 * r + a97 (T r) p)) (RC : Nat → Int32 → Int32 → ze_H → Option (Int32 × ze_H)) (b3 : Int32) : LF n T tb G (R + 1) a r p q e l x m (f_E_attempt RC (58 + e) (nI (41 * r + p)) b3 x) (f_M_act (nI 97) m) := by
  have h10 := xa_at h A
  have A0 := A
  obtain ⟨hr, he, hl, hz, hp, -, hE, h53, h54, h56⟩ := A0
  have h40 := hz.1
  have hvl := v97_lt hz hv
  rw [hv.1] at h10
  have hne := sn_end hz hv.2.1
  have hne2 : ne (T r) (p + 1) < n r := tz_lt hz (by rw [hv.2.2.1]; omega)
  have hsz := nv_lt (T r) (ne (T r) (p + 1) + 1)
  unfold f_E_attempt f_M_act
  rw [nI_clamp (by omega), zi_nI (by omega) (by omega), zlet, zi_nI (by omega) (by omega), h10, if_neg (show ¬ nI 97 = 33 by decide), if_neg (show ¬ nI 97 = 38 by decide), if_neg (show ¬ nI 97 = 42 by decide), if_neg (show ¬ nI 97 = 43 by decide), if_neg (show ¬ nI 97 = 45 by decide), if_neg (show ¬ nI 97 = 62 by decide), if_neg (show ¬ nI 97 = 63 by decide), if_pos (show nI 97 = 97 by decide), if_neg (show ¬ nI 97 = 33 by decide), if_neg (show ¬ nI 97 = 38 by decide), if_neg (show ¬ nI 97 = 42 by decide), if_neg (show ¬ nI 97 = 43 by decide), if_neg (show ¬ nI 97 = 45 by decide), if_neg (show ¬ nI 97 = 62 by decide), if_neg (show ¬ nI 97 = 63 by decide), if_pos (show nI 97 = 97 by decide), h53, h54, show 40 * nI r + nI p = nI (40 * r + p) by rw [l_40, pk_mul, nI_add]]
  unfold f_E_gather f_M_gather
  rw [h54, nI_1, me_value hr hz h.2.1 h53 (by omega), zcall, zlet, zu_s, nI_1, me_value (m := ze_u m 75 55 (nI (ne (T r) (p + 1)))) hr hz (kp_mt h.2.1 (fun k i hk => zu_n _ _ _ _ (by omega))) (by rw [zu_n _ _ _ _ (by omega)]; exact h53) (by omega), zcall, zlet, zlet, zlet, zlet, zu_uu]
  have e55 : ze_u m 75 55 (nI (ne (T r) (ne (T r) (p + 1) + 1))) 75 55 = nI (a97 (T r) p) := zu_s _ _ _ _
  have hm0 : ∀ k i, ¬ (k = 75 ∧ i = 55) → ze_u m 75 55 (nI (ne (T r) (ne (T r) (p + 1) + 1))) k i = m k i := fun k i hk => zu_n _ _ _ _ hk
  have R0 : RS n T tb G R a x (ze_u m 75 55 (nI (ne (T r) (ne (T r) (p + 1) + 1)))) := RS_kp h (fun k i hk => rfl) (fun k i c1 c2 => hm0 k i (by omega))
  generalize ze_u m 75 55 (nI (ne (T r) (ne (T r) (p + 1) + 1))) = m0 at e55 hm0 R0 ⊢
  have hE0 : EX e l x m0 := ⟨by rw [hm0 _ _ (by omega)]; exact hE.1, by rw [hm0 _ _ (by omega)]; exact hE.2.1, by rw [hm0 _ _ (by omega)]; exact hE.2.2.1, hE.2.2.2.1, by rw [hm0 _ _ (by omega)]; exact hE.2.2.2.2⟩
  have e53' : m0 75 53 = nI r := by rw [hm0 _ _ (by omega)]; exact h53
  have R0' := R0
  obtain ⟨y1, y2, y3, y4, y5, y6, y7, y8, y9, y10, y11, y12⟩ := R0'
  obtain ⟨g, q1, q2, q3, q4, q5, q6⟩ := y8
  have hiff : ∀ i, i < g → (x 48 i = nI (41 * r + p) ↔ m0 94 i = nI (40 * r + p)) := fun i hi => by
    obtain ⟨r', p', b, w1, w2, w3, w4, w5, w6, w7, -⟩ := q4 i hi
    have hz' := (pr r' w1).1
    have hvl' := v97_lt hz' w2
    have hz40 := hz'.1
    rw [w6, w7, nI_eq (by omega) (by omega), nI_eq (by omega) (by omega)]
    omega
  have hcnt := cntI_iff (h := x 48) (h2 := m0 94) (y := nI (41 * r + p)) (y2 := nI (40 * r + p)) g hiff
  have hu : ∀ i j, i < j → j < g → ¬ (m0 94 i = m0 94 j ∧ m0 95 i = m0 95 j) := fun i j hi hj c => by
    obtain ⟨r1, p1, b1, w1, w2, w3, w4, w5, w6, w7, w8, -⟩ := q4 i (by omega)
    obtain ⟨r2, p2, b2, z1, z2, z3, z4, z5, z6, z7, z8, -⟩ := q4 j hj
    have hz1 := (pr r1 w1).1
    have hz2 := (pr r2 z1).1
    have v1 := v97_lt hz1 w2
    have v2 := v97_lt hz2 z2
    have o1 := hz1.1
    have o2 := hz2.1
    refine q6 i j hi hj ⟨?_, by rw [w8, z8]; exact c.2⟩
    have := c.1
    rw [w7, z7, nI_eq (by omega) (by omega)] at this
    rw [w6, z6, show 41 * r1 + p1 = 41 * r2 + p2 by omega]
  have hm4 := gm_find (m := m0) (l := l) (b1 := nI (40 * r + p)) (b2 := nI (nv (T r) (p + 1))) (b3 := nI (nv (T r) (ne (T r) (p + 1) + 1))) (y := m0 109 l) hl q1 q3 hE0.2.2.2.2 rfl hu g 0 (by omega)
  have fin : ∀ x1 m1 tx tm, tx = some ((0 : Int32), x1) → tm = some ((0 : Int32), m1) → RS n T tb G (R + 1) a x1 (cup 3 m1) → m1 75 56 = nI 3 → x1 (58 + e) 3 = nI 3 → (∀ k i, (58 ≤ k ∧ k ≤ 73 ∧ k ≠ 58 + e) → x1 k i = x k i) → (∀ k i, (111 ≤ k ∧ k ≤ 118 ∨ 108 ≤ k ∧ k ≤ 110 ∨ k = 75 ∧ (i = 35 ∨ i = 40 ∨ i = 44 ∨ i = 53)) → m1 k i = m0 k i) → LF n T tb G (R + 1) a r p q e l x m (ze_call tx (fun r23 v24 => some (r23, v24))) (ze_call tm (fun r37 v38 => some (r37, v38))) := by
    rintro x1 m1 tx tm rfl rfl k1 k2 k3 k4 k5
    exact ⟨0, 3, x1, m1, rfl, rfl, by omega, by omega, k1, k4, fun k i hk => by rw [k5 k i (by omega), hm0 k i (by omega)], fun _ => ⟨k2, fun c => by omega⟩, fun c => absurd rfl c, fun _ => k3⟩
  unfold f_G_find
  rw [zlet]
  rcases gx_find (x := x) (b1 := nI (41 * r + p)) (b2 := x (58 + e) 1) q1 q2 g 0 (by omega) with ⟨c, c1, c2, c3, c4, c5⟩ | ⟨c3, c5⟩
  · have c5' : ∀ kk : ze_H → Option (Int32 × ze_H), f_G_find_L2 (nI (41 * r + p)) (x (58 + e) 1) kk 200000 0 x = some (nI c, x) := fun kk => c5 kk 200000 (by omega)
    rw [c5', zcall, zlet, if_neg (show ¬ nI c = -1 by rw [m1_l, nI_m1P (by omega)]; exact id)]
    have hmc : m0 94 c = nI (40 * r + p) ∧ m0 95 c = m0 109 l := by
      refine ⟨(hiff c c2).1 c3, ?_⟩
      obtain ⟨r1, p1, b1, w1, w2, w3, w4, w5, w6, w7, w8, -⟩ := q4 c c2
      rw [← w8, c4, hE0.2.1]
    rcases hm4 with ⟨d, d1, d2, d3, d4, d5⟩ | ⟨d1, d2⟩
    · have hdc : d = c := by
        rcases Nat.lt_trichotomy d c with q | q | q
        · exact absurd ⟨d3.trans hmc.1.symm, d4.trans hmc.2.symm⟩ (hu d c q c2)
        · exact q
        · exact absurd ⟨hmc.1.trans d3.symm, hmc.2.trans d4.symm⟩ (hu c d q d2)
      subst hdc
      have d5' : ∀ kk : Int32 → Int32 → ze_H → Option (Int32 × ze_H), f_M_gather_L31 (nI (40 * r + p)) (nI (nv (T r) (p + 1))) (nI (nv (T r) (ne (T r) (p + 1) + 1))) kk 200000 0 (-1) 0 m0 = kk (nI (cntI (m0 94) (nI (40 * r + p)) g)) (nI d) m0 := fun kk => d5 kk 200000 (-1) (by omega)
      rw [d5', if_pos (nI_pos' (by omega))]
      unfold f_M_gather_J107
      rw [if_pos (nI_pos' (by omega))]
      obtain ⟨x1, m1, k1, k2, k3, k4, k5, k6, k7⟩ := g_join pr R0 hR he hl hE0 hr hv t11 q2 q1 c2 c3
      exact fin x1 m1 _ _ k1 k2 k3 k4 k5 k6 k7
    · exact absurd hmc (d1 c c1 c2)
  · have c5' : ∀ kk : ze_H → Option (Int32 × ze_H), f_G_find_L2 (nI (41 * r + p)) (x (58 + e) 1) kk 200000 0 x = kk x := fun kk => c5 kk 200000 (by omega)
    rw [c5', zcall, zlet, if_pos rfl, zi_nI (by omega) (by omega), nI_clamp (show 41 * r + p < 2 ^ 31 by omega), h.1 12 _ (by omega) (by omega), t12]
    rcases hm4 with ⟨d, d1, d2, d3, d4, d5⟩ | ⟨d1, d2⟩
    · refine absurd ⟨(hiff d d2).2 d3, ?_⟩ (c3 d d1 d2)
      obtain ⟨r1, p1, b1, w1, w2, w3, w4, w5, w6, w7, w8, -⟩ := q4 d d2
      rw [w8, d4, hE0.2.1]
    · have d5' : ∀ kk : Int32 → Int32 → ze_H → Option (Int32 × ze_H), f_M_gather_L31 (nI (40 * r + p)) (nI (nv (T r) (p + 1))) (nI (nv (T r) (ne (T r) (p + 1) + 1))) kk 200000 0 (-1) 0 m0 = kk (nI (cntI (m0 94) (nI (40 * r + p)) g)) (-1) m0 := fun kk => d2 kk 200000 (-1) (by omega)
      rw [d5', if_neg (show ¬ (0 : Int32) ≤ -1 by decide), ← hcnt]
      have h3 := q5 (nI (41 * r + p))
      have hopen : f_G_openOf (nI (41 * r + p)) x = some (nI (cntI (x 48) (nI (41 * r + p)) g), x) := by
        unfold f_G_openOf
        rw [zlet, zlet]
        have := gx_open (x := x) (b1 := nI (41 * r + p)) q1 q2 (fun x6 v7 => some (x6, v7)) g 0 0 200000 (by omega) (by omega) (by omega)
        rw [Nat.zero_add, Nat.zero_add] at this
        exact this
      by_cases c : cntI (x 48) (nI (41 * r + p)) g < 3
      · have hroom := g_room pr hr hv q4 q5 c
        have hct : nI (cntI (x 48) (nI (41 * r + p)) g) < 3 := nI_lt (b := 3) c (by omega)
        rw [if_pos hct]
        unfold f_G_open f_M_gather_J107
        rw [q2, if_neg (show ¬ (120 : Int32) ≤ nI g from nI_ge (b := 120) hroom (by omega)), hopen, zcall, if_pos hct, if_neg (show ¬ (0 : Int32) ≤ -1 by decide), zlet, zlev, q3]
        have hxo : ∃ x1, x1 = ze_u (ze_u (ze_u (ze_u (ze_u (ze_u x 48 g (nI (41 * r + p))) 49 g (x (58 + e) 1)) 50 g 0) 51 g 0) 52 g (x 0 13 + nI (nv (T r) (ne (T r) (p + 1) + 1)))) 47 5 (nI (g + 1)) := ⟨_, rfl⟩
        obtain ⟨x1, hx1⟩ := hxo
        have hmo : ∃ m1, m1 = ze_u (ze_u (ze_u (ze_u (ze_u (ze_u (ze_u m0 75 22 (nI (g + 1))) 94 g (nI (40 * r + p))) 95 g (m0 109 l)) 96 g 0) 97 g 0) 98 g (m0 75 58 + nI (nv (T r) (ne (T r) (p + 1) + 1)))) 99 g (nI (64 * r + a97 (T r) p)) := ⟨_, rfl⟩
        obtain ⟨m1, hm1⟩ := hmo
        have e64 : 64 * nI r + nI (a97 (T r) p) = nI (64 * r + a97 (T r) p) := by rw [l_64, pk_mul, nI_add]
        simp (disch := omega) only [zi_N, nI_clamp, zlvN, zleN, zcaN, zu_n, zu_s, q2, nI_1, hE0.2.2.2.2, e53', e55, e64]
        rw [← hx1, ← hm1, show nI (g + 1) - 1 = nI g from nI_pred g]
        have hx1f : ∀ k i, ¬ (k = 47 ∧ i = 5) → ¬ (48 ≤ k ∧ k ≤ 52 ∧ i = g) → x1 k i = x k i := fun k i c1 c2 => by rw [hx1]; simp (disch := omega) only [zu_n]
        have hm1f : ∀ k i, ¬ (k = 75 ∧ i = 22) → ¬ (94 ≤ k ∧ k ≤ 99 ∧ i = g) → m1 k i = m0 k i := fun k i c1 c2 => by rw [hm1]; simp (disch := omega) only [zu_n]
        have R1 : RS n T tb G R a x1 m1 := by
          refine ⟨kp_tab y1 (fun k i hk => hx1f k i (by omega) (by omega)), kp_mt y2 (fun k i hk => hm1f k i (by omega) (by omega)), kp_cnt y3 (fun k i hk => hx1f k i (by omega) (by omega)) (fun k i hk => hm1f k i (by omega) (by omega)), kp_cls y4 (fun k i hk => hx1f k i (by omega) (by omega)) (fun k i hk => hm1f k i (by omega) (by omega)), kp_ep y5 (fun k i hk => hx1f k i (by omega) (by omega)) (fun k i hk => hm1f k i (by omega) (by omega)), kp_got y6 (fun k i hk => hx1f k i (by omega) (by omega)) (fun k i hk => hm1f k i (by omega) (by omega)), kp_que y7 (fun k i hk => hx1f k i (by omega) (by omega)) (fun k i hk => hm1f k i (by omega) (by omega)), ⟨g + 1, by omega, ?_, ?_, fun i hi => ?_, fun y => ?_, fun i j hi hj => ?_⟩, kp_i y9 (fun k i hk => hx1f k i (by omega) (by omega)) (fun k i hk => hm1f k i (by omega) (by omega)), kp_q y10 (fun k i hk => hx1f k i (by omega) (by omega)) (fun k i hk => hm1f k i (by omega) (by omega)), kp_rdy y11 (Nat.le_refl _) (fun k i hk => hx1f k i (by omega) (by omega)) (fun k i hk => hm1f k i (by omega) (by omega)), kp_att y12 (fun k i hk => hx1f k i (by omega) (by omega)) (fun k i hk => hm1f k i (by omega) (by omega))⟩
          · rw [hx1, zu_s]
          · rw [hm1]
            simp (disch := omega) only [zu_n, zu_s]
          · by_cases ci : i = g
            · subst ci
              refine ⟨r, p, 0, hr, hv, hls, t15, by omega, ?_, ?_, ?_, ?_, ?_, ?_, ?_, ?_⟩
              · rw [hx1]
                simp (disch := omega) only [zu_n, zu_s]
              · rw [hm1]
                simp (disch := omega) only [zu_n, zu_s]
              · rw [hx1, hm1]
                simp (disch := omega) only [zu_n, zu_s]
                exact hE0.2.1
              · rw [hx1, hm1]
                simp (disch := omega) only [zu_n, zu_s]
              · rw [hx1]
                simp (disch := omega) only [zu_n, zu_s]
                rfl
              · rw [hm1]
                simp (disch := omega) only [zu_n, zu_s]
                rfl
              · rw [hx1, hm1]
                simp (disch := omega) only [zu_n, zu_s]
                rw [y3.2.1]
              · rw [hm1]
                simp (disch := omega) only [zu_n, zu_s]
            · exact kp_grow (q4 i (by omega)) (fun k hk => hx1f k i (by omega) (by omega)) (fun k hk => hm1f k i (by omega) (by omega))
          · show cntI (x1 48) y g + (if x1 48 g = y then 1 else 0) ≤ 3
            rw [cntI_kp (g := x 48) g (fun i hi => hx1f 48 i (by omega) (by omega))]
            by_cases cy : x1 48 g = y
            · have : x1 48 g = nI (41 * r + p) := by
                rw [hx1]
                simp (disch := omega) only [zu_n, zu_s]
              rw [if_pos cy, ← cy, this]
              omega
            · rw [if_neg cy]
              have := q5 y
              omega
          · by_cases cj : j = g
            · subst cj
              rw [hx1f 48 i (by omega) (by omega), hx1f 49 i (by omega) (by omega), hx1]
              simp (disch := omega) only [zu_n, zu_s]
              exact c3 i (by omega) hi
            · rw [hx1f 48 i (by omega) (by omega), hx1f 49 i (by omega) (by omega), hx1f 48 j (by omega) (by omega), hx1f 49 j (by omega) (by omega)]
              exact q6 i j hi (by omega)
        have E1 : EX e l x1 m1 := ⟨by rw [hx1f _ _ (by omega) (by omega), hm1f _ _ (by omega) (by omega)]; exact hE0.1, by rw [hx1f _ _ (by omega) (by omega), hm1f _ _ (by omega) (by omega)]; exact hE0.2.1, by rw [hx1f _ _ (by omega) (by omega), hm1f _ _ (by omega) (by omega)]; exact hE0.2.2.1, by rw [hx1f _ _ (by omega) (by omega)]; exact hE0.2.2.2.1, by rw [hm1f _ _ (by omega) (by omega)]; exact hE0.2.2.2.2⟩
        obtain ⟨x2, m2, k1, k2, k3, k4, k5, k6, k7⟩ := g_join pr (c := g) R1 hR he hl E1 hr hv t11 (show x1 47 5 = nI (g + 1) by rw [hx1, zu_s]) (by omega) (by omega) (by rw [hx1]; simp (disch := omega) only [zu_n, zu_s])
        exact fin x2 m2 _ _ k1 k2 k3 k4 k5 (fun k i hk => by rw [k6 k i hk, hx1f k i (by omega) (by omega)]) (fun k i hk => by rw [k7 k i hk, hm1f k i (by omega) (by omega)])
      · have hct : ¬ nI (cntI (x 48) (nI (41 * r + p)) g) < 3 := nI_nlt (b := 3) (by omega) (by omega)
        rw [if_neg hct]
        have hop : f_G_open (nI (41 * r + p)) (x (58 + e) 1) (x 0 13 + nI (nv (T r) (ne (T r) (p + 1) + 1))) x = some (-1, x) := by
          unfold f_G_open
          rw [hopen, zcall, if_neg hct, ite_self]
        rw [hop, zcall, zlet]
        unfold f_E_gather_J45
        rw [if_pos rfl, zcall, zcall]
        refine ⟨5, 0, x, m0, rfl, rfl, by omega, by omega, RS_mono R0 (Nat.le_refl _) (by omega), fun k i hk => rfl, fun k i hk => hm0 k i (by omega), fun c => by omega, fun _ => ⟨rfl, hE0, by rw [hm0 _ _ (by omega)]; exact h54⟩, fun c => absurd rfl c⟩
end GC
