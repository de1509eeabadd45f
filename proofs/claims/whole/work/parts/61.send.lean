/-! PURE: send, work -/
section SE
variable {n : Nat → Nat} {T : Nat → Nat → Nat} {tb : ze_H}
/-- the class's line of what is ready may lie elsewhere when it is empty -/
theorem RS_rdy0 {G R a f1 : Nat} {x x1 m : ze_H} (h : RS n T tb G R a x m) (hf : f1 < 401) (e35 : m 75 35 = nI 0) (e36 : m 75 36 = nI 0) (k0 : x1 43 0 = x 43 0) (k4 : x1 43 4 = nI f1) (k5 : x1 43 5 = nI 0) (hx : ∀ k i, ¬ (43 ≤ k ∧ k ≤ 46) → x1 k i = x k i) : RS n T tb G R a x1 m := by
  obtain ⟨h1, h2, h3, h4, h5, h6, h7, h8, h9, h10, ⟨f, s, b, w1, w2, w3, w4, w5, w6, w7, w8⟩, h12⟩ := h
  exact ⟨kp_tab h1 (fun k i hk => hx k i (by omega)), h2, kp_cnt h3 (fun k i hk => hx k i (by omega)) (fun k i hk => rfl), kp_cls h4 (fun k i hk => hx k i (by omega)) (fun k i hk => rfl), kp_ep h5 (fun k i hk => hx k i (by omega)) (fun k i hk => rfl), kp_got h6 (fun k i hk => hx k i (by omega)) (fun k i hk => rfl), kp_que h7 (fun k i hk => hx k i (by omega)) (fun k i hk => rfl), kp_grp h8 (fun k i hk => hx k i (by omega)) (fun k i hk => rfl), kp_i h9 (fun k i hk => hx k i (by omega)) (fun k i hk => rfl), kp_q h10 (fun k i hk => hx k i (by omega)) (fun k i hk => rfl), ⟨f1, 0, 0, hf, by omega, by rw [k0]; exact w3, k4, k5, e35, e36, fun i hi => by omega⟩, kp_att h12 (fun k i hk => hx k i (by omega)) (fun k i hk => rfl)⟩
theorem idle_rdy {G a : Nat} {x m : ze_H} (h : RS n T tb G 0 a x m) : x 43 5 = nI 0 ∧ m 75 35 = nI 0 ∧ m 75 36 = nI 0 ∧ x 43 0 = nI 401 ∧ ∃ f, f < 401 ∧ x 43 4 = nI f := by
  obtain ⟨f, s, b, w1, w2, w3, w4, w5, w6, w7, w8⟩ := h.2.2.2.2.2.2.2.2.2.2.1
  have hs : s = 0 := by omega
  have hb : b = 0 := by omega
  subst hs hb
  exact ⟨w5, w6, w7, w3, f, w1, w4⟩
/-- an exchange of its own, and all that becomes ready -/
theorem send_core (pr : PR n T tb) {G j f : Nat} {b y : Int32} {x x2 m : ze_H} (h : RS n T tb G 0 0 x m) (hG : G + 500 < 2 ^ 28) (hj : j < 4) (e4 : x 43 4 = nI f) (hf : f < 401) (g5 : x2 43 5 = nI 1) (g44 : x2 44 f = nI (41 * j)) (g45 : x2 45 f = b) (g46 : x2 46 f = y) (gx : ∀ k i, ¬ (k = 43 ∧ i = 5) → ¬ (44 ≤ k ∧ k ≤ 46 ∧ i = f) → x2 k i = x k i) :
    ∃ oc a1 x1 m1, f_E_runReady x2 = some (nI oc, x1) ∧ ze_call (f_M_run (nI j) 0 b y m) (fun r4 v5 => ze_let r4 (fun x6 => ze_call (f_M_runReady v5) (fun r7 v8 => some (x6, v8)))) = some (nI oc, m1) ∧ a1 ≤ 100 ∧ RS n T tb (G + 500) 0 a1 x1 m1 := by
  obtain ⟨i5, i35, i36, i0, _⟩ := idle_rdy h
  have hz := (pr j hj).1
  obtain ⟨ev, hev⟩ := (pr j hj).2.1
  have hls : lsx n T tb j 0 := ⟨hj, Nat.zero_le _, 41, ev, hev, (pr j hj).2.2.1⟩
  -- the class
  have hpx : f_E_begin 58 b y x2 = some (0, ze_u (ze_u (ze_u (ze_u (ze_u x2 (58 + 0) 0 b) (58 + 0) 1 y) (58 + 0) 2 b) (58 + 0) 3 0) 74 0 (x2 74 0 + 1)) := px_begin (x := x2) (b := b) (y := y) (e1 := 0) (by omega)
  have RB := RS_begin (b := b) (y := y) (e1 := 0) (l1 := 0) h (by omega) (by omega)
  have hdrop : f_L_dropFirst 43 401 (ze_u (ze_u (ze_u (ze_u (ze_u x2 (58 + 0) 0 b) (58 + 0) 1 y) (58 + 0) 2 b) (58 + 0) 3 0) 74 0 (x2 74 0 + 1)) = some (0, ze_u (ze_u (ze_u (ze_u (ze_u (ze_u (ze_u x2 (58 + 0) 0 b) (58 + 0) 1 y) (58 + 0) 2 b) (58 + 0) 3 0) 74 0 (x2 74 0 + 1)) 43 4 (nI ((f + 1) % 401))) 43 5 (nI 0)) := by
    unfold f_L_dropFirst
    simp (disch := omega) only [zu_n, g5, gx 43 0 (by omega) (by omega), gx 43 4 (by omega) (by omega), i0, e4]
    rw [if_neg (show ¬ nI 1 ≤ 0 by decide), if_neg (show ¬ nI 401 = 0 by decide), nI_1, pk_rem (by omega) (by omega) (by omega), zlev, zlev]
    simp (disch := omega) only [zu_n, g5]
    rfl
  have RD : RS n T tb G 0 0 (ze_u (ze_u (ze_u (ze_u (ze_u (ze_u (ze_u x2 (58 + 0) 0 b) (58 + 0) 1 y) (58 + 0) 2 b) (58 + 0) 3 0) 74 0 (x2 74 0 + 1)) 43 4 (nI ((f + 1) % 401))) 43 5 (nI 0)) (ze_u (ze_u (ze_u (ze_u m 108 0 b) 109 0 y) 110 0 b) 119 0 (m 119 0 + 1)) := by
    refine RS_rdy0 (f1 := (f + 1) % 401) RB (Nat.mod_lt _ (by omega)) (by simp (disch := omega) only [zu_n]; exact i35) (by simp (disch := omega) only [zu_n]; exact i36) ?_ ?_ (zu_s _ _ _ _) (fun k i hk => ?_)
    · simp (disch := omega) only [zu_n]
      exact gx 43 0 (by omega) (by omega)
    · simp (disch := omega) only [zu_n, zu_s]
    · rw [zu_n _ _ _ _ (by omega), zu_n _ _ _ _ (by omega)]
      simp only [zu_at, gx 74 0 (by omega) (by omega), gx k i (by omega) (by omega)]
  have hxd : ∀ i, i < 4 → ze_u (ze_u (ze_u (ze_u (ze_u (ze_u (ze_u x2 (58 + 0) 0 b) (58 + 0) 1 y) (58 + 0) 2 b) (58 + 0) 3 0) 74 0 (x2 74 0 + 1)) 43 4 (nI ((f + 1) % 401))) 43 5 (nI 0) 58 i = if i = 0 then b else if i = 1 then y else if i = 2 then b else 0 := fun i hi => by
    have hc : i = 0 ∨ i = 1 ∨ i = 2 ∨ i = 3 := by omega
    rcases hc with rfl | rfl | rfl | rfl <;> simp (disch := omega) only [zu_n, zu_s, ↓reduceIte] <;> rfl
  generalize ze_u (ze_u (ze_u (ze_u (ze_u (ze_u (ze_u x2 (58 + 0) 0 b) (58 + 0) 1 y) (58 + 0) 2 b) (58 + 0) 3 0) 74 0 (x2 74 0 + 1)) 43 4 (nI ((f + 1) % 401))) 43 5 (nI 0) = xd at hdrop RD hxd
  -- the reference
  have hmE : ∃ mb, mb = ze_u (ze_u (ze_u (ze_u (ze_u (ze_u (ze_u (ze_u m 75 40 0) 75 44 0) 75 53 (nI j)) 75 54 (nI 0)) 108 0 b) 109 0 y) 110 0 b) 119 0 (m 119 0 + 1) := ⟨_, rfl⟩
  obtain ⟨mb, hmb⟩ := hmE
  have RM : RS n T tb G 0 0 xd mb := RS_kp RD (fun k i hk => rfl) (fun k i c1 c2 => by
    rw [hmb]
    by_cases c4 : k = 119 ∧ i = 0
    · rw [c4.1, c4.2]
      simp (disch := omega) only [zu_n, zu_s]
    · simp (disch := omega) only [zu_n])
  have EM : EX 0 0 xd mb := by
    refine ⟨?_, ?_, ?_, ?_, ?_⟩
    · rw [hxd 0 (by omega), hmb, if_pos rfl]
      simp (disch := omega) only [zu_n, zu_s]
    · rw [hxd 1 (by omega), hmb, if_neg (by omega), if_pos rfl]
      simp (disch := omega) only [zu_n, zu_s]
    · rw [hxd 2 (by omega), hmb, if_neg (by omega), if_neg (by omega), if_pos rfl]
      simp (disch := omega) only [zu_n, zu_s]
    · rw [hxd 3 (by omega), if_neg (by omega), if_neg (by omega), if_neg (by omega)]
    · rw [hmb]
      simp (disch := omega) only [zu_n, zu_s]
      rfl
  obtain ⟨oc, a1, x3, x4, m1, k1, k2, k3, k4, k5, k6, k7, k8, k9, k10⟩ := run1 pr (r := j) (p := 0) RM (by omega) (by omega) (by omega) EM (by rw [hmb]; simp (disch := omega) only [zu_n, zu_s]) (by rw [hmb]; simp (disch := omega) only [zu_n, zu_s]) (by rw [hmb]; simp (disch := omega) only [zu_n, zu_s]; rfl) hls
  have m35 : m1 75 35 = nI 0 := by
    rw [k10, hmb]
    simp (disch := omega) only [zu_n]
    exact i35
  obtain ⟨a2, x5, m2, j1, j2, j3, j4, j5, j6⟩ := it_all pr 402 0 (G + 5 * (a1 - 0)) (0 + 4 * (a1 - 0)) a1 x4 m1 (by omega) k9 k4 (by omega) (by omega) m35 (by omega)
  refine ⟨oc, a2, x5, ze_u (ze_u m2 75 35 0) 75 36 0, ?_, ?_, j2, RS_mono (RS_idle j3 j4) (by omega) (Nat.le_refl _)⟩
  · unfold f_E_runReady
    have z0 : ∀ t, ze_in (0 : Int32) 16 t = t := fun t => zi_nI (j := 0) (by omega) (by omega) t
    obtain ⟨N, hN⟩ : ∃ N, 200000 = N + 1 := ⟨199999, rfl⟩
    rw [zlet, z0, zlet, hN]
    show f_E_runReady_L11 58 _ (N + 1) (-1) 0 x2 = _
    rw [f_E_runReady_L11]
    have e4' : x2 43 4 = nI f := by rw [gx _ _ (by omega) (by omega)]; exact e4
    rw [if_neg (show ¬ (100000 : Int32) ≤ 0 by decide), g5, if_neg (show ¬ nI 1 ≤ 0 by decide), zlet, e4', zi_nI hf (by omega), nI_clamp (by omega), zlet, zi_nI hf (by omega), zi_nI hf (by omega), g44, g45, g46, hpx, zcall, hdrop, zcall]
    have k5' : f_xRL 17 58 (nI (41 * j)) 0 xd = some (0, x3) := k5
    have j5' : f_E_runReady_L11 58 (fun x20 v21 => some (x20, v21)) N (nI oc) 1 x4 = some (nI oc, x5) := j5 _ N (nI oc) 1 (by omega) (by omega) (by omega)
    rw [k5', zcall]
    rcases k6 with ⟨c1, c2⟩ | ⟨c1, c2⟩
    · rw [if_pos c1, c2, zcall, k7, if_pos rfl, zlet, zlet, show (0 : Int32) + 1 = 1 from rfl]
      exact j5'
    · subst c2
      rw [if_neg c1, k7, if_pos rfl, zlet, zlet, show (0 : Int32) + 1 = 1 from rfl]
      exact j5'
  · have hrunm : f_M_run (nI j) 0 b y m = some (nI oc, m1) := by
      rw [show (0 : Int32) = nI 0 from rfl, pm_run, ← k8, hmb]
      try rfl
    rw [hrunm, zcall, zlet]
    unfold f_M_runReady
    rw [j6 _ 200000 (by omega), zlev, zlev, zcall]
theorem sim_send (pr : PR n T tb) {G a : Nat} {x m : ze_H} (h : RS n T tb G 0 a x m) (hG : G + 500 < 2 ^ 28) (ha : a ≤ 100) (r b y : Int32) : ∃ res a1 x1 m1, f_E_send r b y x = some (res, x1) ∧ f_M_send r b y m = some (res, m1) ∧ a1 ≤ 100 ∧ RS n T tb (G + 500) 0 a1 x1 m1 := by
  unfold f_E_send f_M_send
  rcases ix4 r (n := 4) (M := 4) (by decide) (by decide) with h0 | h0 | ⟨h0, h1, j, hj, rfl⟩
  · rw [px_isRoute0 (Or.inl h0), zcall, if_pos rfl, pm_out1 (Or.inl h0), zcall, if_neg (by decide)]
    exact ⟨-1, a, x, m, rfl, rfl, ha, RS_mono h (by omega) (Nat.le_refl _)⟩
  · have h3 : ¬ r ≤ 3 := by
      rw [i32le] at h0 ⊢
      have e1 : (4 : Int32).toInt = 4 := by decide
      have e2 : (3 : Int32).toInt = 3 := by decide
      omega
    rw [px_isRoute0 (Or.inr h0), zcall, if_pos rfl, pm_out1 (Or.inr h3), zcall, if_neg (by decide)]
    exact ⟨-1, a, x, m, rfl, rfl, ha, RS_mono h (by omega) (Nat.le_refl _)⟩
  · have h3 : nI j ≤ 3 := nI_le (b := 3) (by omega) (by omega)
    rw [px_isRoute hj, zcall, if_neg (show ¬ (1 : Int32) = 0 by decide), zlev, pm_out h0 h3, zcall, if_pos rfl, zlev]
    have R0 := RS_att h 0
    obtain ⟨i5, i35, i36, i0, f, hf, i4⟩ := idle_rdy R0
    have hadd := px_add (k0 := 43) (n0 := 401) (a1 := nI (41 * j)) (a2 := b) (a3 := y) (x := ze_u x 0 12 (nI 0)) (s := 0) (by omega) (by omega) i0 i4 i5 hf (by omega)
    rw [show (f + 0) % 401 = f by omega] at hadd
    obtain ⟨oc, a1, x1, m1, k1, k2, k3, k4⟩ := send_core pr (b := b) (y := y) (x2 := ze_u (ze_u (ze_u (ze_u (ze_u x 0 12 (nI 0)) 44 f (nI (41 * j))) 45 f b) 46 f y) 43 5 (nI 1)) R0 hG hj i4 hf (zu_s _ _ _ _) (by simp (disch := omega) only [zu_n, zu_s]) (by simp (disch := omega) only [zu_n, zu_s]) (by simp (disch := omega) only [zu_n, zu_s]) (fun k i c1 c2 => by rw [zu_n _ _ _ _ (by omega), zu_n _ _ _ _ (by omega), zu_n _ _ _ _ (by omega), zu_n _ _ _ _ (by omega)])
    have em : nI j * 41 = nI (41 * j) := by rw [show (41 : Int32) = nI 41 from rfl, pk_mul, Nat.mul_comm]
    refine ⟨nI oc, a1, x1, m1, ?_, k2, k3, k4⟩
    rw [em, show f_L_add 43 401 (nI (41 * j)) b y (ze_u x 0 12 0) = _ from hadd, zcall]
    have k1' : f_E_runReady (ze_u (ze_u (ze_u (ze_u (ze_u x 0 12 (nI 0)) 44 f (nI (41 * j))) 45 f b) 46 f y) 43 5 (nI (0 + 1))) = some (nI oc, x1) := k1
    rw [k1', zcall]
/-- the reference's queue moves up -/
theorem wk_sh {s : Nat} {b1 b2 b3 : Int32} (hs : s ≤ 7) (kk : ze_H → Option (Int32 × ze_H)) : ∀ (d j N : Nat) (m : ze_H), m 75 18 = nI s → j + d = s → d < N → ∃ m1, f_M_work_L43 b1 b2 b3 kk N (nI j) m = kk m1 ∧ ∀ k i, m1 k i = if 91 ≤ k ∧ k ≤ 93 ∧ j ≤ i ∧ i < s then m k (i + 1) else m k i
  | 0, j, N, m, e5, hj, hN => by
    obtain ⟨N, rfl⟩ : ∃ N', N = N' + 1 := ⟨N - 1, by omega⟩
    refine ⟨m, ?_, fun k i => by rw [if_neg (by omega)]⟩
    rw [f_M_work_L43]
    rw [e5, if_pos (nI_le (by omega) (by omega))]
  | d + 1, j, N, m, e5, hj, hN => by
    obtain ⟨N, rfl⟩ : ∃ N', N = N' + 1 := ⟨N - 1, by omega⟩
    obtain ⟨m1, h1, h2⟩ := wk_sh (b1 := b1) (b2 := b2) (b3 := b3) hs kk d (j + 1) N (ze_u (ze_u (ze_u m 91 j (m 91 (j + 1))) 92 j (m 92 (j + 1))) 93 j (m 93 (j + 1))) (by simp (disch := omega) only [zu_n]; exact e5) (by omega) (by omega)
    refine ⟨m1, ?_, fun k i => ?_⟩
    · rw [f_M_work_L43]
      rw [e5, if_neg (nI_ge (by omega) (by omega)), nI_1]
      simp (disch := omega) only [zi_N, nI_clamp, zlvN, zleN, zu_n]
      exact h1
    · rw [h2]
      by_cases c : 91 ≤ k ∧ k ≤ 93 ∧ j + 1 ≤ i ∧ i < s
      · rw [if_pos c, if_pos (by omega)]
        simp (disch := omega) only [zu_n]
      · rw [if_neg c]
        by_cases c2 : 91 ≤ k ∧ k ≤ 93 ∧ i = j
        · rw [if_pos (by omega)]
          obtain ⟨c3, c4, rfl⟩ := c2
          have hk : k = 91 ∨ k = 92 ∨ k = 93 := by omega
          rcases hk with rfl | rfl | rfl <;> simp (disch := omega) only [zu_n, zu_s]
        · rw [if_neg (by omega)]
          simp (disch := omega) only [zu_n]
theorem sim_work (pr : PR n T tb) {G a : Nat} {x m : ze_H} (h : RS n T tb G 0 a x m) (hG : G + 500 < 2 ^ 28) (ha : a ≤ 100) : ∃ res a1 x1 m1, f_E_work x = some (res, x1) ∧ f_M_work m = some (res, m1) ∧ a1 ≤ 100 ∧ RS n T tb (G + 500) 0 a1 x1 m1 := by
  have hq := h.2.2.2.2.2.2.1
  obtain ⟨fq, sq, q1, q2, q3, q4, q5, q6, q7⟩ := hq
  unfold f_E_work f_M_work
  rw [q5, q6]
  by_cases c0 : sq = 0
  · subst c0
    rw [if_pos (show nI 0 = 0 from rfl), if_pos (show nI 0 = 0 from rfl)]
    exact ⟨-1, a, x, m, rfl, rfl, ha, RS_mono h (by omega) (Nat.le_refl _)⟩
  · obtain ⟨s, rfl⟩ : ∃ s', sq = s' + 1 := ⟨sq - 1, by omega⟩
    obtain ⟨t, t1, t2, t3, t4, t5⟩ := q7 0 (by omega)
    rw [Nat.add_zero, Nat.mod_eq_of_lt q1] at t2 t4 t5
    have z0 : ∀ t, ze_in (0 : Int32) 8 t = t := fun t => zi_nI (j := 0) (by omega) (by omega) t
    have c00 : Int32.toNatClampNeg 0 = 0 := rfl
    obtain ⟨m1, w1, w2⟩ := wk_sh (b1 := m 91 0) (b2 := m 92 0) (b3 := m 93 0) (s := s) (by omega) (fun v10 => ze_call (f_M_send (m 91 0) (m 92 0) (m 93 0) v10) (fun r11 v12 => some (r11, v12))) s 0 200000 (ze_u m 75 18 (nI s)) (zu_s _ _ _ _) (by omega) (by omega)
    have w1' : f_M_work_L43 (m 91 0) (m 92 0) (m 93 0) (fun v10 => ze_call (f_M_send (m 91 0) (m 92 0) (m 93 0) v10) (fun r11 v12 => some (r11, v12))) 200000 0 (ze_u m 75 18 (nI s)) = _ := w1
    rw [if_neg (nI_ne0 (by omega) (by omega)), if_neg (nI_ne0 (by omega) (by omega)), nI_pred]
    simp only [z0, c00, zleN, zlvN]
    rw [w1']
    -- the state with the first copy gone
    have hx1 : ∀ k i, ¬ (k = 39 ∧ (i = 4 ∨ i = 5)) → ze_u (ze_u x 39 4 (nI ((fq + 1) % 8))) 39 5 (nI s) k i = x k i := fun k i hk => by rw [zu_n _ _ _ _ (by omega), zu_n _ _ _ _ (by omega)]
    have hm1 : ∀ k i, ¬ (k = 75 ∧ i = 18) → ¬ (91 ≤ k ∧ k ≤ 93) → m1 k i = m k i := fun k i c1 c2 => by rw [w2, if_neg (by omega), zu_n _ _ _ _ (by omega)]
    have R1 : RS n T tb G 0 a (ze_u (ze_u x 39 4 (nI ((fq + 1) % 8))) 39 5 (nI s)) m1 := by
      obtain ⟨h1, h2, h3, h4, h5, h6, h7, h8, h9, h10, h11, h12⟩ := h
      refine ⟨kp_tab h1 (fun k i hk => hx1 k i (by omega)), kp_mt h2 (fun k i hk => hm1 k i (by omega) (by omega)), kp_cnt h3 (fun k i hk => hx1 k i (by omega)) (fun k i hk => hm1 k i (by omega) (by omega)), kp_cls h4 (fun k i hk => hx1 k i (by omega)) (fun k i hk => hm1 k i (by omega) (by omega)), kp_ep h5 (fun k i hk => hx1 k i (by omega)) (fun k i hk => hm1 k i (by omega) (by omega)), kp_got h6 (fun k i hk => hx1 k i (by omega)) (fun k i hk => hm1 k i (by omega) (by omega)), ⟨(fq + 1) % 8, s, Nat.mod_lt _ (by omega), by omega, by rw [hx1 _ _ (by omega)]; exact q3, by rw [zu_n _ _ _ _ (by omega), zu_s], zu_s _ _ _ _, ?_, fun i hi => ?_⟩, kp_grp h8 (fun k i hk => hx1 k i (by omega)) (fun k i hk => hm1 k i (by omega) (by omega)), kp_i h9 (fun k i hk => hx1 k i (by omega)) (fun k i hk => hm1 k i (by omega) (by omega)), kp_q h10 (fun k i hk => hx1 k i (by omega)) (fun k i hk => hm1 k i (by omega) (by omega)), kp_rdy h11 (Nat.le_refl _) (fun k i hk => hx1 k i (by omega)) (fun k i hk => hm1 k i (by omega) (by omega)), kp_att h12 (fun k i hk => hx1 k i (by omega)) (fun k i hk => hm1 k i (by omega) (by omega))⟩
      · rw [w2, if_neg (by omega), zu_s]
      · obtain ⟨u, u1, u2, u3, u4, u5⟩ := q7 (i + 1) (by omega)
        have hm9 : ∀ k, 91 ≤ k → k ≤ 93 → m1 k i = m k (i + 1) := fun k c1 c2 => by rw [w2, if_pos (by omega), zu_n _ _ _ _ (by omega)]
        refine ⟨u, u1, ?_, by rw [hm9 91 (by omega) (by omega)]; exact u3, ?_, ?_⟩
        · rw [hx1 _ _ (by omega), show ((fq + 1) % 8 + i) % 8 = (fq + (i + 1)) % 8 by omega]
          exact u2
        · rw [hx1 _ _ (by omega), hm9 92 (by omega) (by omega), show ((fq + 1) % 8 + i) % 8 = (fq + (i + 1)) % 8 by omega]
          exact u4
        · rw [hx1 _ _ (by omega), hm9 93 (by omega) (by omega), show ((fq + 1) % 8 + i) % 8 = (fq + (i + 1)) % 8 by omega]
          exact u5
    have R0 := RS_att R1 0
    obtain ⟨i5, i35, i36, i0, f, hf, i4⟩ := idle_rdy R0
    have i4x : x 43 4 = nI f := by
      simp (disch := omega) only [zu_n] at i4
      exact i4
    have i5x : x 43 5 = nI 0 := by
      simp (disch := omega) only [zu_n] at i5
      exact i5
    have i0x : x 43 0 = nI 401 := by
      simp (disch := omega) only [zu_n] at i0
      exact i0
    have hadd := px_add (k0 := 43) (n0 := 401) (a1 := nI (41 * t)) (a2 := m 92 0) (a3 := m 93 0) (x := ze_u x 0 12 (nI 0)) (f := f) (s := 0) (by omega) (by omega) (by rw [zu_n _ _ _ _ (by omega)]; exact i0x) (by rw [zu_n _ _ _ _ (by omega)]; exact i4x) (by rw [zu_n _ _ _ _ (by omega)]; exact i5x) hf (by omega)
    rw [show (f + 0) % 401 = f by omega] at hadd
    have hdrop : f_L_dropFirst 39 8 (ze_u (ze_u (ze_u (ze_u (ze_u x 0 12 (nI 0)) 44 f (nI (41 * t))) 45 f (m 92 0)) 46 f (m 93 0)) 43 5 (nI 1)) = some (0, ze_u (ze_u (ze_u (ze_u (ze_u (ze_u (ze_u x 0 12 (nI 0)) 44 f (nI (41 * t))) 45 f (m 92 0)) 46 f (m 93 0)) 43 5 (nI 1)) 39 4 (nI ((fq + 1) % 8))) 39 5 (nI s)) := by
      unfold f_L_dropFirst
      simp (disch := omega) only [zu_n, q5, q3, q4]
      rw [if_neg (nI_nle (by omega) (by omega)), if_neg (show ¬ nI 8 = 0 by decide), nI_1, pk_rem (by omega) (by omega) (by omega), zlev, zlev]
      simp (disch := omega) only [zu_n, q5, nI_pred]
    obtain ⟨oc, a1, x1, m2, k1, k2, k3, k4⟩ := send_core pr (b := m 92 0) (y := m 93 0) (x2 := ze_u (ze_u (ze_u (ze_u (ze_u (ze_u (ze_u x 0 12 (nI 0)) 44 f (nI (41 * t))) 45 f (m 92 0)) 46 f (m 93 0)) 43 5 (nI 1)) 39 4 (nI ((fq + 1) % 8))) 39 5 (nI s)) R0 hG t1 i4 hf (by simp (disch := omega) only [zu_n, zu_s]) (by simp (disch := omega) only [zu_n, zu_s]) (by simp (disch := omega) only [zu_n, zu_s]) (by simp (disch := omega) only [zu_n, zu_s]) (fun k i c1 c2 => by
      have hL : ∀ (w : ze_H), ze_u (ze_u (ze_u (ze_u (ze_u (ze_u (ze_u x 0 12 (nI 0)) 44 f (nI (41 * t))) 45 f (m 92 0)) 46 f (m 93 0)) 43 5 (nI 1)) 39 4 (nI ((fq + 1) % 8))) 39 5 (nI s) k i = ze_u (ze_u (ze_u x 39 4 (nI ((fq + 1) % 8))) 39 5 (nI s)) 0 12 (nI 0) k i := fun _ => by
        simp only [zu_at]
        by_cases d1 : k = 39 ∧ i = 5
        · rw [if_pos d1, if_neg (show ¬ (k = 0 ∧ i = 12) by omega), if_pos d1]
        · rw [if_neg d1, if_neg d1]
          by_cases d2 : k = 39 ∧ i = 4
          · rw [if_pos d2, if_neg (show ¬ (k = 0 ∧ i = 12) by omega), if_pos d2]
          · rw [if_neg d2, if_neg d2, if_neg (show ¬ (k = 43 ∧ i = 5) by omega), if_neg (show ¬ (k = 46 ∧ i = f) by omega), if_neg (show ¬ (k = 45 ∧ i = f) by omega), if_neg (show ¬ (k = 44 ∧ i = f) by omega)]
      exact hL x)
    refine ⟨nI oc, a1, x1, m2, ?_, ?_, k3, k4⟩
    · have e4' : ze_u x 0 12 0 39 4 = nI fq := by rw [zu_n _ _ _ _ (by omega)]; exact q4
      rw [e4', nI_clamp (by omega), zi_nI q1 (by omega), zi_nI q1 (by omega), zi_nI q1 (by omega), zu_n _ _ _ _ (by omega), zu_n _ _ _ _ (by omega), zu_n _ _ _ _ (by omega), t2, t4, t5, show f_L_add 43 401 (nI (41 * t)) (m 92 0) (m 93 0) (ze_u x 0 12 0) = _ from hadd, zcall]
      have hdrop' : f_L_dropFirst 39 8 (ze_u (ze_u (ze_u (ze_u (ze_u x 0 12 (nI 0)) 44 f (nI (41 * t))) 45 f (m 92 0)) 46 f (m 93 0)) 43 5 (nI (0 + 1))) = _ := hdrop
      rw [hdrop', zcall, k1, zcall]
    · have hr0 : ¬ nI t < 0 := nI_pos (by omega)
      have hr3 : nI t ≤ 3 := nI_le (b := 3) (by omega) (by omega)
      rw [t3]
      unfold f_M_send
      rw [pm_out hr0 hr3, zcall, if_pos rfl, zlev]
      have k2' : ze_call (f_M_run (nI t) 0 (m 92 0) (m 93 0) (ze_u m1 75 57 0)) (fun r4 v5 => ze_let r4 (fun x6 => ze_call (f_M_runReady v5) (fun r7 v8 => some (x6, v8)))) = some (nI oc, m2) := k2
      rw [k2', zcall]
end SE
