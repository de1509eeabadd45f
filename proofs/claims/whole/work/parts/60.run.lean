/-! PURE: an exchange, from its beginning to its end; what is ready -/
section RN
variable {n : Nat → Nat} {T : Nat → Nat → Nat} {tb : ze_H}
/-- an exchange that has begun runs to its end -/
theorem run1 (pr : PR n T tb) {G R a r p : Nat} {x m : ze_H} (h : RS n T tb G R a x m) (ha : a ≤ 100) (hG : G + 5 * (100 - a) < 2 ^ 28) (hR : R + 4 * (100 - a) ≤ 401) (hE : EX 0 0 x m) (e53 : m 75 53 = nI r) (e54 : m 75 54 = nI p) (e44 : m 75 44 = nI 0) (hl : lsx n T tb r p) :
    ∃ oc a1 x1 x2 m1, 0 < oc ∧ oc ≤ 7 ∧ a ≤ a1 ∧ a1 ≤ 100 ∧ f_xRL 17 58 (nI (41 * r + p)) 0 x = some (0, x1) ∧ ((x1 58 3 = 0 ∧ f_E_end 58 1 x1 = some (0, x2)) ∨ (¬ x1 58 3 = 0 ∧ x2 = x1)) ∧ x2 58 3 = nI oc ∧ f_M_run_L33 (fun x27 v28 => some (x27, v28)) 200000 0 0 m = some (nI oc, m1) ∧ RS n T tb (G + 5 * (a1 - a)) (R + 4 * (a1 - a)) a1 x2 m1 ∧ m1 75 35 = m 75 35 := by
  obtain ⟨hr, hp, f, e, hsl, hwt⟩ := hl
  have hz := (pr r hr).1
  have h40 := hz.1
  have u := sl_ok hz f 0 p e hp hsl
  obtain ⟨oc, k, a1, x1, m1, k1, k2, ⟨o1, o2, o3, o4, o5, o6, o7, o8, o9⟩, k4⟩ := LX_all pr 16 0 (by omega) f 0 r p e 0 0 0 G R a x m hr (by omega) (by omega) (Nat.le_refl _) (Nat.le_refl _) (Nat.le_refl _) ha hG hR h hE e53 e54 e44 hp hsl hwt
  have e200 : ∃ N, 200000 = N + 1 + k := ⟨199999 - k, by omega⟩
  obtain ⟨N, hN⟩ := e200
  by_cases c : oc = 0
  · subst c
    obtain ⟨g1, g2, g3, g4⟩ := o8 rfl
    have hend : e = n r := by
      rcases Nat.lt_or_ge e (n r) with q | q
      · have := (hz.2.1 e q).1
        have := u.2.2.2 rfl
        omega
      · omega
    refine ⟨1, a1, x1, _, cup 1 m1, by omega, by omega, o1, o2, k1, Or.inl ⟨g1.2.2.2.1, px_end (e := 0) (oc := 1) (by omega) x1 (by omega)⟩, by rw [zu_n _ _ _ _ (by omega), zu_s], ?_, RS_end (e := 0) o4 (by omega) (by omega) (by omega), by rw [cup_n (by omega)]; exact o6 75 35 (by omega)⟩
    have hrun : f_M_run_L33 (fun x27 v28 => some (x27, v28)) (N + 1 + k) 0 (nI 0) m = _ := (k4 (fun x27 v28 => some (x27, v28)) (N + 1) 0 (by omega)).1 rfl
    have hN1 : 0 < N := by omega
    obtain ⟨N', rfl⟩ : ∃ N', N = N' + 1 := ⟨N - 1, by omega⟩
    rw [hN, show (0 : Int32) = nI 0 from rfl]
    refine Eq.trans hrun ?_
    rw [mr_close hr hz o4.2.1 g2 g3 (by omega) (Or.inl hend) _ (by omega)]
    have hcl : f_M_close m1 = some (nI 1, cup 1 m1) := by
      unfold f_M_close
      rw [g4, if_pos (show nI 0 = 0 from rfl), show (1 : Int32) = nI 1 from rfl, fin_eq (by omega) (by omega)]
      unfold fin2
      rw [cup_n (by omega), o7, if_pos (show nI 0 = 0 from rfl), zcall]
    rw [hcl, zcall, f_M_run_L33]
    rw [if_neg (show ¬ nI 1 = 0 by decide), ite_self]
  · obtain ⟨g1, g2, t1, g3, g4, g5, g6⟩ := o9 c
    refine ⟨oc, a1, x1, x1, m1, by omega, o3, o1, o2, k1, Or.inr ⟨by rw [show (58 : Nat) = 58 + 0 from rfl, g1]; exact nI_ne0 (Nat.pos_of_ne_zero c) (by omega), rfl⟩, g1, ?_, o4, o6 75 35 (by omega)⟩
    have hN1 : 0 < N := by omega
    obtain ⟨N', rfl⟩ : ∃ N', N = N' + 1 := ⟨N - 1, by omega⟩
    have hrun := (k4 (fun x27 v28 => some (x27, v28)) (N' + 1) 0 (by omega)).2 c
    rw [show (200000 : Nat) = N' + 1 + k + 1 by omega, show (0 : Int32) = nI 0 from rfl, show (0 : Nat) = 0 from rfl]
    refine Eq.trans hrun ?_
    have hf : fin2 (nI oc) m1 = some (nI oc, m1) := by
      unfold fin2
      rw [o7, if_pos (show nI 0 = 0 from rfl)]
    rw [hf, zcall, f_M_run_L33]
    rw [if_neg (nI_ne0 (Nat.pos_of_ne_zero c) (by omega)), ite_self]
/-- the first that is ready leaves the line -/
theorem RS_pop {G R a f s b : Nat} {x m : ze_H} (h : RS n T tb G R a x m) (e4 : x 43 4 = nI f) (e5 : x 43 5 = nI (s + 1)) (e35 : m 75 35 = nI b) (hf : f < 401) (hs : s < 1000) (hb : b < 1000) (hR : R ≤ 1000) : f_L_dropFirst 43 401 x = some (0, ze_u (ze_u x 43 4 (nI ((f + 1) % 401))) 43 5 (nI s)) ∧ RS n T tb G R a (ze_u (ze_u x 43 4 (nI ((f + 1) % 401))) 43 5 (nI s)) (ze_u m 75 35 (nI (b + 1))) ∧ ∃ r p, lsx n T tb r p ∧ x 44 f = nI (41 * r + p) ∧ m 105 b = nI (64 * r + p) ∧ x 45 f = m 106 b ∧ x 46 f = m 107 b ∧ m 75 36 = nI (b + (s + 1)) ∧ b + (s + 1) ≤ R := by
  obtain ⟨h1, h2, h3, h4, h5, h6, h7, h8, h9, h10, ⟨f', s', b', w1, w2, w3, w4, w5, w6, w7, w8⟩, h12⟩ := h
  have ef : f' = f := by
    have : nI f' = nI f := by rw [← w4, e4]
    rw [nI_eq (by omega) (by omega)] at this
    exact this
  have es : s' = s + 1 := by
    have : nI s' = nI (s + 1) := by rw [← w5, e5]
    rw [nI_eq (by omega) (by omega)] at this
    exact this
  have eb : b' = b := by
    have : nI b' = nI b := by rw [← w6, e35]
    rw [nI_eq (by omega) (by omega)] at this
    exact this
  subst ef es eb
  have hx : ∀ k i, ¬ (k = 43 ∧ (i = 4 ∨ i = 5)) → ze_u (ze_u x 43 4 (nI ((f' + 1) % 401))) 43 5 (nI s) k i = x k i := fun k i hk => by rw [zu_n _ _ _ _ (by omega), zu_n _ _ _ _ (by omega)]
  have hm : ∀ k i, ¬ (k = 75 ∧ i = 35) → ze_u m 75 35 (nI (b' + 1)) k i = m k i := fun k i hk => zu_n _ _ _ _ hk
  refine ⟨?_, ⟨kp_tab h1 (fun k i hk => hx k i (by omega)), kp_mt h2 (fun k i hk => hm k i (by omega)), kp_cnt h3 (fun k i hk => hx k i (by omega)) (fun k i hk => hm k i (by omega)), kp_cls h4 (fun k i hk => hx k i (by omega)) (fun k i hk => hm k i (by omega)), kp_ep h5 (fun k i hk => hx k i (by omega)) (fun k i hk => hm k i (by omega)), kp_got h6 (fun k i hk => hx k i (by omega)) (fun k i hk => hm k i (by omega)), kp_que h7 (fun k i hk => hx k i (by omega)) (fun k i hk => hm k i (by omega)), kp_grp h8 (fun k i hk => hx k i (by omega)) (fun k i hk => hm k i (by omega)), kp_i h9 (fun k i hk => hx k i (by omega)) (fun k i hk => hm k i (by omega)), kp_q h10 (fun k i hk => hx k i (by omega)) (fun k i hk => hm k i (by omega)), ⟨(f' + 1) % 401, s, b' + 1, Nat.mod_lt _ (by omega), by omega, by rw [hx _ _ (by omega)]; exact w3, by rw [zu_n _ _ _ _ (by omega), zu_s], zu_s _ _ _ _, zu_s _ _ _ _, by rw [hm _ _ (by omega), w7]; congr 1; omega, fun i hi => ?_⟩, kp_att h12 (fun k i hk => hx k i (by omega)) (fun k i hk => hm k i (by omega))⟩, ?_⟩
  · unfold f_L_dropFirst
    rw [w5, if_neg (nI_nle (by omega) (by omega)), w3, if_neg (nI_ne0 (by omega) (by omega)), w4, nI_1, pk_rem (by omega) (by omega) (by omega), zlev, zlev, zu_n _ _ _ _ (by omega), w5, nI_pred]
  · have := w8 (i + 1) (by omega)
    unfold y_row
    rw [hx 44 _ (by omega), hx 45 _ (by omega), hx 46 _ (by omega), hm 105 _ (by omega), hm 106 _ (by omega), hm 107 _ (by omega), show ((f' + 1) % 401 + i) % 401 = (f' + (i + 1)) % 401 by omega, show b' + 1 + i = b' + (i + 1) by omega]
    exact this
  · obtain ⟨r, p, y1, y2, y3, y4, y5⟩ := w8 0 (by omega)
    rw [Nat.add_zero, Nat.add_zero, Nat.mod_eq_of_lt w1] at *
    exact ⟨r, p, y1, y2, y3, y4, y5, w7, by omega⟩
/-- how an exchange begins in the reference -/
theorem pm_run {r p : Nat} {b y : Int32} {m : ze_H} : f_M_run (nI r) (nI p) b y m = f_M_run_L33 (fun x27 v28 => some (x27, v28)) 200000 0 0 (ze_u (ze_u (ze_u (ze_u (ze_u (ze_u (ze_u (ze_u m 75 40 0) 75 44 0) 75 53 (nI r)) 75 54 (nI p)) 108 0 b) 109 0 y) 110 0 b) 119 0 (m 119 0 + 1)) := by
  unfold f_M_run
  have e40 : ze_u (ze_u (ze_u (ze_u m 75 40 0) 75 44 0) 75 53 (nI r)) 75 54 (nI p) 75 40 = nI 0 := by
    simp (disch := omega) only [zu_n, zu_s]
    rfl
  rw [zlev, zlev, zlev, zlev, pm_begin (by omega) e40, zcall, zlet, zlet]
  simp (disch := omega) only [zu_n]
/-- the first that is ready runs, on both sides -/
theorem it1 (pr : PR n T tb) {G R a s b : Nat} {x m : ze_H} (h : RS n T tb G R a x m) (ha : a ≤ 100) (hG : G + 5 * (100 - a) < 2 ^ 28) (hR : R + 4 * (100 - a) ≤ 401) (e5 : x 43 5 = nI (s + 1)) (hs : s < 1000) (e35 : m 75 35 = nI b) (hb : b < 1000) :
    ∃ oc a1 x1 m1, 0 < oc ∧ oc ≤ 7 ∧ a ≤ a1 ∧ a1 ≤ 100 ∧ b + (s + 1) ≤ R ∧ RS n T tb (G + 5 * (a1 - a)) (R + 4 * (a1 - a)) a1 x1 m1 ∧ m1 75 35 = nI (b + 1) ∧ (∀ kk N l1 k, k < 1000 → f_E_runReady_L11 58 kk (N + 1) l1 (nI k) x = f_E_runReady_L11 58 kk N (if k = 0 then nI oc else l1) (nI (k + 1)) x1) ∧ ∀ kk N, f_M_runReady_L0 kk (N + 1) m = f_M_runReady_L0 kk N m1 := by
  obtain ⟨f, s', b', w1, w2, w3, w4, w5, w6, w7, w8⟩ := h.2.2.2.2.2.2.2.2.2.2.1
  have RB := RS_begin (b := x 45 f) (y := x 46 f) (e1 := 0) (l1 := 0) h (by omega) (by omega)
  have hxb : ∀ k i, ¬ (k = 58 + 0) → ¬ (k = 74 ∧ i = 0) → ze_u (ze_u (ze_u (ze_u (ze_u x (58 + 0) 0 (x 45 f)) (58 + 0) 1 (x 46 f)) (58 + 0) 2 (x 45 f)) (58 + 0) 3 0) 74 0 (x 74 0 + 1) k i = x k i := fun k i c1 c2 => by simp (disch := omega) only [zu_n]
  have hpx := px_begin (x := x) (b := x 45 f) (y := x 46 f) (e1 := 0) (by omega)
  have hxE : ∀ i, i < 4 → ze_u (ze_u (ze_u (ze_u (ze_u x (58 + 0) 0 (x 45 f)) (58 + 0) 1 (x 46 f)) (58 + 0) 2 (x 45 f)) (58 + 0) 3 0) 74 0 (x 74 0 + 1) 58 i = if i = 0 then x 45 f else if i = 1 then x 46 f else if i = 2 then x 45 f else 0 := fun i hi => by
    have hc : i = 0 ∨ i = 1 ∨ i = 2 ∨ i = 3 := by omega
    rcases hc with rfl | rfl | rfl | rfl <;> simp (disch := omega) only [zu_n, zu_s, ↓reduceIte] <;> rfl
  generalize ze_u (ze_u (ze_u (ze_u (ze_u x (58 + 0) 0 (x 45 f)) (58 + 0) 1 (x 46 f)) (58 + 0) 2 (x 45 f)) (58 + 0) 3 0) 74 0 (x 74 0 + 1) = xb at RB hxb hpx hxE
  obtain ⟨d1, d2, r, p, d3, d4, d5, d6, d7, d8, d9⟩ := RS_pop (s := s) (b := b) RB (by rw [hxb _ _ (by omega) (by omega)]; exact w4) (by rw [hxb _ _ (by omega) (by omega)]; exact e5) (by simp (disch := omega) only [zu_n]; exact e35) w1 hs hb (by omega)
  have hr := d3.1
  have hp40 : p ≤ 40 := by
    have := d3.2.1
    have := (pr r hr).1.1
    omega
  rw [hxb _ _ (by omega) (by omega)] at d4
  have d5' : m 105 b = nI (64 * r + p) := by
    simp (disch := omega) only [zu_n] at d5
    exact d5
  have d6' : x 45 f = m 106 b := by
    rw [hxb _ _ (by omega) (by omega)] at d6
    simp (disch := omega) only [zu_n] at d6
    exact d6
  have d7' : x 46 f = m 107 b := by
    rw [hxb _ _ (by omega) (by omega)] at d7
    simp (disch := omega) only [zu_n] at d7
    exact d7
  have d8' : m 75 36 = nI (b + (s + 1)) := by
    simp (disch := omega) only [zu_n] at d8
    exact d8
  have hxd : ∀ k i, ¬ (k = 43) → ze_u (ze_u xb 43 4 (nI ((f + 1) % 401))) 43 5 (nI s) k i = xb k i := fun k i hk => by rw [zu_n _ _ _ _ (by omega), zu_n _ _ _ _ (by omega)]
  generalize ze_u (ze_u xb 43 4 (nI ((f + 1) % 401))) 43 5 (nI s) = xd at d1 d2 hxd
  -- the reference
  have hmE : ∃ mb, mb = ze_u (ze_u (ze_u (ze_u (ze_u (ze_u (ze_u (ze_u (ze_u m 75 35 (nI (b + 1))) 75 40 0) 75 44 0) 75 53 (nI r)) 75 54 (nI p)) 108 0 (m 106 b)) 109 0 (m 107 b)) 110 0 (m 106 b)) 119 0 (m 119 0 + 1) := ⟨_, rfl⟩
  obtain ⟨mb, hmb⟩ := hmE
  have RM : RS n T tb G R a xd mb := RS_kp d2 (fun k i hk => rfl) (fun k i c1 c2 => by
    rw [hmb]
    by_cases c3 : k = 75 ∧ i = 35
    · rw [c3.1, c3.2]
      simp (disch := omega) only [zu_n, zu_s]
    · by_cases c4 : k = 119 ∧ i = 0
      · rw [c4.1, c4.2]
        simp (disch := omega) only [zu_n, zu_s]
      · simp (disch := omega) only [zu_n])
  have EM : EX 0 0 xd mb := by
    refine ⟨?_, ?_, ?_, ?_, ?_⟩
    · rw [hxd _ _ (by omega), hxE 0 (by omega), hmb, if_pos rfl, d6']
      simp (disch := omega) only [zu_n, zu_s]
    · rw [hxd _ _ (by omega), hxE 1 (by omega), hmb, if_neg (by omega), if_pos rfl, d7']
      simp (disch := omega) only [zu_n, zu_s]
    · rw [hxd _ _ (by omega), hxE 2 (by omega), hmb, if_neg (by omega), if_neg (by omega), if_pos rfl, d6']
      simp (disch := omega) only [zu_n, zu_s]
    · rw [hxd _ _ (by omega), hxE 3 (by omega), if_neg (by omega), if_neg (by omega), if_neg (by omega)]
    · rw [hmb]
      simp (disch := omega) only [zu_n, zu_s]
      rfl
  obtain ⟨oc, a1, x1, x2, m1, k1, k2, k3, k4, k5, k6, k7, k8, k9, k10⟩ := run1 pr (r := r) (p := p) RM ha hG hR EM (by rw [hmb]; simp (disch := omega) only [zu_n, zu_s]) (by rw [hmb]; simp (disch := omega) only [zu_n, zu_s]) (by rw [hmb]; simp (disch := omega) only [zu_n, zu_s]; rfl) d3
  have hrunm : f_M_run (nI r) (nI p) (m 106 b) (m 107 b) (ze_u m 75 35 (nI (b + 1))) = some (nI oc, m1) := by
    rw [pm_run, ← k8, hmb]
    congr 1
  refine ⟨oc, a1, x2, m1, k1, k2, k3, k4, d9, k9, by rw [k10, hmb]; simp (disch := omega) only [zu_n, zu_s], fun kk N l1 k hk => ?_, fun kk N => ?_⟩
  · rw [f_E_runReady_L11]
    have hpx' : f_E_begin 58 (x 45 f) (x 46 f) x = some (0, xb) := hpx
    rw [if_neg (show ¬ (100000 : Int32) ≤ nI k from nI_ge (b := 100000) (by omega) (by omega)), e5, if_neg (nI_nle (by omega) (by omega)), zlet, w4, zi_nI w1 (by omega), nI_clamp (by omega), zlet, zi_nI w1 (by omega), zi_nI w1 (by omega), hpx', zcall, d1, zcall, d4, k5, zcall]
    have hk0 : (nI k = 0) = (k = 0) := by rw [l_0, nI_eqP (by omega) (by omega)]
    rcases k6 with ⟨c1, c2⟩ | ⟨c1, c2⟩
    · rw [if_pos c1, c2, zcall, k7]
      simp only [zleN, nI_1, hk0]
      by_cases c : k = 0
      · rw [if_pos c, if_pos c]
      · rw [if_neg c, if_neg c]
    · subst c2
      rw [if_neg c1, k7]
      simp only [zleN, nI_1, hk0]
      by_cases c : k = 0
      · rw [if_pos c, if_pos c]
      · rw [if_neg c, if_neg c]
  · rw [f_M_runReady_L0]
    have e105 : ze_u m 75 35 (nI (b + 1)) 105 b = nI (64 * r + p) := by rw [zu_n _ _ _ _ (by omega)]; exact d5'
    have hdv : nI (64 * r + p) / 64 = nI r := by
      rw [show (64 : Int32) = nI 64 from rfl, pk_div (by omega) (by omega) (by omega)]
      congr 1
      omega
    have hrm : nI (64 * r + p) - nI r * 64 = nI p := by
      rw [show (64 : Int32) = nI 64 from rfl, pk_mul, pk_sub (by omega)]
      congr 1
      omega
    rw [d8', e35, if_neg (nI_ge (by omega) (by omega)), zlet, zlev, nI_1]
    simp (disch := omega) only [zi_N]
    rw [if_neg (show ¬ (64 : Int32) = 0 by decide), if_neg (show ¬ (64 : Int32) = 0 by decide), nI_clamp (by omega), e105, hdv, hrm, zu_n _ _ _ _ (by omega), zu_n _ _ _ _ (by omega), hrunm, zcall]
/-- all that is ready runs, on both sides -/
theorem it_all (pr : PR n T tb) : ∀ (c b G R a : Nat) (x m : ze_H), c + b = 402 → RS n T tb G R a x m → a ≤ 100 → G + 5 * (100 - a) < 2 ^ 28 → R + 4 * (100 - a) ≤ 401 → m 75 35 = nI b → b ≤ R →
    ∃ a1 x1 m1, a ≤ a1 ∧ a1 ≤ 100 ∧ RS n T tb (G + 5 * (a1 - a)) 401 a1 x1 m1 ∧ x1 43 5 = nI 0 ∧ (∀ kk N l1 k, 1 ≤ k → k + c < 900 → c < N → f_E_runReady_L11 58 kk N l1 (nI k) x = kk l1 x1) ∧ ∀ kk N, c < N → f_M_runReady_L0 kk N m = kk m1
  | 0, b, G, R, a, x, m, hc, h, ha, hG, hR, e35, hb => by omega
  | c + 1, b, G, R, a, x, m, hc, h, ha, hG, hR, e35, hb => by
    have hh := h.2.2.2.2.2.2.2.2.2.2.1
    obtain ⟨f, s, b', w1, w2, w3, w4, w5, w6, w7, w8⟩ := hh
    have eb : b' = b := by
      have : nI b' = nI b := by rw [← w6, e35]
      rw [nI_eq (by omega) (by omega)] at this
      exact this
    subst eb
    by_cases c0 : s = 0
    · subst c0
      refine ⟨a, x, m, Nat.le_refl _, ha, RS_mono h (by omega) (by omega), w5, fun kk N l1 k hk1 hk2 hN => ?_, fun kk N hN => ?_⟩
      · obtain ⟨N, rfl⟩ : ∃ N', N = N' + 1 := ⟨N - 1, by omega⟩
        rw [f_E_runReady_L11]
        rw [if_neg (show ¬ (100000 : Int32) ≤ nI k from nI_ge (b := 100000) (by omega) (by omega)), w5, if_pos (show nI 0 ≤ 0 by decide)]
      · obtain ⟨N, rfl⟩ : ∃ N', N = N' + 1 := ⟨N - 1, by omega⟩
        rw [f_M_runReady_L0]
        rw [w7, w6, if_pos (nI_le (by omega) (by omega))]
    · obtain ⟨s, rfl⟩ : ∃ s', s = s' + 1 := ⟨s - 1, by omega⟩
      obtain ⟨oc, a1, x1, m1, k1, k2, k3, k4, k5, k6, k7, k8, k9⟩ := it1 pr h ha hG hR w5 (by omega) e35 (by omega)
      obtain ⟨a2, x2, m2, j1, j2, j3, j4, j5, j6⟩ := it_all pr c (b' + 1) (G + 5 * (a1 - a)) (R + 4 * (a1 - a)) a1 x1 m1 (by omega) k6 k4 (by omega) (by omega) k7 (by omega)
      refine ⟨a2, x2, m2, by omega, j2, RS_mono j3 (by omega) (Nat.le_refl _), j4, fun kk N l1 k hk1 hk2 hN => ?_, fun kk N hN => ?_⟩
      · obtain ⟨N, rfl⟩ : ∃ N', N = N' + 1 := ⟨N - 1, by omega⟩
        rw [k8 kk N l1 k (by omega), if_neg (by omega), j5 kk N l1 (k + 1) (by omega) (by omega) (by omega)]
      · obtain ⟨N, rfl⟩ : ∃ N', N = N' + 1 := ⟨N - 1, by omega⟩
        rw [k9, j6 kk N (by omega)]
/-- nothing is ready: the reference's rows begin anew -/
theorem RS_idle {G R a : Nat} {x m : ze_H} (h : RS n T tb G R a x m) (e5 : x 43 5 = nI 0) : RS n T tb G 0 a x (ze_u (ze_u m 75 35 0) 75 36 0) := by
  obtain ⟨h1, h2, h3, h4, h5, h6, h7, h8, h9, h10, ⟨f, s, b, w1, w2, w3, w4, w5, w6, w7, w8⟩, h12⟩ := h
  have hm : ∀ k i, ¬ (k = 75 ∧ (i = 35 ∨ i = 36)) → ze_u (ze_u m 75 35 0) 75 36 0 k i = m k i := fun k i hk => by rw [zu_n _ _ _ _ (by omega), zu_n _ _ _ _ (by omega)]
  exact ⟨h1, kp_mt h2 (fun k i hk => hm k i (by omega)), kp_cnt h3 (fun k i hk => rfl) (fun k i hk => hm k i (by omega)), kp_cls h4 (fun k i hk => rfl) (fun k i hk => hm k i (by omega)), kp_ep h5 (fun k i hk => rfl) (fun k i hk => hm k i (by omega)), kp_got h6 (fun k i hk => rfl) (fun k i hk => hm k i (by omega)), kp_que h7 (fun k i hk => rfl) (fun k i hk => hm k i (by omega)), kp_grp h8 (fun k i hk => rfl) (fun k i hk => hm k i (by omega)), kp_i h9 (fun k i hk => rfl) (fun k i hk => hm k i (by omega)), kp_q h10 (fun k i hk => rfl) (fun k i hk => hm k i (by omega)), ⟨f, 0, 0, w1, by omega, w3, w4, e5, by rw [zu_n _ _ _ _ (by omega), zu_s]; rfl, by rw [zu_s]; rfl, fun i hi => by omega⟩, kp_att h12 (fun k i hk => rfl) (fun k i hk => hm k i (by omega))⟩
end RN
