/-! PURE: the step ? -/
section CH
variable {n : Nat → Nat} {T : Nat → Nat → Nat} {tb x m : ze_H} {G R a r p q e l t dd : Nat}
/-- a step that pushed a list, whole -/
theorem st_go {D f d' r' p' pe' : Nat} {A : Int32} {m4 : ze_H} (IH : LX n T tb (f_xRL D) (dd + 1)) (pr : PR n T tb) (hr : r < 4) (hr' : r' < 4) (hd' : d' ≤ 3) (hdd : dd + 1 ≤ 4 * r' + d') (he : e ≤ dd) (he16 : e < 16) (hlt : l ≤ t) (ht : t ≤ dd) (ca : a < 100) (hG : G + 5 * (100 - a) < 2 ^ 28) (hR : R + 4 * (100 - a) ≤ 401) (h : RS n T tb G R a x m) (hE : EX e l x m) (e53 : m 75 53 = nI r) (e54 : m 75 54 = nI p) (hp : p < n r) (h41 : ¬ T r p = 41) (hA : A = 0 ∨ A = 1)
    (hact : f_M_act (nI (T r p)) (ze_u (ze_u m 75 57 (nI (a + 1))) 75 56 0) = some (0, m4)) (hm4 : ∀ k i, ¬ (k = 75 ∧ (i = 44 ∨ i = 53 ∨ i = 54 ∨ i = 55 ∨ i = 56 ∨ i = 57)) → ¬ (111 ≤ k ∧ k ≤ 113 ∧ i = t) → m4 k i = m k i) (q57 : m4 75 57 = nI (a + 1)) (q53 : m4 75 53 = nI r') (q54 : m4 75 54 = nI p') (q44 : m4 75 44 = nI (t + 1)) (q111 : m4 111 t = A) (q112 : m4 112 t = nI r) (q113 : m4 113 t = nI q) (q56 : m4 75 56 = 0) (hp' : p' ≤ n r') (hsl : sl (T r') r' f d' p' = .inr pe') (hwt : wt (T r') r' tb 9 f d' p')
    (hatt : ∀ x1, f_xRL D (58 + e) (nI (41 * r' + p')) (nI (dd + 1)) (ze_u x 0 12 (nI (a + 1))) = some (0, x1) → f_E_attempt (f_xRL D) (58 + e) (nI (41 * r + p)) (nI dd) (ze_u x 0 12 (nI (a + 1))) = some (0, x1)) :
    ∃ oc k a1 x1 m1, f_E_runStep (f_xRL D) (58 + e) (nI (41 * r + p)) (nI dd) x = some (0, x1) ∧ k ≤ 10 * (a1 - a) ∧ PO n T tb r q e l t dd G R a x m x1 m1 oc a1 ∧ SM a oc k m m1 := by
  have hx3 : ∀ k i, ¬ (k = 0 ∧ i = 12) → ze_u x 0 12 (nI (a + 1)) k i = x k i := fun k i hk => zu_n _ _ _ _ hk
  have R4 : RS n T tb G R (a + 1) (ze_u x 0 12 (nI (a + 1))) m4 := RS_kp (RS_att h (a + 1)) (fun k i hk => rfl) (fun k i g1 g2 => by
    by_cases c : k = 75 ∧ i = 57
    · rw [c.1, c.2, q57, zu_s]
    · rw [zu_n _ _ _ _ c, hm4 k i (by omega) (by omega)])
  have E4 : EX e l (ze_u x 0 12 (nI (a + 1))) m4 := ⟨by rw [hx3 _ _ (by omega), hm4 _ _ (by omega) (by omega)]; exact hE.1, by rw [hx3 _ _ (by omega), hm4 _ _ (by omega) (by omega)]; exact hE.2.1, by rw [hx3 _ _ (by omega), hm4 _ _ (by omega) (by omega)]; exact hE.2.2.1, by rw [hx3 _ _ (by omega)]; exact hE.2.2.2.1, by rw [hm4 _ _ (by omega) (by omega)]; exact hE.2.2.2.2⟩
  obtain ⟨oc, k, a1, x1, m1, k1, k2, k3, k4⟩ := nest (q := q) (A := A) IH pr hr hr' hd' hdd he hlt ht (show a + 1 ≤ 100 by omega) (by omega) (by omega) R4 E4 hA q53 q54 q44 q111 q112 q113 hp' hsl hwt
  obtain ⟨p1, p2⟩ := st_pre pr hr hp h ca e53 e54 (hatt x1 k1) hact q56
  have hP : PO n T tb r q e l t dd G R (a + 1) x m x1 m1 oc a1 := by
    obtain ⟨o1, o2, o3, o4, o5, o6, o7⟩ := k3
    exact ⟨o1, o2, o3, o4, fun k i hk => by rw [o5 k i hk, hx3 k i (by omega)], fun k i hk => by rw [o6 k i hk, hm4 k i (by omega) (by omega)], o7⟩
  obtain ⟨f1, f2, f3⟩ := st_run pr hr hp h41 h ca e53 e54 p2 (by omega) hP (fun kk N l6 hl6 => k4 kk N l6 (by omega))
  exact ⟨oc, k + 1, a1, x1, m1, p1, f1, f2, f3⟩
/-- no list -/
theorem x_none {D : Nat} (hdd : dd < 16) (h3 : x (58 + e) 3 = 0) : f_xRL (D + 1) (58 + e) (-1) (nI dd) x = some (0, x) := by
  show f_E_runList (f_xRL D) (58 + e) (-1) (nI dd) x = _
  unfold f_E_runList
  obtain ⟨N, hN⟩ : ∃ N, 200000 = N + 1 := ⟨199999, rfl⟩
  rw [if_pos (show nI dd < 16 from nI_lt (b := 16) hdd (by omega)), zlet, zlet, hN, f_E_runList_L20]
  rw [if_neg (show ¬ (40 : Int32) ≤ 0 by decide), if_pos h3]
  have : f_P_isStep 9 (-1) x = some (0, x) := by
    unfold f_P_isStep f_P_at
    rw [if_pos (show (-1 : Int32) < 0 by decide), show ze_rc 0 x = some (0, x) from zrc (c := 0) (by omega) x, zcall, if_pos rfl]
  rw [this, zcall, if_pos rfl]
theorem st_63 {D f d : Nat} (IH : LX n T tb (f_xRL D) (dd + 1)) (hD : 0 < D) (pr : PR n T tb) (hr : r < 4) (hd : d ≤ 3) (hdd : dd ≤ 4 * r + d) (he : e ≤ dd) (hlt : l ≤ t) (ht : t ≤ dd) (ca : a < 100) (hG : G + 5 * (100 - a) < 2 ^ 28) (hR : R + 4 * (100 - a) ≤ 401) (h : RS n T tb G R a x m) (hE : EX e l x m) (e53 : m 75 53 = nI r) (e54 : m 75 54 = nI p) (e44 : m 75 44 = nI t) (hp : p < n r) (hc : T r p = 63) (hsp : sp (T r) r (sl (T r) r f) d p = .inr q) (hw : wst (T r) r tb 9 (sl (T r) r f) (wt (T r) r tb 9 f) d p q) :
    ∃ oc k a1 x1 m1, f_E_runStep (f_xRL D) (58 + e) (nI (41 * r + p)) (nI dd) x = some (0, x1) ∧ k ≤ 10 * (a1 - a) ∧ PO n T tb r q e l t dd G R a x m x1 m1 oc a1 ∧ SM a oc k m m1 := by
  have hz := (pr r hr).1
  have h40 := hz.1
  obtain ⟨w1, w2, w3, w4, w5, w6⟩ := hw
  obtain ⟨w7, w8, w9⟩ := w6 hc
  obtain ⟨s1, s2, s3, e1, s4, s5⟩ := sp_63 hc hsp
  obtain ⟨w10, w11⟩ := w9 e1 s4
  have hte := st_end hz s1
  have t0 : ne (T r) (p + 3) < n r := tz_lt hz (by omega)
  have u := sl_ok hz f (d + 1) _ _ (by omega) s4
  have u41 := u.2.2.1 (by omega)
  have u1 : e1 < n r := tz_lt hz (by omega)
  have hT1 := tz_le hz (e1 + 1)
  have hx3 : ∀ k i, ¬ (k = 0 ∧ i = 12) → ze_u x 0 12 (nI (a + 1)) k i = x k i := fun k i hk => zu_n _ _ _ _ hk
  have hm3 : ∀ k i, ¬ (k = 75 ∧ (i = 56 ∨ i = 57)) → ze_u (ze_u m 75 57 (nI (a + 1))) 75 56 0 k i = m k i := fun k i hk => by rw [zu_n _ _ _ _ (by omega), zu_n _ _ _ _ (by omega)]
  have m57 : ze_u (ze_u m 75 57 (nI (a + 1))) 75 56 0 75 57 = nI (a + 1) := by rw [zu_n _ _ _ _ (by omega), zu_s]
  have m56 : ze_u (ze_u m 75 57 (nI (a + 1))) 75 56 0 75 56 = 0 := zu_s _ _ _ _
  have R3 : RS n T tb G R (a + 1) (ze_u x 0 12 (nI (a + 1))) (ze_u (ze_u m 75 57 (nI (a + 1))) 75 56 0) := RS_kp (RS_att h (a + 1)) (fun k i hk => rfl) (fun k i g1 g2 => zu_n _ _ _ _ (by omega))
  have E3 : EX e l (ze_u x 0 12 (nI (a + 1))) (ze_u (ze_u m 75 57 (nI (a + 1))) 75 56 0) := ⟨by rw [hx3 _ _ (by omega), hm3 _ _ (by omega)]; exact hE.1, by rw [hx3 _ _ (by omega), hm3 _ _ (by omega)]; exact hE.2.1, by rw [hx3 _ _ (by omega), hm3 _ _ (by omega)]; exact hE.2.2.1, by rw [hx3 _ _ (by omega)]; exact hE.2.2.2.1, by rw [hm3 _ _ (by omega)]; exact hE.2.2.2.2⟩
  have A3 : AT n T tb r p e l (ze_u x 0 12 (nI (a + 1))) (ze_u (ze_u m 75 57 (nI (a + 1))) 75 56 0) := ⟨hr, by omega, by omega, hz, hp, (pr r hr).2.2.2, E3, by rw [hm3 _ _ (by omega)]; exact e53, by rw [hm3 _ _ (by omega)]; exact e54, m56⟩
  obtain ⟨b, hb, hb1, hb2⟩ := hold_eq R3 A3 s1 (w3 (by omega))
  have e54' : ze_u (ze_u m 75 57 (nI (a + 1))) 75 56 0 75 54 = nI p := by rw [hm3 _ _ (by omega)]; exact e54
  have hatt0 : f_E_attempt (f_xRL D) (58 + e) (nI (41 * r + p)) (nI dd) (ze_u x 0 12 (nI (a + 1))) = ze_call (f_xRL D (58 + e) (if nI b = 0 then tb 14 (41 * r + p) else tb 13 (41 * r + p)) (nI (dd + 1)) (ze_u x 0 12 (nI (a + 1)))) (fun r20 v21 => some (0, v21)) := by
    unfold f_E_attempt
    rw [nI_clamp (by omega), zi_nI (by omega) (by omega), zlet, zi_nI (by omega) (by omega), R3.1 10 _ (by omega) (by omega), (pr r hr).2.2.2 p (by omega), hc, if_neg (show ¬ nI 63 = 33 by decide), if_neg (show ¬ nI 63 = 38 by decide), if_neg (show ¬ nI 63 = 42 by decide), if_neg (show ¬ nI 63 = 43 by decide), if_neg (show ¬ nI 63 = 45 by decide), if_neg (show ¬ nI 63 = 62 by decide), if_pos (show nI 63 = 63 by decide), nI_1]
    unfold f_P_listFor
    rw [hb1, zcall, nI_clamp (by omega)]
    by_cases c : nI b = 0
    · rw [if_pos c, if_pos c, zi_nI (by omega) (by omega), zcall, R3.1 14 _ (by omega) (by omega)]
    · rw [if_neg c, if_neg c, zi_nI (by omega) (by omega), zcall, R3.1 13 _ (by omega) (by omega)]
  -- the reference
  have hmc : ∀ k i, ¬ (k = 75 ∧ (i = 55 ∨ i = 56 ∨ i = 57)) → ze_u (ze_u (ze_u m 75 57 (nI (a + 1))) 75 56 0) 75 55 (nI (ne (T r) (p + 3))) k i = m k i := fun k i hk => by rw [zu_n _ _ _ _ (by omega), hm3 k i (by omega)]
  have c55 : ze_u (ze_u (ze_u m 75 57 (nI (a + 1))) 75 56 0) 75 55 (nI (ne (T r) (p + 3))) 75 55 = nI (ne (T r) (p + 3)) := zu_s _ _ _ _
  have c56 : ze_u (ze_u (ze_u m 75 57 (nI (a + 1))) 75 56 0) 75 55 (nI (ne (T r) (p + 3))) 75 56 = 0 := by rw [zu_n _ _ _ _ (by omega)]; exact m56
  have c57 : ze_u (ze_u (ze_u m 75 57 (nI (a + 1))) 75 56 0) 75 55 (nI (ne (T r) (p + 3))) 75 57 = nI (a + 1) := by rw [zu_n _ _ _ _ (by omega)]; exact m57
  have hact0 : f_M_act (nI (T r p)) (ze_u (ze_u m 75 57 (nI (a + 1))) 75 56 0) = ze_call (f_M_choose (nI b) (ze_u (ze_u (ze_u m 75 57 (nI (a + 1))) 75 56 0) 75 55 (nI (ne (T r) (p + 3))))) (fun r34 v35 => some (0, v35)) := by
    unfold f_M_act
    rw [hc, if_neg (show ¬ nI 63 = 33 by decide), if_neg (show ¬ nI 63 = 38 by decide), if_neg (show ¬ nI 63 = 42 by decide), if_neg (show ¬ nI 63 = 43 by decide), if_neg (show ¬ nI 63 = 45 by decide), if_neg (show ¬ nI 63 = 62 by decide), if_pos (show nI 63 = 63 by decide), e54', nI_1, hb2, zcall]
  generalize ze_u (ze_u (ze_u m 75 57 (nI (a + 1))) 75 56 0) 75 55 (nI (ne (T r) (p + 3))) = mc at hmc c55 c56 c57 hact0
  have hmtc : r_mt n T mc := kp_mt h.2.1 (fun k i hk => hmc k i (by omega))
  have c53 : mc 75 53 = nI r := by rw [hmc _ _ (by omega)]; exact e53
  have c44 : mc 75 44 = nI t := by rw [hmc _ _ (by omega)]; exact e44
  have hbeh := me_behind hr hz hmtc c53 s2 s3 s4
  have hfin : ∀ P, (∃ v, v = ze_u (ze_u (ze_u (ze_u (ze_u mc 111 t 1) 112 t (nI r)) 113 t (nI q)) 75 44 (nI (t + 1))) 75 54 (nI P)) := fun P => ⟨_, rfl⟩
  have go : ∀ P pe, P ≤ n r → sl (T r) r f (d + 1) P = .inr pe → wt (T r) r tb 9 f (d + 1) P → f_M_choose (nI b) mc = some (0, ze_u (ze_u (ze_u (ze_u (ze_u mc 111 t 1) 112 t (nI r)) 113 t (nI q)) 75 44 (nI (t + 1))) 75 54 (nI P)) → (if nI b = 0 then tb 14 (41 * r + p) else tb 13 (41 * r + p)) = nI (41 * r + P) → ∃ oc k a1 x1 m1, f_E_runStep (f_xRL D) (58 + e) (nI (41 * r + p)) (nI dd) x = some (0, x1) ∧ k ≤ 10 * (a1 - a) ∧ PO n T tb r q e l t dd G R a x m x1 m1 oc a1 ∧ SM a oc k m m1 := by
    intro P pe hP hsl hwt hch hx
    rw [hch, zcall] at hact0
    refine st_go (m4 := ze_u (ze_u (ze_u (ze_u (ze_u mc 111 t 1) 112 t (nI r)) 113 t (nI q)) 75 44 (nI (t + 1))) 75 54 (nI P)) IH pr hr hr (show d + 1 ≤ 3 by omega) (by omega) he (by omega) hlt ht ca hG hR h hE e53 e54 hp (by omega) (Or.inr rfl) hact0 (fun k i h1 h2 => ?_) ?_ ?_ ?_ ?_ ?_ ?_ ?_ ?_ hP hsl hwt (fun x1 hx1 => ?_)
    · simp (disch := omega) only [zu_n]
      exact hmc k i (by omega)
    · simp (disch := omega) only [zu_n]
      exact c57
    · simp (disch := omega) only [zu_n]
      exact c53
    · exact zu_s _ _ _ _
    · simp (disch := omega) only [zu_n, zu_s]
    · simp (disch := omega) only [zu_n, zu_s]
    · simp (disch := omega) only [zu_n, zu_s]
    · simp (disch := omega) only [zu_n, zu_s]
    · simp (disch := omega) only [zu_n]
      exact c56
    · rw [hatt0, hx, hx1, zcall]
  have hb01 : b = 0 ∨ b = 1 := by omega
  rcases s5 with ⟨d1, d2, e2, d3, d4⟩ | ⟨d1, d4⟩
  · have t1 : e1 + 1 < n r := tz_lt hz (by omega)
    have t2 : e1 + 2 < n r := tz_lt hz (by omega)
    have hbeh2 : f_M_behind (nI (e1 + 2)) mc = some (nI q, mc) := by
      rw [d4]
      exact me_behind hr hz hmtc c53 s2 d2 d3
    have hch0 : f_M_choose (nI b) mc = f_M_choose_J44 (nI b) (nI (ne (T r) (p + 3))) (nI (e1 + 1)) 1 (nI q) mc := by
      unfold f_M_choose
      rw [zlet, c55, hbeh, zcall, zlet, me_here hr hz hmtc c53 (by omega), zcall, d1, if_pos (show nI 58 = 58 by decide)]
      unfold f_M_choose_J26
      rw [zlet, if_neg (show ¬ (1 : Int32) = 0 by decide), nI_1, hbeh2, zcall]
    rcases hb01 with rfl | rfl
    · refine go (e1 + 3) e2 (by omega) d3 (w10 d1).2 ?_ (by rw [if_pos (show nI 0 = 0 from rfl)]; exact (w10 d1).1)
      rw [hch0]
      unfold f_M_choose_J44 f_M_choose_J55 f_M_choose_J62
      rw [zlet, if_pos (show nI 0 = 0 from rfl), if_neg (show ¬ (1 : Int32) = 0 by decide), m_push (by omega) c44 c53, zcall, if_pos (show nI 0 = 0 from rfl), if_neg (show ¬ (1 : Int32) = 0 by decide), zlev, show nI (e1 + 1) + 2 = nI (e1 + 3) from nI_add (e1 + 1) 2]
    · refine go (ne (T r) (p + 3) + 1) e1 (by omega) s4 w8 ?_ (by rw [if_neg (show ¬ nI 1 = 0 by decide)]; exact w7)
      rw [hch0]
      unfold f_M_choose_J44 f_M_choose_J55 f_M_choose_J62
      rw [zlet, if_neg (show ¬ nI 1 = 0 by decide), m_push (by omega) c44 c53, zcall, if_neg (show ¬ nI 1 = 0 by decide), zlev, nI_1]
  · have hch0 : f_M_choose (nI b) mc = f_M_choose_J44 (nI b) (nI (ne (T r) (p + 3))) (nI (e1 + 1)) 0 (nI q) mc := by
      unfold f_M_choose
      rw [zlet, c55, hbeh, zcall, zlet, me_here hr hz hmtc c53 (by omega), zcall, if_neg (show ¬ nI (T r (e1 + 1)) = 58 by rw [l_58, nI_eqP (by omega) (by omega)]; exact d1)]
      unfold f_M_choose_J26
      rw [zlet, if_pos rfl, d4]
    rcases hb01 with rfl | rfl
    · have hch1 : f_M_choose (nI 0) mc = some (0, ze_u mc 75 54 (nI q)) := by
        rw [hch0]
        unfold f_M_choose_J44 f_M_choose_J62
        rw [zlet, if_pos (show nI 0 = 0 from rfl), if_pos rfl, if_pos (show nI 0 = 0 from rfl), if_pos rfl, zlev]
      obtain ⟨D, rfl⟩ : ∃ D', D = D' + 1 := ⟨D - 1, by omega⟩
      rw [hch1, zcall] at hact0
      rw [if_pos (show nI 0 = 0 from rfl), show tb 14 (41 * r + p) = -1 from w11 d1, x_none (by omega) E3.2.2.2.1, zcall] at hatt0
      obtain ⟨p1, p2⟩ := st_pre pr hr hp h ca e53 e54 hatt0 hact0 (by rw [zu_n _ _ _ _ (by omega)]; exact c56)
      have hmf : ∀ k i, ¬ (k = 75 ∧ (i = 54 ∨ i = 55 ∨ i = 56 ∨ i = 57)) → ze_u mc 75 54 (nI q) k i = m k i := fun k i hk => by rw [zu_n _ _ _ _ (by omega), hmc k i (by omega)]
      have RF : RS n T tb G R (a + 1) (ze_u x 0 12 (nI (a + 1))) (ze_u mc 75 54 (nI q)) := RS_kp (RS_att h (a + 1)) (fun k i hk => rfl) (fun k i g1 g2 => by
        by_cases c : k = 75 ∧ i = 57
        · rw [c.1, c.2, zu_n _ _ _ _ (by omega), c57, zu_s]
        · rw [zu_n _ _ _ _ c, hmf k i (by omega)])
      have hP : PO n T tb r q e l t dd G R (a + 1) x m (ze_u x 0 12 (nI (a + 1))) (ze_u mc 75 54 (nI q)) 0 (a + 1) := by
        refine ⟨Nat.le_refl _, by omega, by omega, RS_mono RF (by omega) (by omega), fun k i hk => hx3 k i (by omega), fun k i hk => hmf k i (by omega), by rw [hmf _ _ (by omega)]; exact hE.2.2.2.2, fun _ => ⟨⟨?_, ?_, ?_, ?_, ?_⟩, ?_, zu_s _ _ _ _, ?_⟩, fun c => absurd rfl c⟩
        · rw [hx3 _ _ (by omega), hmf _ _ (by omega)]
          exact hE.1
        · rw [hx3 _ _ (by omega), hmf _ _ (by omega)]
          exact hE.2.1
        · rw [hx3 _ _ (by omega), hmf _ _ (by omega)]
          exact hE.2.2.1
        · rw [hx3 _ _ (by omega)]
          exact hE.2.2.2.1
        · rw [hmf _ _ (by omega)]
          exact hE.2.2.2.2
        · rw [hmf _ _ (by omega)]
          exact e53
        · rw [hmf _ _ (by omega)]
          exact e44
      obtain ⟨f1, f2, f3⟩ := st_run (k := 0) pr hr hp (by omega) h ca e53 e54 p2 (by omega) hP (fun kk N l6 hl6 => ⟨fun _ => rfl, fun c => absurd rfl c⟩)
      exact ⟨0, 1, a + 1, _, _, p1, f1, f2, f3⟩
    · refine go (ne (T r) (p + 3) + 1) e1 (by omega) s4 w8 ?_ (by rw [if_neg (show ¬ nI 1 = 0 by decide)]; exact w7)
      rw [hch0]
      unfold f_M_choose_J44 f_M_choose_J55 f_M_choose_J62
      rw [zlet, if_neg (show ¬ nI 1 = 0 by decide), m_push (by omega) c44 c53, zcall, if_neg (show ¬ nI 1 = 0 by decide), zlev, nI_1]
end CH
