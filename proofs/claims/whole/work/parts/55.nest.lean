/-! PURE: lists inside steps -/
def PO (n : Nat → Nat) (T : Nat → Nat → Nat) (tb : ze_H) (r pe e l t dd G R a : Nat) (x m x1 m1 : ze_H) (oc a1 : Nat) : Prop :=
  a ≤ a1 ∧ a1 ≤ 100 ∧ oc ≤ 7 ∧ RS n T tb (G + 5 * (a1 - a)) (R + 4 * (a1 - a)) a1 x1 m1 ∧ (∀ k i, (58 ≤ k ∧ k ≤ 58 + dd ∧ k ≠ 58 + e) → x1 k i = x k i) ∧ (∀ k i, (111 ≤ k ∧ k ≤ 118 ∧ i < t ∨ 108 ≤ k ∧ k ≤ 110 ∧ i < l ∨ k = 75 ∧ i = 35) → m1 k i = m k i) ∧ m1 75 40 = nI l ∧
  (oc = 0 → EX e l x1 m1 ∧ m1 75 53 = nI r ∧ m1 75 54 = nI pe ∧ m1 75 44 = nI t) ∧
  (¬ oc = 0 → x1 (58 + e) 3 = nI oc ∧ ¬ oc = 1 ∧ ∃ t1, t ≤ t1 ∧ t1 ≤ 19 ∧ m1 75 44 = nI t1 ∧ ∀ i, t ≤ i → i < t1 → m1 111 i = 0 ∨ m1 111 i = 1)
/-- the reference's loop comes from m to m1 in k turns (and one more that ends the exchange) -/
def SM (a oc k : Nat) (m m1 : ze_H) : Prop := ∀ kk N l6, l6 + 10 * (100 - a) + 20 ≤ 100000 → (oc = 0 → f_M_run_L33 kk (N + k) 0 (nI l6) m = f_M_run_L33 kk N 0 (nI (l6 + k)) m1) ∧ (¬ oc = 0 → f_M_run_L33 kk (N + k + 1) 0 (nI l6) m = ze_call (fin2 (nI oc) m1) (fun r23 v24 => f_M_run_L33 kk N r23 (nI (l6 + k + 1)) v24))
def LX (n : Nat → Nat) (T : Nat → Nat → Nat) (tb : ze_H) (RC : Nat → Int32 → Int32 → ze_H → Option (Int32 × ze_H)) (dd : Nat) : Prop :=
  ∀ (f d r p pe e l t G R a : Nat) (x m : ze_H), r < 4 → d ≤ 3 → dd ≤ 4 * r + d → e ≤ dd → l ≤ t → t ≤ dd → a ≤ 100 → G + 5 * (100 - a) < 2 ^ 28 → R + 4 * (100 - a) ≤ 401 → RS n T tb G R a x m → EX e l x m → m 75 53 = nI r → m 75 54 = nI p → m 75 44 = nI t → p ≤ n r → sl (T r) r f d p = .inr pe → wt (T r) r tb 9 f d p →
  ∃ oc k a1 x1 m1, RC (58 + e) (nI (41 * r + p)) (nI dd) x = some (0, x1) ∧ k ≤ 10 * (a1 - a) ∧ PO n T tb r pe e l t dd G R a x m x1 m1 oc a1 ∧ SM a oc k m m1
section NE
variable {n : Nat → Nat} {T : Nat → Nat → Nat} {tb x m : ze_H} {G R a r p q e l t dd : Nat}
theorem m_push {A B : Int32} (ht : t < 20) (e44 : m 75 44 = nI t) (e53 : m 75 53 = nI r) : f_M_push A B m = some (0, ze_u (ze_u (ze_u (ze_u m 111 t A) 112 t (nI r)) 113 t B) 75 44 (nI (t + 1))) := by
  unfold f_M_push
  rw [e44, zi_nI ht (by omega), nI_clamp (by omega)]
  simp (disch := omega) only [zi_N, nI_clamp, zlvN, zu_n, e44, e53, nI_1]
theorem m_close1 {A : Int32} (ht : t < 19) (e44 : m 75 44 = nI (t + 1)) (hA : A = 0 ∨ A = 1) (f1 : m 111 t = A) (f2 : m 112 t = nI r) (f3 : m 113 t = nI q) : f_M_close m = some (0, ze_u (ze_u (ze_u m 75 44 (nI t)) 75 53 (nI r)) 75 54 (nI q)) := by
  have h2 : ¬ A = 2 := by rcases hA with rfl | rfl <;> decide
  unfold f_M_close
  rw [e44, if_neg (nI_ne0 (by omega) (by omega)), nI_pred, zi_nI (by omega) (by omega), nI_clamp (by omega), f1, if_neg h2]
  simp (disch := omega) only [zi_N, nI_clamp, zlvN, zu_n, zu_s, f2, f3]
/-- through a list that a step pushed -/
theorem nest {RC : Nat → Int32 → Int32 → ze_H → Option (Int32 × ze_H)} {f d' r' p' pe' : Nat} {A : Int32} (IH : LX n T tb RC (dd + 1)) (pr : PR n T tb) (hr : r < 4) (hr' : r' < 4) (hd' : d' ≤ 3) (hdd : dd + 1 ≤ 4 * r' + d') (he : e ≤ dd) (hlt : l ≤ t) (ht : t ≤ dd) (ha : a ≤ 100) (hG : G + 5 * (100 - a) < 2 ^ 28) (hR : R + 4 * (100 - a) ≤ 401) (h : RS n T tb G R a x m) (hE : EX e l x m) (hA : A = 0 ∨ A = 1) (e53 : m 75 53 = nI r') (e54 : m 75 54 = nI p') (e44 : m 75 44 = nI (t + 1)) (f1 : m 111 t = A) (f2 : m 112 t = nI r) (f3 : m 113 t = nI q) (hp' : p' ≤ n r') (hsl : sl (T r') r' f d' p' = .inr pe') (hwt : wt (T r') r' tb 9 f d' p') :
    ∃ oc k a1 x1 m1, RC (58 + e) (nI (41 * r' + p')) (nI (dd + 1)) x = some (0, x1) ∧ k ≤ 10 * (a1 - a) + 1 ∧ PO n T tb r q e l t dd G R a x m x1 m1 oc a1 ∧ ∀ kk N l6, l6 + 10 * (100 - a) + 20 ≤ 100000 → (oc = 0 → f_M_run_L33 kk (N + k) 0 (nI l6) m = f_M_run_L33 kk N 0 (nI (l6 + k)) m1) ∧ (¬ oc = 0 → f_M_run_L33 kk (N + k + 1) 0 (nI l6) m = ze_call (fin2 (nI oc) m1) (fun r23 v24 => f_M_run_L33 kk N r23 (nI (l6 + k + 1)) v24)) := by
  have hz := (pr r' hr').1
  have h40 := hz.1
  obtain ⟨oc, k, a1, x1, m1, k1, k2, ⟨o1, o2, o3, o4, o5, o6, o7, o8, o9⟩, k4⟩ := IH f d' r' p' pe' e l (t + 1) G R a x m hr' hd' hdd (by omega) (by omega) (by omega) ha hG hR h hE e53 e54 e44 hp' hsl hwt
  have u := sl_ok hz f d' p' pe' hp' hsl
  by_cases c : oc = 0
  · subst c
    obtain ⟨g1, g2, g3, g4⟩ := o8 rfl
    have hcl := m_close1 (m := m1) (t := t) (r := r) (q := q) (A := A) (by omega) g4 hA (by rw [o6 111 t (by omega)]; exact f1) (by rw [o6 112 t (by omega)]; exact f2) (by rw [o6 113 t (by omega)]; exact f3)
    have hmf : ∀ k i, ¬ (k = 75 ∧ (i = 44 ∨ i = 53 ∨ i = 54)) → ze_u (ze_u (ze_u m1 75 44 (nI t)) 75 53 (nI r)) 75 54 (nI q) k i = m1 k i := fun k i hk => by rw [zu_n _ _ _ _ (by omega), zu_n _ _ _ _ (by omega), zu_n _ _ _ _ (by omega)]
    refine ⟨0, k + 1, a1, x1, _, k1, by omega, ⟨o1, o2, by omega, RS_kp o4 (fun k i hk => rfl) (fun k i c1 c2 => hmf k i (by omega)), fun k i hk => o5 k i (by omega), fun k i hk => by rw [hmf k i (by omega)]; exact o6 k i (by omega), by rw [hmf _ _ (by omega)]; exact o7, fun _ => ⟨⟨by rw [hmf _ _ (by omega)]; exact g1.1, by rw [hmf _ _ (by omega)]; exact g1.2.1, by rw [hmf _ _ (by omega)]; exact g1.2.2.1, g1.2.2.2.1, by rw [hmf _ _ (by omega)]; exact g1.2.2.2.2⟩, by rw [zu_n _ _ _ _ (by omega), zu_s], zu_s _ _ _ _, by rw [zu_n _ _ _ _ (by omega), zu_n _ _ _ _ (by omega), zu_s]⟩, fun c => absurd rfl c⟩, fun kk N l6 hl6 => ⟨fun _ => ?_, fun c => absurd rfl c⟩⟩
    have hlk : l6 + k < 100000 := by
      clear o8 o9 u k4
      omega
    have hend : pe' = n r' ∨ T r' pe' = 41 := by
      by_cases c0 : 0 < d'
      · exact Or.inr (u.2.2.1 c0)
      · have := u.2.2.2 (by omega)
        refine Or.inl ?_
        rcases Nat.lt_or_ge pe' (n r') with q | q
        · have := (hz.2.1 pe' q).1
          omega
        · omega
    rw [show N + (k + 1) = N + 1 + k by omega, (k4 kk (N + 1) l6 hl6).1 rfl, mr_close hr' hz o4.2.1 g2 g3 u.2.1 hend kk hlk, hcl, zcall]
    rfl
  · obtain ⟨g1, g2, t1, g3, g4, g5, g6⟩ := o9 c
    refine ⟨oc, k, a1, x1, m1, k1, by omega, ⟨o1, o2, o3, o4, fun k i hk => o5 k i (by omega), fun k i hk => o6 k i (by omega), o7, fun q => absurd q c, fun _ => ⟨g1, g2, t1, by omega, g4, g5, fun i h1 h2 => ?_⟩⟩, fun kk N l6 hl6 => ⟨fun q => absurd q c, fun _ => (k4 kk N l6 hl6).2 c⟩⟩
    by_cases ci : i = t
    · subst ci
      rw [o6 111 i (by omega), f1]
      exact hA
    · exact g6 i (by omega) h2
/-- a step that does not end the exchange by itself: its first and only attempt -/
theorem st_pre {RC : Nat → Int32 → Int32 → ze_H → Option (Int32 × ze_H)} {b3 : Int32} (pr : PR n T tb) (hr : r < 4) (hp : p < n r) (h : RS n T tb G R a x m) (ca : a < 100) (e53 : m 75 53 = nI r) (e54 : m 75 54 = nI p) {x4 m4 : ze_H} (h1 : f_E_attempt RC (58 + e) (nI (41 * r + p)) b3 (ze_u x 0 12 (nI (a + 1))) = some (0, x4)) (h2 : f_M_act (nI (T r p)) (ze_u (ze_u m 75 57 (nI (a + 1))) 75 56 0) = some (0, m4)) (h56 : m4 75 56 = 0) : f_E_runStep RC (58 + e) (nI (41 * r + p)) b3 x = some (0, x4) ∧ f_M_step m = some (nI 0, m4) := by
  have hz := (pr r hr).1
  have h40 := hz.1
  have e12 := h.2.2.2.2.2.2.2.2.2.2.2.1
  have e57 := h.2.2.2.2.2.2.2.2.2.2.2.2.1
  have hlt : nI a < 100 := nI_lt (b := 100) ca (by omega)
  constructor
  · unfold f_E_runStep
    obtain ⟨N, hN⟩ : ∃ N, 200000 = N + 1 := ⟨199999, rfl⟩
    rw [zlet, hN, f_E_runStep_L3]
    rw [if_neg (show ¬ (6 : Int32) < 1 by decide), e12, if_pos hlt, nI_1, zlev, h1, zcall, zlet, if_pos rfl]
  · unfold f_M_step
    obtain ⟨N, hN⟩ : ∃ N, 200000 = N + 1 := ⟨199999, rfl⟩
    rw [zlet, hN, f_M_step_L2]
    have hm : r_mt n T (ze_u (ze_u m 75 57 (nI (a + 1))) 75 56 0) := kp_mt h.2.1 (fun k i hk => by rw [zu_n _ _ _ _ (by omega), zu_n _ _ _ _ (by omega)])
    have e53' : ze_u (ze_u m 75 57 (nI (a + 1))) 75 56 0 75 53 = nI r := by rw [zu_n _ _ _ _ (by omega), zu_n _ _ _ _ (by omega)]; exact e53
    have e54' : ze_u (ze_u m 75 57 (nI (a + 1))) 75 56 0 75 54 = nI p := by rw [zu_n _ _ _ _ (by omega), zu_n _ _ _ _ (by omega)]; exact e54
    rw [if_neg (show ¬ (10 : Int32) < 1 by decide), e57, if_pos hlt, nI_1, zlev, zlev, e54', me_here hr hz hm e53' (by omega), zcall, h2, zcall, zlet, if_pos rfl, h56]
    rfl
/-- when no attempt is left -/
theorem st_cut {RC : Nat → Int32 → Int32 → ze_H → Option (Int32 × ze_H)} {b2 b3 : Int32} (h : RS n T tb G R a x m) (ca : a = 100) (he : e < 16) : f_E_runStep RC (58 + e) b2 b3 x = some (0, ze_u (ze_u x (58 + e) 3 (nI 7)) 74 7 (x 74 7 + 1)) ∧ f_M_step m = some (nI 7, m) := by
  subst ca
  have e12 := h.2.2.2.2.2.2.2.2.2.2.2.1
  have e57 := h.2.2.2.2.2.2.2.2.2.2.2.2.1
  constructor
  · unfold f_E_runStep
    obtain ⟨N, hN⟩ : ∃ N, 200000 = N + 1 := ⟨199999, rfl⟩
    rw [zlet, hN, f_E_runStep_L3]
    rw [if_neg (show ¬ (6 : Int32) < 1 by decide), e12, if_neg (show ¬ nI 100 < 100 by decide), show (7 : Int32) = nI 7 from rfl, px_end (by omega) x he, zcall]
  · unfold f_M_step
    obtain ⟨N, hN⟩ : ∃ N, 200000 = N + 1 := ⟨199999, rfl⟩
    rw [zlet, hN, f_M_step_L2]
    rw [if_neg (show ¬ (10 : Int32) < 1 by decide), e57, if_neg (show ¬ nI 100 < 100 by decide)]
    rfl
/-- what a step with a list does, from its first turn on -/
theorem st_run (pr : PR n T tb) (hr : r < 4) (hp : p < n r) (h41 : ¬ T r p = 41) (h : RS n T tb G R a x m) (ca : a < 100) (e53 : m 75 53 = nI r) (e54 : m 75 54 = nI p) {oc k a1 : Nat} {x1 m1 m4 : ze_H} (hs : f_M_step m = some (nI 0, m4)) (hk : k ≤ 10 * (a1 - (a + 1)) + 9) (hP : PO n T tb r q e l t dd G R (a + 1) x m x1 m1 oc a1)
    (hS : ∀ kk N l6, l6 + 10 * (100 - (a + 1)) + 25 ≤ 100000 → (oc = 0 → f_M_run_L33 kk (N + k) 0 (nI l6) m4 = f_M_run_L33 kk N 0 (nI (l6 + k)) m1) ∧ (¬ oc = 0 → f_M_run_L33 kk (N + k + 1) 0 (nI l6) m4 = ze_call (fin2 (nI oc) m1) (fun r23 v24 => f_M_run_L33 kk N r23 (nI (l6 + k + 1)) v24))) : k + 1 ≤ 10 * (a1 - a) ∧ PO n T tb r q e l t dd G R a x m x1 m1 oc a1 ∧ SM a oc (k + 1) m m1 := by
  have hz := (pr r hr).1
  obtain ⟨o1, o2, o3, o4, o5⟩ := hP
  refine ⟨by omega, ⟨by omega, o2, o3, RS_mono o4 (by omega) (by omega), o5⟩, fun kk N l6 hl6 => ⟨fun c => ?_, fun c => ?_⟩⟩
  · rw [show N + (k + 1) = N + k + 1 by omega, mr_step hr hz h.2.1 e53 e54 hp h41 kk (by omega) (by omega) hs, if_pos rfl, (hS kk N (l6 + 1) (by omega)).1 c, show l6 + 1 + k = l6 + (k + 1) by omega]
  · rw [show N + (k + 1) + 1 = N + k + 1 + 1 by omega, mr_step hr hz h.2.1 e53 e54 hp h41 kk (by omega) (by omega) hs, if_pos rfl, (hS kk N (l6 + 1) (by omega)).2 c, show l6 + 1 + k + 1 = l6 + (k + 1) + 1 by omega]
/-- a step > -/
theorem st_62 {D f d e' : Nat} (IH : LX n T tb (f_xRL D) (dd + 1)) (pr : PR n T tb) (hr : r < 4) (hd : d ≤ 3) (hdd : dd ≤ 4 * r + d) (he : e ≤ dd) (hlt : l ≤ t) (ht : t ≤ dd) (ca : a < 100) (hG : G + 5 * (100 - a) < 2 ^ 28) (hR : R + 4 * (100 - a) ≤ 401) (h : RS n T tb G R a x m) (hE : EX e l x m) (e53 : m 75 53 = nI r) (e54 : m 75 54 = nI p) (e44 : m 75 44 = nI t) (hp : p < n r) (hc : T r p = 62) (hsn : sn (T r) (r + 1) 3 (p + 1) = .inr q) (t11 : tb 11 (41 * r + p) = nI (nv (T r) (p + 1))) :
    ∃ oc k a1 x1 m1, f_E_runStep (f_xRL D) (58 + e) (nI (41 * r + p)) (nI dd) x = some (0, x1) ∧ k ≤ 10 * (a1 - a) ∧ PO n T tb r q e l t dd G R a x m x1 m1 oc a1 ∧ SM a oc k m m1 := by
  have hz := (pr r hr).1
  have h40 := hz.1
  obtain ⟨s1, s2, s3, s4⟩ := sn_inr hsn
  have hx3 : ∀ k i, ¬ (k = 0 ∧ i = 12) → ze_u x 0 12 (nI (a + 1)) k i = x k i := fun k i hk => zu_n _ _ _ _ hk
  have R3 : RS n T tb G R (a + 1) (ze_u x 0 12 (nI (a + 1))) (ze_u (ze_u m 75 57 (nI (a + 1))) 75 56 0) := RS_kp (RS_att h (a + 1)) (fun k i hk => rfl) (fun k i g1 g2 => zu_n _ _ _ _ (by omega))
  have hm3 : ∀ k i, ¬ (k = 75 ∧ (i = 56 ∨ i = 57)) → ze_u (ze_u m 75 57 (nI (a + 1))) 75 56 0 k i = m k i := fun k i hk => by rw [zu_n _ _ _ _ (by omega), zu_n _ _ _ _ (by omega)]
  generalize hvd : nv (T r) (p + 1) = v at *
  have hzv := (pr v (by omega)).1
  obtain ⟨ev, hev⟩ := (pr v (by omega)).2.1
  -- the reference's step
  have e53' : ze_u (ze_u m 75 57 (nI (a + 1))) 75 56 0 75 53 = nI r := by rw [hm3 _ _ (by omega)]; exact e53
  have e54' : ze_u (ze_u m 75 57 (nI (a + 1))) 75 56 0 75 54 = nI p := by rw [hm3 _ _ (by omega)]; exact e54
  have e44' : ze_u (ze_u (ze_u m 75 57 (nI (a + 1))) 75 56 0) 75 55 (nI q) 75 44 = nI t := by rw [zu_n _ _ _ _ (by omega), hm3 _ _ (by omega)]; exact e44
  have e53'' : ze_u (ze_u (ze_u m 75 57 (nI (a + 1))) 75 56 0) 75 55 (nI q) 75 53 = nI r := by rw [zu_n _ _ _ _ (by omega), hm3 _ _ (by omega)]; exact e53
  have hact : f_M_act (nI (T r p)) (ze_u (ze_u m 75 57 (nI (a + 1))) 75 56 0) = some (0, ze_u (ze_u (ze_u (ze_u (ze_u (ze_u (ze_u (ze_u (ze_u m 75 57 (nI (a + 1))) 75 56 0) 75 55 (nI q)) 111 t 0) 112 t (nI r)) 113 t (nI q)) 75 44 (nI (t + 1))) 75 53 (nI v)) 75 54 0) := by
    unfold f_M_act
    rw [hc, if_neg (show ¬ nI 62 = 33 by decide), if_neg (show ¬ nI 62 = 38 by decide), if_neg (show ¬ nI 62 = 42 by decide), if_neg (show ¬ nI 62 = 43 by decide), if_neg (show ¬ nI 62 = 45 by decide), if_pos (show nI 62 = 62 by decide), e54', nI_1, me_value hr hz R3.2.1 e53' (by omega), zcall, hvd, ← s4]
    unfold f_M_visit
    rw [zu_s, m_push (by omega) e44' e53'', zcall, zlev, zlev, zcall]
  have hm4 : ∀ k i, ¬ (k = 75 ∧ (i = 44 ∨ i = 53 ∨ i = 54 ∨ i = 55 ∨ i = 56 ∨ i = 57)) → ¬ (111 ≤ k ∧ k ≤ 113 ∧ i = t) → ze_u (ze_u (ze_u (ze_u (ze_u (ze_u (ze_u (ze_u (ze_u m 75 57 (nI (a + 1))) 75 56 0) 75 55 (nI q)) 111 t 0) 112 t (nI r)) 113 t (nI q)) 75 44 (nI (t + 1))) 75 53 (nI v)) 75 54 0 k i = m k i := fun k i c1 c2 => by simp (disch := omega) only [zu_n]
  have R4 : RS n T tb G R (a + 1) (ze_u x 0 12 (nI (a + 1))) (ze_u (ze_u (ze_u (ze_u (ze_u (ze_u (ze_u (ze_u (ze_u m 75 57 (nI (a + 1))) 75 56 0) 75 55 (nI q)) 111 t 0) 112 t (nI r)) 113 t (nI q)) 75 44 (nI (t + 1))) 75 53 (nI v)) 75 54 0) := RS_kp R3 (fun k i hk => rfl) (fun k i g1 g2 => by simp (disch := omega) only [zu_n])
  have q53 : ze_u (ze_u (ze_u (ze_u (ze_u (ze_u (ze_u (ze_u (ze_u m 75 57 (nI (a + 1))) 75 56 0) 75 55 (nI q)) 111 t 0) 112 t (nI r)) 113 t (nI q)) 75 44 (nI (t + 1))) 75 53 (nI v)) 75 54 0 75 53 = nI v := by simp (disch := omega) only [zu_n, zu_s]
  have q54 : ze_u (ze_u (ze_u (ze_u (ze_u (ze_u (ze_u (ze_u (ze_u m 75 57 (nI (a + 1))) 75 56 0) 75 55 (nI q)) 111 t 0) 112 t (nI r)) 113 t (nI q)) 75 44 (nI (t + 1))) 75 53 (nI v)) 75 54 0 75 54 = nI 0 := zu_s _ _ _ _
  have q44 : ze_u (ze_u (ze_u (ze_u (ze_u (ze_u (ze_u (ze_u (ze_u m 75 57 (nI (a + 1))) 75 56 0) 75 55 (nI q)) 111 t 0) 112 t (nI r)) 113 t (nI q)) 75 44 (nI (t + 1))) 75 53 (nI v)) 75 54 0 75 44 = nI (t + 1) := by simp (disch := omega) only [zu_n, zu_s]
  have q111 : ze_u (ze_u (ze_u (ze_u (ze_u (ze_u (ze_u (ze_u (ze_u m 75 57 (nI (a + 1))) 75 56 0) 75 55 (nI q)) 111 t 0) 112 t (nI r)) 113 t (nI q)) 75 44 (nI (t + 1))) 75 53 (nI v)) 75 54 0 111 t = 0 := by simp (disch := omega) only [zu_n, zu_s]
  have q112 : ze_u (ze_u (ze_u (ze_u (ze_u (ze_u (ze_u (ze_u (ze_u m 75 57 (nI (a + 1))) 75 56 0) 75 55 (nI q)) 111 t 0) 112 t (nI r)) 113 t (nI q)) 75 44 (nI (t + 1))) 75 53 (nI v)) 75 54 0 112 t = nI r := by simp (disch := omega) only [zu_n, zu_s]
  have q113 : ze_u (ze_u (ze_u (ze_u (ze_u (ze_u (ze_u (ze_u (ze_u m 75 57 (nI (a + 1))) 75 56 0) 75 55 (nI q)) 111 t 0) 112 t (nI r)) 113 t (nI q)) 75 44 (nI (t + 1))) 75 53 (nI v)) 75 54 0 113 t = nI q := by simp (disch := omega) only [zu_n, zu_s]
  have q56 : ze_u (ze_u (ze_u (ze_u (ze_u (ze_u (ze_u (ze_u (ze_u m 75 57 (nI (a + 1))) 75 56 0) 75 55 (nI q)) 111 t 0) 112 t (nI r)) 113 t (nI q)) 75 44 (nI (t + 1))) 75 53 (nI v)) 75 54 0 75 56 = 0 := by simp (disch := omega) only [zu_n, zu_s]
  generalize ze_u (ze_u (ze_u (ze_u (ze_u (ze_u (ze_u (ze_u (ze_u m 75 57 (nI (a + 1))) 75 56 0) 75 55 (nI q)) 111 t 0) 112 t (nI r)) 113 t (nI q)) 75 44 (nI (t + 1))) 75 53 (nI v)) 75 54 0 = m4 at hact hm4 R4 q53 q54 q44 q111 q112 q113 q56
  have E4 : EX e l (ze_u x 0 12 (nI (a + 1))) m4 := ⟨by rw [hx3 _ _ (by omega), hm4 _ _ (by omega) (by omega)]; exact hE.1, by rw [hx3 _ _ (by omega), hm4 _ _ (by omega) (by omega)]; exact hE.2.1, by rw [hx3 _ _ (by omega), hm4 _ _ (by omega) (by omega)]; exact hE.2.2.1, by rw [hx3 _ _ (by omega)]; exact hE.2.2.2.1, by rw [hm4 _ _ (by omega) (by omega)]; exact hE.2.2.2.2⟩
  obtain ⟨oc, k, a1, x1, m1, k1, k2, k3, k4⟩ := nest (q := q) (A := 0) IH pr hr (show v < 4 by omega) (show 0 ≤ 3 by omega) (by omega) he hlt ht (show a + 1 ≤ 100 by omega) (by omega) (by omega) R4 E4 (Or.inl rfl) q53 q54 q44 q111 q112 q113 (Nat.zero_le _) hev (pr v (by omega)).2.2.1
  have hatt : f_E_attempt (f_xRL D) (58 + e) (nI (41 * r + p)) (nI dd) (ze_u x 0 12 (nI (a + 1))) = some (0, x1) := by
    unfold f_E_attempt
    rw [nI_clamp (by omega), zi_nI (by omega) (by omega), zlet, zi_nI (by omega) (by omega), R3.1 10 _ (by omega) (by omega), (pr r hr).2.2.2 p (by omega), hc, if_neg (show ¬ nI 62 = 33 by decide), if_neg (show ¬ nI 62 = 38 by decide), if_neg (show ¬ nI 62 = 42 by decide), if_neg (show ¬ nI 62 = 43 by decide), if_neg (show ¬ nI 62 = 45 by decide), if_pos (show nI 62 = 62 by decide), R3.1 11 _ (by omega) (by omega), t11, nI_1, show nI v * 41 = nI (41 * v + 0) by rw [show (41 : Int32) = nI 41 from rfl, pk_mul, Nat.mul_comm, Nat.add_zero], k1, zcall]
  obtain ⟨p1, p2⟩ := st_pre pr hr hp h ca e53 e54 hatt hact q56
  have hP : PO n T tb r q e l t dd G R (a + 1) x m x1 m1 oc a1 := by
    obtain ⟨o1, o2, o3, o4, o5, o6, o7⟩ := k3
    exact ⟨o1, o2, o3, o4, fun k i hk => by rw [o5 k i hk, hx3 k i (by omega)], fun k i hk => by rw [o6 k i hk, hm4 k i (by omega) (by omega)], o7⟩
  obtain ⟨f1, f2, f3⟩ := st_run pr hr hp (by omega) h ca e53 e54 p2 (by omega) hP (fun kk N l6 hl6 => k4 kk N l6 (by omega))
  exact ⟨oc, k + 1, a1, x1, m1, p1, f1, f2, f3⟩
end NE
