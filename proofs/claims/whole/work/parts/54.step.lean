/-! PURE: steps with their attempts; turns of the reference's loop -/
section ST
variable {n : Nat → Nat} {T : Nat → Nat → Nat} {tb x m : ze_H} {G R a r p q e l : Nat}
theorem RS_att {ex : Nat} (h : RSx ex n T tb G R a x m) (b : Nat) : RSx ex n T tb G R b (ze_u x 0 12 (nI b)) (ze_u m 75 57 (nI b)) := by
  obtain ⟨h1, h2, h3, h4, h5, h6, h7, h8, h9, h10, h11, h12⟩ := h
  have hx : ∀ k i, ¬ (k = 0 ∧ i = 12) → ze_u x 0 12 (nI b) k i = x k i := fun k i hk => zu_n _ _ _ _ hk
  have hm : ∀ k i, ¬ (k = 75 ∧ i = 57) → ze_u m 75 57 (nI b) k i = m k i := fun k i hk => zu_n _ _ _ _ hk
  exact ⟨kp_tab h1 (fun k i hk => hx k i (by omega)), kp_mt h2 (fun k i hk => hm k i (by omega)), kp_cnt h3 (fun k i hk => hx k i (by omega)) (fun k i hk => hm k i (by omega)), kp_cls h4 (fun k i hk => hx k i (by omega)) (fun k i hk => hm k i (by omega)), kp_ep h5 (fun k i hk => hx k i (by omega)) (fun k i hk => hm k i (by omega)), kp_got h6 (fun k i hk => hx k i (by omega)) (fun k i hk => hm k i (by omega)), kp_que h7 (fun k i hk => hx k i (by omega)) (fun k i hk => hm k i (by omega)), kp_grp h8 (fun k i hk => hx k i (by omega)) (fun k i hk => hm k i (by omega)), kp_i h9 (fun k i hk => hx k i (by omega)) (fun k i hk => hm k i (by omega)), kp_q h10 (fun k i hk => hx k i (by omega)) (fun k i hk => hm k i (by omega)), kp_rdy h11 (Nat.le_refl _) (fun k i hk => hx k i (by omega)) (fun k i hk => hm k i (by omega)), ⟨zu_s _ _ _ _, zu_s _ _ _ _, fun k i hk => (hx k i (by omega)).trans (h12.2.2.1 k i hk), fun k i hk => (hm k i (by omega)).trans (h12.2.2.2 k i hk)⟩⟩
theorem LF_mono {G1 R1 : Nat} {tx tm : Option (Int32 × ze_H)} (h : LF n T tb G R a r p q e l x m tx tm) (hG : G ≤ G1) (hR : R ≤ R1) : LF n T tb G1 R1 a r p q e l x m tx tm := by
  obtain ⟨t, oc, x1, m1, k1, k2, k3, k4, k5, k6⟩ := h
  exact ⟨t, oc, x1, m1, k1, k2, k3, k4, RS_mono k5 hG hR, k6⟩
/-- every step without a list -/
theorem leaf_all (pr : PR n T tb) {f d e' : Nat} (h : RS n T tb G R a x m) (hG : G < 2 ^ 28) (hR : R + 4 ≤ 401) (A : AT n T tb r p e l x m) (hsp : sp (T r) r (sl (T r) r f) d p = .inr q) (hw : wst (T r) r tb 9 (sl (T r) r f) (wt (T r) r tb 9 f) d p q) (hrest : sl (T r) r f d q = .inr e' ∧ wt (T r) r tb 9 f d q) (c1 : ¬ T r p = 63) (c2 : ¬ T r p = 62) (c3 : ¬ T r p = 115) (RC : Nat → Int32 → Int32 → ze_H → Option (Int32 × ze_H)) (b3 : Int32) :
    LF n T tb (G + 4) (R + 4) a r p q e l x m (f_E_attempt RC (58 + e) (nI (41 * r + p)) b3 x) (f_M_act (nI (T r p)) m) := by
  have hz := A.2.2.2.1
  have hr := A.1
  obtain ⟨s1, s2, s3, s4, s5, s6⟩ := hw
  have hend := sp_end hz hsp
  rcases sp_kind hsp with c | c | c | c | ⟨c, u⟩ | ⟨c, u⟩ | ⟨c, u⟩ | ⟨c, u⟩ | ⟨c, u⟩
  · exact absurd c c1
  · exact absurd c c3
  · obtain ⟨z1, z2, z3, z4⟩ := sp_97 c hsp
    have hq : q = a97 (T r) p := (sn_inr z4).2.2.2
    subst z1
    rw [c]
    refine LF_mono (lf_97 pr h (by omega) A ⟨c, z2, z3, by rw [← hq]; exact z4⟩ ?_ (s2 (by omega)) (s4 c) (by rw [← hq]; exact s1) RC b3) (by omega) (by omega)
    rw [← hq]
    exact ⟨hr, hend.2, f, e', hrest.1, hrest.2⟩
  · obtain ⟨z1, z2⟩ := sp_113 c hsp
    have hq : q = ne (T r) (p + 1) := (sn_inr z2).2.2.2
    subst z1
    rw [c]
    refine LF_mono (lf_113 pr h hR A ⟨c, by rw [← hq]; exact z2⟩ ?_ (s2 (by omega)) (by rw [← hq]; exact s1) RC b3) (by omega) (by omega)
    rw [← hq]
    exact ⟨hr, hend.2, f, e', hrest.1, hrest.2⟩
  · have hq : q = ne (T r) (p + 3) := (st_inr u).2.2.2.2
    rw [c]
    exact LF_mono (lf_102 h A c hq (by rw [← hq]; exact u) (s3 (by omega)) RC b3) (by omega) (by omega)
  · have hq : q = ne (T r) (p + 1) := (sn_inr u).2.2.2
    rcases c with c | c
    · rw [c]
      exact LF_mono (lf_33 h hG A c hq u (s2 (by omega)) RC b3) (by omega) (by omega)
    · rw [c]
      exact LF_mono (lf_38 h A c hq u (s2 (by omega)) RC b3) (by omega) (by omega)
  · have hq : q = ne (T r) (p + 1) := (sn_inr u).2.2.2
    rcases c with c | c | c
    · rw [c]
      exact LF_mono (lf_42 h A c hq (s2 (by omega)) RC b3) (by omega) (by omega)
    · rw [c]
      exact LF_mono (lf_43 h A c hq (s2 (by omega)) RC b3) (by omega) (by omega)
    · rw [c]
      exact LF_mono (lf_45 h A c hq (s2 (by omega)) RC b3) (by omega) (by omega)
  · exact absurd c c2
  · rcases c with c | c | c | c
    · rw [c]
      exact LF_mono (lf_98 h A c u RC b3) (by omega) (by omega)
    · rw [c]
      exact LF_mono (lf_105 pr h A c u RC b3) (by omega) (by omega)
    · rw [c]
      exact LF_mono (lf_107 h A c u RC b3) (by omega) (by omega)
    · rw [c]
      exact LF_mono (lf_114 h hG A c u RC b3) (by omega) (by omega)
/-- where an exchange stands, apart from what was counted -/
def PS (n : Nat → Nat) (T : Nat → Nat → Nat) (tb : ze_H) (r p e l t : Nat) (x m : ze_H) : Prop := EX e l x m ∧ m 75 53 = nI r ∧ m 75 54 = nI p ∧ m 75 44 = nI t
/-- a step without a list and all its attempts -/
theorem leaf_step (pr : PR n T tb) {f d e' : Nat} (hr : r < 4) (he : e < 16) (hl' : l < 16) (hp : p < n r) (hsp : sp (T r) r (sl (T r) r f) d p = .inr q) (hw : wst (T r) r tb 9 (sl (T r) r f) (wt (T r) r tb 9 f) d p q) (hrest : sl (T r) r f d q = .inr e' ∧ wt (T r) r tb 9 f d q) (c1 : ¬ T r p = 63) (c2 : ¬ T r p = 62) (c3 : ¬ T r p = 115) (RC : Nat → Int32 → Int32 → ze_H → Option (Int32 × ze_H)) (b3 : Int32) (kx km : ze_H → Option (Int32 × ze_H)) : ∀ (j k G R a : Nat) (x m : ze_H) (N N2 : Nat), k + j = 7 → 1 ≤ k → k ≤ 6 → j < N → j < N2 → a ≤ 100 → G + 5 * (100 - a) < 2 ^ 28 → R + 4 * (100 - a) ≤ 401 → RS n T tb G R a x m → EX e l x m → m 75 53 = nI r → m 75 54 = nI p →
    ∃ oc x1 m1 a1, (oc ≤ 7 ∧ ¬ oc = 1) ∧ a ≤ a1 ∧ a1 ≤ 100 ∧ (oc = 0 → a < a1) ∧ f_E_runStep_L3 RC (58 + e) (nI (41 * r + p)) b3 kx N (nI k) x = some (0, x1) ∧ f_M_step_L2 km N2 (nI k) m = some (nI oc, m1) ∧ RS n T tb (G + 5 * (a1 - a)) (R + 4 * (a1 - a)) a1 x1 (cup oc m1) ∧ (∀ k i, (58 ≤ k ∧ k ≤ 73 ∧ k ≠ 58 + e) → x1 k i = x k i) ∧ (∀ k i, (111 ≤ k ∧ k ≤ 118 ∨ 108 ≤ k ∧ k ≤ 110 ∧ i ≠ l ∨ k = 75 ∧ (i = 35 ∨ i = 40 ∨ i = 44 ∨ i = 53)) → m1 k i = m k i) ∧ (oc = 0 → EX e l x1 m1 ∧ m1 75 54 = nI q) ∧ (¬ oc = 0 → x1 (58 + e) 3 = nI oc)
  | 0, k, G, R, a, x, m, N, N2, hj, hk, hk6, hN, hN2, ha, hG, hR, h, hE, e53, e54 => by omega
  | j + 1, k, G, R, a, x, m, N, N2, hj, hk, hk6, hN, hN2, ha, hG, hR, h, hE, e53, e54 => by
    obtain ⟨N, rfl⟩ : ∃ N', N = N' + 1 := ⟨N - 1, by omega⟩
    obtain ⟨N2, rfl⟩ : ∃ N', N2 = N' + 1 := ⟨N2 - 1, by omega⟩
    have hz := (pr r hr).1
    have h40 := hz.1
    rw [f_E_runStep_L3, f_M_step_L2]
    rw [if_neg (show ¬ (6 : Int32) < nI k from nI_nlt (a := 6) hk6 (by omega)), if_neg (show ¬ (10 : Int32) < nI k from nI_nlt (a := 10) (by omega) (by omega)), h.2.2.2.2.2.2.2.2.2.2.2.1, h.2.2.2.2.2.2.2.2.2.2.2.2.1]
    by_cases ca : a < 100
    · rw [if_pos (show nI a < 100 from nI_lt (b := 100) ca (by omega)), if_pos (show nI a < 100 from nI_lt (b := 100) ca (by omega)), nI_1, zlev, zlev, zlev]
      have R2 := RS_att h (a + 1)
      have hm3 : ∀ k i, ¬ (k = 75 ∧ (i = 56 ∨ i = 57)) → ze_u (ze_u m 75 57 (nI (a + 1))) 75 56 0 k i = m k i := fun k i hk => by rw [zu_n _ _ _ _ (by omega), zu_n _ _ _ _ (by omega)]
      have R3 : RS n T tb G R (a + 1) (ze_u x 0 12 (nI (a + 1))) (ze_u (ze_u m 75 57 (nI (a + 1))) 75 56 0) := RS_kp R2 (fun k i hk => rfl) (fun k i g1 g2 => zu_n _ _ _ _ (by omega))
      have hx3 : ∀ k i, ¬ (k = 0 ∧ i = 12) → ze_u x 0 12 (nI (a + 1)) k i = x k i := fun k i hk => zu_n _ _ _ _ hk
      have e56 : ze_u (ze_u m 75 57 (nI (a + 1))) 75 56 0 75 56 = 0 := zu_s _ _ _ _
      generalize ze_u (ze_u m 75 57 (nI (a + 1))) 75 56 0 = m3 at hm3 R3 e56 ⊢
      generalize ze_u x 0 12 (nI (a + 1)) = x3 at hx3 R3 ⊢
      have E3 : EX e l x3 m3 := ⟨by rw [hx3 _ _ (by omega), hm3 _ _ (by omega)]; exact hE.1, by rw [hx3 _ _ (by omega), hm3 _ _ (by omega)]; exact hE.2.1, by rw [hx3 _ _ (by omega), hm3 _ _ (by omega)]; exact hE.2.2.1, by rw [hx3 _ _ (by omega)]; exact hE.2.2.2.1, by rw [hm3 _ _ (by omega)]; exact hE.2.2.2.2⟩
      have e54' : m3 75 54 = nI p := by rw [hm3 _ _ (by omega)]; exact e54
      have e53' : m3 75 53 = nI r := by rw [hm3 _ _ (by omega)]; exact e53
      have A3 : AT n T tb r p e l x3 m3 := ⟨hr, he, hl', hz, hp, (pr r hr).2.2.2, E3, e53', e54', e56⟩
      obtain ⟨t, oc, x4, m4, k1, k2, k3, k4, k5, k6, k7, k8, k9, k10⟩ := leaf_all pr R3 (by omega) (by omega) A3 hsp hw hrest c1 c2 c3 RC b3
      rw [k1, zcall, zlet, e54', me_here hr hz R3.2.1 e53' (by omega), zcall, k2, zcall, zlet]
      have hfx : ∀ k i, (58 ≤ k ∧ k ≤ 73 ∧ k ≠ 58 + e) → x4 k i = x k i := fun k i hk => by rw [k6 k i hk, hx3 k i (by omega)]
      have hfm : ∀ k i, (111 ≤ k ∧ k ≤ 118 ∨ 108 ≤ k ∧ k ≤ 110 ∧ i ≠ l ∨ k = 75 ∧ (i = 35 ∨ i = 40 ∨ i = 44 ∨ i = 53)) → m4 k i = m k i := fun k i hk => by rw [k7 k i hk, hm3 k i (by omega)]
      by_cases ct : t = 0
      · subst ct
        rw [if_pos (show nI 0 = 0 from rfl), if_pos (show nI 0 = 0 from rfl), (k8 rfl).1]
        exact ⟨oc, x4, m4, a + 1, k4, by omega, by omega, fun _ => by omega, rfl, rfl, RS_mono k5 (by omega) (by omega), hfx, hfm, (k8 rfl).2, k10⟩
      · obtain ⟨rfl, hE4, e544⟩ := k9 ct
        rw [if_neg (nI_ne0 (by omega) (by omega)), if_neg (nI_ne0 (by omega) (by omega))]
        rw [cup_0] at k5
        show ∃ oc x1 m1 a1, _ ∧ _ ∧ _ ∧ _ ∧ _ ∧ mtl km N2 (nI k) (nI t) m4 = _ ∧ _
        rcases sim_thr k5 (by omega) he hl' hE4 k3 hk hk6 km N2 with ⟨g0, x5, m5, g1, g2, g3, g4, g5⟩ | ⟨oc, x5, m5, g0, g1, g2, g3, g4, g5, g6⟩
        · rw [g1, zcall, if_neg (show ¬ (1 : Int32) = 0 by decide), zlet, g2, nI_1]
          have E5 : EX e l x5 m5 := ⟨by rw [g4 _ _ (by omega), g5 _ _ (by omega)]; exact hE4.1, by rw [g4 _ _ (by omega), g5 _ _ (by omega)]; exact hE4.2.1, by rw [g4 _ _ (by omega), g5 _ _ (by omega)]; exact hE4.2.2.1, by rw [g4 _ _ (by omega)]; exact hE4.2.2.2.1, by rw [g5 _ _ (by omega)]; exact hE4.2.2.2.2⟩
          obtain ⟨oc, x6, m6, a1, j1, j2, j3, j4, j5, j6, j7, j8, j9, j10, j11⟩ := leaf_step pr hr he hl' hp hsp hw hrest c1 c2 c3 RC b3 kx km j (k + 1) (G + 4) (R + 4) (a + 1) x5 m5 N N2 (by omega) (by omega) (by omega) (by omega) (by omega) (by omega) (by omega) (by omega) g3 E5 (by rw [g5 _ _ (by omega), hfm 75 53 (by omega)]; exact e53) (by rw [g5 _ _ (by omega)]; exact e544)
          exact ⟨oc, x6, m6, a1, j1, by omega, j3, fun _ => by omega, j5, j6, RS_mono j7 (by omega) (by omega), fun k i hk => by rw [j8 k i hk, g4 k i (by omega), hfx k i hk], fun k i hk => by rw [j9 k i hk, g5 k i (by omega), hfm k i hk], j10, j11⟩
        · rw [g1, zcall, if_pos rfl, g2]
          exact ⟨oc, x5, m5, a + 1, by omega, by omega, by omega, fun c => by omega, rfl, rfl, RS_mono g3 (by omega) (by omega), fun k i hk => by rw [g5 k i hk, hfx k i hk], fun k i hk => by rw [g6 k i (by omega), hfm k i hk], fun c => by omega, fun _ => g4⟩
    · have : a = 100 := by omega
      subst this
      rw [if_neg (show ¬ nI 100 < 100 by decide), if_neg (show ¬ nI 100 < 100 by decide), show (7 : Int32) = nI 7 from rfl, px_end (by omega) x he, zcall]
      refine ⟨7, _, m, 100, by omega, by omega, by omega, fun c => by omega, rfl, rfl, RS_mono (RS_end h he (by omega) (by omega)) (by omega) (by omega), fun k i hk => by rw [zu_n _ _ _ _ (by omega), zu_n _ _ _ _ (by omega)], fun k i hk => rfl, fun c => by omega, fun _ => by rw [zu_n _ _ _ _ (by omega), zu_s]⟩
/-- the end of an exchange, its outcome already counted -/
def fin2 (a1 : Int32) (v1 : ze_H) : Option (Int32 × ze_H) := (if (v1 75 40) = 0 then some (a1, v1) else (f_M_finish_L19  a1 (fun  v3 => (if a1 = 1 then ze_in ((v3 75 44) - 1) 20 (ze_in (v3 75 40) 16 (ze_in ((v3 75 44) - 1) 20 (ze_lev (ze_u v3 117 (Int32.toNatClampNeg ((v3 75 44) - 1)) ((v3 117 (Int32.toNatClampNeg ((v3 75 44) - 1))) + (v3 108 (Int32.toNatClampNeg (v3 75 40))))) (fun v4 => (f_M_finish_J75   v4))))) else (f_M_finish_J75   v3))) 200000  v1))
theorem fin_eq {oc : Nat} (h0 : 0 < oc) (h8 : oc < 8) (m : ze_H) : f_M_finish (nI oc) m = fin2 (nI oc) (cup oc m) := by
  unfold f_M_finish
  rw [zi_nI h8 (by omega), zi_nI h8 (by omega), nI_clamp (by omega), zlev, cup_s h0]
  rfl
/-- a turn of the reference's loop at a step -/
theorem mr_step (hr : r < 4) (hz : tz (n r) (T r)) (hm : r_mt n T m) (e53 : m 75 53 = nI r) (e54 : m 75 54 = nI p) (hp : p < n r) (h41 : ¬ T r p = 41) (kk : Int32 → ze_H → Option (Int32 × ze_H)) {N l6 : Nat} (hl6 : l6 < 100000) {oc : Nat} {m1 : ze_H} (ho : oc ≤ 7) (hs : f_M_step m = some (nI oc, m1)) : f_M_run_L33 kk (N + 1) 0 (nI l6) m = if oc = 0 then f_M_run_L33 kk N 0 (nI (l6 + 1)) m1 else ze_call (fin2 (nI oc) (cup oc m1)) (fun r23 v24 => f_M_run_L33 kk N r23 (nI (l6 + 1)) v24) := by
  have h40 := hz.1
  have hT := tz_le hz p
  rw [f_M_run_L33]
  rw [if_neg (show ¬ (100000 : Int32) ≤ nI l6 from nI_ge (b := 100000) hl6 (by omega)), if_pos rfl, e53, zi_nI hr (by omega), nI_clamp (by omega), (hm r hr).1, e54, if_neg (nI_ge hp (by omega)), me_here hr hz hm e53 (by omega), zcall, if_neg (show ¬ nI (T r p) = 41 by rw [l_41, nI_eqP (by omega) (by omega)]; exact h41), hs, zcall, zlet, nI_1]
  by_cases c : oc = 0
  · subst c
    rw [if_pos rfl, if_pos (show nI 0 ≤ 0 by decide), zlet]
  · rw [if_neg c, if_neg (nI_nle (by omega) (by omega)), fin_eq (by omega) (by omega)]
    rfl
theorem mr_close (hr : r < 4) (hz : tz (n r) (T r)) (hm : r_mt n T m) (e53 : m 75 53 = nI r) (e54 : m 75 54 = nI p) (hp : p ≤ n r) (hend : p = n r ∨ T r p = 41) (kk : Int32 → ze_H → Option (Int32 × ze_H)) {N l6 : Nat} (hl6 : l6 < 100000) : f_M_run_L33 kk (N + 1) 0 (nI l6) m = ze_call (f_M_close m) (fun r9 v10 => f_M_run_L33 kk N r9 (nI (l6 + 1)) v10) := by
  have h40 := hz.1
  have hT := tz_le hz p
  rw [f_M_run_L33]
  rw [if_neg (show ¬ (100000 : Int32) ≤ nI l6 from nI_ge (b := 100000) hl6 (by omega)), if_pos rfl, e53, zi_nI hr (by omega), nI_clamp (by omega), (hm r hr).1, e54, nI_1]
  by_cases c : n r ≤ p
  · rw [if_pos (nI_le c (by omega))]
    rfl
  · rw [if_neg (nI_ge (by omega) (by omega)), me_here hr hz hm e53 (by omega), zcall, hend.resolve_left (by omega), if_pos (show nI 41 = 41 by decide)]
    rfl
end ST
