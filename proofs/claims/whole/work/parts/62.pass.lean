/-! PURE: pass, group, count -/
section PA
variable {n : Nat → Nat} {T : Nat → Nat → Nat} {tb : ze_H}
/-- all that is ready, from the beginning -/
theorem rr_all (pr : PR n T tb) {G R a : Nat} {x m : ze_H} (h : RS n T tb G R a x m) (ha : a ≤ 100) (hG : G + 5 * (100 - a) < 2 ^ 28) (hR : R + 4 * (100 - a) ≤ 401) (e35 : m 75 35 = nI 0) : ∃ res a1 x1 m1, f_E_runReady x = some (res, x1) ∧ f_M_runReady m = some (0, m1) ∧ a ≤ a1 ∧ a1 ≤ 100 ∧ RS n T tb (G + 5 * (a1 - a)) 0 a1 x1 m1 := by
  obtain ⟨f, s, b, w1, w2, w3, w4, w5, w6, w7, w8⟩ := h.2.2.2.2.2.2.2.2.2.2.1
  have hb : b = 0 := by
    have : nI b = nI 0 := by rw [← w6, e35]
    rw [nI_eq (by omega) (by omega)] at this
    exact this
  subst hb
  have z0 : ∀ t, ze_in (0 : Int32) 16 t = t := fun t => zi_nI (j := 0) (by omega) (by omega) t
  unfold f_E_runReady f_M_runReady
  rw [zlet, z0, zlet]
  show ∃ res a1 x1 m1, f_E_runReady_L11 58 _ 200000 (-1) (nI 0) x = _ ∧ _
  by_cases c : s = 0
  · subst c
    obtain ⟨N, hN⟩ : ∃ N, 200000 = N + 1 := ⟨199999, rfl⟩
    refine ⟨-1, a, x, _, ?_, ?_, Nat.le_refl _, ha, RS_mono (RS_idle h w5) (by omega) (Nat.le_refl _)⟩
    · rw [hN, f_E_runReady_L11]
      rw [if_neg (show ¬ (100000 : Int32) ≤ nI 0 by decide), w5, if_pos (show nI 0 ≤ 0 by decide)]
    · rw [hN, f_M_runReady_L0]
      rw [w7, w6, if_pos (nI_le (by omega) (by omega)), zlev, zlev]
  · obtain ⟨s, rfl⟩ : ∃ s', s = s' + 1 := ⟨s - 1, by omega⟩
    obtain ⟨oc, a1, x1, m1, k1, k2, k3, k4, k5, k6, k7, k8, k9⟩ := it1 pr h ha hG hR w5 (by omega) e35 (by omega)
    obtain ⟨a2, x2, m2, j1, j2, j3, j4, j5, j6⟩ := it_all pr 401 1 (G + 5 * (a1 - a)) (R + 4 * (a1 - a)) a1 x1 m1 (by omega) k6 k4 (by omega) (by omega) k7 (by omega)
    obtain ⟨N, hN⟩ : ∃ N, 200000 = N + 1 := ⟨199999, rfl⟩
    refine ⟨nI oc, a2, x2, _, ?_, ?_, by omega, j2, RS_mono (RS_idle j3 j4) (by omega) (Nat.le_refl _)⟩
    · rw [hN, k8 _ N (-1) 0 (by omega), if_pos rfl, j5 _ N (nI oc) 1 (by omega) (by omega) (by omega)]
    · rw [hN, k9, j6 _ N (by omega), zlev, zlev]
/-- the group that is due -/
theorem sim_due {G R a : Nat} {x m : ze_H} (h : RS n T tb G R a x m) : (f_G_firstDue (x 0 13) x = some (-1, x) ∧ f_M_dueGroup m = some (-1, m)) ∨ ∃ c g, c < g ∧ g ≤ 120 ∧ x 47 5 = nI g ∧ f_G_firstDue (x 0 13) x = some (nI c, x) ∧ f_M_dueGroup m = some (nI c, m) := by
  obtain ⟨g, q1, q2, q3, q4, q5, q6⟩ := h.2.2.2.2.2.2.2.1
  have ht := h.2.2.1.2.1
  have h52 : ∀ i, i < g → x 52 i = m 98 i := fun i hi => by
    obtain ⟨r, p, b, w1, w2, w3, w4, w5, w6, w7, w8, w9, w10, w11, w12, w13⟩ := q4 i hi
    exact w12
  have loop : ∀ (d j : Nat), j + d = g → (∃ c, c < g ∧ (∀ kk N, d < N → f_G_firstDue_L2 (x 0 13) kk N (nI j) x = some (nI c, x)) ∧ ∀ kk N, d < N → f_M_dueGroup_L2 kk N (nI j) m = some (nI c, m)) ∨ ((∀ kk N, d < N → f_G_firstDue_L2 (x 0 13) kk N (nI j) x = kk x) ∧ ∀ kk N, d < N → f_M_dueGroup_L2 kk N (nI j) m = kk m) := by
    intro d
    induction d with
    | zero =>
      intro j hj
      refine Or.inr ⟨fun kk N hN => ?_, fun kk N hN => ?_⟩
      · obtain ⟨N, rfl⟩ : ∃ N', N = N' + 1 := ⟨N - 1, by omega⟩
        rw [f_G_firstDue_L2]
        rw [q2, if_pos (nI_le (by omega) (by omega))]
      · obtain ⟨N, rfl⟩ : ∃ N', N = N' + 1 := ⟨N - 1, by omega⟩
        rw [f_M_dueGroup_L2]
        rw [q3, if_pos (nI_le (by omega) (by omega))]
    | succ d ih =>
      intro j hj
      have hjg : j < g := by omega
      have xs : ∀ (kk : ze_H → Option (Int32 × ze_H)) N, f_G_firstDue_L2 (x 0 13) kk (N + 1) (nI j) x = if x 0 13 < x 52 j then f_G_firstDue_L2 (x 0 13) kk N (nI (j + 1)) x else some (nI j, x) := fun kk N => by
        rw [f_G_firstDue_L2]
        rw [q2, if_neg (nI_ge hjg (by omega)), zi_nI (by omega) (by omega), nI_clamp (by omega), zlet, nI_1]
      have ms : ∀ (kk : ze_H → Option (Int32 × ze_H)) N, f_M_dueGroup_L2 kk (N + 1) (nI j) m = if x 0 13 < x 52 j then f_M_dueGroup_L2 kk N (nI (j + 1)) m else some (nI j, m) := fun kk N => by
        rw [f_M_dueGroup_L2]
        rw [q3, if_neg (nI_ge hjg (by omega)), zi_nI (by omega) (by omega), nI_clamp (by omega), zlet, nI_1, ← ht, ← h52 j hjg]
      by_cases c : x 0 13 < x 52 j
      · rcases ih (j + 1) (by omega) with ⟨i, h1, h2, h3⟩ | ⟨h1, h2⟩
        · refine Or.inl ⟨i, h1, fun kk N hN => ?_, fun kk N hN => ?_⟩
          · obtain ⟨N, rfl⟩ : ∃ N', N = N' + 1 := ⟨N - 1, by omega⟩
            rw [xs, if_pos c, h2 kk N (by omega)]
          · obtain ⟨N, rfl⟩ : ∃ N', N = N' + 1 := ⟨N - 1, by omega⟩
            rw [ms, if_pos c, h3 kk N (by omega)]
        · refine Or.inr ⟨fun kk N hN => ?_, fun kk N hN => ?_⟩
          · obtain ⟨N, rfl⟩ : ∃ N', N = N' + 1 := ⟨N - 1, by omega⟩
            rw [xs, if_pos c, h1 kk N (by omega)]
          · obtain ⟨N, rfl⟩ : ∃ N', N = N' + 1 := ⟨N - 1, by omega⟩
            rw [ms, if_pos c, h2 kk N (by omega)]
      · refine Or.inl ⟨j, hjg, fun kk N hN => ?_, fun kk N hN => ?_⟩
        · obtain ⟨N, rfl⟩ : ∃ N', N = N' + 1 := ⟨N - 1, by omega⟩
          rw [xs, if_neg c]
        · obtain ⟨N, rfl⟩ : ∃ N', N = N' + 1 := ⟨N - 1, by omega⟩
          rw [ms, if_neg c]
  unfold f_G_firstDue f_M_dueGroup
  rw [zlet, zlet]
  rcases loop g 0 (by omega) with ⟨c, h1, h2, h3⟩ | ⟨h1, h2⟩
  · exact Or.inr ⟨c, g, h1, q1, q2, h2 _ 200000 (by omega), h3 _ 200000 (by omega)⟩
  · exact Or.inl ⟨h1 _ 200000 (by omega), h2 _ 200000 (by omega)⟩
/-- as long as groups are due -/
theorem pass_in (pr : PR n T tb) {G0 : Nat} {b1 b3 : Int32} (hG : G0 + 500 < 2 ^ 28) (kx km : Int32 → ze_H → Option (Int32 × ze_H)) : ∀ (d N l5 a : Nat) (l2 l4 : Int32) (x m : ze_H), l5 + d = 100000 → d < N → a ≤ 100 → RS n T tb (G0 + 5 * a) 0 a x m → ((l4 = -1) ∨ ∃ c g, c < g ∧ g ≤ 120 ∧ x 47 5 = nI g ∧ l4 = nI c) →
    ∃ l2' a1 x1 m1, f_E_pass_L53 b1 b3 kx N l2 l4 (nI l5) x = kx l2' x1 ∧ f_M_pass_L45 b1 b3 km N l2 l4 (nI l5) m = km l2' m1 ∧ a1 ≤ 100 ∧ RS n T tb (G0 + 5 * a1) 0 a1 x1 m1
  | 0, N, l5, a, l2, l4, x, m, hd, hN, ha, h, hl4 => by
    obtain ⟨N, rfl⟩ : ∃ N', N = N' + 1 := ⟨N - 1, by omega⟩
    have : l5 = 100000 := by omega
    subst this
    refine ⟨l2, a, x, m, ?_, ?_, ha, h⟩
    · rw [f_E_pass_L53]
      rw [if_pos (show (100000 : Int32) ≤ nI 100000 from nI_le (a := 100000) (Nat.le_refl _) (by omega))]
    · rw [f_M_pass_L45]
      rw [if_pos (show (100000 : Int32) ≤ nI 100000 from nI_le (a := 100000) (Nat.le_refl _) (by omega))]
  | d + 1, N, l5, a, l2, l4, x, m, hd, hN, ha, h, hl4 => by
    obtain ⟨N, rfl⟩ : ∃ N', N = N' + 1 := ⟨N - 1, by omega⟩
    have hlt : ¬ (100000 : Int32) ≤ nI l5 := nI_ge (b := 100000) (by omega) (by omega)
    rcases hl4 with rfl | ⟨c, g, hc, hg, e47, rfl⟩
    · refine ⟨l2, a, x, m, ?_, ?_, ha, h⟩
      · rw [f_E_pass_L53]
        rw [if_neg hlt, if_pos rfl]
      · rw [f_M_pass_L45]
        rw [if_neg hlt, if_pos (show (-1 : Int32) < 0 by decide)]
    · obtain ⟨x1, m1, k1, k2, k3, k4, k5⟩ := sim_release pr h (Or.inl rfl) (by omega) e47 hg hc
      obtain ⟨i5, i35, i36, i0, _⟩ := idle_rdy h
      obtain ⟨res, a1, x2, m2, j1, j2, j3, j4, j5⟩ := rr_all pr k3 ha (by omega) (by omega) (by rw [k5 75 35 (by omega) (by omega) (by omega)]; exact i35)
      have R2 : RS n T tb (G0 + 5 * a1) 0 a1 x2 m2 := RS_mono j5 (by omega) (Nat.le_refl _)
      have nxt : ∃ l4', f_G_firstDue (x2 0 13) x2 = some (l4', x2) ∧ f_M_dueGroup m2 = some (l4', m2) ∧ ((l4' = -1) ∨ ∃ c g, c < g ∧ g ≤ 120 ∧ x2 47 5 = nI g ∧ l4' = nI c) := by
        rcases sim_due R2 with ⟨u1, u2⟩ | ⟨c', g', u1, u2, u3, u4, u5⟩
        · exact ⟨-1, u1, u2, Or.inl rfl⟩
        · exact ⟨nI c', u4, u5, Or.inr ⟨c', g', u1, u2, u3, rfl⟩⟩
      obtain ⟨l4', u1, u2, u3⟩ := nxt
      obtain ⟨l2', a2, x3, m3, v1, v2, v3, v4⟩ := pass_in pr (b1 := b1) (b3 := b3) hG kx km d N (l5 + 1) a1 (l2 + 1) l4' x2 m2 (by omega) (by omega) j4 R2 u3
      refine ⟨l2', a2, x3, m3, ?_, ?_, v3, v4⟩
      · rw [f_E_pass_L53]
        rw [if_neg hlt, if_neg (show ¬ nI c = -1 by rw [m1_l, nI_m1P (by omega)]; exact id), k1, zcall, zlet, j1, zcall, u1, zcall, zlet, zlet, nI_1]
        exact v1
      · rw [f_M_pass_L45]
        rw [if_neg hlt, if_neg (nI_pos (by omega)), k2, zcall, zlet, j2, zcall, u2, zcall, zlet, zlet, nI_1]
        exact v2
/-- time alone -/
theorem RS_tick {G R a : Nat} {x m : ze_H} (h : RS n T tb G R a x m) : RS n T tb G R a (ze_u x 0 13 (x 0 13 + 1)) (ze_u m 75 58 (m 75 58 + 1)) := by
  obtain ⟨h1, h2, h3, h4, h5, h6, h7, h8, h9, h10, h11, h12⟩ := h
  have hx : ∀ k i, ¬ (k = 0 ∧ i = 13) → ze_u x 0 13 (x 0 13 + 1) k i = x k i := fun k i hk => zu_n _ _ _ _ hk
  have hm : ∀ k i, ¬ (k = 75 ∧ i = 58) → ze_u m 75 58 (m 75 58 + 1) k i = m k i := fun k i hk => zu_n _ _ _ _ hk
  refine ⟨kp_tab h1 (fun k i hk => hx k i (by omega)), kp_mt h2 (fun k i hk => hm k i (by omega)), ⟨fun k hk => ?_, ?_, ?_⟩, kp_cls h4 (fun k i hk => hx k i (by omega)) (fun k i hk => hm k i (by omega)), kp_ep h5 (fun k i hk => hx k i (by omega)) (fun k i hk => hm k i (by omega)), kp_got h6 (fun k i hk => hx k i (by omega)) (fun k i hk => hm k i (by omega)), kp_que h7 (fun k i hk => hx k i (by omega)) (fun k i hk => hm k i (by omega)), kp_grp h8 (fun k i hk => hx k i (by omega)) (fun k i hk => hm k i (by omega)), kp_i h9 (fun k i hk => hx k i (by omega)) (fun k i hk => hm k i (by omega)), kp_q h10 (fun k i hk => hx k i (by omega)) (fun k i hk => hm k i (by omega)), kp_rdy h11 (Nat.le_refl _) (fun k i hk => hx k i (by omega)) (fun k i hk => hm k i (by omega)), kp_att h12 (fun k i hk => hx k i (by omega)) (fun k i hk => hm k i (by omega))⟩
  · rw [hx _ _ (by omega), hm _ _ (by omega)]
    exact h3.1 k hk
  · rw [zu_s, zu_s, h3.2.1]
  · rw [hx _ _ (by omega), hm _ _ (by omega)]
    exact h3.2.2
theorem pass_out (pr : PR n T tb) {G0 c : Nat} (hG : G0 + 500 < 2 ^ 28) (hc : c ≤ 100) (kx km : Int32 → ze_H → Option (Int32 × ze_H)) : ∀ (d N l3 a : Nat) (l2 : Int32) (x m : ze_H), l3 + d = c → d < N → a ≤ 100 → RS n T tb (G0 + 5 * a) 0 a x m →
    ∃ l2' a1 x1 m1, f_E_pass_L22 (nI c) kx N l2 (nI l3) x = kx l2' x1 ∧ f_M_pass_L21 (nI c) km N l2 (nI l3) m = km l2' m1 ∧ a1 ≤ 100 ∧ RS n T tb (G0 + 5 * a1) 0 a1 x1 m1
  | 0, N, l3, a, l2, x, m, hd, hN, ha, h => by
    obtain ⟨N, rfl⟩ : ∃ N', N = N' + 1 := ⟨N - 1, by omega⟩
    refine ⟨l2, a, x, m, ?_, ?_, ha, h⟩
    · rw [f_E_pass_L22]
      rw [if_pos (nI_le (by omega) (by omega))]
    · rw [f_M_pass_L21]
      rw [if_pos (nI_le (by omega) (by omega))]
  | d + 1, N, l3, a, l2, x, m, hd, hN, ha, h => by
    obtain ⟨N, rfl⟩ : ∃ N', N = N' + 1 := ⟨N - 1, by omega⟩
    have RT := RS_tick h
    have nxt : ∃ l4', f_G_firstDue (ze_u x 0 13 (x 0 13 + 1) 0 13) (ze_u x 0 13 (x 0 13 + 1)) = some (l4', ze_u x 0 13 (x 0 13 + 1)) ∧ f_M_dueGroup (ze_u m 75 58 (m 75 58 + 1)) = some (l4', ze_u m 75 58 (m 75 58 + 1)) ∧ ((l4' = -1) ∨ ∃ c g, c < g ∧ g ≤ 120 ∧ ze_u x 0 13 (x 0 13 + 1) 47 5 = nI g ∧ l4' = nI c) := by
      rcases sim_due RT with ⟨u1, u2⟩ | ⟨c', g', u1, u2, u3, u4, u5⟩
      · exact ⟨-1, u1, u2, Or.inl rfl⟩
      · exact ⟨nI c', u4, u5, Or.inr ⟨c', g', u1, u2, u3, rfl⟩⟩
    obtain ⟨l4', u1, u2, u3⟩ := nxt
    obtain ⟨l2', a1, x1, m1, v1, v2, v3, v4⟩ := pass_in pr (b1 := nI c) (b3 := nI l3) hG (fun x18 v19 => ze_let (nI l3 + 1) (fun x20 => f_E_pass_L22 (nI c) kx N x18 x20 v19)) (fun x20 v21 => ze_let (nI l3 + 1) (fun x22 => f_M_pass_L21 (nI c) km N x20 x22 v21)) 100000 200000 0 a l2 l4' (ze_u x 0 13 (x 0 13 + 1)) (ze_u m 75 58 (m 75 58 + 1)) (by omega) (by omega) ha RT u3
    obtain ⟨l2'', a2, x2, m2, z1, z2, z3, z4⟩ := pass_out pr hG hc kx km d N (l3 + 1) a1 l2' x1 m1 (by omega) (by omega) v3 v4
    refine ⟨l2'', a2, x2, m2, ?_, ?_, z3, z4⟩
    · rw [f_E_pass_L22]
      rw [if_neg (nI_ge (by omega) (by omega)), zlev, u1, zcall, zlet, zlet]
      refine Eq.trans v1 ?_
      rw [zlet, nI_1]
      exact z1
    · rw [f_M_pass_L21]
      rw [if_neg (nI_ge (by omega) (by omega)), zlev, u2, zcall, zlet, zlet]
      refine Eq.trans v2 ?_
      rw [zlet, nI_1]
      exact z2
theorem sim_pass (pr : PR n T tb) {G a : Nat} {x m : ze_H} (h : RS n T tb G 0 a x m) (hG : G + 500 < 2 ^ 28) (ha : a ≤ 100) (k : Int32) : ∃ res a1 x1 m1, f_E_pass k x = some (res, x1) ∧ f_M_pass k m = some (res, m1) ∧ a1 ≤ 100 ∧ RS n T tb (G + 500) 0 a1 x1 m1 := by
  unfold f_E_pass f_M_pass
  rcases rng k (lo := 1) (hi := 100) (l := 1) (h := 100) (by decide) (by decide) with h0 | ⟨h0, h1⟩ | ⟨h0, h1, c, hc1, hc2, rfl⟩
  · rw [if_pos h0, pm_out1 (Or.inl h0), zcall, if_neg (by decide)]
    exact ⟨-1, a, x, m, rfl, rfl, ha, RS_mono h (by omega) (Nat.le_refl _)⟩
  · rw [if_neg h0, if_neg (fun q => absurd h1 (Int32.not_lt.mpr q)), pm_rg1 h1, zcall, if_neg (by decide)]
    exact ⟨-1, a, x, m, rfl, rfl, ha, RS_mono h (by omega) (Nat.le_refl _)⟩
  · rw [if_neg h0, if_pos (Int32.not_lt.mp h1), pm_rg h0 h1, zcall, if_pos rfl, zlev, zlev, zlet, zlet, zlet, zlet]
    have R0 := RS_att h 0
    obtain ⟨l2', a1, x1, m1, k1, k2, k3, k4⟩ := pass_out pr (G0 := G) hG hc2 (fun x21 v22 => some (x21, v22)) (fun x23 v24 => some (x23, v24)) c 200000 0 0 0 (ze_u x 0 12 (nI 0)) (ze_u m 75 57 (nI 0)) (by omega) (by omega) (by omega) R0
    exact ⟨l2', a1, x1, m1, k1, k2, k3, RS_mono k4 (by omega) (Nat.le_refl _)⟩
theorem sim_group {G R a : Nat} {x m : ze_H} (h : RS n T tb G R a x m) (a1 a2 : Int32) : ∃ res, f_E_group a1 a2 x = some (res, x) ∧ f_M_group a1 a2 m = some (res, m) := by
  obtain ⟨g, q1, q2, q3, q4, q5, q6⟩ := h.2.2.2.2.2.2.2.1
  unfold f_E_group f_M_group
  rw [q2, q3]
  by_cases c0 : a1 < 0
  · rw [if_pos c0, if_pos c0]
    exact ⟨0, rfl, rfl⟩
  · rw [if_neg c0, if_neg c0]
    by_cases c1 : a1 < nI g
    · obtain ⟨j, hj, rfl⟩ := nI_of c0
      have hjg : j < g := by
        rw [nI_ltP (by omega) (by omega)] at c1
        exact c1
      obtain ⟨r, p, b, w1, w2, w3, w4, w5, w6, w7, w8, w9, w10, w11, w12, w13⟩ := q4 j hjg
      rw [if_pos c1, if_pos c1]
      simp only [show ∀ t, ze_in (nI j) 120 t = t from fun t => zi_nI (by omega) (by omega) t, nI_clamp hj, w8, w9, w10, w11, w12]
      by_cases d0 : a2 = 0
      · rw [if_pos d0, if_pos d0]
        exact ⟨_, rfl, rfl⟩
      · rw [if_neg d0, if_neg d0]
        by_cases d1 : a2 = 1
        · rw [if_pos d1, if_pos d1]
          exact ⟨_, rfl, rfl⟩
        · rw [if_neg d1, if_neg d1]
          by_cases d2 : a2 = 2
          · rw [if_pos d2, if_pos d2]
            exact ⟨_, rfl, rfl⟩
          · rw [if_neg d2, if_neg d2]
            by_cases d3 : a2 = 3
            · rw [if_pos d3, if_pos d3]
              exact ⟨_, rfl, rfl⟩
            · rw [if_neg d3, if_neg d3]
              exact ⟨_, rfl, rfl⟩
    · rw [if_neg c1, if_neg c1]
      exact ⟨0, rfl, rfl⟩
theorem sim_count {G R a : Nat} {x m : ze_H} (h : RS n T tb G R a x m) (a1 : Int32) : ∃ res, f_E_count a1 x = some (res, x) ∧ f_M_count a1 m = some (res, m) := by
  obtain ⟨g, q1, q2, q3, -⟩ := h.2.2.2.2.2.2.2.1
  obtain ⟨fq, sq, u1, u2, u3, u4, u5, u6, -⟩ := h.2.2.2.2.2.2.1
  obtain ⟨hh, v1, v2, v3, -⟩ := h.2.2.2.2.2.2.2.2.2.1
  obtain ⟨c1, c2, c3⟩ := h.2.2.1
  have hJ : ∃ res, f_E_count_J17 a1 x = some (res, x) ∧ f_M_count_J17 a1 m = some (res, m) := by
    unfold f_E_count_J17 f_M_count_J17
    rw [c2, u5, u6, q2, q3, v2, v3, c3]
    by_cases d0 : a1 = 8
    · rw [if_pos d0, if_pos d0]
      exact ⟨_, rfl, rfl⟩
    · rw [if_neg d0, if_neg d0]
      by_cases d1 : a1 = 9
      · rw [if_pos d1, if_pos d1]
        exact ⟨_, rfl, rfl⟩
      · rw [if_neg d1, if_neg d1]
        by_cases d2 : a1 = 10
        · rw [if_pos d2, if_pos d2]
          exact ⟨_, rfl, rfl⟩
        · rw [if_neg d2, if_neg d2]
          by_cases d3 : a1 = 11
          · rw [if_pos d3, if_pos d3]
            exact ⟨_, rfl, rfl⟩
          · rw [if_neg d3, if_neg d3]
            by_cases d4 : a1 = 12
            · rw [if_pos d4, if_pos d4]
              exact ⟨_, rfl, rfl⟩
            · rw [if_neg d4, if_neg d4]
              exact ⟨_, rfl, rfl⟩
  unfold f_E_count f_M_count
  by_cases e0 : a1 < 0
  · rw [if_pos e0, if_pos e0]
    exact hJ
  · rw [if_neg e0, if_neg e0]
    by_cases e1 : 7 < a1
    · rw [if_pos e1, if_pos e1]
      exact hJ
    · rw [if_neg e1, if_neg e1]
      obtain ⟨j, hj, rfl⟩ := nI_of2 (M := 7) (n := 7) (by decide) e0 (Int32.not_lt.mp e1)
      rw [zi_nI (by omega) (by omega), zi_nI (by omega) (by omega), nI_clamp (by omega), c1 j (by omega)]
      exact ⟨_, rfl, rfl⟩
end PA
