/-! PURE: every call keeps the relation -/
def H2 (N : Nat) (x m : ze_H) : Prop := rs_txt x m ∧ ∃ n T tb a, PR n T tb ∧ a ≤ 100 ∧ RS n T tb (500 * N) 0 a x m
def tbn (tb x m : ze_H) : ze_H := fun k i => if k < 1000 then tb k i else if k % 2 = 0 then x ((k - 1000) / 2) i else m ((k - 1001) / 2) i
theorem tbn_lo {tb x m : ze_H} {k i : Nat} (h : k < 1000) : tbn tb x m k i = tb k i := if_pos h
theorem tbn_x {tb x m : ze_H} {k i : Nat} : tbn tb x m (1000 + 2 * k) i = x k i := by
  unfold tbn
  rw [if_neg (by omega), if_pos (by omega), show (1000 + 2 * k - 1000) / 2 = k by omega]
theorem tbn_m {tb x m : ze_H} {k i : Nat} : tbn tb x m (1001 + 2 * k) i = m k i := by
  unfold tbn
  rw [if_neg (by omega), if_neg (by omega), show (1001 + 2 * k - 1001) / 2 = k by omega]
section CA
variable {n : Nat → Nat} {T : Nat → Nat → Nat} {tb : ze_H}
theorem lsx_tbn {x m : ze_H} (pr : PR n T tb) {r p : Nat} (h : lsx n T tb r p) : lsx n T (tbn tb x m) r p := by
  obtain ⟨h1, h2, f, e, h3, h4⟩ := h
  exact ⟨h1, h2, f, e, h3, wt_kp (pr r h1).1 f 0 p e h2 h3 (fun k i k1 k2 k3 k4 => tbn_lo (by omega)) h4⟩
theorem PR_tbn {x m : ze_H} (pr : PR n T tb) : PR n T (tbn tb x m) := fun r hr => by
  obtain ⟨h1, ⟨e, h2⟩, h3, h4⟩ := pr r hr
  exact ⟨h1, ⟨e, h2⟩, wt_kp h1 41 0 0 e (Nat.zero_le _) h2 (fun k i k1 k2 k3 k4 => tbn_lo (by omega)) h3, fun p hp => by rw [tbn_lo (by omega)]; exact h4 p hp⟩
/-- what the relation does not speak of may change between the calls -/
theorem RS_w {G a : Nat} {x m x' m' : ze_H} (pr : PR n T tb) (h : RS n T tb G 0 a x m) (hx : ∀ k i, k < 75 → ¬ (k = 1 ∨ 3 ≤ k ∧ k ≤ 8 ∨ k = 16) → x' k i = x k i) (hm : ∀ k i, 75 ≤ k → ¬ (k = 76 ∨ k = 77 ∨ k = 80 ∨ k = 75 ∧ (i = 5 ∨ i = 6)) → m' k i = m k i) : RS n T (tbn tb x' m') G 0 a x' m' := by
  obtain ⟨h1, h2, h3, h4, h5, h6, h7, ⟨g, q1, q2, q3, q4, q5, q6⟩, h9, h10, ⟨f, s, b, w1, w2, w3, w4, w5, w6, w7, w8⟩, h12⟩ := h
  refine ⟨fun k i k1 k2 => ?_, kp_mt h2 (fun k i hk => hm k i (by omega) (by omega)), kp_cnt h3 (fun k i hk => hx k i (by omega) (by omega)) (fun k i hk => hm k i (by omega) (by omega)), kp_cls h4 (fun k i hk => hx k i (by omega) (by omega)) (fun k i hk => hm k i (by omega) (by omega)), kp_ep h5 (fun k i hk => hx k i (by omega) (by omega)) (fun k i hk => hm k i (by omega) (by omega)), kp_got h6 (fun k i hk => hx k i (by omega) (by omega)) (fun k i hk => hm k i (by omega) (by omega)), kp_que h7 (fun k i hk => hx k i (by omega) (by omega)) (fun k i hk => hm k i (by omega) (by omega)), ⟨g, q1, by rw [hx _ _ (by omega) (by omega)]; exact q2, by rw [hm _ _ (by omega) (by omega)]; exact q3, fun i hi => ?_, fun y => ?_, fun i j hi hj => ?_⟩, kp_i h9 (fun k i hk => hx k i (by omega) (by omega)) (fun k i hk => hm k i (by omega) (by omega)), kp_q h10 (fun k i hk => hx k i (by omega) (by omega)) (fun k i hk => hm k i (by omega) (by omega)), ⟨f, s, b, w1, w2, by rw [hx _ _ (by omega) (by omega)]; exact w3, by rw [hx _ _ (by omega) (by omega)]; exact w4, by rw [hx _ _ (by omega) (by omega)]; exact w5, by rw [hm _ _ (by omega) (by omega)]; exact w6, by rw [hm _ _ (by omega) (by omega)]; exact w7, fun i hi => by omega⟩, by rw [hx _ _ (by omega) (by omega)]; exact h12.1, by rw [hm _ _ (by omega) (by omega)]; exact h12.2.1, fun k i _ => tbn_x.symm, fun k i _ => tbn_m.symm⟩
  · rw [hx k i (by omega) (by omega), tbn_lo (by omega)]
    exact h1 k i k1 k2
  · obtain ⟨r, p, b2, z1, z2, z3, z4, z5, z6, z7, z8, z9, z10, z11, z12, z13⟩ := q4 i hi
    refine ⟨r, p, b2, z1, z2, lsx_tbn pr z3, by
      have hz := (pr r z1).1
      rw [tbn_lo (by omega)]
      exact z4, z5, ?_, ?_, ?_, ?_, ?_, ?_, ?_, ?_⟩
    · rw [hx _ _ (by omega) (by omega)]
      exact z6
    · rw [hm _ _ (by omega) (by omega)]
      exact z7
    · rw [hx _ _ (by omega) (by omega), hm _ _ (by omega) (by omega)]
      exact z8
    · rw [hx _ _ (by omega) (by omega), hm _ _ (by omega) (by omega)]
      exact z9
    · rw [hx _ _ (by omega) (by omega)]
      exact z10
    · rw [hm _ _ (by omega) (by omega)]
      exact z11
    · rw [hx _ _ (by omega) (by omega), hm _ _ (by omega) (by omega)]
      exact z12
    · rw [hm _ _ (by omega) (by omega)]
      exact z13
  · rw [cntI_kp (g := x 48) g (fun i _ => hx 48 i (by omega) (by omega))]
    exact q5 y
  · rw [hx 48 i (by omega) (by omega), hx 48 j (by omega) (by omega), hx 49 i (by omega) (by omega), hx 49 j (by omega) (by omega)]
    exact q6 i j hi hj
end CA
theorem txt_pt {x m x' m' : ze_H} (h : rs_txt x m) (hx : ∀ k i, (k = 1 ∨ k = 3) → x' k i = x k i) (hm : ∀ k i, (k = 76 ∨ k = 77) → m' k i = m k i) : rs_txt x' m' := fun r hr => by
  obtain ⟨n, h1, h2, h3, h4, h5⟩ := h r hr
  refine ⟨n, h1, by rw [hx _ _ (by omega)]; exact h2, by rw [hm _ _ (by omega)]; exact h3, fun i hi => ?_, fun i h6 h7 => by rw [hx _ _ (by omega)]; exact h5 i h6 h7⟩
  obtain ⟨c, c1, c2, c3, c4⟩ := h4 i hi
  exact ⟨c, c1, c2, by rw [hx _ _ (by omega)]; exact c3, by rw [hm _ _ (by omega)]; exact c4⟩
theorem H2_w {N : Nat} {x m x' m' : ze_H} (h : H2 N x m) (hx : ∀ k i, k < 75 → x' k i = x k i) (hm : ∀ k i, 75 ≤ k → m' k i = m k i) : H2 N x' m' := by
  obtain ⟨h1, n, T, tb, a, h2, h3, h4⟩ := h
  exact ⟨txt_pt h1 (fun k i hk => hx k i (by omega)) (fun k i hk => hm k i (by omega)), n, T, _, a, PR_tbn h2, h3, RS_w h2 h4 (fun k i hk _ => hx k i hk) (fun k i hk _ => hm k i hk)⟩
theorem H2_mono {N : Nat} {x m : ze_H} (h : H2 N x m) : H2 (N + 1) x m := by
  obtain ⟨h1, n, T, tb, a, h2, h3, h4⟩ := h
  exact ⟨h1, n, T, tb, a, h2, h3, RS_mono h4 (by omega) (Nat.le_refl _)⟩
def CS (N : Nat) (FE FM : ze_H → Option (Int32 × ze_H)) : Prop := ∀ x m, H2 N x m → ∃ res x1 m1, FE x = some (res, x1) ∧ FM m = some (res, m1) ∧ H2 (N + 1) x1 m1 ∧ (∀ k i, 75 ≤ k → x1 k i = x k i) ∧ (∀ k i, k < 75 → m1 k i = m k i)
/-- one call after the other in one world -/
theorem call {N : Nat} {FE FM : ze_H → Option (Int32 × ze_H)} (hs : CS N FE FM) {v : ze_H} (h : H2 N v v) : ∃ res x1 w, FE v = some (res, x1) ∧ FM x1 = some (res, w) ∧ H2 (N + 1) w w := by
  obtain ⟨res, x1, m1, a1, a2, a3, a4, a5⟩ := hs v v h
  obtain ⟨res2, x2, m2, b1, b2, b3, b4, b5⟩ := hs v x1 (H2_w h (fun k i hk => rfl) (fun k i hk => a4 k i hk))
  rw [a1] at b1
  injection b1 with b1
  injection b1 with b1 b1'
  subst b1 b1'
  exact ⟨res, x1, m2, a1, b2, H2_w b3 (fun k i hk => b5 k i hk) (fun k i hk => rfl)⟩
/-- calls that change nothing -/
theorem cs_same {N : Nat} {FE FM : ze_H → Option (Int32 × ze_H)} (hs : ∀ x m, H2 N x m → ∃ res, FE x = some (res, x) ∧ FM m = some (res, m)) : CS N FE FM := fun x m h => by
  obtain ⟨res, h1, h2⟩ := hs x m h
  exact ⟨res, x, m, h1, h2, H2_mono h, fun _ _ _ => rfl, fun _ _ _ => rfl⟩
/-- calls that run exchanges -/
theorem cs_run {N : Nat} (hN : N ≤ 600) {FE FM : ze_H → Option (Int32 × ze_H)} (hs : ∀ (n : Nat → Nat) (T : Nat → Nat → Nat) (tb : ze_H) (G a : Nat) (x m : ze_H), PR n T tb → RS n T tb G 0 a x m → G + 500 < 2 ^ 28 → a ≤ 100 → ∃ res a1 x1 m1, FE x = some (res, x1) ∧ FM m = some (res, m1) ∧ a1 ≤ 100 ∧ RS n T tb (G + 500) 0 a1 x1 m1) : CS N FE FM := fun x m h => by
  obtain ⟨h1, n, T, tb, a, h2, h3, h4⟩ := h
  obtain ⟨res, a1, x1, m1, k1, k2, k3, k4⟩ := hs n T tb (500 * N) a x m h2 h4 (by omega) h3
  have f1 := h4.2.2.2.2.2.2.2.2.2.2.2.2.2
  have f2 := k4.2.2.2.2.2.2.2.2.2.2.2.2.2
  have fx : ∀ k i, (k = 1 ∨ k = 3 ∨ 75 ≤ k) → x1 k i = x k i := fun k i hk => by rw [f2.1 k i hk, f1.1 k i hk]
  have fm : ∀ k i, (k = 76 ∨ k = 77 ∨ k < 75) → m1 k i = m k i := fun k i hk => by rw [f2.2 k i hk, f1.2 k i hk]
  exact ⟨res, x1, m1, k1, k2, ⟨txt_pt h1 (fun k i hk => fx k i (by omega)) (fun k i hk => fm k i (by omega)), n, T, tb, a1, h2, k3, RS_mono k4 (by omega) (Nat.le_refl _)⟩, fun k i hk => fx k i (by omega), fun k i hk => fm k i (by omega)⟩
theorem cs_put {N : Nat} (r : Int32) {c : Nat} (hc : c < 65536) : CS N (f_E_put r (nI c)) (f_M_put r (nI c)) := fun x m h => by
  obtain ⟨h1, n, T, tb, a, h2, h3, h4⟩ := h
  obtain ⟨res, x1, m1, k1, k2, k3, k4⟩ := sim_put r hc h1
  have fx : ∀ k i, ¬ (k = 1 ∨ k = 3) → x1 k i = x k i := fun k i hk => by
    rcases k4 with ⟨rfl, _⟩ | ⟨i', y, j, z, rfl, _⟩
    · rfl
    · rw [zu_n _ _ _ _ (by omega), zu_n _ _ _ _ (by omega)]
  have fm : ∀ k i, ¬ (k = 76 ∨ k = 77) → m1 k i = m k i := fun k i hk => by
    rcases k4 with ⟨_, rfl⟩ | ⟨i', y, j, z, _, i2, y2, rfl⟩
    · rfl
    · rw [zu_n _ _ _ _ (by omega), zu_n _ _ _ _ (by omega)]
  exact ⟨res, x1, m1, k1, k2, H2_mono ⟨k3, n, T, _, a, PR_tbn h2, h3, RS_w h2 h4 (fun k i hk hk2 => fx k i (by omega)) (fun k i hk hk2 => fm k i (by omega))⟩, fun k i hk => fx k i (by omega), fun k i hk => fm k i (by omega)⟩
theorem cs_clear {N : Nat} (r : Int32) : CS N (f_E_clear r) (f_M_clear r) := fun x m h => by
  obtain ⟨h1, n, T, tb, a, h2, h3, h4⟩ := h
  obtain ⟨res, x1, m1, k1, k2, k3, k4, k5⟩ := sim_clear r h1
  have fx : ∀ k i, ¬ (k = 1 ∨ k = 3) → x1 k i = x k i := fun k i hk => by rw [k4 k (by omega) (by omega)]
  have fm : ∀ k i, ¬ (k = 77) → m1 k i = m k i := fun k i hk => by rw [k5 k hk]
  exact ⟨res, x1, m1, k1, k2, H2_mono ⟨k3, n, T, _, a, PR_tbn h2, h3, RS_w h2 h4 (fun k i hk hk2 => fx k i (by omega)) (fun k i hk hk2 => fm k i (by omega))⟩, fun k i hk => fx k i (by omega), fun k i hk => fm k i (by omega)⟩
/-- clauses alone change -/
theorem RS_cl {n : Nat → Nat} {T : Nat → Nat → Nat} {tb : ze_H} {G R a : Nat} {x m x1 m1 : ze_H} (h : RS n T tb G R a x m) (hc : rs_cls x1 m1) (hx : ∀ k i, ¬ (17 ≤ k ∧ k ≤ 22) → x1 k i = x k i) (hm : ∀ k i, ¬ (81 ≤ k ∧ k ≤ 85) → ¬ (k = 75 ∧ i = 7) → m1 k i = m k i) : RS n T tb G R a x1 m1 := by
  obtain ⟨h1, h2, h3, h4, h5, h6, h7, h8, h9, h10, h11, h12⟩ := h
  exact ⟨kp_tab h1 (fun k i hk => hx k i (by omega)), kp_mt h2 (fun k i hk => hm k i (by omega) (by omega)), kp_cnt h3 (fun k i hk => hx k i (by omega)) (fun k i hk => hm k i (by omega) (by omega)), hc, kp_ep h5 (fun k i hk => hx k i (by omega)) (fun k i hk => hm k i (by omega) (by omega)), kp_got h6 (fun k i hk => hx k i (by omega)) (fun k i hk => hm k i (by omega) (by omega)), kp_que h7 (fun k i hk => hx k i (by omega)) (fun k i hk => hm k i (by omega) (by omega)), kp_grp h8 (fun k i hk => hx k i (by omega)) (fun k i hk => hm k i (by omega) (by omega)), kp_i h9 (fun k i hk => hx k i (by omega)) (fun k i hk => hm k i (by omega) (by omega)), kp_q h10 (fun k i hk => hx k i (by omega)) (fun k i hk => hm k i (by omega) (by omega)), kp_rdy h11 (Nat.le_refl _) (fun k i hk => hx k i (by omega)) (fun k i hk => hm k i (by omega) (by omega)), kp_att h12 (fun k i hk => hx k i (by omega)) (fun k i hk => hm k i (by omega) (by omega))⟩
theorem cs_clause {N : Nat} (a1 a2 a3 : Int32) {h o : Nat} (hh : h ≤ 1) (ho : o ≤ 1) : CS N (f_E_clause a1 a2 a3 (nI h) (nI o)) (f_M_clause a1 a2 a3 (nI h) (nI o)) := fun x m H => by
  obtain ⟨h1, n, T, tb, a, h2, h3, h4⟩ := H
  obtain ⟨res, x1, m1, k1, k2, k3, k4⟩ := sim_clause a1 a2 a3 hh ho h4.2.2.2.1
  have fx : ∀ k i, ¬ (17 ≤ k ∧ k ≤ 22) → x1 k i = x k i := fun k i hk => by
    rcases k4 with ⟨rfl, _⟩ | ⟨_, _, _, _, _, _, rfl, _⟩
    · rfl
    · unfold cls_x
      simp (disch := omega) only [zu_n]
  have fm : ∀ k i, ¬ (81 ≤ k ∧ k ≤ 85) → ¬ (k = 75 ∧ i = 7) → m1 k i = m k i := fun k i hk hk2 => by
    rcases k4 with ⟨_, rfl⟩ | ⟨_, _, _, _, _, _, _, rfl⟩
    · rfl
    · unfold cls_m
      simp (disch := omega) only [zu_n]
  exact ⟨res, x1, m1, k1, k2, H2_mono ⟨txt_pt h1 (fun k i hk => fx k i (by omega)) (fun k i hk => fm k i (by omega) (by omega)), n, T, tb, a, h2, h3, RS_cl h4 k3 fx fm⟩, fun k i hk => fx k i (by omega), fun k i hk => fm k i (by omega) (by omega)⟩
theorem cs_forget {N : Nat} : CS N f_E_forget f_M_forget := fun x m H => by
  obtain ⟨h1, n, T, tb, a, h2, h3, h4⟩ := H
  obtain ⟨k1, k2, k3⟩ := sim_forget (x := x) (m := m)
  have fx : ∀ k i, ¬ (17 ≤ k ∧ k ≤ 22) → ze_u x 17 5 0 k i = x k i := fun k i hk => zu_n _ _ _ _ (by omega)
  have fm : ∀ k i, ¬ (81 ≤ k ∧ k ≤ 85) → ¬ (k = 75 ∧ i = 7) → ze_u m 75 7 0 k i = m k i := fun k i hk hk2 => zu_n _ _ _ _ (by omega)
  exact ⟨0, _, _, k1, k2, H2_mono ⟨txt_pt h1 (fun k i hk => fx k i (by omega)) (fun k i hk => fm k i (by omega) (by omega)), n, T, tb, a, h2, h3, RS_cl h4 k3 fx fm⟩, fun k i hk => fx k i (by omega), fun k i hk => fm k i (by omega) (by omega)⟩
theorem cs_fail {N : Nat} (a1 a2 a3 : Int32) : CS N (f_E_fail a1 a2 a3) (f_M_fail a1 a2 a3) := fun x m H => by
  obtain ⟨h1, n, T, tb, a, h2, h3, h4⟩ := H
  obtain ⟨res, x1, m1, k1, k2, k3, k4⟩ := sim_fail a1 a2 a3 h4.2.2.2.2.1
  have fx : ∀ k i, ¬ (24 ≤ k ∧ k ≤ 38 ∧ (k - 24) % 3 = 0 ∧ (i = 3 ∨ i = 4)) → x1 k i = x k i := fun k i hk => by
    rcases k4 with ⟨rfl, _⟩ | ⟨j, _, _, hj, rfl, _⟩
    · rfl
    · rw [zu_n _ _ _ _ (by omega), zu_n _ _ _ _ (by omega)]
  have fm : ∀ k i, ¬ (k = 86 ∨ k = 87) → m1 k i = m k i := fun k i hk => by
    rcases k4 with ⟨_, rfl⟩ | ⟨j, _, _, _, _, rfl⟩
    · rfl
    · rw [zu_n _ _ _ _ (by omega), zu_n _ _ _ _ (by omega)]
  have R1 : RS n T tb (500 * N) 0 a x1 m1 := by
    obtain ⟨h1, h2, h3, h4, h5, h6, h7, h8, h9, h10, h11, h12⟩ := h4
    exact ⟨kp_tab h1 (fun k i hk => fx k i (by omega)), kp_mt h2 (fun k i hk => fm k i (by omega)), kp_cnt h3 (fun k i hk => fx k i (by omega)) (fun k i hk => fm k i (by omega)), kp_cls h4 (fun k i hk => fx k i (by omega)) (fun k i hk => fm k i (by omega)), k3, kp_got h6 (fun k i hk => fx k i (by omega)) (fun k i hk => fm k i (by omega)), kp_que h7 (fun k i hk => fx k i (by omega)) (fun k i hk => fm k i (by omega)), kp_grp h8 (fun k i hk => fx k i (by omega)) (fun k i hk => fm k i (by omega)), kp_i h9 (fun k i hk => fx k i (by omega)) (fun k i hk => fm k i (by omega)), kp_q h10 (fun k i hk => fx k i (by omega)) (fun k i hk => fm k i (by omega)), kp_rdy h11 (Nat.le_refl _) (fun k i hk => fx k i (by omega)) (fun k i hk => fm k i (by omega)), kp_att h12 (fun k i hk => fx k i (by omega)) (fun k i hk => fm k i (by omega))⟩
  exact ⟨res, x1, m1, k1, k2, H2_mono ⟨txt_pt h1 (fun k i hk => fx k i (by omega)) (fun k i hk => fm k i (by omega)), n, T, tb, a, h2, h3, R1⟩, fun k i hk => fx k i (by omega), fun k i hk => fm k i (by omega)⟩
theorem cs_read {N : Nat} : CS N f_E_read f_M_read := fun x m H => by
  obtain ⟨h1, n, T, tb, a, h2, h3, h4⟩ := H
  obtain ⟨res, x1, m1, k1, k2, k3⟩ := sim_read h1
  rcases k3 with ⟨fx, fm⟩ | ⟨c1, c2, c3, c4, c5, c6, c7, c8, c9, c10, c11, c12, c13, n', T', hU⟩
  · have gx : ∀ k i, ¬ (4 ≤ k ∧ k ≤ 8) → k ≠ 16 → x1 k i = x k i := fun k i g1 g2 => by rw [fx k g1 g2]
    have gm : ∀ k i, ¬ (k = 80 ∨ k = 75 ∧ (i = 5 ∨ i = 6)) → m1 k i = m k i := fun k i hk => by
      by_cases c : k = 75
      · subst c
        exact fm.2 i (by omega) (by omega)
      · rw [fm.1 k c (by omega)]
    exact ⟨res, x1, m1, k1, k2, H2_mono ⟨txt_pt h1 (fun k i hk => gx k i (by omega) (by omega)) (fun k i hk => gm k i (by omega)), n, T, _, a, PR_tbn h2, h3, RS_w h2 h4 (fun k i hk hk2 => gx k i (by omega) (by omega)) (fun k i hk hk2 => gm k i (by omega))⟩, fun k i hk => gx k i (by omega) (by omega), fun k i hk => gm k i (by omega)⟩
  · have gx : ∀ k i, ¬ (4 ≤ k ∧ k ≤ 8) → k ≠ 16 → ¬ (10 ≤ k ∧ k ≤ 15) → ¬ (k = 39 ∧ i = 5) → k ≠ 47 → k ≠ 54 → ¬ (k = 0 ∧ i = 14) → x1 k i = x k i := fun k i g1 g2 g3 g4 g5 g6 g7 => by
      by_cases c : k = 39
      · subst c
        exact c2 i (by omega)
      · by_cases c' : k = 0
        · subst c'
          exact c7 i (by omega)
        · rw [c1 k g1 g2 g3 c g5 g6 c']
    have gm : ∀ k i, ¬ (k = 80 ∨ k = 78 ∨ k = 79 ∨ k = 104 ∨ k = 75 ∧ (i = 5 ∨ i = 6 ∨ i = 18 ∨ i = 22 ∨ i = 29)) → m1 k i = m k i := fun k i hk => by
      by_cases c : k = 75
      · subst c
        exact c9 i (by omega) (by omega) (by omega) (by omega) (by omega)
      · rw [c8 k c (by omega) (by omega) (by omega) (by omega)]
    have pr' : PR n' T' (tbn x1 x1 m1) := fun r hr => by
      obtain ⟨g1, ⟨e, g2⟩, g3, g4, g5, g6⟩ := hU r hr
      exact ⟨g1, ⟨e, g2⟩, wt_kp g1 41 0 0 e (Nat.zero_le _) g2 (fun k i k1 k2 k3 k4 => tbn_lo (by omega)) g3, fun p hp => by rw [tbn_lo (by omega)]; exact g4 p hp⟩
    obtain ⟨i5, i35, i36, i0, f, hf, i4⟩ := idle_rdy h4
    obtain ⟨d1, d2, d3, d4, d5, d6, ⟨fq, sq, u1, u2, u3, u4, u5, u6, u7⟩, d8, d9, d10, d11, d12⟩ := h4
    refine ⟨res, x1, m1, k1, k2, H2_mono ⟨txt_pt h1 (fun k i hk => gx k i (by omega) (by omega) (by omega) (by omega) (by omega) (by omega) (by omega)) (fun k i hk => gm k i (by omega)), n', T', tbn x1 x1 m1, a, pr', h3, ⟨fun k i g1 g2 => (tbn_lo (by omega)).symm, fun r hr => ⟨(hU r hr).2.2.2.2.1, (hU r hr).2.2.2.2.2⟩, kp_cnt d3 (fun k i hk => gx k i (by omega) (by omega) (by omega) (by omega) (by omega) (by omega) (by omega)) (fun k i hk => gm k i (by omega)), kp_cls d4 (fun k i hk => gx k i (by omega) (by omega) (by omega) (by omega) (by omega) (by omega) (by omega)) (fun k i hk => gm k i (by omega)), kp_ep d5 (fun k i hk => gx k i (by omega) (by omega) (by omega) (by omega) (by omega) (by omega) (by omega)) (fun k i hk => gm k i (by omega)), kp_got d6 (fun k i hk => gx k i (by omega) (by omega) (by omega) (by omega) (by omega) (by omega) (by omega)) (fun k i hk => gm k i (by omega)), ⟨fq, 0, u1, by omega, ?_, ?_, c3, c11, fun i hi => by omega⟩, ⟨0, by omega, c4, c12, fun i hi => by omega, fun y => Nat.zero_le _, fun i j hi hj => by omega⟩, fun r p hr hp hT => ⟨0, by omega, c5 _ (by have := (pr' r hr).1.1; omega), c10 _ (by have := (pr' r hr).1.1; omega), fun i hi => by omega⟩, ⟨0, by omega, c6, c13, fun i hi => by omega, fun r p hr hv => ?_⟩, ⟨f, 0, 0, hf, by omega, ?_, ?_, ?_, ?_, ?_, fun i hi => by omega⟩, ?_, ?_, fun k i _ => tbn_x.symm, fun k i _ => tbn_m.symm⟩⟩, fun k i hk => gx k i (by omega) (by omega) (by omega) (by omega) (by omega) (by omega) (by omega), fun k i hk => gm k i (by omega)⟩
    · rw [gx _ _ (by omega) (by omega) (by omega) (by omega) (by omega) (by omega) (by omega)]
      exact u3
    · rw [gx _ _ (by omega) (by omega) (by omega) (by omega) (by omega) (by omega) (by omega)]
      exact u4
    · have hz := (pr' r hr).1
      have hvl := v113_lt hz hv
      have := hz.1
      exact ⟨by show 0 < _; omega, c5 _ (by omega), fun i hi => absurd hi (Nat.not_lt_zero i)⟩
    · rw [gx _ _ (by omega) (by omega) (by omega) (by omega) (by omega) (by omega) (by omega)]
      exact i0
    · rw [gx _ _ (by omega) (by omega) (by omega) (by omega) (by omega) (by omega) (by omega)]
      exact i4
    · rw [gx _ _ (by omega) (by omega) (by omega) (by omega) (by omega) (by omega) (by omega)]
      exact i5
    · rw [gm _ _ (by omega)]
      exact i35
    · rw [gm _ _ (by omega)]
      exact i36
    · rw [gx _ _ (by omega) (by omega) (by omega) (by omega) (by omega) (by omega) (by omega)]
      exact d12.1
    · rw [gm _ _ (by omega)]
      exact d12.2.1
theorem cs_send {N : Nat} (hN : N ≤ 600) (r b y : Int32) : CS N (f_E_send r b y) (f_M_send r b y) := cs_run hN (fun n T tb G a x m pr h hG ha => sim_send pr h hG ha r b y)
theorem cs_work {N : Nat} (hN : N ≤ 600) : CS N f_E_work f_M_work := cs_run hN (fun n T tb G a x m pr h hG ha => sim_work pr h hG ha)
theorem cs_pass {N : Nat} (hN : N ≤ 600) (k : Int32) : CS N (f_E_pass k) (f_M_pass k) := cs_run hN (fun n T tb G a x m pr h hG ha => sim_pass pr h hG ha k)
theorem cs_delivered {N : Nat} (d : Int32) : CS N (f_E_delivered d) (f_M_delivered d) := cs_same (fun x m ⟨_, _, _, _, _, _, _, h⟩ => sim_delivered d h.2.2.2.2.2.1)
theorem cs_body {N : Nat} (hN : N ≤ 600) (d k : Int32) : CS N (f_E_body d k) (f_M_body d k) := cs_same (fun x m ⟨_, _, _, _, _, _, _, h⟩ => sim_body (by omega) d k h.2.2.2.2.2.1)
theorem cs_key {N : Nat} (hN : N ≤ 600) (d k : Int32) : CS N (f_E_key d k) (f_M_key d k) := cs_same (fun x m ⟨_, _, _, _, _, _, _, h⟩ => sim_key (by omega) d k h.2.2.2.2.2.1)
theorem cs_group {N : Nat} (i k : Int32) : CS N (f_E_group i k) (f_M_group i k) := cs_same (fun x m ⟨_, _, _, _, _, _, _, h⟩ => sim_group h i k)
theorem cs_count {N : Nat} (k : Int32) : CS N (f_E_count k) (f_M_count k) := cs_same (fun x m ⟨_, _, _, _, _, _, _, h⟩ => sim_count h k)
/-- a new object -/
theorem H2_0 : H2 0 ze_v0 ze_v0 := by
  have z : ∀ k i, ¬ (k = 39 ∧ i = 0) → ¬ (k = 43 ∧ i = 0) → ¬ (k = 16 ∧ i = 3) → ze_v0 k i = 0 := fun k i c1 c2 c3 => by
    unfold ze_v0
    by_cases d1 : k = 39
    · rw [if_pos d1]
      show (if i = 0 then (8 : Int32) else 0) = 0
      rw [if_neg (fun q => c1 ⟨d1, q⟩)]
    · rw [if_neg d1]
      by_cases d2 : k = 43
      · rw [if_pos d2]
        show (if i = 0 then (401 : Int32) else 0) = 0
        rw [if_neg (fun q => c2 ⟨d2, q⟩)]
      · rw [if_neg d2]
        by_cases d3 : k = 16
        · rw [if_pos d3]
          show (if i = 3 then (-1 : Int32) else 0) = 0
          rw [if_neg (fun q => c3 ⟨d3, q⟩)]
        · rw [if_neg d3]
  have z39 : ze_v0 39 0 = nI 8 := rfl
  have z43 : ze_v0 43 0 = nI 401 := rfl
  have zz : ∀ k i, ¬ (k = 39 ∧ i = 0) → ¬ (k = 43 ∧ i = 0) → ¬ (k = 16 ∧ i = 3) → ze_v0 k i = nI 0 := z
  refine ⟨fun r hr => ⟨0, by omega, zz _ _ (by omega) (by omega) (by omega), zz _ _ (by omega) (by omega) (by omega), fun i hi => by omega, fun i _ _ => z _ _ (by omega) (by omega) (by omega)⟩, fun _ => 0, fun _ _ => 0, tbn ze_v0 ze_v0 ze_v0, 0, fun r hr => ⟨⟨Nat.zero_le _, fun p hp => absurd hp (Nat.not_lt_zero p), fun p _ => rfl⟩, ⟨0, rfl⟩, Or.inl rfl, fun p hp => by rw [tbn_lo (by omega)]; exact zz _ _ (by omega) (by omega) (by omega)⟩, by omega, fun k i _ _ => (tbn_lo (by omega)).symm, fun r hr => ⟨zz _ _ (by omega) (by omega) (by omega), fun p hp => absurd hp (Nat.not_lt_zero p)⟩, ⟨fun k hk => by rw [z _ _ (by omega) (by omega) (by omega), z _ _ (by omega) (by omega) (by omega)], by rw [z _ _ (by omega) (by omega) (by omega), z _ _ (by omega) (by omega) (by omega)], by rw [z _ _ (by omega) (by omega) (by omega), z _ _ (by omega) (by omega) (by omega)]⟩, ⟨0, by omega, zz _ _ (by omega) (by omega) (by omega), zz _ _ (by omega) (by omega) (by omega), fun j hj => by omega⟩, fun d hd => ⟨0, 0, by omega, by omega, fun q => by omega, zz _ _ (by omega) (by omega) (by omega), zz _ _ (by omega) (by omega) (by omega), zz _ _ (by omega) (by omega) (by omega), zz _ _ (by omega) (by omega) (by omega)⟩, fun d hd => ⟨0, by omega, zz _ _ (by omega) (by omega) (by omega), zz _ _ (by omega) (by omega) (by omega), fun i hi => ⟨by rw [z _ _ (by omega) (by omega) (by omega), z _ _ (by omega) (by omega) (by omega)], by rw [z _ _ (by omega) (by omega) (by omega), z _ _ (by omega) (by omega) (by omega)]⟩⟩, ⟨0, 0, by omega, by omega, z39, zz _ _ (by omega) (by omega) (by omega), zz _ _ (by omega) (by omega) (by omega), zz _ _ (by omega) (by omega) (by omega), fun i hi => by omega⟩, ⟨0, by omega, zz _ _ (by omega) (by omega) (by omega), zz _ _ (by omega) (by omega) (by omega), fun i hi => by omega, fun y => Nat.zero_le _, fun i j hi hj => by omega⟩, fun r p hr hp hT => absurd hp (Nat.not_lt_zero p), ⟨0, by omega, zz _ _ (by omega) (by omega) (by omega), zz _ _ (by omega) (by omega) (by omega), fun i hi => by omega, fun r p hr hv => absurd (show (0 : Nat) = 113 from hv.1) (by decide)⟩, ⟨0, 0, 0, by omega, by omega, z43, zz _ _ (by omega) (by omega) (by omega), zz _ _ (by omega) (by omega) (by omega), zz _ _ (by omega) (by omega) (by omega), zz _ _ (by omega) (by omega) (by omega), fun i hi => by omega⟩, zz _ _ (by omega) (by omega) (by omega), zz _ _ (by omega) (by omega) (by omega), fun k i _ => tbn_x.symm, fun k i _ => tbn_m.symm⟩
