/-! PURE: what becomes ready; groups -/
section GR
variable {n : Nat → Nat} {T : Nat → Nat → Nat} {tb x m : ze_H} {G R a : Nat}
theorem mod_ne {f i s : Nat} (hf : f < 401) (hi : i < s) (hs : s < 401) : ¬ (f + i) % 401 = (f + s) % 401 := by omega
/-- one more is ready -/
theorem sim_ready {ex r p : Nat} {b y : Int32} (h : RSx ex n T tb G R a x m) (hR : R + 1 ≤ 401) (hl : lsx n T tb r p) (hp : p ≤ 40) : ∃ x1 m1, f_L_add 43 401 (nI (41 * r + p)) b y x = some (1, x1) ∧ f_M_makeReady (nI (64 * r + p)) b y m = some (0, m1) ∧ RSx ex n T tb G (R + 1) a x1 m1 ∧ (∀ k i, ¬ (43 ≤ k ∧ k ≤ 46) → x1 k i = x k i) ∧ (∀ k i, ¬ (k = 75 ∧ i = 36) → ¬ (105 ≤ k ∧ k ≤ 107) → m1 k i = m k i) := by
  obtain ⟨h1, h2, h3, h4, h5, h6, h7, h8, h9, h10, h11, h12⟩ := h
  obtain ⟨f, s, c, q1, q2, q3, q4, q5, q6, q7, q8⟩ := h11
  have hlt := Nat.mod_lt (f + s) (show 0 < 401 by omega)
  have hx : ∀ k i, ¬ (43 ≤ k ∧ k ≤ 46) → ze_u (ze_u (ze_u (ze_u x 44 ((f + s) % 401) (nI (41 * r + p))) 45 ((f + s) % 401) b) 46 ((f + s) % 401) y) 43 5 (nI (s + 1)) k i = x k i := fun k i hk => by simp (disch := omega) only [zu_n]
  have hm : ∀ k i, ¬ (k = 75 ∧ i = 36) → ¬ (105 ≤ k ∧ k ≤ 107) → ze_u (ze_u (ze_u (ze_u m 105 (c + s) (nI (64 * r + p))) 106 (c + s) b) 107 (c + s) y) 75 36 (nI (c + s + 1)) k i = m k i := fun k i hk hk2 => by simp (disch := omega) only [zu_n]
  refine ⟨_, _, px_add (k0 := 43) (n0 := 401) (by omega) (by omega) q3 q4 q5 q1 (by omega), ?_, ⟨kp_tab h1 (fun k i hk => hx k i (by omega)), kp_mt h2 (fun k i hk => hm k i (by omega) (by omega)), kp_cnt h3 (fun k i hk => hx k i (by omega)) (fun k i hk => hm k i (by omega) (by omega)), kp_cls h4 (fun k i hk => hx k i (by omega)) (fun k i hk => hm k i (by omega) (by omega)), kp_ep h5 (fun k i hk => hx k i (by omega)) (fun k i hk => hm k i (by omega) (by omega)), kp_got h6 (fun k i hk => hx k i (by omega)) (fun k i hk => hm k i (by omega) (by omega)), kp_que h7 (fun k i hk => hx k i (by omega)) (fun k i hk => hm k i (by omega) (by omega)), kp_grp h8 (fun k i hk => hx k i (by omega)) (fun k i hk => hm k i (by omega) (by omega)), kp_i h9 (fun k i hk => hx k i (by omega)) (fun k i hk => hm k i (by omega) (by omega)), kp_q h10 (fun k i hk => hx k i (by omega)) (fun k i hk => hm k i (by omega) (by omega)), ?_, kp_att h12 (fun k i hk => hx k i (by omega)) (fun k i hk => hm k i (by omega) (by omega))⟩, hx, hm⟩
  · unfold f_M_makeReady
    rw [q7, zi_nI (by omega) (by omega), nI_clamp (by omega), zlev]
    simp (disch := omega) only [zi_N, nI_clamp, zlvN, zu_n, q7, nI_1]
  · refine ⟨f, s + 1, c, q1, by omega, ?_, ?_, zu_s _ _ _ _, ?_, zu_s _ _ _ _, fun i hi => ?_⟩
    · simp (disch := omega) only [zu_n]
      exact q3
    · simp (disch := omega) only [zu_n]
      exact q4
    · simp (disch := omega) only [zu_n]
      exact q6
    · by_cases ci : i = s
      · subst ci
        refine ⟨r, p, hl, ?_, ?_, ?_, ?_⟩
        · simp (disch := omega) only [zu_n, zu_s]
        · simp (disch := omega) only [zu_n, zu_s]
        · simp (disch := omega) only [zu_n, zu_s]
        · simp (disch := omega) only [zu_n, zu_s]
      · obtain ⟨r', p', k1, k2, k3, k4, k5⟩ := q8 i (by omega)
        have hne := mod_ne q1 (show i < s by omega) (show s < 401 by omega)
        refine ⟨r', p', k1, ?_, ?_, ?_, ?_⟩
        · simp (disch := omega) only [zu_n]
          exact k2
        · simp (disch := omega) only [zu_n]
          exact k3
        · simp (disch := omega) only [zu_n]
          exact k4
        · simp (disch := omega) only [zu_n]
          exact k5
/-- a group leaves the rows -/
theorem rm_x {g : Nat} (hg : g ≤ 120) (hg0 : 0 < g) (kk : ze_H → Option (Int32 × ze_H)) : ∀ (d j N : Nat) (x : ze_H), x 47 5 = nI g → j + d = g - 1 → d < N → ∃ x1, f_G_remove_L15 kk N (nI j) x = kk x1 ∧ ∀ k i, x1 k i = if 48 ≤ k ∧ k ≤ 52 ∧ j ≤ i ∧ i < g - 1 then x k (i + 1) else x k i
  | 0, j, N, x, e5, hj, hN => by
    obtain ⟨N, rfl⟩ : ∃ N', N = N' + 1 := ⟨N - 1, by omega⟩
    refine ⟨x, ?_, fun k i => by rw [if_neg (by omega)]⟩
    rw [f_G_remove_L15]
    rw [e5, show nI g - 1 = nI (g - 1) from pk_sub (b := 1) (by omega), if_pos (nI_le (by omega) (by omega))]
  | d + 1, j, N, x, e5, hj, hN => by
    obtain ⟨N, rfl⟩ : ∃ N', N = N' + 1 := ⟨N - 1, by omega⟩
    obtain ⟨x1, h1, h2⟩ := rm_x hg hg0 kk d (j + 1) N (ze_u (ze_u (ze_u (ze_u (ze_u x 48 j (x 48 (j + 1))) 49 j (x 49 (j + 1))) 50 j (x 50 (j + 1))) 51 j (x 51 (j + 1))) 52 j (x 52 (j + 1))) (by simp (disch := omega) only [zu_n]; exact e5) (by omega) (by omega)
    refine ⟨x1, ?_, fun k i => ?_⟩
    · rw [f_G_remove_L15]
      rw [e5, show nI g - 1 = nI (g - 1) from pk_sub (b := 1) (by omega), if_neg (nI_ge (by omega) (by omega)), nI_1]
      simp (disch := omega) only [zi_N, nI_clamp, zlvN, zleN, zu_n]
      exact h1
    · rw [h2]
      by_cases c : 48 ≤ k ∧ k ≤ 52 ∧ j + 1 ≤ i ∧ i < g - 1
      · rw [if_pos c, if_pos (by omega)]
        simp (disch := omega) only [zu_n]
      · rw [if_neg c]
        by_cases c2 : 48 ≤ k ∧ k ≤ 52 ∧ i = j
        · rw [if_pos (by omega)]
          obtain ⟨c3, c4, rfl⟩ := c2
          have hk : k = 48 ∨ k = 49 ∨ k = 50 ∨ k = 51 ∨ k = 52 := by omega
          rcases hk with rfl | rfl | rfl | rfl | rfl <;> simp (disch := omega) only [zu_n, zu_s]
        · rw [if_neg (by omega)]
          simp (disch := omega) only [zu_n]
theorem rm_m {g : Nat} (hg : g ≤ 120) (hg0 : 0 < g) (kk : ze_H → Option (Int32 × ze_H)) : ∀ (d j N : Nat) (m : ze_H), m 75 22 = nI (g - 1) → j + d = g - 1 → d < N → ∃ m1, f_M_release_L34 kk N (nI j) m = kk m1 ∧ ∀ k i, m1 k i = if 94 ≤ k ∧ k ≤ 99 ∧ j ≤ i ∧ i < g - 1 then m k (i + 1) else m k i
  | 0, j, N, m, e5, hj, hN => by
    obtain ⟨N, rfl⟩ : ∃ N', N = N' + 1 := ⟨N - 1, by omega⟩
    refine ⟨m, ?_, fun k i => by rw [if_neg (by omega)]⟩
    rw [f_M_release_L34]
    rw [e5, if_pos (nI_le (by omega) (by omega))]
  | d + 1, j, N, m, e5, hj, hN => by
    obtain ⟨N, rfl⟩ : ∃ N', N = N' + 1 := ⟨N - 1, by omega⟩
    obtain ⟨m1, h1, h2⟩ := rm_m hg hg0 kk d (j + 1) N (ze_u (ze_u (ze_u (ze_u (ze_u (ze_u m 94 j (m 94 (j + 1))) 95 j (m 95 (j + 1))) 96 j (m 96 (j + 1))) 97 j (m 97 (j + 1))) 98 j (m 98 (j + 1))) 99 j (m 99 (j + 1))) (by simp (disch := omega) only [zu_n]; exact e5) (by omega) (by omega)
    refine ⟨m1, ?_, fun k i => ?_⟩
    · rw [f_M_release_L34]
      rw [e5, if_neg (nI_ge (by omega) (by omega)), nI_1]
      simp (disch := omega) only [zi_N, nI_clamp, zlvN, zleN, zu_n]
      exact h1
    · rw [h2]
      by_cases c : 94 ≤ k ∧ k ≤ 99 ∧ j + 1 ≤ i ∧ i < g - 1
      · rw [if_pos c, if_pos (by omega)]
        simp (disch := omega) only [zu_n]
      · rw [if_neg c]
        by_cases c2 : 94 ≤ k ∧ k ≤ 99 ∧ i = j
        · rw [if_pos (by omega)]
          obtain ⟨c3, c4, rfl⟩ := c2
          have hk : k = 94 ∨ k = 95 ∨ k = 96 ∨ k = 97 ∨ k = 98 ∨ k = 99 := by omega
          rcases hk with rfl | rfl | rfl | rfl | rfl | rfl <;> simp (disch := omega) only [zu_n, zu_s]
        · rw [if_neg (by omega)]
          simp (disch := omega) only [zu_n]
theorem cntI_le {g : Nat → Int32} {y : Int32} : ∀ h k, h ≤ k → cntI g y h ≤ cntI g y k
  | h, 0, hk => by
    have : h = 0 := by omega
    rw [this]
    exact Nat.le_refl _
  | h, k + 1, hk => by
    by_cases c : h = k + 1
    · rw [c]
      exact Nat.le_refl _
    · have := cntI_le (g := g) (y := y) h k (by omega)
      show cntI g y h ≤ cntI g y k + _
      omega
theorem cntI_sh {g g1 : Nat → Int32} {y : Int32} {i : Nat} : ∀ h, i ≤ h → (∀ j, j < i → g1 j = g j) → (∀ j, i ≤ j → j < h → g1 j = g (j + 1)) → cntI g1 y h ≤ cntI g y (h + 1)
  | 0, hi, e1, e2 => by
    show 0 ≤ _
    omega
  | h + 1, hi, e1, e2 => by
    by_cases c : i = h + 1
    · subst c
      rw [cntI_kp (g := g) (h + 1) (fun j hj => e1 j hj)]
      exact cntI_le _ _ (by omega)
    · have := cntI_sh (g := g) (g1 := g1) (y := y) h (by omega) e1 (fun j h1 h2 => e2 j h1 (by omega))
      show cntI g1 y h + (if g1 h = y then 1 else 0) ≤ cntI g y (h + 1) + (if g (h + 1) = y then 1 else 0)
      rw [e2 h (by omega) (by omega)]
      omega
theorem v97_lt {T : Nat → Nat} {n p : Nat} (hz : tz n T) (h : v97 T p) : p + 3 < n ∧ a97 T p ≤ n ∧ p < a97 T p ∧ 2 ≤ nv T (p + 1) ∧ nv T (p + 1) ≤ 4 := by
  obtain ⟨h1, h2, h3, h4⟩ := h
  have g1 := sn_end hz h2
  have g2 := sn_end hz h4
  obtain ⟨g3, g4, g5, -⟩ := sn_inr h2
  obtain ⟨k3, -⟩ := sn_inr h4
  have : ne T (p + 1) + 1 < n := tz_lt hz (by omega)
  omega
/-- a group is released on both sides -/
theorem sim_release (pr : PR n T tb) {ex g i : Nat} (h : RSx ex n T tb G R a x m) (hex : ex = 1000 ∨ ex = i) (hR : R + 1 ≤ 401) (e47 : x 47 5 = nI g) (hg120 : g ≤ 120) (hi : i < g) : ∃ x1 m1, f_E_release (nI i) x = some (0, x1) ∧ f_M_release (nI i) m = some (0, m1) ∧ RS n T tb G (R + 1) a x1 m1 ∧ (∀ k j, ¬ (43 ≤ k ∧ k ≤ 52) → x1 k j = x k j) ∧ (∀ k j, ¬ (k = 75 ∧ (j = 36 ∨ j = 22)) → ¬ (94 ≤ k ∧ k ≤ 99) → ¬ (105 ≤ k ∧ k ≤ 107) → m1 k j = m k j) := by
  obtain ⟨g', q1, q2, q3, q4, q5, q6⟩ := h.2.2.2.2.2.2.2.1
  have hgg : g' = g := by
    have : nI g' = nI g := by rw [← q2, e47]
    rw [nI_eq (by omega) (by omega)] at this
    exact this
  subst hgg
  obtain ⟨r, p, b, w1, w2, w3, w4, w5, w6, w7, w8, w9, w10, w11, w12, w13⟩ := q4 i hi
  have hz := (pr r w1).1
  have h40 := hz.1
  have hl := v97_lt hz w2
  obtain ⟨x1, m1, k1, k2, k3, k4, k5⟩ := sim_ready (b := x 50 i) (y := x 49 i) h hR w3 (by omega)
  obtain ⟨x2, r1, r2⟩ := rm_x q1 (by omega) (fun v8 => ze_lev (ze_u v8 47 5 ((v8 47 5) - 1)) (fun v9 => some (0, v9))) (g' - 1 - i) i 200000 x1 (by rw [k4 47 5 (by omega)]; exact e47) (by omega) (by omega)
  obtain ⟨m2, s1, s2⟩ := rm_m q1 (by omega) (fun v12 => some (0, v12)) (g' - 1 - i) i 200000 (ze_u m1 75 22 (nI (g' - 1))) (zu_s _ _ _ _) (by omega) (by omega)
  have ex : f_E_release (nI i) x = some (0, ze_u x2 47 5 (nI (g' - 1))) := by
    unfold f_E_release
    rw [nI_clamp (by omega), zi_nI (by omega) (by omega), w6, zi_nI (by omega) (by omega), zi_nI (by omega) (by omega), zi_nI (by omega) (by omega), nI_clamp (by omega), h.1 15 _ (by omega) (by omega), w4, k1, zcall]
    unfold f_G_remove
    rw [if_neg (nI_pos (by omega)), k4 47 5 (by omega), e47, if_pos (nI_lt hi (by omega)), zlet, r1, zlev, zcall, r2 47 5, if_neg (by omega), k4 47 5 (by omega), e47, show nI g' - 1 = nI (g' - 1) from pk_sub (b := 1) (by omega)]
  have em : f_M_release (nI i) m = some (0, m2) := by
    unfold f_M_release
    rw [nI_clamp (by omega), zi_nI (by omega) (by omega), zi_nI (by omega) (by omega), zi_nI (by omega) (by omega), w13, ← w9, ← w8, k2, zcall, zlev, zlet, k5 75 22 (by omega) (by omega), q3, show nI g' - 1 = nI (g' - 1) from pk_sub (b := 1) (by omega), s1]
  have hxf : ∀ k j, ¬ (43 ≤ k ∧ k ≤ 52) → ze_u x2 47 5 (nI (g' - 1)) k j = x k j := fun k j hk => by
    rw [zu_n _ _ _ _ (by omega), r2, if_neg (by omega), k4 k j (by omega)]
  have hmf : ∀ k j, ¬ (k = 75 ∧ (j = 36 ∨ j = 22)) → ¬ (94 ≤ k ∧ k ≤ 99) → ¬ (105 ≤ k ∧ k ≤ 107) → m2 k j = m k j := fun k j c1 c2 c3 => by
    rw [s2, if_neg (by omega), zu_n _ _ _ _ (by omega), k5 k j (by omega) (by omega)]
  refine ⟨_, m2, ex, em, ?_, hxf, hmf⟩
  obtain ⟨h1, h2, h3, h4, h5, h6, h7, h8, h9, h10, h11, h12⟩ := k3
  have hx : ∀ k j, ¬ (47 ≤ k ∧ k ≤ 52) → ze_u x2 47 5 (nI (g' - 1)) k j = x1 k j := fun k j hk => by
    rw [zu_n _ _ _ _ (by omega), r2, if_neg (by omega)]
  have hm : ∀ k j, ¬ (k = 75 ∧ j = 22) → ¬ (94 ≤ k ∧ k ≤ 99) → m2 k j = m1 k j := fun k j c1 c2 => by
    rw [s2, if_neg (by omega), zu_n _ _ _ _ (by omega)]
  refine ⟨kp_tab h1 (fun k i hk => hx k i (by omega)), kp_mt h2 (fun k i hk => hm k i (by omega) (by omega)), kp_cnt h3 (fun k i hk => hx k i (by omega)) (fun k i hk => hm k i (by omega) (by omega)), kp_cls h4 (fun k i hk => hx k i (by omega)) (fun k i hk => hm k i (by omega) (by omega)), kp_ep h5 (fun k i hk => hx k i (by omega)) (fun k i hk => hm k i (by omega) (by omega)), kp_got h6 (fun k i hk => hx k i (by omega)) (fun k i hk => hm k i (by omega) (by omega)), kp_que h7 (fun k i hk => hx k i (by omega)) (fun k i hk => hm k i (by omega) (by omega)), ?_, kp_i h9 (fun k i hk => hx k i (by omega)) (fun k i hk => hm k i (by omega) (by omega)), kp_q h10 (fun k i hk => hx k i (by omega)) (fun k i hk => hm k i (by omega) (by omega)), kp_rdy h11 (Nat.le_refl _) (fun k i hk => hx k i (by omega)) (fun k i hk => hm k i (by omega) (by omega)), kp_att h12 (fun k i hk => hx k i (by omega)) (fun k i hk => hm k i (by omega) (by omega))⟩
  have hrx : ∀ k j, 48 ≤ k → k ≤ 52 → ze_u x2 47 5 (nI (g' - 1)) k j = if i ≤ j ∧ j < g' - 1 then x k (j + 1) else x k j := fun k j c1 c2 => by
    rw [zu_n _ _ _ _ (by omega), r2]
    by_cases c : i ≤ j ∧ j < g' - 1
    · rw [if_pos (by omega), if_pos c, k4 k _ (by omega)]
    · rw [if_neg (by omega), if_neg c, k4 k _ (by omega)]
  have hrm : ∀ k j, 94 ≤ k → k ≤ 99 → m2 k j = if i ≤ j ∧ j < g' - 1 then m k (j + 1) else m k j := fun k j c1 c2 => by
    rw [s2]
    by_cases c : i ≤ j ∧ j < g' - 1
    · rw [if_pos (by omega), if_pos c, zu_n _ _ _ _ (by omega), k5 k _ (by omega) (by omega)]
    · rw [if_neg (by omega), if_neg c, zu_n _ _ _ _ (by omega), k5 k _ (by omega) (by omega)]
  refine ⟨g' - 1, by omega, zu_s _ _ _ _, ?_, fun j hj => ?_, fun y => ?_, fun u v hu hv => ?_⟩
  · rw [s2, if_neg (by omega), zu_s]
  · have hrow : ∀ t, t < g' → ¬ t = i → (∀ k, 48 ≤ k → k ≤ 52 → ze_u x2 47 5 (nI (g' - 1)) k j = x k t) → (∀ k, 94 ≤ k → k ≤ 99 → m2 k j = m k t) → g_row n T tb 1000 (ze_u x2 47 5 (nI (g' - 1))) m2 j := by
      intro t ht hti e1 e2
      obtain ⟨r', p', b', z1, z2, z3, z4, z5, z6⟩ := q4 t ht
      rw [if_neg (by omega)] at z5
      unfold g_row
      rw [e1 48 (by omega) (by omega), e1 49 (by omega) (by omega), e1 50 (by omega) (by omega), e1 51 (by omega) (by omega), e1 52 (by omega) (by omega), e2 94 (by omega) (by omega), e2 95 (by omega) (by omega), e2 96 (by omega) (by omega), e2 97 (by omega) (by omega), e2 98 (by omega) (by omega), e2 99 (by omega) (by omega), if_neg (show ¬ j = 1000 by omega)]
      exact ⟨r', p', b', z1, z2, z3, z4, z5, z6⟩
    by_cases c : i ≤ j
    · exact hrow (j + 1) (by omega) (by omega) (fun k c1 c2 => by rw [hrx k j c1 c2, if_pos (by omega)]) (fun k c1 c2 => by rw [hrm k j c1 c2, if_pos (by omega)])
    · exact hrow j (by omega) (by omega) (fun k c1 c2 => by rw [hrx k j c1 c2, if_neg (by omega)]) (fun k c1 c2 => by rw [hrm k j c1 c2, if_neg (by omega)])
  · have := cntI_sh (g := x 48) (g1 := ze_u x2 47 5 (nI (g' - 1)) 48) (y := y) (i := i) (g' - 1) (by omega) (fun j hj => by rw [hrx 48 j (by omega) (by omega), if_neg (by omega)]) (fun j c1 c2 => by rw [hrx 48 j (by omega) (by omega), if_pos (by omega)])
    rw [show g' - 1 + 1 = g' by omega] at this
    have := q5 y
    omega
  · rw [hrx 48 u (by omega) (by omega), hrx 48 v (by omega) (by omega), hrx 49 u (by omega) (by omega), hrx 49 v (by omega) (by omega)]
    by_cases cu : i ≤ u
    · rw [if_pos (show i ≤ u ∧ u < g' - 1 by omega), if_pos (show i ≤ v ∧ v < g' - 1 by omega), if_pos (show i ≤ u ∧ u < g' - 1 by omega), if_pos (show i ≤ v ∧ v < g' - 1 by omega)]
      exact q6 (u + 1) (v + 1) (by omega) (by omega)
    · rw [if_neg (show ¬ (i ≤ u ∧ u < g' - 1) by omega), if_neg (show ¬ (i ≤ u ∧ u < g' - 1) by omega)]
      by_cases cv : i ≤ v
      · rw [if_pos (show i ≤ v ∧ v < g' - 1 by omega), if_pos (show i ≤ v ∧ v < g' - 1 by omega)]
        exact q6 u (v + 1) (by omega) (by omega)
      · rw [if_neg (show ¬ (i ≤ v ∧ v < g' - 1) by omega), if_neg (show ¬ (i ≤ v ∧ v < g' - 1) by omega)]
        exact q6 u v (by omega) (by omega)
end GR
