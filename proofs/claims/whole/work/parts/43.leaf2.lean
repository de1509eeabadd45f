/-! PURE: steps without a list: once, copies -/
section LG
variable {n : Nat → Nat} {T : Nat → Nat → Nat} {tb x m : ze_H} {G R a r p q e l : Nat}
theorem kp_i2 {x1 m1 : ze_H} (h : k_i n T x m) (hx : ∀ r p, r < 4 → p < n r → T r p = 105 → x1 54 (41 * r + p) = x 54 (41 * r + p) ∧ ∀ j, j < 4 → x1 56 (4 * (41 * r + p) + j) = x 56 (4 * (41 * r + p) + j)) (hm : ∀ k i, (k = 103 ∨ k = 104) → m1 k i = m k i) : k_i n T x1 m1 := fun r p hr hp hT => by
  obtain ⟨s, h1, h2, h3, h4⟩ := h r p hr hp hT
  obtain ⟨g1, g2⟩ := hx r p hr hp hT
  refine ⟨s, h1, by rw [g1]; exact h2, by rw [hm _ _ (by omega)]; exact h3, fun i hi => ?_⟩
  rw [g2 i (by omega), hm _ _ (by omega)]
  exact h4 i hi
theorem v113_lt {T : Nat → Nat} {n p : Nat} (hz : tz n T) (h : v113 T p) : p + 1 < n ∧ 2 ≤ nv T (p + 1) ∧ nv T (p + 1) ≤ 4 := by
  obtain ⟨h1, h2⟩ := h
  obtain ⟨g1, g2, g3, -⟩ := sn_inr h2
  exact ⟨tz_lt hz (by omega), g2, g3⟩
theorem kp_q2 {x1 m1 : ze_H} (h : k_q T x m) (h14 : x1 0 14 = x 0 14) (hx : ∀ r p, r < 4 → v113 (T r) p → nv (T r) (p + 1) ≤ 4 ∧ x1 54 (41 * r + p) = x 54 (41 * r + p) ∧ ∀ j, j < 4 → x1 55 (4 * (41 * r + p) + j) = x 55 (4 * (41 * r + p) + j) ∧ x1 56 (4 * (41 * r + p) + j) = x 56 (4 * (41 * r + p) + j)) (hm : ∀ k i, (k = 75 ∧ i = 29 ∨ 100 ≤ k ∧ k ≤ 102) → m1 k i = m k i) : k_q T x1 m1 := by
  obtain ⟨h0, h1, h2, h3, h4, h5⟩ := h
  refine ⟨h0, h1, by rw [h14]; exact h2, by rw [hm _ _ (by omega)]; exact h3, fun i hi => ?_, fun r p hr hp => ?_⟩
  · rw [hm _ _ (by omega)]
    exact h4 i hi
  · obtain ⟨g0, g1, g2⟩ := hx r p hr hp
    unfold q_row
    rw [hl_kp (m := m) h0 (fun k i hk => hm k i (by omega)), g1]
    refine ⟨(h5 r p hr hp).1, (h5 r p hr hp).2.1, fun i hi => ?_⟩
    have := (h5 r p hr hp).1
    rw [(g2 i (by omega)).1, (g2 i (by omega)).2]
    exact (h5 r p hr hp).2.2 i hi
theorem has_x {sp s : Nat} {y : Int32} {x : ze_H} (hsp : sp < 164) (hs : s ≤ 4) (e54 : x 54 sp = nI s) : ∀ (d j : Nat), j + d = s → ((∃ i, j ≤ i ∧ i < s ∧ x 56 (4 * sp + i) = y) ∧ ∀ kk N, d < N → f_K_has_L7 (nI sp) y (nI (4 * sp)) kk N (nI j) x = some (1, x)) ∨ ((∀ i, j ≤ i → i < s → ¬ x 56 (4 * sp + i) = y) ∧ ∀ kk N, d < N → f_K_has_L7 (nI sp) y (nI (4 * sp)) kk N (nI j) x = kk x)
  | 0, j, hd => by
    refine Or.inr ⟨fun i h1 h2 => by omega, fun kk N hN => ?_⟩
    obtain ⟨N, rfl⟩ : ∃ N', N = N' + 1 := ⟨N - 1, by omega⟩
    rw [f_K_has_L7]
    rw [zi_nI (by omega) (by omega), nI_clamp (by omega), e54, if_pos (nI_le (by omega) (by omega))]
  | d + 1, j, hd => by
    have step : ∀ (kk : ze_H → Option (Int32 × ze_H)) N, f_K_has_L7 (nI sp) y (nI (4 * sp)) kk (N + 1) (nI j) x = if x 56 (4 * sp + j) = y then some (1, x) else f_K_has_L7 (nI sp) y (nI (4 * sp)) kk N (nI (j + 1)) x := fun kk N => by
      rw [f_K_has_L7]
      rw [zi_nI (by omega) (by omega), nI_clamp (by omega), e54, if_neg (nI_ge (by omega) (by omega)), nI_add, zi_nI (by omega) (by omega), nI_clamp (by omega), zlet, nI_1]
    by_cases c : x 56 (4 * sp + j) = y
    · refine Or.inl ⟨⟨j, by omega, by omega, c⟩, fun kk N hN => ?_⟩
      obtain ⟨N, rfl⟩ : ∃ N', N = N' + 1 := ⟨N - 1, by omega⟩
      rw [step, if_pos c]
    · rcases has_x hsp hs e54 d (j + 1) (by omega) with ⟨⟨i, h1, h2, h3⟩, h4⟩ | ⟨h1, h2⟩
      · refine Or.inl ⟨⟨i, by omega, h2, h3⟩, fun kk N hN => ?_⟩
        obtain ⟨N, rfl⟩ : ∃ N', N = N' + 1 := ⟨N - 1, by omega⟩
        rw [step, if_neg c, h4 kk N (by omega)]
      · refine Or.inr ⟨fun i g1 g2 => ?_, fun kk N hN => ?_⟩
        · by_cases ci : i = j
          · rw [ci]
            exact c
          · exact h1 i (by omega) g2
        · obtain ⟨N, rfl⟩ : ∃ N', N = N' + 1 := ⟨N - 1, by omega⟩
          rw [step, if_neg c, h2 kk N (by omega)]
theorem once_m {cd s : Nat} {y : Int32} (hcd : cd < 160) (hs : s ≤ 4) : ∀ (d j : Nat) (m : ze_H), m 104 cd = nI s → j + d = s → ((∃ i, j ≤ i ∧ i < s ∧ m 103 (4 * cd + i) = y) ∧ ∀ kk N, d < N → f_M_once_L27 (nI cd) y (nI (4 * cd)) kk N (nI j) m = kk (ze_u m 75 56 4)) ∨ ((∀ i, j ≤ i → i < s → ¬ m 103 (4 * cd + i) = y) ∧ ∀ kk N, d < N → f_M_once_L27 (nI cd) y (nI (4 * cd)) kk N (nI j) m = kk m)
  | 0, j, m, e104, hd => by
    refine Or.inr ⟨fun i h1 h2 => by omega, fun kk N hN => ?_⟩
    obtain ⟨N, rfl⟩ : ∃ N', N = N' + 1 := ⟨N - 1, by omega⟩
    rw [f_M_once_L27]
    rw [zi_nI (by omega) (by omega), nI_clamp (by omega), e104, if_pos (nI_le (by omega) (by omega))]
  | d + 1, j, m, e104, hd => by
    have step : ∀ (kk : ze_H → Option (Int32 × ze_H)) N, f_M_once_L27 (nI cd) y (nI (4 * cd)) kk (N + 1) (nI j) m = if m 103 (4 * cd + j) = y then f_M_once_L27 (nI cd) y (nI (4 * cd)) kk N (nI (j + 1)) (ze_u m 75 56 4) else f_M_once_L27 (nI cd) y (nI (4 * cd)) kk N (nI (j + 1)) m := fun kk N => by
      rw [f_M_once_L27]
      rw [zi_nI (by omega) (by omega), nI_clamp (by omega), e104, if_neg (nI_ge (by omega) (by omega)), nI_add, zi_nI (by omega) (by omega), nI_clamp (by omega), zlev, zlet, zlet, nI_1]
    by_cases c : m 103 (4 * cd + j) = y
    · refine Or.inl ⟨⟨j, by omega, by omega, c⟩, fun kk N hN => ?_⟩
      obtain ⟨N, rfl⟩ : ∃ N', N = N' + 1 := ⟨N - 1, by omega⟩
      rw [step, if_pos c]
      rcases once_m (y := y) hcd hs d (j + 1) (ze_u m 75 56 4) (by rw [zu_n _ _ _ _ (by omega)]; exact e104) (by omega) with ⟨_, h4⟩ | ⟨_, h4⟩
      · rw [h4 kk N (by omega), zu_uu]
      · exact h4 kk N (by omega)
    · rcases once_m (y := y) hcd hs d (j + 1) m e104 (by omega) with ⟨⟨i, h1, h2, h3⟩, h4⟩ | ⟨h1, h2⟩
      · refine Or.inl ⟨⟨i, by omega, h2, h3⟩, fun kk N hN => ?_⟩
        obtain ⟨N, rfl⟩ : ∃ N', N = N' + 1 := ⟨N - 1, by omega⟩
        rw [step, if_neg c, h4 kk N (by omega)]
      · refine Or.inr ⟨fun i g1 g2 => ?_, fun kk N hN => ?_⟩
        · by_cases ci : i = j
          · rw [ci]
            exact c
          · exact h1 i (by omega) g2
        · obtain ⟨N, rfl⟩ : ∃ N', N = N' + 1 := ⟨N - 1, by omega⟩
          rw [step, if_neg c, h2 kk N (by omega)]
/-- the class keeps a key -/
theorem add_x {sp s : Nat} {y : Int32} {x : ze_H} (hsp : sp < 164) (hs : s ≤ 4) (e54 : x 54 sp = nI s) : ∃ x1 s1, f_K_addLatest (nI sp) y x = some (0, x1) ∧ s1 ≤ 4 ∧ s1 = (if s < 4 then s + 1 else 4) ∧ x1 54 sp = nI s1 ∧ (∀ i, i < s1 → x1 56 (4 * sp + i) = if i + 1 = s1 then y else x 56 (4 * sp + i + (if s < 4 then 0 else 1))) ∧ ∀ k i, ¬ (k = 54 ∧ i = sp) → ¬ (k = 56 ∧ 4 * sp ≤ i ∧ i < 4 * sp + 4) → x1 k i = x k i := by
  have em : nI sp * 4 = nI (4 * sp) := by rw [l_4, pk_mul, Nat.mul_comm]
  unfold f_K_addLatest
  rw [zlet, em, zi_nI (by omega) (by omega), nI_clamp (by omega), e54]
  by_cases c : s < 4
  · rw [if_pos (show nI s < 4 from nI_lt (b := 4) c (by omega))]
    unfold f_K_addLatest_J37
    rw [nI_clamp (by omega), e54, zi_nI (by omega) (by omega), nI_add, zi_nI (by omega) (by omega), nI_clamp (by omega), zlev, zi_nI (by omega) (by omega), zi_nI (by omega) (by omega), zlev, zu_n _ _ _ _ (by omega), e54, nI_1]
    refine ⟨_, s + 1, rfl, by omega, by rw [if_pos c], zu_s _ _ _ _, fun i hi => ?_, fun k i h1 h2 => ?_⟩
    · rw [if_pos c]
      by_cases ci : i + 1 = s + 1
      · have : i = s := by omega
        subst this
        rw [if_pos rfl, zu_n _ _ _ _ (by omega), zu_s]
      · rw [if_neg ci, zu_n _ _ _ _ (by omega), zu_n _ _ _ _ (by omega)]
        rfl
    · rw [zu_n _ _ _ _ (by omega), zu_n _ _ _ _ (by omega)]
  · have : s = 4 := by omega
    subst this
    rw [if_neg (show ¬ nI 4 < 4 by decide)]
    unfold ze_cpyT
    rw [nI_1, l_3, nI_clamp (by omega), nI_clamp (by omega), nI_clamp (by omega), if_neg (by
      have a1 := nI_pos (n := 4 * sp + 1) (by omega)
      have a2 := nI_pos (n := 4 * sp) (by omega)
      have a3 := nI_pos (n := 3) (by omega)
      rintro (h | h | h | h | h)
      · exact a1 h
      · exact a2 h
      · exact a3 h
      · omega
      · omega)]
    dsimp only
    rw [zi_nI (by omega) (by omega), zlev]
    have hcp : ∀ k i, ze_cpv x 56 56 (nI (4 * sp + 1)) (nI (4 * sp)) (nI 3) k i = if k = 56 ∧ 4 * sp ≤ i ∧ i < 4 * sp + 3 then x 56 (i + 1) else x k i := by
      intro k i
      unfold ze_cpv va_cpy
      rw [nI_clamp (by omega), nI_clamp (by omega), nI_clamp (by omega)]
      by_cases ck : k = 56
      · rw [if_pos ck]
        by_cases ci : 4 * sp ≤ i ∧ i < 4 * sp + 3
        · rw [if_pos ci, if_pos ⟨ck, ci⟩, show 4 * sp + 1 + (i - 4 * sp) = i + 1 by omega]
        · rw [if_neg ci, if_neg (fun q => ci q.2), ck]
      · rw [if_neg ck, if_neg (fun q => ck q.1)]
    generalize ze_cpv x 56 56 (nI (4 * sp + 1)) (nI (4 * sp)) (nI 3) = w at hcp ⊢
    unfold f_K_addLatest_J37
    rw [nI_clamp (by omega), zu_s, zi_nI (by omega) (by omega), nI_add, zi_nI (by omega) (by omega), nI_clamp (by omega), zlev, zi_nI (by omega) (by omega), zi_nI (by omega) (by omega), zlev, zu_n _ _ _ _ (by omega), zu_s, show nI 3 + 1 = nI 4 from nI_1 3]
    refine ⟨_, 4, rfl, by omega, by rw [if_neg (by omega)], zu_s _ _ _ _, fun i hi => ?_, fun k i h1 h2 => ?_⟩
    · rw [if_neg (show ¬ 4 < 4 by omega)]
      by_cases ci : i + 1 = 4
      · have : i = 3 := by omega
        subst this
        rw [if_pos rfl, zu_n _ _ _ _ (by omega), zu_s]
      · rw [if_neg ci, zu_n _ _ _ _ (by omega), zu_n _ _ _ _ (by omega), zu_n _ _ _ _ (by omega), hcp, if_pos (by omega)]
    · rw [zu_n _ _ _ _ (by omega), zu_n _ _ _ _ (by omega), zu_n _ _ _ _ (by omega), hcp, if_neg (by omega)]
theorem sh_m {cd : Nat} {b1 y : Int32} (hcd : cd < 160) (kk : ze_H → Option (Int32 × ze_H)) : ∀ (d j N : Nat) (m : ze_H), j + d = 3 → d < N → ∃ m1, f_M_once_L83 b1 y (nI (4 * cd)) kk N (nI j) m = kk m1 ∧ ∀ k i, m1 k i = if k = 103 ∧ 4 * cd + j ≤ i ∧ i < 4 * cd + 3 then m 103 (i + 1) else m k i
  | d, j, 0, m, hd, hN => by omega
  | 0, j, N + 1, m, hd, hN => by
    refine ⟨m, ?_, fun k i => by rw [if_neg (by omega)]⟩
    rw [f_M_once_L83]
    rw [if_pos (show (3 : Int32) ≤ nI j from nI_le (a := 3) (by omega) (by omega))]
  | d + 1, j, N + 1, m, hd, hN => by
    obtain ⟨m1, h1, h2⟩ := sh_m (b1 := b1) (y := y) hcd kk d (j + 1) N (ze_u m 103 (4 * cd + j) (m 103 (4 * cd + j + 1))) (by omega) (by omega)
    refine ⟨m1, ?_, fun k i => ?_⟩
    · rw [f_M_once_L83]
      rw [if_neg (show ¬ (3 : Int32) ≤ nI j from nI_ge (b := 3) (by omega) (by omega)), nI_add, nI_1, zi_nI (by omega) (by omega), zi_nI (by omega) (by omega), nI_clamp (by omega), nI_clamp (by omega), zlev, zlet, nI_1]
      exact h1
    · rw [h2]
      by_cases c : k = 103 ∧ 4 * cd + (j + 1) ≤ i ∧ i < 4 * cd + 3
      · rw [if_pos c, if_pos (by omega), zu_n _ _ _ _ (by omega)]
      · rw [if_neg c]
        by_cases c2 : k = 103 ∧ i = 4 * cd + j
        · rw [if_pos (by omega), c2.1, c2.2, zu_s]
        · rw [if_neg (by omega), zu_n _ _ _ _ c2]
theorem add_m {cd s : Nat} {y : Int32} {m : ze_H} (hcd : cd < 160) (hs : s ≤ 4) (e104 : m 104 cd = nI s) : ∃ m1 s1, (if m 104 cd = 4 then ze_let 0 (fun x9 => f_M_once_L83 (nI cd) y (nI (4 * cd)) (fun v12 => ze_in (nI cd) 160 (ze_lev (ze_u v12 104 (Int32.toNatClampNeg (nI cd)) 3) (fun v13 => f_M_once_J122 (nI cd) y (nI (4 * cd)) v13))) 200000 x9 m) else f_M_once_J122 (nI cd) y (nI (4 * cd)) m) = some (0, m1) ∧ s1 = (if s < 4 then s + 1 else 4) ∧ m1 104 cd = nI s1 ∧ (∀ i, i < s1 → m1 103 (4 * cd + i) = if i + 1 = s1 then y else m 103 (4 * cd + i + (if s < 4 then 0 else 1))) ∧ ∀ k i, ¬ (k = 104 ∧ i = cd) → ¬ (k = 103 ∧ 4 * cd ≤ i ∧ i < 4 * cd + 4) → m1 k i = m k i := by
  by_cases c : s < 4
  · rw [e104, if_neg (show ¬ nI s = 4 by rw [l_4, nI_eqP (by omega) (by omega)]; omega)]
    unfold f_M_once_J122
    rw [nI_clamp (by omega), e104, zi_nI (by omega) (by omega), nI_add, zi_nI (by omega) (by omega), nI_clamp (by omega), zlev, zi_nI (by omega) (by omega), zi_nI (by omega) (by omega), zlev, zu_n _ _ _ _ (by omega), e104, nI_1]
    refine ⟨_, s + 1, rfl, by rw [if_pos c], zu_s _ _ _ _, fun i hi => ?_, fun k i h1 h2 => ?_⟩
    · rw [if_pos c]
      by_cases ci : i + 1 = s + 1
      · have : i = s := by omega
        subst this
        rw [if_pos rfl, zu_n _ _ _ _ (by omega), zu_s]
      · rw [if_neg ci, zu_n _ _ _ _ (by omega), zu_n _ _ _ _ (by omega)]
        rfl
    · rw [zu_n _ _ _ _ (by omega), zu_n _ _ _ _ (by omega)]
  · have : s = 4 := by omega
    subst this
    obtain ⟨w, h1, h2⟩ := sh_m (b1 := nI cd) (y := y) hcd (fun v12 => ze_in (nI cd) 160 (ze_lev (ze_u v12 104 (Int32.toNatClampNeg (nI cd)) 3) (fun v13 => f_M_once_J122 (nI cd) y (nI (4 * cd)) v13))) 3 0 200000 m (by omega) (by omega)
    rw [e104, if_pos (show nI 4 = 4 from rfl), zlet, show (0 : Int32) = nI 0 from rfl, h1, zi_nI (by omega) (by omega), nI_clamp (by omega), zlev, l_3]
    unfold f_M_once_J122
    rw [nI_clamp (by omega), zu_s, zi_nI (by omega) (by omega), nI_add, zi_nI (by omega) (by omega), nI_clamp (by omega), zlev, zi_nI (by omega) (by omega), zi_nI (by omega) (by omega), zlev, zu_n _ _ _ _ (by omega), zu_s, show nI 3 + 1 = nI 4 from nI_1 3]
    refine ⟨_, 4, rfl, by rw [if_neg (by omega)], zu_s _ _ _ _, fun i hi => ?_, fun k i g1 g2 => ?_⟩
    · rw [if_neg (show ¬ 4 < 4 by omega)]
      by_cases ci : i + 1 = 4
      · have : i = 3 := by omega
        subst this
        rw [if_pos rfl, zu_n _ _ _ _ (by omega), zu_s]
      · rw [if_neg ci, zu_n _ _ _ _ (by omega), zu_n _ _ _ _ (by omega), zu_n _ _ _ _ (by omega), h2, if_pos (by omega)]
    · rw [zu_n _ _ _ _ (by omega), zu_n _ _ _ _ (by omega), zu_n _ _ _ _ (by omega), h2, if_neg (by omega)]
theorem blk {r p r' p' n n' : Nat} (h : n ≤ 40) (h' : n' ≤ 40) (hp : p < n) (hp' : p' < n') (hne : ¬ (r = r' ∧ p = p')) : 41 * r + p ≠ 41 * r' + p' ∧ 40 * r + p ≠ 40 * r' + p' := by omega
theorem lf_105 (pr : PR n T tb) (h : RS n T tb G R a x m) (A : AT n T tb r p e l x m) (hc : T r p = 105) (hq : q = p + 1) (RC : Nat → Int32 → Int32 → ze_H → Option (Int32 × ze_H)) (b3 : Int32) : LF n T tb G R a r p q e l x m (f_E_attempt RC (58 + e) (nI (41 * r + p)) b3 x) (f_M_act (nI 105) m) := by
  have h10 := xa_at h A
  have A0 := A
  obtain ⟨hr, he, hl, hz, hp, -, ⟨x0, x1, x2, x3, x4⟩, h53, h54, h56⟩ := A0
  have h40 := hz.1
  rw [hc] at h10
  obtain ⟨s, hs, r1, r2, r3⟩ := h.2.2.2.2.2.2.2.2.1 r p hr hp hc
  unfold f_E_attempt f_M_act
  rw [nI_clamp (by omega), zi_nI (by omega) (by omega), zlet, zi_nI (by omega) (by omega), h10, if_neg (show ¬ nI 105 = 33 by decide), if_neg (show ¬ nI 105 = 38 by decide), if_neg (show ¬ nI 105 = 42 by decide), if_neg (show ¬ nI 105 = 43 by decide), if_neg (show ¬ nI 105 = 45 by decide), if_neg (show ¬ nI 105 = 62 by decide), if_neg (show ¬ nI 105 = 63 by decide), if_neg (show ¬ nI 105 = 97 by decide), if_neg (show ¬ nI 105 = 98 by decide), if_neg (show ¬ nI 105 = 102 by decide), if_pos (show nI 105 = 105 by decide), if_neg (show ¬ nI 105 = 33 by decide), if_neg (show ¬ nI 105 = 38 by decide), if_neg (show ¬ nI 105 = 42 by decide), if_neg (show ¬ nI 105 = 43 by decide), if_neg (show ¬ nI 105 = 45 by decide), if_neg (show ¬ nI 105 = 62 by decide), if_neg (show ¬ nI 105 = 63 by decide), if_neg (show ¬ nI 105 = 97 by decide), if_neg (show ¬ nI 105 = 98 by decide), if_neg (show ¬ nI 105 = 102 by decide), if_pos (show nI 105 = 105 by decide), h53, h54, show 40 * nI r + nI p = nI (40 * r + p) by rw [l_40, pk_mul, nI_add]]
  unfold f_E_endIfDuplicate f_K_has f_M_once
  have e4 : nI (41 * r + p) * 4 = nI (4 * (41 * r + p)) := by rw [l_4, pk_mul, Nat.mul_comm]
  have e5 : 4 * nI (40 * r + p) = nI (4 * (40 * r + p)) := by rw [l_4, pk_mul]
  rw [x4, zi_nI (by omega) (by omega), zlet, zlet, zlet, zlet, zlev, zlet, e4, e5, h54, nI_1, nI_clamp (show l < 2 ^ 31 by omega)]
  have hmw : ze_u m 75 54 (nI (p + 1)) 104 (40 * r + p) = nI s := by rw [zu_n _ _ _ _ (by omega)]; exact r2
  have hk : ∀ i, i < s → (x 56 (4 * (41 * r + p) + i) = x (58 + e) 1 ↔ ze_u m 75 54 (nI (p + 1)) 103 (4 * (40 * r + p) + i) = m 109 l) := fun i hi => by
    rw [zu_n _ _ _ _ (by omega), r3 i hi, x1]
  rcases has_x (y := x (58 + e) 1) (show 41 * r + p < 164 by omega) hs r1 s 0 (by omega) with ⟨⟨i, i1, i2, i3⟩, hx⟩ | ⟨hno, hx⟩
  · rw [show (0 : Int32) = nI 0 from rfl, hx _ 200000 (by omega), zcall, if_neg (show ¬ (1 : Int32) = nI 0 by decide), show (4 : Int32) = nI 4 from rfl, px_end (by omega) x he, zcall, zcall]
    rcases once_m (y := m 109 l) (show 40 * r + p < 160 by omega) hs s 0 (ze_u m 75 54 (nI (p + 1))) hmw (by omega) with ⟨_, hm⟩ | ⟨hno, hm⟩
    · rw [hm _ 200000 (by omega), zu_s, if_neg (show ¬ (4 : Int32) ≤ nI 0 by decide), zcall]
      exact lf_end h A (oc := 4) (by omega) (by omega) rfl rfl (zu_s _ _ _ _) (fun k i hk => by rw [zu_n _ _ _ _ (by omega), zu_n _ _ _ _ (by omega)])
    · exact absurd ((hk i i2).1 i3) (hno i i1 i2)
  · rcases once_m (y := m 109 l) (show 40 * r + p < 160 by omega) hs s 0 (ze_u m 75 54 (nI (p + 1))) hmw (by omega) with ⟨⟨i, i1, i2, i3⟩, hm⟩ | ⟨_, hm⟩
    · exact absurd ((hk i i2).2 i3) (hno i i1 i2)
    · obtain ⟨w, s1, a1, a2, a3, a4, a5, a6⟩ := add_x (y := x (58 + e) 1) (show 41 * r + p < 164 by omega) hs r1
      obtain ⟨u, s2, b1, b2, b3', b4, b5⟩ := add_m (y := m 109 l) (m := ze_u m 75 54 (nI (p + 1))) (show 40 * r + p < 160 by omega) hs hmw
      have hss : s2 = s1 := by rw [b2, a3]
      have hx0 : f_K_has_L7 (nI (41 * r + p)) (x (58 + e) 1) (nI (4 * (41 * r + p))) (fun v4 => some (0, v4)) 200000 0 x = some (0, x) := hx _ 200000 (by omega)
      rw [hx0, zcall, if_pos rfl, a1, zcall, zcall]
      have e56 : ze_u m 75 54 (nI (p + 1)) 75 56 = 0 := by rw [zu_n _ _ _ _ (by omega)]; exact h56
      have hgo : ∀ (kk : ze_H → Option (Int32 × ze_H)), f_M_once_L27 (nI (40 * r + p)) (m 109 l) (nI (4 * (40 * r + p))) kk 200000 0 (ze_u m 75 54 (nI (p + 1))) = kk (ze_u m 75 54 (nI (p + 1))) := fun kk => hm kk 200000 (by omega)
      rw [hgo, e56, if_pos (show (0 : Int32) ≤ 0 by decide), zi_nI (by omega) (by omega)]
      rw [nI_clamp (show 40 * r + p < 2 ^ 31 by omega)] at b1 ⊢
      rw [b1, zcall]
      have hxf : ∀ k i, ¬ (k = 54 ∧ i = 41 * r + p) → ¬ (k = 56 ∧ 4 * (41 * r + p) ≤ i ∧ i < 4 * (41 * r + p) + 4) → w k i = x k i := a6
      have hmf : ∀ k i, ¬ (k = 104 ∧ i = 40 * r + p) → ¬ (k = 103 ∧ 4 * (40 * r + p) ≤ i ∧ i < 4 * (40 * r + p) + 4) → ¬ (k = 75 ∧ i = 54) → u k i = m k i := fun k i q1 q2 q3 => by rw [b5 k i q1 q2, zu_n _ _ _ _ q3]
      obtain ⟨h1, h2, h3, h4, h5, h6, h7, h8, h9, h10', h11, h12⟩ := h
      refine ⟨0, 0, w, u, rfl, rfl, by omega, by omega, ⟨kp_tab h1 (fun k i hk => hxf k i (by omega) (by omega)), kp_mt h2 (fun k i hk => hmf k i (by omega) (by omega) (by omega)), kp_cnt h3 (fun k i hk => hxf k i (by omega) (by omega)) (fun k i hk => hmf k i (by omega) (by omega) (by omega)), kp_cls h4 (fun k i hk => hxf k i (by omega) (by omega)) (fun k i hk => hmf k i (by omega) (by omega) (by omega)), kp_ep h5 (fun k i hk => hxf k i (by omega) (by omega)) (fun k i hk => hmf k i (by omega) (by omega) (by omega)), kp_got h6 (fun k i hk => hxf k i (by omega) (by omega)) (fun k i hk => hmf k i (by omega) (by omega) (by omega)), kp_que h7 (fun k i hk => hxf k i (by omega) (by omega)) (fun k i hk => hmf k i (by omega) (by omega) (by omega)), kp_grp h8 (fun k i hk => hxf k i (by omega) (by omega)) (fun k i hk => hmf k i (by omega) (by omega) (by omega)), ?_, kp_q2 h10' (hxf 0 14 (by omega) (by omega)) (fun r' p' hr' hp' => ?_) (fun k i hk => hmf k i (by omega) (by omega) (by omega)), kp_rdy h11 (Nat.le_refl _) (fun k i hk => hxf k i (by omega) (by omega)) (fun k i hk => hmf k i (by omega) (by omega) (by omega)), kp_att h12 (fun k i hk => hxf k i (by omega) (by omega)) (fun k i hk => hmf k i (by omega) (by omega) (by omega))⟩, fun k i hk => hxf k i (by omega) (by omega), fun k i hk => hmf k i (by omega) (by omega) (by omega), fun _ => ⟨by rw [hmf 75 56 (by omega) (by omega) (by omega), h56]; rfl, fun _ => ⟨⟨?_, ?_, ?_, ?_, ?_⟩, ?_⟩⟩, fun c => absurd rfl c, fun c => absurd rfl c⟩
      · show k_i n T w u
        intro r' p' hr' hp' hT'
        by_cases cc : r = r' ∧ p = p'
        · obtain ⟨rfl, rfl⟩ := cc
          refine ⟨s1, a2, a4, by rw [b3', hss], fun i hi => ?_⟩
          rw [a5 i hi, b4 i (by omega), hss]
          by_cases ci : i + 1 = s1
          · rw [if_pos ci, if_pos ci, x1]
          · rw [if_neg ci, if_neg ci]
            have hi2 : i + (if s < 4 then 0 else 1) < s := by
              rw [a3] at hi ci
              by_cases c4 : s < 4
              · rw [if_pos c4] at hi ci ⊢
                omega
              · rw [if_neg c4] at hi ci ⊢
                omega
            have := r3 _ hi2
            rw [zu_n _ _ _ _ (by omega), Nat.add_assoc, Nat.add_assoc (4 * (40 * r + p)) i]
            exact this
        · have hz' := (pr r' hr').1
          have hb := blk h40 hz'.1 hp hp' cc
          obtain ⟨s', g1, g2, g3, g4⟩ := h9 r' p' hr' hp' hT'
          refine ⟨s', g1, by rw [hxf _ _ (by omega) (by omega)]; exact g2, by rw [hmf _ _ (by omega) (by omega) (by omega)]; exact g3, fun i hi => ?_⟩
          rw [hxf _ _ (by omega) (by omega), hmf _ _ (by omega) (by omega) (by omega)]
          exact g4 i hi
      · have hz' := (pr r' hr').1
        have hl' := v113_lt hz' hp'
        have hne : ¬ (r = r' ∧ p = p') := fun cc => by
          obtain ⟨rfl, rfl⟩ := cc
          have := hp'.1
          omega
        have hb := blk h40 hz'.1 hp (show p' < n r' by omega) hne
        exact ⟨hl'.2.2, hxf _ _ (by omega) (by omega), fun j hj => ⟨hxf _ _ (by omega) (by omega), hxf _ _ (by omega) (by omega)⟩⟩
      · rw [hxf _ _ (by omega) (by omega), hmf _ _ (by omega) (by omega) (by omega)]
        exact x0
      · rw [hxf _ _ (by omega) (by omega), hmf _ _ (by omega) (by omega) (by omega)]
        exact x1
      · rw [hxf _ _ (by omega) (by omega), hmf _ _ (by omega) (by omega) (by omega)]
        exact x2
      · rw [hxf _ _ (by omega) (by omega)]
        exact x3
      · rw [hmf _ _ (by omega) (by omega) (by omega)]
        exact x4
      · rw [b5 75 54 (by omega) (by omega), zu_s, hq]
/-- adding to a line, in general -/
theorem px_add {k0 n0 f s : Nat} {a1 a2 a3 : Int32} {x : ze_H} (hn : 0 < n0) (hn2 : n0 < 1000) (e0 : x k0 0 = nI n0) (e4 : x k0 4 = nI f) (e5 : x k0 5 = nI s) (hf : f < n0) (hs : s < n0) : f_L_add k0 n0 a1 a2 a3 x = some (1, ze_u (ze_u (ze_u (ze_u x (k0 + 1) ((f + s) % n0) a1) (k0 + 2) ((f + s) % n0) a2) (k0 + 3) ((f + s) % n0) a3) k0 5 (nI (s + 1))) := by
  have hlt := Nat.mod_lt (f + s) hn
  unfold f_L_add
  rw [e0, e4, e5, if_pos (nI_lt hs (by omega)), if_neg (nI_ne0 hn (by omega)), nI_add, pk_rem (by omega) hn (by omega), zlet, zi_nI hlt (by omega), nI_clamp (by omega), zlev, zi_nI hlt (by omega), zlev, zi_nI hlt (by omega), zlev, zlev, zu_n _ _ _ _ (by omega), zu_n _ _ _ _ (by omega), zu_n _ _ _ _ (by omega), e5, nI_1]
theorem px_full {k0 n0 s : Nat} {a1 a2 a3 : Int32} {x : ze_H} (hn2 : n0 < 1000) (e0 : x k0 0 = nI n0) (e5 : x k0 5 = nI s) (hs : n0 ≤ s) (hs2 : s < 1000) : f_L_add k0 n0 a1 a2 a3 x = some (0, x) := by
  unfold f_L_add
  rw [e0, e5, if_neg (nI_nlt hs (by omega))]
theorem lf_38 (h : RS n T tb G R a x m) (A : AT n T tb r p e l x m) (hc : T r p = 38) (hq : q = ne (T r) (p + 1)) (hsn : sn (T r) 0 3 (p + 1) = .inr q) (ht : tb 11 (41 * r + p) = nI (nv (T r) (p + 1))) (RC : Nat → Int32 → Int32 → ze_H → Option (Int32 × ze_H)) (b3 : Int32) : LF n T tb G R a r p q e l x m (f_E_attempt RC (58 + e) (nI (41 * r + p)) b3 x) (f_M_act (nI 38) m) := by
  have h10 := xa_at h A
  have A0 := A
  obtain ⟨hr, he, hl, hz, hp, -, ⟨x0, x1, x2, x3, x4⟩, h53, h54, h56⟩ := A0
  have h40 := hz.1
  have hv := (sn_inr hsn).2.2.1
  rw [hc] at h10
  obtain ⟨f, s, q1, q2, q3, q4, q5, q6, q7⟩ := h.2.2.2.2.2.2.1
  unfold f_E_attempt f_M_act
  rw [nI_clamp (by omega), zi_nI (by omega) (by omega), zlet, zi_nI (by omega) (by omega), h10, if_neg (show ¬ nI 38 = 33 by decide), if_pos (show nI 38 = 38 by decide), if_neg (show ¬ nI 38 = 33 by decide), if_pos (show nI 38 = 38 by decide), h.1 11 _ (by omega) (by omega), ht, h54, nI_1, me_value hr hz h.2.1 h53 (by omega), zcall]
  generalize hvd : nv (T r) (p + 1) = v at hv ⊢
  unfold f_E_copyToQueue f_M_copy
  have em : nI v * 41 = nI (41 * v) := by rw [show (41 : Int32) = nI 41 from rfl, pk_mul, Nat.mul_comm]
  have w18 : ze_u m 75 55 (nI (ne (T r) (p + 1))) 75 18 = nI s := by rw [zu_n _ _ _ _ (by omega)]; exact q6
  rw [em, w18]
  by_cases c : s < 8
  · rw [px_add (k0 := 39) (n0 := 8) (by omega) (by omega) q3 q4 q5 q1 c, zcall, zlet, if_neg (show ¬ (1 : Int32) = 0 by decide), zcall, if_pos (show nI s < 8 from nI_lt (b := 8) c (by omega))]
    simp (disch := omega) only [w18, zi_N, nI_clamp, zlvN, zu_n, zu_s, x4, q6, nI_1, zcaN]
    have hlt := Nat.mod_lt (f + s) (show 0 < 8 by omega)
    refine ⟨0, 0, _, _, rfl, rfl, by omega, by omega, ?_, fun k i hk => (by simp (disch := omega) only [zu_n]), fun k i hk => (by simp (disch := omega) only [zu_n]), fun _ => ⟨(by simp (disch := omega) only [zu_n, h56]; rfl), fun _ => ⟨⟨?_, ?_, ?_, ?_, ?_⟩, ?_⟩⟩, fun c => absurd rfl c, fun c => absurd rfl c⟩
    · rw [cup_0]
      obtain ⟨h1, h2, h3, h4, h5, h6, h7, h8, h9, h10', h11, h12⟩ := h
      have hx : ∀ k i, ¬ (39 ≤ k ∧ k ≤ 42) → ze_u (ze_u (ze_u (ze_u x 40 ((f + s) % 8) (nI (41 * v))) 41 ((f + s) % 8) (x (58 + e) 0)) 42 ((f + s) % 8) (x (58 + e) 1)) 39 5 (nI (s + 1)) k i = x k i := fun k i hk => by simp (disch := omega) only [zu_n]
      have hm : ∀ k i, ¬ (91 ≤ k ∧ k ≤ 93) → ¬ (k = 75 ∧ (i = 18 ∨ i = 54 ∨ i = 55)) → ze_u (ze_u (ze_u (ze_u (ze_u (ze_u m 75 55 (nI (ne (T r) (p + 1)))) 91 s (nI v)) 92 s (m 108 l)) 93 s (m 109 l)) 75 18 (nI (s + 1))) 75 54 (nI (ne (T r) (p + 1))) k i = m k i := fun k i hk1 hk2 => by simp (disch := omega) only [zu_n]
      refine ⟨kp_tab h1 (fun k i hk => hx k i (by omega)), kp_mt h2 (fun k i hk => hm k i (by omega) (by omega)), kp_cnt h3 (fun k i hk => hx k i (by omega)) (fun k i hk => hm k i (by omega) (by omega)), kp_cls h4 (fun k i hk => hx k i (by omega)) (fun k i hk => hm k i (by omega) (by omega)), kp_ep h5 (fun k i hk => hx k i (by omega)) (fun k i hk => hm k i (by omega) (by omega)), kp_got h6 (fun k i hk => hx k i (by omega)) (fun k i hk => hm k i (by omega) (by omega)), ?_, kp_grp h8 (fun k i hk => hx k i (by omega)) (fun k i hk => hm k i (by omega) (by omega)), kp_i h9 (fun k i hk => hx k i (by omega)) (fun k i hk => hm k i (by omega) (by omega)), kp_q h10' (fun k i hk => hx k i (by omega)) (fun k i hk => hm k i (by omega) (by omega)), kp_rdy h11 (Nat.le_refl _) (fun k i hk => hx k i (by omega)) (fun k i hk => hm k i (by omega) (by omega)), kp_att h12 (fun k i hk => hx k i (by omega)) (fun k i hk => hm k i (by omega) (by omega))⟩
      refine ⟨f, s + 1, q1, by omega, by simp (disch := omega) only [zu_n]; exact q3, by simp (disch := omega) only [zu_n]; exact q4, zu_s _ _ _ _, by simp (disch := omega) only [zu_n, zu_s], fun i hi => ?_⟩
      by_cases ci : i = s
      · subst ci
        refine ⟨v, by omega, ?_, ?_, ?_, ?_⟩
        · simp (disch := omega) only [zu_n, zu_s]
        · simp (disch := omega) only [zu_n, zu_s]
        · simp (disch := omega) only [zu_n, zu_s]
          exact x0
        · simp (disch := omega) only [zu_n, zu_s]
          exact x1
      · obtain ⟨t, t1, t2, t3, t4, t5⟩ := q7 i (by omega)
        have hne : ¬ (f + i) % 8 = (f + s) % 8 := by omega
        refine ⟨t, t1, ?_, ?_, ?_, ?_⟩
        · simp (disch := omega) only [zu_n]
          exact t2
        · simp (disch := omega) only [zu_n]
          exact t3
        · simp (disch := omega) only [zu_n]
          exact t4
        · simp (disch := omega) only [zu_n]
          exact t5
    · simp (disch := omega) only [zu_n]
      exact x0
    · simp (disch := omega) only [zu_n]
      exact x1
    · simp (disch := omega) only [zu_n]
      exact x2
    · simp (disch := omega) only [zu_n]
      exact x3
    · simp (disch := omega) only [zu_n]
      exact x4
    · simp (disch := omega) only [zu_n, zu_s]
      rw [hq]
  · rw [px_full (by omega) q3 q5 (by omega) (by omega), zcall, zlet, if_pos rfl, zcall, if_neg (show ¬ nI s < 8 from nI_nlt (b := 8) (by omega) (by omega)), zcall]
    refine ⟨6, 0, x, _, rfl, rfl, by omega, by omega, RS_kp h (fun k i hk => rfl) (fun k i h1 h2 => zu_n _ _ _ _ (by omega)), fun k i hk => rfl, fun k i hk => zu_n _ _ _ _ (by omega), fun c => by omega, fun _ => ⟨rfl, ⟨?_, ?_, ?_, x3, ?_⟩, ?_⟩, fun c => absurd rfl c⟩
    · rw [zu_n _ _ _ _ (by omega)]
      exact x0
    · rw [zu_n _ _ _ _ (by omega)]
      exact x1
    · rw [zu_n _ _ _ _ (by omega)]
      exact x2
    · rw [zu_n _ _ _ _ (by omega)]
      exact x4
    · rw [zu_n _ _ _ _ (by omega)]
      exact h54
end LG
