/-! PURE: the reference, running: characters, numbers, what lies behind a list -/
section MV
variable {n : Nat → Nat} {T : Nat → Nat → Nat} {m : ze_H} {r : Nat}
theorem me_here (hr : r < 4) (hz : tz (n r) (T r)) (hm : r_mt n T m) (e53 : m 75 53 = nI r) {p : Nat} (hp : p < 1000) : f_M_here (nI p) m = some (nI (T r p), m) := by
  have h40 := hz.1
  have hT := tz_le hz p
  unfold f_M_here
  by_cases c : n r ≤ p
  · have h0 := hz.2.2 p c
    simp (disch := omega) only [↓reduceIte, ↓m1_l,  eq_self, zleN, zlvN, zcaN, zi_N, nI_clamp, zu_s, zu_n, nI_add, pk_mul, pk_subO, nI_eqP, nI_ltP, nI_leP, nI_m1P, nI_m1Q, nI_m1R, nI_m1S, nI_m1U, nI_m1P', if_pos, if_neg, l_0, l_1, l_2, l_3, l_4, l_5, l_6, l_7, l_8, l_10, l_15, l_16, l_20, l_26, l_31, l_33, l_37, l_38, l_40, l_41, l_42, l_43, l_44, l_45, l_48, l_57, l_58, l_60, l_61, l_62, l_63, l_64, l_97, l_98, l_99, l_100, l_102, l_105, l_107, l_113, l_114, l_115, l_120, l_126, l_160, l_164, l_242, l_401, l_420, l_640, l_656, l_9999, l_100000, e53, (hm r hr).1, h0]
    exact zrc (by omega) m
  · simp (disch := omega) only [↓reduceIte, ↓m1_l,  eq_self, zleN, zlvN, zcaN, zi_N, nI_clamp, zu_s, zu_n, nI_add, pk_mul, pk_subO, nI_eqP, nI_ltP, nI_leP, nI_m1P, nI_m1Q, nI_m1R, nI_m1S, nI_m1U, nI_m1P', if_pos, if_neg, l_0, l_1, l_2, l_3, l_4, l_5, l_6, l_7, l_8, l_10, l_15, l_16, l_20, l_26, l_31, l_33, l_37, l_38, l_40, l_41, l_42, l_43, l_44, l_45, l_48, l_57, l_58, l_60, l_61, l_62, l_63, l_64, l_97, l_98, l_99, l_100, l_102, l_105, l_107, l_113, l_114, l_115, l_120, l_126, l_160, l_164, l_242, l_401, l_420, l_640, l_656, l_9999, l_100000, e53, (hm r hr).1, (hm r hr).2 p (by omega)]
    exact zrc (by omega) m
theorem me_valL (hr : r < 4) (hz : tz (n r) (T r)) (kk : Int32 → ze_H → Option (Int32 × ze_H)) {p0 : Nat} (h0 : p0 ≤ n r) : ∀ (i a p N : Nat) (m : ze_H), r_mt n T m → m 75 53 = nI r → m 75 55 = nI p → p ≤ n r → p + i = p0 + 4 → i ≤ 4 → i < N → a < 10 ^ (4 - i) →
    f_M_value_L7 (nI p0) kk N (nI a) m = kk (nI (nsc (T r) i p a).1) (ze_u m 75 55 (nI (nsc (T r) i p a).2))
  | 0, a, p, 0, m, hm, e53, e55, hp, hi, hi4, hN, ha => by omega
  | 0, a, p, N + 1, m, hm, e53, e55, hp, hi, hi4, hN, ha => by
    have h40 := hz.1
    rw [f_M_value_L7]
    rw [e55, show nI p0 + 4 = nI (p0 + 4) from nI_add p0 4, if_pos (nI_le (by omega) (by omega))]
    show _ = kk (nI a) (ze_u m 75 55 (nI p))
    rw [zu_id e55]
  | i + 1, a, p, 0, m, hm, e53, e55, hp, hi, hi4, hN, ha => by omega
  | i + 1, a, p, N + 1, m, hm, e53, e55, hp, hi, hi4, hN, ha => by
    have h40 := hz.1
    have hT := tz_le hz p
    have ha4 : a < 10 ^ 4 := Nat.lt_of_lt_of_le ha (Nat.pow_le_pow_right (by omega) (by omega))
    rw [f_M_value_L7, nsc_s]
    rw [e55, show nI p0 + 4 = nI (p0 + 4) from nI_add p0 4, if_neg (nI_ge (by omega) (by omega)), me_here hr hz hm e53 (by omega), zcall, md_digit hT, zcall]
    by_cases c1 : 48 ≤ T r p ∧ T r p ≤ 57
    · rw [if_pos c1, if_neg (show ¬ nI 1 = 0 by decide), e55, me_here hr hz hm e53 (by omega), zcall, zlet, zlev, e55, if_pos c1]
      have hpn : p < n r := tz_lt hz (by omega)
      have ev : nI a * 10 + nI (T r p) - 48 = nI (a * 10 + (T r p - 48)) := by
        simp (disch := omega) only [↓reduceIte, ↓m1_l,  eq_self, zleN, zlvN, zcaN, zi_N, nI_clamp, zu_s, zu_n, nI_add, pk_mul, pk_subO, nI_eqP, nI_ltP, nI_leP, nI_m1P, nI_m1Q, nI_m1R, nI_m1S, nI_m1U, nI_m1P', if_pos, if_neg, l_0, l_1, l_2, l_3, l_4, l_5, l_6, l_7, l_8, l_10, l_15, l_16, l_20, l_26, l_31, l_33, l_37, l_38, l_40, l_41, l_42, l_43, l_44, l_45, l_48, l_57, l_58, l_60, l_61, l_62, l_63, l_64, l_97, l_98, l_99, l_100, l_102, l_105, l_107, l_113, l_114, l_115, l_120, l_126, l_160, l_164, l_242, l_401, l_420, l_640, l_656, l_9999, l_100000]
        rw [show a * 10 + T r p - 48 = a * 10 + (T r p - 48) by omega]
      rw [ev, nI_1, me_valL hr hz kk h0 i (a * 10 + (T r p - 48)) (p + 1) N _ (kp_mt hm (fun k i hk => zu_n _ _ _ _ (by omega))) (by rw [zu_n _ _ _ _ (by omega)]; exact e53) (zu_s _ _ _ _) (by omega) (by omega) (by omega) (by omega) (by rw [show 4 - i = (4 - (i + 1)) + 1 by omega, Nat.pow_succ]; omega), zu_uu]
    · rw [if_neg c1, if_pos (show nI 0 = 0 by decide), if_neg c1]
      rw [zu_id e55]
theorem me_value (hr : r < 4) (hz : tz (n r) (T r)) (hm : r_mt n T m) (e53 : m 75 53 = nI r) {p : Nat} (hp : p ≤ n r) : f_M_value (nI p) m = some (nI (nv (T r) p), ze_u m 75 55 (nI (ne (T r) p))) := by
  unfold f_M_value
  rw [zlet, zlev, show (0 : Int32) = nI 0 from rfl, me_valL hr hz _ hp 4 0 p 200000 (ze_u m 75 55 (nI p)) (kp_mt hm (fun k i hk => zu_n _ _ _ _ (by omega))) (by rw [zu_n _ _ _ _ (by omega)]; exact e53) (zu_s _ _ _ _) hp (by omega) (by omega) (by omega) (by omega), zu_uu]
  rfl
/-- looking for the end of a list: one character -/
theorem be_one (hr : r < 4) (hz : tz (n r) (T r)) (kk : ze_H → Option (Int32 × ze_H)) (hm : r_mt n T m) (e53 : m 75 53 = nI r) {N k p : Nat} (hk : 0 < k) (hk2 : k < 1000) (hp : p < n r) (h40 : ¬ T r p = 40) (h41 : ¬ T r p = 41) : f_M_behind_L4 kk (N + 1) (nI k) (nI p) m = f_M_behind_L4 kk N (nI k) (nI (p + 1)) m := by
  have h4 := hz.1
  have hT := tz_le hz p
  rw [f_M_behind_L4]
  rw [e53, zi_nI (by omega) (by omega), nI_clamp (by omega), (hm r hr).1, if_neg (nI_ge hp (by omega)), me_here hr hz hm e53 (by omega), zcall, zlet, if_neg (show ¬ nI (T r p) = 40 by rw [l_40, nI_eqP (by omega) (by omega)]; exact h40), if_neg (show ¬ nI (T r p) = 41 by rw [l_41, nI_eqP (by omega) (by omega)]; exact h41), zlet, if_neg (nI_ne0 hk (by omega)), zlet, nI_1]
theorem be_in (hr : r < 4) (hz : tz (n r) (T r)) (kk : ze_H → Option (Int32 × ze_H)) (hm : r_mt n T m) (e53 : m 75 53 = nI r) {N k p : Nat} (hk2 : k < 1000) (hp : p < n r) (h40 : T r p = 40) : f_M_behind_L4 kk (N + 1) (nI k) (nI p) m = f_M_behind_L4 kk N (nI (k + 1)) (nI (p + 1)) m := by
  have h4 := hz.1
  rw [f_M_behind_L4]
  rw [e53, zi_nI (by omega) (by omega), nI_clamp (by omega), (hm r hr).1, if_neg (nI_ge hp (by omega)), me_here hr hz hm e53 (by omega), zcall, zlet, h40, if_pos (show nI 40 = 40 by decide), zlet, nI_1, if_neg (nI_ne0 (by omega) (by omega)), zlet, nI_1]
theorem be_out (hr : r < 4) (hz : tz (n r) (T r)) (kk : ze_H → Option (Int32 × ze_H)) (hm : r_mt n T m) (e53 : m 75 53 = nI r) {N k p : Nat} (hk : 0 < k) (hk2 : k < 1000) (hp : p < n r) (h41 : T r p = 41) : f_M_behind_L4 kk (N + 1) (nI (k + 1)) (nI p) m = f_M_behind_L4 kk N (nI k) (nI (p + 1)) m := by
  have h4 := hz.1
  rw [f_M_behind_L4]
  rw [e53, zi_nI (by omega) (by omega), nI_clamp (by omega), (hm r hr).1, if_neg (nI_ge hp (by omega)), me_here hr hz hm e53 (by omega), zcall, zlet, h41, if_neg (show ¬ nI 41 = 40 by decide), if_pos (show nI 41 = 41 by decide), zlet, nI_pred, if_neg (nI_ne0 hk (by omega)), zlet, nI_1]
theorem be_end (hr : r < 4) (hz : tz (n r) (T r)) (kk : ze_H → Option (Int32 × ze_H)) (hm : r_mt n T m) (e53 : m 75 53 = nI r) {N p : Nat} (hp : p < n r) (h41 : T r p = 41) : f_M_behind_L4 kk (N + 1) (nI 1) (nI p) m = some (nI (p + 1), m) := by
  have h4 := hz.1
  rw [f_M_behind_L4]
  rw [e53, zi_nI (by omega) (by omega), nI_clamp (by omega), (hm r hr).1, if_neg (nI_ge hp (by omega)), me_here hr hz hm e53 (by omega), zcall, zlet, h41, if_neg (show ¬ nI 41 = 40 by decide), if_pos (show nI 41 = 41 by decide), zlet, if_pos (show nI 1 - 1 = 0 by decide), nI_1]
/-- over digits -/
theorem be_num (hr : r < 4) (hz : tz (n r) (T r)) (kk : ze_H → Option (Int32 × ze_H)) (hm : r_mt n T m) (e53 : m 75 53 = nI r) {k : Nat} (hk : 0 < k) (hk2 : k < 1000) : ∀ (j p a N : Nat), f_M_behind_L4 kk (N + ((nsc (T r) j p a).2 - p)) (nI k) (nI p) m = f_M_behind_L4 kk N (nI k) (nI (nsc (T r) j p a).2) m
  | 0, p, a, N => by
    rw [show (nsc (T r) 0 p a).2 = p from rfl, Nat.sub_self]
    rfl
  | j + 1, p, a, N => by
    rw [nsc_s]
    by_cases c : 48 ≤ T r p ∧ T r p ≤ 57
    · rw [if_pos c]
      have hp : p < n r := tz_lt hz (by omega)
      have h1 := nsc_le hz j (p + 1) (a * 10 + (T r p - 48)) (by omega)
      have h2 := be_num hr hz kk hm e53 hk hk2 j (p + 1) (a * 10 + (T r p - 48)) N
      rw [show (nsc (T r) j (p + 1) (a * 10 + (T r p - 48))).2 - p = ((nsc (T r) j (p + 1) (a * 10 + (T r p - 48))).2 - (p + 1)) + 1 by omega, ← Nat.add_assoc, be_one hr hz kk hm e53 hk hk2 hp (by omega) (by omega)]
      exact h2
    · rw [if_neg c]
      show f_M_behind_L4 kk (N + (p - p)) _ _ _ = f_M_behind_L4 kk N _ _ _
      rw [Nat.sub_self]
      rfl
def Bh (n : Nat → Nat) (r : Nat) (m : ze_H) (kk : ze_H → Option (Int32 × ze_H)) (k p q : Nat) : Prop := p ≤ q ∧ ∀ N, f_M_behind_L4 kk (N + (q - p)) (nI k) (nI p) m = f_M_behind_L4 kk N (nI k) (nI q) m
theorem Bh_t {kk : ze_H → Option (Int32 × ze_H)} {k p q s : Nat} (h1 : Bh n r m kk k p q) (h2 : Bh n r m kk k q s) : Bh n r m kk k p s := by
  refine ⟨Nat.le_trans h1.1 h2.1, fun N => ?_⟩
  rw [← h2.2 N, ← h1.2 (N + (s - q)), show N + (s - q) + (q - p) = N + (s - p) by have := h1.1; have := h2.1; omega]
theorem Bh_0 {kk : ze_H → Option (Int32 × ze_H)} {k p : Nat} : Bh n r m kk k p p := ⟨Nat.le_refl _, fun N => by rw [Nat.sub_self]; rfl⟩
theorem Bh_1 (hr : r < 4) (hz : tz (n r) (T r)) {kk : ze_H → Option (Int32 × ze_H)} (hm : r_mt n T m) (e53 : m 75 53 = nI r) {k p : Nat} (hk : 0 < k) (hk2 : k < 1000) (hp : p < n r) (h40 : ¬ T r p = 40) (h41 : ¬ T r p = 41) : Bh n r m kk k p (p + 1) := ⟨by omega, fun N => by rw [show p + 1 - p = 1 by omega]; exact be_one hr hz kk hm e53 hk hk2 hp h40 h41⟩
theorem Bh_n (hr : r < 4) (hz : tz (n r) (T r)) {kk : ze_H → Option (Int32 × ze_H)} (hm : r_mt n T m) (e53 : m 75 53 = nI r) {k p : Nat} (hk : 0 < k) (hk2 : k < 1000) (hp : p ≤ n r) : Bh n r m kk k p (ne (T r) p) := ⟨(ne_le hz hp).1, fun N => be_num hr hz kk hm e53 hk hk2 4 p 0 N⟩
/-- over a list in parentheses -/
theorem Bh_par (hr : r < 4) (hz : tz (n r) (T r)) {kk : ze_H → Option (Int32 × ze_H)} (hm : r_mt n T m) (e53 : m 75 53 = nI r) {k q e : Nat} (hk : 0 < k) (hk2 : k < 900) (hq : q < n r) (hT : T r q = 40) (he : e < n r) (hTe : T r e = 41) (h : Bh n r m kk (k + 1) (q + 1) e) : Bh n r m kk k q (e + 1) := by
  have := h.1
  refine ⟨by omega, fun N => ?_⟩
  rw [show e + 1 - q = (e - (q + 1)) + 1 + 1 by omega, ← Nat.add_assoc, be_in hr hz kk hm e53 (by omega) hq hT, show N + (e - (q + 1) + 1) = N + 1 + (e - (q + 1)) by omega, h.2 (N + 1), be_out hr hz kk hm e53 hk (by omega) he hTe]
/-- over a whole list -/
theorem Bh_list (hr : r < 4) (hz : tz (n r) (T r)) {kk : ze_H → Option (Int32 × ze_H)} (hm : r_mt n T m) (e53 : m 75 53 = nI r) : ∀ (f d p e k : Nat), 0 < k → d ≤ 3 ∧ k ≤ 100 + d → p ≤ n r → sl (T r) r f d p = .inr e → Bh n r m kk k p e
  | 0, d, p, e, k, hk, hk2, hp, h => by cases h
  | f + 1, d, p, e, k, hk, hk2, hp, h => by
    have h40 := hz.1
    rw [sl_s] at h
    by_cases c1 : T r p = 0
    · rw [if_pos c1] at h
      by_cases c2 : 0 < d
      · rw [if_pos c2] at h
        cases h
      · rw [if_neg c2] at h
        injection h with h
        rw [← h]
        exact Bh_0
    · rw [if_neg c1] at h
      by_cases c2 : T r p = 41 ∧ 0 < d
      · rw [if_pos c2] at h
        injection h with h
        rw [← h]
        exact Bh_0
      · rw [if_neg c2] at h
        obtain ⟨q, h1, h2⟩ := sb_inr h
        have hpn : p < n r := tz_lt hz c1
        have hq := sp_end hz h1
        refine Bh_t ?_ (Bh_list hr hz hm e53 f d q e k hk hk2 hq.2 h2)
        rcases sp_kind h1 with c | c | c | c | ⟨c, u⟩ | ⟨c, u⟩ | ⟨c, u⟩ | ⟨c, u⟩ | ⟨c, u⟩
        · obtain ⟨a, b, b2, e1, b3, b4⟩ := sp_63 c h1
          obtain ⟨s1, s2, s3, s4, s5⟩ := st_inr a
          have hte := st_end hz a
          have g2 : p + 1 < n r := tz_lt hz (by omega)
          have g3 : p + 1 + 1 < n r := tz_lt hz (by omega)
          have t0 : ne (T r) (p + 3) < n r := tz_lt hz (by omega)
          have u := sl_ok hz f (d + 1) _ _ (by omega) b3
          have u41 := u.2.2.1 (by omega)
          have u1 : e1 < n r := tz_lt hz (by omega)
          have w1 : Bh n r m kk k p (ne (T r) (p + 3)) := Bh_t (Bh_1 hr hz hm e53 hk (by omega) hpn (by omega) (by omega)) (Bh_t (Bh_1 hr hz hm e53 hk (by omega) g2 (by omega) (by omega)) (Bh_t (Bh_1 hr hz hm e53 hk (by omega) g3 (by omega) (by omega)) (Bh_n hr hz hm e53 hk (by omega) (by omega))))
          have w2 : Bh n r m kk k (ne (T r) (p + 3)) (e1 + 1) := Bh_par hr hz hm e53 hk (by omega) t0 b2 u1 u41 (Bh_list hr hz hm e53 f (d + 1) _ e1 (k + 1) (by omega) (by omega) (by omega) b3)
          rcases b4 with ⟨x1, x2, e2, x3, rfl⟩ | ⟨x1, rfl⟩
          · have t1 : e1 + 1 < n r := tz_lt hz (by omega)
            have t2 : e1 + 2 < n r := tz_lt hz (by omega)
            have w := sl_ok hz f (d + 1) _ _ (by omega) x3
            have w41 := w.2.2.1 (by omega)
            have t3 : e2 < n r := tz_lt hz (by omega)
            exact Bh_t w1 (Bh_t w2 (Bh_t (Bh_1 hr hz hm e53 hk (by omega) t1 (by omega) (by omega)) (Bh_par hr hz hm e53 hk (by omega) t2 x2 t3 w41 (Bh_list hr hz hm e53 f (d + 1) _ e2 (k + 1) (by omega) (by omega) (by omega) x3))))
          · exact Bh_t w1 w2
        · obtain ⟨a, b, b2, e1, b3, rfl⟩ := sp_115 c h1
          have hte := sn_end hz a
          have t0 : ne (T r) (p + 1) < n r := tz_lt hz (by omega)
          have u := sl_ok hz f (d + 1) _ _ (by omega) b3
          have u41 := u.2.2.1 (by omega)
          have u1 : e1 < n r := tz_lt hz (by omega)
          exact Bh_t (Bh_1 hr hz hm e53 hk (by omega) hpn (by omega) (by omega)) (Bh_t (Bh_n hr hz hm e53 hk (by omega) (by omega)) (Bh_par hr hz hm e53 hk (by omega) t0 b2 u1 u41 (Bh_list hr hz hm e53 f (d + 1) _ e1 (k + 1) (by omega) (by omega) (by omega) b3)))
        · obtain ⟨a, b, b2, b3⟩ := sp_97 c h1
          have v1 := sn_end hz b
          have v2 : ne (T r) (p + 1) < n r := tz_lt hz (by omega)
          have v3 := (sn_inr b3).2.2.2
          rw [v3]
          exact Bh_t (Bh_1 hr hz hm e53 hk (by omega) hpn (by omega) (by omega)) (Bh_t (Bh_n hr hz hm e53 hk (by omega) (by omega)) (Bh_t (Bh_1 hr hz hm e53 hk (by omega) v2 (by omega) (by omega)) (Bh_n hr hz hm e53 hk (by omega) (by omega))))
        · have v3 := (sn_inr (sp_113 c h1).2).2.2.2
          rw [v3]
          exact Bh_t (Bh_1 hr hz hm e53 hk (by omega) hpn (by omega) (by omega)) (Bh_n hr hz hm e53 hk (by omega) (by omega))
        · obtain ⟨s1, s2, s3, s4, s5⟩ := st_inr u
          have g2 : p + 1 < n r := tz_lt hz (by omega)
          have g3 : p + 1 + 1 < n r := tz_lt hz (by omega)
          rw [s5]
          exact Bh_t (Bh_1 hr hz hm e53 hk (by omega) hpn (by omega) (by omega)) (Bh_t (Bh_1 hr hz hm e53 hk (by omega) g2 (by omega) (by omega)) (Bh_t (Bh_1 hr hz hm e53 hk (by omega) g3 (by omega) (by omega)) (Bh_n hr hz hm e53 hk (by omega) (by omega))))
        · rw [(sn_inr u).2.2.2]
          exact Bh_t (Bh_1 hr hz hm e53 hk (by omega) hpn (by omega) (by omega)) (Bh_n hr hz hm e53 hk (by omega) (by omega))
        · rw [(sn_inr u).2.2.2]
          exact Bh_t (Bh_1 hr hz hm e53 hk (by omega) hpn (by omega) (by omega)) (Bh_n hr hz hm e53 hk (by omega) (by omega))
        · rw [(sn_inr u).2.2.2]
          exact Bh_t (Bh_1 hr hz hm e53 hk (by omega) hpn (by omega) (by omega)) (Bh_n hr hz hm e53 hk (by omega) (by omega))
        · rw [u]
          exact Bh_1 hr hz hm e53 hk (by omega) hpn (by omega) (by omega)
/-- what lies behind a list in parentheses -/
theorem me_behind (hr : r < 4) (hz : tz (n r) (T r)) (hm : r_mt n T m) (e53 : m 75 53 = nI r) {f d q e : Nat} (hd : d < 3) (hT : T r q = 40) (h : sl (T r) r f (d + 1) (q + 1) = .inr e) : f_M_behind (nI q) m = some (nI (e + 1), m) := by
  have h40 := hz.1
  have hq : q < n r := tz_lt hz (by omega)
  have u := sl_ok hz f (d + 1) _ _ (by omega) h
  have u41 := u.2.2.1 (by omega)
  have u1 : e < n r := tz_lt hz (by omega)
  unfold f_M_behind
  rw [zlet, zlet, show (0 : Int32) = nI 0 from rfl]
  obtain ⟨N, hN⟩ : ∃ N, 200000 = N + 1 + (e - (q + 1)) + 1 := ⟨200000 - 2 - (e - (q + 1)), by omega⟩
  rw [hN, be_in hr hz _ hm e53 (by omega) hq hT, (Bh_list hr hz hm e53 f (d + 1) (q + 1) e 1 (by omega) (by omega) (by omega) h).2 (N + 1), be_end hr hz _ hm e53 u1 u41]
end MV
