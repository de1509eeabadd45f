/-! PURE: lists: what the tables must say of them, and their ends -/
def wst (T : Nat → Nat) (r : Nat) (tb : ze_H) (B : Nat) (L : Nat → Nat → Sum Nat Nat) (W : Nat → Nat → Prop) (d p q : Nat) : Prop :=
  tb (B + 6) (41 * r + p) = nI (41 * r + q) ∧
  ((T p = 33 ∨ T p = 38 ∨ T p = 42 ∨ T p = 43 ∨ T p = 45 ∨ T p = 62 ∨ T p = 97 ∨ T p = 113 ∨ T p = 115) → tb (B + 2) (41 * r + p) = nI (nv T (p + 1))) ∧
  ((T p = 63 ∨ T p = 102) → tb (B + 2) (41 * r + p) = nI (nv T (p + 3))) ∧
  (T p = 97 → tb (B + 3) (41 * r + p) = nI (nv T (ne T (p + 1) + 1))) ∧
  (T p = 115 → tb (B + 4) (41 * r + p) = nI (41 * r + (ne T (p + 1) + 1)) ∧ W (d + 1) (ne T (p + 1) + 1)) ∧
  (T p = 63 → tb (B + 4) (41 * r + p) = nI (41 * r + (ne T (p + 3) + 1)) ∧ W (d + 1) (ne T (p + 3) + 1) ∧ ∀ e, L (d + 1) (ne T (p + 3) + 1) = .inr e → (T (e + 1) = 58 → tb (B + 5) (41 * r + p) = nI (41 * r + (e + 3)) ∧ W (d + 1) (e + 3)) ∧ (¬ T (e + 1) = 58 → tb (B + 5) (41 * r + p) = -1))
def wt (T : Nat → Nat) (r : Nat) (tb : ze_H) (B : Nat) : Nat → Nat → Nat → Prop
  | 0, _, _ => True
  | f + 1, d, p => T p = 0 ∨ (T p = 41 ∧ 0 < d) ∨ ∃ q, sp T r (sl T r f) d p = .inr q ∧ wst T r tb B (sl T r f) (wt T r tb B f) d p q ∧ wt T r tb B f d q
theorem sb_inr {s : Sum Nat Nat} {f : Nat → Sum Nat Nat} {q : Nat} (h : sb s f = .inr q) : ∃ a, s = .inr a ∧ f a = .inr q := by
  cases s with
  | inl e => cases h
  | inr a => exact ⟨a, rfl, h⟩
theorem sb_r (a : Nat) (f : Nat → Sum Nat Nat) : sb (.inr a) f = f a := rfl
theorem sb_l (a : Nat) (f : Nat → Sum Nat Nat) : sb (.inl a) f = .inl a := rfl
theorem sl_s (T : Nat → Nat) (r f d p : Nat) : sl T r (f + 1) d p = if T p = 0 then (if 0 < d then .inl p else .inr p) else if T p = 41 ∧ 0 < d then .inr p else sb (sp T r (sl T r f) d p) (fun q => sl T r f d q) := rfl
theorem sn_inr {T : Nat → Nat} {lo hi p q : Nat} (h : sn T lo hi p = .inr q) : (48 ≤ T p ∧ T p ≤ 57) ∧ lo ≤ nv T p ∧ nv T p ≤ hi ∧ q = ne T p := by
  unfold sn at h
  by_cases c : (48 ≤ T p ∧ T p ≤ 57) ∧ lo ≤ nv T p ∧ nv T p ≤ hi
  · rw [if_pos c] at h
    injection h with h
    exact ⟨c.1, c.2.1, c.2.2, h.symm⟩
  · rw [if_neg c] at h
    cases h
theorem st_inr {T : Nat → Nat} {p q : Nat} (h : st T p = .inr q) : (T p = 98 ∨ T p = 107) ∧ (T (p + 1) = 60 ∨ T (p + 1) = 62 ∨ T (p + 1) = 61 ∨ T (p + 1) = 37) ∧ (48 ≤ T (p + 2) ∧ T (p + 2) ≤ 57) ∧ (T (p + 1) = 37 → 1 ≤ nv T (p + 2)) ∧ q = ne T (p + 2) := by
  unfold st at h
  by_cases c1 : T p = 98 ∨ T p = 107
  · rw [if_pos c1] at h
    by_cases c2 : T (p + 1) = 60 ∨ T (p + 1) = 62 ∨ T (p + 1) = 61 ∨ T (p + 1) = 37
    · rw [if_pos c2] at h
      obtain ⟨a, b, -, e⟩ := sn_inr h
      refine ⟨c1, c2, a, fun c => ?_, e⟩
      rw [if_pos c] at b
      exact b
    · rw [if_neg c2] at h
      cases h
  · rw [if_neg c1] at h
    cases h
theorem si_inr {T : Nat → Nat} {L : Nat → Nat → Sum Nat Nat} {d q e : Nat} (h : si T L d q = .inr e) : d < 3 ∧ T q = 40 ∧ ∃ e1, L (d + 1) (q + 1) = .inr e1 ∧ e = e1 + 1 := by
  unfold si at h
  by_cases c : d < 3 ∧ T q = 40
  · rw [if_pos c] at h
    obtain ⟨a, h1, h2⟩ := sb_inr h
    injection h2 with h2
    exact ⟨c.1, c.2, a, h1, h2.symm⟩
  · rw [if_neg c] at h
    cases h
theorem sn_inl {T : Nat → Nat} {lo hi p e : Nat} (h : sn T lo hi p = .inl e) : e = p := by
  unfold sn at h
  by_cases c : (48 ≤ T p ∧ T p ≤ 57) ∧ lo ≤ nv T p ∧ nv T p ≤ hi
  · rw [if_pos c] at h
    cases h
  · rw [if_neg c] at h
    injection h with h
    exact h.symm
theorem st_inl {n : Nat} {T : Nat → Nat} (hz : tz n T) {p e : Nat} (hp : p ≤ n) (h : st T p = .inl e) : e ≤ n := by
  unfold st at h
  by_cases c1 : T p = 98 ∨ T p = 107
  · rw [if_pos c1] at h
    have h1 : p < n := tz_lt hz (by omega)
    by_cases c2 : T (p + 1) = 60 ∨ T (p + 1) = 62 ∨ T (p + 1) = 61 ∨ T (p + 1) = 37
    · rw [if_pos c2] at h
      have h2 : p + 1 < n := tz_lt hz (by omega)
      have := sn_inl h
      omega
    · rw [if_neg c2] at h
      injection h with h
      omega
  · rw [if_neg c1] at h
    injection h with h
    omega
theorem sb_inl {s : Sum Nat Nat} {f : Nat → Sum Nat Nat} {e : Nat} (h : sb s f = .inl e) : s = .inl e ∨ ∃ a, s = .inr a ∧ f a = .inl e := by
  cases s with
  | inl a =>
    injection h with h
    exact Or.inl (by rw [h])
  | inr a => exact Or.inr ⟨a, rfl, h⟩
theorem si_inl {n : Nat} {T : Nat → Nat} (hz : tz n T) {L : Nat → Nat → Sum Nat Nat} (hL : ∀ d p e, p ≤ n → L d p = .inl e → e ≤ n) {d q e : Nat} (hq : q ≤ n) (h : si T L d q = .inl e) : e ≤ n := by
  unfold si at h
  by_cases c : d < 3 ∧ T q = 40
  · rw [if_pos c] at h
    have h1 : q < n := tz_lt hz (by omega)
    rcases sb_inl h with h | ⟨a, h2, h3⟩
    · exact hL _ _ _ (by omega) h
    · cases h3
  · rw [if_neg c] at h
    injection h with h
    omega
section LX
variable {n : Nat} {T : Nat → Nat}  {r : Nat}
/-- the kinds of a step that is right -/
theorem sp_63 {L : Nat → Nat → Sum Nat Nat} {d p q : Nat} (c : T p = 63) (h : sp T r L d p = .inr q) : st T (p + 1) = .inr (ne T (p + 3)) ∧ d < 3 ∧ T (ne T (p + 3)) = 40 ∧ ∃ e1, L (d + 1) (ne T (p + 3) + 1) = .inr e1 ∧ ((T (e1 + 1) = 58 ∧ T (e1 + 2) = 40 ∧ ∃ e2, L (d + 1) (e1 + 3) = .inr e2 ∧ q = e2 + 1) ∨ (¬ T (e1 + 1) = 58 ∧ q = e1 + 1)) := by
  unfold sp at h
  rw [c, if_neg (by decide), if_neg (by decide), if_neg (by decide), if_neg (by decide), if_neg (by decide), if_neg (by decide), if_pos rfl] at h
  obtain ⟨a, h1, h2⟩ := sb_inr h
  obtain ⟨b, h3, h4⟩ := sb_inr h2
  have ha := (st_inr h1).2.2.2.2
  subst ha
  obtain ⟨k1, k2, e1, k3, rfl⟩ := si_inr h3
  refine ⟨h1, k1, k2, e1, k3, ?_⟩
  by_cases c2 : T (e1 + 1) = 58
  · rw [if_pos c2] at h4
    obtain ⟨k4, k5, e2, k6, rfl⟩ := si_inr h4
    exact Or.inl ⟨c2, k5, e2, k6, rfl⟩
  · rw [if_neg c2] at h4
    injection h4 with h4
    exact Or.inr ⟨c2, h4.symm⟩
theorem sp_115 {L : Nat → Nat → Sum Nat Nat} {d p q : Nat} (c : T p = 115) (h : sp T r L d p = .inr q) : sn T 1 4 (p + 1) = .inr (ne T (p + 1)) ∧ d < 3 ∧ T (ne T (p + 1)) = 40 ∧ ∃ e1, L (d + 1) (ne T (p + 1) + 1) = .inr e1 ∧ q = e1 + 1 := by
  unfold sp at h
  rw [c, if_neg (by decide), if_neg (by decide), if_neg (by decide), if_neg (by decide), if_neg (by decide), if_neg (by decide), if_neg (by decide), if_neg (by decide), if_neg (by decide), if_neg (by decide), if_neg (by decide), if_neg (by decide), if_neg (by decide), if_neg (by decide), if_pos rfl] at h
  obtain ⟨a, h1, h2⟩ := sb_inr h
  have ha := (sn_inr h1).2.2.2
  subst ha
  obtain ⟨k1, k2, e1, k3, rfl⟩ := si_inr h2
  exact ⟨h1, k1, k2, e1, k3, rfl⟩
theorem sp_97 {L : Nat → Nat → Sum Nat Nat} {d p q : Nat} (c : T p = 97) (h : sp T r L d p = .inr q) : d = 0 ∧ sn T 2 4 (p + 1) = .inr (ne T (p + 1)) ∧ T (ne T (p + 1)) = 44 ∧ sn T 1 99 (ne T (p + 1) + 1) = .inr q := by
  unfold sp at h
  rw [c, if_neg (by decide), if_neg (by decide), if_neg (by decide), if_neg (by decide), if_neg (by decide), if_neg (by decide), if_neg (by decide), if_pos rfl] at h
  by_cases c0 : 0 < d
  · rw [if_pos c0] at h
    cases h
  · rw [if_neg c0] at h
    obtain ⟨a, h1, h2⟩ := sb_inr h
    have ha := (sn_inr h1).2.2.2
    subst ha
    by_cases c2 : T (ne T (p + 1)) = 44
    · rw [if_pos c2] at h2
      exact ⟨by omega, h1, c2, h2⟩
    · rw [if_neg c2] at h2
      cases h2
theorem sp_113 {L : Nat → Nat → Sum Nat Nat} {d p q : Nat} (c : T p = 113) (h : sp T r L d p = .inr q) : d = 0 ∧ sn T 2 4 (p + 1) = .inr q := by
  unfold sp at h
  rw [c, if_neg (by decide), if_neg (by decide), if_neg (by decide), if_neg (by decide), if_neg (by decide), if_neg (by decide), if_neg (by decide), if_neg (by decide), if_neg (by decide), if_neg (by decide), if_neg (by decide), if_neg (by decide), if_pos rfl] at h
  by_cases c0 : 0 < d
  · rw [if_pos c0] at h
    cases h
  · rw [if_neg c0] at h
    exact ⟨by omega, h⟩
/-- which steps there are -/
theorem sp_kind {L : Nat → Nat → Sum Nat Nat} {d p q : Nat} (h : sp T r L d p = .inr q) : T p = 63 ∨ T p = 115 ∨ T p = 97 ∨ T p = 113 ∨ (T p = 102 ∧ st T (p + 1) = .inr q) ∨ ((T p = 33 ∨ T p = 38) ∧ sn T 0 3 (p + 1) = .inr q) ∨ ((T p = 42 ∨ T p = 43 ∨ T p = 45) ∧ sn T 0 9999 (p + 1) = .inr q) ∨ (T p = 62 ∧ sn T (r + 1) 3 (p + 1) = .inr q) ∨ ((T p = 98 ∨ T p = 105 ∨ T p = 107 ∨ T p = 114) ∧ q = p + 1) := by
  by_cases c1 : T p = 63
  · exact Or.inl c1
  by_cases c2 : T p = 115
  · exact Or.inr (Or.inl c2)
  by_cases c3 : T p = 97
  · exact Or.inr (Or.inr (Or.inl c3))
  by_cases c4 : T p = 113
  · exact Or.inr (Or.inr (Or.inr (Or.inl c4)))
  refine Or.inr (Or.inr (Or.inr (Or.inr ?_)))
  unfold sp at h
  rw [if_neg c1, if_neg c2, if_neg c3, if_neg c4] at h
  by_cases d1 : T p = 33
  · rw [if_pos d1] at h
    exact Or.inr (Or.inl ⟨Or.inl d1, h⟩)
  rw [if_neg d1] at h
  by_cases d2 : T p = 38
  · rw [if_pos d2] at h
    exact Or.inr (Or.inl ⟨Or.inr d2, h⟩)
  rw [if_neg d2] at h
  by_cases d3 : T p = 42
  · rw [if_pos d3] at h
    exact Or.inr (Or.inr (Or.inl ⟨by omega, h⟩))
  rw [if_neg d3] at h
  by_cases d4 : T p = 43
  · rw [if_pos d4] at h
    exact Or.inr (Or.inr (Or.inl ⟨by omega, h⟩))
  rw [if_neg d4] at h
  by_cases d5 : T p = 45
  · rw [if_pos d5] at h
    exact Or.inr (Or.inr (Or.inl ⟨by omega, h⟩))
  rw [if_neg d5] at h
  by_cases d6 : T p = 62
  · rw [if_pos d6] at h
    exact Or.inr (Or.inr (Or.inr (Or.inl ⟨d6, h⟩)))
  rw [if_neg d6] at h
  by_cases d7 : T p = 98
  · rw [if_pos d7] at h
    injection h with h
    exact Or.inr (Or.inr (Or.inr (Or.inr ⟨by omega, h.symm⟩)))
  rw [if_neg d7] at h
  by_cases d8 : T p = 102
  · rw [if_pos d8] at h
    exact Or.inl ⟨d8, h⟩
  rw [if_neg d8] at h
  by_cases d9 : T p = 105
  · rw [if_pos d9] at h
    injection h with h
    exact Or.inr (Or.inr (Or.inr (Or.inr ⟨by omega, h.symm⟩)))
  rw [if_neg d9] at h
  by_cases d10 : T p = 107
  · rw [if_pos d10] at h
    injection h with h
    exact Or.inr (Or.inr (Or.inr (Or.inr ⟨by omega, h.symm⟩)))
  rw [if_neg d10] at h
  by_cases d11 : T p = 114
  · rw [if_pos d11] at h
    injection h with h
    exact Or.inr (Or.inr (Or.inr (Or.inr ⟨by omega, h.symm⟩)))
  rw [if_neg d11] at h
  cases h
theorem sn_end (hz : tz n T) {lo hi p q : Nat} (h : sn T lo hi p = .inr q) : p < q ∧ q ≤ n := by
  obtain ⟨a, -, -, rfl⟩ := sn_inr h
  exact ne_lt hz a
theorem st_end (hz : tz n T) {p q : Nat} (h : st T p = .inr q) : p + 2 < q ∧ q ≤ n := by
  obtain ⟨-, -, a, -, rfl⟩ := st_inr h
  exact ne_lt hz a
theorem sl_ok (hz : tz n T) : ∀ (f d p e : Nat), p ≤ n → sl T r f d p = .inr e → p ≤ e ∧ e ≤ n ∧ (0 < d → T e = 41) ∧ (d = 0 → T e = 0)
  | 0, d, p, e, hp, h => by cases h
  | f + 1, d, p, e, hp, h => by
    rw [sl_s] at h
    by_cases c1 : T p = 0
    · rw [if_pos c1] at h
      by_cases c2 : 0 < d
      · rw [if_pos c2] at h
        cases h
      · rw [if_neg c2] at h
        injection h with h
        subst h
        exact ⟨Nat.le_refl _, hp, fun q => absurd q c2, fun _ => c1⟩
    · rw [if_neg c1] at h
      by_cases c2 : T p = 41 ∧ 0 < d
      · rw [if_pos c2] at h
        injection h with h
        subst h
        exact ⟨Nat.le_refl _, hp, fun _ => c2.1, fun q => by omega⟩
      · rw [if_neg c2] at h
        obtain ⟨q, h1, h2⟩ := sb_inr h
        have hpn : p < n := tz_lt hz c1
        have hq : p < q ∧ q ≤ n := by
          rcases sp_kind h1 with c | c | c | c | ⟨c, k⟩ | ⟨c, k⟩ | ⟨c, k⟩ | ⟨c, k⟩ | ⟨c, k⟩
          · obtain ⟨a, b, b2, e1, b3, b4⟩ := sp_63 c h1
            have := st_end hz a
            have t0 : ne T (p + 3) < n := tz_lt hz (by omega)
            have u := sl_ok hz f (d + 1) _ _ (by omega) b3
            have u1 : e1 < n := tz_lt hz (by rw [u.2.2.1 (by omega)]; omega)
            rcases b4 with ⟨g1, g2, e2, g3, rfl⟩ | ⟨g1, rfl⟩
            · have t2 : e1 + 2 < n := tz_lt hz (by omega)
              have w := sl_ok hz f (d + 1) _ _ (by omega) g3
              have w1 : e2 < n := tz_lt hz (by rw [w.2.2.1 (by omega)]; omega)
              omega
            · omega
          · obtain ⟨a, b, b2, e1, b3, b4⟩ := sp_115 c h1
            have := sn_end hz a
            have t0 : ne T (p + 1) < n := tz_lt hz (by omega)
            have u := sl_ok hz f (d + 1) _ _ (by omega) b3
            have u1 : e1 < n := tz_lt hz (by rw [u.2.2.1 (by omega)]; omega)
            omega
          · obtain ⟨a, b, b2, b3⟩ := sp_97 c h1
            have := sn_end hz b
            have := sn_end hz b3
            omega
          · have := sn_end hz (sp_113 c h1).2
            omega
          · have := st_end hz k
            omega
          · have := sn_end hz k
            omega
          · have := sn_end hz k
            omega
          · have := sn_end hz k
            omega
          · omega
        have := sl_ok hz f d q e hq.2 h2
        omega
theorem sp_end (hz : tz n T) {f d p q : Nat} (h1 : sp T r (sl T r f) d p = .inr q) : p < q ∧ q ≤ n := by
  have hpn : p < n := by
    apply tz_lt hz
    intro c
    rcases sp_kind h1 with c1 | c1 | c1 | c1 | ⟨c1, k⟩ | ⟨c1, k⟩ | ⟨c1, k⟩ | ⟨c1, k⟩ | ⟨c1, k⟩ <;> omega
  rcases sp_kind h1 with c | c | c | c | ⟨c, k⟩ | ⟨c, k⟩ | ⟨c, k⟩ | ⟨c, k⟩ | ⟨c, k⟩
  · obtain ⟨a, b, b2, e1, b3, b4⟩ := sp_63 c h1
    have := st_end hz a
    have t0 : ne T (p + 3) < n := tz_lt hz (by omega)
    have u := sl_ok hz f (d + 1) _ _ (by omega) b3
    have u1 : e1 < n := tz_lt hz (by rw [u.2.2.1 (by omega)]; omega)
    rcases b4 with ⟨g1, g2, e2, g3, rfl⟩ | ⟨g1, rfl⟩
    · have t2 : e1 + 2 < n := tz_lt hz (by omega)
      have w := sl_ok hz f (d + 1) _ _ (by omega) g3
      have w1 : e2 < n := tz_lt hz (by rw [w.2.2.1 (by omega)]; omega)
      omega
    · omega
  · obtain ⟨a, b, b2, e1, b3, b4⟩ := sp_115 c h1
    have := sn_end hz a
    have t0 : ne T (p + 1) < n := tz_lt hz (by omega)
    have u := sl_ok hz f (d + 1) _ _ (by omega) b3
    have u1 : e1 < n := tz_lt hz (by rw [u.2.2.1 (by omega)]; omega)
    omega
  · obtain ⟨a, b, b2, b3⟩ := sp_97 c h1
    have := sn_end hz b
    have := sn_end hz b3
    omega
  · have := sn_end hz (sp_113 c h1).2
    omega
  · have := st_end hz k
    omega
  · have := sn_end hz k
    omega
  · have := sn_end hz k
    omega
  · have := sn_end hz k
    omega
  · omega
theorem sp_inl (hz : tz n T) {f d p e : Nat} (hL : ∀ d p e, p ≤ n → sl T r f d p = .inl e → e ≤ n) (hp : p < n) (h : sp T r (sl T r f) d p = .inl e) : e ≤ n := by
  by_cases c1 : T p = 63
  · unfold sp at h
    simp (disch := omega) only [↓reduceIte, ↓m1_l,  eq_self, zleN, zlvN, zcaN, zi_N, nI_clamp, zu_s, zu_n, nI_add, pk_mul, pk_subO, nI_eqP, nI_ltP, nI_leP, nI_m1P, nI_m1Q, nI_m1R, nI_m1S, nI_m1U, nI_m1P', if_pos, if_neg, l_0, l_1, l_2, l_3, l_4, l_5, l_6, l_7, l_8, l_10, l_15, l_16, l_20, l_26, l_31, l_33, l_37, l_38, l_40, l_41, l_42, l_43, l_44, l_45, l_48, l_57, l_58, l_60, l_61, l_62, l_63, l_64, l_97, l_98, l_99, l_100, l_102, l_105, l_107, l_113, l_114, l_115, l_120, l_126, l_160, l_164, l_242, l_401, l_420, l_640, l_656, l_9999, l_100000] at h
    rcases sb_inl h with h | ⟨a, h2, h3⟩
    · exact st_inl hz (by omega) h
    · have ha := st_end hz h2
      rcases sb_inl h3 with h | ⟨b, h4, h5⟩
      · exact si_inl hz hL (by omega) h
      · obtain ⟨k1, k2, e1, k3, rfl⟩ := si_inr h4
        have t0 : a < n := tz_lt hz (by omega)
        have u := sl_ok hz f (d + 1) _ _ (by omega) k3
        have u1 : e1 < n := tz_lt hz (by rw [u.2.2.1 (by omega)]; omega)
        by_cases c58 : T (e1 + 1) = 58
        · rw [if_pos c58] at h5
          have : e1 + 1 < n := tz_lt hz (by omega)
          exact si_inl hz hL (by omega) h5
        · rw [if_neg c58] at h5
          cases h5
  by_cases c2 : T p = 115
  · unfold sp at h
    simp (disch := omega) only [↓reduceIte, ↓m1_l,  eq_self, zleN, zlvN, zcaN, zi_N, nI_clamp, zu_s, zu_n, nI_add, pk_mul, pk_subO, nI_eqP, nI_ltP, nI_leP, nI_m1P, nI_m1Q, nI_m1R, nI_m1S, nI_m1U, nI_m1P', if_pos, if_neg, l_0, l_1, l_2, l_3, l_4, l_5, l_6, l_7, l_8, l_10, l_15, l_16, l_20, l_26, l_31, l_33, l_37, l_38, l_40, l_41, l_42, l_43, l_44, l_45, l_48, l_57, l_58, l_60, l_61, l_62, l_63, l_64, l_97, l_98, l_99, l_100, l_102, l_105, l_107, l_113, l_114, l_115, l_120, l_126, l_160, l_164, l_242, l_401, l_420, l_640, l_656, l_9999, l_100000] at h
    rcases sb_inl h with h | ⟨a, h2, h3⟩
    · have := sn_inl h
      omega
    · have := sn_end hz h2
      exact si_inl hz hL (by omega) h3
  by_cases c3 : T p = 97
  · unfold sp at h
    simp (disch := omega) only [↓reduceIte, ↓m1_l,  eq_self, zleN, zlvN, zcaN, zi_N, nI_clamp, zu_s, zu_n, nI_add, pk_mul, pk_subO, nI_eqP, nI_ltP, nI_leP, nI_m1P, nI_m1Q, nI_m1R, nI_m1S, nI_m1U, nI_m1P', if_pos, if_neg, l_0, l_1, l_2, l_3, l_4, l_5, l_6, l_7, l_8, l_10, l_15, l_16, l_20, l_26, l_31, l_33, l_37, l_38, l_40, l_41, l_42, l_43, l_44, l_45, l_48, l_57, l_58, l_60, l_61, l_62, l_63, l_64, l_97, l_98, l_99, l_100, l_102, l_105, l_107, l_113, l_114, l_115, l_120, l_126, l_160, l_164, l_242, l_401, l_420, l_640, l_656, l_9999, l_100000] at h
    by_cases c0 : 0 < d
    · rw [if_pos c0] at h
      injection h with h
      omega
    · rw [if_neg c0] at h
      rcases sb_inl h with h | ⟨a, h2, h3⟩
      · have := sn_inl h
        omega
      · have ha := sn_end hz h2
        by_cases c4 : T a = 44
        · rw [if_pos c4] at h3
          have : a < n := tz_lt hz (by omega)
          have := sn_inl h3
          omega
        · rw [if_neg c4] at h3
          injection h3 with h3
          omega
  unfold sp at h
  rw [if_neg c1, if_neg c2, if_neg c3] at h
  by_cases d33 : T p = 33
  · rw [if_pos d33] at h
    have := sn_inl h
    omega
  rw [if_neg d33] at h
  by_cases d38 : T p = 38
  · rw [if_pos d38] at h
    have := sn_inl h
    omega
  rw [if_neg d38] at h
  by_cases d42 : T p = 42
  · rw [if_pos d42] at h
    have := sn_inl h
    omega
  rw [if_neg d42] at h
  by_cases d43 : T p = 43
  · rw [if_pos d43] at h
    have := sn_inl h
    omega
  rw [if_neg d43] at h
  by_cases d45 : T p = 45
  · rw [if_pos d45] at h
    have := sn_inl h
    omega
  rw [if_neg d45] at h
  by_cases d62 : T p = 62
  · rw [if_pos d62] at h
    have := sn_inl h
    omega
  rw [if_neg d62] at h
  by_cases d98 : T p = 98
  · rw [if_pos d98] at h
    cases h
  rw [if_neg d98] at h
  by_cases d102 : T p = 102
  · rw [if_pos d102] at h
    exact st_inl hz (by omega) h
  rw [if_neg d102] at h
  by_cases d105 : T p = 105
  · rw [if_pos d105] at h
    cases h
  rw [if_neg d105] at h
  by_cases d107 : T p = 107
  · rw [if_pos d107] at h
    cases h
  rw [if_neg d107] at h
  by_cases d113 : T p = 113
  · rw [if_pos d113] at h
    by_cases c0 : 0 < d
    · rw [if_pos c0] at h
      injection h with h
      omega
    · rw [if_neg c0] at h
      have := sn_inl h
      omega
  rw [if_neg d113] at h
  by_cases d114 : T p = 114
  · rw [if_pos d114] at h
    cases h
  rw [if_neg d114] at h
  injection h with h
  omega
theorem sl_er (hz : tz n T) : ∀ (f d p e : Nat), p ≤ n → sl T r f d p = .inl e → e ≤ n
  | 0, d, p, e, hp, h => by
    injection h with h
    omega
  | f + 1, d, p, e, hp, h => by
    rw [sl_s] at h
    by_cases c1 : T p = 0
    · rw [if_pos c1] at h
      by_cases c2 : 0 < d
      · rw [if_pos c2] at h
        injection h with h
        omega
      · rw [if_neg c2] at h
        cases h
    · rw [if_neg c1] at h
      by_cases c2 : T p = 41 ∧ 0 < d
      · rw [if_pos c2] at h
        cases h
      · rw [if_neg c2] at h
        have hpn : p < n := tz_lt hz c1
        rcases sb_inl h with h | ⟨a, h2, h3⟩
        · exact sp_inl hz (sl_er hz f) hpn h
        · exact sl_er hz f d a e (sp_end hz h2).2 h3
/-- tables that agree on a list serve it as well -/
theorem wt_kp (hz : tz n T) {tb tb2 : ze_H} {B : Nat} : ∀ (f d p e : Nat), p ≤ n → sl T r f d p = .inr e → (∀ k i, B + 2 ≤ k → k ≤ B + 6 → 41 * r + p ≤ i → i < 41 * r + e → tb2 k i = tb k i) → wt T r tb B f d p → wt T r tb2 B f d p
  | 0, d, p, e, hp, h, ha, hw => trivial
  | f + 1, d, p, e, hp, h, ha, hw => by
    rcases hw with hw | hw | ⟨q, hq, hs, hw⟩
    · exact Or.inl hw
    · exact Or.inr (Or.inl hw)
    · by_cases c1 : T p = 0
      · exact Or.inl c1
      by_cases c2 : T p = 41 ∧ 0 < d
      · exact Or.inr (Or.inl c2)
      rw [sl_s, if_neg c1, if_neg c2, hq, sb_r] at h
      have hpq := sp_end hz hq
      have hqe := sl_ok hz f d q e hpq.2 h
      refine Or.inr (Or.inr ⟨q, hq, ?_, wt_kp hz f d q e hpq.2 h (fun k i h1 h2 h3 h4 => ha k i h1 h2 (by omega) h4) hw⟩)
      have hat : ∀ k, B + 2 ≤ k → k ≤ B + 6 → tb2 k (41 * r + p) = tb k (41 * r + p) := fun k h1 h2 => ha k _ h1 h2 (by omega) (by omega)
      obtain ⟨s1, s2, s3, s4, s5, s6⟩ := hs
      refine ⟨by rw [hat _ (by omega) (by omega)]; exact s1, by rw [hat _ (by omega) (by omega)]; exact s2, by rw [hat _ (by omega) (by omega)]; exact s3, by rw [hat _ (by omega) (by omega)]; exact s4, fun c => ?_, fun c => ?_⟩
      · rw [hat _ (by omega) (by omega)]
        obtain ⟨a, b, b2, e1, b3, b4⟩ := sp_115 c hq
        have v1 := sn_end hz a
        have t0 : ne T (p + 1) < n := tz_lt hz (by omega)
        have u := sl_ok hz f (d + 1) _ _ (by omega) b3
        exact ⟨(s5 c).1, wt_kp hz f (d + 1) _ e1 (by omega) b3 (fun k i h1 h2 h3 h4 => ha k i h1 h2 (by omega) (by omega)) (s5 c).2⟩
      · rw [hat _ (by omega) (by omega), hat _ (by omega) (by omega)]
        obtain ⟨a, b, b2, e1, b3, b4⟩ := sp_63 c hq
        have v1 := st_end hz a
        have t0 : ne T (p + 3) < n := tz_lt hz (by omega)
        have u := sl_ok hz f (d + 1) _ _ (by omega) b3
        have u1 : e1 < n := tz_lt hz (by rw [u.2.2.1 (by omega)]; omega)
        obtain ⟨w1, w2, w3⟩ := s6 c
        have hq1 : e1 + 1 ≤ q := by
          rcases b4 with ⟨g1, g2, e2, g3, rfl⟩ | ⟨g1, rfl⟩
          · have t2 : e1 + 2 < n := tz_lt hz (by omega)
            have := sl_ok hz f (d + 1) _ _ (by omega) g3
            omega
          · omega
        refine ⟨w1, wt_kp hz f (d + 1) _ e1 (by omega) b3 (fun k i h1 h2 h3 h4 => ha k i h1 h2 (by omega) (by omega)) w2, fun e' he' => ?_⟩
        rw [b3] at he'
        injection he' with he'
        subst he'
        obtain ⟨w4, w5⟩ := w3 e1 b3
        refine ⟨fun c5 => ⟨(w4 c5).1, ?_⟩, w5⟩
        rcases b4 with ⟨g1, g2, e2, g3, rfl⟩ | ⟨g1, rfl⟩
        · have t2 : e1 + 2 < n := tz_lt hz (by omega)
          have := sl_ok hz f (d + 1) _ _ (by omega) g3
          exact wt_kp hz f (d + 1) _ e2 (by omega) g3 (fun k i h1 h2 h3 h4 => ha k i h1 h2 (by omega) (by omega)) (w4 c5).2
        · exact absurd c5 g1
/-- .. and tables that lie elsewhere -/
theorem wt_sh (hz : tz n T) {tb tb2 : ze_H} {B B2 : Nat} : ∀ (f d p e : Nat), p ≤ n → sl T r f d p = .inr e → (∀ k i, 2 ≤ k → k ≤ 6 → 41 * r + p ≤ i → i < 41 * r + e → tb2 (B2 + k) i = tb (B + k) i) → wt T r tb B f d p → wt T r tb2 B2 f d p
  | 0, d, p, e, hp, h, ha, hw => trivial
  | f + 1, d, p, e, hp, h, ha, hw => by
    rcases hw with hw | hw | ⟨q, hq, hs, hw⟩
    · exact Or.inl hw
    · exact Or.inr (Or.inl hw)
    · by_cases c1 : T p = 0
      · exact Or.inl c1
      by_cases c2 : T p = 41 ∧ 0 < d
      · exact Or.inr (Or.inl c2)
      rw [sl_s, if_neg c1, if_neg c2, hq, sb_r] at h
      have hpq := sp_end hz hq
      have hqe := sl_ok hz f d q e hpq.2 h
      refine Or.inr (Or.inr ⟨q, hq, ?_, wt_sh hz f d q e hpq.2 h (fun k i h1 h2 h3 h4 => ha k i h1 h2 (by omega) h4) hw⟩)
      have hat : ∀ k, 2 ≤ k → k ≤ 6 → tb2 (B2 + k) (41 * r + p) = tb (B + k) (41 * r + p) := fun k h1 h2 => ha k _ h1 h2 (by omega) (by omega)
      obtain ⟨s1, s2, s3, s4, s5, s6⟩ := hs
      refine ⟨by rw [hat _ (by omega) (by omega)]; exact s1, by rw [hat _ (by omega) (by omega)]; exact s2, by rw [hat _ (by omega) (by omega)]; exact s3, by rw [hat _ (by omega) (by omega)]; exact s4, fun c => ?_, fun c => ?_⟩
      · rw [hat _ (by omega) (by omega)]
        obtain ⟨a, b, b2, e1, b3, b4⟩ := sp_115 c hq
        have v1 := sn_end hz a
        have t0 : ne T (p + 1) < n := tz_lt hz (by omega)
        have u := sl_ok hz f (d + 1) _ _ (by omega) b3
        exact ⟨(s5 c).1, wt_sh hz f (d + 1) _ e1 (by omega) b3 (fun k i h1 h2 h3 h4 => ha k i h1 h2 (by omega) (by omega)) (s5 c).2⟩
      · rw [hat _ (by omega) (by omega), hat _ (by omega) (by omega)]
        obtain ⟨a, b, b2, e1, b3, b4⟩ := sp_63 c hq
        have v1 := st_end hz a
        have t0 : ne T (p + 3) < n := tz_lt hz (by omega)
        have u := sl_ok hz f (d + 1) _ _ (by omega) b3
        have u1 : e1 < n := tz_lt hz (by rw [u.2.2.1 (by omega)]; omega)
        obtain ⟨w1, w2, w3⟩ := s6 c
        have hq1 : e1 + 1 ≤ q := by
          rcases b4 with ⟨g1, g2, e2, g3, rfl⟩ | ⟨g1, rfl⟩
          · have t2 : e1 + 2 < n := tz_lt hz (by omega)
            have := sl_ok hz f (d + 1) _ _ (by omega) g3
            omega
          · omega
        refine ⟨w1, wt_sh hz f (d + 1) _ e1 (by omega) b3 (fun k i h1 h2 h3 h4 => ha k i h1 h2 (by omega) (by omega)) w2, fun e' he' => ?_⟩
        rw [b3] at he'
        injection he' with he'
        subst he'
        obtain ⟨w4, w5⟩ := w3 e1 b3
        refine ⟨fun c5 => ⟨(w4 c5).1, ?_⟩, w5⟩
        rcases b4 with ⟨g1, g2, e2, g3, rfl⟩ | ⟨g1, rfl⟩
        · have t2 : e1 + 2 < n := tz_lt hz (by omega)
          have := sl_ok hz f (d + 1) _ _ (by omega) g3
          exact wt_sh hz f (d + 1) _ e2 (by omega) g3 (fun k i h1 h2 h3 h4 => ha k i h1 h2 (by omega) (by omega)) (w4 c5).2
        · exact absurd c5 g1
theorem wst_kp (hz : tz n T) {tb tb2 : ze_H} {B f d p q : Nat} (hq : sp T r (sl T r f) d p = .inr q) (ha : ∀ k i, B + 2 ≤ k → k ≤ B + 6 → 41 * r + p ≤ i → i < 41 * r + q → tb2 k i = tb k i) (hs : wst T r tb B (sl T r f) (wt T r tb B f) d p q) : wst T r tb2 B (sl T r f) (wt T r tb2 B f) d p q := by
  have hpq := sp_end hz hq
  have hat : ∀ k, B + 2 ≤ k → k ≤ B + 6 → tb2 k (41 * r + p) = tb k (41 * r + p) := fun k h1 h2 => ha k _ h1 h2 (by omega) (by omega)
  obtain ⟨s1, s2, s3, s4, s5, s6⟩ := hs
  refine ⟨by rw [hat _ (by omega) (by omega)]; exact s1, by rw [hat _ (by omega) (by omega)]; exact s2, by rw [hat _ (by omega) (by omega)]; exact s3, by rw [hat _ (by omega) (by omega)]; exact s4, fun c => ?_, fun c => ?_⟩
  · rw [hat _ (by omega) (by omega)]
    obtain ⟨a, b, b2, e1, b3, b4⟩ := sp_115 c hq
    have v1 := sn_end hz a
    have t0 : ne T (p + 1) < n := tz_lt hz (by omega)
    have u := sl_ok hz f (d + 1) _ _ (by omega) b3
    exact ⟨(s5 c).1, wt_kp hz f (d + 1) _ e1 (by omega) b3 (fun k i h1 h2 h3 h4 => ha k i h1 h2 (by omega) (by omega)) (s5 c).2⟩
  · rw [hat _ (by omega) (by omega), hat _ (by omega) (by omega)]
    obtain ⟨a, b, b2, e1, b3, b4⟩ := sp_63 c hq
    have v1 := st_end hz a
    have t0 : ne T (p + 3) < n := tz_lt hz (by omega)
    have u := sl_ok hz f (d + 1) _ _ (by omega) b3
    have u1 : e1 < n := tz_lt hz (by rw [u.2.2.1 (by omega)]; omega)
    obtain ⟨w1, w2, w3⟩ := s6 c
    have hq1 : e1 + 1 ≤ q := by
      rcases b4 with ⟨g1, g2, e2, g3, rfl⟩ | ⟨g1, rfl⟩
      · have t2 : e1 + 2 < n := tz_lt hz (by omega)
        have := sl_ok hz f (d + 1) _ _ (by omega) g3
        omega
      · omega
    refine ⟨w1, wt_kp hz f (d + 1) _ e1 (by omega) b3 (fun k i h1 h2 h3 h4 => ha k i h1 h2 (by omega) (by omega)) w2, fun e' he' => ?_⟩
    rw [b3] at he'
    injection he' with he'
    subst he'
    obtain ⟨w4, w5⟩ := w3 e1 b3
    refine ⟨fun c5 => ⟨(w4 c5).1, ?_⟩, w5⟩
    rcases b4 with ⟨g1, g2, e2, g3, rfl⟩ | ⟨g1, rfl⟩
    · have t2 : e1 + 2 < n := tz_lt hz (by omega)
      have := sl_ok hz f (d + 1) _ _ (by omega) g3
      exact wt_kp hz f (d + 1) _ e2 (by omega) g3 (fun k i h1 h2 h3 h4 => ha k i h1 h2 (by omega) (by omega)) (w4 c5).2
    · exact absurd c5 g1
end LX
