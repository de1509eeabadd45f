/-! PURE: steps without a list: numbers, letters, filters -/
/-- how an attempt at a step answers on both sides -/
def LF (n : Nat → Nat) (T : Nat → Nat → Nat) (tb : ze_H) (G R a r p q e l : Nat) (x m : ze_H) (tx tm : Option (Int32 × ze_H)) : Prop :=
  ∃ t oc x1 m1, tx = some (nI t, x1) ∧ tm = some (nI t, m1) ∧ t ≤ 7 ∧ (oc ≤ 7 ∧ ¬ oc = 1) ∧ RS n T tb G R a x1 (cup oc m1) ∧
    (∀ k i, (58 ≤ k ∧ k ≤ 73 ∧ k ≠ 58 + e) → x1 k i = x k i) ∧ (∀ k i, (111 ≤ k ∧ k ≤ 118 ∨ 108 ≤ k ∧ k ≤ 110 ∧ i ≠ l ∨ k = 75 ∧ (i = 35 ∨ i = 40 ∨ i = 44 ∨ i = 53)) → m1 k i = m k i) ∧
    (t = 0 → m1 75 56 = nI oc ∧ (oc = 0 → EX e l x1 m1 ∧ m1 75 54 = nI q)) ∧ (¬ t = 0 → oc = 0 ∧ EX e l x1 m1 ∧ m1 75 54 = nI p) ∧ (¬ oc = 0 → x1 (58 + e) 3 = nI oc)
/-- in front of a step -/
def AT (n : Nat → Nat) (T : Nat → Nat → Nat) (tb : ze_H) (r p e l : Nat) (x m : ze_H) : Prop := r < 4 ∧ e < 16 ∧ l < 16 ∧ tz (n r) (T r) ∧ p < n r ∧ (∀ p, p ≤ 40 → tb 10 (41 * r + p) = nI (T r p)) ∧ EX e l x m ∧ m 75 53 = nI r ∧ m 75 54 = nI p ∧ m 75 56 = 0
section LF
variable {n : Nat → Nat} {T : Nat → Nat → Nat} {tb x m : ze_H} {G R a r p q e l : Nat}
/-- only the body (0) or the key (1) changes -/
theorem lf_set (h : RS n T tb G R a x m) (A : AT n T tb r p e l x m) {f : Nat} (hf : f ≤ 1) {y : Int32} {m1 : ze_H} {tx tm : Option (Int32 × ze_H)} (etx : tx = some (0, ze_u x (58 + e) f y)) (etm : tm = some (0, m1)) (hm1 : m1 (108 + f) l = y) (h54 : m1 75 54 = nI q)
    (hm : ∀ k i, ¬ (k = 108 + f ∧ i = l) → ¬ (k = 75 ∧ (i = 54 ∨ i = 55)) → m1 k i = m k i) : LF n T tb G R a r p q e l x m tx tm := by
  obtain ⟨hr, he, hl, hz, hp, h10, ⟨x0, x1, x2, x3, x4⟩, h53, _, h56⟩ := A
  refine ⟨0, 0, _, m1, etx, etm, by omega, by omega, RS_kp h (fun k i hk => zu_n _ _ _ _ (by omega)) (fun k i h1 h2 => hm k i (by omega) (by omega)), fun k i hk => zu_n _ _ _ _ (by omega), fun k i hk => hm k i (by omega) (by omega), fun _ => ⟨by rw [hm 75 56 (by omega) (by omega), h56]; rfl, fun _ => ⟨?_, h54⟩⟩, fun c => absurd rfl c, fun c => absurd rfl c⟩
  have hf2 : f = 0 ∨ f = 1 := by omega
  rcases hf2 with rfl | rfl
  · exact ⟨by rw [zu_s]; exact hm1.symm, by rw [zu_n _ _ _ _ (by omega), hm 109 l (by omega) (by omega)]; exact x1, by rw [zu_n _ _ _ _ (by omega), hm 110 l (by omega) (by omega)]; exact x2, by rw [zu_n _ _ _ _ (by omega)]; exact x3, by rw [hm 75 40 (by omega) (by omega)]; exact x4⟩
  · exact ⟨by rw [zu_n _ _ _ _ (by omega), hm 108 l (by omega) (by omega)]; exact x0, by rw [zu_s]; exact hm1.symm, by rw [zu_n _ _ _ _ (by omega), hm 110 l (by omega) (by omega)]; exact x2, by rw [zu_n _ _ _ _ (by omega)]; exact x3, by rw [hm 75 40 (by omega) (by omega)]; exact x4⟩
/-- nothing but the reference's place changes -/
theorem lf_go (h : RS n T tb G R a x m) (A : AT n T tb r p e l x m) {m1 : ze_H} {tx tm : Option (Int32 × ze_H)} (etx : tx = some (0, x)) (etm : tm = some (0, m1)) (h54 : m1 75 54 = nI q) (h56 : m1 75 56 = 0)
    (hm : ∀ k i, ¬ (k = 75 ∧ (i = 54 ∨ i = 55 ∨ i = 56)) → m1 k i = m k i) : LF n T tb G R a r p q e l x m tx tm := by
  obtain ⟨hr, he, hl, hz, hp, h10, ⟨x0, x1, x2, x3, x4⟩, h53, _, _⟩ := A
  refine ⟨0, 0, _, m1, etx, etm, by omega, by omega, RS_kp h (fun k i hk => rfl) (fun k i h1 h2 => hm k i (by omega)), fun k i hk => rfl, fun k i hk => hm k i (by omega), fun _ => ⟨h56, fun _ => ⟨?_, h54⟩⟩, fun c => absurd rfl c, fun c => absurd rfl c⟩
  exact ⟨by rw [hm 108 l (by omega)]; exact x0, by rw [hm 109 l (by omega)]; exact x1, by rw [hm 110 l (by omega)]; exact x2, x3, by rw [hm 75 40 (by omega)]; exact x4⟩
/-- the exchange ends, and nothing else -/
theorem lf_end (h : RS n T tb G R a x m) (A : AT n T tb r p e l x m) {oc : Nat} (ho : 1 < oc) (ho8 : oc < 8) {m1 : ze_H} {tx tm : Option (Int32 × ze_H)} (etx : tx = some (0, ze_u (ze_u x (58 + e) 3 (nI oc)) 74 oc (x 74 oc + 1))) (etm : tm = some (0, m1)) (h56 : m1 75 56 = nI oc)
    (hm : ∀ k i, ¬ (k = 75 ∧ (i = 54 ∨ i = 55 ∨ i = 56)) → m1 k i = m k i) : LF n T tb G R a r p q e l x m tx tm := by
  obtain ⟨hr, he, hl, hz, hp, h10, ⟨x0, x1, x2, x3, x4⟩, h53, _, _⟩ := A
  refine ⟨0, oc, _, m1, etx, etm, by omega, by omega, RS_end (RS_kp (x1 := x) (m1 := m1) h (fun k i hk => rfl) (fun k i h1 h2 => hm k i (by omega))) he (by omega) ho8, fun k i hk => by rw [zu_n _ _ _ _ (by omega), zu_n _ _ _ _ (by omega)], fun k i hk => hm k i (by omega), fun _ => ⟨h56, fun c => by omega⟩, fun c => absurd rfl c, fun _ => by rw [zu_n _ _ _ _ (by omega), zu_s]⟩
theorem xa_at (h : RS n T tb G R a x m) (A : AT n T tb r p e l x m) : x 10 (41 * r + p) = nI (T r p) := by
  obtain ⟨hr, he, hl, hz, hp, h10, -⟩ := A
  have := hz.1
  rw [h.1 10 _ (by omega) (by omega)]
  exact h10 p (by omega)
theorem lf_42 (h : RS n T tb G R a x m) (A : AT n T tb r p e l x m) (hc : T r p = 42) (hq : q = ne (T r) (p + 1)) (ht : tb 11 (41 * r + p) = nI (nv (T r) (p + 1))) (RC : Nat → Int32 → Int32 → ze_H → Option (Int32 × ze_H)) (b3 : Int32) : LF n T tb G R a r p q e l x m (f_E_attempt RC (58 + e) (nI (41 * r + p)) b3 x) (f_M_act (nI 42) m) := by
  have h10 := xa_at h A
  have A0 := A
  obtain ⟨hr, he, hl, hz, hp, -, ⟨x0, x1, x2, x3, x4⟩, h53, h54, h56⟩ := A0
  have h40 := hz.1
  rw [hc] at h10
  have ex : f_E_attempt RC (58 + e) (nI (41 * r + p)) b3 x = some (0, ze_u x (58 + e) 0 (x (58 + e) 0 * nI (nv (T r) (p + 1)))) := by
    unfold f_E_attempt
    rw [nI_clamp (by omega), zi_nI (by omega) (by omega), zlet, zi_nI (by omega) (by omega), h10, if_neg (show ¬ nI 42 = 33 by decide), if_neg (show ¬ nI 42 = 38 by decide), if_pos (show nI 42 = 42 by decide), zlev, h.1 11 _ (by omega) (by omega), ht]
  refine lf_set h A (f := 0) (by omega) ex (m1 := ze_u (ze_u (ze_u m 75 55 (nI (ne (T r) (p + 1)))) 108 l (m 108 l * nI (nv (T r) (p + 1)))) 75 54 (nI (ne (T r) (p + 1)))) ?_ ?_ ?_ (fun k i h1 h2 => ?_)
  · unfold f_M_act
    rw [if_neg (show ¬ nI 42 = 33 by decide), if_neg (show ¬ nI 42 = 38 by decide), if_pos (show nI 42 = 42 by decide), h54, nI_1, me_value hr hz h.2.1 h53 (by omega), zcall]
    unfold f_M_change
    have e40 : ze_u m 75 55 (nI (ne (T r) (p + 1))) 75 40 = nI l := by rw [zu_n _ _ _ _ (by omega)]; exact x4
    rw [e40, zi_nI (by omega) (by omega), zlet, nI_clamp (by omega), if_neg (show ¬ nI 42 = 43 by decide), if_neg (show ¬ nI 42 = 45 by decide), zi_nI (by omega) (by omega), zlev, zlev, zcall, zu_n _ _ _ _ (show ¬ (108 = 75 ∧ l = 55) by omega), zu_n _ _ _ _ (show ¬ (75 = 108 ∧ 55 = l) by omega), zu_s]
  · rw [zu_n _ _ _ _ (by omega), zu_s, x0]
  · rw [zu_s, hq]
  · rw [zu_n _ _ _ _ (by omega), zu_n _ _ _ _ (by omega), zu_n _ _ _ _ (by omega)]
theorem lf_43 (h : RS n T tb G R a x m) (A : AT n T tb r p e l x m) (hc : T r p = 43) (hq : q = ne (T r) (p + 1)) (ht : tb 11 (41 * r + p) = nI (nv (T r) (p + 1))) (RC : Nat → Int32 → Int32 → ze_H → Option (Int32 × ze_H)) (b3 : Int32) : LF n T tb G R a r p q e l x m (f_E_attempt RC (58 + e) (nI (41 * r + p)) b3 x) (f_M_act (nI 43) m) := by
  have h10 := xa_at h A
  have A0 := A
  obtain ⟨hr, he, hl, hz, hp, -, ⟨x0, x1, x2, x3, x4⟩, h53, h54, h56⟩ := A0
  have h40 := hz.1
  rw [hc] at h10
  have ex : f_E_attempt RC (58 + e) (nI (41 * r + p)) b3 x = some (0, ze_u x (58 + e) 0 (x (58 + e) 0 + nI (nv (T r) (p + 1)))) := by
    unfold f_E_attempt
    rw [nI_clamp (by omega), zi_nI (by omega) (by omega), zlet, zi_nI (by omega) (by omega), h10, if_neg (show ¬ nI 43 = 33 by decide), if_neg (show ¬ nI 43 = 38 by decide), if_neg (show ¬ nI 43 = 42 by decide), if_pos (show nI 43 = 43 by decide), zlev, h.1 11 _ (by omega) (by omega), ht]
  refine lf_set h A (f := 0) (by omega) ex (m1 := ze_u (ze_u (ze_u m 75 55 (nI (ne (T r) (p + 1)))) 108 l (m 108 l + nI (nv (T r) (p + 1)))) 75 54 (nI (ne (T r) (p + 1)))) ?_ ?_ ?_ (fun k i h1 h2 => ?_)
  · unfold f_M_act
    rw [if_neg (show ¬ nI 43 = 33 by decide), if_neg (show ¬ nI 43 = 38 by decide), if_neg (show ¬ nI 43 = 42 by decide), if_pos (show nI 43 = 43 by decide), h54, nI_1, me_value hr hz h.2.1 h53 (by omega), zcall]
    unfold f_M_change
    have e40 : ze_u m 75 55 (nI (ne (T r) (p + 1))) 75 40 = nI l := by rw [zu_n _ _ _ _ (by omega)]; exact x4
    rw [e40, zi_nI (by omega) (by omega), zlet, nI_clamp (by omega), if_pos (show nI 43 = 43 by decide), zi_nI (by omega) (by omega), zlev, zlev, zcall, zu_n _ _ _ _ (show ¬ (108 = 75 ∧ l = 55) by omega), zu_n _ _ _ _ (show ¬ (75 = 108 ∧ 55 = l) by omega), zu_s]
  · rw [zu_n _ _ _ _ (by omega), zu_s, x0]
  · rw [zu_s, hq]
  · rw [zu_n _ _ _ _ (by omega), zu_n _ _ _ _ (by omega), zu_n _ _ _ _ (by omega)]
theorem lf_45 (h : RS n T tb G R a x m) (A : AT n T tb r p e l x m) (hc : T r p = 45) (hq : q = ne (T r) (p + 1)) (ht : tb 11 (41 * r + p) = nI (nv (T r) (p + 1))) (RC : Nat → Int32 → Int32 → ze_H → Option (Int32 × ze_H)) (b3 : Int32) : LF n T tb G R a r p q e l x m (f_E_attempt RC (58 + e) (nI (41 * r + p)) b3 x) (f_M_act (nI 45) m) := by
  have h10 := xa_at h A
  have A0 := A
  obtain ⟨hr, he, hl, hz, hp, -, ⟨x0, x1, x2, x3, x4⟩, h53, h54, h56⟩ := A0
  have h40 := hz.1
  rw [hc] at h10
  have ex : f_E_attempt RC (58 + e) (nI (41 * r + p)) b3 x = some (0, ze_u x (58 + e) 0 (x (58 + e) 0 - nI (nv (T r) (p + 1)))) := by
    unfold f_E_attempt
    rw [nI_clamp (by omega), zi_nI (by omega) (by omega), zlet, zi_nI (by omega) (by omega), h10, if_neg (show ¬ nI 45 = 33 by decide), if_neg (show ¬ nI 45 = 38 by decide), if_neg (show ¬ nI 45 = 42 by decide), if_neg (show ¬ nI 45 = 43 by decide), if_pos (show nI 45 = 45 by decide), zlev, h.1 11 _ (by omega) (by omega), ht]
  refine lf_set h A (f := 0) (by omega) ex (m1 := ze_u (ze_u (ze_u m 75 55 (nI (ne (T r) (p + 1)))) 108 l (m 108 l - nI (nv (T r) (p + 1)))) 75 54 (nI (ne (T r) (p + 1)))) ?_ ?_ ?_ (fun k i h1 h2 => ?_)
  · unfold f_M_act
    rw [if_neg (show ¬ nI 45 = 33 by decide), if_neg (show ¬ nI 45 = 38 by decide), if_neg (show ¬ nI 45 = 42 by decide), if_neg (show ¬ nI 45 = 43 by decide), if_pos (show nI 45 = 45 by decide), h54, nI_1, me_value hr hz h.2.1 h53 (by omega), zcall]
    unfold f_M_change
    have e40 : ze_u m 75 55 (nI (ne (T r) (p + 1))) 75 40 = nI l := by rw [zu_n _ _ _ _ (by omega)]; exact x4
    rw [e40, zi_nI (by omega) (by omega), zlet, nI_clamp (by omega), if_neg (show ¬ nI 45 = 43 by decide), if_pos (show nI 45 = 45 by decide), zi_nI (by omega) (by omega), zlev, zlev, zcall, zu_n _ _ _ _ (show ¬ (108 = 75 ∧ l = 55) by omega), zu_n _ _ _ _ (show ¬ (75 = 108 ∧ 55 = l) by omega), zu_s]
  · rw [zu_n _ _ _ _ (by omega), zu_s, x0]
  · rw [zu_s, hq]
  · rw [zu_n _ _ _ _ (by omega), zu_n _ _ _ _ (by omega), zu_n _ _ _ _ (by omega)]
theorem lf_98 (h : RS n T tb G R a x m) (A : AT n T tb r p e l x m) (hc : T r p = 98) (hq : q = p + 1) (RC : Nat → Int32 → Int32 → ze_H → Option (Int32 × ze_H)) (b3 : Int32) : LF n T tb G R a r p q e l x m (f_E_attempt RC (58 + e) (nI (41 * r + p)) b3 x) (f_M_act (nI 98) m) := by
  have h10 := xa_at h A
  have A0 := A
  obtain ⟨hr, he, hl, hz, hp, -, ⟨x0, x1, x2, x3, x4⟩, h53, h54, h56⟩ := A0
  have h40 := hz.1
  rw [hc] at h10
  have ex : f_E_attempt RC (58 + e) (nI (41 * r + p)) b3 x = some (0, ze_u x (58 + e) 0 (x (58 + e) 1)) := by
    unfold f_E_attempt
    rw [nI_clamp (by omega), zi_nI (by omega) (by omega), zlet, zi_nI (by omega) (by omega), h10, if_neg (show ¬ nI 98 = 33 by decide), if_neg (show ¬ nI 98 = 38 by decide), if_neg (show ¬ nI 98 = 42 by decide), if_neg (show ¬ nI 98 = 43 by decide), if_neg (show ¬ nI 98 = 45 by decide), if_neg (show ¬ nI 98 = 62 by decide), if_neg (show ¬ nI 98 = 63 by decide), if_neg (show ¬ nI 98 = 97 by decide), if_pos (show nI 98 = 98 by decide), zlev]
  refine lf_set h A (f := 0) (by omega) ex (m1 := ze_u (ze_u m 108 l (m 109 l)) 75 54 (nI (p + 1))) ?_ ?_ ?_ (fun k i h1 h2 => ?_)
  · unfold f_M_act
    rw [if_neg (show ¬ nI 98 = 33 by decide), if_neg (show ¬ nI 98 = 38 by decide), if_neg (show ¬ nI 98 = 42 by decide), if_neg (show ¬ nI 98 = 43 by decide), if_neg (show ¬ nI 98 = 45 by decide), if_neg (show ¬ nI 98 = 62 by decide), if_neg (show ¬ nI 98 = 63 by decide), if_neg (show ¬ nI 98 = 97 by decide), if_pos (show nI 98 = 98 by decide), x4, zi_nI (by omega) (by omega), zi_nI (by omega) (by omega), nI_clamp (by omega), zlev, zlev, zu_n _ _ _ _ (by omega), h54, nI_1]
  · rw [zu_n _ _ _ _ (by omega), zu_s, x1]
  · rw [zu_s, hq]
  · rw [zu_n _ _ _ _ (by omega), zu_n _ _ _ _ (by omega)]
theorem lf_107 (h : RS n T tb G R a x m) (A : AT n T tb r p e l x m) (hc : T r p = 107) (hq : q = p + 1) (RC : Nat → Int32 → Int32 → ze_H → Option (Int32 × ze_H)) (b3 : Int32) : LF n T tb G R a r p q e l x m (f_E_attempt RC (58 + e) (nI (41 * r + p)) b3 x) (f_M_act (nI 107) m) := by
  have h10 := xa_at h A
  have A0 := A
  obtain ⟨hr, he, hl, hz, hp, -, ⟨x0, x1, x2, x3, x4⟩, h53, h54, h56⟩ := A0
  have h40 := hz.1
  rw [hc] at h10
  have ex : f_E_attempt RC (58 + e) (nI (41 * r + p)) b3 x = some (0, ze_u x (58 + e) 1 (x (58 + e) 0)) := by
    unfold f_E_attempt
    rw [nI_clamp (by omega), zi_nI (by omega) (by omega), zlet, zi_nI (by omega) (by omega), h10, if_neg (show ¬ nI 107 = 33 by decide), if_neg (show ¬ nI 107 = 38 by decide), if_neg (show ¬ nI 107 = 42 by decide), if_neg (show ¬ nI 107 = 43 by decide), if_neg (show ¬ nI 107 = 45 by decide), if_neg (show ¬ nI 107 = 62 by decide), if_neg (show ¬ nI 107 = 63 by decide), if_neg (show ¬ nI 107 = 97 by decide), if_neg (show ¬ nI 107 = 98 by decide), if_neg (show ¬ nI 107 = 102 by decide), if_neg (show ¬ nI 107 = 105 by decide), if_pos (show nI 107 = 107 by decide), zlev]
  refine lf_set h A (f := 1) (by omega) ex (m1 := ze_u (ze_u m 109 l (m 108 l)) 75 54 (nI (p + 1))) ?_ ?_ ?_ (fun k i h1 h2 => ?_)
  · unfold f_M_act
    rw [if_neg (show ¬ nI 107 = 33 by decide), if_neg (show ¬ nI 107 = 38 by decide), if_neg (show ¬ nI 107 = 42 by decide), if_neg (show ¬ nI 107 = 43 by decide), if_neg (show ¬ nI 107 = 45 by decide), if_neg (show ¬ nI 107 = 62 by decide), if_neg (show ¬ nI 107 = 63 by decide), if_neg (show ¬ nI 107 = 97 by decide), if_neg (show ¬ nI 107 = 98 by decide), if_neg (show ¬ nI 107 = 102 by decide), if_neg (show ¬ nI 107 = 105 by decide), if_pos (show nI 107 = 107 by decide), x4, zi_nI (by omega) (by omega), zi_nI (by omega) (by omega), nI_clamp (by omega), zlev, zlev, zu_n _ _ _ _ (by omega), h54, nI_1]
  · rw [zu_n _ _ _ _ (by omega), zu_s, x0]
  · rw [zu_s, hq]
  · rw [zu_n _ _ _ _ (by omega), zu_n _ _ _ _ (by omega)]
/-- a test: the same answer on both sides -/
theorem hold_eq (h : RS n T tb G R a x m) (A : AT n T tb r p e l x m) (hst : st (T r) (p + 1) = .inr (ne (T r) (p + 3))) (ht : tb 11 (41 * r + p) = nI (nv (T r) (p + 3))) : ∃ b, b ≤ 1 ∧ f_P_holds 9 (58 + e) (nI (41 * r + p)) x = some (nI b, x) ∧ f_M_holds (nI (p + 1)) m = some (nI b, ze_u m 75 55 (nI (ne (T r) (p + 3)))) := by
  have A0 := A
  obtain ⟨hr, he, hl, hz, hp, h10, ⟨x0, x1, x2, x3, x4⟩, h53, h54, h56⟩ := A0
  have h40 := hz.1
  obtain ⟨s1, s2, s3, s4, -⟩ := st_inr hst
  have hn := st_end hz hst
  have g1 : p + 1 < n r := tz_lt hz (by omega)
  have s2 : T r (p + 2) = 60 ∨ T r (p + 2) = 62 ∨ T r (p + 2) = 61 ∨ T r (p + 2) = 37 := s2
  have s4 : T r (p + 2) = 37 → 1 ≤ nv (T r) (p + 3) := s4
  have g2 : p + 2 < n r := tz_lt hz (by omega)
  have hv := nv_lt (T r) (p + 3)
  have hT1 := tz_le hz (p + 1)
  have hT2 := tz_le hz (p + 2)
  have at1 : f_P_at 9 (nI (41 * r + p + 1)) x = some (nI (T r (p + 1)), x) := by
    unfold f_P_at
    have : x 10 (41 * r + p + 1) = nI (T r (p + 1)) := by
      rw [h.1 10 _ (by omega) (by omega), Nat.add_assoc]
      exact h10 (p + 1) (by omega)
    simp (disch := omega) only [↓reduceIte, ↓m1_l,  eq_self, zleN, zlvN, zcaN, zi_N, nI_clamp, zu_s, zu_n, nI_add, pk_mul, pk_subO, nI_eqP, nI_ltP, nI_leP, nI_m1P, nI_m1Q, nI_m1R, nI_m1S, nI_m1U, nI_m1P', if_pos, if_neg, l_0, l_1, l_2, l_3, l_4, l_5, l_6, l_7, l_8, l_10, l_15, l_16, l_20, l_26, l_31, l_33, l_37, l_38, l_40, l_41, l_42, l_43, l_44, l_45, l_48, l_57, l_58, l_60, l_61, l_62, l_63, l_64, l_97, l_98, l_99, l_100, l_102, l_105, l_107, l_113, l_114, l_115, l_120, l_126, l_160, l_164, l_242, l_401, l_420, l_640, l_656, l_9999, l_100000, this]
    exact zrc (by omega) x
  have at2 : f_P_at 9 (nI (41 * r + p + 2)) x = some (nI (T r (p + 2)), x) := by
    unfold f_P_at
    have : x 10 (41 * r + p + 2) = nI (T r (p + 2)) := by
      rw [h.1 10 _ (by omega) (by omega), Nat.add_assoc]
      exact h10 (p + 2) (by omega)
    simp (disch := omega) only [↓reduceIte, ↓m1_l,  eq_self, zleN, zlvN, zcaN, zi_N, nI_clamp, zu_s, zu_n, nI_add, pk_mul, pk_subO, nI_eqP, nI_ltP, nI_leP, nI_m1P, nI_m1Q, nI_m1R, nI_m1S, nI_m1U, nI_m1P', if_pos, if_neg, l_0, l_1, l_2, l_3, l_4, l_5, l_6, l_7, l_8, l_10, l_15, l_16, l_20, l_26, l_31, l_33, l_37, l_38, l_40, l_41, l_42, l_43, l_44, l_45, l_48, l_57, l_58, l_60, l_61, l_62, l_63, l_64, l_97, l_98, l_99, l_100, l_102, l_105, l_107, l_113, l_114, l_115, l_120, l_126, l_160, l_164, l_242, l_401, l_420, l_640, l_656, l_9999, l_100000, this]
    exact zrc (by omega) x
  have hnum : x 11 (41 * r + p) = nI (nv (T r) (p + 3)) := by
    rw [h.1 11 _ (by omega) (by omega)]
    exact ht
  have core : ∀ y : Int32, ∃ b, b ≤ 1 ∧ f_P_holds_J23 9 (nI (41 * r + p)) y x = some (nI b, x) ∧ f_M_holds_J31 (nI (p + 1)) y m = some (nI b, ze_u m 75 55 (nI (ne (T r) (p + 3)))) := by
    intro y
    unfold f_P_holds_J23 f_M_holds_J31
    rw [zlet, zlet, zi_nI (by omega) (by omega), zlet, nI_clamp (by omega), hnum, show nI (41 * r + p) + 2 = nI (41 * r + p + 2) from nI_add _ 2, at2, zcall, nI_1, show nI (p + 1) + 2 = nI (p + 3) from nI_add (p + 1) 2, me_here hr hz h.2.1 h53 (by omega), zcall, zlet, me_value hr hz h.2.1 h53 (by omega), zcall, zlet]
    have one : nI 1 = 1 := rfl
    have zer : nI 0 = 0 := rfl
    by_cases d1 : T r (p + 2) = 60
    · rw [d1, if_pos (show nI 60 = 60 by decide), if_pos (show nI 60 = 60 by decide)]
      by_cases c : nI (nv (T r) (p + 3)) ≤ y
      · rw [if_pos c, if_pos c]
        exact ⟨0, by omega, rfl, rfl⟩
      · rw [if_neg c, if_neg c]
        exact ⟨1, by omega, rfl, rfl⟩
    by_cases d2 : T r (p + 2) = 61
    · rw [d2, if_neg (show ¬ nI 61 = 60 by decide), if_pos (show nI 61 = 61 by decide), if_neg (show ¬ nI 61 = 60 by decide), if_neg (show ¬ nI 61 = 62 by decide), if_pos (show nI 61 = 61 by decide)]
      by_cases c : y = nI (nv (T r) (p + 3))
      · rw [if_pos c, if_pos c]
        exact ⟨1, by omega, rfl, rfl⟩
      · rw [if_neg c, if_neg c]
        exact ⟨0, by omega, rfl, rfl⟩
    by_cases d3 : T r (p + 2) = 62
    · rw [d3, if_neg (show ¬ nI 62 = 60 by decide), if_neg (show ¬ nI 62 = 61 by decide), if_pos (show nI 62 = 62 by decide), if_neg (show ¬ nI 62 = 60 by decide), if_pos (show nI 62 = 62 by decide)]
      by_cases c : y ≤ nI (nv (T r) (p + 3))
      · rw [if_pos c, if_pos c]
        exact ⟨0, by omega, rfl, rfl⟩
      · rw [if_neg c, if_neg c]
        exact ⟨1, by omega, rfl, rfl⟩
    have d4 : T r (p + 2) = 37 := by omega
    have hv0 : ¬ nI (nv (T r) (p + 3)) = 0 := nI_ne0 (s4 d4) (by omega)
    rw [d4, if_neg (show ¬ nI 37 = 60 by decide), if_neg (show ¬ nI 37 = 61 by decide), if_neg (show ¬ nI 37 = 62 by decide), if_neg hv0, if_neg hv0, if_neg (show ¬ nI 37 = 60 by decide), if_neg (show ¬ nI 37 = 62 by decide), if_neg (show ¬ nI 37 = 61 by decide), if_neg hv0, if_neg hv0]
    by_cases c : y - y / nI (nv (T r) (p + 3)) * nI (nv (T r) (p + 3)) = 0
    · rw [if_pos c, if_pos c]
      exact ⟨1, by omega, rfl, rfl⟩
    · rw [if_neg c, if_neg c]
      exact ⟨0, by omega, rfl, rfl⟩
  unfold f_P_holds f_M_holds
  rw [nI_1, at1, zcall, me_here hr hz h.2.1 h53 (by omega), zcall, x4, zi_nI (by omega) (by omega), zi_nI (by omega) (by omega), nI_clamp (by omega), x0, x1]
  by_cases c : nI (T r (p + 1)) = 98
  · rw [if_pos c, if_pos c]
    exact core _
  · rw [if_neg c, if_neg c]
    exact core _
theorem lf_102 (h : RS n T tb G R a x m) (A : AT n T tb r p e l x m) (hc : T r p = 102) (hq : q = ne (T r) (p + 3)) (hst : st (T r) (p + 1) = .inr (ne (T r) (p + 3))) (ht : tb 11 (41 * r + p) = nI (nv (T r) (p + 3))) (RC : Nat → Int32 → Int32 → ze_H → Option (Int32 × ze_H)) (b3 : Int32) : LF n T tb G R a r p q e l x m (f_E_attempt RC (58 + e) (nI (41 * r + p)) b3 x) (f_M_act (nI 102) m) := by
  have h10 := xa_at h A
  obtain ⟨b, hb, e1, e2⟩ := hold_eq h A hst ht
  have A0 := A
  obtain ⟨hr, he, hl, hz, hp, -, ⟨x0, x1, x2, x3, x4⟩, h53, h54, h56⟩ := A0
  have h40 := hz.1
  rw [hc] at h10
  unfold f_E_attempt f_M_act
  rw [nI_clamp (by omega), zi_nI (by omega) (by omega), zlet, zi_nI (by omega) (by omega), h10, if_neg (show ¬ nI 102 = 33 by decide), if_neg (show ¬ nI 102 = 38 by decide), if_neg (show ¬ nI 102 = 42 by decide), if_neg (show ¬ nI 102 = 43 by decide), if_neg (show ¬ nI 102 = 45 by decide), if_neg (show ¬ nI 102 = 62 by decide), if_neg (show ¬ nI 102 = 63 by decide), if_neg (show ¬ nI 102 = 97 by decide), if_neg (show ¬ nI 102 = 98 by decide), if_pos (show nI 102 = 102 by decide), if_neg (show ¬ nI 102 = 33 by decide), if_neg (show ¬ nI 102 = 38 by decide), if_neg (show ¬ nI 102 = 42 by decide), if_neg (show ¬ nI 102 = 43 by decide), if_neg (show ¬ nI 102 = 45 by decide), if_neg (show ¬ nI 102 = 62 by decide), if_neg (show ¬ nI 102 = 63 by decide), if_neg (show ¬ nI 102 = 97 by decide), if_neg (show ¬ nI 102 = 98 by decide), if_pos (show nI 102 = 102 by decide), h54, nI_1, e2, zcall]
  unfold f_E_filter
  rw [e1, zcall]
  have hb2 : b = 0 ∨ b = 1 := by omega
  rcases hb2 with rfl | rfl
  · rw [if_pos (show nI 0 = 0 from rfl), if_pos (show nI 0 = 0 from rfl), show (2 : Int32) = nI 2 from rfl, px_end (by omega) x he, zcall, zcall, zlev, zlev]
    exact lf_end h A (oc := 2) (by omega) (by omega) rfl rfl (by rw [zu_n _ _ _ _ (by omega), zu_s]) (fun k i hk => by rw [zu_n _ _ _ _ (by omega), zu_n _ _ _ _ (by omega), zu_n _ _ _ _ (by omega)])
  · rw [if_neg (show ¬ nI 1 = 0 by decide), if_neg (show ¬ nI 1 = 0 by decide), zcall, zlev, zlev]
    exact lf_go h A rfl rfl (by rw [zu_s, zu_n _ _ _ _ (by omega), zu_s, hq]) (by rw [zu_n _ _ _ _ (by omega), zu_s]) (fun k i hk => by rw [zu_n _ _ _ _ (by omega), zu_n _ _ _ _ (by omega), zu_n _ _ _ _ (by omega)])
end LF
