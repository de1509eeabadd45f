/-! PURE: the words that evaluate a tree -/
theorem l_0 : (0 : Int32) = nI 0 := Eq.trans (b := nI 0) rfl rfl
theorem l_1 : (1 : Int32) = nI 1 := Eq.trans (b := nI 1) rfl rfl
theorem l_2 : (2 : Int32) = nI 2 := Eq.trans (b := nI 2) rfl rfl
theorem l_3 : (3 : Int32) = nI 3 := Eq.trans (b := nI 3) rfl rfl
theorem l_4 : (4 : Int32) = nI 4 := Eq.trans (b := nI 4) rfl rfl
theorem l_5 : (5 : Int32) = nI 5 := Eq.trans (b := nI 5) rfl rfl
theorem l_6 : (6 : Int32) = nI 6 := Eq.trans (b := nI 6) rfl rfl
theorem l_7 : (7 : Int32) = nI 7 := Eq.trans (b := nI 7) rfl rfl
theorem l_8 : (8 : Int32) = nI 8 := Eq.trans (b := nI 8) rfl rfl
theorem l_10 : (10 : Int32) = nI 10 := Eq.trans (b := nI 10) rfl rfl
theorem l_15 : (15 : Int32) = nI 15 := Eq.trans (b := nI 15) rfl rfl
theorem l_16 : (16 : Int32) = nI 16 := Eq.trans (b := nI 16) rfl rfl
theorem l_20 : (20 : Int32) = nI 20 := Eq.trans (b := nI 20) rfl rfl
theorem l_26 : (26 : Int32) = nI 26 := Eq.trans (b := nI 26) rfl rfl
theorem l_31 : (31 : Int32) = nI 31 := Eq.trans (b := nI 31) rfl rfl
theorem l_33 : (33 : Int32) = nI 33 := Eq.trans (b := nI 33) rfl rfl
theorem l_37 : (37 : Int32) = nI 37 := Eq.trans (b := nI 37) rfl rfl
theorem l_38 : (38 : Int32) = nI 38 := Eq.trans (b := nI 38) rfl rfl
theorem l_40 : (40 : Int32) = nI 40 := Eq.trans (b := nI 40) rfl rfl
theorem l_41 : (41 : Int32) = nI 41 := Eq.trans (b := nI 41) rfl rfl
theorem l_42 : (42 : Int32) = nI 42 := Eq.trans (b := nI 42) rfl rfl
theorem l_43 : (43 : Int32) = nI 43 := Eq.trans (b := nI 43) rfl rfl
theorem l_44 : (44 : Int32) = nI 44 := Eq.trans (b := nI 44) rfl rfl
theorem l_45 : (45 : Int32) = nI 45 := Eq.trans (b := nI 45) rfl rfl
theorem l_48 : (48 : Int32) = nI 48 := Eq.trans (b := nI 48) rfl rfl
theorem l_57 : (57 : Int32) = nI 57 := Eq.trans (b := nI 57) rfl rfl
theorem l_58 : (58 : Int32) = nI 58 := Eq.trans (b := nI 58) rfl rfl
theorem l_60 : (60 : Int32) = nI 60 := Eq.trans (b := nI 60) rfl rfl
theorem l_61 : (61 : Int32) = nI 61 := Eq.trans (b := nI 61) rfl rfl
theorem l_62 : (62 : Int32) = nI 62 := Eq.trans (b := nI 62) rfl rfl
theorem l_63 : (63 : Int32) = nI 63 := Eq.trans (b := nI 63) rfl rfl
theorem l_64 : (64 : Int32) = nI 64 := Eq.trans (b := nI 64) rfl rfl
theorem l_97 : (97 : Int32) = nI 97 := Eq.trans (b := nI 97) rfl rfl
theorem l_98 : (98 : Int32) = nI 98 := Eq.trans (b := nI 98) rfl rfl
theorem l_99 : (99 : Int32) = nI 99 := Eq.trans (b := nI 99) rfl rfl
theorem l_100 : (100 : Int32) = nI 100 := Eq.trans (b := nI 100) rfl rfl
theorem l_102 : (102 : Int32) = nI 102 := Eq.trans (b := nI 102) rfl rfl
theorem l_105 : (105 : Int32) = nI 105 := Eq.trans (b := nI 105) rfl rfl
theorem l_107 : (107 : Int32) = nI 107 := Eq.trans (b := nI 107) rfl rfl
theorem l_113 : (113 : Int32) = nI 113 := Eq.trans (b := nI 113) rfl rfl
theorem l_114 : (114 : Int32) = nI 114 := Eq.trans (b := nI 114) rfl rfl
theorem l_115 : (115 : Int32) = nI 115 := Eq.trans (b := nI 115) rfl rfl
theorem l_120 : (120 : Int32) = nI 120 := Eq.trans (b := nI 120) rfl rfl
theorem l_126 : (126 : Int32) = nI 126 := Eq.trans (b := nI 126) rfl rfl
theorem l_160 : (160 : Int32) = nI 160 := Eq.trans (b := nI 160) rfl rfl
theorem l_164 : (164 : Int32) = nI 164 := Eq.trans (b := nI 164) rfl rfl
theorem l_242 : (242 : Int32) = nI 242 := Eq.trans (b := nI 242) rfl rfl
theorem l_401 : (401 : Int32) = nI 401 := Eq.trans (b := nI 401) rfl rfl
theorem l_420 : (420 : Int32) = nI 420 := Eq.trans (b := nI 420) rfl rfl
theorem l_640 : (640 : Int32) = nI 640 := Eq.trans (b := nI 640) rfl rfl
theorem l_656 : (656 : Int32) = nI 656 := Eq.trans (b := nI 656) rfl rfl
theorem l_9999 : (9999 : Int32) = nI 9999 := Eq.trans (b := nI 9999) rfl rfl
theorem l_100000 : (100000 : Int32) = nI 100000 := Eq.trans (b := nI 100000) rfl rfl
theorem nI_eqP {a b : Nat} (ha : a < 2147483648) (hb : b < 2147483648) : (nI a = nI b) = (a = b) := propext (nI_eq ha hb)
theorem nI_ltP {a b : Nat} (ha : a < 2147483648) (hb : b < 2147483648) : (nI a < nI b) = (a < b) := propext (nI_ltI ha hb)
theorem nI_leP {a b : Nat} (ha : a < 2147483648) (hb : b < 2147483648) : (nI a ≤ nI b) = (a ≤ b) := propext (nI_leI ha hb)
theorem pk_subO {a b : Nat} (h : b ≤ a) : nI a - nI b = nI (a - b) := pk_sub h
def mI : Int32 := -1
theorem m1_l : (-1 : Int32) = mI := Eq.trans (b := mI) rfl rfl
theorem zcaN (r : Int32) (v : ze_H) (t : Int32 → ze_H → Option (Int32 × ze_H)) : ze_call (some (r, v)) t = t r v := Eq.trans (b := t r v) rfl rfl
theorem zleN (x : Int32) (t : Int32 → Option (Int32 × ze_H)) : ze_let x t = t x := Eq.trans (b := t x) rfl rfl
theorem zlvN (x : ze_H) (t : ze_H → Option (Int32 × ze_H)) : ze_lev x t = t x := Eq.trans (b := t x) rfl rfl
theorem mI_t : mI.toInt = -1 := by decide
theorem nI_m1P {a : Nat} (ha : a < 2147483648) : (nI a = mI) = False := by
  apply eq_false
  intro h
  have := nI_toInt (n := a) ha
  rw [h, mI_t] at this
  omega
theorem nI_m1P' {a : Nat} (ha : a < 2147483648) : (mI = nI a) = False := by
  apply eq_false
  intro h
  have := nI_toInt (n := a) ha
  rw [← h, mI_t] at this
  omega
theorem nI_m1Q {a : Nat} (ha : a < 2147483648) : (nI a ≤ mI) = False := by
  apply eq_false
  intro h
  rw [i32le, nI_toInt ha, mI_t] at h
  omega
theorem nI_m1R {a : Nat} (ha : a < 2147483648) : (nI a < mI) = False := by
  apply eq_false
  intro h
  rw [i32lt, nI_toInt ha, mI_t] at h
  omega
theorem nI_m1S {a : Nat} (ha : a < 2147483648) : (mI < nI a) = True := by
  apply eq_true
  rw [i32lt, nI_toInt ha, mI_t]
  omega
theorem nI_m1U {a : Nat} (ha : a < 2147483648) : (mI ≤ nI a) = True := by
  apply eq_true
  rw [i32le, nI_toInt ha, mI_t]
  omega
theorem zu_n (v : ze_H) (k i : Nat) (x : Int32) {k' i' : Nat} (h : ¬ (k' = k ∧ i' = i)) : ze_u v k i x k' i' = v k' i' := by rw [zu_at, if_neg h]
theorem zi_N {j n : Nat} {t : Option (Int32 × ze_H)} (h : j < n) (hn : n < 2147483648) : ze_in (nI j) n t = t := zi_nI h hn t
theorem zrc {c : Nat} (h : c ≤ 65535) (v : ze_H) : ze_rc (nI c) v = some (nI c, v) := by
  unfold ze_rc
  rw [if_neg]
  rw [l_0, nI_ltP (by omega) (by omega), show (65535 : Int32) = nI 65535 from rfl, nI_ltP (by omega) (by omega)]
  omega
/-! the language, told once: a text T (0 behind its end), numbers, tests, lists -/
def dg (c : Nat) : Prop := 48 ≤ c ∧ c ≤ 57
theorem dg_iff (c : Nat) : dg c ↔ 48 ≤ c ∧ c ≤ 57 := Iff.rfl
/-- up to k digits from p on: value and end -/
def nsc (T : Nat → Nat) : Nat → Nat → Nat → Nat × Nat
  | 0, p, a => (a, p)
  | k + 1, p, a => if 48 ≤ T p ∧ T p ≤ 57 then nsc T k (p + 1) (a * 10 + (T p - 48)) else (a, p)
theorem nsc_s (T : Nat → Nat) (k p a : Nat) : nsc T (k + 1) p a = if 48 ≤ T p ∧ T p ≤ 57 then nsc T k (p + 1) (a * 10 + (T p - 48)) else (a, p) := rfl
def nv (T : Nat → Nat) (p : Nat) : Nat := (nsc T 4 p 0).1
def ne (T : Nat → Nat) (p : Nat) : Nat := (nsc T 4 p 0).2
/-- error at .. (inl) or goes on at .. (inr) -/
def sn (T : Nat → Nat) (lo hi p : Nat) : Sum Nat Nat := if (48 ≤ T p ∧ T p ≤ 57) ∧ lo ≤ nv T p ∧ nv T p ≤ hi then .inr (ne T p) else .inl p
def sb (s : Sum Nat Nat) (f : Nat → Sum Nat Nat) : Sum Nat Nat := match s with
  | .inl e => .inl e
  | .inr q => f q
def st (T : Nat → Nat) (p : Nat) : Sum Nat Nat :=
  if T p = 98 ∨ T p = 107 then (if T (p + 1) = 60 ∨ T (p + 1) = 62 ∨ T (p + 1) = 61 ∨ T (p + 1) = 37 then sn T (if T (p + 1) = 37 then 1 else 0) 9999 (p + 2) else .inl (p + 1)) else .inl p
def si (T : Nat → Nat) (L : Nat → Nat → Sum Nat Nat) (d q : Nat) : Sum Nat Nat := if d < 3 ∧ T q = 40 then sb (L (d + 1) (q + 1)) (fun e => .inr (e + 1)) else .inl q
def sp (T : Nat → Nat) (r : Nat) (L : Nat → Nat → Sum Nat Nat) (d p : Nat) : Sum Nat Nat :=
  if T p = 33 then sn T 0 3 (p + 1) else if T p = 38 then sn T 0 3 (p + 1) else if T p = 42 then sn T 0 9999 (p + 1) else if T p = 43 then sn T 0 9999 (p + 1) else if T p = 45 then sn T 0 9999 (p + 1)
  else if T p = 62 then sn T (r + 1) 3 (p + 1)
  else if T p = 63 then sb (st T (p + 1)) (fun q => sb (si T L d q) (fun q2 => if T q2 = 58 then si T L d (q2 + 1) else .inr q2))
  else if T p = 97 then (if 0 < d then .inl p else sb (sn T 2 4 (p + 1)) (fun q => if T q = 44 then sn T 1 99 (q + 1) else .inl q))
  else if T p = 98 then .inr (p + 1) else if T p = 102 then st T (p + 1) else if T p = 105 then .inr (p + 1) else if T p = 107 then .inr (p + 1)
  else if T p = 113 then (if 0 < d then .inl p else sn T 2 4 (p + 1))
  else if T p = 114 then .inr (p + 1)
  else if T p = 115 then sb (sn T 1 4 (p + 1)) (fun q => si T L d q)
  else .inl p
def sl (T : Nat → Nat) (r : Nat) : Nat → Nat → Nat → Sum Nat Nat
  | 0, _, p => .inl p
  | f + 1, d, p => if T p = 0 then (if 0 < d then .inl p else .inr p) else if T p = 41 ∧ 0 < d then .inr p else sb (sp T r (sl T r f) d p) (fun q => sl T r f d q)
/-- a text of n characters -/
def tz (n : Nat) (T : Nat → Nat) : Prop := n ≤ 40 ∧ (∀ p, p < n → 33 ≤ T p ∧ T p ≤ 126) ∧ ∀ p, n ≤ p → T p = 0
theorem tz_lt {n : Nat} {T : Nat → Nat} (h : tz n T) {p : Nat} (hp : T p ≠ 0) : p < n := by
  rcases Nat.lt_or_ge p n with q | q
  · exact q
  · exact absurd (h.2.2 p q) hp
theorem tz_le {n : Nat} {T : Nat → Nat} (h : tz n T) (p : Nat) : T p ≤ 126 := by
  rcases Nat.lt_or_ge p n with q | q
  · exact (h.2.1 p q).2
  · rw [h.2.2 p q]; omega
theorem nsc_le {n : Nat} {T : Nat → Nat} (h : tz n T) : ∀ k p a, p ≤ n → p ≤ (nsc T k p a).2 ∧ (nsc T k p a).2 ≤ n ∧ (nsc T k p a).2 ≤ p + k
  | 0, p, a, hp => ⟨Nat.le_refl _, hp, Nat.le_refl _⟩
  | k + 1, p, a, hp => by
    rw [nsc_s]
    by_cases c : 48 ≤ T p ∧ T p ≤ 57
    · rw [if_pos c]
      have := nsc_le h k (p + 1) (a * 10 + (T p - 48)) (tz_lt h (by omega))
      omega
    · rw [if_neg c]
      exact ⟨Nat.le_refl _, hp, by omega⟩
theorem nsc_val (T : Nat → Nat) : ∀ k p a, (nsc T k p a).1 < (a + 1) * 10 ^ k
  | 0, p, a => by show a < _; omega
  | k + 1, p, a => by
    rw [nsc_s]
    by_cases c : 48 ≤ T p ∧ T p ≤ 57
    · rw [if_pos c]
      have := nsc_val T k (p + 1) (a * 10 + (T p - 48))
      have h2 : (a * 10 + (T p - 48) + 1) * 10 ^ k ≤ ((a + 1) * 10) * 10 ^ k := Nat.mul_le_mul_right _ (by omega)
      rw [Nat.pow_succ, Nat.mul_comm (10 ^ k) 10, ← Nat.mul_assoc]
      omega
    · rw [if_neg c]
      show a < _
      have : 1 ≤ 10 ^ (k + 1) := Nat.one_le_pow _ _ (by omega)
      have h2 : (a + 1) * 1 ≤ (a + 1) * 10 ^ (k + 1) := Nat.mul_le_mul_left _ this
      omega
theorem nv_lt (T : Nat → Nat) (p : Nat) : nv T p < 10000 := by
  have := nsc_val T 4 p 0
  unfold nv
  omega
theorem ne_le {n : Nat} {T : Nat → Nat} (h : tz n T) {p : Nat} (hp : p ≤ n) : p ≤ ne T p ∧ ne T p ≤ n := by
  have := nsc_le h 4 p 0 hp
  unfold ne
  omega
theorem ne_lt {n : Nat} {T : Nat → Nat} (h : tz n T) {p : Nat} (hp : 48 ≤ T p ∧ T p ≤ 57) : p < ne T p ∧ ne T p ≤ n := by
  have hn : p < n := tz_lt h (by omega)
  unfold ne
  rw [nsc_s, if_pos hp]
  have := nsc_le h 3 (p + 1) (0 * 10 + (T p - 48)) (by omega)
  omega
