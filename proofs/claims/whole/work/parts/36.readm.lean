/-! PURE: the reference's reader, over a text T -/
def mx (r n : Nat) (T : Nat → Nat) (m : ze_H) : Prop := m 77 r = nI n ∧ ∀ p, p < n → m 76 (40 * r + p) = nI (T p)
def mq (m : ze_H) (res : Sum Nat Nat) (t : Option (Int32 × ze_H)) : Prop := (∀ q, res = .inr q → t = some (nI q, m)) ∧ ∀ e, res = .inl e → ∃ y, t = some (y, ze_u m 75 6 (nI e))
theorem mx_kp {r n : Nat} {T : Nat → Nat} {m m1 : ze_H} (h : mx r n T m) (e1 : m1 76 = m 76) (e2 : m1 77 = m 77) : mx r n T m1 := by
  unfold mx
  rw [e1, e2]
  exact h
section RM
variable {r n : Nat} {T : Nat → Nat} {m : ze_H}
theorem md_look (hr : r < 4) (hz : tz n T) (ht : mx r n T m) {p : Nat} (hp : p < 1000) : f_M_look (nI r) (nI p) m = some (nI (T p), m) := by
  have h40 := hz.1
  have hT := tz_le hz p
  unfold f_M_look
  by_cases c : n ≤ p
  · have h0 := hz.2.2 p c
    simp (disch := omega) only [↓reduceIte, ↓m1_l,  eq_self, zleN, zlvN, zcaN, zi_N, nI_clamp, zu_s, zu_n, nI_add, pk_mul, pk_subO, nI_eqP, nI_ltP, nI_leP, nI_m1P, nI_m1Q, nI_m1R, nI_m1S, nI_m1U, nI_m1P', if_pos, if_neg, l_0, l_1, l_2, l_3, l_4, l_5, l_6, l_7, l_8, l_10, l_15, l_16, l_20, l_26, l_31, l_33, l_37, l_38, l_40, l_41, l_42, l_43, l_44, l_45, l_48, l_57, l_58, l_60, l_61, l_62, l_63, l_64, l_97, l_98, l_99, l_100, l_102, l_105, l_107, l_113, l_114, l_115, l_120, l_126, l_160, l_164, l_242, l_401, l_420, l_640, l_656, l_9999, l_100000, ht.1, h0]
    exact zrc (by omega) m
  · simp (disch := omega) only [↓reduceIte, ↓m1_l,  eq_self, zleN, zlvN, zcaN, zi_N, nI_clamp, zu_s, zu_n, nI_add, pk_mul, pk_subO, nI_eqP, nI_ltP, nI_leP, nI_m1P, nI_m1Q, nI_m1R, nI_m1S, nI_m1U, nI_m1P', if_pos, if_neg, l_0, l_1, l_2, l_3, l_4, l_5, l_6, l_7, l_8, l_10, l_15, l_16, l_20, l_26, l_31, l_33, l_37, l_38, l_40, l_41, l_42, l_43, l_44, l_45, l_48, l_57, l_58, l_60, l_61, l_62, l_63, l_64, l_97, l_98, l_99, l_100, l_102, l_105, l_107, l_113, l_114, l_115, l_120, l_126, l_160, l_164, l_242, l_401, l_420, l_640, l_656, l_9999, l_100000, ht.1, ht.2 p (by omega)]
    exact zrc (by omega) m
theorem md_digit {c : Nat} (hc : c ≤ 126) (m : ze_H) : f_M_digit (nI c) m = some (if 48 ≤ c ∧ c ≤ 57 then nI 1 else nI 0, m) := by
  unfold f_M_digit
  by_cases c1 : c < 48
  · simp (disch := omega) only [↓reduceIte, ↓m1_l,  eq_self, zleN, zlvN, zcaN, zi_N, nI_clamp, zu_s, zu_n, nI_add, pk_mul, pk_subO, nI_eqP, nI_ltP, nI_leP, nI_m1P, nI_m1Q, nI_m1R, nI_m1S, nI_m1U, nI_m1P', if_pos, if_neg, l_0, l_1, l_2, l_3, l_4, l_5, l_6, l_7, l_8, l_10, l_15, l_16, l_20, l_26, l_31, l_33, l_37, l_38, l_40, l_41, l_42, l_43, l_44, l_45, l_48, l_57, l_58, l_60, l_61, l_62, l_63, l_64, l_97, l_98, l_99, l_100, l_102, l_105, l_107, l_113, l_114, l_115, l_120, l_126, l_160, l_164, l_242, l_401, l_420, l_640, l_656, l_9999, l_100000]
  · by_cases c2 : 57 < c
    · simp (disch := omega) only [↓reduceIte, ↓m1_l,  eq_self, zleN, zlvN, zcaN, zi_N, nI_clamp, zu_s, zu_n, nI_add, pk_mul, pk_subO, nI_eqP, nI_ltP, nI_leP, nI_m1P, nI_m1Q, nI_m1R, nI_m1S, nI_m1U, nI_m1P', if_pos, if_neg, l_0, l_1, l_2, l_3, l_4, l_5, l_6, l_7, l_8, l_10, l_15, l_16, l_20, l_26, l_31, l_33, l_37, l_38, l_40, l_41, l_42, l_43, l_44, l_45, l_48, l_57, l_58, l_60, l_61, l_62, l_63, l_64, l_97, l_98, l_99, l_100, l_102, l_105, l_107, l_113, l_114, l_115, l_120, l_126, l_160, l_164, l_242, l_401, l_420, l_640, l_656, l_9999, l_100000]
    · simp (disch := omega) only [↓reduceIte, ↓m1_l,  eq_self, zleN, zlvN, zcaN, zi_N, nI_clamp, zu_s, zu_n, nI_add, pk_mul, pk_subO, nI_eqP, nI_ltP, nI_leP, nI_m1P, nI_m1Q, nI_m1R, nI_m1S, nI_m1U, nI_m1P', if_pos, if_neg, l_0, l_1, l_2, l_3, l_4, l_5, l_6, l_7, l_8, l_10, l_15, l_16, l_20, l_26, l_31, l_33, l_37, l_38, l_40, l_41, l_42, l_43, l_44, l_45, l_48, l_57, l_58, l_60, l_61, l_62, l_63, l_64, l_97, l_98, l_99, l_100, l_102, l_105, l_107, l_113, l_114, l_115, l_120, l_126, l_160, l_164, l_242, l_401, l_420, l_640, l_656, l_9999, l_100000]
theorem md_must1 (hr : r < 4) (hz : tz n T) (ht : mx r n T m) (e6 : m 75 6 = -1) {p : Nat} (hp : p < n) {b : Int32} (hb : ¬ b = 0) : f_M_must (nI r) (nI p) b m = some (1, m) := by
  have h40 := hz.1
  unfold f_M_must
  have hm : ¬ (0 : Int32) ≤ -1 := by decide
  rw [e6, if_neg hm, zi_nI (by omega) (by omega), nI_clamp (by omega), ht.1, if_neg (nI_ge hp (by omega)), if_neg hb, if_neg hm]
theorem md_must0 (hr : r < 4) (hz : tz n T) (ht : mx r n T m) (e6 : m 75 6 = -1) {p : Nat} (hp : p ≤ n) {b : Int32} (hb : b = 0 ∨ p = n) : f_M_must (nI r) (nI p) b m = some (0, ze_u m 75 6 (nI p)) := by
  have h40 := hz.1
  have hm : ¬ (0 : Int32) ≤ -1 := by decide
  have hJ : f_M_must_J21 (nI r) (nI p) m = some (0, ze_u m 75 6 (nI p)) := by
    unfold f_M_must_J21
    rw [zi_nI (by omega) (by omega), nI_clamp (by omega), ht.1, zi_nI (by omega) (by omega), zlev, zlev]
    by_cases c : n ≤ p
    · have : p = n := by omega
      subst this
      rw [if_pos (nI_le c (by omega)), zu_s, if_pos (nI_pos' (by omega))]
    · rw [if_neg (nI_ge (by omega) (by omega)), zu_s, if_pos (nI_pos' (by omega))]
  unfold f_M_must
  rw [e6, if_neg hm, zi_nI (by omega) (by omega), nI_clamp (by omega), ht.1, hJ]
  by_cases c : n ≤ p
  · rw [if_pos (nI_le c (by omega))]
  · rw [if_neg (nI_ge (by omega) (by omega)), if_pos (hb.resolve_right (by omega))]
theorem md_numL (hr : r < 4) (hz : tz n T) (b2 b3 b4 : Int32) (kk : Int32 → Int32 → ze_H → Option (Int32 × ze_H)) {p0 : Nat} (h0 : p0 ≤ n) (hb2 : b2 = nI p0) (ht : mx r n T m) : ∀ (i a p N : Nat), p ≤ n → p + i = p0 + 4 → i ≤ 4 → i < N → a < 10 ^ (4 - i) →
    f_M_number_L26 (nI r) b2 b3 b4 kk N (nI a) (nI p) m = kk (nI (nsc T i p a).1) (nI (nsc T i p a).2) m
  | 0, a, p, 0, hp, hi, hi4, hN, ha => by omega
  | 0, a, p, N + 1, hp, hi, hi4, hN, ha => by
    have h40 := hz.1
    unfold f_M_number_L26
    rw [hb2]
    simp (disch := omega) only [↓reduceIte, ↓m1_l,  eq_self, zleN, zlvN, zcaN, zi_N, nI_clamp, zu_s, zu_n, nI_add, pk_mul, pk_subO, nI_eqP, nI_ltP, nI_leP, nI_m1P, nI_m1Q, nI_m1R, nI_m1S, nI_m1U, nI_m1P', if_pos, if_neg, l_0, l_1, l_2, l_3, l_4, l_5, l_6, l_7, l_8, l_10, l_15, l_16, l_20, l_26, l_31, l_33, l_37, l_38, l_40, l_41, l_42, l_43, l_44, l_45, l_48, l_57, l_58, l_60, l_61, l_62, l_63, l_64, l_97, l_98, l_99, l_100, l_102, l_105, l_107, l_113, l_114, l_115, l_120, l_126, l_160, l_164, l_242, l_401, l_420, l_640, l_656, l_9999, l_100000]
    rfl
  | i + 1, a, p, 0, hp, hi, hi4, hN, ha => by omega
  | i + 1, a, p, N + 1, hp, hi, hi4, hN, ha => by
    have h40 := hz.1
    have hT := tz_le hz p
    have ha4 : a < 10 ^ 4 := Nat.lt_of_lt_of_le ha (Nat.pow_le_pow_right (by omega) (by omega))
    have hi3 : i ≤ 3 := by omega
    unfold f_M_number_L26
    rw [nsc_s, hb2, nI_clamp (show r < 2 ^ 31 by omega), ht.1]
    by_cases c0 : n ≤ p
    · have h00 := hz.2.2 p c0
      simp (disch := omega) only [↓reduceIte, ↓m1_l,  eq_self, zleN, zlvN, zcaN, zi_N, nI_clamp, zu_s, zu_n, nI_add, pk_mul, pk_subO, nI_eqP, nI_ltP, nI_leP, nI_m1P, nI_m1Q, nI_m1R, nI_m1S, nI_m1U, nI_m1P', if_pos, if_neg, l_0, l_1, l_2, l_3, l_4, l_5, l_6, l_7, l_8, l_10, l_15, l_16, l_20, l_26, l_31, l_33, l_37, l_38, l_40, l_41, l_42, l_43, l_44, l_45, l_48, l_57, l_58, l_60, l_61, l_62, l_63, l_64, l_97, l_98, l_99, l_100, l_102, l_105, l_107, l_113, l_114, l_115, l_120, l_126, l_160, l_164, l_242, l_401, l_420, l_640, l_656, l_9999, l_100000]
    · by_cases c1 : 48 ≤ T p ∧ T p ≤ 57
      · simp (disch := omega) only [↓reduceIte, ↓m1_l,  eq_self, zleN, zlvN, zcaN, zi_N, nI_clamp, zu_s, zu_n, nI_add, pk_mul, pk_subO, nI_eqP, nI_ltP, nI_leP, nI_m1P, nI_m1Q, nI_m1R, nI_m1S, nI_m1U, nI_m1P', if_pos, if_neg, l_0, l_1, l_2, l_3, l_4, l_5, l_6, l_7, l_8, l_10, l_15, l_16, l_20, l_26, l_31, l_33, l_37, l_38, l_40, l_41, l_42, l_43, l_44, l_45, l_48, l_57, l_58, l_60, l_61, l_62, l_63, l_64, l_97, l_98, l_99, l_100, l_102, l_105, l_107, l_113, l_114, l_115, l_120, l_126, l_160, l_164, l_242, l_401, l_420, l_640, l_656, l_9999, l_100000, md_look hr hz ht (show p < 1000 by omega), md_digit hT]
        rw [show a * 10 + T p - 48 = a * 10 + (T p - 48) by omega]
        rw [← hb2]
        exact md_numL hr hz b2 b3 b4 kk h0 hb2 ht i (a * 10 + (T p - 48)) (p + 1) N (by omega) (by omega) (by omega) (by omega) (by rw [show 4 - i = (4 - (i + 1)) + 1 by omega, Nat.pow_succ]; omega)
      · simp (disch := omega) only [↓reduceIte, ↓m1_l,  eq_self, zleN, zlvN, zcaN, zi_N, nI_clamp, zu_s, zu_n, nI_add, pk_mul, pk_subO, nI_eqP, nI_ltP, nI_leP, nI_m1P, nI_m1Q, nI_m1R, nI_m1S, nI_m1U, nI_m1P', if_pos, if_neg, l_0, l_1, l_2, l_3, l_4, l_5, l_6, l_7, l_8, l_10, l_15, l_16, l_20, l_26, l_31, l_33, l_37, l_38, l_40, l_41, l_42, l_43, l_44, l_45, l_48, l_57, l_58, l_60, l_61, l_62, l_63, l_64, l_97, l_98, l_99, l_100, l_102, l_105, l_107, l_113, l_114, l_115, l_120, l_126, l_160, l_164, l_242, l_401, l_420, l_640, l_656, l_9999, l_100000, md_look hr hz ht (show p < 1000 by omega), md_digit hT]
theorem md_num (hr : r < 4) (hz : tz n T) {lo hi p : Nat} (hlo : lo < 10000) (hhi : hi < 10000) (hp : p ≤ n) (ht : mx r n T m) (e6 : m 75 6 = -1) : mq m (sn T lo hi p) (f_M_number (nI r) (nI p) (nI lo) (nI hi) m) := by
  have h40 := hz.1
  have hT := tz_le hz p
  have hv := nv_lt T p
  have hne := ne_le hz hp
  unfold f_M_number
  rw [md_look hr hz ht (by omega), zcall, md_digit hT, zcall]
  unfold sn
  by_cases c1 : 48 ≤ T p ∧ T p ≤ 57
  · have hpn : p < n := tz_lt hz (by omega)
    have one : ¬ (1 : Int32) = 0 := by decide
    rw [if_pos c1, md_must1 hr hz ht e6 hpn (show ¬ nI 1 = 0 by decide), zcall, if_neg one, zlet, zlet, show (0 : Int32) = nI 0 from rfl, md_numL hr hz (nI p) (nI lo) (nI hi) _ (p0 := p) hp rfl ht 4 0 p 200000 hp (by omega) (by omega) (by omega) (by omega)]
    show mq m _ (f_M_number_J82 (nI p) (nI lo) (nI hi) (nI (nv T p)) (nI (ne T p)) m)
    unfold f_M_number_J82
    by_cases c2 : nv T p < lo
    · simp (disch := omega) only [↓reduceIte, ↓m1_l,  eq_self, zleN, zlvN, zcaN, zi_N, nI_clamp, zu_s, zu_n, nI_add, pk_mul, pk_subO, nI_eqP, nI_ltP, nI_leP, nI_m1P, nI_m1Q, nI_m1R, nI_m1S, nI_m1U, nI_m1P', if_pos, if_neg, l_0, l_1, l_2, l_3, l_4, l_5, l_6, l_7, l_8, l_10, l_15, l_16, l_20, l_26, l_31, l_33, l_37, l_38, l_40, l_41, l_42, l_43, l_44, l_45, l_48, l_57, l_58, l_60, l_61, l_62, l_63, l_64, l_97, l_98, l_99, l_100, l_102, l_105, l_107, l_113, l_114, l_115, l_120, l_126, l_160, l_164, l_242, l_401, l_420, l_640, l_656, l_9999, l_100000]
      exact ⟨fun q hq => (by cases hq), fun e he => ⟨_, by injection he with he; rw [he]⟩⟩
    · by_cases c3 : nv T p ≤ hi
      · simp (disch := omega) only [↓reduceIte, ↓m1_l,  eq_self, zleN, zlvN, zcaN, zi_N, nI_clamp, zu_s, zu_n, nI_add, pk_mul, pk_subO, nI_eqP, nI_ltP, nI_leP, nI_m1P, nI_m1Q, nI_m1R, nI_m1S, nI_m1U, nI_m1P', if_pos, if_neg, l_0, l_1, l_2, l_3, l_4, l_5, l_6, l_7, l_8, l_10, l_15, l_16, l_20, l_26, l_31, l_33, l_37, l_38, l_40, l_41, l_42, l_43, l_44, l_45, l_48, l_57, l_58, l_60, l_61, l_62, l_63, l_64, l_97, l_98, l_99, l_100, l_102, l_105, l_107, l_113, l_114, l_115, l_120, l_126, l_160, l_164, l_242, l_401, l_420, l_640, l_656, l_9999, l_100000]
        exact ⟨fun q hq => (by injection hq with hq; rw [hq]), fun e he => (by cases he)⟩
      · simp (disch := omega) only [↓reduceIte, ↓m1_l,  eq_self, zleN, zlvN, zcaN, zi_N, nI_clamp, zu_s, zu_n, nI_add, pk_mul, pk_subO, nI_eqP, nI_ltP, nI_leP, nI_m1P, nI_m1Q, nI_m1R, nI_m1S, nI_m1U, nI_m1P', if_pos, if_neg, l_0, l_1, l_2, l_3, l_4, l_5, l_6, l_7, l_8, l_10, l_15, l_16, l_20, l_26, l_31, l_33, l_37, l_38, l_40, l_41, l_42, l_43, l_44, l_45, l_48, l_57, l_58, l_60, l_61, l_62, l_63, l_64, l_97, l_98, l_99, l_100, l_102, l_105, l_107, l_113, l_114, l_115, l_120, l_126, l_160, l_164, l_242, l_401, l_420, l_640, l_656, l_9999, l_100000]
        exact ⟨fun q hq => (by cases hq), fun e he => ⟨_, by injection he with he; rw [he]⟩⟩
  · rw [if_neg c1, md_must0 hr hz ht e6 hp (b := nI 0) (Or.inl rfl), zcall, if_pos (rfl : (0 : Int32) = 0), if_neg (fun c => c1 c.1)]
    exact ⟨fun q hq => (by cases hq), fun e he => ⟨_, by injection he with he; rw [he]⟩⟩
theorem mq_er {e : Nat} {y : Int32} : mq m (.inl e) (some (y, ze_u m 75 6 (nI e))) := ⟨fun q hq => (by cases hq), fun e he => ⟨y, by injection he with he; rw [he]⟩⟩
theorem mq_ok {q : Nat} : mq m (.inr q) (some (nI q, m)) := ⟨fun q hq => (by injection hq with hq; rw [hq]), fun e he => (by cases he)⟩
theorem mq_id {res : Sum Nat Nat} {t : Option (Int32 × ze_H)} (h : mq m res t) : mq m res (ze_call t (fun r v => some (r, v))) := by
  have e : ze_call t (fun r v => some (r, v)) = t := by cases t <;> rfl
  rw [e]
  exact h
theorem md_test (hr : r < 4) (hz : tz n T) {p : Nat} (hp : p ≤ n) (ht : mx r n T m) (e6 : m 75 6 = -1) : mq m (st T p) (f_M_test (nI r) (nI p) m) := by
  have h40 := hz.1
  have hT := tz_le hz p
  have hT1 := tz_le hz (p + 1)
  have e1 : nI p + 1 = nI (p + 1) := nI_1 p
  have e2 : nI p + 2 = nI (p + 2) := nI_add p 2
  unfold f_M_test st
  rw [md_look hr hz ht (by omega), zcall, zlet, e1, e2]
  have hn : ∀ lo : Nat, lo < 10000 → p + 2 ≤ n → mq m (sn T lo 9999 (p + 2)) (ze_call (f_M_number (nI r) (nI (p + 2)) (nI lo) 9999 m) (fun r v => some (r, v))) := fun lo h1 h2 => mq_id (md_num hr hz h1 (by omega) h2 ht e6)
  by_cases c1 : T p = 98 ∨ T p = 107
  · have hpn : p < n := tz_lt hz (by omega)
    rw [if_pos c1]
    have hin : ∀ F, F = ze_call (f_M_look (nI r) (nI (p + 1)) m) (fun r6 v7 => ze_let r6 (fun x8 => (if x8 = 60 then ze_call (f_M_must (nI r) (nI (p + 1)) 1 v7) (fun r9 v10 => (if r9 = 0 then some (nI p, v10) else (if x8 = 37 then ze_call (f_M_number (nI r) (nI (p + 2)) 1 9999 v10) (fun r11 v12 => some (r11, v12)) else ze_call (f_M_number (nI r) (nI (p + 2)) 0 9999 v10) (fun r13 v14 => some (r13, v14))))) else (if x8 = 62 then ze_call (f_M_must (nI r) (nI (p + 1)) 1 v7) (fun r15 v16 => (if r15 = 0 then some (nI p, v16) else (if x8 = 37 then ze_call (f_M_number (nI r) (nI (p + 2)) 1 9999 v16) (fun r17 v18 => some (r17, v18)) else ze_call (f_M_number (nI r) (nI (p + 2)) 0 9999 v16) (fun r19 v20 => some (r19, v20))))) else (if x8 = 61 then ze_call (f_M_must (nI r) (nI (p + 1)) 1 v7) (fun r21 v22 => (if r21 = 0 then some (nI p, v22) else (if x8 = 37 then ze_call (f_M_number (nI r) (nI (p + 2)) 1 9999 v22) (fun r23 v24 => some (r23, v24)) else ze_call (f_M_number (nI r) (nI (p + 2)) 0 9999 v22) (fun r25 v26 => some (r25, v26))))) else (if x8 = 37 then ze_call (f_M_must (nI r) (nI (p + 1)) 1 v7) (fun r27 v28 => (if r27 = 0 then some (nI p, v28) else (if x8 = 37 then ze_call (f_M_number (nI r) (nI (p + 2)) 1 9999 v28) (fun r29 v30 => some (r29, v30)) else ze_call (f_M_number (nI r) (nI (p + 2)) 0 9999 v28) (fun r31 v32 => some (r31, v32))))) else ze_call (f_M_must (nI r) (nI (p + 1)) 0 v7) (fun r33 v34 => (if r33 = 0 then some (nI p, v34) else (if x8 = 37 then ze_call (f_M_number (nI r) (nI (p + 2)) 1 9999 v34) (fun r35 v36 => some (r35, v36)) else ze_call (f_M_number (nI r) (nI (p + 2)) 0 9999 v34) (fun r37 v38 => some (r37, v38)))))))))) ) → ∀ res, res = (if T (p + 1) = 60 ∨ T (p + 1) = 62 ∨ T (p + 1) = 61 ∨ T (p + 1) = 37 then sn T (if T (p + 1) = 37 then 1 else 0) 9999 (p + 2) else .inl (p + 1)) → mq m res F := by
      intro F hF res hres
      rw [hF, md_look hr hz ht (by omega), zcall, zlet]
      by_cases d1 : T (p + 1) = 60
      · have hpn1 : p + 1 < n := tz_lt hz (by omega)
        rw [if_pos (by omega), if_neg (by omega)] at hres
        rw [hres, d1, if_pos (by decide), md_must1 hr hz ht e6 hpn1 (by decide), zcall, if_neg (by decide), if_neg (by decide)]
        exact hn 0 (by omega) (by omega)
      by_cases d2 : T (p + 1) = 62
      · have hpn1 : p + 1 < n := tz_lt hz (by omega)
        rw [if_pos (by omega), if_neg (by omega)] at hres
        rw [hres, d2, if_neg (by decide), if_pos (by decide), md_must1 hr hz ht e6 hpn1 (by decide), zcall, if_neg (by decide), if_neg (by decide)]
        exact hn 0 (by omega) (by omega)
      by_cases d3 : T (p + 1) = 61
      · have hpn1 : p + 1 < n := tz_lt hz (by omega)
        rw [if_pos (by omega), if_neg (by omega)] at hres
        rw [hres, d3, if_neg (by decide), if_neg (by decide), if_pos (by decide), md_must1 hr hz ht e6 hpn1 (by decide), zcall, if_neg (by decide), if_neg (by decide)]
        exact hn 0 (by omega) (by omega)
      by_cases d4 : T (p + 1) = 37
      · have hpn1 : p + 1 < n := tz_lt hz (by omega)
        rw [if_pos (by omega), if_pos d4] at hres
        rw [hres, d4, if_neg (by decide), if_neg (by decide), if_neg (by decide), if_pos (by decide), md_must1 hr hz ht e6 hpn1 (by decide), zcall, if_neg (by decide), if_pos (by decide)]
        exact hn 1 (by omega) (by omega)
      · rw [if_neg (by omega)] at hres
        rw [hres, if_neg (show ¬ nI (T (p + 1)) = 60 by rw [l_60, nI_eqP (by omega) (by omega)]; exact d1), if_neg (show ¬ nI (T (p + 1)) = 62 by rw [l_62, nI_eqP (by omega) (by omega)]; exact d2), if_neg (show ¬ nI (T (p + 1)) = 61 by rw [l_61, nI_eqP (by omega) (by omega)]; exact d3), if_neg (show ¬ nI (T (p + 1)) = 37 by rw [l_37, nI_eqP (by omega) (by omega)]; exact d4), md_must0 hr hz ht e6 (by omega) (Or.inl rfl), zcall, if_pos rfl]
        exact mq_er
    by_cases c2 : T p = 98
    · rw [c2, if_pos (show nI 98 = 98 by decide), md_must1 hr hz ht e6 hpn (by decide), zcall, if_neg (show ¬ (1 : Int32) = 0 by decide)]
      exact hin _ rfl _ rfl
    · have c3 : T p = 107 := by omega
      rw [c3, if_neg (show ¬ nI 107 = 98 by decide), if_pos (show nI 107 = 107 by decide), md_must1 hr hz ht e6 hpn (by decide), zcall, if_neg (show ¬ (1 : Int32) = 0 by decide)]
      exact hin _ rfl _ rfl
  · rw [if_neg c1, if_neg (show ¬ nI (T p) = 98 by rw [l_98, nI_eqP (by omega) (by omega)]; omega), if_neg (show ¬ nI (T p) = 107 by rw [l_107, nI_eqP (by omega) (by omega)]; omega), md_must0 hr hz ht e6 hp (Or.inl rfl), zcall, if_pos rfl]
    exact mq_er
end RM
