/-! PURE: the class's reader: inner lists, steps, lists -/
theorem RP_trans {r s lo q1 : Nat} {x x1 x2 : ze_H} {res : Sum Nat Nat} (h : RP r s x x1 (.inr q1)) (h2 : RP r lo x1 x2 res) (hs : s ≤ lo) (hq : ∀ q, res = .inr q → q1 ≤ q) : RP r s x x2 res := by
  obtain ⟨a1, a2, -, a4⟩ := h
  obtain ⟨b1, b2, b3, b4⟩ := h2
  refine ⟨fun k h1 h2 => (b1 k h1 h2).trans (a1 k h1 h2), b2.trans a2, b3, fun q hq' => ⟨(b4 q hq').1, (b4 q hq').2.1, fun k i h1 h2 h3 => ?_⟩⟩
  have := hq q hq'
  rw [(b4 q hq').2.2 k i h1 h2 (by omega), (a4 q1 rfl).2.2 k i h1 h2 (by omega)]
theorem RP_tab {r s : Nat} {x x1 : ze_H} {res : Sum Nat Nat} (h : RP r s x x1 res) (hq : ∀ q, res = .inr q → s < q) {k0 : Nat} (h4 : 4 ≤ k0) (h8 : k0 ≤ 8) (y : Int32) : RP r s x (ze_u x1 k0 (41 * r + s) y) res := by
  obtain ⟨b1, b2, b3, b4⟩ := h
  refine ⟨fun k h1 h2 => ?_, ?_, fun e he => ?_, fun q hq' => ⟨?_, ?_, fun k i h1 h2 h3 => ?_⟩⟩
  · rw [zu_k _ _ _ _ (by omega), b1 k h1 h2]
  · simp (disch := omega) only [↓reduceIte, ↓m1_l,  eq_self, zleN, zlvN, zcaN, zi_N, nI_clamp, zu_s, zu_n, nI_add, pk_mul, pk_subO, nI_eqP, nI_ltP, nI_leP, nI_m1P, nI_m1Q, nI_m1R, nI_m1S, nI_m1U, nI_m1P', if_pos, if_neg, l_0, l_1, l_2, l_3, l_4, l_5, l_6, l_7, l_8, l_10, l_15, l_16, l_20, l_26, l_31, l_33, l_37, l_38, l_40, l_41, l_42, l_43, l_44, l_45, l_48, l_57, l_58, l_60, l_61, l_62, l_63, l_64, l_97, l_98, l_99, l_100, l_102, l_105, l_107, l_113, l_114, l_115, l_120, l_126, l_160, l_164, l_242, l_401, l_420, l_640, l_656, l_9999, l_100000, b2]
  · simp (disch := omega) only [↓reduceIte, ↓m1_l,  eq_self, zleN, zlvN, zcaN, zi_N, nI_clamp, zu_s, zu_n, nI_add, pk_mul, pk_subO, nI_eqP, nI_ltP, nI_leP, nI_m1P, nI_m1Q, nI_m1R, nI_m1S, nI_m1U, nI_m1P', if_pos, if_neg, l_0, l_1, l_2, l_3, l_4, l_5, l_6, l_7, l_8, l_10, l_15, l_16, l_20, l_26, l_31, l_33, l_37, l_38, l_40, l_41, l_42, l_43, l_44, l_45, l_48, l_57, l_58, l_60, l_61, l_62, l_63, l_64, l_97, l_98, l_99, l_100, l_102, l_105, l_107, l_113, l_114, l_115, l_120, l_126, l_160, l_164, l_242, l_401, l_420, l_640, l_656, l_9999, l_100000, b3 e he]
  · simp (disch := omega) only [↓reduceIte, ↓m1_l,  eq_self, zleN, zlvN, zcaN, zi_N, nI_clamp, zu_s, zu_n, nI_add, pk_mul, pk_subO, nI_eqP, nI_ltP, nI_leP, nI_m1P, nI_m1Q, nI_m1R, nI_m1S, nI_m1U, nI_m1P', if_pos, if_neg, l_0, l_1, l_2, l_3, l_4, l_5, l_6, l_7, l_8, l_10, l_15, l_16, l_20, l_26, l_31, l_33, l_37, l_38, l_40, l_41, l_42, l_43, l_44, l_45, l_48, l_57, l_58, l_60, l_61, l_62, l_63, l_64, l_97, l_98, l_99, l_100, l_102, l_105, l_107, l_113, l_114, l_115, l_120, l_126, l_160, l_164, l_242, l_401, l_420, l_640, l_656, l_9999, l_100000, (b4 q hq').1]
  · simp (disch := omega) only [↓reduceIte, ↓m1_l,  eq_self, zleN, zlvN, zcaN, zi_N, nI_clamp, zu_s, zu_n, nI_add, pk_mul, pk_subO, nI_eqP, nI_ltP, nI_leP, nI_m1P, nI_m1Q, nI_m1R, nI_m1S, nI_m1U, nI_m1P', if_pos, if_neg, l_0, l_1, l_2, l_3, l_4, l_5, l_6, l_7, l_8, l_10, l_15, l_16, l_20, l_26, l_31, l_33, l_37, l_38, l_40, l_41, l_42, l_43, l_44, l_45, l_48, l_57, l_58, l_60, l_61, l_62, l_63, l_64, l_97, l_98, l_99, l_100, l_102, l_105, l_107, l_113, l_114, l_115, l_120, l_126, l_160, l_164, l_242, l_401, l_420, l_640, l_656, l_9999, l_100000, (b4 q hq').2.1]
  · have := hq q hq'
    simp (disch := omega) only [↓reduceIte, ↓m1_l,  eq_self, zleN, zlvN, zcaN, zi_N, nI_clamp, zu_s, zu_n, nI_add, pk_mul, pk_subO, nI_eqP, nI_ltP, nI_leP, nI_m1P, nI_m1Q, nI_m1R, nI_m1S, nI_m1U, nI_m1P', if_pos, if_neg, l_0, l_1, l_2, l_3, l_4, l_5, l_6, l_7, l_8, l_10, l_15, l_16, l_20, l_26, l_31, l_33, l_37, l_38, l_40, l_41, l_42, l_43, l_44, l_45, l_48, l_57, l_58, l_60, l_61, l_62, l_63, l_64, l_97, l_98, l_99, l_100, l_102, l_105, l_107, l_113, l_114, l_115, l_120, l_126, l_160, l_164, l_242, l_401, l_420, l_640, l_656, l_9999, l_100000, (b4 q hq').2.2 k i h1 h2 h3]
theorem RP_spot {r s p : Nat} {x : ze_H} (e3 : x 16 3 = -1) : RP r s x (ze_u x 16 2 (nI (41 * r + p))) (.inr p) := by
  refine ⟨fun k h1 h2 => zu_k _ _ _ _ h2, by simp (disch := omega) only [↓reduceIte, ↓m1_l,  eq_self, zleN, zlvN, zcaN, zi_N, nI_clamp, zu_s, zu_n, nI_add, pk_mul, pk_subO, nI_eqP, nI_ltP, nI_leP, nI_m1P, nI_m1Q, nI_m1R, nI_m1S, nI_m1U, nI_m1P', if_pos, if_neg, l_0, l_1, l_2, l_3, l_4, l_5, l_6, l_7, l_8, l_10, l_15, l_16, l_20, l_26, l_31, l_33, l_37, l_38, l_40, l_41, l_42, l_43, l_44, l_45, l_48, l_57, l_58, l_60, l_61, l_62, l_63, l_64, l_97, l_98, l_99, l_100, l_102, l_105, l_107, l_113, l_114, l_115, l_120, l_126, l_160, l_164, l_242, l_401, l_420, l_640, l_656, l_9999, l_100000], fun e he => (by cases he), fun q hq => ?_⟩
  injection hq with hq
  subst hq
  exact ⟨by simp (disch := omega) only [↓reduceIte, ↓m1_l,  eq_self, zleN, zlvN, zcaN, zi_N, nI_clamp, zu_s, zu_n, nI_add, pk_mul, pk_subO, nI_eqP, nI_ltP, nI_leP, nI_m1P, nI_m1Q, nI_m1R, nI_m1S, nI_m1U, nI_m1P', if_pos, if_neg, l_0, l_1, l_2, l_3, l_4, l_5, l_6, l_7, l_8, l_10, l_15, l_16, l_20, l_26, l_31, l_33, l_37, l_38, l_40, l_41, l_42, l_43, l_44, l_45, l_48, l_57, l_58, l_60, l_61, l_62, l_63, l_64, l_97, l_98, l_99, l_100, l_102, l_105, l_107, l_113, l_114, l_115, l_120, l_126, l_160, l_164, l_242, l_401, l_420, l_640, l_656, l_9999, l_100000, e3], zu_s _ _ _ _, fun k i h1 h2 h3 => by simp (disch := omega) only [↓reduceIte, ↓m1_l,  eq_self, zleN, zlvN, zcaN, zi_N, nI_clamp, zu_s, zu_n, nI_add, pk_mul, pk_subO, nI_eqP, nI_ltP, nI_leP, nI_m1P, nI_m1Q, nI_m1R, nI_m1S, nI_m1U, nI_m1P', if_pos, if_neg, l_0, l_1, l_2, l_3, l_4, l_5, l_6, l_7, l_8, l_10, l_15, l_16, l_20, l_26, l_31, l_33, l_37, l_38, l_40, l_41, l_42, l_43, l_44, l_45, l_48, l_57, l_58, l_60, l_61, l_62, l_63, l_64, l_97, l_98, l_99, l_100, l_102, l_105, l_107, l_113, l_114, l_115, l_120, l_126, l_160, l_164, l_242, l_401, l_420, l_640, l_656, l_9999, l_100000]⟩
theorem RP_err {r s p : Nat} {x : ze_H} : RP r s x (ze_u x 16 3 (nI (41 * r + p))) (.inl p) := by
  refine ⟨fun k h1 h2 => zu_k _ _ _ _ h2, by simp (disch := omega) only [↓reduceIte, ↓m1_l,  eq_self, zleN, zlvN, zcaN, zi_N, nI_clamp, zu_s, zu_n, nI_add, pk_mul, pk_subO, nI_eqP, nI_ltP, nI_leP, nI_m1P, nI_m1Q, nI_m1R, nI_m1S, nI_m1U, nI_m1P', if_pos, if_neg, l_0, l_1, l_2, l_3, l_4, l_5, l_6, l_7, l_8, l_10, l_15, l_16, l_20, l_26, l_31, l_33, l_37, l_38, l_40, l_41, l_42, l_43, l_44, l_45, l_48, l_57, l_58, l_60, l_61, l_62, l_63, l_64, l_97, l_98, l_99, l_100, l_102, l_105, l_107, l_113, l_114, l_115, l_120, l_126, l_160, l_164, l_242, l_401, l_420, l_640, l_656, l_9999, l_100000], fun e he => ?_, fun q hq => (by cases hq)⟩
  injection he with he
  subst he
  exact zu_s _ _ _ _
theorem RP_ne {r s e : Nat} {x x1 : ze_H} (h : RP r s x x1 (.inl e)) (he : e ≤ 100) (hr : r < 4) : ¬ x1 16 3 = -1 := by
  rw [h.2.2.1 e rfl]
  simp (disch := omega) only [↓reduceIte, ↓m1_l,  eq_self, zleN, zlvN, zcaN, zi_N, nI_clamp, zu_s, zu_n, nI_add, pk_mul, pk_subO, nI_eqP, nI_ltP, nI_leP, nI_m1P, nI_m1Q, nI_m1R, nI_m1S, nI_m1U, nI_m1P', if_pos, if_neg, l_0, l_1, l_2, l_3, l_4, l_5, l_6, l_7, l_8, l_10, l_15, l_16, l_20, l_26, l_31, l_33, l_37, l_38, l_40, l_41, l_42, l_43, l_44, l_45, l_48, l_57, l_58, l_60, l_61, l_62, l_63, l_64, l_97, l_98, l_99, l_100, l_102, l_105, l_107, l_113, l_114, l_115, l_120, l_126, l_160, l_164, l_242, l_401, l_420, l_640, l_656, l_9999, l_100000]
  exact id
theorem xRD_er {D : Nat} {a : Int32} {x : ze_H} (e3 : ¬ x 16 3 = -1) : f_xRD (D + 1) a x = some (0, x) := by
  show f_R_readList (f_xRD D) a x = _
  unfold f_R_readList
  rw [zlet]
  obtain ⟨N, hN⟩ : ∃ N, 200000 = N + 1 := ⟨199999, rfl⟩
  rw [hN]
  unfold f_R_readList_L2
  rw [if_neg (by decide), if_neg e3]
theorem rd_inner_er {D : Nat} {a : Int32} {x : ze_H} (e3 : ¬ x 16 3 = -1) : ∃ y, f_R_readInner (f_xRD (D + 1)) a x = some (y, x) := by
  have h : ∃ y, f_R_readInner_J21 (f_xRD (D + 1)) a x = some (y, x) := by
    unfold f_R_readInner_J21
    rw [rd_one_er e3, zcall, zlet, xRD_er e3, zcall]
    exact ⟨_, rfl⟩
  unfold f_R_readInner
  rw [if_neg e3, ite_self]
  exact h
/-- a step's result leaves the tables of its inner lists -/
def slx (T : Nat → Nat) (r f d p : Nat) : Sum Nat Nat := sb (sl T r f d p) (fun e => .inr (if 0 < d then e + 1 else e))
def XL (T : Nat → Nat) (n r f : Nat) : Prop := ∀ (d p D : Nat) (x : ze_H), n < f + p → p ≤ n → d ≤ 3 → 4 ≤ d + D → tx r T x → x 16 1 = nI r → x 16 3 = -1 → x 16 2 = nI (41 * r + p) →
  ∃ x1, f_xRD (D + 1) (nI d) x = some (0, x1) ∧ RP r p x x1 (slx T r f d p) ∧ ∀ e, sl T r f d p = .inr e → wt T r x1 2 f d p
section RX
variable {r n f : Nat} {T : Nat → Nat} {x : ze_H}
theorem rd_inner (hr : r < 4) (hz : tz n T) (IH : XL T n r f) {d q s D : Nat} (hq : q ≤ n) (hsq : s < q) (hf : n < f + (q + 1)) (hd : d ≤ 3) (hD : 4 ≤ d + D) (ht : tx r T x) (e1 : x 16 1 = nI r) (e3 : x 16 3 = -1) (e2 : x 16 2 = nI (41 * r + q)) :
    ∃ y x1, f_R_readInner (f_xRD D) (nI d) x = some (y, x1) ∧ RP r (s + 1) x x1 (si T (sl T r f) d q) ∧ ∀ e, si T (sl T r f) d q = .inr e → y = nI (41 * r + (q + 1)) ∧ wt T r x1 2 f (d + 1) (q + 1) := by
  have h40 := hz.1
  obtain ⟨D, rfl⟩ : ∃ D', D = D' + 1 := ⟨D - 1, by omega⟩
  have bad : ∃ y, f_R_readInner_J21 (f_xRD (D + 1)) (nI d) (ze_u x 16 3 (nI (41 * r + q))) = some (y, ze_u x 16 3 (nI (41 * r + q))) := by
    have hne : ¬ ze_u x 16 3 (nI (41 * r + q)) 16 3 = -1 := by
      rw [zu_s]
      simp (disch := omega) only [↓reduceIte, ↓m1_l,  eq_self, zleN, zlvN, zcaN, zi_N, nI_clamp, zu_s, zu_n, nI_add, pk_mul, pk_subO, nI_eqP, nI_ltP, nI_leP, nI_m1P, nI_m1Q, nI_m1R, nI_m1S, nI_m1U, nI_m1P', if_pos, if_neg, l_0, l_1, l_2, l_3, l_4, l_5, l_6, l_7, l_8, l_10, l_15, l_16, l_20, l_26, l_31, l_33, l_37, l_38, l_40, l_41, l_42, l_43, l_44, l_45, l_48, l_57, l_58, l_60, l_61, l_62, l_63, l_64, l_97, l_98, l_99, l_100, l_102, l_105, l_107, l_113, l_114, l_115, l_120, l_126, l_160, l_164, l_242, l_401, l_420, l_640, l_656, l_9999, l_100000]
      exact id
    unfold f_R_readInner_J21
    rw [rd_one_er hne, zcall, zlet, xRD_er hne, zcall]
    exact ⟨_, rfl⟩
  unfold f_R_readInner si
  by_cases c1 : d < 3
  · rw [if_pos (show nI d < 3 by rw [l_3, nI_ltP (by omega) (by omega)]; exact c1)]
    unfold f_R_readInner_J21
    rcases rd_one hr hz (k0 := 2) (by omega) hq ht e3 e2 with ⟨h1, h2⟩ | ⟨h1, h2⟩
    · have c2 : T q = 40 := by unfold cset at h1; omega
      have hqn : q < n := tz_lt hz (by omega)
      rw [h2, zcall, zlet, zu_s, if_pos ⟨c1, c2⟩]
      obtain ⟨x1, k1, k2, k3⟩ := IH (d + 1) (q + 1) D (ze_u x 16 2 (nI (41 * r + (q + 1)))) (by omega) (by omega) (by omega) (by omega) (tx_kp ht (zu_k _ _ _ _ (by omega))) (by simp (disch := omega) only [↓reduceIte, ↓m1_l,  eq_self, zleN, zlvN, zcaN, zi_N, nI_clamp, zu_s, zu_n, nI_add, pk_mul, pk_subO, nI_eqP, nI_ltP, nI_leP, nI_m1P, nI_m1Q, nI_m1R, nI_m1S, nI_m1U, nI_m1P', if_pos, if_neg, l_0, l_1, l_2, l_3, l_4, l_5, l_6, l_7, l_8, l_10, l_15, l_16, l_20, l_26, l_31, l_33, l_37, l_38, l_40, l_41, l_42, l_43, l_44, l_45, l_48, l_57, l_58, l_60, l_61, l_62, l_63, l_64, l_97, l_98, l_99, l_100, l_102, l_105, l_107, l_113, l_114, l_115, l_120, l_126, l_160, l_164, l_242, l_401, l_420, l_640, l_656, l_9999, l_100000, e1]) (by simp (disch := omega) only [↓reduceIte, ↓m1_l,  eq_self, zleN, zlvN, zcaN, zi_N, nI_clamp, zu_s, zu_n, nI_add, pk_mul, pk_subO, nI_eqP, nI_ltP, nI_leP, nI_m1P, nI_m1Q, nI_m1R, nI_m1S, nI_m1U, nI_m1P', if_pos, if_neg, l_0, l_1, l_2, l_3, l_4, l_5, l_6, l_7, l_8, l_10, l_15, l_16, l_20, l_26, l_31, l_33, l_37, l_38, l_40, l_41, l_42, l_43, l_44, l_45, l_48, l_57, l_58, l_60, l_61, l_62, l_63, l_64, l_97, l_98, l_99, l_100, l_102, l_105, l_107, l_113, l_114, l_115, l_120, l_126, l_160, l_164, l_242, l_401, l_420, l_640, l_656, l_9999, l_100000, e3]) (zu_s _ _ _ _)
      rw [l_1, nI_add, k1, zcall]
      refine ⟨_, x1, rfl, ?_, fun e he => ⟨rfl, ?_⟩⟩
      · unfold slx at k2
        have hpos : 0 < d + 1 := by omega
        simp only [hpos, ↓reduceIte] at k2
        refine RP_trans (RP_spot (s := s + 1) (p := q + 1) e3) k2 (by omega) (fun e he => ?_)
        obtain ⟨a, ha, hb⟩ := sb_inr he
        have := sl_ok hz f (d + 1) (q + 1) a (by omega) ha
        injection hb with hb
        omega
      · obtain ⟨a, ha, hb⟩ := sb_inr he
        exact k3 a ha
    · have c2 : ¬ (d < 3 ∧ T q = 40) := by unfold cset at h1; omega
      rw [h2, zcall, if_neg c2]
      obtain ⟨y, hy⟩ := bad
      unfold f_R_readInner_J21 at hy
      have hne : ¬ ze_u x 16 3 (nI (41 * r + q)) 16 3 = -1 := by
        rw [zu_s]
        simp (disch := omega) only [↓reduceIte, ↓m1_l,  eq_self, zleN, zlvN, zcaN, zi_N, nI_clamp, zu_s, zu_n, nI_add, pk_mul, pk_subO, nI_eqP, nI_ltP, nI_leP, nI_m1P, nI_m1Q, nI_m1R, nI_m1S, nI_m1U, nI_m1P', if_pos, if_neg, l_0, l_1, l_2, l_3, l_4, l_5, l_6, l_7, l_8, l_10, l_15, l_16, l_20, l_26, l_31, l_33, l_37, l_38, l_40, l_41, l_42, l_43, l_44, l_45, l_48, l_57, l_58, l_60, l_61, l_62, l_63, l_64, l_97, l_98, l_99, l_100, l_102, l_105, l_107, l_113, l_114, l_115, l_120, l_126, l_160, l_164, l_242, l_401, l_420, l_640, l_656, l_9999, l_100000]
        exact id
      rw [rd_one_er hne, zcall] at hy
      exact ⟨y, _, hy, RP_err, fun e he => (by cases he)⟩
  · rw [if_neg (show ¬ nI d < 3 by rw [l_3, nI_ltP (by omega) (by omega)]; exact c1), if_pos e3, e2, zlev, if_neg (fun c => c1 c.1)]
    obtain ⟨y, hy⟩ := bad
    exact ⟨y, _, hy, RP_err, fun e he => (by cases he)⟩
end RX
section RX
variable {r n f : Nat} {T : Nat → Nat} {x : ze_H}
theorem rd_fin (hr : r < 4) {s : Nat} {x1 : ze_H} {res : Sum Nat Nat} (hs : s < 40) (h : RP r s x x1 res) (hq : ∀ q, res = .inr q → s < q) : ∃ x2, ze_in (nI (41 * r + s)) 164 (ze_lev (ze_u x1 8 (Int32.toNatClampNeg (nI (41 * r + s))) (x1 16 2)) (fun v6 => some (0, v6))) = some (0, x2) ∧ RP r s x x2 res ∧ (∀ q, res = .inr q → x2 8 (41 * r + s) = nI (41 * r + q)) ∧ ∀ k i, ¬ (k = 8 ∧ i = 41 * r + s) → x2 k i = x1 k i := by
  refine ⟨ze_u x1 8 (41 * r + s) (x1 16 2), ?_, RP_tab h hq (by omega) (by omega) _, fun q hq' => ?_, fun k i hk => zu_n _ _ _ _ hk⟩
  · rw [zi_nI (by omega) (by omega), nI_clamp (by omega), zlev]
  · rw [zu_s]
    exact (h.2.2.2 q hq').2.1
theorem rd_step (hr : r < 4) (hz : tz n T) (IH : XL T n r f) {d s D : Nat} (hs : s < n) (hf : n < f + (s + 1)) (hd : d ≤ 3) (hD : 4 ≤ d + D) (ht : tx r T x) (e1 : x 16 1 = nI r) (e3 : x 16 3 = -1) (e2 : x 16 2 = nI (41 * r + s)) :
    ∃ x1, f_R_readStep (f_xRD D) (nI (T s)) (nI d) x = some (0, x1) ∧ RP r s x x1 (sp T r (sl T r f) d s) ∧ ∀ q, sp T r (sl T r f) d s = .inr q → wst T r x1 2 (sl T r f) (wt T r x1 2 f) d s q := by
  have h40 := hz.1
  have hT := tz_le hz s
  have hend : ∀ q, sp T r (sl T r f) d s = .inr q → s < q := fun q hq => (sp_end hz hq).1
  have hv2 : RP r s x (ze_u x 16 2 (nI (41 * r + (s + 1)))) (.inr (s + 1)) := RP_spot e3
  have t2 : tx r T (ze_u x 16 2 (nI (41 * r + (s + 1)))) := tx_kp ht (zu_k _ _ _ _ (by omega))
  have g1 : ze_u x 16 2 (nI (41 * r + (s + 1))) 16 1 = nI r := by simp (disch := omega) only [↓reduceIte, ↓m1_l,  eq_self, zleN, zlvN, zcaN, zi_N, nI_clamp, zu_s, zu_n, nI_add, pk_mul, pk_subO, nI_eqP, nI_ltP, nI_leP, nI_m1P, nI_m1Q, nI_m1R, nI_m1S, nI_m1U, nI_m1P', if_pos, if_neg, l_0, l_1, l_2, l_3, l_4, l_5, l_6, l_7, l_8, l_10, l_15, l_16, l_20, l_26, l_31, l_33, l_37, l_38, l_40, l_41, l_42, l_43, l_44, l_45, l_48, l_57, l_58, l_60, l_61, l_62, l_63, l_64, l_97, l_98, l_99, l_100, l_102, l_105, l_107, l_113, l_114, l_115, l_120, l_126, l_160, l_164, l_242, l_401, l_420, l_640, l_656, l_9999, l_100000, e1]
  have g3 : ze_u x 16 2 (nI (41 * r + (s + 1))) 16 3 = -1 := by simp (disch := omega) only [↓reduceIte, ↓m1_l,  eq_self, zleN, zlvN, zcaN, zi_N, nI_clamp, zu_s, zu_n, nI_add, pk_mul, pk_subO, nI_eqP, nI_ltP, nI_leP, nI_m1P, nI_m1Q, nI_m1R, nI_m1S, nI_m1U, nI_m1P', if_pos, if_neg, l_0, l_1, l_2, l_3, l_4, l_5, l_6, l_7, l_8, l_10, l_15, l_16, l_20, l_26, l_31, l_33, l_37, l_38, l_40, l_41, l_42, l_43, l_44, l_45, l_48, l_57, l_58, l_60, l_61, l_62, l_63, l_64, l_97, l_98, l_99, l_100, l_102, l_105, l_107, l_113, l_114, l_115, l_120, l_126, l_160, l_164, l_242, l_401, l_420, l_640, l_656, l_9999, l_100000, e3]
  have g2 : ze_u x 16 2 (nI (41 * r + (s + 1))) 16 2 = nI (41 * r + (s + 1)) := zu_s _ _ _ _
  unfold f_R_readStep
  rw [e2, zlet, zlev, show nI (41 * r + s) + 1 = nI (41 * r + (s + 1)) by rw [l_1, nI_add, Nat.add_assoc]]
  generalize ze_u x 16 2 (nI (41 * r + (s + 1))) = v2 at hv2 t2 g1 g3 g2 ⊢
  by_cases c33 : T s = 33
  · have hsp : sp T r (sl T r f) d s = sn T 0 3 (s + 1) := by
      unfold sp
      rw [c33, if_pos rfl]
    rw [hsp] at hend ⊢
    obtain ⟨v5, k1, k2, k3, k4⟩ := rd_num hr hz (x := v2) (k1 := 4) (s := s) (p := s + 1) (lo := 0) (hi := 3) (by omega) (by omega) (by omega) (by omega) (by omega) t2 g3 g2
    obtain ⟨v6, m1, m2, m3, m4⟩ := rd_fin hr (by omega) (RP_trans hv2 k2 (Nat.le_refl _) (fun q hq => hend q hq)) hend
    refine ⟨v6, ?_, m2, fun q hq => ⟨m3 q hq, fun _ => ?_, fun c => (by omega), fun c => (by omega), fun c => (by omega), fun c => (by omega)⟩⟩
    · rw [c33, if_pos (by decide), (show f_R_readNumber 4 (nI (41 * r + s)) 0 3 v2 = some (0, v5) from k1), zcall]
      exact m1
    · rw [m4 4 _ (by omega)]
      exact k3
  by_cases c38 : T s = 38
  · have hsp : sp T r (sl T r f) d s = sn T 0 3 (s + 1) := by
      unfold sp
      rw [c38, if_neg (by decide), if_pos rfl]
    rw [hsp] at hend ⊢
    obtain ⟨v5, k1, k2, k3, k4⟩ := rd_num hr hz (x := v2) (k1 := 4) (s := s) (p := s + 1) (lo := 0) (hi := 3) (by omega) (by omega) (by omega) (by omega) (by omega) t2 g3 g2
    obtain ⟨v6, m1, m2, m3, m4⟩ := rd_fin hr (by omega) (RP_trans hv2 k2 (Nat.le_refl _) (fun q hq => hend q hq)) hend
    refine ⟨v6, ?_, m2, fun q hq => ⟨m3 q hq, fun _ => ?_, fun c => (by omega), fun c => (by omega), fun c => (by omega), fun c => (by omega)⟩⟩
    · rw [c38, if_neg (by decide), if_pos (by decide), (show f_R_readNumber 4 (nI (41 * r + s)) 0 3 v2 = some (0, v5) from k1), zcall]
      exact m1
    · rw [m4 4 _ (by omega)]
      exact k3
  by_cases c42 : T s = 42
  · have hsp : sp T r (sl T r f) d s = sn T 0 9999 (s + 1) := by
      unfold sp
      rw [c42, if_neg (by decide), if_neg (by decide), if_pos rfl]
    rw [hsp] at hend ⊢
    obtain ⟨v5, k1, k2, k3, k4⟩ := rd_num hr hz (x := v2) (k1 := 4) (s := s) (p := s + 1) (lo := 0) (hi := 9999) (by omega) (by omega) (by omega) (by omega) (by omega) t2 g3 g2
    obtain ⟨v6, m1, m2, m3, m4⟩ := rd_fin hr (by omega) (RP_trans hv2 k2 (Nat.le_refl _) (fun q hq => hend q hq)) hend
    refine ⟨v6, ?_, m2, fun q hq => ⟨m3 q hq, fun _ => ?_, fun c => (by omega), fun c => (by omega), fun c => (by omega), fun c => (by omega)⟩⟩
    · rw [c42, if_neg (by decide), if_neg (by decide), if_pos (by decide), (show f_R_readNumber 4 (nI (41 * r + s)) 0 9999 v2 = some (0, v5) from k1), zcall]
      exact m1
    · rw [m4 4 _ (by omega)]
      exact k3
  by_cases c43 : T s = 43
  · have hsp : sp T r (sl T r f) d s = sn T 0 9999 (s + 1) := by
      unfold sp
      rw [c43, if_neg (by decide), if_neg (by decide), if_neg (by decide), if_pos rfl]
    rw [hsp] at hend ⊢
    obtain ⟨v5, k1, k2, k3, k4⟩ := rd_num hr hz (x := v2) (k1 := 4) (s := s) (p := s + 1) (lo := 0) (hi := 9999) (by omega) (by omega) (by omega) (by omega) (by omega) t2 g3 g2
    obtain ⟨v6, m1, m2, m3, m4⟩ := rd_fin hr (by omega) (RP_trans hv2 k2 (Nat.le_refl _) (fun q hq => hend q hq)) hend
    refine ⟨v6, ?_, m2, fun q hq => ⟨m3 q hq, fun _ => ?_, fun c => (by omega), fun c => (by omega), fun c => (by omega), fun c => (by omega)⟩⟩
    · rw [c43, if_neg (by decide), if_neg (by decide), if_neg (by decide), if_pos (by decide), (show f_R_readNumber 4 (nI (41 * r + s)) 0 9999 v2 = some (0, v5) from k1), zcall]
      exact m1
    · rw [m4 4 _ (by omega)]
      exact k3
  by_cases c45 : T s = 45
  · have hsp : sp T r (sl T r f) d s = sn T 0 9999 (s + 1) := by
      unfold sp
      rw [c45, if_neg (by decide), if_neg (by decide), if_neg (by decide), if_neg (by decide), if_pos rfl]
    rw [hsp] at hend ⊢
    obtain ⟨v5, k1, k2, k3, k4⟩ := rd_num hr hz (x := v2) (k1 := 4) (s := s) (p := s + 1) (lo := 0) (hi := 9999) (by omega) (by omega) (by omega) (by omega) (by omega) t2 g3 g2
    obtain ⟨v6, m1, m2, m3, m4⟩ := rd_fin hr (by omega) (RP_trans hv2 k2 (Nat.le_refl _) (fun q hq => hend q hq)) hend
    refine ⟨v6, ?_, m2, fun q hq => ⟨m3 q hq, fun _ => ?_, fun c => (by omega), fun c => (by omega), fun c => (by omega), fun c => (by omega)⟩⟩
    · rw [c45, if_neg (by decide), if_neg (by decide), if_neg (by decide), if_neg (by decide), if_pos (by decide), (show f_R_readNumber 4 (nI (41 * r + s)) 0 9999 v2 = some (0, v5) from k1), zcall]
      exact m1
    · rw [m4 4 _ (by omega)]
      exact k3
  by_cases c62 : T s = 62
  · have hsp : sp T r (sl T r f) d s = sn T (r + 1) 3 (s + 1) := by
      unfold sp
      rw [c62, if_neg (by decide), if_neg (by decide), if_neg (by decide), if_neg (by decide), if_neg (by decide), if_pos rfl]
    rw [hsp] at hend ⊢
    obtain ⟨v5, k1, k2, k3, k4⟩ := rd_num hr hz (x := v2) (k1 := 4) (s := s) (p := s + 1) (lo := (r + 1)) (hi := 3) (by omega) (by omega) (by omega) (by omega) (by omega) t2 g3 g2
    obtain ⟨v6, m1, m2, m3, m4⟩ := rd_fin hr (by omega) (RP_trans hv2 k2 (Nat.le_refl _) (fun q hq => hend q hq)) hend
    refine ⟨v6, ?_, m2, fun q hq => ⟨m3 q hq, fun _ => ?_, fun c => (by omega), fun c => (by omega), fun c => (by omega), fun c => (by omega)⟩⟩
    · rw [c62, if_neg (by decide), if_neg (by decide), if_neg (by decide), if_neg (by decide), if_neg (by decide), if_pos (by decide), g1, show nI r + 1 = nI (r + 1) from nI_1 r, (show f_R_readNumber 4 (nI (41 * r + s)) (nI (r + 1)) 3 v2 = some (0, v5) from k1), zcall]
      exact m1
    · rw [m4 4 _ (by omega)]
      exact k3
  by_cases c98 : T s = 98
  · have hsp : sp T r (sl T r f) d s = .inr (s + 1) := by
      unfold sp
      rw [c98, if_neg (by decide), if_neg (by decide), if_neg (by decide), if_neg (by decide), if_neg (by decide), if_neg (by decide), if_neg (by decide), if_neg (by decide), if_pos rfl]
    rw [hsp] at hend ⊢
    obtain ⟨v6, m1, m2, m3, m4⟩ := rd_fin hr (by omega) hv2 hend
    refine ⟨v6, ?_, m2, fun q hq => ⟨m3 q hq, fun _ => (by omega), fun c => (by omega), fun c => (by omega), fun c => (by omega), fun c => (by omega)⟩⟩
    rw [c98, if_neg (by decide), if_neg (by decide), if_neg (by decide), if_neg (by decide), if_neg (by decide), if_neg (by decide), if_neg (by decide), if_neg (by decide), if_pos (by decide)]
    exact m1
  by_cases c105 : T s = 105
  · have hsp : sp T r (sl T r f) d s = .inr (s + 1) := by
      unfold sp
      rw [c105, if_neg (by decide), if_neg (by decide), if_neg (by decide), if_neg (by decide), if_neg (by decide), if_neg (by decide), if_neg (by decide), if_neg (by decide), if_neg (by decide), if_neg (by decide), if_pos rfl]
    rw [hsp] at hend ⊢
    obtain ⟨v6, m1, m2, m3, m4⟩ := rd_fin hr (by omega) hv2 hend
    refine ⟨v6, ?_, m2, fun q hq => ⟨m3 q hq, fun _ => (by omega), fun c => (by omega), fun c => (by omega), fun c => (by omega), fun c => (by omega)⟩⟩
    rw [c105, if_neg (by decide), if_neg (by decide), if_neg (by decide), if_neg (by decide), if_neg (by decide), if_neg (by decide), if_neg (by decide), if_neg (by decide), if_neg (by decide), if_neg (by decide), if_pos (by decide)]
    exact m1
  by_cases c107 : T s = 107
  · have hsp : sp T r (sl T r f) d s = .inr (s + 1) := by
      unfold sp
      rw [c107, if_neg (by decide), if_neg (by decide), if_neg (by decide), if_neg (by decide), if_neg (by decide), if_neg (by decide), if_neg (by decide), if_neg (by decide), if_neg (by decide), if_neg (by decide), if_neg (by decide), if_pos rfl]
    rw [hsp] at hend ⊢
    obtain ⟨v6, m1, m2, m3, m4⟩ := rd_fin hr (by omega) hv2 hend
    refine ⟨v6, ?_, m2, fun q hq => ⟨m3 q hq, fun _ => (by omega), fun c => (by omega), fun c => (by omega), fun c => (by omega), fun c => (by omega)⟩⟩
    rw [c107, if_neg (by decide), if_neg (by decide), if_neg (by decide), if_neg (by decide), if_neg (by decide), if_neg (by decide), if_neg (by decide), if_neg (by decide), if_neg (by decide), if_neg (by decide), if_neg (by decide), if_pos (by decide)]
    exact m1
  by_cases c114 : T s = 114
  · have hsp : sp T r (sl T r f) d s = .inr (s + 1) := by
      unfold sp
      rw [c114, if_neg (by decide), if_neg (by decide), if_neg (by decide), if_neg (by decide), if_neg (by decide), if_neg (by decide), if_neg (by decide), if_neg (by decide), if_neg (by decide), if_neg (by decide), if_neg (by decide), if_neg (by decide), if_neg (by decide), if_pos rfl]
    rw [hsp] at hend ⊢
    obtain ⟨v6, m1, m2, m3, m4⟩ := rd_fin hr (by omega) hv2 hend
    refine ⟨v6, ?_, m2, fun q hq => ⟨m3 q hq, fun _ => (by omega), fun c => (by omega), fun c => (by omega), fun c => (by omega), fun c => (by omega)⟩⟩
    rw [c114, if_neg (by decide), if_neg (by decide), if_neg (by decide), if_neg (by decide), if_neg (by decide), if_neg (by decide), if_neg (by decide), if_neg (by decide), if_neg (by decide), if_neg (by decide), if_neg (by decide), if_neg (by decide), if_neg (by decide), if_pos (by decide)]
    exact m1
  by_cases c102 : T s = 102
  · have hsp : sp T r (sl T r f) d s = st T (s + 1) := by
      unfold sp
      rw [c102, if_neg (by decide), if_neg (by decide), if_neg (by decide), if_neg (by decide), if_neg (by decide), if_neg (by decide), if_neg (by decide), if_neg (by decide), if_neg (by decide), if_pos rfl]
    rw [hsp] at hend ⊢
    obtain ⟨v5, k1, k2, k3, k4⟩ := rd_test hr hz (x := v2) hs t2 g3 g2
    obtain ⟨v6, m1, m2, m3, m4⟩ := rd_fin hr (by omega) (RP_trans hv2 k2 (Nat.le_refl _) (fun q hq => hend q hq)) hend
    refine ⟨v6, ?_, m2, fun q hq => ⟨m3 q hq, fun _ => (by omega), fun c => ?_, fun c => (by omega), fun c => (by omega), fun c => (by omega)⟩⟩
    · rw [c102, if_neg (by decide), if_neg (by decide), if_neg (by decide), if_neg (by decide), if_neg (by decide), if_neg (by decide), if_neg (by decide), if_neg (by decide), if_neg (by decide), if_pos (by decide), k1, zcall]
      exact m1
    · rw [m4 4 _ (by omega)]
      exact (k3 q hq).1
  have hd0 : (nI d ≤ 0) = (d ≤ 0) := by rw [l_0, nI_leP (by omega) (by omega)]
  by_cases c113 : T s = 113
  · have hsp : sp T r (sl T r f) d s = if 0 < d then .inl s else sn T 2 4 (s + 1) := by
      unfold sp
      rw [c113, if_neg (by decide), if_neg (by decide), if_neg (by decide), if_neg (by decide), if_neg (by decide), if_neg (by decide), if_neg (by decide), if_neg (by decide), if_neg (by decide), if_neg (by decide), if_neg (by decide), if_neg (by decide), if_pos rfl]
    rw [hsp] at hend ⊢
    rw [c113, if_neg (by decide), if_neg (by decide), if_neg (by decide), if_neg (by decide), if_neg (by decide), if_neg (by decide), if_neg (by decide), if_neg (by decide), if_neg (by decide), if_neg (by decide), if_neg (by decide), if_neg (by decide), if_pos (by decide)]
    unfold f_R_readOrdering f_R_refuseInner
    simp only [hd0]
    by_cases c0 : 0 < d
    · rw [if_pos c0] at hend ⊢
      rw [if_neg (by omega), zlev, zcall]
      have hb : RP r s v2 (ze_u v2 16 3 (nI (41 * r + s))) (.inl s) := RP_err
      rw [rd_num_er (RP_ne hb (by omega) hr), zcall, zcall]
      obtain ⟨v6, m1, m2, m3, m4⟩ := rd_fin hr (by omega) (RP_trans hv2 hb (Nat.le_refl _) (fun q hq => (by cases hq))) hend
      exact ⟨v6, m1, m2, fun q hq => (by cases hq)⟩
    · rw [if_neg c0] at hend ⊢
      rw [if_pos (by omega), zcall]
      obtain ⟨v5, k1, k2, k3, k4⟩ := rd_num hr hz (x := v2) (k1 := 4) (s := s) (p := s + 1) (lo := 2) (hi := 4) (by omega) (by omega) (by omega) (by omega) (by omega) t2 g3 g2
      obtain ⟨v6, m1, m2, m3, m4⟩ := rd_fin hr (by omega) (RP_trans hv2 k2 (Nat.le_refl _) (fun q hq => hend q hq)) hend
      rw [(show f_R_readNumber 4 (nI (41 * r + s)) 2 4 v2 = some (0, v5) from k1), zcall, zcall]
      refine ⟨v6, m1, m2, fun q hq => ⟨m3 q hq, fun _ => ?_, fun c => (by omega), fun c => (by omega), fun c => (by omega), fun c => (by omega)⟩⟩
      rw [m4 4 _ (by omega)]
      exact k3
  by_cases c97 : T s = 97
  · have hsp : sp T r (sl T r f) d s = if 0 < d then .inl s else sb (sn T 2 4 (s + 1)) (fun q => if T q = 44 then sn T 1 99 (q + 1) else .inl q) := by
      unfold sp
      rw [c97, if_neg (by decide), if_neg (by decide), if_neg (by decide), if_neg (by decide), if_neg (by decide), if_neg (by decide), if_neg (by decide), if_pos rfl]
    rw [hsp] at hend ⊢
    rw [c97, if_neg (by decide), if_neg (by decide), if_neg (by decide), if_neg (by decide), if_neg (by decide), if_neg (by decide), if_neg (by decide), if_pos (by decide)]
    unfold f_R_readGathering f_R_refuseInner
    simp only [hd0]
    by_cases c0 : 0 < d
    · rw [if_pos c0] at hend ⊢
      rw [if_neg (by omega), zlev, zcall]
      have hb : RP r s v2 (ze_u v2 16 3 (nI (41 * r + s))) (.inl s) := RP_err
      have hn := RP_ne hb (by omega) hr
      rw [rd_num_er hn, zcall, rd_one_er hn, zcall, rd_num_er hn, zcall, zcall]
      obtain ⟨v6, m1, m2, m3, m4⟩ := rd_fin hr (by omega) (RP_trans hv2 hb (Nat.le_refl _) (fun q hq => (by cases hq))) hend
      exact ⟨v6, m1, m2, fun q hq => (by cases hq)⟩
    · rw [if_neg c0] at hend ⊢
      rw [if_pos (by omega), zcall]
      obtain ⟨v5, k1, k2, k3, k4⟩ := rd_num hr hz (x := v2) (k1 := 4) (s := s) (p := s + 1) (lo := 2) (hi := 4) (by omega) (by omega) (by omega) (by omega) (by omega) t2 g3 g2
      rw [(show f_R_readNumber 4 (nI (41 * r + s)) 2 4 v2 = some (0, v5) from k1), zcall]
      cases hsn : sn T 2 4 (s + 1) with
      | inl e =>
        rw [hsn] at k2 hend
        rw [sb_l] at hend ⊢
        have he : e ≤ 100 := by
          unfold sn at hsn
          by_cases cc : (48 ≤ T (s + 1) ∧ T (s + 1) ≤ 57) ∧ 2 ≤ nv T (s + 1) ∧ nv T (s + 1) ≤ 4
          · rw [if_pos cc] at hsn
            cases hsn
          · rw [if_neg cc] at hsn
            injection hsn with hsn
            omega
        have hn := RP_ne k2 he hr
        rw [rd_one_er hn, zcall, rd_num_er hn, zcall, zcall]
        obtain ⟨v6, m1, m2, m3, m4⟩ := rd_fin hr (by omega) (RP_trans hv2 k2 (Nat.le_refl _) (fun q hq => (by cases hq))) hend
        exact ⟨v6, m1, m2, fun q hq => (by cases hq)⟩
      | inr q1 =>
        rw [hsn] at k2 hend
        rw [sb_r] at hend ⊢
        have hq1 := sn_end hz hsn
        have hq1e := (sn_inr hsn).2.2.2
        have k2' := RP_trans hv2 k2 (Nat.le_refl _) (fun q hq => by injection hq with hq; omega)
        have t5 : tx r T v5 := tx_kp t2 (k2.1 3 (by omega) (by omega))
        rcases rd_one hr hz (k0 := 3) (by omega) hq1.2 t5 (k2.2.2.2 q1 rfl).1 (k2.2.2.2 q1 rfl).2.1 with ⟨h1, h2⟩ | ⟨h1, h2⟩
        · have c2 : T q1 = 44 := by unfold cset at h1; omega
          rw [if_pos c2] at hend ⊢
          have hqn : q1 < n := tz_lt hz (by omega)
          rw [h2, zcall]
          have k5 : RP r s x (ze_u v5 16 2 (nI (41 * r + (q1 + 1)))) (.inr (q1 + 1)) := RP_trans k2' (RP_spot (s := s) (k2.2.2.2 q1 rfl).1) (Nat.le_refl _) (fun q hq => by injection hq with hq; omega)
          obtain ⟨v7, n1, n2, n3, n4⟩ := rd_num hr hz (x := ze_u v5 16 2 (nI (41 * r + (q1 + 1)))) (k1 := 5) (s := s) (p := q1 + 1) (lo := 1) (hi := 99) (by omega) (by omega) (by omega) (by omega) (by omega) (tx_kp t5 (zu_k _ _ _ _ (by omega))) (k5.2.2.2 _ rfl).1 (k5.2.2.2 _ rfl).2.1
          obtain ⟨v6, m1, m2, m3, m4⟩ := rd_fin hr (by omega) (RP_trans k5 n2 (Nat.le_refl _) (fun q hq => by have := sn_end hz hq; omega)) hend
          rw [(show f_R_readNumber 5 (nI (41 * r + s)) 1 99 _ = some (0, v7) from n1), zcall, zcall]
          refine ⟨v6, m1, m2, fun q hq => ⟨m3 q hq, fun _ => ?_, fun c => (by omega), fun _ => ?_, fun c => (by omega), fun c => (by omega)⟩⟩
          · rw [m4 4 _ (by omega), n4 4 _ (by omega) (by omega) (by omega), zu_n _ _ _ _ (by omega)]
            exact k3
          · rw [m4 5 _ (by omega), ← hq1e]
            exact n3
        · have c2 : ¬ T q1 = 44 := by unfold cset at h1; omega
          rw [if_neg c2] at hend ⊢
          have hb : RP r s v5 (ze_u v5 16 3 (nI (41 * r + q1))) (.inl q1) := RP_err
          rw [h2, zcall, rd_num_er (RP_ne hb (by omega) hr), zcall, zcall]
          obtain ⟨v6, m1, m2, m3, m4⟩ := rd_fin hr (by omega) (RP_trans k2' hb (Nat.le_refl _) (fun q hq => (by cases hq))) hend
          exact ⟨v6, m1, m2, fun q hq => (by cases hq)⟩
  obtain ⟨D, rfl⟩ : ∃ D', D = D' + 1 := ⟨D - 1, by omega⟩
  by_cases c115 : T s = 115
  · have hsp : sp T r (sl T r f) d s = sb (sn T 1 4 (s + 1)) (fun q => si T (sl T r f) d q) := by
      unfold sp
      rw [c115, if_neg (by decide), if_neg (by decide), if_neg (by decide), if_neg (by decide), if_neg (by decide), if_neg (by decide), if_neg (by decide), if_neg (by decide), if_neg (by decide), if_neg (by decide), if_neg (by decide), if_neg (by decide), if_neg (by decide), if_neg (by decide), if_pos rfl]
    rw [hsp] at hend ⊢
    rw [c115, if_neg (by decide), if_neg (by decide), if_neg (by decide), if_neg (by decide), if_neg (by decide), if_neg (by decide), if_neg (by decide), if_neg (by decide), if_neg (by decide), if_neg (by decide), if_neg (by decide), if_neg (by decide), if_neg (by decide), if_neg (by decide), if_pos (by decide)]
    unfold f_R_readSplit
    obtain ⟨v5, k1, k2, k3, k4⟩ := rd_num hr hz (x := v2) (k1 := 4) (s := s) (p := s + 1) (lo := 1) (hi := 4) (by omega) (by omega) (by omega) (by omega) (by omega) t2 g3 g2
    rw [(show f_R_readNumber 4 (nI (41 * r + s)) 1 4 v2 = some (0, v5) from k1), zcall]
    cases hsn : sn T 1 4 (s + 1) with
    | inl e =>
      rw [hsn] at k2 hend
      rw [sb_l] at hend ⊢
      have he : e ≤ 100 := by
        unfold sn at hsn
        by_cases cc : (48 ≤ T (s + 1) ∧ T (s + 1) ≤ 57) ∧ 1 ≤ nv T (s + 1) ∧ nv T (s + 1) ≤ 4
        · rw [if_pos cc] at hsn
          cases hsn
        · rw [if_neg cc] at hsn
          injection hsn with hsn
          omega
      obtain ⟨y, hy⟩ := rd_inner_er (D := D) (a := nI d) (RP_ne k2 he hr)
      rw [hy, zcall, zi_nI (by omega) (by omega), nI_clamp (by omega), zlev, zcall]
      obtain ⟨v6, m1, m2, m3, m4⟩ := rd_fin hr (by omega) (RP_tab (RP_trans hv2 k2 (Nat.le_refl _) (fun q hq => (by cases hq))) hend (k0 := 6) (by omega) (by omega) y) hend
      rw [nI_clamp (by omega)] at m1
      exact ⟨v6, m1, m2, fun q hq => (by cases hq)⟩
    | inr q1 =>
      rw [hsn] at k2 hend
      rw [sb_r] at hend ⊢
      have hq1 := sn_end hz hsn
      have hq1e := (sn_inr hsn).2.2.2
      have k2' := RP_trans hv2 k2 (Nat.le_refl _) (fun q hq => by injection hq with hq; omega)
      have t5 : tx r T v5 := tx_kp t2 (k2.1 3 (by omega) (by omega))
      obtain ⟨y, v7, n1, n2, n3⟩ := rd_inner hr hz IH (x := v5) (d := d) (q := q1) (s := s) (D := D + 1) hq1.2 (by omega) (by omega) hd hD t5 (k2.2.1.trans g1) (k2.2.2.2 q1 rfl).1 (k2.2.2.2 q1 rfl).2.1
      rw [n1, zcall, zi_nI (by omega) (by omega), nI_clamp (by omega), zlev, zcall]
      have hse : ∀ q, si T (sl T r f) d q1 = .inr q → q1 ≤ q := by
        intro q hq
        obtain ⟨b1, b2, e1', b3, rfl⟩ := si_inr hq
        have t0 : q1 < n := tz_lt hz (by omega)
        have u := sl_ok hz f (d + 1) _ _ (by omega) b3
        omega
      obtain ⟨v6, m1, m2, m3, m4⟩ := rd_fin hr (by omega) (RP_tab (RP_trans k2' n2 (by omega) hse) hend (k0 := 6) (by omega) (by omega) y) hend
      rw [nI_clamp (by omega)] at m1
      refine ⟨v6, m1, m2, fun q hq => ⟨m3 q hq, fun _ => ?_, fun c => (by omega), fun c => (by omega), fun _ => ⟨?_, ?_⟩, fun c => (by omega)⟩⟩
      · rw [m4 4 _ (by omega), zu_n _ _ _ _ (by omega), (n2.2.2.2 q hq).2.2 4 _ (by omega) (by omega) (by omega)]
        exact k3
      · rw [m4 6 _ (by omega), ← hq1e, zu_s]
        exact (n3 q hq).1
      · rw [← hq1e]
        obtain ⟨b1, b2, e1', b3, b4⟩ := si_inr hq
        have t0 : q1 < n := tz_lt hz (by omega)
        refine wt_kp hz f (d + 1) _ e1' (by omega) b3 (fun k i h1 h2 h3 h4 => ?_) (n3 q hq).2
        rw [m4 k i (by omega), zu_n _ _ _ _ (by omega)]
  by_cases c63 : T s = 63
  · have hsp : sp T r (sl T r f) d s = sb (st T (s + 1)) (fun q => sb (si T (sl T r f) d q) (fun q2 => if T q2 = 58 then si T (sl T r f) d (q2 + 1) else .inr q2)) := by
      unfold sp
      rw [c63, if_neg (by decide), if_neg (by decide), if_neg (by decide), if_neg (by decide), if_neg (by decide), if_neg (by decide), if_pos rfl]
    rw [hsp] at hend ⊢
    rw [c63, if_neg (by decide), if_neg (by decide), if_neg (by decide), if_neg (by decide), if_neg (by decide), if_neg (by decide), if_pos (by decide)]
    unfold f_R_readChoice
    obtain ⟨v5, k1, k2, k3, k4⟩ := rd_test hr hz (x := v2) hs t2 g3 g2
    rw [k1, zcall]
    cases hst : st T (s + 1) with
    | inl e =>
      rw [hst] at k2 hend
      rw [sb_l] at hend ⊢
      have he : e ≤ 100 := by
        have := st_inl hz (by omega) hst
        omega
      have hn := RP_ne k2 he hr
      obtain ⟨y, hy⟩ := rd_inner_er (D := D) (a := nI d) hn
      have hn2 : ¬ ze_u (ze_u v5 6 (41 * r + s) y) 7 (41 * r + s) (-1) 16 3 = -1 := by
        rw [zu_n _ _ _ _ (by omega), zu_n _ _ _ _ (by omega)]
        exact hn
      rw [hy, zcall, nI_clamp (by omega), zi_nI (by omega) (by omega), zlev, zi_nI (by omega) (by omega), zlev, if_neg hn2, zcall]
      obtain ⟨v6, m1, m2, m3, m4⟩ := rd_fin hr (by omega) (RP_tab (RP_tab (RP_trans hv2 k2 (Nat.le_refl _) (fun q hq => (by cases hq))) hend (k0 := 6) (by omega) (by omega) y) hend (k0 := 7) (by omega) (by omega) (-1)) hend
      rw [nI_clamp (by omega)] at m1
      exact ⟨v6, m1, m2, fun q hq => (by cases hq)⟩
    | inr q1 =>
      rw [hst] at k2 hend
      rw [sb_r] at hend ⊢
      have hq1 := st_end hz hst
      obtain ⟨k31, hq1e⟩ := k3 q1 hst
      have k2' := RP_trans hv2 k2 (Nat.le_refl _) (fun q hq => by injection hq with hq; omega)
      have t5 : tx r T v5 := tx_kp t2 (k2.1 3 (by omega) (by omega))
      obtain ⟨y, v7, n1, n2, n3⟩ := rd_inner hr hz IH (x := v5) (d := d) (q := q1) (s := s) (D := D + 1) hq1.2 (by omega) (by omega) hd hD t5 (k2.2.1.trans g1) (k2.2.2.2 q1 rfl).1 (k2.2.2.2 q1 rfl).2.1
      rw [n1, zcall, nI_clamp (by omega), zi_nI (by omega) (by omega), zlev, zi_nI (by omega) (by omega), zlev]
      have t7 : tx r T v7 := tx_kp t5 (n2.1 3 (by omega) (by omega))
      cases hsi : si T (sl T r f) d q1 with
      | inl e =>
        rw [hsi] at n2 hend
        rw [sb_l] at hend ⊢
        have k5 := RP_trans k2' n2 (by omega) (fun q hq => (by cases hq))
        have hn2 : ¬ ze_u (ze_u v7 6 (41 * r + s) y) 7 (41 * r + s) (-1) 16 3 = -1 := by
          rw [zu_n _ _ _ _ (by omega), zu_n _ _ _ _ (by omega), n2.2.2.1 e rfl]
          have he := si_inl hz (sl_er hz f) (by omega) hsi
          simp (disch := omega) only [↓reduceIte, ↓m1_l,  eq_self, zleN, zlvN, zcaN, zi_N, nI_clamp, zu_s, zu_n, nI_add, pk_mul, pk_subO, nI_eqP, nI_ltP, nI_leP, nI_m1P, nI_m1Q, nI_m1R, nI_m1S, nI_m1U, nI_m1P', if_pos, if_neg, l_0, l_1, l_2, l_3, l_4, l_5, l_6, l_7, l_8, l_10, l_15, l_16, l_20, l_26, l_31, l_33, l_37, l_38, l_40, l_41, l_42, l_43, l_44, l_45, l_48, l_57, l_58, l_60, l_61, l_62, l_63, l_64, l_97, l_98, l_99, l_100, l_102, l_105, l_107, l_113, l_114, l_115, l_120, l_126, l_160, l_164, l_242, l_401, l_420, l_640, l_656, l_9999, l_100000]
          exact id
        rw [if_neg hn2, zcall]
        obtain ⟨v6, m1, m2, m3, m4⟩ := rd_fin hr (by omega) (RP_tab (RP_tab k5 hend (k0 := 6) (by omega) (by omega) y) hend (k0 := 7) (by omega) (by omega) (-1)) hend
        rw [nI_clamp (by omega)] at m1
        exact ⟨v6, m1, m2, fun q hq => (by cases hq)⟩
      | inr q2 =>
        rw [hsi] at n2 hend
        rw [sb_r] at hend ⊢
        obtain ⟨b1, b2, ee1, b3, hq2⟩ := si_inr hsi
        have t0 : q1 < n := tz_lt hz (by omega)
        have u := sl_ok hz f (d + 1) _ _ (by omega) b3
        have u1 : ee1 < n := tz_lt hz (by rw [u.2.2.1 (by omega)]; omega)
        subst hq2
        have k5 := RP_trans k2' n2 (by omega) (fun q hq => by injection hq with hq; omega)
        have k6 : RP r s x (ze_u (ze_u v7 6 (41 * r + s) y) 7 (41 * r + s) (-1)) (.inr (ee1 + 1)) := RP_tab (RP_tab k5 (fun q hq => by injection hq with hq; omega) (k0 := 6) (by omega) (by omega) y) (fun q hq => by injection hq with hq; omega) (k0 := 7) (by omega) (by omega) (-1)
        have t8 : tx r T (ze_u (ze_u v7 6 (41 * r + s) y) 7 (41 * r + s) (-1)) := tx_kp t7 (by rw [zu_k _ _ _ _ (by omega), zu_k _ _ _ _ (by omega)])
        have w81 : ze_u (ze_u v7 6 (41 * r + s) y) 7 (41 * r + s) (-1) 16 1 = nI r := by rw [k6.2.1]; exact e1
        have w86 : ze_u (ze_u v7 6 (41 * r + s) y) 7 (41 * r + s) (-1) 6 (41 * r + s) = nI (41 * r + (q1 + 1)) := by rw [zu_n _ _ _ _ (by omega), zu_s]; exact (n3 _ hsi).1
        have w87 : ze_u (ze_u v7 6 (41 * r + s) y) 7 (41 * r + s) (-1) 7 (41 * r + s) = -1 := zu_s _ _ _ _
        have w84 : ze_u (ze_u v7 6 (41 * r + s) y) 7 (41 * r + s) (-1) 4 (41 * r + s) = nI (nv T (s + 3)) := by rw [zu_n _ _ _ _ (by omega), zu_n _ _ _ _ (by omega), (n2.2.2.2 _ rfl).2.2 4 _ (by omega) (by omega) (by omega)]; exact k31
        have w8w : wt T r (ze_u (ze_u v7 6 (41 * r + s) y) 7 (41 * r + s) (-1)) 2 f (d + 1) (q1 + 1) := wt_kp hz f (d + 1) _ ee1 (by omega) b3 (fun k i h1 h2 h3 h4 => by rw [zu_n _ _ _ _ (by omega), zu_n _ _ _ _ (by omega)]) (n3 _ hsi).2
        generalize ze_u (ze_u v7 6 (41 * r + s) y) 7 (41 * r + s) (-1) = v8 at k6 t8 w81 w86 w87 w84 w8w ⊢
        have w83 := (k6.2.2.2 _ rfl).1
        have w82 := (k6.2.2.2 _ rfl).2.1
        have hT2 := tz_le hz (ee1 + 1)
        rw [if_pos w83, w82, rd_at hr hz t8 (by omega), zcall]
        by_cases c58 : T (ee1 + 1) = 58
        · rw [if_pos c58] at hend ⊢
          have v58 : ee1 + 1 < n := tz_lt hz (by omega)
          rw [if_pos (show nI (T (ee1 + 1)) = 58 by rw [c58]; rfl), zlev, w82, show nI (41 * r + (ee1 + 1)) + 1 = nI (41 * r + (ee1 + 1 + 1)) by rw [l_1, nI_add, Nat.add_assoc]]
          have k7 : RP r s x (ze_u v8 16 2 (nI (41 * r + (ee1 + 1 + 1)))) (.inr (ee1 + 1 + 1)) := RP_trans k6 (RP_spot (s := s) w83) (Nat.le_refl _) (fun q hq => by injection hq with hq; omega)
          obtain ⟨y2, v9, p1, p2, p3⟩ := rd_inner hr hz IH (x := ze_u v8 16 2 (nI (41 * r + (ee1 + 1 + 1)))) (d := d) (q := ee1 + 1 + 1) (s := ee1 + 1) (D := D + 1) (by omega) (by omega) (by omega) hd hD (tx_kp t8 (zu_k _ _ _ _ (by omega))) (by rw [zu_n _ _ _ _ (by omega)]; exact w81) (k7.2.2.2 _ rfl).1 (k7.2.2.2 _ rfl).2.1
          have hse : ∀ q, si T (sl T r f) d (ee1 + 1 + 1) = .inr q → ee1 + 1 + 1 ≤ q := by
            intro q hq
            obtain ⟨b1', b2', e1', b3', rfl⟩ := si_inr hq
            have t0' : ee1 + 1 + 1 < n := tz_lt hz (by omega)
            have u' := sl_ok hz f (d + 1) _ _ (by omega) b3'
            omega
          rw [p1, zcall, zi_nI (by omega) (by omega), zlev, zcall]
          obtain ⟨v6, m1, m2, m3, m4⟩ := rd_fin hr (by omega) (RP_tab (RP_trans k7 p2 (by omega) hse) hend (k0 := 7) (by omega) (by omega) y2) hend
          rw [nI_clamp (by omega)] at m1
          refine ⟨v6, m1, m2, fun q hq => ⟨m3 q hq, fun _ => (by omega), fun _ => ?_, fun c => (by omega), fun c => (by omega), fun _ => ⟨?_, ?_, ?_⟩⟩⟩
          · rw [m4 4 _ (by omega), zu_n _ _ _ _ (by omega), (p2.2.2.2 q hq).2.2 4 _ (by omega) (by omega) (by omega), zu_n _ _ _ _ (by omega)]
            exact w84
          · rw [m4 6 _ (by omega), zu_n _ _ _ _ (by omega), (p2.2.2.2 q hq).2.2 6 _ (by omega) (by omega) (by omega), zu_n _ _ _ _ (by omega), ← hq1e]
            exact w86
          · rw [← hq1e]
            refine wt_kp hz f (d + 1) _ ee1 (by omega) b3 (fun k i h1 h2 h3 h4 => ?_) w8w
            rw [m4 k i (by omega), zu_n _ _ _ _ (by omega), (p2.2.2.2 q hq).2.2 k _ (by omega) (by omega) (by omega), zu_n _ _ _ _ (by omega)]
          · intro e he
            rw [← hq1e, b3] at he
            injection he with he
            subst he
            refine ⟨fun _ => ⟨?_, ?_⟩, fun c => absurd c58 c⟩
            · rw [m4 7 _ (by omega), zu_s]
              exact (p3 q hq).1
            · obtain ⟨b1', b2', e1', b3', b4'⟩ := si_inr hq
              have t0' : ee1 + 1 + 1 < n := tz_lt hz (by omega)
              refine wt_kp hz f (d + 1) _ e1' (by omega) b3' (fun k i h1 h2 h3 h4 => ?_) (p3 q hq).2
              rw [m4 k i (by omega), zu_n _ _ _ _ (by omega)]
        · rw [if_neg c58] at hend ⊢
          rw [if_neg (show ¬ nI (T (ee1 + 1)) = 58 by rw [l_58, nI_eqP (by omega) (by omega)]; exact c58), zcall]
          obtain ⟨v6, m1, m2, m3, m4⟩ := rd_fin hr (by omega) k6 hend
          rw [nI_clamp (by omega)] at m1
          refine ⟨v6, m1, m2, fun q hq => ⟨m3 q hq, fun _ => (by omega), fun _ => ?_, fun c => (by omega), fun c => (by omega), fun _ => ⟨?_, ?_, ?_⟩⟩⟩
          · rw [m4 4 _ (by omega)]
            exact w84
          · rw [m4 6 _ (by omega), ← hq1e]
            exact w86
          · rw [← hq1e]
            refine wt_kp hz f (d + 1) _ ee1 (by omega) b3 (fun k i h1 h2 h3 h4 => ?_) w8w
            rw [m4 k i (by omega)]
          · intro e he
            rw [← hq1e, b3] at he
            injection he with he
            subst he
            refine ⟨fun c => absurd c c58, fun _ => ?_⟩
            rw [m4 7 _ (by omega)]
            exact w87
  have hsp : sp T r (sl T r f) d s = .inl s := by
    unfold sp
    simp (disch := omega) only [↓reduceIte, ↓m1_l,  eq_self, zleN, zlvN, zcaN, zi_N, nI_clamp, zu_s, zu_n, nI_add, pk_mul, pk_subO, nI_eqP, nI_ltP, nI_leP, nI_m1P, nI_m1Q, nI_m1R, nI_m1S, nI_m1U, nI_m1P', if_pos, if_neg, l_0, l_1, l_2, l_3, l_4, l_5, l_6, l_7, l_8, l_10, l_15, l_16, l_20, l_26, l_31, l_33, l_37, l_38, l_40, l_41, l_42, l_43, l_44, l_45, l_48, l_57, l_58, l_60, l_61, l_62, l_63, l_64, l_97, l_98, l_99, l_100, l_102, l_105, l_107, l_113, l_114, l_115, l_120, l_126, l_160, l_164, l_242, l_401, l_420, l_640, l_656, l_9999, l_100000]
  rw [hsp] at hend ⊢
  have hT := tz_le hz s
  simp (disch := omega) only [↓reduceIte, ↓m1_l,  eq_self, zleN, zlvN, zcaN, zi_N, nI_clamp, zu_s, zu_n, nI_add, pk_mul, pk_subO, nI_eqP, nI_ltP, nI_leP, nI_m1P, nI_m1Q, nI_m1R, nI_m1S, nI_m1U, nI_m1P', if_pos, if_neg, l_0, l_1, l_2, l_3, l_4, l_5, l_6, l_7, l_8, l_10, l_15, l_16, l_20, l_26, l_31, l_33, l_37, l_38, l_40, l_41, l_42, l_43, l_44, l_45, l_48, l_57, l_58, l_60, l_61, l_62, l_63, l_64, l_97, l_98, l_99, l_100, l_102, l_105, l_107, l_113, l_114, l_115, l_120, l_126, l_160, l_164, l_242, l_401, l_420, l_640, l_656, l_9999, l_100000]
  have hb : RP r s v2 (ze_u v2 16 3 (nI (41 * r + s))) (.inl s) := RP_err
  obtain ⟨v6, m1, m2, m3, m4⟩ := rd_fin hr (by omega) (RP_trans hv2 hb (Nat.le_refl _) (fun q hq => (by cases hq))) hend
  refine ⟨v6, ?_, m2, fun q hq => (by cases hq)⟩
  rw [nI_clamp (by omega), zi_nI (by omega) (by omega), zlev] at m1
  exact m1
end RX
