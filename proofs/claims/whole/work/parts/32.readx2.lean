/-! PURE: the class's reader: one of some characters, tests -/
theorem i8_id {c : Nat} (h : c < 128) : (nI c).toInt8.toInt32 = nI c := by
  have : ∀ c : Fin 128, (nI c.1).toInt8.toInt32 = nI c.1 := by decide +kernel
  exact this ⟨c, h⟩
theorem ixL (k0 : Nat) (b3 b4 : Int32) (kk : ze_H → Option (Int32 × ze_H)) (n : Nat) (l5 : Int32) (v : ze_H) : f_JL_indexOfChar_L7 k0 b3 b4 kk (n + 1) l5 v = (if b3 ≤ l5 then kk v else ze_in l5 (ze_sl.getD k0 0) (if (ze_sb.getD k0 []).getD (Int32.toNatClampNeg l5) (nI 0) = b4 then some (l5, v) else ze_let (l5 + 1) (fun x3 => f_JL_indexOfChar_L7 k0 b3 b4 kk n x3 v))) := rfl
theorem ix_pre {k0 m : Nat} (hk : ze_sl.getD k0 0 = m) (hm : 0 < m) (hm2 : m < 5) {c : Nat} (hc : c < 128) (v : ze_H) : f_JS_indexOf0 k0 (nI c) v = ze_call (f_JL_indexOfChar_L7 k0 (nI m) (nI c) (fun v4 => some (-1, v4)) 200000 (nI 0) v) (fun r7 v8 => some (r7, v8)) := by
  have e : (Int32.ofNat m >>> ((0 : Int32) &&& 31)) = nI m := by
    have : ∀ c : Fin 5, (Int32.ofNat c.1 >>> ((0 : Int32) &&& 31)) = nI c.1 := by decide +kernel
    exact this ⟨m, hm2⟩
  unfold f_JS_indexOf0 f_JS_indexOf1 f_JS_isLatin1 f_JS_length f_JS_coder ze_rt
  rw [if_neg (by decide), if_pos rfl, zcall, if_neg (by decide), if_neg (by decide), if_pos rfl, zcall, zcall, hk, e]
  unfold f_JL_indexOf f_JL_canEncode
  rw [hk, show Int32.ofNat m = nI m from rfl, show (255 : Int32) = nI 255 from rfl]
  simp (disch := omega) only [↓reduceIte, ↓m1_l,  eq_self, zleN, zlvN, zcaN, zi_N, nI_clamp, zu_s, zu_n, nI_add, pk_mul, pk_subO, nI_eqP, nI_ltP, nI_leP, nI_m1P, nI_m1Q, nI_m1R, nI_m1S, nI_m1U, nI_m1P', if_pos, if_neg, l_0, l_1, l_2, l_3, l_4, l_5, l_6, l_7, l_8, l_10, l_15, l_16, l_20, l_26, l_31, l_33, l_37, l_38, l_40, l_41, l_42, l_43, l_44, l_45, l_48, l_57, l_58, l_60, l_61, l_62, l_63, l_64, l_97, l_98, l_99, l_100, l_102, l_105, l_107, l_113, l_114, l_115, l_120, l_126, l_160, l_164, l_242, l_401, l_420, l_640, l_656, l_9999, l_100000]
  unfold f_JL_indexOfChar
  simp (disch := omega) only [↓reduceIte, ↓m1_l,  eq_self, zleN, zlvN, zcaN, zi_N, nI_clamp, zu_s, zu_n, nI_add, pk_mul, pk_subO, nI_eqP, nI_ltP, nI_leP, nI_m1P, nI_m1Q, nI_m1R, nI_m1S, nI_m1U, nI_m1P', if_pos, if_neg, l_0, l_1, l_2, l_3, l_4, l_5, l_6, l_7, l_8, l_10, l_15, l_16, l_20, l_26, l_31, l_33, l_37, l_38, l_40, l_41, l_42, l_43, l_44, l_45, l_48, l_57, l_58, l_60, l_61, l_62, l_63, l_64, l_97, l_98, l_99, l_100, l_102, l_105, l_107, l_113, l_114, l_115, l_120, l_126, l_160, l_164, l_242, l_401, l_420, l_640, l_656, l_9999, l_100000, i8_id hc]
  generalize f_JL_indexOfChar_L7 k0 (nI m) (nI c) (fun v4 => some (mI, v4)) 200000 (nI 0) v = o
  cases o <;> rfl
def cset (k0 c : Nat) : Prop := (k0 = 0 ∧ (c = 98 ∨ c = 107)) ∨ (k0 = 1 ∧ (c = 60 ∨ c = 62 ∨ c = 61 ∨ c = 37)) ∨ (k0 = 2 ∧ c = 40) ∨ (k0 = 3 ∧ c = 44)
theorem sbg0 : (ze_sb.getD 0 []).getD 0 (nI 0) = nI 98 ∧ (ze_sb.getD 0 []).getD 1 (nI 0) = nI 107 := ⟨rfl, rfl⟩
theorem sbg1 : (ze_sb.getD 1 []).getD 0 (nI 0) = nI 60 ∧ (ze_sb.getD 1 []).getD 1 (nI 0) = nI 62 ∧ (ze_sb.getD 1 []).getD 2 (nI 0) = nI 61 ∧ (ze_sb.getD 1 []).getD 3 (nI 0) = nI 37 := ⟨rfl, rfl, rfl, rfl⟩
theorem sbg2 : (ze_sb.getD 2 []).getD 0 (nI 0) = nI 40 := rfl
theorem sbg3 : (ze_sb.getD 3 []).getD 0 (nI 0) = nI 44 := rfl
theorem slg0 : ze_sl.getD 0 0 = 2 := rfl
theorem slg1 : ze_sl.getD 1 0 = 4 := rfl
theorem slg2 : ze_sl.getD 2 0 = 1 := rfl
theorem slg3 : ze_sl.getD 3 0 = 1 := rfl
theorem rd_ix {k0 c : Nat} (hk : k0 < 4) (hc : c < 128) (v : ze_H) : (cset k0 c ∧ ∃ j, j < 4 ∧ f_JS_indexOf0 k0 (nI c) v = some (nI j, v)) ∨ (¬ cset k0 c ∧ f_JS_indexOf0 k0 (nI c) v = some (-1, v)) := by
  have h0 : k0 = 0 ∨ k0 = 1 ∨ k0 = 2 ∨ k0 = 3 := by omega
  unfold cset
  obtain ⟨N, hN⟩ : ∃ N, 200000 = N + 5 := ⟨199995, rfl⟩
  rcases h0 with rfl | rfl | rfl | rfl
  · rw [ix_pre slg0 (by omega) (by omega) hc, hN]
    by_cases c1 : c = 98
    · refine Or.inl ⟨by omega, 0, by omega, ?_⟩
      rw [ixL]
      simp (disch := omega) only [↓reduceIte, ↓m1_l,  eq_self, zleN, zlvN, zcaN, zi_N, nI_clamp, zu_s, zu_n, nI_add, pk_mul, pk_subO, nI_eqP, nI_ltP, nI_leP, nI_m1P, nI_m1Q, nI_m1R, nI_m1S, nI_m1U, nI_m1P', if_pos, if_neg, l_0, l_1, l_2, l_3, l_4, l_5, l_6, l_7, l_8, l_10, l_15, l_16, l_20, l_26, l_31, l_33, l_37, l_38, l_40, l_41, l_42, l_43, l_44, l_45, l_48, l_57, l_58, l_60, l_61, l_62, l_63, l_64, l_97, l_98, l_99, l_100, l_102, l_105, l_107, l_113, l_114, l_115, l_120, l_126, l_160, l_164, l_242, l_401, l_420, l_640, l_656, l_9999, l_100000, slg0, sbg0.1]
    · by_cases c2 : c = 107
      · refine Or.inl ⟨by omega, 1, by omega, ?_⟩
        rw [ixL]
        simp (disch := omega) only [↓reduceIte, ↓m1_l,  eq_self, zleN, zlvN, zcaN, zi_N, nI_clamp, zu_s, zu_n, nI_add, pk_mul, pk_subO, nI_eqP, nI_ltP, nI_leP, nI_m1P, nI_m1Q, nI_m1R, nI_m1S, nI_m1U, nI_m1P', if_pos, if_neg, l_0, l_1, l_2, l_3, l_4, l_5, l_6, l_7, l_8, l_10, l_15, l_16, l_20, l_26, l_31, l_33, l_37, l_38, l_40, l_41, l_42, l_43, l_44, l_45, l_48, l_57, l_58, l_60, l_61, l_62, l_63, l_64, l_97, l_98, l_99, l_100, l_102, l_105, l_107, l_113, l_114, l_115, l_120, l_126, l_160, l_164, l_242, l_401, l_420, l_640, l_656, l_9999, l_100000, slg0, sbg0.1, sbg0.2]
        rw [ixL]
        simp (disch := omega) only [↓reduceIte, ↓m1_l,  eq_self, zleN, zlvN, zcaN, zi_N, nI_clamp, zu_s, zu_n, nI_add, pk_mul, pk_subO, nI_eqP, nI_ltP, nI_leP, nI_m1P, nI_m1Q, nI_m1R, nI_m1S, nI_m1U, nI_m1P', if_pos, if_neg, l_0, l_1, l_2, l_3, l_4, l_5, l_6, l_7, l_8, l_10, l_15, l_16, l_20, l_26, l_31, l_33, l_37, l_38, l_40, l_41, l_42, l_43, l_44, l_45, l_48, l_57, l_58, l_60, l_61, l_62, l_63, l_64, l_97, l_98, l_99, l_100, l_102, l_105, l_107, l_113, l_114, l_115, l_120, l_126, l_160, l_164, l_242, l_401, l_420, l_640, l_656, l_9999, l_100000, slg0, sbg0.1, sbg0.2]
      · refine Or.inr ⟨by omega, ?_⟩
        rw [ixL]
        simp (disch := omega) only [↓reduceIte, ↓m1_l,  eq_self, zleN, zlvN, zcaN, zi_N, nI_clamp, zu_s, zu_n, nI_add, pk_mul, pk_subO, nI_eqP, nI_ltP, nI_leP, nI_m1P, nI_m1Q, nI_m1R, nI_m1S, nI_m1U, nI_m1P', if_pos, if_neg, l_0, l_1, l_2, l_3, l_4, l_5, l_6, l_7, l_8, l_10, l_15, l_16, l_20, l_26, l_31, l_33, l_37, l_38, l_40, l_41, l_42, l_43, l_44, l_45, l_48, l_57, l_58, l_60, l_61, l_62, l_63, l_64, l_97, l_98, l_99, l_100, l_102, l_105, l_107, l_113, l_114, l_115, l_120, l_126, l_160, l_164, l_242, l_401, l_420, l_640, l_656, l_9999, l_100000, slg0, sbg0.1, sbg0.2]
        rw [ixL]
        simp (disch := omega) only [↓reduceIte, ↓m1_l,  eq_self, zleN, zlvN, zcaN, zi_N, nI_clamp, zu_s, zu_n, nI_add, pk_mul, pk_subO, nI_eqP, nI_ltP, nI_leP, nI_m1P, nI_m1Q, nI_m1R, nI_m1S, nI_m1U, nI_m1P', if_pos, if_neg, l_0, l_1, l_2, l_3, l_4, l_5, l_6, l_7, l_8, l_10, l_15, l_16, l_20, l_26, l_31, l_33, l_37, l_38, l_40, l_41, l_42, l_43, l_44, l_45, l_48, l_57, l_58, l_60, l_61, l_62, l_63, l_64, l_97, l_98, l_99, l_100, l_102, l_105, l_107, l_113, l_114, l_115, l_120, l_126, l_160, l_164, l_242, l_401, l_420, l_640, l_656, l_9999, l_100000, slg0, sbg0.1, sbg0.2]
        rw [ixL]
        simp (disch := omega) only [↓reduceIte, ↓m1_l,  eq_self, zleN, zlvN, zcaN, zi_N, nI_clamp, zu_s, zu_n, nI_add, pk_mul, pk_subO, nI_eqP, nI_ltP, nI_leP, nI_m1P, nI_m1Q, nI_m1R, nI_m1S, nI_m1U, nI_m1P', if_pos, if_neg, l_0, l_1, l_2, l_3, l_4, l_5, l_6, l_7, l_8, l_10, l_15, l_16, l_20, l_26, l_31, l_33, l_37, l_38, l_40, l_41, l_42, l_43, l_44, l_45, l_48, l_57, l_58, l_60, l_61, l_62, l_63, l_64, l_97, l_98, l_99, l_100, l_102, l_105, l_107, l_113, l_114, l_115, l_120, l_126, l_160, l_164, l_242, l_401, l_420, l_640, l_656, l_9999, l_100000, slg0, sbg0.1, sbg0.2]
  · rw [ix_pre slg1 (by omega) (by omega) hc, hN]
    by_cases c1 : c = 60
    · refine Or.inl ⟨by omega, 0, by omega, ?_⟩
      rw [ixL]
      simp (disch := omega) only [↓reduceIte, ↓m1_l,  eq_self, zleN, zlvN, zcaN, zi_N, nI_clamp, zu_s, zu_n, nI_add, pk_mul, pk_subO, nI_eqP, nI_ltP, nI_leP, nI_m1P, nI_m1Q, nI_m1R, nI_m1S, nI_m1U, nI_m1P', if_pos, if_neg, l_0, l_1, l_2, l_3, l_4, l_5, l_6, l_7, l_8, l_10, l_15, l_16, l_20, l_26, l_31, l_33, l_37, l_38, l_40, l_41, l_42, l_43, l_44, l_45, l_48, l_57, l_58, l_60, l_61, l_62, l_63, l_64, l_97, l_98, l_99, l_100, l_102, l_105, l_107, l_113, l_114, l_115, l_120, l_126, l_160, l_164, l_242, l_401, l_420, l_640, l_656, l_9999, l_100000, slg1, sbg1.1]
    · by_cases c2 : c = 62
      · refine Or.inl ⟨by omega, 1, by omega, ?_⟩
        rw [ixL]
        simp (disch := omega) only [↓reduceIte, ↓m1_l,  eq_self, zleN, zlvN, zcaN, zi_N, nI_clamp, zu_s, zu_n, nI_add, pk_mul, pk_subO, nI_eqP, nI_ltP, nI_leP, nI_m1P, nI_m1Q, nI_m1R, nI_m1S, nI_m1U, nI_m1P', if_pos, if_neg, l_0, l_1, l_2, l_3, l_4, l_5, l_6, l_7, l_8, l_10, l_15, l_16, l_20, l_26, l_31, l_33, l_37, l_38, l_40, l_41, l_42, l_43, l_44, l_45, l_48, l_57, l_58, l_60, l_61, l_62, l_63, l_64, l_97, l_98, l_99, l_100, l_102, l_105, l_107, l_113, l_114, l_115, l_120, l_126, l_160, l_164, l_242, l_401, l_420, l_640, l_656, l_9999, l_100000, slg1, sbg1.1, sbg1.2.1]
        rw [ixL]
        simp (disch := omega) only [↓reduceIte, ↓m1_l,  eq_self, zleN, zlvN, zcaN, zi_N, nI_clamp, zu_s, zu_n, nI_add, pk_mul, pk_subO, nI_eqP, nI_ltP, nI_leP, nI_m1P, nI_m1Q, nI_m1R, nI_m1S, nI_m1U, nI_m1P', if_pos, if_neg, l_0, l_1, l_2, l_3, l_4, l_5, l_6, l_7, l_8, l_10, l_15, l_16, l_20, l_26, l_31, l_33, l_37, l_38, l_40, l_41, l_42, l_43, l_44, l_45, l_48, l_57, l_58, l_60, l_61, l_62, l_63, l_64, l_97, l_98, l_99, l_100, l_102, l_105, l_107, l_113, l_114, l_115, l_120, l_126, l_160, l_164, l_242, l_401, l_420, l_640, l_656, l_9999, l_100000, slg1, sbg1.1, sbg1.2.1]
      · by_cases c3 : c = 61
        · refine Or.inl ⟨by omega, 2, by omega, ?_⟩
          rw [ixL]
          simp (disch := omega) only [↓reduceIte, ↓m1_l,  eq_self, zleN, zlvN, zcaN, zi_N, nI_clamp, zu_s, zu_n, nI_add, pk_mul, pk_subO, nI_eqP, nI_ltP, nI_leP, nI_m1P, nI_m1Q, nI_m1R, nI_m1S, nI_m1U, nI_m1P', if_pos, if_neg, l_0, l_1, l_2, l_3, l_4, l_5, l_6, l_7, l_8, l_10, l_15, l_16, l_20, l_26, l_31, l_33, l_37, l_38, l_40, l_41, l_42, l_43, l_44, l_45, l_48, l_57, l_58, l_60, l_61, l_62, l_63, l_64, l_97, l_98, l_99, l_100, l_102, l_105, l_107, l_113, l_114, l_115, l_120, l_126, l_160, l_164, l_242, l_401, l_420, l_640, l_656, l_9999, l_100000, slg1, sbg1.1, sbg1.2.1, sbg1.2.2.1]
          rw [ixL]
          simp (disch := omega) only [↓reduceIte, ↓m1_l,  eq_self, zleN, zlvN, zcaN, zi_N, nI_clamp, zu_s, zu_n, nI_add, pk_mul, pk_subO, nI_eqP, nI_ltP, nI_leP, nI_m1P, nI_m1Q, nI_m1R, nI_m1S, nI_m1U, nI_m1P', if_pos, if_neg, l_0, l_1, l_2, l_3, l_4, l_5, l_6, l_7, l_8, l_10, l_15, l_16, l_20, l_26, l_31, l_33, l_37, l_38, l_40, l_41, l_42, l_43, l_44, l_45, l_48, l_57, l_58, l_60, l_61, l_62, l_63, l_64, l_97, l_98, l_99, l_100, l_102, l_105, l_107, l_113, l_114, l_115, l_120, l_126, l_160, l_164, l_242, l_401, l_420, l_640, l_656, l_9999, l_100000, slg1, sbg1.1, sbg1.2.1, sbg1.2.2.1]
          rw [ixL]
          simp (disch := omega) only [↓reduceIte, ↓m1_l,  eq_self, zleN, zlvN, zcaN, zi_N, nI_clamp, zu_s, zu_n, nI_add, pk_mul, pk_subO, nI_eqP, nI_ltP, nI_leP, nI_m1P, nI_m1Q, nI_m1R, nI_m1S, nI_m1U, nI_m1P', if_pos, if_neg, l_0, l_1, l_2, l_3, l_4, l_5, l_6, l_7, l_8, l_10, l_15, l_16, l_20, l_26, l_31, l_33, l_37, l_38, l_40, l_41, l_42, l_43, l_44, l_45, l_48, l_57, l_58, l_60, l_61, l_62, l_63, l_64, l_97, l_98, l_99, l_100, l_102, l_105, l_107, l_113, l_114, l_115, l_120, l_126, l_160, l_164, l_242, l_401, l_420, l_640, l_656, l_9999, l_100000, slg1, sbg1.1, sbg1.2.1, sbg1.2.2.1]
        · by_cases c4 : c = 37
          · refine Or.inl ⟨by omega, 3, by omega, ?_⟩
            rw [ixL]
            simp (disch := omega) only [↓reduceIte, ↓m1_l,  eq_self, zleN, zlvN, zcaN, zi_N, nI_clamp, zu_s, zu_n, nI_add, pk_mul, pk_subO, nI_eqP, nI_ltP, nI_leP, nI_m1P, nI_m1Q, nI_m1R, nI_m1S, nI_m1U, nI_m1P', if_pos, if_neg, l_0, l_1, l_2, l_3, l_4, l_5, l_6, l_7, l_8, l_10, l_15, l_16, l_20, l_26, l_31, l_33, l_37, l_38, l_40, l_41, l_42, l_43, l_44, l_45, l_48, l_57, l_58, l_60, l_61, l_62, l_63, l_64, l_97, l_98, l_99, l_100, l_102, l_105, l_107, l_113, l_114, l_115, l_120, l_126, l_160, l_164, l_242, l_401, l_420, l_640, l_656, l_9999, l_100000, slg1, sbg1.1, sbg1.2.1, sbg1.2.2.1, sbg1.2.2.2]
            rw [ixL]
            simp (disch := omega) only [↓reduceIte, ↓m1_l,  eq_self, zleN, zlvN, zcaN, zi_N, nI_clamp, zu_s, zu_n, nI_add, pk_mul, pk_subO, nI_eqP, nI_ltP, nI_leP, nI_m1P, nI_m1Q, nI_m1R, nI_m1S, nI_m1U, nI_m1P', if_pos, if_neg, l_0, l_1, l_2, l_3, l_4, l_5, l_6, l_7, l_8, l_10, l_15, l_16, l_20, l_26, l_31, l_33, l_37, l_38, l_40, l_41, l_42, l_43, l_44, l_45, l_48, l_57, l_58, l_60, l_61, l_62, l_63, l_64, l_97, l_98, l_99, l_100, l_102, l_105, l_107, l_113, l_114, l_115, l_120, l_126, l_160, l_164, l_242, l_401, l_420, l_640, l_656, l_9999, l_100000, slg1, sbg1.1, sbg1.2.1, sbg1.2.2.1, sbg1.2.2.2]
            rw [ixL]
            simp (disch := omega) only [↓reduceIte, ↓m1_l,  eq_self, zleN, zlvN, zcaN, zi_N, nI_clamp, zu_s, zu_n, nI_add, pk_mul, pk_subO, nI_eqP, nI_ltP, nI_leP, nI_m1P, nI_m1Q, nI_m1R, nI_m1S, nI_m1U, nI_m1P', if_pos, if_neg, l_0, l_1, l_2, l_3, l_4, l_5, l_6, l_7, l_8, l_10, l_15, l_16, l_20, l_26, l_31, l_33, l_37, l_38, l_40, l_41, l_42, l_43, l_44, l_45, l_48, l_57, l_58, l_60, l_61, l_62, l_63, l_64, l_97, l_98, l_99, l_100, l_102, l_105, l_107, l_113, l_114, l_115, l_120, l_126, l_160, l_164, l_242, l_401, l_420, l_640, l_656, l_9999, l_100000, slg1, sbg1.1, sbg1.2.1, sbg1.2.2.1, sbg1.2.2.2]
            rw [ixL]
            simp (disch := omega) only [↓reduceIte, ↓m1_l,  eq_self, zleN, zlvN, zcaN, zi_N, nI_clamp, zu_s, zu_n, nI_add, pk_mul, pk_subO, nI_eqP, nI_ltP, nI_leP, nI_m1P, nI_m1Q, nI_m1R, nI_m1S, nI_m1U, nI_m1P', if_pos, if_neg, l_0, l_1, l_2, l_3, l_4, l_5, l_6, l_7, l_8, l_10, l_15, l_16, l_20, l_26, l_31, l_33, l_37, l_38, l_40, l_41, l_42, l_43, l_44, l_45, l_48, l_57, l_58, l_60, l_61, l_62, l_63, l_64, l_97, l_98, l_99, l_100, l_102, l_105, l_107, l_113, l_114, l_115, l_120, l_126, l_160, l_164, l_242, l_401, l_420, l_640, l_656, l_9999, l_100000, slg1, sbg1.1, sbg1.2.1, sbg1.2.2.1, sbg1.2.2.2]
          · refine Or.inr ⟨by omega, ?_⟩
            rw [ixL]
            simp (disch := omega) only [↓reduceIte, ↓m1_l,  eq_self, zleN, zlvN, zcaN, zi_N, nI_clamp, zu_s, zu_n, nI_add, pk_mul, pk_subO, nI_eqP, nI_ltP, nI_leP, nI_m1P, nI_m1Q, nI_m1R, nI_m1S, nI_m1U, nI_m1P', if_pos, if_neg, l_0, l_1, l_2, l_3, l_4, l_5, l_6, l_7, l_8, l_10, l_15, l_16, l_20, l_26, l_31, l_33, l_37, l_38, l_40, l_41, l_42, l_43, l_44, l_45, l_48, l_57, l_58, l_60, l_61, l_62, l_63, l_64, l_97, l_98, l_99, l_100, l_102, l_105, l_107, l_113, l_114, l_115, l_120, l_126, l_160, l_164, l_242, l_401, l_420, l_640, l_656, l_9999, l_100000, slg1, sbg1.1, sbg1.2.1, sbg1.2.2.1, sbg1.2.2.2]
            rw [ixL]
            simp (disch := omega) only [↓reduceIte, ↓m1_l,  eq_self, zleN, zlvN, zcaN, zi_N, nI_clamp, zu_s, zu_n, nI_add, pk_mul, pk_subO, nI_eqP, nI_ltP, nI_leP, nI_m1P, nI_m1Q, nI_m1R, nI_m1S, nI_m1U, nI_m1P', if_pos, if_neg, l_0, l_1, l_2, l_3, l_4, l_5, l_6, l_7, l_8, l_10, l_15, l_16, l_20, l_26, l_31, l_33, l_37, l_38, l_40, l_41, l_42, l_43, l_44, l_45, l_48, l_57, l_58, l_60, l_61, l_62, l_63, l_64, l_97, l_98, l_99, l_100, l_102, l_105, l_107, l_113, l_114, l_115, l_120, l_126, l_160, l_164, l_242, l_401, l_420, l_640, l_656, l_9999, l_100000, slg1, sbg1.1, sbg1.2.1, sbg1.2.2.1, sbg1.2.2.2]
            rw [ixL]
            simp (disch := omega) only [↓reduceIte, ↓m1_l,  eq_self, zleN, zlvN, zcaN, zi_N, nI_clamp, zu_s, zu_n, nI_add, pk_mul, pk_subO, nI_eqP, nI_ltP, nI_leP, nI_m1P, nI_m1Q, nI_m1R, nI_m1S, nI_m1U, nI_m1P', if_pos, if_neg, l_0, l_1, l_2, l_3, l_4, l_5, l_6, l_7, l_8, l_10, l_15, l_16, l_20, l_26, l_31, l_33, l_37, l_38, l_40, l_41, l_42, l_43, l_44, l_45, l_48, l_57, l_58, l_60, l_61, l_62, l_63, l_64, l_97, l_98, l_99, l_100, l_102, l_105, l_107, l_113, l_114, l_115, l_120, l_126, l_160, l_164, l_242, l_401, l_420, l_640, l_656, l_9999, l_100000, slg1, sbg1.1, sbg1.2.1, sbg1.2.2.1, sbg1.2.2.2]
            rw [ixL]
            simp (disch := omega) only [↓reduceIte, ↓m1_l,  eq_self, zleN, zlvN, zcaN, zi_N, nI_clamp, zu_s, zu_n, nI_add, pk_mul, pk_subO, nI_eqP, nI_ltP, nI_leP, nI_m1P, nI_m1Q, nI_m1R, nI_m1S, nI_m1U, nI_m1P', if_pos, if_neg, l_0, l_1, l_2, l_3, l_4, l_5, l_6, l_7, l_8, l_10, l_15, l_16, l_20, l_26, l_31, l_33, l_37, l_38, l_40, l_41, l_42, l_43, l_44, l_45, l_48, l_57, l_58, l_60, l_61, l_62, l_63, l_64, l_97, l_98, l_99, l_100, l_102, l_105, l_107, l_113, l_114, l_115, l_120, l_126, l_160, l_164, l_242, l_401, l_420, l_640, l_656, l_9999, l_100000, slg1, sbg1.1, sbg1.2.1, sbg1.2.2.1, sbg1.2.2.2]
            rw [ixL]
            simp (disch := omega) only [↓reduceIte, ↓m1_l,  eq_self, zleN, zlvN, zcaN, zi_N, nI_clamp, zu_s, zu_n, nI_add, pk_mul, pk_subO, nI_eqP, nI_ltP, nI_leP, nI_m1P, nI_m1Q, nI_m1R, nI_m1S, nI_m1U, nI_m1P', if_pos, if_neg, l_0, l_1, l_2, l_3, l_4, l_5, l_6, l_7, l_8, l_10, l_15, l_16, l_20, l_26, l_31, l_33, l_37, l_38, l_40, l_41, l_42, l_43, l_44, l_45, l_48, l_57, l_58, l_60, l_61, l_62, l_63, l_64, l_97, l_98, l_99, l_100, l_102, l_105, l_107, l_113, l_114, l_115, l_120, l_126, l_160, l_164, l_242, l_401, l_420, l_640, l_656, l_9999, l_100000, slg1, sbg1.1, sbg1.2.1, sbg1.2.2.1, sbg1.2.2.2]
  · rw [ix_pre slg2 (by omega) (by omega) hc, hN]
    by_cases c1 : c = 40
    · refine Or.inl ⟨by omega, 0, by omega, ?_⟩
      rw [ixL]
      simp (disch := omega) only [↓reduceIte, ↓m1_l,  eq_self, zleN, zlvN, zcaN, zi_N, nI_clamp, zu_s, zu_n, nI_add, pk_mul, pk_subO, nI_eqP, nI_ltP, nI_leP, nI_m1P, nI_m1Q, nI_m1R, nI_m1S, nI_m1U, nI_m1P', if_pos, if_neg, l_0, l_1, l_2, l_3, l_4, l_5, l_6, l_7, l_8, l_10, l_15, l_16, l_20, l_26, l_31, l_33, l_37, l_38, l_40, l_41, l_42, l_43, l_44, l_45, l_48, l_57, l_58, l_60, l_61, l_62, l_63, l_64, l_97, l_98, l_99, l_100, l_102, l_105, l_107, l_113, l_114, l_115, l_120, l_126, l_160, l_164, l_242, l_401, l_420, l_640, l_656, l_9999, l_100000, slg2, sbg2]
    · refine Or.inr ⟨by omega, ?_⟩
      rw [ixL]
      simp (disch := omega) only [↓reduceIte, ↓m1_l,  eq_self, zleN, zlvN, zcaN, zi_N, nI_clamp, zu_s, zu_n, nI_add, pk_mul, pk_subO, nI_eqP, nI_ltP, nI_leP, nI_m1P, nI_m1Q, nI_m1R, nI_m1S, nI_m1U, nI_m1P', if_pos, if_neg, l_0, l_1, l_2, l_3, l_4, l_5, l_6, l_7, l_8, l_10, l_15, l_16, l_20, l_26, l_31, l_33, l_37, l_38, l_40, l_41, l_42, l_43, l_44, l_45, l_48, l_57, l_58, l_60, l_61, l_62, l_63, l_64, l_97, l_98, l_99, l_100, l_102, l_105, l_107, l_113, l_114, l_115, l_120, l_126, l_160, l_164, l_242, l_401, l_420, l_640, l_656, l_9999, l_100000, slg2, sbg2]
      rw [ixL]
      simp (disch := omega) only [↓reduceIte, ↓m1_l,  eq_self, zleN, zlvN, zcaN, zi_N, nI_clamp, zu_s, zu_n, nI_add, pk_mul, pk_subO, nI_eqP, nI_ltP, nI_leP, nI_m1P, nI_m1Q, nI_m1R, nI_m1S, nI_m1U, nI_m1P', if_pos, if_neg, l_0, l_1, l_2, l_3, l_4, l_5, l_6, l_7, l_8, l_10, l_15, l_16, l_20, l_26, l_31, l_33, l_37, l_38, l_40, l_41, l_42, l_43, l_44, l_45, l_48, l_57, l_58, l_60, l_61, l_62, l_63, l_64, l_97, l_98, l_99, l_100, l_102, l_105, l_107, l_113, l_114, l_115, l_120, l_126, l_160, l_164, l_242, l_401, l_420, l_640, l_656, l_9999, l_100000, slg2, sbg2]
  · rw [ix_pre slg3 (by omega) (by omega) hc, hN]
    by_cases c1 : c = 44
    · refine Or.inl ⟨by omega, 0, by omega, ?_⟩
      rw [ixL]
      simp (disch := omega) only [↓reduceIte, ↓m1_l,  eq_self, zleN, zlvN, zcaN, zi_N, nI_clamp, zu_s, zu_n, nI_add, pk_mul, pk_subO, nI_eqP, nI_ltP, nI_leP, nI_m1P, nI_m1Q, nI_m1R, nI_m1S, nI_m1U, nI_m1P', if_pos, if_neg, l_0, l_1, l_2, l_3, l_4, l_5, l_6, l_7, l_8, l_10, l_15, l_16, l_20, l_26, l_31, l_33, l_37, l_38, l_40, l_41, l_42, l_43, l_44, l_45, l_48, l_57, l_58, l_60, l_61, l_62, l_63, l_64, l_97, l_98, l_99, l_100, l_102, l_105, l_107, l_113, l_114, l_115, l_120, l_126, l_160, l_164, l_242, l_401, l_420, l_640, l_656, l_9999, l_100000, slg3, sbg3]
    · refine Or.inr ⟨by omega, ?_⟩
      rw [ixL]
      simp (disch := omega) only [↓reduceIte, ↓m1_l,  eq_self, zleN, zlvN, zcaN, zi_N, nI_clamp, zu_s, zu_n, nI_add, pk_mul, pk_subO, nI_eqP, nI_ltP, nI_leP, nI_m1P, nI_m1Q, nI_m1R, nI_m1S, nI_m1U, nI_m1P', if_pos, if_neg, l_0, l_1, l_2, l_3, l_4, l_5, l_6, l_7, l_8, l_10, l_15, l_16, l_20, l_26, l_31, l_33, l_37, l_38, l_40, l_41, l_42, l_43, l_44, l_45, l_48, l_57, l_58, l_60, l_61, l_62, l_63, l_64, l_97, l_98, l_99, l_100, l_102, l_105, l_107, l_113, l_114, l_115, l_120, l_126, l_160, l_164, l_242, l_401, l_420, l_640, l_656, l_9999, l_100000, slg3, sbg3]
      rw [ixL]
      simp (disch := omega) only [↓reduceIte, ↓m1_l,  eq_self, zleN, zlvN, zcaN, zi_N, nI_clamp, zu_s, zu_n, nI_add, pk_mul, pk_subO, nI_eqP, nI_ltP, nI_leP, nI_m1P, nI_m1Q, nI_m1R, nI_m1S, nI_m1U, nI_m1P', if_pos, if_neg, l_0, l_1, l_2, l_3, l_4, l_5, l_6, l_7, l_8, l_10, l_15, l_16, l_20, l_26, l_31, l_33, l_37, l_38, l_40, l_41, l_42, l_43, l_44, l_45, l_48, l_57, l_58, l_60, l_61, l_62, l_63, l_64, l_97, l_98, l_99, l_100, l_102, l_105, l_107, l_113, l_114, l_115, l_120, l_126, l_160, l_164, l_242, l_401, l_420, l_640, l_656, l_9999, l_100000, slg3, sbg3]
section RX
variable {r n : Nat} {T : Nat → Nat} {x : ze_H}
/-- one of some characters at p -/
theorem rd_one (hr : r < 4) (hz : tz n T) {k0 p : Nat} (hk : k0 < 4) (hp : p ≤ n) (ht : tx r T x) (e3 : x 16 3 = -1) (e2 : x 16 2 = nI (41 * r + p)) :
    (cset k0 (T p) ∧ f_R_readOneOf k0 x = some (0, ze_u x 16 2 (nI (41 * r + (p + 1))))) ∨ (¬ cset k0 (T p) ∧ f_R_readOneOf k0 x = some (0, ze_u x 16 3 (nI (41 * r + p)))) := by
  have h40 := hz.1
  have hT := tz_le hz p
  unfold f_R_readOneOf
  rw [if_pos e3, e2, rd_at hr hz ht (show p ≤ 40 by omega), zcall]
  rcases rd_ix hk (show T p < 128 by omega) x with ⟨h1, j, hj, h2⟩ | ⟨h1, h2⟩
  · refine Or.inl ⟨h1, ?_⟩
    rw [h2]
    simp (disch := omega) only [↓reduceIte, ↓m1_l,  eq_self, zleN, zlvN, zcaN, zi_N, nI_clamp, zu_s, zu_n, nI_add, pk_mul, pk_subO, nI_eqP, nI_ltP, nI_leP, nI_m1P, nI_m1Q, nI_m1R, nI_m1S, nI_m1U, nI_m1P', if_pos, if_neg, l_0, l_1, l_2, l_3, l_4, l_5, l_6, l_7, l_8, l_10, l_15, l_16, l_20, l_26, l_31, l_33, l_37, l_38, l_40, l_41, l_42, l_43, l_44, l_45, l_48, l_57, l_58, l_60, l_61, l_62, l_63, l_64, l_97, l_98, l_99, l_100, l_102, l_105, l_107, l_113, l_114, l_115, l_120, l_126, l_160, l_164, l_242, l_401, l_420, l_640, l_656, l_9999, l_100000, e2, Nat.add_assoc]
  · refine Or.inr ⟨h1, ?_⟩
    rw [h2]
    have : ((-1 : Int32) < 0) := by decide
    rw [zcall, if_pos this, zlev, e2]
/-- a test behind the step at s -/
theorem rd_test (hr : r < 4) (hz : tz n T) {s : Nat} (hs : s < n) (ht : tx r T x) (e3 : x 16 3 = -1) (e2 : x 16 2 = nI (41 * r + (s + 1))) :
    ∃ x1, f_R_readTest (nI (41 * r + s)) x = some (0, x1) ∧ RP r s x x1 (st T (s + 1)) ∧ (∀ q, st T (s + 1) = .inr q → x1 4 (41 * r + s) = nI (nv T (s + 3)) ∧ q = ne T (s + 3)) ∧ ∀ k i, 4 ≤ k → k ≤ 8 → ¬ (k = 4 ∧ i = 41 * r + s) → x1 k i = x k i := by
  have h40 := hz.1
  have hne : ¬ nI (41 * r + (s + 1)) = -1 := by simp (disch := omega) only [↓reduceIte, ↓m1_l,  eq_self, zleN, zlvN, zcaN, zi_N, nI_clamp, zu_s, zu_n, nI_add, pk_mul, pk_subO, nI_eqP, nI_ltP, nI_leP, nI_m1P, nI_m1Q, nI_m1R, nI_m1S, nI_m1U, nI_m1P', if_pos, if_neg, l_0, l_1, l_2, l_3, l_4, l_5, l_6, l_7, l_8, l_10, l_15, l_16, l_20, l_26, l_31, l_33, l_37, l_38, l_40, l_41, l_42, l_43, l_44, l_45, l_48, l_57, l_58, l_60, l_61, l_62, l_63, l_64, l_97, l_98, l_99, l_100, l_102, l_105, l_107, l_113, l_114, l_115, l_120, l_126, l_160, l_164, l_242, l_401, l_420, l_640, l_656, l_9999, l_100000]; exact id
  have bad : ∀ e, e ≤ 42 → ∀ y, (∀ k, k ≠ 16 → y k = x k) → y 16 1 = x 16 1 → RP r s x (ze_u y 16 3 (nI (41 * r + e))) (.inl e) := by
    intro e he y hy hy1
    refine ⟨fun k h1 h2 => ?_, ?_, fun e he => ?_, fun q hq => (by cases hq)⟩
    · rw [zu_k _ _ _ _ (by omega), hy k h2]
    · simp (disch := omega) only [↓reduceIte, ↓m1_l,  eq_self, zleN, zlvN, zcaN, zi_N, nI_clamp, zu_s, zu_n, nI_add, pk_mul, pk_subO, nI_eqP, nI_ltP, nI_leP, nI_m1P, nI_m1Q, nI_m1R, nI_m1S, nI_m1U, nI_m1P', if_pos, if_neg, l_0, l_1, l_2, l_3, l_4, l_5, l_6, l_7, l_8, l_10, l_15, l_16, l_20, l_26, l_31, l_33, l_37, l_38, l_40, l_41, l_42, l_43, l_44, l_45, l_48, l_57, l_58, l_60, l_61, l_62, l_63, l_64, l_97, l_98, l_99, l_100, l_102, l_105, l_107, l_113, l_114, l_115, l_120, l_126, l_160, l_164, l_242, l_401, l_420, l_640, l_656, l_9999, l_100000, hy1]
    · injection he with he
      subst he
      simp (disch := omega) only [↓reduceIte, ↓m1_l,  eq_self, zleN, zlvN, zcaN, zi_N, nI_clamp, zu_s, zu_n, nI_add, pk_mul, pk_subO, nI_eqP, nI_ltP, nI_leP, nI_m1P, nI_m1Q, nI_m1R, nI_m1S, nI_m1U, nI_m1P', if_pos, if_neg, l_0, l_1, l_2, l_3, l_4, l_5, l_6, l_7, l_8, l_10, l_15, l_16, l_20, l_26, l_31, l_33, l_37, l_38, l_40, l_41, l_42, l_43, l_44, l_45, l_48, l_57, l_58, l_60, l_61, l_62, l_63, l_64, l_97, l_98, l_99, l_100, l_102, l_105, l_107, l_113, l_114, l_115, l_120, l_126, l_160, l_164, l_242, l_401, l_420, l_640, l_656, l_9999, l_100000]
  have tail : ∀ y, ¬ y 16 3 = -1 → (∃ d, f_P_at 2 (y 16 2) y = some (d, y)) → ze_call (f_P_at 2 (y 16 2) y) (fun r3 v4 => if r3 = 37 then f_R_readTest_J27 (nI (41 * r + s)) 1 v4 else f_R_readTest_J27 (nI (41 * r + s)) 0 v4) = some (0, y) := by
    intro y hy ⟨d, hd⟩
    rw [hd, zcall]
    have : ∀ b, f_R_readTest_J27 (nI (41 * r + s)) b y = some (0, y) := by
      intro b
      unfold f_R_readTest_J27
      rw [zlet, rd_one_er hy, zcall, rd_num_er hy, rd_num_er hy, zcall, ite_self]
    rw [this, this, ite_self]
  unfold f_R_readTest st
  rcases rd_one hr hz (k0 := 0) (by omega) (show s + 1 ≤ n by omega) ht e3 e2 with ⟨h1, h2⟩ | ⟨h1, h2⟩
  · have c1 : T (s + 1) = 98 ∨ T (s + 1) = 107 := by unfold cset at h1; omega
    have hs2 : s + 1 < n := tz_lt hz (by omega)
    have hT2 := tz_le hz (s + 1 + 1)
    rw [h2, zcall, if_pos c1]
    have t1 : tx r T (ze_u x 16 2 (nI (41 * r + (s + 1 + 1)))) := tx_kp ht (zu_k _ _ _ _ (by omega))
    rw [zu_s, rd_at hr hz t1 (show s + 1 + 1 ≤ 40 by omega), zcall]
    have e3' : ze_u x 16 2 (nI (41 * r + (s + 1 + 1))) 16 3 = -1 := by simp (disch := omega) only [↓reduceIte, ↓m1_l,  eq_self, zleN, zlvN, zcaN, zi_N, nI_clamp, zu_s, zu_n, nI_add, pk_mul, pk_subO, nI_eqP, nI_ltP, nI_leP, nI_m1P, nI_m1Q, nI_m1R, nI_m1S, nI_m1U, nI_m1P', if_pos, if_neg, l_0, l_1, l_2, l_3, l_4, l_5, l_6, l_7, l_8, l_10, l_15, l_16, l_20, l_26, l_31, l_33, l_37, l_38, l_40, l_41, l_42, l_43, l_44, l_45, l_48, l_57, l_58, l_60, l_61, l_62, l_63, l_64, l_97, l_98, l_99, l_100, l_102, l_105, l_107, l_113, l_114, l_115, l_120, l_126, l_160, l_164, l_242, l_401, l_420, l_640, l_656, l_9999, l_100000, e3]
    have hf : ∀ b, (if nI (T (s + 1 + 1)) = 37 then f_R_readTest_J27 b 1 (ze_u x 16 2 (nI (41 * r + (s + 1 + 1)))) else f_R_readTest_J27 b 0 (ze_u x 16 2 (nI (41 * r + (s + 1 + 1))))) = ze_call (f_R_readOneOf 1 (ze_u x 16 2 (nI (41 * r + (s + 1 + 1))))) (fun r6 v7 => ze_call (f_R_readNumber 4 b (nI (if T (s + 1 + 1) = 37 then 1 else 0)) (nI 9999) v7) (fun r8 v9 => some (0, v9))) := by
      intro b
      unfold f_R_readTest_J27
      by_cases c3 : T (s + 1 + 1) = 37
      · simp (disch := omega) only [↓reduceIte, ↓m1_l,  eq_self, zleN, zlvN, zcaN, zi_N, nI_clamp, zu_s, zu_n, nI_add, pk_mul, pk_subO, nI_eqP, nI_ltP, nI_leP, nI_m1P, nI_m1Q, nI_m1R, nI_m1S, nI_m1U, nI_m1P', if_pos, if_neg, l_0, l_1, l_2, l_3, l_4, l_5, l_6, l_7, l_8, l_10, l_15, l_16, l_20, l_26, l_31, l_33, l_37, l_38, l_40, l_41, l_42, l_43, l_44, l_45, l_48, l_57, l_58, l_60, l_61, l_62, l_63, l_64, l_97, l_98, l_99, l_100, l_102, l_105, l_107, l_113, l_114, l_115, l_120, l_126, l_160, l_164, l_242, l_401, l_420, l_640, l_656, l_9999, l_100000]
      · simp (disch := omega) only [↓reduceIte, ↓m1_l,  eq_self, zleN, zlvN, zcaN, zi_N, nI_clamp, zu_s, zu_n, nI_add, pk_mul, pk_subO, nI_eqP, nI_ltP, nI_leP, nI_m1P, nI_m1Q, nI_m1R, nI_m1S, nI_m1U, nI_m1P', if_pos, if_neg, l_0, l_1, l_2, l_3, l_4, l_5, l_6, l_7, l_8, l_10, l_15, l_16, l_20, l_26, l_31, l_33, l_37, l_38, l_40, l_41, l_42, l_43, l_44, l_45, l_48, l_57, l_58, l_60, l_61, l_62, l_63, l_64, l_97, l_98, l_99, l_100, l_102, l_105, l_107, l_113, l_114, l_115, l_120, l_126, l_160, l_164, l_242, l_401, l_420, l_640, l_656, l_9999, l_100000]
    rw [hf]
    rcases rd_one hr hz (k0 := 1) (by omega) (show s + 1 + 1 ≤ n by omega) t1 e3' (zu_s _ _ _ _) with ⟨g1, g2⟩ | ⟨g1, g2⟩
    · have c2 : T (s + 1 + 1) = 60 ∨ T (s + 1 + 1) = 62 ∨ T (s + 1 + 1) = 61 ∨ T (s + 1 + 1) = 37 := by unfold cset at g1; omega
      have hs3 : s + 1 + 1 < n := tz_lt hz (by omega)
      rw [g2, zcall, if_pos c2, zu_uu]
      have hlo : (if T (s + 1 + 1) = 37 then 1 else 0) < 10000 := by split <;> omega
      obtain ⟨x1, k1, k2, k3, k4⟩ := rd_num hr hz (x := ze_u x 16 2 (nI (41 * r + (s + 1 + 1 + 1)))) (k1 := 4) (s := s) (p := s + 1 + 1 + 1) (lo := if T (s + 1 + 1) = 37 then 1 else 0) (hi := 9999) (by omega) (by omega) (by omega) hlo (by omega) (tx_kp ht (zu_k _ _ _ _ (by omega))) (by simp (disch := omega) only [↓reduceIte, ↓m1_l,  eq_self, zleN, zlvN, zcaN, zi_N, nI_clamp, zu_s, zu_n, nI_add, pk_mul, pk_subO, nI_eqP, nI_ltP, nI_leP, nI_m1P, nI_m1Q, nI_m1R, nI_m1S, nI_m1U, nI_m1P', if_pos, if_neg, l_0, l_1, l_2, l_3, l_4, l_5, l_6, l_7, l_8, l_10, l_15, l_16, l_20, l_26, l_31, l_33, l_37, l_38, l_40, l_41, l_42, l_43, l_44, l_45, l_48, l_57, l_58, l_60, l_61, l_62, l_63, l_64, l_97, l_98, l_99, l_100, l_102, l_105, l_107, l_113, l_114, l_115, l_120, l_126, l_160, l_164, l_242, l_401, l_420, l_640, l_656, l_9999, l_100000, e3]) (zu_s _ _ _ _)
      rw [k1, zcall]
      refine ⟨x1, rfl, ?_, fun q hq => ⟨k3, ?_⟩, fun k i h1 h2 h3 => ?_⟩
      · obtain ⟨a1, a2, a3, a4⟩ := k2
        refine ⟨fun k h1 h2 => ?_, ?_, a3, fun q hq => ⟨(a4 q hq).1, (a4 q hq).2.1, fun k i h1 h2 h3 => ?_⟩⟩
        · rw [a1 k h1 h2, zu_k _ _ _ _ h2]
        · rw [a2]
          simp (disch := omega) only [↓reduceIte, ↓m1_l,  eq_self, zleN, zlvN, zcaN, zi_N, nI_clamp, zu_s, zu_n, nI_add, pk_mul, pk_subO, nI_eqP, nI_ltP, nI_leP, nI_m1P, nI_m1Q, nI_m1R, nI_m1S, nI_m1U, nI_m1P', if_pos, if_neg, l_0, l_1, l_2, l_3, l_4, l_5, l_6, l_7, l_8, l_10, l_15, l_16, l_20, l_26, l_31, l_33, l_37, l_38, l_40, l_41, l_42, l_43, l_44, l_45, l_48, l_57, l_58, l_60, l_61, l_62, l_63, l_64, l_97, l_98, l_99, l_100, l_102, l_105, l_107, l_113, l_114, l_115, l_120, l_126, l_160, l_164, l_242, l_401, l_420, l_640, l_656, l_9999, l_100000]
        · rw [(a4 q hq).2.2 k i h1 h2 h3]
          simp (disch := omega) only [↓reduceIte, ↓m1_l,  eq_self, zleN, zlvN, zcaN, zi_N, nI_clamp, zu_s, zu_n, nI_add, pk_mul, pk_subO, nI_eqP, nI_ltP, nI_leP, nI_m1P, nI_m1Q, nI_m1R, nI_m1S, nI_m1U, nI_m1P', if_pos, if_neg, l_0, l_1, l_2, l_3, l_4, l_5, l_6, l_7, l_8, l_10, l_15, l_16, l_20, l_26, l_31, l_33, l_37, l_38, l_40, l_41, l_42, l_43, l_44, l_45, l_48, l_57, l_58, l_60, l_61, l_62, l_63, l_64, l_97, l_98, l_99, l_100, l_102, l_105, l_107, l_113, l_114, l_115, l_120, l_126, l_160, l_164, l_242, l_401, l_420, l_640, l_656, l_9999, l_100000]
      · unfold sn at hq
        by_cases cc : (48 ≤ T (s + 1 + 1 + 1) ∧ T (s + 1 + 1 + 1) ≤ 57) ∧ (if T (s + 1 + 1) = 37 then 1 else 0) ≤ nv T (s + 1 + 1 + 1) ∧ nv T (s + 1 + 1 + 1) ≤ 9999
        · rw [if_pos cc] at hq
          injection hq with hq
          exact hq.symm
        · rw [if_neg cc] at hq
          cases hq
      · rw [k4 k i h1 h2 h3]
        simp (disch := omega) only [↓reduceIte, ↓m1_l,  eq_self, zleN, zlvN, zcaN, zi_N, nI_clamp, zu_s, zu_n, nI_add, pk_mul, pk_subO, nI_eqP, nI_ltP, nI_leP, nI_m1P, nI_m1Q, nI_m1R, nI_m1S, nI_m1U, nI_m1P', if_pos, if_neg, l_0, l_1, l_2, l_3, l_4, l_5, l_6, l_7, l_8, l_10, l_15, l_16, l_20, l_26, l_31, l_33, l_37, l_38, l_40, l_41, l_42, l_43, l_44, l_45, l_48, l_57, l_58, l_60, l_61, l_62, l_63, l_64, l_97, l_98, l_99, l_100, l_102, l_105, l_107, l_113, l_114, l_115, l_120, l_126, l_160, l_164, l_242, l_401, l_420, l_640, l_656, l_9999, l_100000]
    · have c2 : ¬ (T (s + 1 + 1) = 60 ∨ T (s + 1 + 1) = 62 ∨ T (s + 1 + 1) = 61 ∨ T (s + 1 + 1) = 37) := by unfold cset at g1; omega
      rw [g2, zcall, if_neg c2, rd_num_er (by rw [zu_s]; simp (disch := omega) only [↓reduceIte, ↓m1_l,  eq_self, zleN, zlvN, zcaN, zi_N, nI_clamp, zu_s, zu_n, nI_add, pk_mul, pk_subO, nI_eqP, nI_ltP, nI_leP, nI_m1P, nI_m1Q, nI_m1R, nI_m1S, nI_m1U, nI_m1P', if_pos, if_neg, l_0, l_1, l_2, l_3, l_4, l_5, l_6, l_7, l_8, l_10, l_15, l_16, l_20, l_26, l_31, l_33, l_37, l_38, l_40, l_41, l_42, l_43, l_44, l_45, l_48, l_57, l_58, l_60, l_61, l_62, l_63, l_64, l_97, l_98, l_99, l_100, l_102, l_105, l_107, l_113, l_114, l_115, l_120, l_126, l_160, l_164, l_242, l_401, l_420, l_640, l_656, l_9999, l_100000]; exact id), zcall]
      refine ⟨_, rfl, bad _ (by omega) _ (fun k hk => zu_k _ _ _ _ hk) (by simp (disch := omega) only [↓reduceIte, ↓m1_l,  eq_self, zleN, zlvN, zcaN, zi_N, nI_clamp, zu_s, zu_n, nI_add, pk_mul, pk_subO, nI_eqP, nI_ltP, nI_leP, nI_m1P, nI_m1Q, nI_m1R, nI_m1S, nI_m1U, nI_m1P', if_pos, if_neg, l_0, l_1, l_2, l_3, l_4, l_5, l_6, l_7, l_8, l_10, l_15, l_16, l_20, l_26, l_31, l_33, l_37, l_38, l_40, l_41, l_42, l_43, l_44, l_45, l_48, l_57, l_58, l_60, l_61, l_62, l_63, l_64, l_97, l_98, l_99, l_100, l_102, l_105, l_107, l_113, l_114, l_115, l_120, l_126, l_160, l_164, l_242, l_401, l_420, l_640, l_656, l_9999, l_100000]), fun q hq => (by cases hq), fun k i h1 h2 h3 => (by simp (disch := omega) only [↓reduceIte, ↓m1_l,  eq_self, zleN, zlvN, zcaN, zi_N, nI_clamp, zu_s, zu_n, nI_add, pk_mul, pk_subO, nI_eqP, nI_ltP, nI_leP, nI_m1P, nI_m1Q, nI_m1R, nI_m1S, nI_m1U, nI_m1P', if_pos, if_neg, l_0, l_1, l_2, l_3, l_4, l_5, l_6, l_7, l_8, l_10, l_15, l_16, l_20, l_26, l_31, l_33, l_37, l_38, l_40, l_41, l_42, l_43, l_44, l_45, l_48, l_57, l_58, l_60, l_61, l_62, l_63, l_64, l_97, l_98, l_99, l_100, l_102, l_105, l_107, l_113, l_114, l_115, l_120, l_126, l_160, l_164, l_242, l_401, l_420, l_640, l_656, l_9999, l_100000])⟩
  · have c1 : ¬ (T (s + 1) = 98 ∨ T (s + 1) = 107) := by unfold cset at h1; omega
    have t1 : tx r T (ze_u x 16 3 (nI (41 * r + (s + 1)))) := tx_kp ht (zu_k _ _ _ _ (by omega))
    rw [h2, zcall, if_neg c1, tail _ (by rw [zu_s]; exact hne) ⟨_, by
      rw [zu_n _ _ _ _ (by omega), e2]
      exact rd_at hr hz t1 (by omega)⟩]
    exact ⟨_, rfl, bad _ (by omega) _ (fun k hk => rfl) rfl, fun q hq => (by cases hq), fun k i h1 h2 h3 => (by simp (disch := omega) only [↓reduceIte, ↓m1_l,  eq_self, zleN, zlvN, zcaN, zi_N, nI_clamp, zu_s, zu_n, nI_add, pk_mul, pk_subO, nI_eqP, nI_ltP, nI_leP, nI_m1P, nI_m1Q, nI_m1R, nI_m1S, nI_m1U, nI_m1P', if_pos, if_neg, l_0, l_1, l_2, l_3, l_4, l_5, l_6, l_7, l_8, l_10, l_15, l_16, l_20, l_26, l_31, l_33, l_37, l_38, l_40, l_41, l_42, l_43, l_44, l_45, l_48, l_57, l_58, l_60, l_61, l_62, l_63, l_64, l_97, l_98, l_99, l_100, l_102, l_105, l_107, l_113, l_114, l_115, l_120, l_126, l_160, l_164, l_242, l_401, l_420, l_640, l_656, l_9999, l_100000])⟩
end RX
