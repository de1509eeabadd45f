/-! PURE: the class's reader: whole lists, whole texts -/
def XO (T : Nat → Nat) (n r f : Nat) : Prop := ∀ (d p D j N : Nat) (x : ze_H), n < f + p → p ≤ n → d ≤ 3 → 4 ≤ d + D → j ≤ p → n < N + p → tx r T x → x 16 1 = nI r → x 16 3 = -1 → x 16 2 = nI (41 * r + p) →
  ∃ x1, f_R_readList_L2 (f_xRD D) (nI d) (fun v => some (0, v)) N (nI j) x = some (0, x1) ∧ RP r p x x1 (slx T r f d p) ∧ ∀ e, sl T r f d p = .inr e → wt T r x1 2 f d p
theorem XO_XL {T : Nat → Nat} {n r f : Nat} (h40 : n ≤ 40) (h : XO T n r f) : XL T n r f := by
  intro d p D x h1 h2 h3 h4 h5 h6 h7 h8
  obtain ⟨x1, k1, k2, k3⟩ := h d p D 0 200000 x h1 h2 h3 h4 (by omega) (by omega) h5 h6 h7 h8
  refine ⟨x1, ?_, k2, k3⟩
  show f_R_readList (f_xRD D) (nI d) x = _
  unfold f_R_readList
  rw [zlet]
  exact k1
theorem RP_refl {r s p : Nat} {x : ze_H} (e3 : x 16 3 = -1) (e2 : x 16 2 = nI (41 * r + p)) : RP r s x x (.inr p) := by
  refine ⟨fun k h1 h2 => rfl, rfl, fun e he => (by cases he), fun q hq => ?_⟩
  injection hq with hq
  subst hq
  exact ⟨e3, e2, fun k i h1 h2 h3 => rfl⟩
theorem XO_all {T : Nat → Nat} {n r : Nat} (hr : r < 4) (hz : tz n T) : ∀ f, XO T n r f
  | 0 => fun d p D j N x h1 h2 h3 h4 hj hN ht e1 e3 e2 => by omega
  | f + 1 => fun d p D j N x h1 h2 h3 h4 hj hN ht e1 e3 e2 => by
    have h40 := hz.1
    have hT := tz_le hz p
    obtain ⟨N, rfl⟩ : ∃ N', N = N' + 1 := ⟨N - 1, by omega⟩
    have hd0 : (nI d ≤ 0) = (d ≤ 0) := by rw [l_0, nI_leP (by omega) (by omega)]
    have rest : T p ≠ 0 → ¬ (T p = 41 ∧ 0 < d) → ∃ x1, ze_call (f_R_readStep (f_xRD D) (nI (T p)) (nI d) x) (fun r10 v11 => ze_let (nI j + 1) (fun x12 => f_R_readList_L2 (f_xRD D) (nI d) (fun v => some (0, v)) N x12 v11)) = some (0, x1) ∧ RP r p x x1 (slx T r (f + 1) d p) ∧ ∀ e, sl T r (f + 1) d p = .inr e → wt T r x1 2 (f + 1) d p := by
      intro c1 c2
      have hp : p < n := tz_lt hz c1
      obtain ⟨v7, k1, k2, k3⟩ := rd_step hr hz (XO_XL h40 (XO_all hr hz f)) (x := x) (d := d) (s := p) (D := D) hp (by omega) h3 h4 ht e1 e3 e2
      rw [k1, zcall, zlet, l_1, nI_add]
      unfold slx
      rw [sl_s, if_neg c1, if_neg c2]
      cases hsp : sp T r (sl T r f) d p with
      | inl e =>
        rw [hsp] at k2
        have he := sp_inl hz (sl_er hz f) hp hsp
        obtain ⟨N, rfl⟩ : ∃ N', N = N' + 1 := ⟨N - 1, by omega⟩
        refine ⟨v7, ?_, k2, fun e he => (by cases he)⟩
        unfold f_R_readList_L2
        rw [if_neg (RP_ne k2 (by omega) hr), ite_self]
      | inr q =>
        rw [hsp] at k2 k3
        have hq := sp_end hz hsp
        obtain ⟨x1, m1, m2, m3⟩ := XO_all hr hz f d q D (j + 1) N v7 (by omega) hq.2 h3 h4 (by omega) (by omega) (tx_kp ht (k2.1 3 (by omega) (by omega))) (k2.2.1.trans e1) (k2.2.2.2 q rfl).1 (k2.2.2.2 q rfl).2.1
        have hmono : ∀ q', slx T r f d q = .inr q' → q ≤ q' := by
          intro q' hq'
          unfold slx at hq'
          obtain ⟨a, ha, hb⟩ := sb_inr hq'
          have := sl_ok hz f d q a hq.2 ha
          injection hb with hb
          split at hb <;> omega
        refine ⟨x1, m1, RP_trans k2 m2 (by omega) hmono, fun e he => ?_⟩
        rw [sb_r] at he
        refine Or.inr (Or.inr ⟨q, hsp, wst_kp hz hsp (fun k i h1 h2 h3 h4 => ?_) (k3 q rfl), m3 e he⟩)
        have he' : slx T r f d q = .inr (if 0 < d then e + 1 else e) := by
          unfold slx
          rw [he, sb_r]
        exact (m2.2.2.2 _ he').2.2 k i (by omega) (by omega) (by omega)
    unfold f_R_readList_L2
    rw [if_neg (show ¬ (40 : Int32) < nI j by rw [l_40, nI_ltP (by omega) (by omega)]; omega), if_pos e3, e2, rd_at hr hz ht (by omega), zcall, zlet]
    by_cases c1 : T p = 0
    · rw [c1, if_pos (by decide)]
      simp only [hd0]
      unfold slx
      rw [sl_s, if_pos c1]
      by_cases c0 : 0 < d
      · rw [if_pos c0, if_neg (by omega), zlev, e2]
        exact ⟨_, rfl, RP_err, fun e he => (by cases he)⟩
      · rw [if_neg c0, if_pos (by omega), sb_r, if_neg c0]
        exact ⟨_, rfl, RP_refl e3 e2, fun e he => Or.inl c1⟩
    · rw [if_neg (show ¬ nI (T p) = 0 by rw [l_0, nI_eqP (by omega) (by omega)]; exact c1)]
      by_cases c2 : T p = 41
      · rw [if_pos (show nI (T p) = 41 by rw [c2]; rfl)]
        simp only [hd0]
        by_cases c0 : 0 < d
        · rw [if_neg (by omega), zlev, e2]
          unfold slx
          rw [sl_s, if_neg c1, if_pos ⟨c2, c0⟩, sb_r, if_pos c0, show nI (41 * r + p) + 1 = nI (41 * r + (p + 1)) by rw [l_1, nI_add, Nat.add_assoc]]
          exact ⟨_, rfl, RP_spot e3, fun e he => Or.inr (Or.inl ⟨c2, c0⟩)⟩
        · rw [if_pos (by omega)]
          exact rest c1 (fun c => c0 c.2)
      · rw [if_neg (show ¬ nI (T p) = 41 by rw [l_41, nI_eqP (by omega) (by omega)]; exact c2)]
        exact rest c1 (fun c => c2 c.1)
/-- the class's reader on a text -/
theorem rd_text {T : Nat → Nat} {n r : Nat} (hr : r < 4) (hz : tz n T) {x : ze_H} (ht : tx r T x) :
    ∃ x1, (∀ k, ¬ (4 ≤ k ∧ k ≤ 8) → k ≠ 16 → x1 k = x k) ∧
      (∀ e, sl T r 41 0 0 = .inl e → f_R_firstError (nI r) x = some (nI e, x1) ∧ e ≤ n) ∧
      (∀ e, sl T r 41 0 0 = .inr e → f_R_firstError (nI r) x = some (-1, x1) ∧ wt T r x1 2 41 0 0 ∧ ∀ k i, 4 ≤ k → k ≤ 8 → ¬ (41 * r ≤ i ∧ i < 41 * r + n) → x1 k i = x k i) := by
  have h40 := hz.1
  have hm : nI r * 41 = nI (41 * r) := by
    rw [show (41 : Int32) = nI 41 from rfl, pk_mul, Nat.mul_comm]
  obtain ⟨x1, k1, k2, k3⟩ := XO_XL h40 (XO_all hr hz 41) 0 0 5 (ze_u (ze_u (ze_u x 16 1 (nI r)) 16 2 (nI (41 * r))) 16 3 (-1)) (by omega) (by omega) (by omega) (by omega) (tx_kp ht (by rw [zu_k _ _ _ _ (by omega), zu_k _ _ _ _ (by omega), zu_k _ _ _ _ (by omega)])) (by simp (disch := omega) only [↓reduceIte, ↓m1_l,  eq_self, zleN, zlvN, zcaN, zi_N, nI_clamp, zu_s, zu_n, nI_add, pk_mul, pk_subO, nI_eqP, nI_ltP, nI_leP, nI_m1P, nI_m1Q, nI_m1R, nI_m1S, nI_m1U, nI_m1P', if_pos, if_neg, l_0, l_1, l_2, l_3, l_4, l_5, l_6, l_7, l_8, l_10, l_15, l_16, l_20, l_26, l_31, l_33, l_37, l_38, l_40, l_41, l_42, l_43, l_44, l_45, l_48, l_57, l_58, l_60, l_61, l_62, l_63, l_64, l_97, l_98, l_99, l_100, l_102, l_105, l_107, l_113, l_114, l_115, l_120, l_126, l_160, l_164, l_242, l_401, l_420, l_640, l_656, l_9999, l_100000]) (by simp (disch := omega) only [↓reduceIte, ↓m1_l,  eq_self, zleN, zlvN, zcaN, zi_N, nI_clamp, zu_s, zu_n, nI_add, pk_mul, pk_subO, nI_eqP, nI_ltP, nI_leP, nI_m1P, nI_m1Q, nI_m1R, nI_m1S, nI_m1U, nI_m1P', if_pos, if_neg, l_0, l_1, l_2, l_3, l_4, l_5, l_6, l_7, l_8, l_10, l_15, l_16, l_20, l_26, l_31, l_33, l_37, l_38, l_40, l_41, l_42, l_43, l_44, l_45, l_48, l_57, l_58, l_60, l_61, l_62, l_63, l_64, l_97, l_98, l_99, l_100, l_102, l_105, l_107, l_113, l_114, l_115, l_120, l_126, l_160, l_164, l_242, l_401, l_420, l_640, l_656, l_9999, l_100000]) (by simp (disch := omega) only [↓reduceIte, ↓m1_l,  eq_self, zleN, zlvN, zcaN, zi_N, nI_clamp, zu_s, zu_n, nI_add, pk_mul, pk_subO, nI_eqP, nI_ltP, nI_leP, nI_m1P, nI_m1Q, nI_m1R, nI_m1S, nI_m1U, nI_m1P', if_pos, if_neg, l_0, l_1, l_2, l_3, l_4, l_5, l_6, l_7, l_8, l_10, l_15, l_16, l_20, l_26, l_31, l_33, l_37, l_38, l_40, l_41, l_42, l_43, l_44, l_45, l_48, l_57, l_58, l_60, l_61, l_62, l_63, l_64, l_97, l_98, l_99, l_100, l_102, l_105, l_107, l_113, l_114, l_115, l_120, l_126, l_160, l_164, l_242, l_401, l_420, l_640, l_656, l_9999, l_100000, Nat.add_zero])
  unfold f_R_firstError
  rw [zlev, zlev, zlev, hm, show (0 : Int32) = nI 0 from rfl, k1, zcall]
  unfold slx at k2
  refine ⟨x1, fun k h1 h2 => ?_, fun e he => ?_, fun e he => ?_⟩
  · rw [k2.1 k h1 h2, zu_k _ _ _ _ h2, zu_k _ _ _ _ h2, zu_k _ _ _ _ h2]
  · rw [he] at k2
    have hen := sl_er hz 41 0 0 e (by omega) he
    have h3 := k2.2.2.1 e rfl
    rw [if_neg (RP_ne k2 (by omega) hr), h3, pk_sub (by omega)]
    refine ⟨?_, hen⟩
    rw [show 41 * r + e - 41 * r = e by omega]
  · rw [he] at k2
    have hen := sl_ok hz 41 0 0 e (by omega) he
    have h3 := k2.2.2.2 e rfl
    rw [if_pos h3.1]
    refine ⟨rfl, k3 e he, fun k i h1 h2 h3' => ?_⟩
    rw [h3.2.2 k i h1 h2 (by omega)]
    simp (disch := omega) only [↓reduceIte, ↓m1_l,  eq_self, zleN, zlvN, zcaN, zi_N, nI_clamp, zu_s, zu_n, nI_add, pk_mul, pk_subO, nI_eqP, nI_ltP, nI_leP, nI_m1P, nI_m1Q, nI_m1R, nI_m1S, nI_m1U, nI_m1P', if_pos, if_neg, l_0, l_1, l_2, l_3, l_4, l_5, l_6, l_7, l_8, l_10, l_15, l_16, l_20, l_26, l_31, l_33, l_37, l_38, l_40, l_41, l_42, l_43, l_44, l_45, l_48, l_57, l_58, l_60, l_61, l_62, l_63, l_64, l_97, l_98, l_99, l_100, l_102, l_105, l_107, l_113, l_114, l_115, l_120, l_126, l_160, l_164, l_242, l_401, l_420, l_640, l_656, l_9999, l_100000]
