/-! PURE: the step s -/
theorem xor_sgn (y : Int32) {s : Nat} (hs : s < 2 ^ 31) : (0 ≤ y ^^^ nI s) ↔ 0 ≤ y := by
  have h : ∀ z : Int32, (0 ≤ z) ↔ z.toBitVec.msb = false := by
    intro z
    rw [i32le, show (0 : Int32).toInt = 0 from by decide, BitVec.msb_eq_toInt]
    have : z.toInt = z.toBitVec.toInt := rfl
    rw [this]
    simp
  have hsm : (nI s).toBitVec.msb = false := (h (nI s)).1 (nI_pos' hs)
  rw [h, h, Int32.toBitVec_xor, BitVec.msb_xor, hsm, Bool.xor_false]
theorem fd_eq (y : Int32) {s : Nat} (h1 : 1 ≤ s) (h4 : s ≤ 4) : ∃ z, (∀ v, f_JM_floorDiv y (nI s) v = some (z, v)) ∧ ∀ v, f_M_down y (nI s) v = some (z, v) := by
  have hne : ¬ nI s = 0 := nI_ne0 (by omega) (by omega)
  have hx := xor_sgn y (show s < 2 ^ 31 by omega)
  by_cases c : 0 ≤ y
  · refine ⟨y / nI s, fun v => ?_, fun v => ?_⟩
    · unfold f_JM_floorDiv
      rw [if_neg hne, zlet, if_pos (hx.2 c)]
    · unfold f_M_down
      obtain ⟨j, hj, rfl⟩ := nI_of (Int32.not_lt.mpr c)
      rw [if_neg hne, zlet, if_neg hne, pk_rem hj (by omega) (by omega), if_pos (nI_pos' (Nat.lt_of_le_of_lt (Nat.mod_le _ _) hj))]
  · have hyn : y.toInt < 0 := by
      rw [i32le, show (0 : Int32).toInt = 0 from by decide] at c
      omega
    have hylo := Int32.le_toInt y
    have hst : (nI s).toInt = (s : Int) := nI_toInt (by omega)
    have hd : (y / nI s).toInt = -((-y.toInt) / (s : Int)) := by
      rw [Int32.toInt_div_of_ne_right _ _ (fun q => by
        rw [q] at hst
        have : (-1 : Int32).toInt = -1 := by decide
        omega), hst]
      have e := Int.neg_tdiv (-y.toInt) (s : Int)
      rw [Int.neg_neg] at e
      rw [e, Int.tdiv_eq_ediv_of_nonneg (by omega)]
    have hm : (y / nI s * nI s).toInt = -((-y.toInt) / (s : Int)) * (s : Int) := by
      rw [Int32.toInt_mul, hd, hst]
      apply Int.bmod_eq_of_le
      · have hc : s = 1 ∨ s = 2 ∨ s = 3 ∨ s = 4 := by omega
        rcases hc with rfl | rfl | rfl | rfl <;> simp <;> omega
      · have hc : s = 1 ∨ s = 2 ∨ s = 3 ∨ s = 4 := by omega
        rcases hc with rfl | rfl | rfl | rfl <;> simp <;> omega
    have hr : (y - y / nI s * nI s).toInt = y.toInt - -((-y.toInt) / (s : Int)) * (s : Int) := by
      rw [Int32.toInt_sub, hm]
      apply Int.bmod_eq_of_le
      · have hc : s = 1 ∨ s = 2 ∨ s = 3 ∨ s = 4 := by omega
        rcases hc with rfl | rfl | rfl | rfl <;> simp <;> omega
      · have hc : s = 1 ∨ s = 2 ∨ s = 3 ∨ s = 4 := by omega
        rcases hc with rfl | rfl | rfl | rfl <;> simp <;> omega
    have key : (0 ≤ y - y / nI s * nI s) ↔ y / nI s * nI s = y := by
      rw [i32le, show (0 : Int32).toInt = 0 from by decide, hr, ← Int32.toInt_inj, hm]
      have hc : s = 1 ∨ s = 2 ∨ s = 3 ∨ s = 4 := by omega
      rcases hc with rfl | rfl | rfl | rfl <;> simp <;> omega
    by_cases c2 : y / nI s * nI s = y
    · refine ⟨y / nI s, fun v => ?_, fun v => ?_⟩
      · unfold f_JM_floorDiv
        rw [if_neg hne, zlet, if_neg (fun q => c (hx.1 q)), if_pos c2]
      · unfold f_M_down
        rw [if_neg hne, zlet, if_neg hne, if_pos (key.2 c2)]
    · refine ⟨y / nI s - 1, fun v => ?_, fun v => ?_⟩
      · unfold f_JM_floorDiv
        rw [if_neg hne, zlet, if_neg (fun q => c (hx.1 q)), if_neg c2]
      · unfold f_M_down
        rw [if_neg hne, zlet, if_neg hne, if_neg (fun q => c2 (key.1 q))]
section SP
variable {n : Nat → Nat} {T : Nat → Nat → Nat} {tb x m : ze_H} {G R a r p q e l t dd : Nat}
/-- an exchange begins on both sides -/
theorem RS_begin {b y : Int32} {e1 l1 : Nat} (h : RS n T tb G R a x m) (he : e1 < 16) (hl : l1 < 16) : RS n T tb G R a (ze_u (ze_u (ze_u (ze_u (ze_u x (58 + e1) 0 b) (58 + e1) 1 y) (58 + e1) 2 b) (58 + e1) 3 0) 74 0 (x 74 0 + 1)) (ze_u (ze_u (ze_u (ze_u m 108 l1 b) 109 l1 y) 110 l1 b) 119 0 (m 119 0 + 1)) := by
  obtain ⟨h1, h2, h3, h4, h5, h6, h7, h8, h9, h10, h11, h12⟩ := h
  have hx : ∀ k i, ¬ (58 ≤ k ∧ k ≤ 73) → ¬ (k = 74 ∧ i = 0) → ze_u (ze_u (ze_u (ze_u (ze_u x (58 + e1) 0 b) (58 + e1) 1 y) (58 + e1) 2 b) (58 + e1) 3 0) 74 0 (x 74 0 + 1) k i = x k i := fun k i c1 c2 => by simp (disch := omega) only [zu_n]
  have hm : ∀ k i, ¬ (108 ≤ k ∧ k ≤ 110) → ¬ (k = 119 ∧ i = 0) → ze_u (ze_u (ze_u (ze_u m 108 l1 b) 109 l1 y) 110 l1 b) 119 0 (m 119 0 + 1) k i = m k i := fun k i c1 c2 => by simp (disch := omega) only [zu_n]
  refine ⟨kp_tab h1 (fun k i hk => hx k i (by omega) (by omega)), kp_mt h2 (fun k i hk => hm k i (by omega) (by omega)), ⟨fun k hk => ?_, ?_, ?_⟩, kp_cls h4 (fun k i hk => hx k i (by omega) (by omega)) (fun k i hk => hm k i (by omega) (by omega)), kp_ep h5 (fun k i hk => hx k i (by omega) (by omega)) (fun k i hk => hm k i (by omega) (by omega)), kp_got h6 (fun k i hk => hx k i (by omega) (by omega)) (fun k i hk => hm k i (by omega) (by omega)), kp_que h7 (fun k i hk => hx k i (by omega) (by omega)) (fun k i hk => hm k i (by omega) (by omega)), kp_grp h8 (fun k i hk => hx k i (by omega) (by omega)) (fun k i hk => hm k i (by omega) (by omega)), kp_i h9 (fun k i hk => hx k i (by omega) (by omega)) (fun k i hk => hm k i (by omega) (by omega)), kp_q h10 (fun k i hk => hx k i (by omega) (by omega)) (fun k i hk => hm k i (by omega) (by omega)), kp_rdy h11 (Nat.le_refl _) (fun k i hk => hx k i (by omega) (by omega)) (fun k i hk => hm k i (by omega) (by omega)), kp_att h12 (fun k i hk => hx k i (by omega) (by omega)) (fun k i hk => hm k i (by omega) (by omega))⟩
  · by_cases c : k = 0
    · subst c
      rw [zu_s, zu_s, h3.1 0 hk]
    · rw [hx _ _ (by omega) (by omega), hm _ _ (by omega) (by omega)]
      exact h3.1 k hk
  · rw [hx _ _ (by omega) (by omega), hm _ _ (by omega) (by omega)]
    exact h3.2.1
  · rw [hx _ _ (by omega) (by omega), hm _ _ (by omega) (by omega)]
    exact h3.2.2
theorem px_begin {b y : Int32} {e1 : Nat} (he : e1 < 16) : f_E_begin (58 + e1) b y x = some (0, ze_u (ze_u (ze_u (ze_u (ze_u x (58 + e1) 0 b) (58 + e1) 1 y) (58 + e1) 2 b) (58 + e1) 3 0) 74 0 (x 74 0 + 1)) := by
  unfold f_E_begin
  have z0 : ∀ t, ze_in (0 : Int32) 8 t = t := fun t => zi_nI (j := 0) (by omega) (by omega) t
  have c0 : Int32.toNatClampNeg 0 = 0 := rfl
  simp only [z0, c0, zlvN]
  simp (disch := omega) only [zu_n]
theorem pm_begin {b y : Int32} {l1 : Nat} (hl : l1 < 16) (e40 : m 75 40 = nI l1) : f_M_begin b y m = some (0, ze_u (ze_u (ze_u (ze_u m 108 l1 b) 109 l1 y) 110 l1 b) 119 0 (m 119 0 + 1)) := by
  unfold f_M_begin
  have z0 : ∀ t, ze_in (0 : Int32) 8 t = t := fun t => zi_nI (j := 0) (by omega) (by omega) t
  have c0 : Int32.toNatClampNeg 0 = 0 := rfl
  rw [e40, zi_nI hl (by omega), nI_clamp (by omega)]
  simp (disch := omega) only [zlvN, zu_n, e40, zi_N, nI_clamp, z0, c0]
/-- the frame of a step s -/
def FS (r q b0 s t : Nat) (B : Int32) (i : Nat) (S : Int32) (m : ze_H) : Prop := m 75 44 = nI (t + 1) ∧ m 111 t = 2 ∧ m 112 t = nI r ∧ m 113 t = nI q ∧ m 114 t = nI b0 ∧ m 115 t = nI s ∧ m 116 t = nI i ∧ m 117 t = S ∧ m 118 t = B
theorem m_part_more {b0 s i : Nat} {B S z : Int32} (F : FS r q b0 s t B i S m) (ht : t < 19) (hl : l + 1 < 16) (hs : s ≤ 4) (hi : i < s) (e40 : m 75 40 = nI l) (hz : ∀ v, f_M_down (B + nI i) (nI s) v = some (z, v)) : ∃ m1, f_M_part m = some (0, m1) ∧ m1 = ze_u (ze_u (ze_u (ze_u (ze_u (ze_u (ze_u (ze_u m 75 53 (nI r)) 75 40 (nI (l + 1))) 108 (l + 1) z) 109 (l + 1) (m 109 l)) 110 (l + 1) z) 119 0 (m 119 0 + 1)) 116 t (nI (i + 1))) 75 54 (nI b0) := by
  obtain ⟨f1, f2, f3, f4, f5, f6, f7, f8, f9⟩ := F
  refine ⟨_, ?_, rfl⟩
  unfold f_M_part
  rw [zlet, f1, nI_pred, zi_nI (by omega) (by omega), nI_clamp (by omega), f3, zlev]
  have a5 : ze_u m 75 53 (nI r) 115 t = nI s := by rw [zu_n _ _ _ _ (by omega)]; exact f6
  have a6 : ze_u m 75 53 (nI r) 116 t = nI i := by rw [zu_n _ _ _ _ (by omega)]; exact f7
  have a4 : ze_u m 75 53 (nI r) 75 40 = nI l := by rw [zu_n _ _ _ _ (by omega)]; exact e40
  have b8 : ze_u (ze_u m 75 53 (nI r)) 75 40 (nI (l + 1)) 118 t = B := by rw [zu_n _ _ _ _ (by omega), zu_n _ _ _ _ (by omega)]; exact f9
  have b6 : ze_u (ze_u m 75 53 (nI r)) 75 40 (nI (l + 1)) 116 t = nI i := by rw [zu_n _ _ _ _ (by omega), zu_n _ _ _ _ (by omega)]; exact f7
  have b5 : ze_u (ze_u m 75 53 (nI r)) 75 40 (nI (l + 1)) 115 t = nI s := by rw [zu_n _ _ _ _ (by omega), zu_n _ _ _ _ (by omega)]; exact f6
  rw [zi_nI (show t < 20 by omega) (by omega), zi_nI (show t < 20 by omega) (by omega), a5, a6, if_neg (nI_ge hi (by omega)), a4, zi_nI (show l < 16 by omega) (by omega), zlet, zlev, nI_clamp (show l < 2 ^ 31 by omega), nI_1, zi_nI (show t < 20 by omega) (by omega), zi_nI (show t < 20 by omega) (by omega), zi_nI (show t < 20 by omega) (by omega), b8, b6, b5, hz, zcall, pm_begin hl (zu_s _ _ _ _), zcall]
  simp (disch := omega) only [zi_N, nI_clamp, zlvN, zu_n, f7, f5, nI_1]
theorem m_part_done {b0 s : Nat} {B S : Int32} (F : FS r q b0 s t B s S m) (ht : t < 19) (hl : l < 16) (hs : s ≤ 4) (e40 : m 75 40 = nI l) : f_M_part m = some (0, ze_u (ze_u (ze_u (ze_u m 75 53 (nI r)) 108 l S) 75 54 (nI q)) 75 44 (nI t)) := by
  obtain ⟨f1, f2, f3, f4, f5, f6, f7, f8, f9⟩ := F
  unfold f_M_part
  rw [zlet, f1, nI_pred, zi_nI (by omega) (by omega), nI_clamp (by omega), f3, zlev]
  have a5 : ze_u m 75 53 (nI r) 115 t = nI s := by rw [zu_n _ _ _ _ (by omega)]; exact f6
  have a6 : ze_u m 75 53 (nI r) 116 t = nI s := by rw [zu_n _ _ _ _ (by omega)]; exact f7
  have a4 : ze_u m 75 53 (nI r) 75 40 = nI l := by rw [zu_n _ _ _ _ (by omega)]; exact e40
  rw [zi_nI (show t < 20 by omega) (by omega), zi_nI (show t < 20 by omega) (by omega), a5, a6, if_pos (nI_le (Nat.le_refl _) (by omega)), a4]
  simp (disch := omega) only [zi_N, nI_clamp, zlvN, zu_n, f8, f4, f1, nI_pred]
/-- back to the frame of the step s -/
theorem m_pop {b1 : Int32} (kk : ze_H → Option (Int32 × ze_H)) : ∀ (d t1 N : Nat) (m : ze_H), t + 1 + d = t1 → t1 ≤ 19 → d < N → m 75 44 = nI t1 → m 111 t = 2 → (∀ i, t + 1 ≤ i → i < t1 → m 111 i = 0 ∨ m 111 i = 1) → f_M_finish_L19 b1 kk N m = kk (ze_u m 75 44 (nI (t + 1)))
  | 0, t1, N, m, hd, ht1, hN, e44, f2, hk => by
    obtain ⟨N, rfl⟩ : ∃ N', N = N' + 1 := ⟨N - 1, by omega⟩
    have : t1 = t + 1 := by omega
    subst this
    rw [f_M_finish_L19]
    rw [e44, nI_pred, zi_nI (by omega) (by omega), nI_clamp (by omega), f2, if_pos rfl, zu_id e44]
  | d + 1, t1, N, m, hd, ht1, hN, e44, f2, hk => by
    obtain ⟨N, rfl⟩ : ∃ N', N = N' + 1 := ⟨N - 1, by omega⟩
    obtain ⟨t2, rfl⟩ : ∃ t2, t1 = t2 + 1 := ⟨t1 - 1, by omega⟩
    have h2 : ¬ m 111 t2 = 2 := by
      rcases hk t2 (by omega) (by omega) with h | h <;> rw [h] <;> decide
    rw [f_M_finish_L19]
    rw [e44, nI_pred, zi_nI (by omega) (by omega), nI_clamp (by omega), if_neg h2, zlev, m_pop kk d t2 N (ze_u m 75 44 (nI t2)) (by omega) (by omega) (by omega) (zu_s _ _ _ _) (by rw [zu_n _ _ _ _ (by omega)]; exact f2) (fun i h1 h2 => by rw [zu_n _ _ _ _ (by omega)]; exact hk i h1 (by omega)), zu_uu]
theorem m_fin_0 {oc t1 : Nat} (ho : ¬ oc = 1) (ho7 : oc ≤ 7) (ht : t + 1 ≤ t1) (ht1 : t1 ≤ 19) (hl : l + 1 < 16) (e40 : m 75 40 = nI (l + 1)) (e44 : m 75 44 = nI t1) (f2 : m 111 t = 2) (hk : ∀ i, t + 1 ≤ i → i < t1 → m 111 i = 0 ∨ m 111 i = 1) : fin2 (nI oc) m = ze_call (f_M_part (ze_u (ze_u m 75 44 (nI (t + 1))) 75 40 (nI l))) (fun r6 v7 => some (0, v7)) := by
  unfold fin2
  rw [e40, if_neg (nI_ne0 (by omega) (by omega)), m_pop _ (t1 - (t + 1)) t1 200000 m (by omega) ht1 (by omega) e44 f2 hk, if_neg (show ¬ nI oc = 1 by rw [l_1, nI_eqP (by omega) (by omega)]; exact ho)]
  unfold f_M_finish_J75
  rw [zlev, zu_n _ _ _ _ (by omega), e40, nI_pred]
theorem m_fin_1 (ht : t < 19) (hl : l + 1 < 16) (e40 : m 75 40 = nI (l + 1)) (e44 : m 75 44 = nI (t + 1)) (f2 : m 111 t = 2) : fin2 (nI 1) m = ze_call (f_M_part (ze_u (ze_u m 117 t (m 117 t + m 108 (l + 1))) 75 40 (nI l))) (fun r6 v7 => some (0, v7)) := by
  unfold fin2
  rw [e40, if_neg (nI_ne0 (by omega) (by omega)), m_pop _ 0 (t + 1) 200000 m (by omega) (by omega) (by omega) e44 f2 (fun i h1 h2 => by omega), if_pos (show nI 1 = 1 from rfl), zu_id e44, e44, nI_pred, e40, zi_nI (by omega) (by omega), zi_nI (by omega) (by omega), zi_nI (by omega) (by omega), nI_clamp (by omega), nI_clamp (by omega), zlev]
  unfold f_M_finish_J75
  rw [zlev, zu_n _ _ _ _ (by omega), e40, nI_pred]
theorem m_close2 (ht : t < 19) (e44 : m 75 44 = nI (t + 1)) (f2 : m 111 t = 2) : f_M_close m = ze_call (fin2 (nI 1) (cup 1 m)) (fun r3 v4 => some (r3, v4)) := by
  unfold f_M_close
  rw [e44, if_neg (nI_ne0 (by omega) (by omega)), nI_pred, zi_nI (by omega) (by omega), nI_clamp (by omega), f2, if_pos rfl, show (1 : Int32) = nI 1 from rfl, fin_eq (by omega) (by omega)]
end SP
