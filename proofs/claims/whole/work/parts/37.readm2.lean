/-! PURE: the reference's reader: steps and lists -/
def fr (m m1 : ze_H) : Prop := (∀ k, k ≠ 75 → k ≠ 80 → m1 k = m k) ∧ ∀ i, i ≠ 5 → i ≠ 6 → m1 75 i = m 75 i
theorem fr_t {m m1 m2 : ze_H} (h : fr m m1) (h2 : fr m1 m2) : fr m m2 := ⟨fun k a b => (h2.1 k a b).trans (h.1 k a b), fun i a b => (h2.2 i a b).trans (h.2 i a b)⟩
theorem fr_0 (m : ze_H) : fr m m := ⟨fun _ _ _ => rfl, fun _ _ _ => rfl⟩
theorem fr_5 {m m1 : ze_H} (h : fr m m1) {i : Nat} (hi : i = 5 ∨ i = 6) (y : Int32) : fr m (ze_u m1 75 i y) := ⟨fun k a b => by rw [zu_k _ _ _ _ a]; exact h.1 k a b, fun j a b => by rw [zu_n _ _ _ _ (by omega)]; exact h.2 j a b⟩
theorem fr_80 {m m1 : ze_H} (h : fr m m1) {i : Nat} (y : Int32) : fr m (ze_u m1 80 i y) := ⟨fun k a b => by rw [zu_k _ _ _ _ b]; exact h.1 k a b, fun j a b => by rw [zu_n _ _ _ _ (by omega)]; exact h.2 j a b⟩
theorem fr_mx {r n : Nat} {T : Nat → Nat} {m m1 : ze_H} (h : mx r n T m) (f : fr m m1) : mx r n T m1 := mx_kp h (f.1 76 (by omega) (by omega)) (f.1 77 (by omega) (by omega))
/-- the loop of the reference's reader -/
def mL (r N p : Nat) (m : ze_H) : Option (Int32 × ze_H) := f_M_errorOf_L12 (nI r) (fun v12 => f_M_errorOf_J59 (nI r) v12) N (nI p) m
def MR (r N p d : Nat) (m : ze_H) (t : Option (Int32 × ze_H)) (res : Sum Nat Nat) : Prop :=
  (∀ e, res = .inl e → ∃ m1, t = some (nI e, m1) ∧ fr m m1) ∧
  (∀ q, res = .inr q → ∃ m1 N1, N + p ≤ N1 + q ∧ t = mL r N1 q m1 ∧ fr m m1 ∧ m1 75 5 = nI d ∧ m1 75 6 = -1 ∧ ∀ i, i < d → m1 80 i = m 80 i)
section RM
variable {r n : Nat} {T : Nat → Nat} {m : ze_H}
theorem md_enter1 (hr : r < 4) (hz : tz n T) {d q : Nat} {b : Int32} (hd : d < 3) (hT : T q = 40) (ht : mx r n T m) (e5 : m 75 5 = nI d) (e6 : m 75 6 = -1) : f_M_enter (nI r) (nI q) b m = some (nI (q + 1), ze_u (ze_u m 80 d b) 75 5 (nI (d + 1))) := by
  have h40 := hz.1
  have hq : q < n := tz_lt hz (by omega)
  unfold f_M_enter
  rw [md_look hr hz ht (by omega), zcall, hT, if_pos (show nI 40 = 40 by decide), e5, if_neg (show ¬ (3 : Int32) ≤ nI d by rw [l_3, nI_leP (by omega) (by omega)]; omega), md_must1 hr hz ht e6 hq (by decide), zcall, if_neg (show ¬ (1 : Int32) = 0 by decide), e5, zi_nI (by omega) (by omega), nI_clamp (by omega), zlev, zlev, zu_n _ _ _ _ (by omega), e5, nI_1, nI_1]
theorem md_enter0 (hr : r < 4) (hz : tz n T) {d q : Nat} {b : Int32} (hd : d ≤ 3) (hq : q ≤ n) (hT : ¬ (d < 3 ∧ T q = 40)) (ht : mx r n T m) (e5 : m 75 5 = nI d) (e6 : m 75 6 = -1) : f_M_enter (nI r) (nI q) b m = some (nI q, ze_u m 75 6 (nI q)) := by
  have h40 := hz.1
  have hT2 := tz_le hz q
  unfold f_M_enter
  rw [md_look hr hz ht (by omega), zcall]
  by_cases c : T q = 40
  · rw [if_pos (show nI (T q) = 40 by rw [c]; rfl), e5, if_pos (show (3 : Int32) ≤ nI d by rw [l_3, nI_leP (by omega) (by omega)]; omega), md_must0 hr hz ht e6 hq (Or.inl rfl), zcall, if_pos rfl]
  · rw [if_neg (show ¬ nI (T q) = 40 by rw [l_40, nI_eqP (by omega) (by omega)]; exact c), md_must0 hr hz ht e6 hq (Or.inl rfl), zcall, if_pos rfl]
theorem md_leave0 (hr : r < 4) (hz : tz n T) {p : Nat} (hp : p ≤ n) (ht : mx r n T m) (e5 : m 75 5 = nI 0) (e6 : m 75 6 = -1) : f_M_leave (nI r) (nI p) m = some (nI p, ze_u m 75 6 (nI p)) := by
  unfold f_M_leave
  rw [e5, if_pos (show nI 0 ≤ 0 by decide), md_must0 hr hz ht e6 hp (Or.inl rfl), zcall, if_pos rfl]
/-- out of parentheses, no other list behind -/
theorem md_leave1 (hr : r < 4) (hz : tz n T) {p d : Nat} (hp : p < n) (hd : d < 4) (ht : mx r n T m) (e5 : m 75 5 = nI (d + 1)) (e6 : m 75 6 = -1) (h : ¬ m 80 d = 1 ∨ ¬ T (p + 1) = 58) : f_M_leave (nI r) (nI p) m = some (nI (p + 1), ze_u m 75 5 (nI d)) := by
  have h40 := hz.1
  have hT := tz_le hz (p + 1)
  have hx : mx r n T (ze_u m 75 5 (nI d)) := mx_kp ht (zu_k _ _ _ _ (by omega)) (zu_k _ _ _ _ (by omega))
  unfold f_M_leave
  rw [e5, if_neg (show ¬ nI (d + 1) ≤ 0 by rw [l_0, nI_leP (by omega) (by omega)]; omega), md_must1 hr hz ht e6 hp (by decide), zcall, if_neg (show ¬ (1 : Int32) = 0 by decide), e5, nI_pred, zlev, zu_s, zi_nI (by omega) (by omega), nI_clamp (by omega), zu_n _ _ _ _ (by omega)]
  have hJ : f_M_leave_J75 (nI r) (nI p) (ze_u m 75 5 (nI d)) = some (nI (p + 1), ze_u m 75 5 (nI d)) := by
    unfold f_M_leave_J75 f_M_leave_J76
    rw [zlet, if_pos rfl, nI_1]
  by_cases c1 : m 80 d = 1
  · rw [if_pos c1, zi_nI (by omega) (by omega), nI_clamp (by omega), hx.1, nI_1]
    by_cases c2 : n ≤ p + 1
    · rw [if_pos (nI_le c2 (by omega)), hJ]
    · rw [if_neg (nI_ge (by omega) (by omega)), md_look hr hz hx (by omega), zcall, if_neg (show ¬ nI (T (p + 1)) = 58 by rw [l_58, nI_eqP (by omega) (by omega)]; exact h.resolve_left (fun g => g c1)), hJ]
  · rw [if_neg c1, hJ]
/-- out of parentheses, another list behind -/
theorem md_leave2 (hr : r < 4) (hz : tz n T) {p d : Nat} (hd : d < 4) (ht : mx r n T m) (e5 : m 75 5 = nI (d + 1)) (e6 : m 75 6 = -1) (h1 : m 80 d = 1) (h2 : T (p + 1) = 58) : f_M_leave (nI r) (nI p) m = ze_call (f_M_enter (nI r) (nI (p + 2)) 0 (ze_u m 75 5 (nI d))) (fun r5 v6 => some (r5, v6)) := by
  have h40 := hz.1
  have hp : p + 1 < n := tz_lt hz (by omega)
  have hx : mx r n T (ze_u m 75 5 (nI d)) := mx_kp ht (zu_k _ _ _ _ (by omega)) (zu_k _ _ _ _ (by omega))
  unfold f_M_leave
  rw [e5, if_neg (show ¬ nI (d + 1) ≤ 0 by rw [l_0, nI_leP (by omega) (by omega)]; omega), md_must1 hr hz ht e6 (show p < n by omega) (by decide), zcall, if_neg (show ¬ (1 : Int32) = 0 by decide), e5, nI_pred, zlev, zu_s, zi_nI (by omega) (by omega), nI_clamp (by omega), zu_n _ _ _ _ (by omega), if_pos h1, zi_nI (by omega) (by omega), nI_clamp (by omega), hx.1, nI_1, if_neg (nI_ge hp (by omega)), md_look hr hz hx (by omega), zcall, h2, if_pos (show nI 58 = 58 by decide)]
  unfold f_M_leave_J76
  rw [zlet, if_neg (show ¬ (1 : Int32) = 0 by decide), show nI p + 2 = nI (p + 2) from nI_add p 2]
/-- an error ends the loop -/
theorem mL_er (hr : r < 4) (hz : tz n T) {N : Nat} {y : Int32} {e : Nat} (he : e ≤ 100) (hN : 0 < N) (h6 : m 75 6 = nI e) : f_M_errorOf_L12 (nI r) (fun v12 => f_M_errorOf_J59 (nI r) v12) N y m = some (nI e, m) := by
  obtain ⟨N, rfl⟩ : ∃ N', N = N' + 1 := ⟨N - 1, by omega⟩
  unfold f_M_errorOf_L12 f_M_errorOf_J59
  rw [h6, if_pos (nI_pos' (by omega)), if_pos (nI_pos' (by omega))]
theorem mL_step (hr : r < 4) (hz : tz n T) {N p : Nat} (hp : p < n) (h41 : ¬ T p = 41) (ht : mx r n T m) (e6 : m 75 6 = -1) : mL r (N + 1) p m = ze_call (f_M_stepAt (nI r) (nI p) m) (fun r9 v10 => f_M_errorOf_L12 (nI r) (fun v12 => f_M_errorOf_J59 (nI r) v12) N r9 v10) := by
  have h40 := hz.1
  have hT := tz_le hz p
  unfold mL
  rw [f_M_errorOf_L12]
  rw [e6, if_neg (show ¬ (0 : Int32) ≤ -1 by decide), zi_nI (by omega) (by omega), nI_clamp (by omega), ht.1, if_neg (nI_ge hp (by omega)), md_look hr hz ht (by omega), zcall, if_neg (show ¬ nI (T p) = 41 by rw [l_41, nI_eqP (by omega) (by omega)]; exact h41)]
  rfl
theorem mL_leave (hr : r < 4) (hz : tz n T) {N p : Nat} (hp : p < n) (h41 : T p = 41) (ht : mx r n T m) (e6 : m 75 6 = -1) : mL r (N + 1) p m = ze_call (f_M_leave (nI r) (nI p) m) (fun r9 v10 => f_M_errorOf_L12 (nI r) (fun v12 => f_M_errorOf_J59 (nI r) v12) N r9 v10) := by
  have h40 := hz.1
  unfold mL
  rw [f_M_errorOf_L12]
  rw [e6, if_neg (show ¬ (0 : Int32) ≤ -1 by decide), zi_nI (by omega) (by omega), nI_clamp (by omega), ht.1, if_neg (nI_ge hp (by omega)), md_look hr hz ht (by omega), zcall, h41, if_pos (show nI 41 = 41 by decide)]
  rfl
/-- a step without a list: what stepAt gives goes on -/
theorem MR_mq (hr : r < 4) (hz : tz n T) {N p d : Nat} {res : Sum Nat Nat} {t : Option (Int32 × ze_H)} (h : mq m res t) (hN : 0 < N) (hen : ∀ e, res = .inl e → e ≤ 100) (hq : ∀ q, res = .inr q → p < q) (e5 : m 75 5 = nI d) (e6 : m 75 6 = -1) : MR r (N + 1) p d m (ze_call t (fun r9 v10 => f_M_errorOf_L12 (nI r) (fun v12 => f_M_errorOf_J59 (nI r) v12) N r9 v10)) res := by
  refine ⟨fun e he => ?_, fun q hq' => ?_⟩
  · obtain ⟨y, hy⟩ := h.2 e he
    rw [hy, zcall, mL_er hr hz (hen e he) hN (zu_s _ _ _ _)]
    exact ⟨_, rfl, fr_5 (fr_0 m) (Or.inr rfl) _⟩
  · rw [h.1 q hq', zcall]
    have := hq q hq'
    exact ⟨m, N, by omega, rfl, fr_0 m, e5, e6, fun i hi => rfl⟩
/-- in front of a list in parentheses -/
def ML (T : Nat → Nat) (n r f : Nat) : Prop := ∀ (d p N : Nat) (m : ze_H), n < f + p → p ≤ n → d ≤ 3 → n + 1 < N + p → mx r n T m → m 75 5 = nI d → m 75 6 = -1 → MR r N p d m (mL r N p m) (sl T r f d p)
theorem MR_seq (hr : r < 4) (hz : tz n T) {N p d q : Nat} {m1 : ze_H} {N1 : Nat} {t : Option (Int32 × ze_H)} {res : Sum Nat Nat} (hN : N + p ≤ N1 + q) (hf : fr m m1) (h80 : ∀ i, i < d → m1 80 i = m 80 i) (h : MR r N1 q d m1 t res) : MR r N p d m t res := by
  refine ⟨fun e he => ?_, fun q' hq' => ?_⟩
  · obtain ⟨m2, h1, h2⟩ := h.1 e he
    exact ⟨m2, h1, fr_t hf h2⟩
  · obtain ⟨m2, N2, h0, h1, h2, h3, h4, h5⟩ := h.2 q' hq'
    exact ⟨m2, N2, by omega, h1, fr_t hf h2, h3, h4, fun i hi => (h5 i hi).trans (h80 i hi)⟩
/-- through a list in parentheses, to its end, then whatever follows there -/
theorem MR_inner (hr : r < 4) (hz : tz n T) {f d q N p : Nat} {b : Int32} {t : Option (Int32 × ze_H)} {res : Nat → Sum Nat Nat} (IH : ML T n r f) (hq : q ≤ n) (hd : d ≤ 3) (hfq : n < f + (q + 1)) (hN : n + 1 < N + (q + 1)) (hpq : p ≤ q) (ht : mx r n T m) (e5 : m 75 5 = nI d) (e6 : m 75 6 = -1)
    (ht2 : t = ze_call (f_M_enter (nI r) (nI q) b m) (fun r9 v10 => f_M_errorOf_L12 (nI r) (fun v12 => f_M_errorOf_J59 (nI r) v12) N r9 v10))
    (k : ∀ e1 m1 N1, sl T r f (d + 1) (q + 1) = .inr e1 → N + (q + 1) ≤ N1 + e1 → fr m m1 → m1 75 5 = nI (d + 1) → m1 75 6 = -1 → m1 80 d = b → (∀ i, i < d → m1 80 i = m 80 i) → e1 < n → T e1 = 41 → d < 3 → T q = 40 → MR r N1 e1 d m1 (mL r N1 e1 m1) (res (e1 + 1))) : MR r (N + 1) p d m t (sb (si T (sl T r f) d q) res) := by
  have h40 := hz.1
  unfold si
  by_cases c : d < 3 ∧ T q = 40
  · have hqn : q < n := tz_lt hz (by omega)
    rw [if_pos c]
    rw [md_enter1 hr hz c.1 c.2 ht e5 e6, zcall] at ht2
    have f1 : fr m (ze_u (ze_u m 80 d b) 75 5 (nI (d + 1))) := fr_5 (fr_80 (fr_0 m) _) (Or.inl rfl) _
    have := IH (d + 1) (q + 1) N (ze_u (ze_u m 80 d b) 75 5 (nI (d + 1))) (by omega) (by omega) (by omega) hN (fr_mx ht f1) (zu_s _ _ _ _) (by rw [zu_n _ _ _ _ (by omega), zu_n _ _ _ _ (by omega)]; exact e6)
    rw [show mL r N (q + 1) (ze_u (ze_u m 80 d b) 75 5 (nI (d + 1))) = t from ht2.symm] at this
    cases hsl : sl T r f (d + 1) (q + 1) with
    | inl e =>
      rw [hsl] at this
      obtain ⟨m1, h1, h2⟩ := this.1 e rfl
      rw [sb_l, sb_l]
      exact ⟨fun e' he' => ⟨m1, by injection he' with he'; rw [← he']; exact h1, fr_t f1 h2⟩, fun q' hq' => (by cases hq')⟩
    | inr e1 =>
      rw [hsl] at this
      obtain ⟨m1, N1, h0, h1, h2, h3, h4, h5⟩ := this.2 e1 rfl
      rw [sb_r, sb_r]
      have u := sl_ok hz f (d + 1) _ _ (by omega) hsl
      have hT1 := u.2.2.1 (by omega)
      have u1 : e1 < n := tz_lt hz (by omega)
      have h8 : ∀ i, i < d → m1 80 i = m 80 i := fun i hi => by
        rw [h5 i (by omega), zu_n _ _ _ _ (by omega), zu_n _ _ _ _ (by omega)]
      have := k e1 m1 N1 hsl h0 (fr_t f1 h2) h3 h4 (by rw [h5 d (by omega), zu_n _ _ _ _ (by omega), zu_s]) h8 u1 hT1 c.1 c.2
      rw [h1]
      exact MR_seq hr hz (by omega) (fr_t f1 h2) h8 this
  · rw [if_neg c, sb_l]
    rw [md_enter0 hr hz hd hq c ht e5 e6, zcall] at ht2
    rw [ht2, mL_er hr hz (show q ≤ 100 by omega) (by omega) (zu_s _ _ _ _)]
    exact ⟨fun e he => ⟨_, by injection he with he; rw [he], fr_5 (fr_0 m) (Or.inr rfl) _⟩, fun q' hq' => (by cases hq')⟩
/-- the end of a list without another behind: one turn of the loop -/
theorem MR_close (hr : r < 4) (hz : tz n T) {d e1 N : Nat} (hN : n < N + e1) (he : e1 < n) (h41 : T e1 = 41) (hd : d < 4) (ht : mx r n T m) (e5 : m 75 5 = nI (d + 1)) (e6 : m 75 6 = -1) (h : ¬ m 80 d = 1 ∨ ¬ T (e1 + 1) = 58) : MR r N e1 d m (mL r N e1 m) (.inr (e1 + 1)) := by
  obtain ⟨N, rfl⟩ : ∃ N', N = N' + 1 := ⟨N - 1, by omega⟩
  rw [mL_leave hr hz he h41 ht e6, md_leave1 hr hz he hd ht e5 e6 h, zcall]
  refine ⟨fun e he => (by cases he), fun q hq => ?_⟩
  injection hq with hq
  subst hq
  exact ⟨_, N, by omega, rfl, fr_5 (fr_0 m) (Or.inl rfl) _, zu_s _ _ _ _, by rw [zu_n _ _ _ _ (by omega)]; exact e6, fun i hi => by rw [zu_n _ _ _ _ (by omega)]⟩
theorem md_step (hr : r < 4) (hz : tz n T) {f d p N : Nat} (IH : ML T n r f) (hp : p < n) (hf : n < f + (p + 1)) (hd : d ≤ 3) (hN : n + 1 < N + 1 + p) (ht : mx r n T m) (e5 : m 75 5 = nI d) (e6 : m 75 6 = -1) (h41 : ¬ T p = 41) : MR r (N + 1) p d m (mL r (N + 1) p m) (sp T r (sl T r f) d p) := by
  have h40 := hz.1
  have hT := tz_le hz p
  have hend : ∀ q, sp T r (sl T r f) d p = .inr q → p < q := fun q hq => (sp_end hz hq).1
  have herr : ∀ e, sp T r (sl T r f) d p = .inl e → e ≤ 100 := fun e he => by
    have := sp_inl hz (sl_er hz f) hp he
    omega
  have one : ¬ (1 : Int32) = 0 := by decide
  rw [mL_step hr hz hp h41 ht e6]
  unfold f_M_stepAt
  rw [md_look hr hz ht (by omega), zcall, zlet, zlet, nI_1]
  by_cases c33 : T p = 33
  · have hsp : sp T r (sl T r f) d p = sn T 0 3 (p + 1) := by
      unfold sp
      simp (disch := omega) only [↓reduceIte, ↓m1_l,  eq_self, zleN, zlvN, zcaN, zi_N, nI_clamp, zu_s, zu_n, nI_add, pk_mul, pk_subO, nI_eqP, nI_ltP, nI_leP, nI_m1P, nI_m1Q, nI_m1R, nI_m1S, nI_m1U, nI_m1P', if_pos, if_neg, l_0, l_1, l_2, l_3, l_4, l_5, l_6, l_7, l_8, l_10, l_15, l_16, l_20, l_26, l_31, l_33, l_37, l_38, l_40, l_41, l_42, l_43, l_44, l_45, l_48, l_57, l_58, l_60, l_61, l_62, l_63, l_64, l_97, l_98, l_99, l_100, l_102, l_105, l_107, l_113, l_114, l_115, l_120, l_126, l_160, l_164, l_242, l_401, l_420, l_640, l_656, l_9999, l_100000]
    rw [hsp] at hend herr ⊢
    rw [c33, if_pos (show nI 33 = 33 by decide)]
    exact MR_mq hr hz (mq_id (md_num hr hz (lo := 0) (hi := 3) (by omega) (by omega) (by omega) ht e6)) (by omega) herr hend e5 e6
  by_cases c38 : T p = 38
  · have hsp : sp T r (sl T r f) d p = sn T 0 3 (p + 1) := by
      unfold sp
      simp (disch := omega) only [↓reduceIte, ↓m1_l,  eq_self, zleN, zlvN, zcaN, zi_N, nI_clamp, zu_s, zu_n, nI_add, pk_mul, pk_subO, nI_eqP, nI_ltP, nI_leP, nI_m1P, nI_m1Q, nI_m1R, nI_m1S, nI_m1U, nI_m1P', if_pos, if_neg, l_0, l_1, l_2, l_3, l_4, l_5, l_6, l_7, l_8, l_10, l_15, l_16, l_20, l_26, l_31, l_33, l_37, l_38, l_40, l_41, l_42, l_43, l_44, l_45, l_48, l_57, l_58, l_60, l_61, l_62, l_63, l_64, l_97, l_98, l_99, l_100, l_102, l_105, l_107, l_113, l_114, l_115, l_120, l_126, l_160, l_164, l_242, l_401, l_420, l_640, l_656, l_9999, l_100000]
    rw [hsp] at hend herr ⊢
    rw [c38, if_neg (show ¬ nI 38 = 33 by decide), if_pos (show nI 38 = 38 by decide)]
    exact MR_mq hr hz (mq_id (md_num hr hz (lo := 0) (hi := 3) (by omega) (by omega) (by omega) ht e6)) (by omega) herr hend e5 e6
  by_cases c42 : T p = 42
  · have hsp : sp T r (sl T r f) d p = sn T 0 9999 (p + 1) := by
      unfold sp
      simp (disch := omega) only [↓reduceIte, ↓m1_l,  eq_self, zleN, zlvN, zcaN, zi_N, nI_clamp, zu_s, zu_n, nI_add, pk_mul, pk_subO, nI_eqP, nI_ltP, nI_leP, nI_m1P, nI_m1Q, nI_m1R, nI_m1S, nI_m1U, nI_m1P', if_pos, if_neg, l_0, l_1, l_2, l_3, l_4, l_5, l_6, l_7, l_8, l_10, l_15, l_16, l_20, l_26, l_31, l_33, l_37, l_38, l_40, l_41, l_42, l_43, l_44, l_45, l_48, l_57, l_58, l_60, l_61, l_62, l_63, l_64, l_97, l_98, l_99, l_100, l_102, l_105, l_107, l_113, l_114, l_115, l_120, l_126, l_160, l_164, l_242, l_401, l_420, l_640, l_656, l_9999, l_100000]
    rw [hsp] at hend herr ⊢
    rw [c42, if_neg (show ¬ nI 42 = 33 by decide), if_neg (show ¬ nI 42 = 38 by decide), if_pos (show nI 42 = 42 by decide)]
    exact MR_mq hr hz (mq_id (md_num hr hz (lo := 0) (hi := 9999) (by omega) (by omega) (by omega) ht e6)) (by omega) herr hend e5 e6
  by_cases c43 : T p = 43
  · have hsp : sp T r (sl T r f) d p = sn T 0 9999 (p + 1) := by
      unfold sp
      simp (disch := omega) only [↓reduceIte, ↓m1_l,  eq_self, zleN, zlvN, zcaN, zi_N, nI_clamp, zu_s, zu_n, nI_add, pk_mul, pk_subO, nI_eqP, nI_ltP, nI_leP, nI_m1P, nI_m1Q, nI_m1R, nI_m1S, nI_m1U, nI_m1P', if_pos, if_neg, l_0, l_1, l_2, l_3, l_4, l_5, l_6, l_7, l_8, l_10, l_15, l_16, l_20, l_26, l_31, l_33, l_37, l_38, l_40, l_41, l_42, l_43, l_44, l_45, l_48, l_57, l_58, l_60, l_61, l_62, l_63, l_64, l_97, l_98, l_99, l_100, l_102, l_105, l_107, l_113, l_114, l_115, l_120, l_126, l_160, l_164, l_242, l_401, l_420, l_640, l_656, l_9999, l_100000]
    rw [hsp] at hend herr ⊢
    rw [c43, if_neg (show ¬ nI 43 = 33 by decide), if_neg (show ¬ nI 43 = 38 by decide), if_neg (show ¬ nI 43 = 42 by decide), if_pos (show nI 43 = 43 by decide)]
    exact MR_mq hr hz (mq_id (md_num hr hz (lo := 0) (hi := 9999) (by omega) (by omega) (by omega) ht e6)) (by omega) herr hend e5 e6
  by_cases c45 : T p = 45
  · have hsp : sp T r (sl T r f) d p = sn T 0 9999 (p + 1) := by
      unfold sp
      simp (disch := omega) only [↓reduceIte, ↓m1_l,  eq_self, zleN, zlvN, zcaN, zi_N, nI_clamp, zu_s, zu_n, nI_add, pk_mul, pk_subO, nI_eqP, nI_ltP, nI_leP, nI_m1P, nI_m1Q, nI_m1R, nI_m1S, nI_m1U, nI_m1P', if_pos, if_neg, l_0, l_1, l_2, l_3, l_4, l_5, l_6, l_7, l_8, l_10, l_15, l_16, l_20, l_26, l_31, l_33, l_37, l_38, l_40, l_41, l_42, l_43, l_44, l_45, l_48, l_57, l_58, l_60, l_61, l_62, l_63, l_64, l_97, l_98, l_99, l_100, l_102, l_105, l_107, l_113, l_114, l_115, l_120, l_126, l_160, l_164, l_242, l_401, l_420, l_640, l_656, l_9999, l_100000]
    rw [hsp] at hend herr ⊢
    rw [c45, if_neg (show ¬ nI 45 = 33 by decide), if_neg (show ¬ nI 45 = 38 by decide), if_neg (show ¬ nI 45 = 42 by decide), if_neg (show ¬ nI 45 = 43 by decide), if_pos (show nI 45 = 45 by decide)]
    exact MR_mq hr hz (mq_id (md_num hr hz (lo := 0) (hi := 9999) (by omega) (by omega) (by omega) ht e6)) (by omega) herr hend e5 e6
  by_cases c62 : T p = 62
  · have hsp : sp T r (sl T r f) d p = sn T (r + 1) 3 (p + 1) := by
      unfold sp
      simp (disch := omega) only [↓reduceIte, ↓m1_l,  eq_self, zleN, zlvN, zcaN, zi_N, nI_clamp, zu_s, zu_n, nI_add, pk_mul, pk_subO, nI_eqP, nI_ltP, nI_leP, nI_m1P, nI_m1Q, nI_m1R, nI_m1S, nI_m1U, nI_m1P', if_pos, if_neg, l_0, l_1, l_2, l_3, l_4, l_5, l_6, l_7, l_8, l_10, l_15, l_16, l_20, l_26, l_31, l_33, l_37, l_38, l_40, l_41, l_42, l_43, l_44, l_45, l_48, l_57, l_58, l_60, l_61, l_62, l_63, l_64, l_97, l_98, l_99, l_100, l_102, l_105, l_107, l_113, l_114, l_115, l_120, l_126, l_160, l_164, l_242, l_401, l_420, l_640, l_656, l_9999, l_100000]
    rw [hsp] at hend herr ⊢
    rw [c62, if_neg (show ¬ nI 62 = 33 by decide), if_neg (show ¬ nI 62 = 38 by decide), if_neg (show ¬ nI 62 = 42 by decide), if_neg (show ¬ nI 62 = 43 by decide), if_neg (show ¬ nI 62 = 45 by decide), if_pos (show nI 62 = 62 by decide), nI_1]
    exact MR_mq hr hz (mq_id (md_num hr hz (lo := (r + 1)) (hi := 3) (by omega) (by omega) (by omega) ht e6)) (by omega) herr hend e5 e6
  by_cases c98 : T p = 98
  · have hsp : sp T r (sl T r f) d p = .inr (p + 1) := by
      unfold sp
      simp (disch := omega) only [↓reduceIte, ↓m1_l,  eq_self, zleN, zlvN, zcaN, zi_N, nI_clamp, zu_s, zu_n, nI_add, pk_mul, pk_subO, nI_eqP, nI_ltP, nI_leP, nI_m1P, nI_m1Q, nI_m1R, nI_m1S, nI_m1U, nI_m1P', if_pos, if_neg, l_0, l_1, l_2, l_3, l_4, l_5, l_6, l_7, l_8, l_10, l_15, l_16, l_20, l_26, l_31, l_33, l_37, l_38, l_40, l_41, l_42, l_43, l_44, l_45, l_48, l_57, l_58, l_60, l_61, l_62, l_63, l_64, l_97, l_98, l_99, l_100, l_102, l_105, l_107, l_113, l_114, l_115, l_120, l_126, l_160, l_164, l_242, l_401, l_420, l_640, l_656, l_9999, l_100000]
    rw [hsp] at hend herr ⊢
    rw [c98, if_neg (show ¬ nI 98 = 33 by decide), if_neg (show ¬ nI 98 = 38 by decide), if_neg (show ¬ nI 98 = 42 by decide), if_neg (show ¬ nI 98 = 43 by decide), if_neg (show ¬ nI 98 = 45 by decide), if_neg (show ¬ nI 98 = 62 by decide), if_neg (show ¬ nI 98 = 63 by decide), if_neg (show ¬ nI 98 = 97 by decide), if_pos (show nI 98 = 98 by decide)]
    exact MR_mq hr hz mq_ok (by omega) herr hend e5 e6
  by_cases c105 : T p = 105
  · have hsp : sp T r (sl T r f) d p = .inr (p + 1) := by
      unfold sp
      simp (disch := omega) only [↓reduceIte, ↓m1_l,  eq_self, zleN, zlvN, zcaN, zi_N, nI_clamp, zu_s, zu_n, nI_add, pk_mul, pk_subO, nI_eqP, nI_ltP, nI_leP, nI_m1P, nI_m1Q, nI_m1R, nI_m1S, nI_m1U, nI_m1P', if_pos, if_neg, l_0, l_1, l_2, l_3, l_4, l_5, l_6, l_7, l_8, l_10, l_15, l_16, l_20, l_26, l_31, l_33, l_37, l_38, l_40, l_41, l_42, l_43, l_44, l_45, l_48, l_57, l_58, l_60, l_61, l_62, l_63, l_64, l_97, l_98, l_99, l_100, l_102, l_105, l_107, l_113, l_114, l_115, l_120, l_126, l_160, l_164, l_242, l_401, l_420, l_640, l_656, l_9999, l_100000]
    rw [hsp] at hend herr ⊢
    rw [c105, if_neg (show ¬ nI 105 = 33 by decide), if_neg (show ¬ nI 105 = 38 by decide), if_neg (show ¬ nI 105 = 42 by decide), if_neg (show ¬ nI 105 = 43 by decide), if_neg (show ¬ nI 105 = 45 by decide), if_neg (show ¬ nI 105 = 62 by decide), if_neg (show ¬ nI 105 = 63 by decide), if_neg (show ¬ nI 105 = 97 by decide), if_neg (show ¬ nI 105 = 98 by decide), if_neg (show ¬ nI 105 = 102 by decide), if_pos (show nI 105 = 105 by decide)]
    exact MR_mq hr hz mq_ok (by omega) herr hend e5 e6
  by_cases c107 : T p = 107
  · have hsp : sp T r (sl T r f) d p = .inr (p + 1) := by
      unfold sp
      simp (disch := omega) only [↓reduceIte, ↓m1_l,  eq_self, zleN, zlvN, zcaN, zi_N, nI_clamp, zu_s, zu_n, nI_add, pk_mul, pk_subO, nI_eqP, nI_ltP, nI_leP, nI_m1P, nI_m1Q, nI_m1R, nI_m1S, nI_m1U, nI_m1P', if_pos, if_neg, l_0, l_1, l_2, l_3, l_4, l_5, l_6, l_7, l_8, l_10, l_15, l_16, l_20, l_26, l_31, l_33, l_37, l_38, l_40, l_41, l_42, l_43, l_44, l_45, l_48, l_57, l_58, l_60, l_61, l_62, l_63, l_64, l_97, l_98, l_99, l_100, l_102, l_105, l_107, l_113, l_114, l_115, l_120, l_126, l_160, l_164, l_242, l_401, l_420, l_640, l_656, l_9999, l_100000]
    rw [hsp] at hend herr ⊢
    rw [c107, if_neg (show ¬ nI 107 = 33 by decide), if_neg (show ¬ nI 107 = 38 by decide), if_neg (show ¬ nI 107 = 42 by decide), if_neg (show ¬ nI 107 = 43 by decide), if_neg (show ¬ nI 107 = 45 by decide), if_neg (show ¬ nI 107 = 62 by decide), if_neg (show ¬ nI 107 = 63 by decide), if_neg (show ¬ nI 107 = 97 by decide), if_neg (show ¬ nI 107 = 98 by decide), if_neg (show ¬ nI 107 = 102 by decide), if_neg (show ¬ nI 107 = 105 by decide), if_pos (show nI 107 = 107 by decide)]
    exact MR_mq hr hz mq_ok (by omega) herr hend e5 e6
  by_cases c114 : T p = 114
  · have hsp : sp T r (sl T r f) d p = .inr (p + 1) := by
      unfold sp
      simp (disch := omega) only [↓reduceIte, ↓m1_l,  eq_self, zleN, zlvN, zcaN, zi_N, nI_clamp, zu_s, zu_n, nI_add, pk_mul, pk_subO, nI_eqP, nI_ltP, nI_leP, nI_m1P, nI_m1Q, nI_m1R, nI_m1S, nI_m1U, nI_m1P', if_pos, if_neg, l_0, l_1, l_2, l_3, l_4, l_5, l_6, l_7, l_8, l_10, l_15, l_16, l_20, l_26, l_31, l_33, l_37, l_38, l_40, l_41, l_42, l_43, l_44, l_45, l_48, l_57, l_58, l_60, l_61, l_62, l_63, l_64, l_97, l_98, l_99, l_100, l_102, l_105, l_107, l_113, l_114, l_115, l_120, l_126, l_160, l_164, l_242, l_401, l_420, l_640, l_656, l_9999, l_100000]
    rw [hsp] at hend herr ⊢
    rw [c114, if_neg (show ¬ nI 114 = 33 by decide), if_neg (show ¬ nI 114 = 38 by decide), if_neg (show ¬ nI 114 = 42 by decide), if_neg (show ¬ nI 114 = 43 by decide), if_neg (show ¬ nI 114 = 45 by decide), if_neg (show ¬ nI 114 = 62 by decide), if_neg (show ¬ nI 114 = 63 by decide), if_neg (show ¬ nI 114 = 97 by decide), if_neg (show ¬ nI 114 = 98 by decide), if_neg (show ¬ nI 114 = 102 by decide), if_neg (show ¬ nI 114 = 105 by decide), if_neg (show ¬ nI 114 = 107 by decide), if_neg (show ¬ nI 114 = 113 by decide), if_pos (show nI 114 = 114 by decide)]
    exact MR_mq hr hz mq_ok (by omega) herr hend e5 e6
  by_cases c102 : T p = 102
  · have hsp : sp T r (sl T r f) d p = st T (p + 1) := by
      unfold sp
      simp (disch := omega) only [↓reduceIte, ↓m1_l,  eq_self, zleN, zlvN, zcaN, zi_N, nI_clamp, zu_s, zu_n, nI_add, pk_mul, pk_subO, nI_eqP, nI_ltP, nI_leP, nI_m1P, nI_m1Q, nI_m1R, nI_m1S, nI_m1U, nI_m1P', if_pos, if_neg, l_0, l_1, l_2, l_3, l_4, l_5, l_6, l_7, l_8, l_10, l_15, l_16, l_20, l_26, l_31, l_33, l_37, l_38, l_40, l_41, l_42, l_43, l_44, l_45, l_48, l_57, l_58, l_60, l_61, l_62, l_63, l_64, l_97, l_98, l_99, l_100, l_102, l_105, l_107, l_113, l_114, l_115, l_120, l_126, l_160, l_164, l_242, l_401, l_420, l_640, l_656, l_9999, l_100000]
    rw [hsp] at hend herr ⊢
    rw [c102, if_neg (show ¬ nI 102 = 33 by decide), if_neg (show ¬ nI 102 = 38 by decide), if_neg (show ¬ nI 102 = 42 by decide), if_neg (show ¬ nI 102 = 43 by decide), if_neg (show ¬ nI 102 = 45 by decide), if_neg (show ¬ nI 102 = 62 by decide), if_neg (show ¬ nI 102 = 63 by decide), if_neg (show ¬ nI 102 = 97 by decide), if_neg (show ¬ nI 102 = 98 by decide), if_pos (show nI 102 = 102 by decide)]
    exact MR_mq hr hz (mq_id (md_test hr hz (by omega) ht e6)) (by omega) herr hend e5 e6
  by_cases c113 : T p = 113
  · have hsp : sp T r (sl T r f) d p = if 0 < d then .inl p else sn T 2 4 (p + 1) := by
      unfold sp
      simp (disch := omega) only [↓reduceIte, ↓m1_l,  eq_self, zleN, zlvN, zcaN, zi_N, nI_clamp, zu_s, zu_n, nI_add, pk_mul, pk_subO, nI_eqP, nI_ltP, nI_leP, nI_m1P, nI_m1Q, nI_m1R, nI_m1S, nI_m1U, nI_m1P', if_pos, if_neg, l_0, l_1, l_2, l_3, l_4, l_5, l_6, l_7, l_8, l_10, l_15, l_16, l_20, l_26, l_31, l_33, l_37, l_38, l_40, l_41, l_42, l_43, l_44, l_45, l_48, l_57, l_58, l_60, l_61, l_62, l_63, l_64, l_97, l_98, l_99, l_100, l_102, l_105, l_107, l_113, l_114, l_115, l_120, l_126, l_160, l_164, l_242, l_401, l_420, l_640, l_656, l_9999, l_100000]
    rw [hsp] at hend herr ⊢
    rw [c113, if_neg (show ¬ nI 113 = 33 by decide), if_neg (show ¬ nI 113 = 38 by decide), if_neg (show ¬ nI 113 = 42 by decide), if_neg (show ¬ nI 113 = 43 by decide), if_neg (show ¬ nI 113 = 45 by decide), if_neg (show ¬ nI 113 = 62 by decide), if_neg (show ¬ nI 113 = 63 by decide), if_neg (show ¬ nI 113 = 97 by decide), if_neg (show ¬ nI 113 = 98 by decide), if_neg (show ¬ nI 113 = 102 by decide), if_neg (show ¬ nI 113 = 105 by decide), if_neg (show ¬ nI 113 = 107 by decide), if_pos (show nI 113 = 113 by decide), e5]
    by_cases c0 : 0 < d
    · rw [if_pos c0] at hend herr ⊢
      rw [if_neg (show ¬ nI d = 0 by rw [l_0, nI_eqP (by omega) (by omega)]; omega), md_must0 hr hz ht e6 (by omega) (Or.inl rfl), zcall, if_pos rfl]
      exact MR_mq hr hz mq_er (by omega) herr hend e5 e6
    · rw [if_neg c0] at hend herr ⊢
      rw [if_pos (show nI d = 0 by rw [l_0, nI_eqP (by omega) (by omega)]; omega), md_must1 hr hz ht e6 hp one, zcall, if_neg one]
      exact MR_mq hr hz (mq_id (md_num hr hz (lo := 2) (hi := 4) (by omega) (by omega) (by omega) ht e6)) (by omega) herr hend e5 e6
  by_cases c97 : T p = 97
  · have hsp : sp T r (sl T r f) d p = if 0 < d then .inl p else sb (sn T 2 4 (p + 1)) (fun q => if T q = 44 then sn T 1 99 (q + 1) else .inl q) := by
      unfold sp
      simp (disch := omega) only [↓reduceIte, ↓m1_l,  eq_self, zleN, zlvN, zcaN, zi_N, nI_clamp, zu_s, zu_n, nI_add, pk_mul, pk_subO, nI_eqP, nI_ltP, nI_leP, nI_m1P, nI_m1Q, nI_m1R, nI_m1S, nI_m1U, nI_m1P', if_pos, if_neg, l_0, l_1, l_2, l_3, l_4, l_5, l_6, l_7, l_8, l_10, l_15, l_16, l_20, l_26, l_31, l_33, l_37, l_38, l_40, l_41, l_42, l_43, l_44, l_45, l_48, l_57, l_58, l_60, l_61, l_62, l_63, l_64, l_97, l_98, l_99, l_100, l_102, l_105, l_107, l_113, l_114, l_115, l_120, l_126, l_160, l_164, l_242, l_401, l_420, l_640, l_656, l_9999, l_100000]
    rw [hsp] at hend herr ⊢
    rw [c97, if_neg (show ¬ nI 97 = 33 by decide), if_neg (show ¬ nI 97 = 38 by decide), if_neg (show ¬ nI 97 = 42 by decide), if_neg (show ¬ nI 97 = 43 by decide), if_neg (show ¬ nI 97 = 45 by decide), if_neg (show ¬ nI 97 = 62 by decide), if_neg (show ¬ nI 97 = 63 by decide), if_pos (show nI 97 = 97 by decide), e5]
    by_cases c0 : 0 < d
    · rw [if_pos c0] at hend herr ⊢
      rw [if_neg (show ¬ nI d = 0 by rw [l_0, nI_eqP (by omega) (by omega)]; omega), md_must0 hr hz ht e6 (by omega) (Or.inl rfl), zcall, if_pos rfl]
      unfold f_M_stepAt_J322
      rw [zlet, zu_s, if_pos (nI_pos' (by omega))]
      exact MR_mq hr hz mq_er (by omega) herr hend e5 e6
    · rw [if_neg c0] at hend herr ⊢
      rw [if_pos (show nI d = 0 by rw [l_0, nI_eqP (by omega) (by omega)]; omega), md_must1 hr hz ht e6 hp one, zcall, if_neg one]
      have hnum := md_num hr hz (lo := 2) (hi := 4) (by omega) (by omega) (show p + 1 ≤ n by omega) ht e6
      cases hsn : sn T 2 4 (p + 1) with
      | inl e =>
        rw [hsn] at hnum herr hend
        have hee := herr e rfl
        rw [sb_l] at herr hend ⊢
        obtain ⟨y, hy⟩ := hnum.2 e rfl
        rw [show f_M_number (nI r) (nI (p + 1)) 2 4 m = some (y, ze_u m 75 6 (nI e)) from hy, zcall]
        unfold f_M_stepAt_J322
        rw [zlet, zu_s, if_pos (nI_pos' (by omega))]
        exact MR_mq hr hz mq_er (by omega) herr hend e5 e6
      | inr q =>
        rw [hsn] at hnum herr hend
        rw [sb_r] at herr hend ⊢
        have hq := sn_end hz hsn
        have hTq := tz_le hz q
        rw [show f_M_number (nI r) (nI (p + 1)) 2 4 m = some (nI q, m) from hnum.1 q rfl, zcall]
        unfold f_M_stepAt_J322
        rw [zlet, e6, if_neg (show ¬ (0 : Int32) ≤ -1 by decide), md_look hr hz ht (by omega), zcall, nI_1]
        by_cases c44 : T q = 44
        · rw [if_pos c44] at herr hend ⊢
          have hqn : q < n := tz_lt hz (by omega)
          rw [c44, if_pos (show nI 44 = 44 by decide), md_must1 hr hz ht e6 hqn one, zcall, if_neg one]
          exact MR_mq hr hz (mq_id (md_num hr hz (lo := 1) (hi := 99) (by omega) (by omega) (by omega) ht e6)) (by omega) herr hend e5 e6
        · rw [if_neg c44] at herr hend ⊢
          rw [if_neg (show ¬ nI (T q) = 44 by rw [l_44, nI_eqP (by omega) (by omega)]; exact c44), md_must0 hr hz ht e6 hq.2 (Or.inl rfl), zcall, if_pos rfl]
          exact MR_mq hr hz mq_er (by omega) herr hend e5 e6
  by_cases c115 : T p = 115
  · have hsp : sp T r (sl T r f) d p = sb (sn T 1 4 (p + 1)) (fun q => si T (sl T r f) d q) := by
      unfold sp
      simp (disch := omega) only [↓reduceIte, ↓m1_l,  eq_self, zleN, zlvN, zcaN, zi_N, nI_clamp, zu_s, zu_n, nI_add, pk_mul, pk_subO, nI_eqP, nI_ltP, nI_leP, nI_m1P, nI_m1Q, nI_m1R, nI_m1S, nI_m1U, nI_m1P', if_pos, if_neg, l_0, l_1, l_2, l_3, l_4, l_5, l_6, l_7, l_8, l_10, l_15, l_16, l_20, l_26, l_31, l_33, l_37, l_38, l_40, l_41, l_42, l_43, l_44, l_45, l_48, l_57, l_58, l_60, l_61, l_62, l_63, l_64, l_97, l_98, l_99, l_100, l_102, l_105, l_107, l_113, l_114, l_115, l_120, l_126, l_160, l_164, l_242, l_401, l_420, l_640, l_656, l_9999, l_100000]
    rw [hsp] at hend herr ⊢
    rw [c115, if_neg (show ¬ nI 115 = 33 by decide), if_neg (show ¬ nI 115 = 38 by decide), if_neg (show ¬ nI 115 = 42 by decide), if_neg (show ¬ nI 115 = 43 by decide), if_neg (show ¬ nI 115 = 45 by decide), if_neg (show ¬ nI 115 = 62 by decide), if_neg (show ¬ nI 115 = 63 by decide), if_neg (show ¬ nI 115 = 97 by decide), if_neg (show ¬ nI 115 = 98 by decide), if_neg (show ¬ nI 115 = 102 by decide), if_neg (show ¬ nI 115 = 105 by decide), if_neg (show ¬ nI 115 = 107 by decide), if_neg (show ¬ nI 115 = 113 by decide), if_neg (show ¬ nI 115 = 114 by decide), if_pos (show nI 115 = 115 by decide)]
    have hnum := md_num hr hz (lo := 1) (hi := 4) (by omega) (by omega) (show p + 1 ≤ n by omega) ht e6
    cases hsn : sn T 1 4 (p + 1) with
    | inl e =>
      rw [hsn] at hnum herr hend
      have hee := herr e rfl
      rw [sb_l] at herr hend ⊢
      obtain ⟨y, hy⟩ := hnum.2 e rfl
      rw [show f_M_number (nI r) (nI (p + 1)) 1 4 m = some (y, ze_u m 75 6 (nI e)) from hy, zcall, zlet, zu_s, if_pos (nI_pos' (by omega))]
      exact MR_mq hr hz mq_er (by omega) herr hend e5 e6
    | inr q =>
      rw [hsn] at hnum herr hend
      rw [sb_r]
      have hq := sn_end hz hsn
      rw [show f_M_number (nI r) (nI (p + 1)) 1 4 m = some (nI q, m) from hnum.1 q rfl, zcall, zlet, e6, if_neg (show ¬ (0 : Int32) ≤ -1 by decide)]
      have hsb : si T (sl T r f) d q = sb (si T (sl T r f) d q) (fun e => .inr e) := by
        cases si T (sl T r f) d q <;> rfl
      rw [hsb]
      refine MR_inner hr hz IH (b := 0) hq.2 hd (by omega) (by omega) (by omega) ht e5 e6 ?_ (fun e1 m1 N1 g1 g2 g3 g4 g5 g6 g7 g8 g9 ga gb => ?_)
      · generalize f_M_enter (nI r) (nI q) 0 m = o
        cases o <;> rfl
      · exact MR_close hr hz (by omega) g8 g9 (by omega) (fr_mx ht g3) g4 g5 (Or.inl (by rw [g6]; decide))
  by_cases c63 : T p = 63
  · have hsp : sp T r (sl T r f) d p = sb (st T (p + 1)) (fun q => sb (si T (sl T r f) d q) (fun q2 => if T q2 = 58 then si T (sl T r f) d (q2 + 1) else .inr q2)) := by
      unfold sp
      simp (disch := omega) only [↓reduceIte, ↓m1_l,  eq_self, zleN, zlvN, zcaN, zi_N, nI_clamp, zu_s, zu_n, nI_add, pk_mul, pk_subO, nI_eqP, nI_ltP, nI_leP, nI_m1P, nI_m1Q, nI_m1R, nI_m1S, nI_m1U, nI_m1P', if_pos, if_neg, l_0, l_1, l_2, l_3, l_4, l_5, l_6, l_7, l_8, l_10, l_15, l_16, l_20, l_26, l_31, l_33, l_37, l_38, l_40, l_41, l_42, l_43, l_44, l_45, l_48, l_57, l_58, l_60, l_61, l_62, l_63, l_64, l_97, l_98, l_99, l_100, l_102, l_105, l_107, l_113, l_114, l_115, l_120, l_126, l_160, l_164, l_242, l_401, l_420, l_640, l_656, l_9999, l_100000]
    rw [hsp] at hend herr ⊢
    rw [c63, if_neg (show ¬ nI 63 = 33 by decide), if_neg (show ¬ nI 63 = 38 by decide), if_neg (show ¬ nI 63 = 42 by decide), if_neg (show ¬ nI 63 = 43 by decide), if_neg (show ¬ nI 63 = 45 by decide), if_neg (show ¬ nI 63 = 62 by decide), if_pos (show nI 63 = 63 by decide)]
    have htst := md_test hr hz (show p + 1 ≤ n by omega) ht e6
    cases hst : st T (p + 1) with
    | inl e =>
      rw [hst] at htst herr hend
      have hee := herr e rfl
      rw [sb_l] at herr hend ⊢
      obtain ⟨y, hy⟩ := htst.2 e rfl
      rw [hy, zcall, zlet, zu_s, if_pos (nI_pos' (by omega))]
      exact MR_mq hr hz mq_er (by omega) herr hend e5 e6
    | inr q =>
      rw [hst] at htst herr hend
      rw [sb_r]
      have hq := st_end hz hst
      rw [htst.1 q rfl, zcall, zlet, e6, if_neg (show ¬ (0 : Int32) ≤ -1 by decide)]
      refine MR_inner hr hz IH (b := 1) hq.2 hd (by omega) (by omega) (by omega) ht e5 e6 ?_ (fun e1 m1 N1 g1 g2 g3 g4 g5 g6 g7 g8 g9 ga gb => ?_)
      · generalize f_M_enter (nI r) (nI q) 1 m = o
        cases o <;> rfl
      · have u := sl_ok hz f (d + 1) _ _ (show q + 1 ≤ n by have : q < n := tz_lt hz (by omega); omega) g1
        by_cases c58 : T (e1 + 1) = 58
        · rw [if_pos c58]
          have h58 : e1 + 1 < n := tz_lt hz (by omega)
          obtain ⟨N1, rfl⟩ : ∃ N', N1 = N' + 1 := ⟨N1 - 1, by omega⟩
          rw [mL_leave hr hz g8 g9 (fr_mx ht g3) g5, md_leave2 hr hz (by omega) (fr_mx ht g3) g4 g5 g6 c58]
          have hsb : si T (sl T r f) d (e1 + 1 + 1) = sb (si T (sl T r f) d (e1 + 1 + 1)) (fun e => .inr e) := by
            cases si T (sl T r f) d (e1 + 1 + 1) <;> rfl
          rw [hsb]
          have hx1 : fr m1 (ze_u m1 75 5 (nI d)) := fr_5 (fr_0 m1) (Or.inl rfl) _
          refine MR_seq hr hz (m1 := ze_u m1 75 5 (nI d)) (N1 := N1 + 1) (q := e1) (Nat.le_refl _) hx1 (fun i hi => zu_n _ _ _ _ (by omega)) ?_
          refine MR_inner hr hz IH (b := 0) (q := e1 + 1 + 1) (by omega) hd (by omega) (by omega) (by omega) (fr_mx (fr_mx ht g3) hx1) (zu_s _ _ _ _) (by rw [zu_n _ _ _ _ (by omega)]; exact g5) ?_ (fun e2 m2 N2 k1 k2 k3 k4 k5 k6 k7 k8 k9 ka kb => ?_)
          · generalize f_M_enter (nI r) (nI (e1 + 2)) 0 (ze_u m1 75 5 (nI d)) = o
            cases o <;> rfl
          · exact MR_close hr hz (by omega) k8 k9 (by omega) (fr_mx (fr_mx (fr_mx ht g3) hx1) k3) k4 k5 (Or.inl (by rw [k6]; decide))
        · rw [if_neg c58]
          exact MR_close hr hz (by omega) g8 g9 (by omega) (fr_mx ht g3) g4 g5 (Or.inr c58)
  have hsp : sp T r (sl T r f) d p = .inl p := by
    unfold sp
    simp (disch := omega) only [↓reduceIte, ↓m1_l,  eq_self, zleN, zlvN, zcaN, zi_N, nI_clamp, zu_s, zu_n, nI_add, pk_mul, pk_subO, nI_eqP, nI_ltP, nI_leP, nI_m1P, nI_m1Q, nI_m1R, nI_m1S, nI_m1U, nI_m1P', if_pos, if_neg, l_0, l_1, l_2, l_3, l_4, l_5, l_6, l_7, l_8, l_10, l_15, l_16, l_20, l_26, l_31, l_33, l_37, l_38, l_40, l_41, l_42, l_43, l_44, l_45, l_48, l_57, l_58, l_60, l_61, l_62, l_63, l_64, l_97, l_98, l_99, l_100, l_102, l_105, l_107, l_113, l_114, l_115, l_120, l_126, l_160, l_164, l_242, l_401, l_420, l_640, l_656, l_9999, l_100000]
  rw [hsp] at hend herr ⊢
  rw [if_neg (show ¬ nI (T p) = 33 by rw [l_33, nI_eqP (by omega) (by omega)]; exact c33), if_neg (show ¬ nI (T p) = 38 by rw [l_38, nI_eqP (by omega) (by omega)]; exact c38), if_neg (show ¬ nI (T p) = 42 by rw [l_42, nI_eqP (by omega) (by omega)]; exact c42), if_neg (show ¬ nI (T p) = 43 by rw [l_43, nI_eqP (by omega) (by omega)]; exact c43), if_neg (show ¬ nI (T p) = 45 by rw [l_45, nI_eqP (by omega) (by omega)]; exact c45), if_neg (show ¬ nI (T p) = 62 by rw [l_62, nI_eqP (by omega) (by omega)]; exact c62), if_neg (show ¬ nI (T p) = 63 by rw [l_63, nI_eqP (by omega) (by omega)]; exact c63), if_neg (show ¬ nI (T p) = 97 by rw [l_97, nI_eqP (by omega) (by omega)]; exact c97), if_neg (show ¬ nI (T p) = 98 by rw [l_98, nI_eqP (by omega) (by omega)]; exact c98), if_neg (show ¬ nI (T p) = 102 by rw [l_102, nI_eqP (by omega) (by omega)]; exact c102), if_neg (show ¬ nI (T p) = 105 by rw [l_105, nI_eqP (by omega) (by omega)]; exact c105), if_neg (show ¬ nI (T p) = 107 by rw [l_107, nI_eqP (by omega) (by omega)]; exact c107), if_neg (show ¬ nI (T p) = 113 by rw [l_113, nI_eqP (by omega) (by omega)]; exact c113), if_neg (show ¬ nI (T p) = 114 by rw [l_114, nI_eqP (by omega) (by omega)]; exact c114), if_neg (show ¬ nI (T p) = 115 by rw [l_115, nI_eqP (by omega) (by omega)]; exact c115), zlev]
  exact MR_mq hr hz mq_er (by omega) herr hend e5 e6
theorem ML_all (hr : r < 4) (hz : tz n T) : ∀ f, ML T n r f
  | 0 => fun d p N m h1 h2 h3 h4 ht e5 e6 => by omega
  | f + 1 => fun d p N m h1 h2 h3 hN ht e5 e6 => by
    have h40 := hz.1
    have hT := tz_le hz p
    rw [sl_s]
    have here : MR r N p d m (mL r N p m) (.inr p) := by
      refine ⟨fun e he => (by cases he), fun q hq => ?_⟩
      injection hq with hq
      subst hq
      exact ⟨m, N, Nat.le_refl _, rfl, fr_0 m, e5, e6, fun i hi => rfl⟩
    by_cases c1 : T p = 0
    · rw [if_pos c1]
      by_cases c0 : 0 < d
      · rw [if_pos c0]
        have hpn : p = n := by
          rcases Nat.lt_or_ge p n with q | q
          · have := (hz.2.1 p q).1
            omega
          · omega
        subst hpn
        obtain ⟨N, rfl⟩ : ∃ N', N = N' + 1 := ⟨N - 1, by omega⟩
        have hl : mL r (N + 1) p m = some (nI p, ze_u m 75 6 (nI p)) := by
          unfold mL
          rw [f_M_errorOf_L12]
          rw [e6, if_neg (show ¬ (0 : Int32) ≤ -1 by decide), zi_nI (by omega) (by omega), nI_clamp (by omega), ht.1, if_pos (nI_le (Nat.le_refl _) (by omega))]
          unfold f_M_errorOf_J59
          rw [e6, if_neg (show ¬ (0 : Int32) ≤ -1 by decide), e5, if_neg (show ¬ nI d ≤ 0 by rw [l_0, nI_leP (by omega) (by omega)]; omega), zi_nI (by omega) (by omega), nI_clamp (by omega), ht.1, zlev, zu_s]
        rw [hl]
        exact ⟨fun e he => ⟨_, by injection he with he; rw [he], fr_5 (fr_0 m) (Or.inr rfl) _⟩, fun q hq => (by cases hq)⟩
      · rw [if_neg c0]
        exact here
    · rw [if_neg c1]
      have hpn : p < n := tz_lt hz c1
      by_cases c2 : T p = 41 ∧ 0 < d
      · rw [if_pos c2]
        exact here
      · rw [if_neg c2]
        obtain ⟨N, rfl⟩ : ∃ N', N = N' + 1 := ⟨N - 1, by omega⟩
        have hs : MR r (N + 1) p d m (mL r (N + 1) p m) (sp T r (sl T r f) d p) := by
          by_cases c3 : T p = 41
          · have hd0 : d = 0 := by omega
            subst hd0
            have hsp : sp T r (sl T r f) 0 p = .inl p := by
              unfold sp
              simp (disch := omega) only [↓reduceIte, ↓m1_l,  eq_self, zleN, zlvN, zcaN, zi_N, nI_clamp, zu_s, zu_n, nI_add, pk_mul, pk_subO, nI_eqP, nI_ltP, nI_leP, nI_m1P, nI_m1Q, nI_m1R, nI_m1S, nI_m1U, nI_m1P', if_pos, if_neg, l_0, l_1, l_2, l_3, l_4, l_5, l_6, l_7, l_8, l_10, l_15, l_16, l_20, l_26, l_31, l_33, l_37, l_38, l_40, l_41, l_42, l_43, l_44, l_45, l_48, l_57, l_58, l_60, l_61, l_62, l_63, l_64, l_97, l_98, l_99, l_100, l_102, l_105, l_107, l_113, l_114, l_115, l_120, l_126, l_160, l_164, l_242, l_401, l_420, l_640, l_656, l_9999, l_100000]
            rw [hsp, mL_leave hr hz hpn c3 ht e6, md_leave0 hr hz (by omega) ht e5 e6]
            exact MR_mq hr hz mq_er (by omega) (fun e he => by injection he with he; omega) (fun q hq => (by cases hq)) e5 e6
          · exact md_step hr hz (ML_all hr hz f) hpn (by omega) h3 hN ht e5 e6 c3
        cases hsp : sp T r (sl T r f) d p with
        | inl e =>
          rw [hsp] at hs
          exact hs
        | inr q =>
          rw [hsp] at hs
          rw [sb_r]
          obtain ⟨m1, N1, k0, k1, k2, k3, k4, k5⟩ := hs.2 q rfl
          have hq := sp_end hz hsp
          rw [k1]
          exact MR_seq hr hz k0 k2 k5 (ML_all hr hz f d q N1 m1 (by omega) hq.2 h3 (by omega) (fr_mx ht k2) k3 k4)
/-- the reference's reader on a text -/
theorem md_text (hr : r < 4) (hz : tz n T) (ht : mx r n T m) : ∃ m1, fr m m1 ∧ (∀ e, sl T r 41 0 0 = .inl e → f_M_errorOf (nI r) m = some (nI e, m1)) ∧ (∀ e, sl T r 41 0 0 = .inr e → f_M_errorOf (nI r) m = some (-1, m1)) := by
  have h40 := hz.1
  have f1 : fr m (ze_u (ze_u m 75 6 (-1)) 75 5 0) := fr_5 (fr_5 (fr_0 m) (Or.inr rfl) _) (Or.inl rfl) _
  have e : f_M_errorOf (nI r) m = mL r 200000 0 (ze_u (ze_u m 75 6 (-1)) 75 5 0) := by
    unfold f_M_errorOf
    rw [zlev, zlev, zlet]
    rfl
  have h := ML_all hr hz 41 0 0 200000 (ze_u (ze_u m 75 6 (-1)) 75 5 0) (by omega) (by omega) (by omega) (by omega) (fr_mx ht f1) (zu_s _ _ _ _) (by rw [zu_n _ _ _ _ (by omega), zu_s])
  rw [e]
  cases hsl : sl T r 41 0 0 with
  | inl e =>
    rw [hsl] at h
    obtain ⟨m1, h1, h2⟩ := h.1 e rfl
    exact ⟨m1, fr_t f1 h2, fun e' he' => by injection he' with he'; rw [← he']; exact h1, fun e' he' => (by cases he')⟩
  | inr q =>
    rw [hsl] at h
    obtain ⟨m1, N1, k0, k1, k2, k3, k4, k5⟩ := h.2 q rfl
    refine ⟨m1, fr_t f1 k2, fun e' he' => (by cases he'), fun e' he' => ?_⟩
    have hq := sl_ok hz 41 0 0 q (by omega) hsl
    have hqn : q = n := by
      rcases Nat.lt_or_ge q n with g | g
      · have := (hz.2.1 q g).1
        have := hq.2.2.2 rfl
        omega
      · omega
    subst hqn
    obtain ⟨N1, rfl⟩ : ∃ N', N1 = N' + 1 := ⟨N1 - 1, by omega⟩
    rw [k1]
    unfold mL
    rw [f_M_errorOf_L12]
    rw [k4, if_neg (show ¬ (0 : Int32) ≤ -1 by decide), zi_nI (by omega) (by omega), nI_clamp (by omega), (fr_mx ht (fr_t f1 k2)).1, if_pos (nI_le (Nat.le_refl _) (by omega))]
    unfold f_M_errorOf_J59
    rw [k4, if_neg (show ¬ (0 : Int32) ≤ -1 by decide), k3, if_pos (show nI 0 ≤ 0 by decide)]
end RM
