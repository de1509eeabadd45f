/-! PURE: throws, clauses, redeliveries -/
def clm (tj t : Nat) : Prop := tj = t ∨ tj = t / 2 ∨ tj = t / 4
section CL
variable {x m : ze_H}
theorem cf_in {j tj : Nat} {b1 : Int32} (hj : j < 4) (htj : 1 ≤ tj) (htj2 : tj ≤ 7) (e81 : m 81 j = nI tj) {t : Nat} (ht : t ≤ 7) (kk : ze_H → Option (Int32 × ze_H)) (N : Nat) (hN : 4 ≤ N) : (clm tj t → f_M_clauseFor_L12 b1 (nI j) kk N (nI t) m = some (nI j, m)) ∧ (¬ clm tj t → f_M_clauseFor_L12 b1 (nI j) kk N (nI t) m = kk m) := by
  have step : ∀ N s, s ≤ 7 → f_M_clauseFor_L12 b1 (nI j) kk (N + 1) (nI s) m = if s = 0 then kk m else if tj = s then some (nI j, m) else f_M_clauseFor_L12 b1 (nI j) kk N (nI (s / 2)) m := by
    intro N s hs
    rw [f_M_clauseFor_L12]
    by_cases c : s = 0
    · rw [if_pos c, c, if_pos (show nI 0 ≤ 0 by decide)]
    · rw [if_neg c, if_neg (nI_nle (by omega) (by omega)), zi_nI hj (by omega), nI_clamp (by omega), e81]
      by_cases c2 : tj = s
      · rw [if_pos c2, c2, if_pos rfl]
      · rw [if_neg c2, if_neg (show ¬ nI tj = nI s by rw [nI_eqP (by omega) (by omega)]; exact c2), if_neg (show ¬ (2 : Int32) = 0 by decide), zlet, show (2 : Int32) = nI 2 from rfl, pk_div (by omega) (by omega) (by omega)]
  obtain ⟨N, rfl⟩ : ∃ N', N = N' + 4 := ⟨N - 4, by omega⟩
  have d8 : t / 2 / 2 / 2 = 0 := by omega
  have d4 : t / 2 / 2 = t / 4 := by omega
  have all : f_M_clauseFor_L12 b1 (nI j) kk (N + 4) (nI t) m = if t = 0 then kk m else if tj = t then some (nI j, m) else if t / 2 = 0 then kk m else if tj = t / 2 then some (nI j, m) else if t / 4 = 0 then kk m else if tj = t / 4 then some (nI j, m) else kk m := by
    rw [step (N + 3) t ht, step (N + 2) (t / 2) (by omega), step (N + 1) (t / 2 / 2) (by omega), d4, step N (t / 4 / 2) (by omega), if_pos (show t / 4 / 2 = 0 by omega)]
  unfold clm
  rw [all]
  constructor
  · intro h
    by_cases c1 : tj = t
    · rw [if_neg (by omega), if_pos c1]
    · rw [if_neg (by omega), if_neg c1]
      by_cases c2 : tj = t / 2
      · rw [if_neg (by omega), if_pos c2]
      · rw [if_neg (by omega), if_neg c2, if_neg (by omega), if_pos (by omega)]
  · intro h
    by_cases c1 : t = 0
    · rw [if_pos c1]
    · rw [if_neg c1, if_neg (by omega)]
      by_cases c2 : t / 2 = 0
      · rw [if_pos c2]
      · rw [if_neg c2, if_neg (by omega)]
        by_cases c3 : t / 4 = 0
        · rw [if_pos c3]
        · rw [if_neg c3, if_neg (by omega)]
/-- the clause for a throw -/
theorem cf_loop {s t : Nat} (hs : s ≤ 4) (ht : t ≤ 7) (e17 : x 17 5 = nI s) (e7 : m 75 7 = nI s) (hc : ∀ j, j < s → ∃ tj, 1 ≤ tj ∧ tj ≤ 7 ∧ x 18 j = nI tj ∧ m 81 j = nI tj) : ∀ (d j : Nat), j + d = s →
    (∃ c, j ≤ c ∧ c < s ∧ (∀ kk N, d < N → f_C_firstFor_L2 (nI t) kk N (nI j) x = some (nI c, x)) ∧ ∀ kk N, d < N → f_M_clauseFor_L2 (nI t) kk N (nI j) m = some (nI c, m)) ∨ ((∀ kk N, d < N → f_C_firstFor_L2 (nI t) kk N (nI j) x = kk x) ∧ ∀ kk N, d < N → f_M_clauseFor_L2 (nI t) kk N (nI j) m = kk m)
  | 0, j, hj => by
    refine Or.inr ⟨fun kk N hN => ?_, fun kk N hN => ?_⟩
    · obtain ⟨N, rfl⟩ : ∃ N', N = N' + 1 := ⟨N - 1, by omega⟩
      rw [f_C_firstFor_L2]
      rw [e17, if_pos (nI_le (by omega) (by omega))]
    · obtain ⟨N, rfl⟩ : ∃ N', N = N' + 1 := ⟨N - 1, by omega⟩
      rw [f_M_clauseFor_L2]
      rw [e7, if_pos (nI_le (by omega) (by omega))]
  | d + 1, j, hj => by
    obtain ⟨tj, t1, t2, t3, t4⟩ := hc j (by omega)
    have xs : ∀ (kk : ze_H → Option (Int32 × ze_H)) N, f_C_firstFor_L2 (nI t) kk (N + 1) (nI j) x = if tj = t then some (nI j, x) else if tj = t / 2 then some (nI j, x) else if tj = t / 4 then some (nI j, x) else f_C_firstFor_L2 (nI t) kk N (nI (j + 1)) x := fun kk N => by
      rw [f_C_firstFor_L2]
      rw [e17, if_neg (nI_ge (by omega) (by omega)), zi_nI (by omega) (by omega), zi_nI (by omega) (by omega), zi_nI (by omega) (by omega), nI_clamp (by omega), t3, if_neg (show ¬ (2 : Int32) = 0 by decide), if_neg (show ¬ (4 : Int32) = 0 by decide), zlet, nI_1, show nI t / 2 = nI (t / 2) from pk_div (d := 2) (by omega) (by omega) (by omega), show nI t / 4 = nI (t / 4) from pk_div (d := 4) (by omega) (by omega) (by omega)]
      simp only [nI_eqP (show tj < 2147483648 by omega) (show t < 2147483648 by omega), nI_eqP (show tj < 2147483648 by omega) (show t / 2 < 2147483648 by omega), nI_eqP (show tj < 2147483648 by omega) (show t / 4 < 2147483648 by omega)]
    have ms : ∀ (kk : ze_H → Option (Int32 × ze_H)) N, f_M_clauseFor_L2 (nI t) kk (N + 1) (nI j) m = f_M_clauseFor_L12 (nI t) (nI j) (fun v4 => f_M_clauseFor_L2 (nI t) kk N (nI (j + 1)) v4) 200000 (nI t) m := fun kk N => by
      rw [f_M_clauseFor_L2]
      rw [e7, if_neg (nI_ge (by omega) (by omega)), zlet, nI_1]
      rfl
    by_cases c : clm tj t
    · refine Or.inl ⟨j, by omega, by omega, fun kk N hN => ?_, fun kk N hN => ?_⟩
      · obtain ⟨N, rfl⟩ : ∃ N', N = N' + 1 := ⟨N - 1, by omega⟩
        rw [xs]
        unfold clm at c
        by_cases c1 : tj = t
        · rw [if_pos c1]
        · rw [if_neg c1]
          by_cases c2 : tj = t / 2
          · rw [if_pos c2]
          · rw [if_neg c2, if_pos (by omega)]
      · obtain ⟨N, rfl⟩ : ∃ N', N = N' + 1 := ⟨N - 1, by omega⟩
        rw [ms, (cf_in (by omega) t1 t2 t4 ht _ 200000 (by omega)).1 c]
    · have xs' : ∀ (kk : ze_H → Option (Int32 × ze_H)) N, f_C_firstFor_L2 (nI t) kk (N + 1) (nI j) x = f_C_firstFor_L2 (nI t) kk N (nI (j + 1)) x := fun kk N => by
        unfold clm at c
        rw [xs, if_neg (by omega), if_neg (by omega), if_neg (by omega)]
      have ms' : ∀ (kk : ze_H → Option (Int32 × ze_H)) N, f_M_clauseFor_L2 (nI t) kk (N + 1) (nI j) m = f_M_clauseFor_L2 (nI t) kk N (nI (j + 1)) m := fun kk N => by
        rw [ms, (cf_in (by omega) t1 t2 t4 ht _ 200000 (by omega)).2 c]
      rcases cf_loop hs ht e17 e7 hc d (j + 1) (by omega) with ⟨c', k1, k2, k3, k4⟩ | ⟨k1, k2⟩
      · refine Or.inl ⟨c', by omega, k2, fun kk N hN => ?_, fun kk N hN => ?_⟩
        · obtain ⟨N, rfl⟩ : ∃ N', N = N' + 1 := ⟨N - 1, by omega⟩
          rw [xs', k3 kk N (by omega)]
        · obtain ⟨N, rfl⟩ : ∃ N', N = N' + 1 := ⟨N - 1, by omega⟩
          rw [ms', k4 kk N (by omega)]
      · refine Or.inr ⟨fun kk N hN => ?_, fun kk N hN => ?_⟩
        · obtain ⟨N, rfl⟩ : ∃ N', N = N' + 1 := ⟨N - 1, by omega⟩
          rw [xs', k1 kk N (by omega)]
        · obtain ⟨N, rfl⟩ : ∃ N', N = N' + 1 := ⟨N - 1, by omega⟩
          rw [ms', k2 kk N (by omega)]
/-- the reference's doubling -/
theorem dbl {k : Nat} (kk : Int32 → ze_H → Option (Int32 × ze_H)) : ∀ (d j v N : Nat), j + d = k → d < N → k < 100 → f_M_step_L149 (nI k) kk N (nI v) (nI j) m = kk (nI (v * 2 ^ d)) m
  | 0, j, v, N, hj, hN, hk => by
    obtain ⟨N, rfl⟩ : ∃ N', N = N' + 1 := ⟨N - 1, by omega⟩
    rw [f_M_step_L149]
    rw [if_pos (nI_le (by omega) (by omega)), Nat.pow_zero, Nat.mul_one]
  | d + 1, j, v, N, hj, hN, hk => by
    obtain ⟨N, rfl⟩ : ∃ N', N = N' + 1 := ⟨N - 1, by omega⟩
    rw [f_M_step_L149]
    rw [if_neg (nI_ge (by omega) (by omega)), zlet, zlet, nI_1, show 2 * nI v = nI (2 * v) from pk_mul 2 v, dbl kk d (j + 1) (2 * v) N (by omega) (by omega) hk, Nat.pow_succ, Nat.mul_comm 2 v, Nat.mul_assoc, Nat.mul_comm 2 (2 ^ d)]
end CL
/-- what the reference does about a throw -/
def mtl (kk : ze_H → Option (Int32 × ze_H)) (n : Nat) (l1 x8 : Int32) (v7 : ze_H) : Option (Int32 × ze_H) :=
  ze_call (f_M_clauseFor  x8 v7) (fun r9 v10 => ze_let r9 (fun x11 => (if 0 ≤ x11 then ze_in x11 4 ((if l1 ≤ (v10 82 (Int32.toNatClampNeg x11)) then ze_in x11 4 (ze_let (v10 83 (Int32.toNatClampNeg x11)) (fun x12 => ze_let 1 (fun x13 => (f_M_step_L149  l1 (fun x16 v17 => (if x16 ≤ 60 then ze_lev (ze_u v17 75 58 ((v17 75 58) + x16)) (fun v18 => ze_lev (ze_u v18 75 59 ((v18 75 59) + 1)) (fun v19 => ze_let (l1 + 1) (fun x20 => (f_M_step_L2   kk n x20 v19)))) else ze_lev (ze_u v17 75 58 ((v17 75 58) + 60)) (fun v21 => ze_lev (ze_u v21 75 59 ((v21 75 59) + 1)) (fun v22 => ze_let (l1 + 1) (fun x23 => (f_M_step_L2   kk n x23 v22)))))) 200000 x12 x13 v10)))) else ze_in x11 4 ((if (v10 84 (Int32.toNatClampNeg x11)) = 0 then some (6, v10) else ze_in x11 4 ((if (v10 85 (Int32.toNatClampNeg x11)) = 0 then ze_in (v10 75 40) 16 (ze_in (v10 75 40) 16 (ze_call (f_M_deliver  4 (v10 108 (Int32.toNatClampNeg (v10 75 40))) (v10 109 (Int32.toNatClampNeg (v10 75 40))) v10) (fun r24 v25 => some (5, v25)))) else ze_in (v10 75 40) 16 (ze_in (v10 75 40) 16 (ze_call (f_M_deliver  4 (v10 110 (Int32.toNatClampNeg (v10 75 40))) (v10 109 (Int32.toNatClampNeg (v10 75 40))) v10) (fun r26 v27 => some (5, v27)))))))))) else some (6, v10))))
section RD
variable {n : Nat → Nat} {T : Nat → Nat → Nat} {tb x m : ze_H} {G R a e l : Nat}
/-- time and redeliveries -/
theorem RS_time {y : Int32} (h : RS n T tb G R a x m) : RS n T tb G R a (ze_u (ze_u x 0 15 (x 0 15 + 1)) 0 13 (x 0 13 + y)) (ze_u (ze_u m 75 58 (m 75 58 + y)) 75 59 (m 75 59 + 1)) := by
  obtain ⟨h1, h2, h3, h4, h5, h6, h7, h8, h9, h10, h11, h12⟩ := h
  have hx : ∀ k i, ¬ (k = 0 ∧ (i = 13 ∨ i = 15)) → ze_u (ze_u x 0 15 (x 0 15 + 1)) 0 13 (x 0 13 + y) k i = x k i := fun k i hk => by rw [zu_n _ _ _ _ (by omega), zu_n _ _ _ _ (by omega)]
  have hm : ∀ k i, ¬ (k = 75 ∧ (i = 58 ∨ i = 59)) → ze_u (ze_u m 75 58 (m 75 58 + y)) 75 59 (m 75 59 + 1) k i = m k i := fun k i hk => by rw [zu_n _ _ _ _ (by omega), zu_n _ _ _ _ (by omega)]
  refine ⟨kp_tab h1 (fun k i hk => hx k i (by omega)), kp_mt h2 (fun k i hk => hm k i (by omega)), ⟨fun k hk => ?_, ?_, ?_⟩, kp_cls h4 (fun k i hk => hx k i (by omega)) (fun k i hk => hm k i (by omega)), kp_ep h5 (fun k i hk => hx k i (by omega)) (fun k i hk => hm k i (by omega)), kp_got h6 (fun k i hk => hx k i (by omega)) (fun k i hk => hm k i (by omega)), kp_que h7 (fun k i hk => hx k i (by omega)) (fun k i hk => hm k i (by omega)), kp_grp h8 (fun k i hk => hx k i (by omega)) (fun k i hk => hm k i (by omega)), kp_i h9 (fun k i hk => hx k i (by omega)) (fun k i hk => hm k i (by omega)), kp_q h10 (fun k i hk => hx k i (by omega)) (fun k i hk => hm k i (by omega)), kp_rdy h11 (Nat.le_refl _) (fun k i hk => hx k i (by omega)) (fun k i hk => hm k i (by omega)), kp_att h12 (fun k i hk => hx k i (by omega)) (fun k i hk => hm k i (by omega))⟩
  · rw [hx _ _ (by omega), hm _ _ (by omega)]
    exact h3.1 k hk
  · rw [zu_s, zu_n _ _ _ _ (by omega), zu_s, h3.2.1]
  · rw [zu_n _ _ _ _ (by omega), zu_s, zu_s, h3.2.2]
/-- both sides see to a throw alike -/
theorem sim_thr (h : RS n T tb G R a x m) (hG : G < 2 ^ 28) (he : e < 16) (hl : l < 16) (hE : EX e l x m) {t k : Nat} (ht : t ≤ 7) (hk : 1 ≤ k) (hk6 : k ≤ 6) (kk : ze_H → Option (Int32 × ze_H)) (N : Nat) :
    (k ≤ 5 ∧ ∃ x1 m1, f_E_isRedelivered (58 + e) (nI t) (nI k) x = some (1, x1) ∧ mtl kk N (nI k) (nI t) m = f_M_step_L2 kk N (nI (k + 1)) m1 ∧ RS n T tb G R a x1 m1 ∧ (∀ q i, ¬ (q = 0) → x1 q i = x q i) ∧ (∀ q i, ¬ (q = 75 ∧ (i = 58 ∨ i = 59)) → m1 q i = m q i)) ∨
    (∃ oc x1 m1, (oc = 5 ∨ oc = 6) ∧ f_E_isRedelivered (58 + e) (nI t) (nI k) x = some (0, x1) ∧ mtl kk N (nI k) (nI t) m = some (nI oc, m1) ∧ RS n T tb (G + 1) R a x1 (cup oc m1) ∧ x1 (58 + e) 3 = nI oc ∧ (∀ q i, (58 ≤ q ∧ q ≤ 73 ∧ q ≠ 58 + e) → x1 q i = x q i) ∧ (∀ q i, ¬ (88 ≤ q ∧ q ≤ 90) → m1 q i = m q i)) := by
  obtain ⟨s, s1, s2, s3, s4⟩ := h.2.2.2.1
  obtain ⟨a0, a1, a2, a3, a4⟩ := hE
  have hend6 : ∀ y, (∃ m1, y = some ((6 : Int32), m1) ∧ m1 = m) → ∀ tx, tx = ze_call (f_E_end (58 + e) 6 x) (fun r4 v5 => some ((0 : Int32), v5)) → ∃ oc x1 m1, (oc = 5 ∨ oc = 6) ∧ tx = some (0, x1) ∧ y = some (nI oc, m1) ∧ RS n T tb (G + 1) R a x1 (cup oc m1) ∧ x1 (58 + e) 3 = nI oc ∧ (∀ q i, (58 ≤ q ∧ q ≤ 73 ∧ q ≠ 58 + e) → x1 q i = x q i) ∧ (∀ q i, ¬ (88 ≤ q ∧ q ≤ 90) → m1 q i = m q i) := by
    rintro y ⟨m1, rfl, rfl⟩ tx rfl
    rw [show (6 : Int32) = nI 6 from rfl, px_end (by omega) x he, zcall]
    exact ⟨6, _, m1, Or.inr rfl, rfl, rfl, RS_mono (RS_end h he (by omega) (by omega)) (by omega) (Nat.le_refl _), by rw [zu_n _ _ _ _ (by omega), zu_s], fun q i hq => by rw [zu_n _ _ _ _ (by omega), zu_n _ _ _ _ (by omega)], fun q i hq => rfl⟩
  have hdead : ∀ y : Int32, ∀ tx, tx = f_E_isRedelivered_J116 (58 + e) y x → ∀ tm, tm = ze_call (f_M_deliver 4 y (m 109 l) m) (fun r24 v25 => some ((5 : Int32), v25)) → ∃ oc x1 m1, (oc = 5 ∨ oc = 6) ∧ tx = some (0, x1) ∧ tm = some (nI oc, m1) ∧ RS n T tb (G + 1) R a x1 (cup oc m1) ∧ x1 (58 + e) 3 = nI oc ∧ (∀ q i, (58 ≤ q ∧ q ≤ 73 ∧ q ≠ 58 + e) → x1 q i = x q i) ∧ (∀ q i, ¬ (88 ≤ q ∧ q ≤ 90) → m1 q i = m q i) := by
    rintro y tx rfl tm rfl
    obtain ⟨g, g1, g2, g3, -⟩ := h.2.2.2.2.2.1 4 (by omega)
    obtain ⟨k1, k2⟩ := sim_acc (x := x) (m := m) (d := 4) (g := g) (b := y) (y := m 109 l) (by omega) (by omega) g2 g3
    have k1' : f_N_accept (24 + 3 * Int32.toNatClampNeg 4) y (m 109 l) x = _ := k1
    have k2' : f_M_deliver 4 y (m 109 l) m = _ := k2
    have k5 := RS_end (RS_acc (b := y) (y := m 109 l) h (show 4 < 5 by omega) g1 g2 g3) he (show 0 < 5 by omega) (show 5 < 8 by omega)
    unfold f_E_isRedelivered_J116
    rw [zlet, show ∀ t, ze_in (4 : Int32) 5 t = t from fun t => zi_nI (j := 4) (by omega) (by omega) t, a1, k1', zcall, show (5 : Int32) = nI 5 from rfl, px_end (by omega) _ he, zcall, k2', zcall]
    exact ⟨5, _, _, Or.inl rfl, rfl, rfl, k5, by rw [zu_n _ _ _ _ (by omega), zu_s], fun q i hq => by simp (disch := omega) only [zu_n], fun q i hq => by simp (disch := omega) only [zu_n]⟩
  unfold f_E_isRedelivered mtl f_C_firstFor f_M_clauseFor
  rw [zlet, zlet]
  rcases cf_loop (x := x) (m := m) s1 ht s2 s3 (fun j hj => by obtain ⟨tj, _, _, _, _, b1, b2, _, _, _, _, b3, b4, _⟩ := s4 j hj; exact ⟨tj, b1, b2, b3, b4⟩) s 0 (by omega) with ⟨c, c1, c2, c3, c4⟩ | ⟨c3, c4⟩
  · have c3' : ∀ kk : ze_H → Option (Int32 × ze_H), f_C_firstFor_L2 (nI t) kk 200000 0 x = some (nI c, x) := fun kk => c3 kk 200000 (by omega)
    have c4' : ∀ kk : ze_H → Option (Int32 × ze_H), f_M_clauseFor_L2 (nI t) kk 200000 0 m = some (nI c, m) := fun kk => c4 kk 200000 (by omega)
    obtain ⟨tj, am, dl, hh, oo, b1, b2, b3, b4, b5, b6, b7, b8, b9, b10, b11, b12, b13, b14, b15, b16⟩ := s4 c c2
    rw [c3', c4', zcall, zcall, zlet, zlet, if_neg (show ¬ nI c = -1 by rw [m1_l, nI_m1P (by omega)]; exact id), if_pos (nI_pos' (by omega))]
    simp only [show ∀ t, ze_in (nI c) 4 t = t from fun t => zi_nI (by omega) (by omega) t]
    rw [nI_clamp (by omega), b9, b10]
    by_cases ck : k ≤ am
    · refine Or.inl ⟨by omega, ?_⟩
      have esh : nI dl <<< ((nI k - 1) &&& 31) = nI (dl * 2 ^ (k - 1)) := by
        have e1 : nI k - 1 = nI (k - 1) := pk_sub (b := 1) (by omega)
        have e2 : ∀ d : Fin 6, nI d.1 &&& 31 = nI d.1 := by decide +kernel
        have e3 : ∀ d : Fin 6, ((nI d.1).toBitVec.smod 32).toNat = d.1 := by decide +kernel
        rw [e1, e2 ⟨k - 1, by omega⟩]
        refine pk_shlN (nI (k - 1)) (k - 1) (e3 ⟨k - 1, by omega⟩) ?_
        have : 2 ^ (k - 1) ≤ 2 ^ 5 := Nat.pow_le_pow_right (by omega) (by omega)
        have h2 : dl * 2 ^ (k - 1) ≤ 20 * 2 ^ 5 := Nat.mul_le_mul b4 this
        omega
      have hb : dl * 2 ^ (k - 1) ≤ 640 := by
        have : 2 ^ (k - 1) ≤ 2 ^ 5 := Nat.pow_le_pow_right (by omega) (by omega)
        have h2 : dl * 2 ^ (k - 1) ≤ 20 * 2 ^ 5 := Nat.mul_le_mul b4 this
        omega
      have hdb : ∀ kk, f_M_step_L149 (nI k) kk 200000 (nI dl) 1 m = kk (nI (dl * 2 ^ (k - 1))) m := fun kk => dbl kk (k - 1) 1 dl 200000 (by omega) (by omega) (by omega)
      rw [if_neg (nI_nlt ck (by omega)), zlev, zlev, if_pos (nI_le ck (by omega)), zlet, zlet, zu_n _ _ _ _ (by omega), zu_n _ _ _ _ (by omega), b11, b12, esh, hdb]
      by_cases c60 : dl * 2 ^ (k - 1) ≤ 60
      · rw [if_neg (show ¬ (60 : Int32) < nI (dl * 2 ^ (k - 1)) from nI_nlt (a := 60) c60 (by omega)), if_pos (show nI (dl * 2 ^ (k - 1)) ≤ 60 from nI_le (b := 60) c60 (by omega)), zlev, zlev, zlet, zu_n _ _ _ _ (by omega), nI_1]
        exact ⟨_, _, rfl, rfl, RS_time h, fun q i hq => by rw [zu_n _ _ _ _ (by omega), zu_n _ _ _ _ (by omega)], fun q i hq => by rw [zu_n _ _ _ _ (by omega), zu_n _ _ _ _ (by omega)]⟩
      · rw [if_pos (show (60 : Int32) < nI (dl * 2 ^ (k - 1)) from nI_lt (a := 60) (by omega) (by omega)), if_neg (show ¬ nI (dl * 2 ^ (k - 1)) ≤ 60 from nI_ge (a := 60) (by omega) (by omega)), zlev, zlev, zlet, zu_n _ _ _ _ (by omega), nI_1]
        exact ⟨_, _, rfl, rfl, RS_time h, fun q i hq => by rw [zu_n _ _ _ _ (by omega), zu_n _ _ _ _ (by omega)], fun q i hq => by rw [zu_n _ _ _ _ (by omega), zu_n _ _ _ _ (by omega)]⟩
    · refine Or.inr ?_
      rw [if_pos (nI_lt (show am < k by omega) (by omega)), if_neg (nI_ge (by omega) (by omega)), b13, b14]
      by_cases ch : hh = 0
      · rw [ch, if_pos (show nI 0 = 0 from rfl), if_pos (show nI 0 = 0 from rfl)]
        exact hend6 _ ⟨m, rfl, rfl⟩ _ rfl
      · rw [if_neg (nI_ne0 (by omega) (by omega)), if_neg (nI_ne0 (by omega) (by omega)), b15, b16, a4]
        simp only [show ∀ t, ze_in (nI l) 16 t = t from fun t => zi_nI hl (by omega) t]
        rw [nI_clamp (by omega)]
        by_cases co : oo = 0
        · rw [co, if_pos (show nI 0 = 0 from rfl), if_pos (show nI 0 = 0 from rfl), ← a0]
          exact hdead _ _ rfl _ rfl
        · rw [if_neg (nI_ne0 (by omega) (by omega)), if_neg (nI_ne0 (by omega) (by omega)), ← a2]
          exact hdead _ _ rfl _ rfl
  · have c3' : ∀ kk : ze_H → Option (Int32 × ze_H), f_C_firstFor_L2 (nI t) kk 200000 0 x = kk x := fun kk => c3 kk 200000 (by omega)
    have c4' : ∀ kk : ze_H → Option (Int32 × ze_H), f_M_clauseFor_L2 (nI t) kk 200000 0 m = kk m := fun kk => c4 kk 200000 (by omega)
    refine Or.inr ?_
    rw [c3', c4', zcall, zcall, zlet, zlet, if_pos rfl, if_neg (show ¬ (0 : Int32) ≤ -1 by decide)]
    exact hend6 _ ⟨m, rfl, rfl⟩ _ rfl
end RD
