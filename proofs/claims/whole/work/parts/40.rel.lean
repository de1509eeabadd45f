/-! PURE: the relation while exchanges run -/
def PR (n : Nat → Nat) (T : Nat → Nat → Nat) (tb : ze_H) : Prop := ∀ r, r < 4 → tz (n r) (T r) ∧ (∃ e, sl (T r) r 41 0 0 = .inr e) ∧ wt (T r) r tb 9 41 0 0 ∧ ∀ p, p ≤ 40 → tb 10 (41 * r + p) = nI (T r p)
def r_tab (tb x : ze_H) : Prop := ∀ k i, 10 ≤ k → k ≤ 15 → x k i = tb k i
def r_mt (n : Nat → Nat) (T : Nat → Nat → Nat) (m : ze_H) : Prop := ∀ r, r < 4 → m 79 r = nI (n r) ∧ ∀ p, p < n r → m 78 (40 * r + p) = nI (T r p)
/-- a list of steps of route r from p on, outside parentheses -/
def lsx (n : Nat → Nat) (T : Nat → Nat → Nat) (tb : ze_H) (r p : Nat) : Prop := r < 4 ∧ p ≤ n r ∧ ∃ f e, sl (T r) r f 0 p = .inr e ∧ wt (T r) r tb 9 f 0 p
def a97 (T : Nat → Nat) (p : Nat) : Nat := ne T (ne T (p + 1) + 1)
def v97 (T : Nat → Nat) (p : Nat) : Prop := T p = 97 ∧ sn T 2 4 (p + 1) = .inr (ne T (p + 1)) ∧ T (ne T (p + 1)) = 44 ∧ sn T 1 99 (ne T (p + 1) + 1) = .inr (a97 T p)
def v113 (T : Nat → Nat) (p : Nat) : Prop := T p = 113 ∧ sn T 2 4 (p + 1) = .inr (ne T (p + 1))
def cntI (g : Nat → Int32) (y : Int32) : Nat → Nat
  | 0 => 0
  | h + 1 => cntI g y h + if g h = y then 1 else 0
def r_que (x m : ze_H) : Prop := ∃ f s, f < 8 ∧ s ≤ 8 ∧ x 39 0 = nI 8 ∧ x 39 4 = nI f ∧ x 39 5 = nI s ∧ m 75 18 = nI s ∧ ∀ i, i < s → ∃ t, t < 4 ∧ x 40 ((f + i) % 8) = nI (41 * t) ∧ m 91 i = nI t ∧ x 41 ((f + i) % 8) = m 92 i ∧ x 42 ((f + i) % 8) = m 93 i
def g_row (n : Nat → Nat) (T : Nat → Nat → Nat) (tb : ze_H) (ex : Nat) (x m : ze_H) (i : Nat) : Prop := ∃ r p b, r < 4 ∧ v97 (T r) p ∧ lsx n T tb r (a97 (T r) p) ∧ tb 15 (41 * r + p) = nI (41 * r + a97 (T r) p) ∧ b < nv (T r) (p + 1) + (if i = ex then 1 else 0) ∧ x 48 i = nI (41 * r + p) ∧ m 94 i = nI (40 * r + p) ∧ x 49 i = m 95 i ∧ x 50 i = m 96 i ∧ x 51 i = nI b ∧ m 97 i = nI b ∧ x 52 i = m 98 i ∧ m 99 i = nI (64 * r + a97 (T r) p)
def r_grp (n : Nat → Nat) (T : Nat → Nat → Nat) (tb : ze_H) (ex : Nat) (x m : ze_H) : Prop := ∃ g, g ≤ 120 ∧ x 47 5 = nI g ∧ m 75 22 = nI g ∧ (∀ i, i < g → g_row n T tb ex x m i) ∧ (∀ y, cntI (x 48) y g ≤ 3) ∧ ∀ i j, i < j → j < g → ¬ (x 48 i = x 48 j ∧ x 49 i = x 49 j)
/-- what a step q holds, in the order of the reference's rows -/
def hl (m : ze_H) (c : Nat) : Nat → List (Int32 × Int32)
  | 0 => []
  | h + 1 => hl m c h ++ if m 100 h = nI c then [(m 102 h, m 101 h)] else []
def ins (a : Int32 × Int32) : List (Int32 × Int32) → List (Int32 × Int32)
  | [] => [a]
  | b :: l => if a.1 < b.1 then a :: b :: l else b :: ins a l
def srt (l : List (Int32 × Int32)) : List (Int32 × Int32) := l.foldl (fun acc a => ins a acc) []
def k_i (n : Nat → Nat) (T : Nat → Nat → Nat) (x m : ze_H) : Prop := ∀ r p, r < 4 → p < n r → T r p = 105 → ∃ s, s ≤ 4 ∧ x 54 (41 * r + p) = nI s ∧ m 104 (40 * r + p) = nI s ∧ ∀ i, i < s → x 56 (4 * (41 * r + p) + i) = m 103 (4 * (40 * r + p) + i)
def q_row (x m : ze_H) (h r p : Nat) : Prop := x 54 (41 * r + p) = nI (hl m (40 * r + p) h).length ∧ ∀ i, i < (hl m (40 * r + p) h).length → (srt (hl m (40 * r + p) h))[i]? = some (x 56 (4 * (41 * r + p) + i), x 55 (4 * (41 * r + p) + i))
def k_q (T : Nat → Nat → Nat) (x m : ze_H) : Prop := ∃ h, h ≤ 240 ∧ x 0 14 = nI h ∧ m 75 29 = nI h ∧ (∀ i, i < h → ∃ r p, r < 4 ∧ v113 (T r) p ∧ m 100 i = nI (40 * r + p)) ∧ ∀ r p, r < 4 → v113 (T r) p → (hl m (40 * r + p) h).length < nv (T r) (p + 1) ∧ q_row x m h r p
def y_row (n : Nat → Nat) (T : Nat → Nat → Nat) (tb x m : ze_H) (j i : Nat) : Prop := ∃ r p, lsx n T tb r p ∧ x 44 j = nI (41 * r + p) ∧ m 105 i = nI (64 * r + p) ∧ x 45 j = m 106 i ∧ x 46 j = m 107 i
def r_rdy (n : Nat → Nat) (T : Nat → Nat → Nat) (tb : ze_H) (R : Nat) (x m : ze_H) : Prop := ∃ f s b, f < 401 ∧ b + s ≤ R ∧ x 43 0 = nI 401 ∧ x 43 4 = nI f ∧ x 43 5 = nI s ∧ m 75 35 = nI b ∧ m 75 36 = nI (b + s) ∧ ∀ i, i < s → y_row n T tb x m ((f + i) % 401) (b + i)
def r_att (tb : ze_H) (a : Nat) (x m : ze_H) : Prop := x 0 12 = nI a ∧ m 75 57 = nI a ∧ (∀ k i, (k = 1 ∨ k = 3 ∨ 75 ≤ k) → x k i = tb (1000 + 2 * k) i) ∧ ∀ k i, (k = 76 ∨ k = 77 ∨ k < 75) → m k i = tb (1001 + 2 * k) i
def RSx (ex : Nat) (n : Nat → Nat) (T : Nat → Nat → Nat) (tb : ze_H) (G R a : Nat) (x m : ze_H) : Prop := r_tab tb x ∧ r_mt n T m ∧ rs_cnt x m ∧ rs_cls x m ∧ rs_ep x m ∧ rs_got G x m ∧ r_que x m ∧ r_grp n T tb ex x m ∧ k_i n T x m ∧ k_q T x m ∧ r_rdy n T tb R x m ∧ r_att tb a x m
def RS (n : Nat → Nat) (T : Nat → Nat → Nat) (tb : ze_H) (G R a : Nat) (x m : ze_H) : Prop := RSx 1000 n T tb G R a x m
section KP
variable {x x1 m m1 : ze_H}
theorem kp_tab {tb : ze_H} (h : r_tab tb x) (hx : ∀ k i, (10 ≤ k ∧ k ≤ 15) → x1 k i = x k i) : r_tab tb x1 := fun k i a b => (hx k i ⟨a, b⟩).trans (h k i a b)
theorem kp_mt {n : Nat → Nat} {T : Nat → Nat → Nat} (h : r_mt n T m) (hm : ∀ k i, (k = 78 ∨ k = 79) → m1 k i = m k i) : r_mt n T m1 := fun r hr => ⟨(hm _ _ (by omega)).trans (h r hr).1, fun p hp => (hm _ _ (by omega)).trans ((h r hr).2 p hp)⟩
theorem kp_cnt (h : rs_cnt x m) (hx : ∀ k i, (k = 74 ∨ k = 0 ∧ (i = 13 ∨ i = 15)) → x1 k i = x k i) (hm : ∀ k i, (k = 119 ∨ k = 75 ∧ (i = 58 ∨ i = 59)) → m1 k i = m k i) : rs_cnt x1 m1 := by
  refine ⟨fun k hk => ?_, ?_, ?_⟩
  · rw [hx _ _ (by omega), hm _ _ (by omega)]
    exact h.1 k hk
  · rw [hx _ _ (by omega), hm _ _ (by omega)]
    exact h.2.1
  · rw [hx _ _ (by omega), hm _ _ (by omega)]
    exact h.2.2
theorem kp_cls (h : rs_cls x m) (hx : ∀ k i, (k = 17 ∧ i = 5 ∨ 18 ≤ k ∧ k ≤ 22) → x1 k i = x k i) (hm : ∀ k i, (k = 75 ∧ i = 7 ∨ 81 ≤ k ∧ k ≤ 85) → m1 k i = m k i) : rs_cls x1 m1 := by
  obtain ⟨q, h1, h2, h3, h4⟩ := h
  refine ⟨q, h1, by rw [hx _ _ (by omega)]; exact h2, by rw [hm _ _ (by omega)]; exact h3, fun j hj => ?_⟩
  rw [hx 18 j (by omega), hx 19 j (by omega), hx 20 j (by omega), hx 21 j (by omega), hx 22 j (by omega), hm 81 j (by omega), hm 82 j (by omega), hm 83 j (by omega), hm 84 j (by omega), hm 85 j (by omega)]
  exact h4 j hj
theorem kp_ep (h : rs_ep x m) (hx : ∀ k i, (24 ≤ k ∧ k ≤ 38 ∧ (i = 3 ∨ i = 4)) → x1 k i = x k i) (hm : ∀ k i, (k = 86 ∨ k = 87) → m1 k i = m k i) : rs_ep x1 m1 := fun d hd => by
  rw [hx _ _ (by omega), hx _ _ (by omega), hm _ _ (by omega), hm _ _ (by omega)]
  exact h d hd
theorem kp_got {N : Nat} (h : rs_got N x m) (hx : ∀ k i, (24 ≤ k ∧ k ≤ 38 ∧ (¬ (k - 24) % 3 = 0 ∨ i = 2)) → x1 k i = x k i) (hm : ∀ k i, (88 ≤ k ∧ k ≤ 90) → m1 k i = m k i) : rs_got N x1 m1 := fun d hd => by
  obtain ⟨g, h1, h2, h3, h4⟩ := h d hd
  refine ⟨g, h1, ?_, ?_, fun i hi => ?_⟩
  · rw [hx _ _ (by omega)]
    exact h2
  · rw [hm _ _ (by omega)]
    exact h3
  · rw [hx _ _ (by omega), hx _ _ (by omega), hm _ _ (by omega), hm _ _ (by omega)]
    exact h4 i hi
theorem got_mono {N N2 : Nat} (h : rs_got N x m) (hN : N ≤ N2) : rs_got N2 x m := fun d hd => by
  obtain ⟨g, h1, h2⟩ := h d hd
  exact ⟨g, by omega, h2⟩
theorem kp_que (h : r_que x m) (hx : ∀ k i, (k = 39 ∧ (i = 0 ∨ i = 4 ∨ i = 5) ∨ 40 ≤ k ∧ k ≤ 42) → x1 k i = x k i) (hm : ∀ k i, (k = 75 ∧ i = 18 ∨ 91 ≤ k ∧ k ≤ 93) → m1 k i = m k i) : r_que x1 m1 := by
  obtain ⟨f, s, h1, h2, h3, h4, h5, h6, h7⟩ := h
  refine ⟨f, s, h1, h2, by rw [hx _ _ (by omega)]; exact h3, by rw [hx _ _ (by omega)]; exact h4, by rw [hx _ _ (by omega)]; exact h5, by rw [hm _ _ (by omega)]; exact h6, fun i hi => ?_⟩
  rw [hx 40 _ (by omega), hx 41 _ (by omega), hx 42 _ (by omega), hm 91 _ (by omega), hm 92 _ (by omega), hm 93 _ (by omega)]
  exact h7 i hi
theorem cntI_kp {g g1 : Nat → Int32} {y : Int32} : ∀ h, (∀ i, i < h → g1 i = g i) → cntI g1 y h = cntI g y h
  | 0, _ => rfl
  | h + 1, e => by
    unfold cntI
    rw [e h (by omega), cntI_kp h (fun i hi => e i (by omega))]
theorem kp_grow {n : Nat → Nat} {T : Nat → Nat → Nat} {tb : ze_H} {i ex : Nat} (h : g_row n T tb ex x m i) (hx : ∀ k, 48 ≤ k ∧ k ≤ 52 → x1 k i = x k i) (hm : ∀ k, 94 ≤ k ∧ k ≤ 99 → m1 k i = m k i) : g_row n T tb ex x1 m1 i := by
  unfold g_row
  rw [hx 48 (by omega), hx 49 (by omega), hx 50 (by omega), hx 51 (by omega), hx 52 (by omega), hm 94 (by omega), hm 95 (by omega), hm 96 (by omega), hm 97 (by omega), hm 98 (by omega), hm 99 (by omega)]
  exact h
theorem kp_grp {n : Nat → Nat} {T : Nat → Nat → Nat} {tb : ze_H} {ex : Nat} (h : r_grp n T tb ex x m) (hx : ∀ k i, (k = 47 ∧ i = 5 ∨ 48 ≤ k ∧ k ≤ 52) → x1 k i = x k i) (hm : ∀ k i, (k = 75 ∧ i = 22 ∨ 94 ≤ k ∧ k ≤ 99) → m1 k i = m k i) : r_grp n T tb ex x1 m1 := by
  obtain ⟨g, h1, h2, h3, h4, h5, h6⟩ := h
  refine ⟨g, h1, by rw [hx _ _ (by omega)]; exact h2, by rw [hm _ _ (by omega)]; exact h3, fun i hi => kp_grow (h4 i hi) (fun k hk => hx k i (by omega)) (fun k hk => hm k i (by omega)), fun y => ?_, fun i j hi hj => ?_⟩
  · rw [cntI_kp g (fun i _ => hx 48 i (by omega))]
    exact h5 y
  · rw [hx 48 i (by omega), hx 48 j (by omega), hx 49 i (by omega), hx 49 j (by omega)]
    exact h6 i j hi hj
theorem kp_i {n : Nat → Nat} {T : Nat → Nat → Nat} (h : k_i n T x m) (hx : ∀ k i, (k = 54 ∨ k = 56) → x1 k i = x k i) (hm : ∀ k i, (k = 103 ∨ k = 104) → m1 k i = m k i) : k_i n T x1 m1 := fun r p hr hp hT => by
  obtain ⟨s, h1, h2, h3, h4⟩ := h r p hr hp hT
  refine ⟨s, h1, by rw [hx _ _ (by omega)]; exact h2, by rw [hm _ _ (by omega)]; exact h3, fun i hi => ?_⟩
  rw [hx _ _ (by omega), hm _ _ (by omega)]
  exact h4 i hi
theorem hl_kp {c : Nat} : ∀ h, (∀ k i, (100 ≤ k ∧ k ≤ 102 ∧ i < h) → m1 k i = m k i) → hl m1 c h = hl m c h
  | 0, _ => rfl
  | h + 1, e => by
    unfold hl
    rw [e 100 h (by omega), e 101 h (by omega), e 102 h (by omega), hl_kp h (fun k i hk => e k i (by omega))]
theorem kp_q {T : Nat → Nat → Nat} (h : k_q T x m) (hx : ∀ k i, (k = 54 ∨ k = 55 ∨ k = 56 ∨ k = 0 ∧ i = 14) → x1 k i = x k i) (hm : ∀ k i, (k = 75 ∧ i = 29 ∨ 100 ≤ k ∧ k ≤ 102) → m1 k i = m k i) : k_q T x1 m1 := by
  obtain ⟨h0, h1, h2, h3, h4, h5⟩ := h
  refine ⟨h0, h1, by rw [hx _ _ (by omega)]; exact h2, by rw [hm _ _ (by omega)]; exact h3, fun i hi => ?_, fun r p hr hp => ?_⟩
  · rw [hm _ _ (by omega)]
    exact h4 i hi
  · unfold q_row
    rw [hl_kp (m := m) h0 (fun k i hk => hm k i (by omega)), hx _ _ (by omega)]
    refine ⟨(h5 r p hr hp).1, (h5 r p hr hp).2.1, fun i hi => ?_⟩
    rw [hx _ _ (by omega), hx _ _ (by omega)]
    exact (h5 r p hr hp).2.2 i hi
theorem kp_rdy {n : Nat → Nat} {T : Nat → Nat → Nat} {tb : ze_H} {a a1 : Nat} (h : r_rdy n T tb a x m) (ha : a ≤ a1) (hx : ∀ k i, (k = 43 ∧ (i = 0 ∨ i = 4 ∨ i = 5) ∨ 44 ≤ k ∧ k ≤ 46) → x1 k i = x k i) (hm : ∀ k i, (k = 75 ∧ (i = 35 ∨ i = 36) ∨ 105 ≤ k ∧ k ≤ 107) → m1 k i = m k i) : r_rdy n T tb a1 x1 m1 := by
  obtain ⟨f, s, b, h1, h2, h3, h4, h5, h6, h7, h8⟩ := h
  refine ⟨f, s, b, h1, by omega, by rw [hx _ _ (by omega)]; exact h3, by rw [hx _ _ (by omega)]; exact h4, by rw [hx _ _ (by omega)]; exact h5, by rw [hm _ _ (by omega)]; exact h6, by rw [hm _ _ (by omega)]; exact h7, fun i hi => ?_⟩
  unfold y_row
  rw [hx 44 _ (by omega), hx 45 _ (by omega), hx 46 _ (by omega), hm 105 _ (by omega), hm 106 _ (by omega), hm 107 _ (by omega)]
  exact h8 i hi
theorem kp_att {tb : ze_H} {a : Nat} (h : r_att tb a x m) (hx : ∀ k i, (k = 0 ∧ i = 12 ∨ k = 1 ∨ k = 3 ∨ 75 ≤ k) → x1 k i = x k i) (hm : ∀ k i, (k = 75 ∧ i = 57 ∨ k = 76 ∨ k = 77 ∨ k < 75) → m1 k i = m k i) : r_att tb a x1 m1 := ⟨(hx _ _ (by omega)).trans h.1, (hm _ _ (by omega)).trans h.2.1, fun k i hk => (hx k i (by omega)).trans (h.2.2.1 k i hk), fun k i hk => (hm k i (by omega)).trans (h.2.2.2 k i hk)⟩
theorem RS_mono {n : Nat → Nat} {T : Nat → Nat → Nat} {tb : ze_H} {G R a G1 R1 : Nat} (h : RS n T tb G R a x m) (hG : G ≤ G1) (hR : R ≤ R1) : RS n T tb G1 R1 a x m := by
  obtain ⟨h1, h2, h3, h4, h5, h6, h7, h8, h9, h10, h11, h12⟩ := h
  exact ⟨h1, h2, h3, h4, h5, got_mono h6 hG, h7, h8, h9, h10, kp_rdy h11 hR (fun _ _ _ => rfl) (fun _ _ _ => rfl), h12⟩
/-- what no part of the relation speaks of may change -/
theorem RS_kp {n : Nat → Nat} {T : Nat → Nat → Nat} {tb : ze_H} {G R a : Nat} (h : RS n T tb G R a x m) (hx : ∀ k i, ¬ (58 ≤ k ∧ k ≤ 73) → x1 k i = x k i) (hm : ∀ k i, ¬ (k = 75 ∧ (i = 40 ∨ i = 44 ∨ i = 53 ∨ i = 54 ∨ i = 55 ∨ i = 56)) → ¬ (108 ≤ k ∧ k ≤ 118) → m1 k i = m k i) : RS n T tb G R a x1 m1 := by
  obtain ⟨h1, h2, h3, h4, h5, h6, h7, h8, h9, h10, h11, h12⟩ := h
  exact ⟨kp_tab h1 (fun k i hk => hx k i (by omega)), kp_mt h2 (fun k i hk => hm k i (by omega) (by omega)), kp_cnt h3 (fun k i hk => hx k i (by omega)) (fun k i hk => hm k i (by omega) (by omega)), kp_cls h4 (fun k i hk => hx k i (by omega)) (fun k i hk => hm k i (by omega) (by omega)), kp_ep h5 (fun k i hk => hx k i (by omega)) (fun k i hk => hm k i (by omega) (by omega)), kp_got h6 (fun k i hk => hx k i (by omega)) (fun k i hk => hm k i (by omega) (by omega)), kp_que h7 (fun k i hk => hx k i (by omega)) (fun k i hk => hm k i (by omega) (by omega)), kp_grp h8 (fun k i hk => hx k i (by omega)) (fun k i hk => hm k i (by omega) (by omega)), kp_i h9 (fun k i hk => hx k i (by omega)) (fun k i hk => hm k i (by omega) (by omega)), kp_q h10 (fun k i hk => hx k i (by omega)) (fun k i hk => hm k i (by omega) (by omega)), kp_rdy h11 (Nat.le_refl _) (fun k i hk => hx k i (by omega)) (fun k i hk => hm k i (by omega) (by omega)), kp_att h12 (fun k i hk => hx k i (by omega)) (fun k i hk => hm k i (by omega) (by omega))⟩
end KP
/-- an exchange: the class's e-th, the reference's at level l -/
def EX (e l : Nat) (x m : ze_H) : Prop := x (58 + e) 0 = m 108 l ∧ x (58 + e) 1 = m 109 l ∧ x (58 + e) 2 = m 110 l ∧ x (58 + e) 3 = 0 ∧ m 75 40 = nI l
/-- a counted outcome -/
def cup (oc : Nat) (m : ze_H) : ze_H := if oc = 0 then m else ze_u m 119 oc (m 119 oc + 1)
theorem cup_0 (m : ze_H) : cup 0 m = m := rfl
theorem cup_s {oc : Nat} (h : 0 < oc) (m : ze_H) : cup oc m = ze_u m 119 oc (m 119 oc + 1) := if_neg (by omega)
theorem cup_n {oc : Nat} {m : ze_H} {k i : Nat} (h : ¬ k = 119) : cup oc m k i = m k i := by
  unfold cup
  split
  · rfl
  · exact zu_n _ _ _ _ (by omega)
/-- an exchange ends -/
theorem RS_end {ex : Nat} {n : Nat → Nat} {T : Nat → Nat → Nat} {tb : ze_H} {G R a e oc : Nat} {x m : ze_H} (h : RSx ex n T tb G R a x m) (he : e < 16) (ho : 0 < oc) (ho8 : oc < 8) : RSx ex n T tb G R a (ze_u (ze_u x (58 + e) 3 (nI oc)) 74 oc (x 74 oc + 1)) (cup oc m) := by
  obtain ⟨h1, h2, h3, h4, h5, h6, h7, h8, h9, h10, h11, h12⟩ := h
  have hx : ∀ k i, ¬ (58 ≤ k ∧ k ≤ 74) → ze_u (ze_u x (58 + e) 3 (nI oc)) 74 oc (x 74 oc + 1) k i = x k i := fun k i hk => by rw [zu_n _ _ _ _ (by omega), zu_n _ _ _ _ (by omega)]
  have hm : ∀ k i, ¬ k = 119 → cup oc m k i = m k i := fun k i hk => cup_n hk
  refine ⟨kp_tab h1 (fun k i hk => hx k i (by omega)), kp_mt h2 (fun k i hk => hm k i (by omega)), ?_, kp_cls h4 (fun k i hk => hx k i (by omega)) (fun k i hk => hm k i (by omega)), kp_ep h5 (fun k i hk => hx k i (by omega)) (fun k i hk => hm k i (by omega)), kp_got h6 (fun k i hk => hx k i (by omega)) (fun k i hk => hm k i (by omega)), kp_que h7 (fun k i hk => hx k i (by omega)) (fun k i hk => hm k i (by omega)), kp_grp h8 (fun k i hk => hx k i (by omega)) (fun k i hk => hm k i (by omega)), kp_i h9 (fun k i hk => hx k i (by omega)) (fun k i hk => hm k i (by omega)), kp_q h10 (fun k i hk => hx k i (by omega)) (fun k i hk => hm k i (by omega)), kp_rdy h11 (Nat.le_refl _) (fun k i hk => hx k i (by omega)) (fun k i hk => hm k i (by omega)), kp_att h12 (fun k i hk => hx k i (by omega)) (fun k i hk => hm k i (by omega))⟩
  refine ⟨fun k hk => ?_, ?_, ?_⟩
  · rw [cup_s ho]
    by_cases c : k = oc
    · subst c
      rw [zu_s, zu_s, h3.1 k hk]
    · rw [zu_n _ _ _ _ (by omega), zu_n _ _ _ _ (by omega), zu_n _ _ _ _ (by omega)]
      exact h3.1 k hk
  · rw [hx 0 13 (by omega), hm 75 58 (by omega)]
    exact h3.2.1
  · rw [hx 0 15 (by omega), hm 75 59 (by omega)]
    exact h3.2.2
theorem px_end {e oc : Nat} (ho : oc < 8) (x : ze_H) (he : e < 16) : f_E_end (58 + e) (nI oc) x = some (0, ze_u (ze_u x (58 + e) 3 (nI oc)) 74 oc (x 74 oc + 1)) := by
  unfold f_E_end
  rw [zlev, zi_nI (by omega) (by omega), zi_nI (by omega) (by omega), nI_clamp (by omega), zlev, zu_n _ _ _ _ (by omega)]
