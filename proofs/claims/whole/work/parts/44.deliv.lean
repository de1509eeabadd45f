/-! PURE: deliveries -/
theorem tI_nat (y : Int32) : y.toInt = (y.toBitVec.toNat : Int) ∨ y.toInt = (y.toBitVec.toNat : Int) - 4294967296 := by
  have h : y.toInt = y.toBitVec.toInt := rfl
  rw [h, BitVec.toInt_eq_toNat_cond]
  split
  · exact Or.inl rfl
  · refine Or.inr ?_
    omega
theorem bit_K (K : Int32) {d : Nat} (hd : d < 4) : (((K &&& 15) >>> (nI d &&& 31)) &&& 1 = 0) ↔ ¬ ((K >>> (nI d &&& 31)) &&& 1 = 1) := by
  have e31 : ∀ d : Fin 4, nI d.1 &&& 31 = nI d.1 := by decide +kernel
  have es : ∀ d : Fin 4, ((nI d.1).toBitVec.smod 32).toNat = d.1 := by decide +kernel
  rw [e31 ⟨d, hd⟩]
  have h1 := pk_and K (m := 15) 4 (by decide)
  have h2 := pk_shrN (n := K.toBitVec.toNat % 2 ^ 4) (by omega) (nI d) d (es ⟨d, hd⟩)
  have h3 := pk_and (K >>> nI d) (m := 1) 1 (by decide)
  have h4 := pk_shr K (nI d) d (es ⟨d, hd⟩)
  have h5 := tI_nat (K >>> nI d)
  have h6 := tI_nat K
  have h7 := pk_andN (n := K.toBitVec.toNat % 2 ^ 4 / 2 ^ d) (Nat.lt_of_le_of_lt (Nat.div_le_self _ _) (by omega)) (m := 1) 1 (by decide)
  rw [h1, h2, h7, h3, show (1 : Int32) = nI 1 from rfl, show (0 : Int32) = nI 0 from rfl, nI_eq (by omega) (by omega), nI_eq (by omega) (by omega)]
  rw [Int.shiftRight_eq_div_pow] at h4
  generalize K >>> nI d = Y at h4 h5 ⊢
  generalize Y.toBitVec.toNat = y at h5 ⊢
  generalize K.toBitVec.toNat = k at h6 ⊢
  generalize Y.toInt = yi at h4 h5
  generalize K.toInt = ki at h4 h6
  have hc : d = 0 ∨ d = 1 ∨ d = 2 ∨ d = 3 := by omega
  rcases hc with rfl | rfl | rfl | rfl <;> simp only [Nat.pow_zero, Nat.pow_one, Nat.div_one] at h4 ⊢ <;> omega
theorem bit_1 {v d : Nat} (hv : v < 4) (hd : d < 4) : (((1 : Int32) <<< (nI v &&& 31)) >>> (nI d &&& 31)) &&& 1 = if d = v then 1 else 0 := by
  have : ∀ v d : Fin 4, (((1 : Int32) <<< (nI v.1 &&& 31)) >>> (nI d.1 &&& 31)) &&& 1 = if d.1 = v.1 then 1 else 0 := by decide +kernel
  exact this ⟨v, hv⟩ ⟨d, hd⟩
section DL
variable {n : Nat → Nat} {T : Nat → Nat → Nat} {tb x m : ze_H} {G R a : Nat}
/-- a delivery -/
theorem sim_acc {d g : Nat} {b y : Int32} (hd : d < 5) (hg : g < 2 ^ 30) (e2 : x (24 + 3 * d) 2 = nI g) (e88 : m 88 d = nI g) : f_N_accept (24 + 3 * d) b y x = some (0, ze_u (ze_u (ze_u x (24 + 3 * d + 1) (g % 8) b) (24 + 3 * d + 2) (g % 8) y) (24 + 3 * d) 2 (nI (g + 1))) ∧ f_M_deliver (nI d) b y m = some (0, ze_u (ze_u (ze_u m 89 (8 * d + g % 8) b) 90 (8 * d + g % 8) y) 88 d (nI (g + 1))) := by
  have hlt := Nat.mod_lt g (show 0 < 8 by omega)
  constructor
  · unfold f_N_accept
    rw [e2, pj_floorMod (by omega), zcall, zlet, zi_nI hlt (by omega), nI_clamp (by omega), zlev, zi_nI hlt (by omega), zlev, zlev, zu_n _ _ _ _ (by omega), zu_n _ _ _ _ (by omega), e2, nI_1]
  · unfold f_M_deliver
    have e8 : nI g - nI g / 8 * 8 = nI (g % 8) := pk_rem (d := 8) (by omega) (by omega) (by omega)
    have ei : 8 * nI d + nI (g % 8) = nI (8 * d + g % 8) := by rw [l_8, pk_mul, nI_add]
    rw [zi_nI hd (by omega), if_neg (show ¬ (8 : Int32) = 0 by decide), nI_clamp (by omega), e88, e8, ei, zi_nI (by omega) (by omega), nI_clamp (by omega), zlev, zi_nI hd (by omega), if_neg (show ¬ (8 : Int32) = 0 by decide), zu_n _ _ _ _ (by omega), e88, e8, ei, zi_nI (by omega) (by omega), nI_clamp (by omega), zlev, zi_nI hd (by omega), zi_nI hd (by omega), zlev, zu_n _ _ _ _ (by omega), zu_n _ _ _ _ (by omega), e88, nI_1]
theorem RS_acc {d g : Nat} {b y : Int32} (h : RS n T tb G R a x m) (hd : d < 5) (hg : g ≤ G) (e2 : x (24 + 3 * d) 2 = nI g) (e88 : m 88 d = nI g) : RS n T tb (G + 1) R a (ze_u (ze_u (ze_u x (24 + 3 * d + 1) (g % 8) b) (24 + 3 * d + 2) (g % 8) y) (24 + 3 * d) 2 (nI (g + 1))) (ze_u (ze_u (ze_u m 89 (8 * d + g % 8) b) 90 (8 * d + g % 8) y) 88 d (nI (g + 1))) := by
  obtain ⟨h1, h2, h3, h4, h5, h6, h7, h8, h9, h10, h11, h12⟩ := h
  have hx : ∀ k i, ¬ (24 ≤ k ∧ k ≤ 38 ∧ (¬ (k - 24) % 3 = 0 ∨ i = 2)) → ze_u (ze_u (ze_u x (24 + 3 * d + 1) (g % 8) b) (24 + 3 * d + 2) (g % 8) y) (24 + 3 * d) 2 (nI (g + 1)) k i = x k i := fun k i hk => by rw [zu_n _ _ _ _ (by omega), zu_n _ _ _ _ (by omega), zu_n _ _ _ _ (by omega)]
  have hm : ∀ k i, ¬ (88 ≤ k ∧ k ≤ 90) → ze_u (ze_u (ze_u m 89 (8 * d + g % 8) b) 90 (8 * d + g % 8) y) 88 d (nI (g + 1)) k i = m k i := fun k i hk => by rw [zu_n _ _ _ _ (by omega), zu_n _ _ _ _ (by omega), zu_n _ _ _ _ (by omega)]
  refine ⟨kp_tab h1 (fun k i hk => hx k i (by omega)), kp_mt h2 (fun k i hk => hm k i (by omega)), kp_cnt h3 (fun k i hk => hx k i (by omega)) (fun k i hk => hm k i (by omega)), kp_cls h4 (fun k i hk => hx k i (by omega)) (fun k i hk => hm k i (by omega)), ?_, ?_, kp_que h7 (fun k i hk => hx k i (by omega)) (fun k i hk => hm k i (by omega)), kp_grp h8 (fun k i hk => hx k i (by omega)) (fun k i hk => hm k i (by omega)), kp_i h9 (fun k i hk => hx k i (by omega)) (fun k i hk => hm k i (by omega)), kp_q h10 (fun k i hk => hx k i (by omega)) (fun k i hk => hm k i (by omega)), kp_rdy h11 (Nat.le_refl _) (fun k i hk => hx k i (by omega)) (fun k i hk => hm k i (by omega)), kp_att h12 (fun k i hk => hx k i (by omega)) (fun k i hk => hm k i (by omega))⟩
  · intro d' hd'
    obtain ⟨f, t, k1, k2, k3, k4, k5, k6, k7⟩ := h5 d' hd'
    exact ⟨f, t, k1, k2, k3, by rw [hx _ _ (by omega)]; exact k4, by rw [hm _ _ (by omega)]; exact k5, by rw [hx _ _ (by omega)]; exact k6, by rw [hm _ _ (by omega)]; exact k7⟩
  · intro d' hd'
    by_cases c : d' = d
    · subst c
      obtain ⟨g', k1, k2, k3, k4⟩ := h6 d' hd'
      refine ⟨g + 1, by omega, zu_s _ _ _ _, zu_s _ _ _ _, fun i hi => ?_⟩
      by_cases ci : i = g % 8
      · subst ci
        constructor
        · rw [zu_n _ _ _ _ (by omega), zu_n _ _ _ _ (by omega), zu_s, zu_n _ _ _ _ (by omega), zu_n _ _ _ _ (by omega), zu_s]
        · rw [zu_n _ _ _ _ (by omega), zu_s, zu_n _ _ _ _ (by omega), zu_s]
      · constructor
        · rw [zu_n _ _ _ _ (by omega), zu_n _ _ _ _ (by omega), zu_n _ _ _ _ (by omega), zu_n _ _ _ _ (by omega), zu_n _ _ _ _ (by omega), zu_n _ _ _ _ (by omega)]
          exact (k4 i hi).1
        · rw [zu_n _ _ _ _ (by omega), zu_n _ _ _ _ (by omega), zu_n _ _ _ _ (by omega), zu_n _ _ _ _ (by omega), zu_n _ _ _ _ (by omega), zu_n _ _ _ _ (by omega)]
          exact (k4 i hi).2
    · obtain ⟨g', k1, k2, k3, k4⟩ := h6 d' hd'
      refine ⟨g', by omega, ?_, ?_, fun i hi => ⟨?_, ?_⟩⟩
      · rw [zu_n _ _ _ _ (by omega), zu_n _ _ _ _ (by omega), zu_n _ _ _ _ (by omega)]
        exact k2
      · rw [zu_n _ _ _ _ (by omega), zu_n _ _ _ _ (by omega), zu_n _ _ _ _ (by omega)]
        exact k3
      · rw [zu_n _ _ _ _ (by omega), zu_n _ _ _ _ (by omega), zu_n _ _ _ _ (by omega), zu_n _ _ _ _ (by omega), zu_n _ _ _ _ (by omega), zu_n _ _ _ _ (by omega)]
        exact (k4 i hi).1
      · rw [zu_n _ _ _ _ (by omega), zu_n _ _ _ _ (by omega), zu_n _ _ _ _ (by omega), zu_n _ _ _ _ (by omega), zu_n _ _ _ _ (by omega), zu_n _ _ _ _ (by omega)]
        exact (k4 i hi).2
/-- what a delivery may change -/
def DF (x x1 m m1 : ze_H) : Prop := (∀ k i, ¬ (24 ≤ k ∧ k ≤ 38) → x1 k i = x k i) ∧ ∀ k i, ¬ (k = 86 ∨ 88 ≤ k ∧ k ≤ 90) → m1 k i = m k i
theorem DF_t {x x1 x2 m m1 m2 : ze_H} (h : DF x x1 m m1) (h2 : DF x1 x2 m1 m2) : DF x x2 m m2 := ⟨fun k i hk => (h2.1 k i hk).trans (h.1 k i hk), fun k i hk => (h2.2 k i hk).trans (h.2 k i hk)⟩
theorem DF_EX {e l : Nat} {x1 m1 : ze_H} (h : DF x x1 m m1) (he : e < 16) (hE : EX e l x m) : EX e l x1 m1 := by
  obtain ⟨a0, a1, a2, a3, a4⟩ := hE
  exact ⟨by rw [h.1 _ _ (by omega), h.2 _ _ (by omega)]; exact a0, by rw [h.1 _ _ (by omega), h.2 _ _ (by omega)]; exact a1, by rw [h.1 _ _ (by omega), h.2 _ _ (by omega)]; exact a2, by rw [h.1 _ _ (by omega)]; exact a3, by rw [h.2 _ _ (by omega)]; exact a4⟩
theorem sim_to {d e l : Nat} (h : RS n T tb G R a x m) (hG : G < 2 ^ 29) (hd : d < 4) (he : e < 16) (hl : l < 16) (hE : EX e l x m) :
    (x (24 + 3 * d) 3 ≤ 0 ∧ ∃ x1 m1, f_N_accept (24 + 3 * d) (x (58 + e) 0) (x (58 + e) 1) x = some (0, x1) ∧ f_M_to (nI d) m = some (0, m1) ∧ RS n T tb (G + 1) R a x1 m1 ∧ DF x x1 m m1) ∨
    (¬ x (24 + 3 * d) 3 ≤ 0 ∧ ∃ t m1, 0 < t ∧ t ≤ 7 ∧ ze_u x (24 + 3 * d) 3 (x (24 + 3 * d) 3 - 1) (24 + 3 * d) 4 = nI t ∧ f_M_to (nI d) m = some (nI t, m1) ∧ RS n T tb G R a (ze_u x (24 + 3 * d) 3 (x (24 + 3 * d) 3 - 1)) m1 ∧ DF x (ze_u x (24 + 3 * d) 3 (x (24 + 3 * d) 3 - 1)) m m1) := by
  obtain ⟨f, t, f1, f2, f3, f4, f5, f6, f7⟩ := h.2.2.2.2.1 d hd
  obtain ⟨g, g1, g2, g3, -⟩ := h.2.2.2.2.2.1 d (by omega)
  obtain ⟨a0, a1, a2, a3, a4⟩ := hE
  unfold f_M_to
  rw [zi_nI hd (by omega), nI_clamp (by omega), f5, f4]
  by_cases c : f = 0
  · subst c
    refine Or.inl ⟨by decide, ?_⟩
    obtain ⟨k1, k2⟩ := sim_acc (x := x) (m := m) (d := d) (g := g) (b := x (58 + e) 0) (y := x (58 + e) 1) (by omega) (by omega) g2 g3
    rw [if_pos (show nI 0 ≤ 0 by decide), a4, zi_nI hl (by omega), zi_nI hl (by omega), nI_clamp (by omega), ← a0, ← a1, k2, zcall]
    exact ⟨_, _, k1, rfl, RS_acc h (by omega) g1 g2 g3, fun k i hk => by rw [zu_n _ _ _ _ (by omega), zu_n _ _ _ _ (by omega), zu_n _ _ _ _ (by omega)], fun k i hk => by rw [zu_n _ _ _ _ (by omega), zu_n _ _ _ _ (by omega), zu_n _ _ _ _ (by omega)]⟩
  · have hn : ¬ nI f ≤ 0 := nI_nle (by omega) (by omega)
    have e1 : nI f - 1 = nI (f - 1) := pk_sub (b := 1) (by omega)
    refine Or.inr ⟨hn, t, ze_u m 86 d (nI (f - 1)), f3 (by omega), f2, ?_, ?_, ?_, ?_⟩
    · rw [zu_n _ _ _ _ (by omega)]
      exact f6
    · rw [if_neg hn, zi_nI hd (by omega), zi_nI hd (by omega), zlev, zi_nI hd (by omega), e1, zu_n _ _ _ _ (by omega), f7]
    · rw [e1]
      obtain ⟨h1, h2, h3, h4, h5, h6, h7, h8, h9, h10, h11, h12⟩ := h
      have hx : ∀ k i, ¬ (k = 24 + 3 * d ∧ i = 3) → ze_u x (24 + 3 * d) 3 (nI (f - 1)) k i = x k i := fun k i hk => zu_n _ _ _ _ hk
      have hm : ∀ k i, ¬ (k = 86 ∧ i = d) → ze_u m 86 d (nI (f - 1)) k i = m k i := fun k i hk => zu_n _ _ _ _ hk
      refine ⟨kp_tab h1 (fun k i hk => hx k i (by omega)), kp_mt h2 (fun k i hk => hm k i (by omega)), kp_cnt h3 (fun k i hk => hx k i (by omega)) (fun k i hk => hm k i (by omega)), kp_cls h4 (fun k i hk => hx k i (by omega)) (fun k i hk => hm k i (by omega)), fun d' hd' => ?_, kp_got h6 (fun k i hk => hx k i (by omega)) (fun k i hk => hm k i (by omega)), kp_que h7 (fun k i hk => hx k i (by omega)) (fun k i hk => hm k i (by omega)), kp_grp h8 (fun k i hk => hx k i (by omega)) (fun k i hk => hm k i (by omega)), kp_i h9 (fun k i hk => hx k i (by omega)) (fun k i hk => hm k i (by omega)), kp_q h10 (fun k i hk => hx k i (by omega)) (fun k i hk => hm k i (by omega)), kp_rdy h11 (Nat.le_refl _) (fun k i hk => hx k i (by omega)) (fun k i hk => hm k i (by omega)), kp_att h12 (fun k i hk => hx k i (by omega)) (fun k i hk => hm k i (by omega))⟩
      by_cases cd : d' = d
      · subst cd
        exact ⟨f - 1, t, by omega, f2, fun _ => f3 (by omega), zu_s _ _ _ _, zu_s _ _ _ _, by rw [hx _ _ (by omega)]; exact f6, by rw [hm _ _ (by omega)]; exact f7⟩
      · rw [hx _ _ (by omega), hx _ _ (by omega), hm _ _ (by omega), hm _ _ (by omega)]
        exact h5 d' hd'
    · exact ⟨fun k i hk => zu_n _ _ _ _ (by omega), fun k i hk => zu_n _ _ _ _ (by omega)⟩
/-- the class's loop, one endpoint -/
theorem dx_skip {k1 j N : Nat} {b2 : Int32} (kk : ze_H → Option (Int32 × ze_H)) (hj : j < 4) (hb : (b2 >>> (nI j &&& 31)) &&& 1 = 0) : f_E_deliver_L2 k1 b2 kk (N + 1) (nI j) x = f_E_deliver_L2 k1 b2 kk N (nI (j + 1)) x := by
  rw [f_E_deliver_L2]
  rw [if_neg (show ¬ (4 : Int32) ≤ nI j from nI_ge (b := 4) hj (by omega)), if_pos hb, zlet, nI_1]
theorem dx_ok {k1 j N : Nat} {b2 : Int32} {x1 : ze_H} (kk : ze_H → Option (Int32 × ze_H)) (hj : j < 4) (hb : ¬ (b2 >>> (nI j &&& 31)) &&& 1 = 0) (h3 : x (24 + 3 * j) 3 ≤ 0) (ha : f_N_accept (24 + 3 * j) (x k1 0) (x k1 1) x = some (0, x1)) : f_E_deliver_L2 k1 b2 kk (N + 1) (nI j) x = f_E_deliver_L2 k1 b2 kk N (nI (j + 1)) x1 := by
  rw [f_E_deliver_L2]
  rw [if_neg (show ¬ (4 : Int32) ≤ nI j from nI_ge (b := 4) hj (by omega)), if_neg hb, nI_clamp (by omega), zi_nI (by omega) (by omega), if_pos h3, zi_nI (by omega) (by omega), ha, zcall, zlet, nI_1]
theorem dx_thr {k1 j N t : Nat} {b2 : Int32} (kk : ze_H → Option (Int32 × ze_H)) (hj : j < 4) (hb : ¬ (b2 >>> (nI j &&& 31)) &&& 1 = 0) (h3 : ¬ x (24 + 3 * j) 3 ≤ 0) (ht : ze_u x (24 + 3 * j) 3 (x (24 + 3 * j) 3 - 1) (24 + 3 * j) 4 = nI t) : f_E_deliver_L2 k1 b2 kk (N + 1) (nI j) x = some (nI t, ze_u x (24 + 3 * j) 3 (x (24 + 3 * j) 3 - 1)) := by
  rw [f_E_deliver_L2]
  rw [if_neg (show ¬ (4 : Int32) ≤ nI j from nI_ge (b := 4) hj (by omega)), if_neg hb, nI_clamp (by omega), zi_nI (by omega) (by omega), if_neg h3, zi_nI (by omega) (by omega), zlev, zi_nI (by omega) (by omega), ht]
theorem dx_end {k1 j N : Nat} {b2 : Int32} (kk : ze_H → Option (Int32 × ze_H)) (hj : 4 ≤ j) (hj2 : j < 100) : f_E_deliver_L2 k1 b2 kk (N + 1) (nI j) x = kk x := by
  rw [f_E_deliver_L2]
  rw [if_pos (show (4 : Int32) ≤ nI j from nI_le (a := 4) hj (by omega))]
/-- both loops over the endpoints -/
theorem sim_dl {e l : Nat} {b2 : Int32} (he : e < 16) (hl : l < 16) : ∀ (d j G : Nat) (x m : ze_H), j + d = 4 → G + d < 2 ^ 29 → RS n T tb G R a x m → EX e l x m → (∀ i, i < 4 → ((b2 >>> (nI i &&& 31)) &&& 1 = 0 ↔ ¬ ((m 109 l >>> (nI i &&& 31)) &&& 1 = 1))) →
    ∃ t x1 m1, t ≤ 7 ∧ RS n T tb (G + d) R a x1 m1 ∧ DF x x1 m m1 ∧ (∀ N, d < N → f_E_deliver_L2 (58 + e) b2 (fun v11 => some (0, v11)) N (nI j) x = some (nI t, x1)) ∧ ∀ kk N, d < N → f_M_several_L2 kk N (nI j) m = if t = 0 then kk m1 else some (nI t, m1)
  | 0, j, G, x, m, hj, hG, h, hE, hb => by
    have : j = 4 := by omega
    subst this
    refine ⟨0, x, m, by omega, h, ⟨fun _ _ _ => rfl, fun _ _ _ => rfl⟩, fun N hN => ?_, fun kk N hN => ?_⟩
    · obtain ⟨N, rfl⟩ : ∃ N', N = N' + 1 := ⟨N - 1, by omega⟩
      rw [dx_end _ (by omega) (by omega)]
      rfl
    · obtain ⟨N, rfl⟩ : ∃ N', N = N' + 1 := ⟨N - 1, by omega⟩
      rw [f_M_several_L2]
      rw [if_pos (show (4 : Int32) ≤ nI 4 by decide), if_pos rfl]
  | d + 1, j, G, x, m, hj, hG, h, hE, hb => by
    have hj4 : j < 4 := by omega
    have h4 := hE.2.2.2.2
    have mstep : ∀ (kk : ze_H → Option (Int32 × ze_H)) N, f_M_several_L2 kk (N + 1) (nI j) m = if ((m 109 l) >>> (nI j &&& 31)) &&& 1 = 1 then ze_call (f_M_to (nI j) m) (fun r2 v3 => if r2 ≤ 0 then f_M_several_L2 kk N (nI (j + 1)) v3 else some (r2, v3)) else f_M_several_L2 kk N (nI (j + 1)) m := fun kk N => by
      rw [f_M_several_L2]
      rw [if_neg (show ¬ (4 : Int32) ≤ nI j from nI_ge (b := 4) hj4 (by omega)), h4, zi_nI hl (by omega), nI_clamp (by omega), zlet, if_pos (show (0 : Int32) ≤ 0 by decide), zlet, nI_1]
      rfl
    by_cases c : (b2 >>> (nI j &&& 31)) &&& 1 = 0
    · obtain ⟨t, x1, m1, k1, k2, k3, k4, k5⟩ := sim_dl he hl d (j + 1) G x m (by omega) (by omega) h hE hb
      refine ⟨t, x1, m1, k1, RS_mono k2 (by omega) (Nat.le_refl _), k3, fun N hN => ?_, fun kk N hN => ?_⟩
      · obtain ⟨N, rfl⟩ : ∃ N', N = N' + 1 := ⟨N - 1, by omega⟩
        rw [dx_skip _ hj4 c]
        exact k4 N (by omega)
      · obtain ⟨N, rfl⟩ : ∃ N', N = N' + 1 := ⟨N - 1, by omega⟩
        rw [mstep, if_neg ((hb j hj4).1 c)]
        exact k5 kk N (by omega)
    · have c1 : ((m 109 l) >>> (nI j &&& 31)) &&& 1 = 1 := Decidable.not_not.mp (fun q => c ((hb j hj4).2 q))
      rcases sim_to h (by omega) hj4 he hl hE with ⟨g1, x1, m1, g2, g3, g4, g5⟩ | ⟨g1, t, m1, g2, g3, g4, g5, g6, g7⟩
      · obtain ⟨t, x2, m2, k1, k2, k3, k4, k5⟩ := sim_dl he hl d (j + 1) (G + 1) x1 m1 (by omega) (by omega) g4 (DF_EX g5 he hE) (fun i hi => by rw [g5.2 109 l (by omega)]; exact hb i hi)
        refine ⟨t, x2, m2, k1, RS_mono k2 (by omega) (Nat.le_refl _), DF_t g5 k3, fun N hN => ?_, fun kk N hN => ?_⟩
        · obtain ⟨N, rfl⟩ : ∃ N', N = N' + 1 := ⟨N - 1, by omega⟩
          rw [dx_ok _ hj4 c g1 g2]
          exact k4 N (by omega)
        · obtain ⟨N, rfl⟩ : ∃ N', N = N' + 1 := ⟨N - 1, by omega⟩
          rw [mstep, if_pos c1, g3, zcall, if_pos (show (0 : Int32) ≤ 0 by decide)]
          exact k5 kk N (by omega)
      · refine ⟨t, _, m1, g3, RS_mono g6 (by omega) (Nat.le_refl _), g7, fun N hN => ?_, fun kk N hN => ?_⟩
        · obtain ⟨N, rfl⟩ : ∃ N', N = N' + 1 := ⟨N - 1, by omega⟩
          rw [dx_thr _ hj4 c g1 g4]
        · obtain ⟨N, rfl⟩ : ∃ N', N = N' + 1 := ⟨N - 1, by omega⟩
          rw [mstep, if_pos c1, g5, zcall, if_neg (nI_nle g2 (by omega)), if_neg (by omega)]
/-- the class's loop for one endpoint alone -/
theorem dx_one {e v : Nat} (hv : v < 4) : ∀ (d j : Nat), j + d = 4 → (j ≤ v → (x (24 + 3 * v) 3 ≤ 0 → ∀ x1, f_N_accept (24 + 3 * v) (x (58 + e) 0) (x (58 + e) 1) x = some (0, x1) → ∀ N, d < N → f_E_deliver_L2 (58 + e) (1 <<< (nI v &&& 31)) (fun v11 => some (0, v11)) N (nI j) x = some (0, x1)) ∧ (¬ x (24 + 3 * v) 3 ≤ 0 → ∀ t, ze_u x (24 + 3 * v) 3 (x (24 + 3 * v) 3 - 1) (24 + 3 * v) 4 = nI t → ∀ N, d < N → f_E_deliver_L2 (58 + e) (1 <<< (nI v &&& 31)) (fun v11 => some (0, v11)) N (nI j) x = some (nI t, ze_u x (24 + 3 * v) 3 (x (24 + 3 * v) 3 - 1)))) ∧ (v < j → ∀ y N, d < N → f_E_deliver_L2 (58 + e) (1 <<< (nI v &&& 31)) (fun v11 => some (0, v11)) N (nI j) y = some (0, y))
  | 0, j, hj => by
    refine ⟨fun c => by omega, fun c y N hN => ?_⟩
    obtain ⟨N, rfl⟩ : ∃ N', N = N' + 1 := ⟨N - 1, by omega⟩
    rw [dx_end _ (by omega) (by omega)]
  | d + 1, j, hj => by
    have ih := dx_one (e := e) hv d (j + 1) (by omega)
    have hj4 : j < 4 := by omega
    have hb := bit_1 hv hj4
    refine ⟨fun c => ⟨fun h3 x1 ha N hN => ?_, fun h3 t ht N hN => ?_⟩, fun c y N hN => ?_⟩
    · obtain ⟨N, rfl⟩ : ∃ N', N = N' + 1 := ⟨N - 1, by omega⟩
      by_cases cv : j = v
      · subst cv
        rw [if_pos rfl] at hb
        rw [dx_ok _ hj4 (by rw [hb]; decide) h3 ha]
        exact ih.2 (by omega) x1 N (by omega)
      · rw [if_neg cv] at hb
        rw [dx_skip _ hj4 hb]
        exact (ih.1 (by omega)).1 h3 x1 ha N (by omega)
    · obtain ⟨N, rfl⟩ : ∃ N', N = N' + 1 := ⟨N - 1, by omega⟩
      by_cases cv : j = v
      · subst cv
        rw [if_pos rfl] at hb
        rw [dx_thr _ hj4 (by rw [hb]; decide) h3 ht]
      · rw [if_neg cv] at hb
        rw [dx_skip _ hj4 hb]
        exact (ih.1 (by omega)).2 h3 t ht N (by omega)
    · obtain ⟨N, rfl⟩ : ∃ N', N = N' + 1 := ⟨N - 1, by omega⟩
      rw [if_neg (by omega)] at hb
      rw [dx_skip _ hj4 hb]
      exact ih.2 (by omega) y N (by omega)
end DL
