/-! PURE: whole lists -/
theorem ar1 {G a a1 : Nat} (h1 : a ≤ a1) (h2 : a1 ≤ 100) (h : G + 5 * (100 - a) < 2 ^ 28) : G + 5 * (a1 - a) + 5 * (100 - a1) < 2 ^ 28 := by omega
theorem ar2 {R a a1 : Nat} (h1 : a ≤ a1) (h2 : a1 ≤ 100) (h : R + 4 * (100 - a) ≤ 401) : R + 4 * (a1 - a) + 4 * (100 - a1) ≤ 401 := by omega
theorem ar3 {a a1 a2 k k' : Nat} (h1 : a ≤ a1) (h2 : a1 ≤ a2) (hk : k ≤ 10 * (a1 - a)) (hk' : k' ≤ 10 * (a2 - a1)) : k + k' ≤ 10 * (a2 - a) := by omega
theorem ar4 {a a1 k l6 : Nat} (h1 : a ≤ a1) (h2 : a1 ≤ 100) (hk : k ≤ 10 * (a1 - a)) (h : l6 + 10 * (100 - a) + 20 ≤ 100000) : l6 + k + 10 * (100 - a1) + 20 ≤ 100000 := by omega
section LI
variable {n : Nat → Nat} {T : Nat → Nat → Nat} {tb x m : ze_H} {G R a r p q e l t dd : Nat}
theorem x_step (hr : r < 4) (hz : tz (n r) (T r)) (h10 : ∀ p, p ≤ 40 → tb 10 (41 * r + p) = nI (T r p)) (htab : r_tab tb x) (hp : p ≤ 40) : f_P_isStep 9 (nI (41 * r + p)) x = some (if T r p = 0 ∨ T r p = 41 then 0 else 1, x) := by
  have hT := tz_le hz p
  have hat : f_P_at 9 (nI (41 * r + p)) x = some (nI (T r p), x) := by
    have : x 10 (41 * r + p) = nI (T r p) := by rw [htab 10 _ (by omega) (by omega)]; exact h10 p hp
    unfold f_P_at
    simp (disch := omega) only [↓reduceIte, ↓m1_l,  eq_self, zleN, zlvN, zcaN, zi_N, nI_clamp, zu_s, zu_n, nI_add, pk_mul, pk_subO, nI_eqP, nI_ltP, nI_leP, nI_m1P, nI_m1Q, nI_m1R, nI_m1S, nI_m1U, nI_m1P', if_pos, if_neg, l_0, l_1, l_2, l_3, l_4, l_5, l_6, l_7, l_8, l_10, l_15, l_16, l_20, l_26, l_31, l_33, l_37, l_38, l_40, l_41, l_42, l_43, l_44, l_45, l_48, l_57, l_58, l_60, l_61, l_62, l_63, l_64, l_97, l_98, l_99, l_100, l_102, l_105, l_107, l_113, l_114, l_115, l_120, l_126, l_160, l_164, l_242, l_401, l_420, l_640, l_656, l_9999, l_100000, this]
    exact zrc (by omega) x
  unfold f_P_isStep
  rw [hat, zcall]
  by_cases c1 : T r p = 0
  · rw [if_pos (Or.inl c1), c1, if_pos (show nI 0 = 0 from rfl)]
  · rw [if_neg (show ¬ nI (T r p) = 0 by rw [l_0, nI_eqP (by omega) (by omega)]; exact c1), hat, zcall]
    by_cases c2 : T r p = 41
    · rw [if_pos (Or.inr c2), c2, if_pos (show nI 41 = 41 from rfl)]
    · rw [if_neg (show ¬ nI (T r p) = 41 by rw [l_41, nI_eqP (by omega) (by omega)]; exact c2), if_neg (by omega)]
/-- any step -/
theorem st_all {D f d pe : Nat} (IH : LX n T tb (f_xRL (D + 1)) (dd + 1)) (pr : PR n T tb) (hr : r < 4) (hd : d ≤ 3) (hdd : dd ≤ 4 * r + d) (he : e ≤ dd) (hlt : l ≤ t) (ht : t ≤ dd) (ha : a ≤ 100) (hG : G + 5 * (100 - a) < 2 ^ 28) (hR : R + 4 * (100 - a) ≤ 401) (h : RS n T tb G R a x m) (hE : EX e l x m) (e53 : m 75 53 = nI r) (e54 : m 75 54 = nI p) (e44 : m 75 44 = nI t) (hp : p < n r) (h41 : ¬ T r p = 41) (hsp : sp (T r) r (sl (T r) r f) d p = .inr q) (hw : wst (T r) r tb 9 (sl (T r) r f) (wt (T r) r tb 9 f) d p q) (hrest : sl (T r) r f d q = .inr pe ∧ wt (T r) r tb 9 f d q) :
    ∃ oc k a1 x1 m1, f_E_runStep (f_xRL (D + 1)) (58 + e) (nI (41 * r + p)) (nI dd) x = some (0, x1) ∧ k ≤ 10 * (a1 - a) ∧ PO n T tb r q e l t dd G R a x m x1 m1 oc a1 ∧ SM a oc k m m1 := by
  have hz := (pr r hr).1
  have h40 := hz.1
  have gen : ∀ oc x1 m1 a1, (oc ≤ 7 ∧ ¬ oc = 1) → a ≤ a1 → a1 ≤ 100 → (oc = 0 → a < a1) → f_E_runStep (f_xRL (D + 1)) (58 + e) (nI (41 * r + p)) (nI dd) x = some (0, x1) → f_M_step m = some (nI oc, m1) → RS n T tb (G + 5 * (a1 - a)) (R + 4 * (a1 - a)) a1 x1 (cup oc m1) → (∀ k i, (58 ≤ k ∧ k ≤ 73 ∧ k ≠ 58 + e) → x1 k i = x k i) → (∀ k i, (111 ≤ k ∧ k ≤ 118 ∨ 108 ≤ k ∧ k ≤ 110 ∧ i ≠ l ∨ k = 75 ∧ (i = 35 ∨ i = 40 ∨ i = 44 ∨ i = 53)) → m1 k i = m k i) → (oc = 0 → EX e l x1 m1 ∧ m1 75 54 = nI q) → (¬ oc = 0 → x1 (58 + e) 3 = nI oc) → ∃ oc k a1 x1 m1, f_E_runStep (f_xRL (D + 1)) (58 + e) (nI (41 * r + p)) (nI dd) x = some (0, x1) ∧ k ≤ 10 * (a1 - a) ∧ PO n T tb r q e l t dd G R a x m x1 m1 oc a1 ∧ SM a oc k m m1 := by
    intro oc x1 m1 a1 g1 g2 g3 g4 g5 g6 g7 g8 g9 g10 g11
    have hPO : PO n T tb r q e l t dd G R a x m x1 (cup oc m1) oc a1 := by
      refine ⟨g2, g3, g1.1, g7, fun k i hk => g8 k i (by omega), fun k i hk => by rw [cup_n (by omega)]; exact g9 k i (by omega), by rw [cup_n (by omega), g9 _ _ (by omega)]; exact hE.2.2.2.2, fun c => ?_, fun c => ⟨g11 c, g1.2, t, Nat.le_refl _, by omega, by rw [cup_n (by omega), g9 _ _ (by omega)]; exact e44, fun i h1 h2 => by omega⟩⟩
      subst c
      rw [cup_0]
      exact ⟨(g10 rfl).1, by rw [g9 _ _ (by omega)]; exact e53, (g10 rfl).2, by rw [g9 _ _ (by omega)]; exact e44⟩
    by_cases c : oc = 0
    · subst c
      have := g4 rfl
      refine ⟨0, 1, a1, x1, _, g5, by omega, hPO, fun kk N l6 hl6 => ⟨fun _ => ?_, fun c => absurd rfl c⟩⟩
      rw [mr_step hr hz h.2.1 e53 e54 hp h41 kk (by omega) (by omega) g6, if_pos rfl]
      try rfl
    · refine ⟨oc, 0, a1, x1, _, g5, by omega, hPO, fun kk N l6 hl6 => ⟨fun q => absurd q c, fun _ => ?_⟩⟩
      rw [Nat.add_zero, mr_step hr hz h.2.1 e53 e54 hp h41 kk (by omega) g1.1 g6, if_neg c]
      try rfl
  by_cases ca : a = 100
  · obtain ⟨c1, c2⟩ := st_cut (RC := f_xRL (D + 1)) (b2 := nI (41 * r + p)) (b3 := nI dd) h ca (show e < 16 by omega)
    exact gen 7 _ m a (by omega) (Nat.le_refl _) ha (fun c => by omega) c1 c2 (RS_mono (RS_end h (by omega) (by omega) (by omega)) (by omega) (by omega)) (fun k i hk => by rw [zu_n _ _ _ _ (by omega), zu_n _ _ _ _ (by omega)]) (fun k i hk => rfl) (fun c => by omega) (fun _ => by rw [zu_n _ _ _ _ (by omega), zu_s])
  by_cases c63 : T r p = 63
  · exact st_63 IH (by omega) pr hr hd hdd he hlt ht (by omega) hG hR h hE e53 e54 e44 hp c63 hsp hw
  by_cases c115 : T r p = 115
  · exact st_115 IH pr hr hd hdd he hlt ht (by omega) hG hR h hE e53 e54 e44 hp c115 hsp hw
  by_cases c62 : T r p = 62
  · rcases sp_kind hsp with c | c | c | c | ⟨c, u⟩ | ⟨c, u⟩ | ⟨c, u⟩ | ⟨c, u⟩ | ⟨c, u⟩
    · omega
    · omega
    · omega
    · omega
    · omega
    · omega
    · omega
    · exact st_62 (f := f) (d := d) (e' := pe) IH pr hr hd hdd he hlt ht (by omega) hG hR h hE e53 e54 e44 hp c62 u (hw.2.1 (by omega))
    · omega
  · obtain ⟨oc, x1, m1, a1, g1, g2, g3, g4, g5, g6, g7, g8, g9, g10, g11⟩ := leaf_step pr hr (show e < 16 by omega) (show l < 16 by omega) hp hsp hw hrest c63 c62 c115 (f_xRL (D + 1)) (nI dd) (fun v11 => some (0, v11)) (fun v28 => some (6, v28)) 6 1 G R a x m 200000 200000 (by omega) (by omega) (by omega) (by omega) (by omega) ha hG hR h hE e53 e54
    exact gen oc x1 m1 a1 g1 g2 g3 g4 g5 g6 g7 g8 g9 g10 g11
theorem PO_t {pe : Nat} {x' m' x1 m1 : ze_H} {oc a' a1 : Nat} (h : PO n T tb r q e l t dd G R a x m x' m' 0 a') (h2 : PO n T tb r pe e l t dd (G + 5 * (a' - a)) (R + 4 * (a' - a)) a' x' m' x1 m1 oc a1) : PO n T tb r pe e l t dd G R a x m x1 m1 oc a1 := by
  obtain ⟨o1, o2, o3, o4, o5, o6, o7, o8, o9⟩ := h
  obtain ⟨p1, p2, p3, p4, p5, p6, p7, p8, p9⟩ := h2
  exact ⟨by omega, p2, p3, RS_mono p4 (by omega) (by omega), fun k i hk => (p5 k i hk).trans (o5 k i hk), fun k i hk => (p6 k i hk).trans (o6 k i hk), p7, p8, p9⟩
/-- the class's loop over a list -/
theorem li_loop {D d : Nat} (IH : LX n T tb (f_xRL (D + 1)) (dd + 1)) (pr : PR n T tb) (hr : r < 4) (hd : d ≤ 3) (hdd : dd ≤ 4 * r + d) (he : e ≤ dd) (hlt : l ≤ t) (ht : t ≤ dd) : ∀ (f p pe j N G R a : Nat) (x m : ze_H), a ≤ 100 → G + 5 * (100 - a) < 2 ^ 28 → R + 4 * (100 - a) ≤ 401 → RS n T tb G R a x m → EX e l x m → m 75 53 = nI r → m 75 54 = nI p → m 75 44 = nI t → p ≤ n r → sl (T r) r f d p = .inr pe → wt (T r) r tb 9 f d p → j ≤ p → n r + 1 < N + p →
    ∃ oc k a1 x1 m1, f_E_runList_L20 (f_xRL (D + 1)) (58 + e) (nI dd) (fun v9 => some (0, v9)) N (nI (41 * r + p)) (nI j) x = some (0, x1) ∧ k ≤ 10 * (a1 - a) ∧ PO n T tb r pe e l t dd G R a x m x1 m1 oc a1 ∧ SM a oc k m m1
  | 0, p, pe, j, N, G, R, a, x, m, ha, hG, hR, h, hE, e53, e54, e44, hp, hsl, hwt, hj, hN => by cases hsl
  | f + 1, p, pe, j, N, G, R, a, x, m, ha, hG, hR, h, hE, e53, e54, e44, hp, hsl, hwt, hj, hN => by
    have hz := (pr r hr).1
    have h40 := hz.1
    obtain ⟨N, rfl⟩ : ∃ N', N = N' + 1 := ⟨N - 1, by omega⟩
    have stop : (T r p = 0 ∨ T r p = 41) → pe = p → ∃ oc k a1 x1 m1, f_E_runList_L20 (f_xRL (D + 1)) (58 + e) (nI dd) (fun v9 => some (0, v9)) (N + 1) (nI (41 * r + p)) (nI j) x = some (0, x1) ∧ k ≤ 10 * (a1 - a) ∧ PO n T tb r pe e l t dd G R a x m x1 m1 oc a1 ∧ SM a oc k m m1 := by
      rintro c rfl
      refine ⟨0, 0, a, x, m, ?_, by omega, ⟨Nat.le_refl _, ha, by omega, RS_mono h (by omega) (by omega), fun _ _ _ => rfl, fun _ _ _ => rfl, hE.2.2.2.2, fun _ => ⟨hE, e53, e54, e44⟩, fun c => absurd rfl c⟩, fun kk N l6 hl6 => ⟨fun _ => rfl, fun c => absurd rfl c⟩⟩
      rw [f_E_runList_L20]
      rw [if_pos hE.2.2.2.1, x_step hr hz (pr r hr).2.2.2 h.1 (by omega), zcall, if_pos c, if_pos rfl, ite_self]
    rw [sl_s] at hsl
    by_cases c1 : T r p = 0
    · rw [if_pos c1] at hsl
      by_cases c0 : 0 < d
      · rw [if_pos c0] at hsl
        cases hsl
      · rw [if_neg c0] at hsl
        injection hsl with hsl
        exact stop (Or.inl c1) hsl.symm
    · rw [if_neg c1] at hsl
      by_cases c2 : T r p = 41 ∧ 0 < d
      · rw [if_pos c2] at hsl
        injection hsl with hsl
        exact stop (Or.inr c2.1) hsl.symm
      · rw [if_neg c2] at hsl
        clear stop
        obtain ⟨q, hq, hrest⟩ := sb_inr hsl
        have hpn : p < n r := tz_lt hz c1
        rcases hwt with hwt | hwt | ⟨q', hq', hw, hwr⟩
        · exact absurd hwt c1
        · exact absurd hwt c2
        · rw [hq] at hq'
          injection hq' with hq'
          subst hq'
          have h41 : ¬ T r p = 41 := by
            intro c
            rcases sp_kind hq with c' | c' | c' | c' | ⟨c', u⟩ | ⟨c', u⟩ | ⟨c', u⟩ | ⟨c', u⟩ | ⟨c', u⟩ <;> omega
          have hpq := sp_end hz hq
          obtain ⟨oc, k, a1, x1, m1, k1, k2, k3, k4⟩ := st_all IH pr hr hd hdd he hlt ht ha hG hR h hE e53 e54 e44 hpn h41 hq hw ⟨hrest, hwr⟩
          have tb1 : x1 15 (41 * r + p) = nI (41 * r + q) := by rw [k3.2.2.2.1.1 15 _ (by omega) (by omega)]; exact hw.1
          have xs : f_E_runList_L20 (f_xRL (D + 1)) (58 + e) (nI dd) (fun v9 => some (0, v9)) (N + 1) (nI (41 * r + p)) (nI j) x = f_E_runList_L20 (f_xRL (D + 1)) (58 + e) (nI dd) (fun v9 => some (0, v9)) N (nI (41 * r + q)) (nI (j + 1)) x1 := by
            rw [f_E_runList_L20]
            rw [if_neg (show ¬ (40 : Int32) ≤ nI j from nI_ge (b := 40) (by omega) (by omega)), if_pos hE.2.2.2.1, x_step hr hz (pr r hr).2.2.2 h.1 (by omega), zcall, if_neg (show ¬ (T r p = 0 ∨ T r p = 41) by omega), if_neg (show ¬ (1 : Int32) = 0 by decide), k1, zcall, zi_nI (by omega) (by omega), nI_clamp (by omega), tb1, zlet, zlet, nI_1]
          rw [xs]
          by_cases c : oc = 0
          · subst c
            obtain ⟨g1, g2, g3, g4⟩ := k3.2.2.2.2.2.2.2.1 rfl
            obtain ⟨oc2, k', a2, x2, m2, j1, j2, j3, j4⟩ := li_loop IH pr hr hd hdd he hlt ht f q pe (j + 1) N (G + 5 * (a1 - a)) (R + 4 * (a1 - a)) a1 x1 m1 k3.2.1 (ar1 k3.1 k3.2.1 hG) (ar2 k3.1 k3.2.1 hR) k3.2.2.2.1 g1 g2 g3 g4 hpq.2 hrest hwr (by omega) (by omega)
            have hle := k3.1
            have hle2 := j3.1
            have hle3 := k3.2.1
            refine ⟨oc2, k + k', a2, x2, m2, j1, ar3 hle hle2 k2 j2, PO_t k3 j3, fun kk N l6 hl6 => ⟨fun c => ?_, fun c => ?_⟩⟩
            · rw [show N + (k + k') = N + k' + k by omega, (k4 kk (N + k') l6 hl6).1 rfl, (j4 kk N (l6 + k) (ar4 hle hle3 k2 hl6)).1 c, Nat.add_assoc]
            · rw [show N + (k + k') + 1 = N + k' + 1 + k by omega, (k4 kk (N + k' + 1) l6 hl6).1 rfl, (j4 kk N (l6 + k) (ar4 hle hle3 k2 hl6)).2 c, show l6 + k + k' + 1 = l6 + (k + k') + 1 by omega]
          · obtain ⟨g1, g2, t1, g3, g4, g5, g6⟩ := k3.2.2.2.2.2.2.2.2 c
            obtain ⟨N, rfl⟩ : ∃ N', N = N' + 1 := ⟨N - 1, by omega⟩
            obtain ⟨o1, o2, o3, o4, o5, o6, o7, o8, o9⟩ := k3
            refine ⟨oc, k, a1, x1, m1, ?_, k2, ⟨o1, o2, o3, o4, o5, o6, o7, fun q => absurd q c, o9⟩, fun kk N l6 hl6 => ⟨fun q => absurd q c, (k4 kk N l6 hl6).2⟩⟩
            rw [f_E_runList_L20]
            rw [if_neg (show ¬ x1 (58 + e) 3 = 0 by rw [g1]; exact nI_ne0 (Nat.pos_of_ne_zero c) (by clear o8 o9; omega)), ite_self]
theorem LX_all (pr : PR n T tb) : ∀ D dd, dd + D = 16 → LX n T tb (f_xRL (D + 1)) dd
  | 0, dd, hD => by
    intro f d r p pe e l t G R a x m hr hd hdd
    omega
  | D + 1, dd, hD => by
    intro f d r p pe e l t G R a x m hr hd hdd he hlt ht ha hG hR h hE e53 e54 e44 hp hsl hwt
    have h40 := (pr r hr).1.1
    obtain ⟨oc, k, a1, x1, m1, k1, k2⟩ := li_loop (LX_all pr D (dd + 1) (by omega)) pr hr hd hdd he hlt ht f p pe 0 200000 G R a x m ha hG hR h hE e53 e54 e44 hp hsl hwt (by omega) (by omega)
    refine ⟨oc, k, a1, x1, m1, ?_, k2⟩
    show f_E_runList (f_xRL (D + 1)) (58 + e) (nI (41 * r + p)) (nI dd) x = _
    unfold f_E_runList
    rw [if_pos (show nI dd < 16 from nI_lt (b := 16) (by omega) (by omega)), zlet, zlet]
    exact k1
end LI
