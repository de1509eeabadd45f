/-! PURE: read -/
/-- the running texts: n r characters, T r; the class's tables fit them -/
def RU (n : Nat → Nat) (T : Nat → Nat → Nat) (x m : ze_H) : Prop := ∀ r, r < 4 → tz (n r) (T r) ∧ (∃ e, sl (T r) r 41 0 0 = .inr e) ∧ wt (T r) r x 9 41 0 0 ∧ (∀ p, p ≤ 40 → x 10 (41 * r + p) = nI (T r p)) ∧ m 79 r = nI (n r) ∧ ∀ p, p < n r → m 78 (40 * r + p) = nI (T r p)
theorem txt_of {x m : ze_H} (h : rs_txt x m) : ∃ (n : Nat → Nat) (T : Nat → Nat → Nat), ∀ r, r < 4 → tz (n r) (T r) ∧ tx r (T r) x ∧ mx r (n r) (T r) m := by
  refine ⟨fun r => (x 1 r).toNatClampNeg, fun r p => if p ≤ 40 then (x 3 (41 * r + p)).toNatClampNeg else 0, fun r hr => ?_⟩
  obtain ⟨n, hn, e1, e2, h1, h2⟩ := h r hr
  have en : (x 1 r).toNatClampNeg = n := by rw [e1, nI_clamp (by omega)]
  have hc : ∀ p, p < n → ∃ c, 33 ≤ c ∧ c ≤ 126 ∧ (if p ≤ 40 then (x 3 (41 * r + p)).toNatClampNeg else 0) = c ∧ x 3 (41 * r + p) = nI c ∧ m 76 (40 * r + p) = nI c := by
    intro p hp
    obtain ⟨c, c1, c2, c3, c4⟩ := h1 p hp
    exact ⟨c, c1, c2, by rw [if_pos (by omega), c3, nI_clamp (by omega)], c3, c4⟩
  show tz (x 1 r).toNatClampNeg _ ∧ _ ∧ mx r (x 1 r).toNatClampNeg _ m
  rw [en]
  refine ⟨⟨hn, fun p hp => ?_, fun p hp => ?_⟩, fun p hp => ?_, e2, fun p hp => ?_⟩
  · obtain ⟨c, c1, c2, c3, -⟩ := hc p hp
    show 33 ≤ (if p ≤ 40 then (x 3 (41 * r + p)).toNatClampNeg else 0) ∧ (if p ≤ 40 then (x 3 (41 * r + p)).toNatClampNeg else 0) ≤ 126
    rw [c3]
    exact ⟨c1, c2⟩
  · show (if p ≤ 40 then (x 3 (41 * r + p)).toNatClampNeg else 0) = 0
    by_cases c : p ≤ 40
    · rw [if_pos c, h2 p hp c]
      rfl
    · rw [if_neg c]
  · show x 3 (41 * r + p) = nI (if p ≤ 40 then (x 3 (41 * r + p)).toNatClampNeg else 0)
    rcases Nat.lt_or_ge p n with q | q
    · obtain ⟨c, c1, c2, c3, c4, c5⟩ := hc p q
      rw [c3, c4]
    · rw [if_pos hp, h2 p q hp]
      rfl
  · obtain ⟨c, c1, c2, c3, c4, c5⟩ := hc p hp
    show m 76 (40 * r + p) = nI (if p ≤ 40 then (x 3 (41 * r + p)).toNatClampNeg else 0)
    rw [c3, c5]
def XW (x x1 : ze_H) : Prop := ∀ k, ¬ (4 ≤ k ∧ k ≤ 8) → k ≠ 16 → x1 k = x k
theorem read_loop {n : Nat → Nat} {T : Nat → Nat → Nat} (kx km : ze_H → Option (Int32 × ze_H)) : ∀ (d r : Nat) (x m : ze_H) (N : Nat), r + d = 4 → d < N → (∀ r', r' < 4 → tz (n r') (T r') ∧ tx r' (T r') x ∧ mx r' (n r') (T r') m) → (∀ r', r' < r → (∃ e, sl (T r') r' 41 0 0 = .inr e) ∧ wt (T r') r' x 2 41 0 0) →
    ∃ x1 m1, XW x x1 ∧ fr m m1 ∧ ((∃ y, f_E_read_L2 kx N (nI r) x = some (y, x1) ∧ f_M_read_L2 km N (nI r) m = some (y, m1)) ∨ (f_E_read_L2 kx N (nI r) x = kx x1 ∧ f_M_read_L2 km N (nI r) m = km m1 ∧ ∀ r', r' < 4 → (∃ e, sl (T r') r' 41 0 0 = .inr e) ∧ wt (T r') r' x1 2 41 0 0))
  | d, r, x, m, 0, hd, hN, ht, hw => by omega
  | 0, r, x, m, N + 1, hd, hN, ht, hw => by
    have : r = 4 := by omega
    subst this
    refine ⟨x, m, fun k _ _ => rfl, fr_0 m, Or.inr ⟨?_, ?_, hw⟩⟩
    · rw [f_E_read_L2]
      rw [if_pos (show (4 : Int32) ≤ nI 4 by decide)]
    · rw [f_M_read_L2]
      rw [if_pos (show (4 : Int32) ≤ nI 4 by decide)]
  | d + 1, r, x, m, N + 1, hd, hN, ht, hw => by
    have hr : r < 4 := by omega
    obtain ⟨hz, h1, h2⟩ := ht r hr
    have h40 := hz.1
    obtain ⟨x1, a1, a2, a3⟩ := rd_text hr hz h1
    obtain ⟨m1, b1, b2, b3⟩ := md_text hr hz h2
    have hlt : ¬ (4 : Int32) ≤ nI r := by
      rw [l_4, nI_leP (by omega) (by omega)]
      omega
    rw [f_E_read_L2, f_M_read_L2]
    rw [if_neg hlt, if_neg hlt]
    cases hsl : sl (T r) r 41 0 0 with
    | inl e =>
      have he := (a2 e hsl).2
      refine ⟨x1, m1, a1, b1, Or.inl ⟨100 * (nI r + 1) + nI e, ?_, ?_⟩⟩
      · rw [(a2 e hsl).1, zcall, zlet, if_neg (show ¬ nI e = -1 by rw [m1_l, nI_m1P (by omega)]; exact id)]
      · rw [b2 e hsl, zcall, zlet, if_neg (nI_pos (by omega))]
    | inr e =>
      obtain ⟨c1, c2, c3⟩ := a3 e hsl
      have hx1 : ∀ r', r' < 4 → tz (n r') (T r') ∧ tx r' (T r') x1 ∧ mx r' (n r') (T r') m1 := fun r' hr' => by
        obtain ⟨g1, g2, g3⟩ := ht r' hr'
        exact ⟨g1, tx_kp g2 (a1 3 (by omega) (by omega)), fr_mx g3 b1⟩
      have hw1 : ∀ r', r' < r + 1 → (∃ e, sl (T r') r' 41 0 0 = .inr e) ∧ wt (T r') r' x1 2 41 0 0 := fun r' hr' => by
        by_cases c : r' = r
        · subst c
          exact ⟨⟨e, hsl⟩, c2⟩
        · obtain ⟨⟨e', he'⟩, g2⟩ := hw r' (by omega)
          have hz' := (ht r' (by omega)).1
          have h40' := hz'.1
          have hen := sl_ok hz' 41 0 0 e' (by omega) he'
          exact ⟨⟨e', he'⟩, wt_kp hz' 41 0 0 e' (by omega) he' (fun k i k1 k2 k3 k4 => c3 k i (by omega) (by omega) (by omega)) g2⟩
      obtain ⟨x2, m2, k1, k2, k3⟩ := read_loop kx km d (r + 1) x1 m1 N (by omega) (by omega) hx1 hw1
      rw [c1, zcall, zlet, if_pos rfl, zlet, b3 e hsl, zcall, zlet, if_pos (show (-1 : Int32) < 0 by decide), zlet, nI_1]
      exact ⟨x2, m2, fun k g1 g2 => (k1 k g1 g2).trans (a1 k g1 g2), fr_t b1 k2, k3⟩
theorem fill_loop (k0 : Nat) (kk : ze_H → Option (Int32 × ze_H)) : ∀ (d i : Nat) (v : ze_H) (N : Nat), i + d = 164 → d < N → ∃ v1, f_JA_fill_L5 k0 0 (Int32.ofNat 164) kk N (nI i) v = kk v1 ∧ (∀ k, k ≠ k0 → v1 k = v k) ∧ ∀ j, (i ≤ j ∧ j < 164 → v1 k0 j = 0) ∧ (j < i → v1 k0 j = v k0 j)
  | d, i, v, 0, hd, hN => by omega
  | 0, i, v, N + 1, hd, hN => by
    refine ⟨v, ?_, fun k _ => rfl, fun j => ⟨fun h => by omega, fun _ => rfl⟩⟩
    rw [f_JA_fill_L5]
    rw [if_pos (show Int32.ofNat 164 ≤ nI i from nI_le (a := 164) (by omega) (by omega))]
  | d + 1, i, v, N + 1, hd, hN => by
    obtain ⟨v1, h1, h2, h3⟩ := fill_loop k0 kk d (i + 1) (ze_u v k0 i 0) N (by omega) (by omega)
    refine ⟨v1, ?_, fun k hk => by rw [h2 k hk, zu_k _ _ _ _ hk], fun j => ⟨fun h => ?_, fun h => ?_⟩⟩
    · rw [f_JA_fill_L5]
      rw [if_neg (show ¬ Int32.ofNat 164 ≤ nI i from nI_ge (b := 164) (by omega) (by omega)), zi_nI (by omega) (by omega), nI_clamp (by omega), zlev, zlet, nI_1]
      exact h1
    · by_cases c : j = i
      · subst c
        rw [(h3 j).2 (by omega), zu_s]
      · exact (h3 j).1 (by omega)
    · rw [(h3 j).2 (by omega), zu_n _ _ _ _ (by omega)]
theorem mread34 (kk : ze_H → Option (Int32 × ze_H)) : ∀ (d i : Nat) (v : ze_H) (N : Nat), i + d = 160 → d < N → ∃ v1, f_M_read_L34 kk N (nI i) v = kk v1 ∧ (∀ k, k ≠ 78 → k ≠ 104 → v1 k = v k) ∧ ∀ j, (i ≤ j ∧ j < 160 → v1 104 j = 0 ∧ v1 78 j = vp_nar .char (v 76 j)) ∧ (j < i → v1 104 j = v 104 j ∧ v1 78 j = v 78 j)
  | d, i, v, 0, hd, hN => by omega
  | 0, i, v, N + 1, hd, hN => by
    refine ⟨v, ?_, fun k _ _ => rfl, fun j => ⟨fun h => by omega, fun _ => ⟨rfl, rfl⟩⟩⟩
    rw [f_M_read_L34]
    rw [if_pos (show (160 : Int32) ≤ nI i from nI_le (a := 160) (by omega) (by omega))]
  | d + 1, i, v, N + 1, hd, hN => by
    obtain ⟨v1, h1, h2, h3⟩ := mread34 kk d (i + 1) (ze_u (ze_u v 78 i (vp_nar .char (v 76 i))) 104 i 0) N (by omega) (by omega)
    refine ⟨v1, ?_, fun k hk hk2 => by rw [h2 k hk hk2, zu_k _ _ _ _ hk2, zu_k _ _ _ _ hk], fun j => ⟨fun h => ?_, fun h => ?_⟩⟩
    · rw [f_M_read_L34]
      rw [if_neg (show ¬ (160 : Int32) ≤ nI i from nI_ge (b := 160) (by omega) (by omega)), nI_clamp (by omega), zi_nI (by omega) (by omega), zi_nI (by omega) (by omega), zlev, zi_nI (by omega) (by omega), zlev, zlet, nI_1]
      exact h1
    · by_cases c : j = i
      · subst c
        rw [((h3 j).2 (by omega)).1, ((h3 j).2 (by omega)).2, zu_s, zu_n _ _ _ _ (by omega), zu_s]
        exact ⟨rfl, rfl⟩
      · rw [((h3 j).1 (by omega)).1, ((h3 j).1 (by omega)).2, zu_n _ _ _ _ (by omega), zu_n _ _ _ _ (by omega)]
        exact ⟨rfl, rfl⟩
    · rw [((h3 j).2 (by omega)).1, ((h3 j).2 (by omega)).2, zu_n _ _ _ _ (by omega), zu_n _ _ _ _ (by omega), zu_n _ _ _ _ (by omega), zu_n _ _ _ _ (by omega)]
      exact ⟨rfl, rfl⟩
theorem mread68 (kk : ze_H → Option (Int32 × ze_H)) : ∀ (d i : Nat) (v : ze_H) (N : Nat), i + d = 4 → d < N → ∃ v1, f_M_read_L68 kk N (nI i) v = kk v1 ∧ (∀ k, k ≠ 79 → v1 k = v k) ∧ ∀ j, (i ≤ j ∧ j < 4 → v1 79 j = v 77 j) ∧ (j < i → v1 79 j = v 79 j)
  | d, i, v, 0, hd, hN => by omega
  | 0, i, v, N + 1, hd, hN => by
    refine ⟨v, ?_, fun k _ => rfl, fun j => ⟨fun h => by omega, fun _ => rfl⟩⟩
    rw [f_M_read_L68]
    rw [if_pos (show (4 : Int32) ≤ nI i from nI_le (a := 4) (by omega) (by omega))]
  | d + 1, i, v, N + 1, hd, hN => by
    obtain ⟨v1, h1, h2, h3⟩ := mread68 kk d (i + 1) (ze_u v 79 i (v 77 i)) N (by omega) (by omega)
    refine ⟨v1, ?_, fun k hk => by rw [h2 k hk, zu_k _ _ _ _ hk], fun j => ⟨fun h => ?_, fun h => ?_⟩⟩
    · rw [f_M_read_L68]
      rw [if_neg (show ¬ (4 : Int32) ≤ nI i from nI_ge (b := 4) (by omega) (by omega)), nI_clamp (by omega), zi_nI (by omega) (by omega), zi_nI (by omega) (by omega), zlev, zlet, nI_1]
      exact h1
    · by_cases c : j = i
      · subst c
        rw [(h3 j).2 (by omega), zu_s]
      · rw [(h3 j).1 (by omega), zu_n _ _ _ _ (by omega)]
    · rw [(h3 j).2 (by omega), zu_n _ _ _ _ (by omega)]
theorem cpv_at (v : ze_H) (a b j i : Nat) : ze_cpv v a b 0 0 164 j i = if j = b ∧ i < 164 then v a i else v j i := by
  unfold ze_cpv
  by_cases c : j = b
  · rw [if_pos c]
    show (if 0 ≤ i ∧ i < 0 + 164 then v a (0 + (i - 0)) else v b i) = _
    by_cases c2 : i < 164
    · rw [if_pos (by omega), if_pos ⟨c, c2⟩, show 0 + (i - 0) = i by omega]
    · rw [if_neg (by omega), if_neg (fun q => c2 q.2), c]
  · rw [if_neg c, if_neg (fun q => c q.1)]
theorem cpy_ok (v : ze_H) (a b : Nat) (t : ze_H → Option (Int32 × ze_H)) : ze_cpyT v a 164 b 164 0 0 164 t = t (ze_cpv v a b 0 0 164) := by
  unfold ze_cpyT
  rw [if_neg (by decide)]
/-- the class's copy of the written program -/
theorem x_copy {v : ze_H} (h : ∀ i, i < 164 → ∃ c, c < 65536 ∧ v 3 i = nI c) : ∃ v1, f_P_copyFrom 9 2 v = some (0, v1) ∧ (∀ k, ¬ (10 ≤ k ∧ k ≤ 15) → v1 k = v k) ∧ ∀ k i, 10 ≤ k → k ≤ 15 → i < 164 → v1 k i = v (k - 7) i := by
  unfold f_P_copyFrom
  simp only [cpy_ok]
  unfold ze_cpcT
  rw [if_neg (by decide), if_pos (fun i hi => by
    obtain ⟨c, hc, e⟩ := h i hi
    rw [show (0 : Int32).toNatClampNeg + i = i from Nat.zero_add i, e]
    exact (pk_charN hc).2)]
  refine ⟨_, rfl, fun k hk => ?_, fun k i h1 h2 hi => ?_⟩
  · funext i
    rw [cpv_at, if_neg (by omega), cpv_at, if_neg (by omega), cpv_at, if_neg (by omega), cpv_at, if_neg (by omega), cpv_at, if_neg (by omega), cpv_at, if_neg (by omega)]
  · have hc : k = 10 ∨ k = 11 ∨ k = 12 ∨ k = 13 ∨ k = 14 ∨ k = 15 := by omega
    simp only [cpv_at]
    rcases hc with rfl | rfl | rfl | rfl | rfl | rfl <;> simp [hi]
/-- read: the same answer; either nothing but the reader's own cells changed, or these routes run and all is empty -/
theorem sim_read {x m : ze_H} (h : rs_txt x m) : ∃ y x1 m1, f_E_read x = some (y, x1) ∧ f_M_read m = some (y, m1) ∧ (XW x x1 ∧ fr m m1 ∨
    (∀ k, ¬ (4 ≤ k ∧ k ≤ 8) → k ≠ 16 → ¬ (10 ≤ k ∧ k ≤ 15) → k ≠ 39 → k ≠ 47 → k ≠ 54 → k ≠ 0 → x1 k = x k) ∧ (∀ i, i ≠ 5 → x1 39 i = x 39 i) ∧ x1 39 5 = 0 ∧ x1 47 5 = 0 ∧ (∀ i, i < 164 → x1 54 i = 0) ∧ x1 0 14 = 0 ∧ (∀ i, i ≠ 14 → x1 0 i = x 0 i) ∧
    (∀ k, k ≠ 75 → k ≠ 80 → k ≠ 78 → k ≠ 79 → k ≠ 104 → m1 k = m k) ∧ (∀ i, i ≠ 5 → i ≠ 6 → i ≠ 18 → i ≠ 22 → i ≠ 29 → m1 75 i = m 75 i) ∧ (∀ i, i < 160 → m1 104 i = 0) ∧ m1 75 18 = 0 ∧ m1 75 22 = 0 ∧ m1 75 29 = 0 ∧ ∃ n T, RU n T x1 m1) := by
  obtain ⟨n, T, hT⟩ := txt_of h
  unfold f_E_read f_M_read
  rw [zlet, zlet, show (0 : Int32) = nI 0 from rfl]
  obtain ⟨x1, m1, h1, h2, h3⟩ := read_loop (n := n) (T := T) (fun v6 => ze_call (f_P_copyFrom 9 2 v6) (fun r7 v8 => ze_call (f_L_empty 39 8 v8) (fun r9 v10 => ze_lev (ze_u v10 47 5 (nI 0)) (fun v11 => ze_call (f_K_empty v11) (fun r12 v13 => ze_lev (ze_u v13 0 14 (nI 0)) (fun v14 => some (nI 0, v14)))))))
    (fun v6 => ze_let (nI 0) (fun x7 => f_M_read_L34 (fun v11 => ze_let (nI 0) (fun x12 => f_M_read_L68 (fun v15 => ze_lev (ze_u v15 75 18 (nI 0)) (fun v16 => ze_lev (ze_u v16 75 22 (nI 0)) (fun v17 => ze_lev (ze_u v17 75 29 (nI 0)) (fun v18 => some (nI 0, v18))))) 200000 x12 v11)) 200000 x7 v6)) 4 0 x m 200000 (by omega) (by omega) hT (fun r' hr' => by omega)
  rcases h3 with ⟨y, g1, g2⟩ | ⟨g1, g2, g3⟩
  · exact ⟨y, x1, m1, g1, g2, Or.inl ⟨h1, h2⟩⟩
  · rw [g1, g2, zlet]
    have hT1 : ∀ r', r' < 4 → tz (n r') (T r') ∧ tx r' (T r') x1 ∧ mx r' (n r') (T r') m1 := fun r' hr' => by
      obtain ⟨k1, k2, k3⟩ := hT r' hr'
      exact ⟨k1, tx_kp k2 (h1 3 (by omega) (by omega)), fr_mx k3 h2⟩
    have hch : ∀ i, i < 164 → ∃ c, c < 65536 ∧ x1 3 i = nI c := fun i hi => by
      obtain ⟨k1, k2, k3⟩ := hT1 (i / 41) (by omega)
      have := k2 (i % 41) (by omega)
      rw [show 41 * (i / 41) + i % 41 = i by omega] at this
      have h126 := tz_le k1 (i % 41)
      exact ⟨_, by omega, this⟩
    obtain ⟨x2, a1, a2, a3⟩ := x_copy hch
    rw [a1, zcall]
    unfold f_L_empty f_K_empty f_JA_fill
    rw [zlev, zcall, zlev, zlet, zlet]
    obtain ⟨x3, b1, b2, b3⟩ := fill_loop 54 (fun v5 => some (0, v5)) 164 0 (ze_u (ze_u x2 39 5 0) 47 5 (nI 0)) 200000 (by omega) (by omega)
    rw [show (0 : Int32) = nI 0 from rfl] at b1 ⊢
    rw [b1, zcall, zcall, zlev]
    obtain ⟨m2, c1, c2, c3⟩ := mread34 (fun v11 => ze_let (nI 0) (fun x12 => f_M_read_L68 (fun v15 => ze_lev (ze_u v15 75 18 (nI 0)) (fun v16 => ze_lev (ze_u v16 75 22 (nI 0)) (fun v17 => ze_lev (ze_u v17 75 29 (nI 0)) (fun v18 => some (nI 0, v18))))) 200000 x12 v11)) 160 0 m1 200000 (by omega) (by omega)
    rw [c1, zlet]
    obtain ⟨m3, d1, d2, d3⟩ := mread68 (fun v15 => ze_lev (ze_u v15 75 18 (nI 0)) (fun v16 => ze_lev (ze_u v16 75 22 (nI 0)) (fun v17 => ze_lev (ze_u v17 75 29 (nI 0)) (fun v18 => some (nI 0, v18))))) 4 0 m2 200000 (by omega) (by omega)
    rw [d1, zlev, zlev, zlev]
    refine ⟨nI 0, _, _, rfl, rfl, Or.inr ⟨fun k k1 k2 k3 k4 k5 k6 k7 => ?_, fun i hi => ?_, ?_, ?_, fun i hi => ?_, zu_s _ _ _ _, fun i hi => ?_, fun k k1 k2 k3 k4 k5 => ?_, fun i k1 k2 k3 k4 k5 => ?_, fun i hi => ?_, ?_, ?_, zu_s _ _ _ _, n, T, fun r hr => ?_⟩⟩
    · rw [zu_k _ _ _ _ k7, b2 k k6, zu_k _ _ _ _ k5, zu_k _ _ _ _ k4, a2 k k3, h1 k k1 k2]
    · rw [zu_k _ _ _ _ (by omega), b2 39 (by omega), zu_k _ _ _ _ (by omega), zu_n _ _ _ _ (by omega), a2 39 (by omega), h1 39 (by omega) (by omega)]
    · rw [zu_k _ _ _ _ (by omega), b2 39 (by omega), zu_k _ _ _ _ (by omega), zu_s]
      try rfl
    · rw [zu_k _ _ _ _ (by omega), b2 47 (by omega), zu_s]
      try rfl
    · rw [zu_k _ _ _ _ (by omega), (b3 i).1 (by omega)]
      try rfl
    · rw [zu_n _ _ _ _ (by omega), b2 0 (by omega), zu_k _ _ _ _ (by omega), zu_k _ _ _ _ (by omega), a2 0 (by omega), h1 0 (by omega) (by omega)]
    · rw [zu_k _ _ _ _ k1, zu_k _ _ _ _ k1, zu_k _ _ _ _ k1, d2 k k4, c2 k k3 k5, h2.1 k k1 k2]
    · rw [zu_n _ _ _ _ (by omega), zu_n _ _ _ _ (by omega), zu_n _ _ _ _ (by omega), d2 75 (by omega), c2 75 (by omega) (by omega), h2.2 i k1 k2]
    · rw [zu_k _ _ _ _ (by omega), zu_k _ _ _ _ (by omega), zu_k _ _ _ _ (by omega), d2 104 (by omega), ((c3 i).1 (by omega)).1]
      try rfl
    · rw [zu_n _ _ _ _ (by omega), zu_n _ _ _ _ (by omega), zu_s]
      try rfl
    · rw [zu_n _ _ _ _ (by omega), zu_s]
      try rfl
    · obtain ⟨k1, k2, k3⟩ := hT1 r hr
      obtain ⟨⟨e, he⟩, hw⟩ := g3 r hr
      have h40 := k1.1
      have hx : ∀ k i, 10 ≤ k → k ≤ 15 → i < 164 → ze_u x3 0 14 (nI 0) k i = x1 (k - 7) i := fun k i q1 q2 q3 => by
        rw [zu_k _ _ _ _ (by omega), b2 k (by omega), zu_k _ _ _ _ (by omega), zu_k _ _ _ _ (by omega), a3 k i q1 q2 q3]
      refine ⟨k1, ⟨e, he⟩, ?_, fun p hp => ?_, ?_, fun p hp => ?_⟩
      · exact wt_sh k1 41 0 0 e (by omega) he (fun k i q1 q2 q3 q4 => by
          have := sl_ok k1 41 0 0 e (by omega) he
          rw [hx (9 + k) i (by omega) (by omega) (by omega), show 9 + k - 7 = 2 + k by omega]) hw
      · rw [hx 10 _ (by omega) (by omega) (by omega)]
        exact k2 p hp
      · rw [zu_k _ _ _ _ (by omega), zu_k _ _ _ _ (by omega), zu_k _ _ _ _ (by omega), (d3 r).1 (by omega), c2 77 (by omega) (by omega)]
        exact k3.1
      · have h126 := tz_le k1 p
        rw [zu_k _ _ _ _ (by omega), zu_k _ _ _ _ (by omega), zu_k _ _ _ _ (by omega), d2 78 (by omega), ((c3 _).1 (by omega)).2, k3.2 p hp, nar_c (by omega)]
