/-! PURE: the step s, whole -/
section SQ
variable {n : Nat → Nat} {T : Nat → Nat → Nat} {tb : ze_H} {r p q e l t dd : Nat}
theorem zc_id (o : Option (Int32 × ze_H)) (F : Int32 → ze_H → Option (Int32 × ze_H)) : ze_call (ze_call o (fun r v => some (0, v))) F = ze_call o (fun r v => F 0 v) := by
  cases o <;> rfl
/-- the parts from the i-th on -/
theorem parts {D f d b0 e1 s : Nat} {B K O : Int32} {kx : Int32 → ze_H → Option (Int32 × ze_H)} (IH : LX n T tb (f_xRL D) (dd + 1)) (pr : PR n T tb) (hr : r < 4) (hd : d < 3) (hdd : dd ≤ 4 * r + d) (he : e ≤ dd) (hlt : l ≤ t) (ht : t ≤ dd) (hs : s ≤ 4) (hs1 : 1 ≤ s) (hp : p < n r) (hb0 : b0 ≤ n r) (hsl : sl (T r) r f (d + 1) b0 = .inr e1) (hwt : wt (T r) r tb 9 f (d + 1) b0) (t13 : tb 13 (41 * r + p) = nI (41 * r + b0)) : ∀ (j i G R a : Nat) (S : Int32) (x m : ze_H), i + j = s → a ≤ 100 → G + 5 * (100 - a) < 2 ^ 28 → R + 4 * (100 - a) ≤ 401 → RS n T tb G R a x m → x (58 + e) 0 = B → x (58 + e) 1 = K → m 108 l = B → m 109 l = K → m 110 l = O → m 75 40 = nI l → FS r q b0 s t B i S m →
    ∃ k a1 S1 x1 m1, (∀ N, j < N → f_E_runParts_L45 (f_xRL D) (58 + e) (nI (41 * r + p)) (nI (dd + 1)) (nI s) (58 + (dd + 1)) kx N S (nI i) x = kx S1 x1) ∧ k ≤ 10 * (a1 - a) + j ∧ a ≤ a1 ∧ a1 ≤ 100 ∧ RS n T tb (G + 5 * (a1 - a)) (R + 4 * (a1 - a)) a1 x1 m1 ∧ (∀ k i, (58 ≤ k ∧ k ≤ 58 + dd) → x1 k i = x k i) ∧ (∀ k i, (111 ≤ k ∧ k ≤ 118 ∧ i < t ∨ 108 ≤ k ∧ k ≤ 110 ∧ i < l ∨ 109 ≤ k ∧ k ≤ 110 ∧ i = l ∨ k = 75 ∧ i = 35) → m1 k i = m k i) ∧ m1 108 l = S1 ∧ m1 75 40 = nI l ∧ m1 75 53 = nI r ∧ m1 75 54 = nI q ∧ m1 75 44 = nI t ∧
      ∀ kk N l6, l6 + 10 * (100 - a) + j + 20 ≤ 100000 → ze_call (f_M_part m) (fun r6 v7 => f_M_run_L33 kk (N + k) 0 (nI l6) v7) = f_M_run_L33 kk N 0 (nI (l6 + k)) m1
  | 0, i, G, R, a, S, x, m, hj, ha, hG, hR, h, xb, xk, mb, mky, mo, e40, F => by
    have : i = s := by omega
    subst this
    refine ⟨0, a, S, x, _, fun N hN => ?_, by omega, Nat.le_refl _, ha, RS_mono (RS_kp (x1 := x) (m1 := ze_u (ze_u (ze_u (ze_u m 75 53 (nI r)) 108 l S) 75 54 (nI q)) 75 44 (nI t)) h (fun k i hk => rfl) (fun k i c1 c2 => by simp (disch := omega) only [zu_n])) (by omega) (by omega), fun k i hk => rfl, fun k i hk => by simp (disch := omega) only [zu_n], ?_, ?_, ?_, ?_, zu_s _ _ _ _, fun kk N l6 hl6 => ?_⟩
    · obtain ⟨N, rfl⟩ : ∃ N', N = N' + 1 := ⟨N - 1, by omega⟩
      rw [f_E_runParts_L45]
      rw [if_pos (nI_le (Nat.le_refl _) (by omega))]
    · simp (disch := omega) only [zu_n, zu_s]
    · simp (disch := omega) only [zu_n]
      exact e40
    · simp (disch := omega) only [zu_n, zu_s]
    · simp (disch := omega) only [zu_n, zu_s]
    · rw [m_part_done F (by omega) (by omega) hs e40, zcall]
      rfl
  | j + 1, i, G, R, a, S, x, m, hj, ha, hG, hR, h, xb, xk, mb, mky, mo, e40, F => by
    have hz := (pr r hr).1
    have h40 := hz.1
    have u := sl_ok hz f (d + 1) b0 e1 hb0 hsl
    have u41 := u.2.2.1 (by omega)
    have u1 : e1 < n r := tz_lt hz (by omega)
    obtain ⟨z, z1, z2⟩ := fd_eq (B + nI i) hs1 hs
    obtain ⟨m2, p1, p2⟩ := m_part_more (l := l) F (by omega) (by omega) hs (by omega) e40 z2
    have hF := F
    obtain ⟨f1, f2, f3, f4, f5, f6, f7, f8, f9⟩ := hF
    -- the part begins
    have hm2f : ∀ k i, ¬ (k = 75 ∧ (i = 40 ∨ i = 53 ∨ i = 54)) → ¬ (108 ≤ k ∧ k ≤ 110 ∧ i = l + 1) → ¬ (k = 119 ∧ i = 0) → ¬ (k = 116 ∧ i = t) → m2 k i = m k i := fun k i c1 c2 c3 c4 => by rw [p2]; simp (disch := omega) only [zu_n]
    have hx2 : ∃ x2, x2 = ze_u (ze_u (ze_u (ze_u (ze_u x (58 + (dd + 1)) 0 z) (58 + (dd + 1)) 1 K) (58 + (dd + 1)) 2 z) (58 + (dd + 1)) 3 0) 74 0 (x 74 0 + 1) := ⟨_, rfl⟩
    obtain ⟨x2, hx2⟩ := hx2
    have hx2f : ∀ k i, ¬ (k = 58 + (dd + 1)) → ¬ (k = 74 ∧ i = 0) → x2 k i = x k i := fun k i c1 c2 => by rw [hx2]; simp (disch := omega) only [zu_n]
    have RB := RS_begin (b := z) (y := K) (e1 := dd + 1) (l1 := l + 1) h (by omega) (by omega)
    rw [← hx2] at RB
    have R2 : RS n T tb G R a x2 m2 := RS_kp RB (fun k i hk => rfl) (fun k i c1 c2 => by
      by_cases c : k = 119 ∧ i = 0
      · rw [c.1, c.2, zu_s, p2]
        simp (disch := omega) only [zu_n, zu_s]
      · rw [hm2f k i (by omega) (by omega) c (by omega)]
        simp (disch := omega) only [zu_n])
    have E2 : EX (dd + 1) (l + 1) x2 m2 := by
      refine ⟨?_, ?_, ?_, ?_, ?_⟩
      · rw [hx2, p2]
        simp (disch := omega) only [zu_n, zu_s]
      · rw [hx2, p2]
        simp (disch := omega) only [zu_n, zu_s]
        exact mky.symm
      · rw [hx2, p2]
        simp (disch := omega) only [zu_n, zu_s]
      · rw [hx2]
        simp (disch := omega) only [zu_n, zu_s]
      · rw [p2]
        simp (disch := omega) only [zu_n, zu_s]
    have q53 : m2 75 53 = nI r := by
      rw [p2]
      simp (disch := omega) only [zu_n, zu_s]
    have q54 : m2 75 54 = nI b0 := by rw [p2, zu_s]
    have q44 : m2 75 44 = nI (t + 1) := by rw [hm2f _ _ (by omega) (by omega) (by omega) (by omega)]; exact f1
    obtain ⟨oc, k, a1, x3, m3, k1, k2, ⟨o1, o2, o3, o4, o5, o6, o7, o8, o9⟩, k4⟩ := IH f (d + 1) r b0 e1 (dd + 1) (l + 1) (t + 1) G R a x2 m2 hr (by omega) (by omega) (Nat.le_refl _) (by omega) (by omega) ha hG hR R2 E2 q53 q54 q44 hb0 hsl hwt
    have xs : ∀ N, f_E_runParts_L45 (f_xRL D) (58 + e) (nI (41 * r + p)) (nI (dd + 1)) (nI s) (58 + (dd + 1)) kx (N + 1) S (nI i) x = if x3 (58 + (dd + 1)) 3 = 0 then ze_call (f_E_end (58 + (dd + 1)) (nI 1) x3) (fun r13 v14 => f_E_runParts_L45 (f_xRL D) (58 + e) (nI (41 * r + p)) (nI (dd + 1)) (nI s) (58 + (dd + 1)) kx N (S + v14 (58 + (dd + 1)) 0) (nI (i + 1)) v14) else f_E_runParts_L45 (f_xRL D) (58 + e) (nI (41 * r + p)) (nI (dd + 1)) (nI s) (58 + (dd + 1)) kx N S (nI (i + 1)) x3 := fun N => by
      rw [f_E_runParts_L45]
      rw [if_neg (nI_ge (show i < s by omega) (by omega)), xb, z1, zcall, xk, px_begin (by omega), zcall, ← hx2, zi_nI (by omega) (by omega), nI_clamp (by omega), hx2f 13 _ (by omega) (by omega), h.1 13 _ (by omega) (by omega), t13, k1, zcall]
      simp only [zleN, nI_1]
      rfl
    -- common to both ends of the part
    have fr3 : ∀ k i, ¬ (k = 116) → (111 ≤ k ∧ k ≤ 118 ∧ i ≤ t ∨ 108 ≤ k ∧ k ≤ 110 ∧ i ≤ l ∨ k = 75 ∧ i = 35) → m3 k i = m k i := fun k i c1 hk => by rw [o6 k i (by omega), hm2f k i (by omega) (by omega) (by omega) (by omega)]
    have f116 : m3 116 t = nI (i + 1) := by
      rw [o6 116 t (by omega), p2]
      simp (disch := omega) only [zu_n, zu_s]
    have fr116 : ∀ i, i < t → m3 116 i = m 116 i := fun i hi => by rw [o6 116 i (by omega), hm2f _ _ (by omega) (by omega) (by omega) (by omega)]
    have fx3 : ∀ k i, (58 ≤ k ∧ k ≤ 58 + dd) → x3 k i = x k i := fun k i hk => by rw [o5 k i (by omega), hx2f k i (by omega) (by omega)]
    by_cases c : oc = 0
    · subst c
      obtain ⟨g1, g2, g3, g4⟩ := o8 rfl
      have hcl := m_close2 (m := m3) (t := t) (by omega) g4 (by rw [fr3 111 t (by omega) (by omega)]; exact f2)
      have c40 : cup 1 m3 75 40 = nI (l + 1) := by rw [cup_n (by omega)]; exact o7
      have c44 : cup 1 m3 75 44 = nI (t + 1) := by rw [cup_n (by omega)]; exact g4
      have c111 : cup 1 m3 111 t = 2 := by rw [cup_n (by omega), fr3 111 t (by omega) (by omega)]; exact f2
      have hfin := m_fin_1 (m := cup 1 m3) (t := t) (l := l) (by omega) (by omega) c40 c44 c111
      have R4 := RS_end (e := dd + 1) (oc := 1) o4 (by omega) (by omega) (by omega)
      have hm4f : ∀ k i, ¬ (k = 117 ∧ i = t) → ¬ (k = 75 ∧ i = 40) → ze_u (ze_u (cup 1 m3) 117 t (cup 1 m3 117 t + cup 1 m3 108 (l + 1))) 75 40 (nI l) k i = cup 1 m3 k i := fun k i c1 c2 => by rw [zu_n _ _ _ _ c2, zu_n _ _ _ _ c1]
      have hm4g : ∀ k i, ¬ k = 119 → ¬ (k = 117 ∧ i = t) → ¬ (k = 75 ∧ i = 40) → ze_u (ze_u (cup 1 m3) 117 t (cup 1 m3 117 t + cup 1 m3 108 (l + 1))) 75 40 (nI l) k i = m3 k i := fun k i c0 c1 c2 => by rw [hm4f k i c1 c2, cup_n c0]
      have hx4f : ∀ k i, (58 ≤ k ∧ k ≤ 58 + dd) → ze_u (ze_u x3 (58 + (dd + 1)) 3 (nI 1)) 74 1 (x3 74 1 + 1) k i = x k i := fun k i hk => by rw [zu_n _ _ _ _ (by omega), zu_n _ _ _ _ (by omega)]; exact fx3 k i hk
      have s117 : ze_u (ze_u (cup 1 m3) 117 t (cup 1 m3 117 t + cup 1 m3 108 (l + 1))) 75 40 (nI l) 117 t = S + ze_u (ze_u x3 (58 + (dd + 1)) 3 (nI 1)) 74 1 (x3 74 1 + 1) (58 + (dd + 1)) 0 := by
        rw [zu_n _ _ _ _ (by omega), zu_s, cup_n (by omega), cup_n (by omega), fr3 117 t (by omega) (by omega), f8, zu_n _ _ _ _ (by omega), zu_n _ _ _ _ (by omega), g1.1]
      have s40 : ze_u (ze_u (cup 1 m3) 117 t (cup 1 m3 117 t + cup 1 m3 108 (l + 1))) 75 40 (nI l) 75 40 = nI l := zu_s _ _ _ _
      have R5 : RS n T tb (G + 5 * (a1 - a)) (R + 4 * (a1 - a)) a1 (ze_u (ze_u x3 (58 + (dd + 1)) 3 (nI 1)) 74 1 (x3 74 1 + 1)) (ze_u (ze_u (cup 1 m3) 117 t (cup 1 m3 117 t + cup 1 m3 108 (l + 1))) 75 40 (nI l)) := RS_kp R4 (fun k i hk => rfl) (fun k i c1 c2 => hm4f k i (by omega) (by omega))
      generalize hxe : ze_u (ze_u x3 (58 + (dd + 1)) 3 (nI 1)) 74 1 (x3 74 1 + 1) = x4 at R5 hx4f s117
      generalize ze_u (ze_u (cup 1 m3) 117 t (cup 1 m3 117 t + cup 1 m3 108 (l + 1))) 75 40 (nI l) = m4 at R5 hm4f hm4g s117 s40 hfin
      obtain ⟨k', a2, S1, x5, m5, j1, j2, j3, j4, j5, j6, j7, j8, j9, j10, j11, j12, j13⟩ := parts (kx := kx) (B := B) (K := K) (O := O) IH pr hr hd hdd he hlt ht hs hs1 hp hb0 hsl hwt t13 j (i + 1) (G + 5 * (a1 - a)) (R + 4 * (a1 - a)) a1 _ x4 m4 (by omega) o2 (by omega) (by omega) R5 (by rw [hx4f _ _ (by omega)]; exact xb) (by rw [hx4f _ _ (by omega)]; exact xk) (by rw [hm4g _ _ (by omega) (by omega) (by omega), fr3 108 l (by omega) (by omega)]; exact mb) (by rw [hm4g _ _ (by omega) (by omega) (by omega), fr3 109 l (by omega) (by omega)]; exact mky) (by rw [hm4g _ _ (by omega) (by omega) (by omega), fr3 110 l (by omega) (by omega)]; exact mo) s40 ⟨by rw [hm4g _ _ (by omega) (by omega) (by omega)]; exact g4, by rw [hm4g _ _ (by omega) (by omega) (by omega), fr3 111 t (by omega) (by omega)]; exact f2, by rw [hm4g _ _ (by omega) (by omega) (by omega), fr3 112 t (by omega) (by omega)]; exact f3, by rw [hm4g _ _ (by omega) (by omega) (by omega), fr3 113 t (by omega) (by omega)]; exact f4, by rw [hm4g _ _ (by omega) (by omega) (by omega), fr3 114 t (by omega) (by omega)]; exact f5, by rw [hm4g _ _ (by omega) (by omega) (by omega), fr3 115 t (by omega) (by omega)]; exact f6, by rw [hm4g _ _ (by omega) (by omega) (by omega)]; exact f116, s117, by rw [hm4g _ _ (by omega) (by omega) (by omega), fr3 118 t (by omega) (by omega)]; exact f9⟩
      refine ⟨k + 1 + k', a2, S1, x5, m5, fun N hN => ?_, by omega, by omega, j4, RS_mono j5 (by omega) (by omega), fun k i hk => by rw [j6 k i hk, hx4f k i hk], fun k i hk => ?_, j8, j9, j10, j11, j12, fun kk N l6 hl6 => ?_⟩
      · obtain ⟨N, rfl⟩ : ∃ N', N = N' + 1 := ⟨N - 1, by omega⟩
        rw [xs, if_pos g1.2.2.2.1, px_end (by omega) x3 (by omega), zcall, hxe]
        exact j1 N (by omega)
      · rw [j7 k i hk, hm4g k i (by omega) (by omega) (by omega)]
        by_cases c6 : k = 116
        · subst c6
          exact fr116 i (by omega)
        · exact fr3 k i c6 (by omega)
      · have hlk : l6 + k < 100000 := by
          clear o8 o9 u k4 j13
          omega
        rw [p1, zcall, show N + (k + 1 + k') = N + k' + 1 + k by omega, (k4 kk (N + k' + 1) l6 (by omega)).1 rfl, mr_close hr hz o4.2.1 g2 g3 (by omega) (Or.inr u41) kk hlk, hcl, hfin, zc_id, zc_id]
        have := j13 kk N (l6 + k + 1) (by
          clear o8 o9 u k4 j13
          omega)
        rw [show l6 + (k + 1 + k') = l6 + k + 1 + k' by omega]
        exact this
    · obtain ⟨g1, g2, t1, g3, g4, g5, g6⟩ := o9 c
      have hfin := m_fin_0 (m := m3) (t := t) (l := l) (oc := oc) (t1 := t1) g2 o3 g3 g4 (by omega) o7 g5 (by rw [fr3 111 t (by omega) (by omega)]; exact f2) g6
      have hm4g : ∀ k i, ¬ (k = 75 ∧ (i = 40 ∨ i = 44)) → ze_u (ze_u m3 75 44 (nI (t + 1))) 75 40 (nI l) k i = m3 k i := fun k i c1 => by rw [zu_n _ _ _ _ (by omega), zu_n _ _ _ _ (by omega)]
      have s40 : ze_u (ze_u m3 75 44 (nI (t + 1))) 75 40 (nI l) 75 40 = nI l := zu_s _ _ _ _
      have s44 : ze_u (ze_u m3 75 44 (nI (t + 1))) 75 40 (nI l) 75 44 = nI (t + 1) := by rw [zu_n _ _ _ _ (by omega), zu_s]
      have R5 : RS n T tb (G + 5 * (a1 - a)) (R + 4 * (a1 - a)) a1 x3 (ze_u (ze_u m3 75 44 (nI (t + 1))) 75 40 (nI l)) := RS_kp o4 (fun k i hk => rfl) (fun k i c1 c2 => hm4g k i (by omega))
      generalize ze_u (ze_u m3 75 44 (nI (t + 1))) 75 40 (nI l) = m4 at R5 hm4g s40 s44 hfin
      obtain ⟨k', a2, S1, x5, m5, j1, j2, j3, j4, j5, j6, j7, j8, j9, j10, j11, j12, j13⟩ := parts (kx := kx) (B := B) (K := K) (O := O) IH pr hr hd hdd he hlt ht hs hs1 hp hb0 hsl hwt t13 j (i + 1) (G + 5 * (a1 - a)) (R + 4 * (a1 - a)) a1 S x3 m4 (by omega) o2 (by omega) (by omega) R5 (by rw [fx3 _ _ (by omega)]; exact xb) (by rw [fx3 _ _ (by omega)]; exact xk) (by rw [hm4g _ _ (by omega), fr3 108 l (by omega) (by omega)]; exact mb) (by rw [hm4g _ _ (by omega), fr3 109 l (by omega) (by omega)]; exact mky) (by rw [hm4g _ _ (by omega), fr3 110 l (by omega) (by omega)]; exact mo) s40 ⟨s44, by rw [hm4g _ _ (by omega), fr3 111 t (by omega) (by omega)]; exact f2, by rw [hm4g _ _ (by omega), fr3 112 t (by omega) (by omega)]; exact f3, by rw [hm4g _ _ (by omega), fr3 113 t (by omega) (by omega)]; exact f4, by rw [hm4g _ _ (by omega), fr3 114 t (by omega) (by omega)]; exact f5, by rw [hm4g _ _ (by omega), fr3 115 t (by omega) (by omega)]; exact f6, by rw [hm4g _ _ (by omega)]; exact f116, by rw [hm4g _ _ (by omega), fr3 117 t (by omega) (by omega)]; exact f8, by rw [hm4g _ _ (by omega), fr3 118 t (by omega) (by omega)]; exact f9⟩
      refine ⟨k + 1 + k', a2, S1, x5, m5, fun N hN => ?_, by omega, by omega, j4, RS_mono j5 (by omega) (by omega), fun k i hk => by rw [j6 k i hk, fx3 k i hk], fun k i hk => ?_, j8, j9, j10, j11, j12, fun kk N l6 hl6 => ?_⟩
      · obtain ⟨N, rfl⟩ : ∃ N', N = N' + 1 := ⟨N - 1, by omega⟩
        have h30 : ¬ x3 (58 + (dd + 1)) 3 = 0 := by
          rw [g1]
          exact nI_ne0 (by omega) (by omega)
        rw [xs, if_neg h30]
        exact j1 N (by omega)
      · rw [j7 k i hk, hm4g k i (by omega)]
        by_cases c6 : k = 116
        · subst c6
          exact fr116 i (by omega)
        · exact fr3 k i c6 (by omega)
      · rw [p1, zcall, show N + (k + 1 + k') = N + k' + k + 1 by omega, (k4 kk (N + k') l6 (by omega)).2 c, hfin, zc_id]
        have := j13 kk N (l6 + k + 1) (by
          clear o8 o9 u k4 j13
          omega)
        rw [show l6 + (k + 1 + k') = l6 + k + 1 + k' by omega]
        exact this
end SQ
section SR
variable {n : Nat → Nat} {T : Nat → Nat → Nat} {tb x m : ze_H} {G R a r p q e l t dd : Nat}
theorem st_115 {D f d : Nat} (IH : LX n T tb (f_xRL D) (dd + 1)) (pr : PR n T tb) (hr : r < 4) (hd : d ≤ 3) (hdd : dd ≤ 4 * r + d) (he : e ≤ dd) (hlt : l ≤ t) (ht : t ≤ dd) (ca : a < 100) (hG : G + 5 * (100 - a) < 2 ^ 28) (hR : R + 4 * (100 - a) ≤ 401) (h : RS n T tb G R a x m) (hE : EX e l x m) (e53 : m 75 53 = nI r) (e54 : m 75 54 = nI p) (e44 : m 75 44 = nI t) (hp : p < n r) (hc : T r p = 115) (hsp : sp (T r) r (sl (T r) r f) d p = .inr q) (hw : wst (T r) r tb 9 (sl (T r) r f) (wt (T r) r tb 9 f) d p q) :
    ∃ oc k a1 x1 m1, f_E_runStep (f_xRL D) (58 + e) (nI (41 * r + p)) (nI dd) x = some (0, x1) ∧ k ≤ 10 * (a1 - a) ∧ PO n T tb r q e l t dd G R a x m x1 m1 oc a1 ∧ SM a oc k m m1 := by
  have hz := (pr r hr).1
  have h40 := hz.1
  obtain ⟨w1, w2, w3, w4, w5, w6⟩ := hw
  obtain ⟨w7, w8⟩ := w5 hc
  obtain ⟨s1, s2, s3, e1, s4, s5⟩ := sp_115 hc hsp
  obtain ⟨v1, v2, v3, -⟩ := sn_inr s1
  have hte := sn_end hz s1
  have t0 : ne (T r) (p + 1) < n r := tz_lt hz (by omega)
  have u := sl_ok hz f (d + 1) _ _ (by omega) s4
  have t11 := w2 (by omega)
  have hx3 : ∀ k i, ¬ (k = 0 ∧ i = 12) → ze_u x 0 12 (nI (a + 1)) k i = x k i := fun k i hk => zu_n _ _ _ _ hk
  have hm3 : ∀ k i, ¬ (k = 75 ∧ (i = 56 ∨ i = 57)) → ze_u (ze_u m 75 57 (nI (a + 1))) 75 56 0 k i = m k i := fun k i hk => by rw [zu_n _ _ _ _ (by omega), zu_n _ _ _ _ (by omega)]
  have m57 : ze_u (ze_u m 75 57 (nI (a + 1))) 75 56 0 75 57 = nI (a + 1) := by rw [zu_n _ _ _ _ (by omega), zu_s]
  have m56 : ze_u (ze_u m 75 57 (nI (a + 1))) 75 56 0 75 56 = 0 := zu_s _ _ _ _
  have R3 : RS n T tb G R (a + 1) (ze_u x 0 12 (nI (a + 1))) (ze_u (ze_u m 75 57 (nI (a + 1))) 75 56 0) := RS_kp (RS_att h (a + 1)) (fun k i hk => rfl) (fun k i g1 g2 => zu_n _ _ _ _ (by omega))
  generalize hvd : nv (T r) (p + 1) = s at *
  have e54' : ze_u (ze_u m 75 57 (nI (a + 1))) 75 56 0 75 54 = nI p := by rw [hm3 _ _ (by omega)]; exact e54
  have e53' : ze_u (ze_u m 75 57 (nI (a + 1))) 75 56 0 75 53 = nI r := by rw [hm3 _ _ (by omega)]; exact e53
  -- the reference up to the first part
  have hact0 : f_M_act (nI (T r p)) (ze_u (ze_u m 75 57 (nI (a + 1))) 75 56 0) = ze_call (f_M_split (nI s) (ze_u (ze_u (ze_u m 75 57 (nI (a + 1))) 75 56 0) 75 55 (nI (ne (T r) (p + 1))))) (fun r61 v62 => some (0, v62)) := by
    unfold f_M_act
    rw [hc, if_neg (show ¬ nI 115 = 33 by decide), if_neg (show ¬ nI 115 = 38 by decide), if_neg (show ¬ nI 115 = 42 by decide), if_neg (show ¬ nI 115 = 43 by decide), if_neg (show ¬ nI 115 = 45 by decide), if_neg (show ¬ nI 115 = 62 by decide), if_neg (show ¬ nI 115 = 63 by decide), if_neg (show ¬ nI 115 = 97 by decide), if_neg (show ¬ nI 115 = 98 by decide), if_neg (show ¬ nI 115 = 102 by decide), if_neg (show ¬ nI 115 = 105 by decide), if_neg (show ¬ nI 115 = 107 by decide), if_neg (show ¬ nI 115 = 114 by decide), if_pos (show nI 115 = 115 by decide), e54', nI_1, me_value hr hz R3.2.1 e53' (by omega), zcall, hvd]
  have hmc : ∀ k i, ¬ (k = 75 ∧ (i = 55 ∨ i = 56 ∨ i = 57)) → ze_u (ze_u (ze_u m 75 57 (nI (a + 1))) 75 56 0) 75 55 (nI (ne (T r) (p + 1))) k i = m k i := fun k i hk => by rw [zu_n _ _ _ _ (by omega), hm3 k i (by omega)]
  have c55 : ze_u (ze_u (ze_u m 75 57 (nI (a + 1))) 75 56 0) 75 55 (nI (ne (T r) (p + 1))) 75 55 = nI (ne (T r) (p + 1)) := zu_s _ _ _ _
  have c56 : ze_u (ze_u (ze_u m 75 57 (nI (a + 1))) 75 56 0) 75 55 (nI (ne (T r) (p + 1))) 75 56 = 0 := by rw [zu_n _ _ _ _ (by omega)]; exact m56
  have c57 : ze_u (ze_u (ze_u m 75 57 (nI (a + 1))) 75 56 0) 75 55 (nI (ne (T r) (p + 1))) 75 57 = nI (a + 1) := by rw [zu_n _ _ _ _ (by omega)]; exact m57
  generalize ze_u (ze_u (ze_u m 75 57 (nI (a + 1))) 75 56 0) 75 55 (nI (ne (T r) (p + 1))) = mc at hmc c55 c56 c57 hact0
  have hmtc : r_mt n T mc := kp_mt h.2.1 (fun k i hk => hmc k i (by omega))
  have c53 : mc 75 53 = nI r := by rw [hmc _ _ (by omega)]; exact e53
  have c44 : mc 75 44 = nI t := by rw [hmc _ _ (by omega)]; exact e44
  have c40 : mc 75 40 = nI l := by rw [hmc _ _ (by omega)]; exact hE.2.2.2.2
  have hbeh : f_M_behind (nI (ne (T r) (p + 1))) mc = some (nI q, mc) := by
    rw [s5]
    exact me_behind hr hz hmtc c53 s2 s3 s4
  have hspl : f_M_split (nI s) mc = ze_call (f_M_part (ze_u (ze_u (ze_u (ze_u (ze_u (ze_u (ze_u (ze_u (ze_u mc 111 t 2) 112 t (nI r)) 113 t (nI q)) 75 44 (nI (t + 1))) 114 t (nI (ne (T r) (p + 1) + 1))) 115 t (nI s)) 116 t 0) 117 t 0) 118 t (mc 108 l))) (fun r10 v11 => some (0, v11)) := by
    unfold f_M_split
    rw [c55, hbeh, zcall, m_push (by omega) c44 c53, zcall]
    simp (disch := omega) only [zi_N, nI_clamp, zlvN, zu_n, zu_s, nI_pred, c55, c40, nI_1]
  have hmP : ∀ k i, ¬ (k = 75 ∧ (i = 44 ∨ i = 55 ∨ i = 56 ∨ i = 57)) → ¬ (111 ≤ k ∧ k ≤ 118 ∧ i = t) → ze_u (ze_u (ze_u (ze_u (ze_u (ze_u (ze_u (ze_u (ze_u mc 111 t 2) 112 t (nI r)) 113 t (nI q)) 75 44 (nI (t + 1))) 114 t (nI (ne (T r) (p + 1) + 1))) 115 t (nI s)) 116 t 0) 117 t 0) 118 t (mc 108 l) k i = m k i := fun k i h1 h2 => by
    simp (disch := omega) only [zu_n]
    exact hmc k i (by omega)
  have hFS : FS r q (ne (T r) (p + 1) + 1) s t (mc 108 l) 0 0 (ze_u (ze_u (ze_u (ze_u (ze_u (ze_u (ze_u (ze_u (ze_u mc 111 t 2) 112 t (nI r)) 113 t (nI q)) 75 44 (nI (t + 1))) 114 t (nI (ne (T r) (p + 1) + 1))) 115 t (nI s)) 116 t 0) 117 t 0) 118 t (mc 108 l)) := by
    refine ⟨?_, ?_, ?_, ?_, ?_, ?_, ?_, ?_, zu_s _ _ _ _⟩
    · simp (disch := omega) only [zu_n, zu_s]
    · simp (disch := omega) only [zu_n, zu_s]
    · simp (disch := omega) only [zu_n, zu_s]
    · simp (disch := omega) only [zu_n, zu_s]
    · simp (disch := omega) only [zu_n, zu_s]
    · simp (disch := omega) only [zu_n, zu_s]
    · simp (disch := omega) only [zu_n, zu_s]
      rfl
    · simp (disch := omega) only [zu_n, zu_s]
  have p57 : ze_u (ze_u (ze_u (ze_u (ze_u (ze_u (ze_u (ze_u (ze_u mc 111 t 2) 112 t (nI r)) 113 t (nI q)) 75 44 (nI (t + 1))) 114 t (nI (ne (T r) (p + 1) + 1))) 115 t (nI s)) 116 t 0) 117 t 0) 118 t (mc 108 l) 75 57 = nI (a + 1) := by
    simp (disch := omega) only [zu_n]
    exact c57
  have p56 : ze_u (ze_u (ze_u (ze_u (ze_u (ze_u (ze_u (ze_u (ze_u mc 111 t 2) 112 t (nI r)) 113 t (nI q)) 75 44 (nI (t + 1))) 114 t (nI (ne (T r) (p + 1) + 1))) 115 t (nI s)) 116 t 0) 117 t 0) 118 t (mc 108 l) 75 56 = 0 := by
    simp (disch := omega) only [zu_n]
    exact c56
  have mc8 : mc 108 l = x (58 + e) 0 := by rw [hmc _ _ (by omega)]; exact hE.1.symm
  generalize ze_u (ze_u (ze_u (ze_u (ze_u (ze_u (ze_u (ze_u (ze_u mc 111 t 2) 112 t (nI r)) 113 t (nI q)) 75 44 (nI (t + 1))) 114 t (nI (ne (T r) (p + 1) + 1))) 115 t (nI s)) 116 t 0) 117 t 0) 118 t (mc 108 l) = mP at hspl hmP hFS p57 p56
  rw [mc8] at hFS
  have RP' : RS n T tb G R (a + 1) (ze_u x 0 12 (nI (a + 1))) mP := RS_kp (RS_att h (a + 1)) (fun k i hk => rfl) (fun k i g1 g2 => by
    by_cases c : k = 75 ∧ i = 57
    · rw [c.1, c.2, p57, zu_s]
    · rw [zu_n _ _ _ _ c, hmP k i (by omega) (by omega)])
  have P40 : mP 75 40 = nI l := by rw [hmP _ _ (by omega) (by omega)]; exact hE.2.2.2.2
  -- the first part, to say where the reference is
  obtain ⟨z, z1, z2⟩ := fd_eq (x (58 + e) 0 + nI 0) v2 v3
  obtain ⟨m2, y1, y2⟩ := m_part_more (l := l) hFS (by omega) (by omega) v3 (by omega) P40 z2
  obtain ⟨k, a1, S1, x1, m1, j1, j2, j3, j4, j5, j6, j7, j8, j9, j10, j11, j12, j13⟩ := parts (kx := fun x18 v19 => ze_lev (ze_u v19 (58 + e) 0 x18) (fun v20 => some (0, v20))) (B := x (58 + e) 0) (K := x (58 + e) 1) (O := x (58 + e) 2) (q := q) IH pr hr s2 hdd he hlt ht v3 v2 hp (by omega) s4 w8 w7 s 0 G R (a + 1) 0 (ze_u x 0 12 (nI (a + 1))) mP (by omega) (by omega) (by omega) (by omega) RP' (hx3 _ _ (by omega)) (hx3 _ _ (by omega)) (by rw [hmP _ _ (by omega) (by omega)]; exact hE.1.symm) (by rw [hmP _ _ (by omega) (by omega)]; exact hE.2.1.symm) (by rw [hmP _ _ (by omega) (by omega)]; exact hE.2.2.1.symm) P40 hFS
  rw [hspl, y1, zcall, zcall] at hact0
  have hm2_56 : m2 75 56 = 0 := by
    rw [y2]
    simp (disch := omega) only [zu_n]
    exact p56
  have hatt : f_E_attempt (f_xRL D) (58 + e) (nI (41 * r + p)) (nI dd) (ze_u x 0 12 (nI (a + 1))) = some (0, ze_u x1 (58 + e) 0 S1) := by
    have j1' : f_E_runParts_L45 (f_xRL D) (58 + e) (nI (41 * r + p)) (nI (dd + 1)) (nI s) (58 + 1 * (dd + 1)) (fun x18 v19 => ze_lev (ze_u v19 (58 + e) 0 x18) (fun v20 => some (0, v20))) 200000 0 0 (ze_u x 0 12 (nI (a + 1))) = ze_lev (ze_u x1 (58 + e) 0 S1) (fun v20 => some (0, v20)) := by
      rw [Nat.one_mul]
      exact j1 200000 (by omega)
    unfold f_E_attempt
    rw [nI_clamp (show 41 * r + p < 2 ^ 31 by omega), zi_nI (by omega) (by omega), zlet, zi_nI (by omega) (by omega), R3.1 10 _ (by omega) (by omega), (pr r hr).2.2.2 p (by omega), hc, if_neg (show ¬ nI 115 = 33 by decide), if_neg (show ¬ nI 115 = 38 by decide), if_neg (show ¬ nI 115 = 42 by decide), if_neg (show ¬ nI 115 = 43 by decide), if_neg (show ¬ nI 115 = 45 by decide), if_neg (show ¬ nI 115 = 62 by decide), if_neg (show ¬ nI 115 = 63 by decide), if_neg (show ¬ nI 115 = 97 by decide), if_neg (show ¬ nI 115 = 98 by decide), if_neg (show ¬ nI 115 = 102 by decide), if_neg (show ¬ nI 115 = 105 by decide), if_neg (show ¬ nI 115 = 107 by decide), if_neg (show ¬ nI 115 = 113 by decide), if_neg (show ¬ nI 115 = 114 by decide), if_pos (show nI 115 = 115 by decide), nI_1]
    unfold f_E_runParts
    rw [nI_clamp (show 41 * r + p < 2 ^ 31 by omega), zi_nI (by omega) (by omega), zlet, R3.1 11 _ (by omega) (by omega), t11, if_neg (show ¬ (16 : Int32) ≤ nI (dd + 1) from nI_ge (b := 16) (by omega) (by omega)), if_pos (show (1 : Int32) ≤ nI s from nI_le (a := 1) v2 (by omega)), zi_nI (by omega) (by omega), zlet, zlet, nI_clamp (show dd + 1 < 2 ^ 31 by omega), j1', zlev, zcall]
  obtain ⟨p1, p2⟩ := st_pre pr hr hp h ca e53 e54 hatt hact0 hm2_56
  have hP : PO n T tb r q e l t dd G R (a + 1) x m (ze_u x1 (58 + e) 0 S1) m1 0 a1 := by
    refine ⟨j3, j4, by omega, RS_kp j5 (fun k i hk => zu_n _ _ _ _ (by omega)) (fun k i c1 c2 => rfl), fun k i hk => by rw [zu_n _ _ _ _ (by omega), j6 k i (by omega), hx3 k i (by omega)], fun k i hk => by rw [j7 k i (by omega), hmP k i (by omega) (by omega)], j9, fun _ => ⟨⟨?_, ?_, ?_, ?_, j9⟩, j10, j11, j12⟩, fun c => absurd rfl c⟩
    · rw [zu_s, j8]
    · rw [zu_n _ _ _ _ (by omega), j6 _ _ (by omega), hx3 _ _ (by omega), j7 109 l (by omega), hmP _ _ (by omega) (by omega)]
      exact hE.2.1
    · rw [zu_n _ _ _ _ (by omega), j6 _ _ (by omega), hx3 _ _ (by omega), j7 110 l (by omega), hmP _ _ (by omega) (by omega)]
      exact hE.2.2.1
    · rw [zu_n _ _ _ _ (by omega), j6 _ _ (by omega), hx3 _ _ (by omega)]
      exact hE.2.2.2.1
  have hS : ∀ (kk : Int32 → ze_H → Option (Int32 × ze_H)) (N l6 : Nat), l6 + 10 * (100 - (a + 1)) + 25 ≤ 100000 → f_M_run_L33 kk (N + k) 0 (nI l6) m2 = f_M_run_L33 kk N 0 (nI (l6 + k)) m1 := fun kk N l6 hl6 => by
    have := j13 kk N l6 (by omega)
    rw [y1, zcall] at this
    exact this
  obtain ⟨f1, f2, f3⟩ := st_run pr hr hp (by omega) h ca e53 e54 p2 (show k ≤ 10 * (a1 - (a + 1)) + 9 by omega) hP (fun kk N l6 hl6 => ⟨fun _ => hS kk N l6 hl6, fun c => absurd rfl c⟩)
  exact ⟨0, k + 1, a1, _, m1, p1, f1, f2, f3⟩
end SR
