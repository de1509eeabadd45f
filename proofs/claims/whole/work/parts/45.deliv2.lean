/-! PURE: deliveries as steps -/
section DM
variable {n : Nat → Nat} {T : Nat → Nat → Nat} {tb x m : ze_H} {G R a r p q e l : Nat}
/-- a delivery's answer as a step's -/
theorem lf_dl {t : Nat} {x1 m0 m1 m2 : ze_H} {tx tm : Option (Int32 × ze_H)} (A : AT n T tb r p e l x m) (hm0 : ∀ k i, ¬ (k = 75 ∧ i = 55) → m0 k i = m k i) (hE : EX e l x m0) (h : RS n T tb G R a x1 m1) (D : DF x x1 m0 m1) (ht : t ≤ 7) (etx : tx = some (nI t, x1)) (etm : tm = some (nI t, m2)) (hm2 : ∀ k i, ¬ (k = 75 ∧ i = 54) → m2 k i = m1 k i) (h0 : t = 0 → m2 75 54 = nI q) (h1 : ¬ t = 0 → m2 75 54 = nI p) : LF n T tb G R a r p q e l x m tx tm := by
  obtain ⟨hr, he, hl, hz, hp, h10, -, h53, h54, h56⟩ := A
  have hE1 : EX e l x1 m2 := by
    obtain ⟨b0, b1, b2, b3, b4⟩ := DF_EX D he hE
    exact ⟨by rw [hm2 _ _ (by omega)]; exact b0, by rw [hm2 _ _ (by omega)]; exact b1, by rw [hm2 _ _ (by omega)]; exact b2, b3, by rw [hm2 _ _ (by omega)]; exact b4⟩
  refine ⟨t, 0, x1, m2, etx, etm, ht, by omega, RS_kp h (fun k i hk => rfl) (fun k i g1 g2 => hm2 k i (by omega)), fun k i hk => D.1 k i (by omega), fun k i hk => by rw [hm2 k i (by omega), D.2 k i (by omega), hm0 k i (by omega)], fun c => ⟨?_, fun _ => ⟨hE1, h0 c⟩⟩, fun c => ⟨rfl, hE1, h1 c⟩, fun c => absurd rfl c⟩
  rw [hm2 75 56 (by omega), D.2 75 56 (by omega), hm0 75 56 (by omega), h56]
  rfl
theorem lf_33 (h : RS n T tb G R a x m) (hG : G < 2 ^ 28) (A : AT n T tb r p e l x m) (hc : T r p = 33) (hq : q = ne (T r) (p + 1)) (hsn : sn (T r) 0 3 (p + 1) = .inr q) (ht : tb 11 (41 * r + p) = nI (nv (T r) (p + 1))) (RC : Nat → Int32 → Int32 → ze_H → Option (Int32 × ze_H)) (b3 : Int32) : LF n T tb (G + 4) R a r p q e l x m (f_E_attempt RC (58 + e) (nI (41 * r + p)) b3 x) (f_M_act (nI 33) m) := by
  have h10 := xa_at h A
  have A0 := A
  obtain ⟨hr, he, hl, hz, hp, -, hE, h53, h54, h56⟩ := A0
  have h40 := hz.1
  have hv := (sn_inr hsn).2.2.1
  rw [hc] at h10
  unfold f_E_attempt f_M_act
  rw [nI_clamp (by omega), zi_nI (by omega) (by omega), zlet, zi_nI (by omega) (by omega), h10, if_pos (show nI 33 = 33 by decide), if_pos (show nI 33 = 33 by decide), h.1 11 _ (by omega) (by omega), ht, h54, nI_1, me_value hr hz h.2.1 h53 (by omega), zcall]
  generalize hvd : nv (T r) (p + 1) = v at hv ⊢
  have hm0 : ∀ k i, ¬ (k = 75 ∧ i = 55) → ze_u m 75 55 (nI (ne (T r) (p + 1))) k i = m k i := fun k i hk => zu_n _ _ _ _ hk
  have h55 : ze_u m 75 55 (nI (ne (T r) (p + 1))) 75 55 = nI q := by rw [zu_s, hq]
  have hR : RS n T tb G R a x (ze_u m 75 55 (nI (ne (T r) (p + 1)))) := RS_kp h (fun k i hk => rfl) (fun k i g1 g2 => hm0 k i (by omega))
  generalize ze_u m 75 55 (nI (ne (T r) (p + 1))) = m0 at hm0 h55 hR ⊢
  have hE0 : EX e l x m0 := ⟨by rw [hm0 _ _ (by omega)]; exact hE.1, by rw [hm0 _ _ (by omega)]; exact hE.2.1, by rw [hm0 _ _ (by omega)]; exact hE.2.2.1, hE.2.2.2.1, by rw [hm0 _ _ (by omega)]; exact hE.2.2.2.2⟩
  unfold f_E_deliver f_M_one
  rw [zlet, zlet, h55, show (0 : Int32) = nI 0 from rfl]
  rcases sim_to hR (by omega) (show v < 4 by omega) he hl hE0 with ⟨g1, x1, m1, g2, g3, g4, g5⟩ | ⟨g1, t, m1, g2, g3, g4, g5, g6, g7⟩
  · have k1 := ((dx_one (x := x) (e := e) (v := v) (by omega) 4 0 (by omega)).1 (by omega)).1 g1 x1 g2 200000 (by omega)
    have k1' : f_E_deliver_L2 (58 + e) (1 <<< (nI v &&& 31)) (fun v11 => some (nI 0, v11)) 200000 (nI 0) x = some (nI 0, x1) := k1
    rw [k1', zcall, g3, zcall, zlet, if_pos (show (0 : Int32) = nI 0 from rfl), zlev, zcall]
    exact lf_dl A hm0 hE0 (RS_mono g4 (by omega) (Nat.le_refl _)) g5 (t := 0) (by omega) rfl rfl (fun k i hk => zu_n _ _ _ _ hk) (fun _ => zu_s _ _ _ _) (fun c => absurd rfl c)
  · have k1 := ((dx_one (x := x) (e := e) (v := v) (by omega) 4 0 (by omega)).1 (by omega)).2 g1 t g4 200000 (by omega)
    have k1' : f_E_deliver_L2 (58 + e) (1 <<< (nI v &&& 31)) (fun v11 => some (nI 0, v11)) 200000 (nI 0) x = some (nI t, ze_u x (24 + 3 * v) 3 (x (24 + 3 * v) 3 - 1)) := k1
    rw [k1', zcall, g5, zcall, zlet, if_neg (show ¬ nI t = nI 0 from nI_ne0 g2 (by omega)), zlev, zcall]
    exact lf_dl A hm0 hE0 (RS_mono g6 (by omega) (Nat.le_refl _)) g7 (t := t) g3 rfl rfl (fun k i hk => zu_n _ _ _ _ hk) (fun c => by omega) (fun _ => by rw [zu_s, g7.2 75 54 (by omega), hm0 75 54 (by omega)]; exact h54)
theorem lf_114 (h : RS n T tb G R a x m) (hG : G < 2 ^ 28) (A : AT n T tb r p e l x m) (hc : T r p = 114) (hq : q = p + 1) (RC : Nat → Int32 → Int32 → ze_H → Option (Int32 × ze_H)) (b3 : Int32) : LF n T tb (G + 4) R a r p q e l x m (f_E_attempt RC (58 + e) (nI (41 * r + p)) b3 x) (f_M_act (nI 114) m) := by
  have h10 := xa_at h A
  have A0 := A
  obtain ⟨hr, he, hl, hz, hp, -, hE, h53, h54, h56⟩ := A0
  have h40 := hz.1
  rw [hc] at h10
  unfold f_E_attempt f_M_act
  rw [nI_clamp (by omega), zi_nI (by omega) (by omega), zlet, zi_nI (by omega) (by omega), h10, if_neg (show ¬ nI 114 = 33 by decide), if_neg (show ¬ nI 114 = 38 by decide), if_neg (show ¬ nI 114 = 42 by decide), if_neg (show ¬ nI 114 = 43 by decide), if_neg (show ¬ nI 114 = 45 by decide), if_neg (show ¬ nI 114 = 62 by decide), if_neg (show ¬ nI 114 = 63 by decide), if_neg (show ¬ nI 114 = 97 by decide), if_neg (show ¬ nI 114 = 98 by decide), if_neg (show ¬ nI 114 = 102 by decide), if_neg (show ¬ nI 114 = 105 by decide), if_neg (show ¬ nI 114 = 107 by decide), if_neg (show ¬ nI 114 = 113 by decide), if_pos (show nI 114 = 114 by decide), if_neg (show ¬ nI 114 = 33 by decide), if_neg (show ¬ nI 114 = 38 by decide), if_neg (show ¬ nI 114 = 42 by decide), if_neg (show ¬ nI 114 = 43 by decide), if_neg (show ¬ nI 114 = 45 by decide), if_neg (show ¬ nI 114 = 62 by decide), if_neg (show ¬ nI 114 = 63 by decide), if_neg (show ¬ nI 114 = 97 by decide), if_neg (show ¬ nI 114 = 98 by decide), if_neg (show ¬ nI 114 = 102 by decide), if_neg (show ¬ nI 114 = 105 by decide), if_neg (show ¬ nI 114 = 107 by decide), if_pos (show nI 114 = 114 by decide)]
  unfold f_E_deliver f_M_several
  rw [zlet, zlet, show (0 : Int32) = nI 0 from rfl, hE.2.1]
  obtain ⟨t, x1, m1, k1, k2, k3, k4, k5⟩ := sim_dl (n := n) (T := T) (tb := tb) (R := R) (a := a) (e := e) (l := l) (b2 := m 109 l &&& 15) he hl 4 0 G x m (by omega) (by omega) h hE (fun i hi => bit_K (m 109 l) hi)
  have k4' : f_E_deliver_L2 (58 + e) (m 109 l &&& 15) (fun v11 => some (nI 0, v11)) 200000 (nI 0) x = some (nI t, x1) := k4 200000 (by omega)
  rw [k4', zcall, k5 _ 200000 (by omega)]
  by_cases c : t = 0
  · subst c
    rw [if_pos rfl, zlev, zcall, k3.2 75 54 (by omega), h54, nI_1]
    exact lf_dl A (fun k i hk => rfl) hE k2 k3 (t := 0) (by omega) rfl rfl (fun k i hk => zu_n _ _ _ _ hk) (fun _ => by rw [zu_s, hq]) (fun c => absurd rfl c)
  · rw [if_neg c, zcall]
    exact lf_dl A (fun k i hk => rfl) hE k2 k3 (t := t) k1 rfl rfl (fun k i hk => rfl) (fun q => absurd q c) (fun _ => by rw [k3.2 75 54 (by omega)]; exact h54)
end DM
