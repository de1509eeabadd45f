/-! PURE: the law's loop -/
theorem law_loop (xs : Nat → Int32) (Ln : Nat) (hLn : Ln ≤ 3072) : ∀ (d i N : Nat) (v : ze_H), i + d = 513 → d < N → H2 i v v → ∃ v1, f_W_law_L18 xs Ln (fun v => some (1, v)) N (nI (6 * i)) v = some (1, v1)
  | d, i, 0, v, hd, hN, h => by omega
  | d, i, N + 1, v, hd, hN, h => by
    rw [f_W_law_L18]
    by_cases c : 6 * i + 6 ≤ Ln
    · have hi : i ≤ 511 := by omega
      have hc : ¬ (Int32.ofNat Ln - 6) < nI (6 * i) := by
        rw [show Int32.ofNat Ln - 6 = nI (Ln - 6) from pk_sub (a := Ln) (b := 6) (by omega)]
        exact nI_nlt (by omega) (by omega)
      obtain ⟨d, rfl⟩ : ∃ d', d = d' + 1 := ⟨d - 1, by omega⟩
      have next : ∀ w, H2 (i + 1) w w → ∃ v1, f_W_law_L18 xs Ln (fun v => some (1, v)) N (nI (6 * i + 6)) w = some (1, v1) := fun w hw => law_loop xs Ln hLn d (i + 1) N w (by omega) (by omega) hw
      have e1 : nI (6 * i) + 1 = nI (6 * i + 1) := nI_1 _
      have e2 : nI (6 * i) + 2 = nI (6 * i + 2) := nI_add _ 2
      have e3 : nI (6 * i) + 3 = nI (6 * i + 3) := nI_add _ 3
      have e4 : nI (6 * i) + 4 = nI (6 * i + 4) := nI_add _ 4
      have e5 : nI (6 * i) + 5 = nI (6 * i + 5) := nI_add _ 5
      have e6 : nI (6 * i) + 6 = nI (6 * i + 6) := nI_add _ 6
      have z0 : ∀ t, ze_in (nI (6 * i)) Ln t = t := fun t => zi_nI (by omega) (by omega) t
      have z1 : ∀ t, ze_in (nI (6 * i + 1)) Ln t = t := fun t => zi_nI (by omega) (by omega) t
      have z2 : ∀ t, ze_in (nI (6 * i + 2)) Ln t = t := fun t => zi_nI (by omega) (by omega) t
      have z3 : ∀ t, ze_in (nI (6 * i + 3)) Ln t = t := fun t => zi_nI (by omega) (by omega) t
      have z4 : ∀ t, ze_in (nI (6 * i + 4)) Ln t = t := fun t => zi_nI (by omega) (by omega) t
      have z5 : ∀ t, ze_in (nI (6 * i + 5)) Ln t = t := fun t => zi_nI (by omega) (by omega) t
      rw [if_neg hc]
      simp only [e1, e2, e3, e4, e5, e6, z0, z1, z2, z3, z4, z5, zleN]
      generalize xs (Int32.toNatClampNeg (nI (6 * i))) &&& 15 = op
      generalize xs (Int32.toNatClampNeg (nI (6 * i + 1))) = y1
      generalize xs (Int32.toNatClampNeg (nI (6 * i + 2))) = y2
      generalize xs (Int32.toNatClampNeg (nI (6 * i + 3))) = y3
      generalize xs (Int32.toNatClampNeg (nI (6 * i + 4))) = y4
      generalize xs (Int32.toNatClampNeg (nI (6 * i + 5))) = y5
      by_cases o0 : op = 0
      · rw [if_pos o0]
        rw [pk_char]
        obtain ⟨res, x1, w, a1, a2, a3⟩ := call (cs_put y1 (c := y2.toBitVec.toNat % 65536) (Nat.mod_lt _ (by omega))) h
        rw [a1, zcall, a2, zcall, if_pos rfl]
        exact next w a3
      rw [if_neg o0]
      by_cases o1 : op = 1
      · rw [if_pos o1]
        obtain ⟨res, x1, w, a1, a2, a3⟩ := call (cs_clear y1) h
        rw [a1, zcall, a2, zcall, if_pos rfl]
        exact next w a3
      rw [if_neg o1]
      by_cases o2 : op = 2
      · rw [if_pos o2]
        obtain ⟨res, x1, w, a1, a2, a3⟩ := call (cs_read) h
        rw [a1, zcall, a2, zcall, if_pos rfl]
        exact next w a3
      rw [if_neg o2]
      by_cases o3 : op = 3
      · rw [if_pos o3]
        by_cases q4 : y4 = 0
        · by_cases q5 : y5 = 0
          · obtain ⟨res, x1, w, a1, a2, a3⟩ := call (cs_clause y1 y2 y3 (h := 0) (o := 0) (by omega) (by omega)) h
            have a1' : f_E_clause y1 y2 y3 0 0 v = some (res, x1) := a1
            have a2' : f_M_clause y1 y2 y3 0 0 x1 = some (res, w) := a2
            rw [if_pos q4, if_pos q5, a1', zcall, if_pos q4, if_pos q5, a2', zcall, if_pos rfl]
            exact next w a3
          · obtain ⟨res, x1, w, a1, a2, a3⟩ := call (cs_clause y1 y2 y3 (h := 0) (o := 1) (by omega) (by omega)) h
            have a1' : f_E_clause y1 y2 y3 0 1 v = some (res, x1) := a1
            have a2' : f_M_clause y1 y2 y3 0 1 x1 = some (res, w) := a2
            rw [if_pos q4, if_neg q5, a1', zcall, if_pos q4, if_neg q5, a2', zcall, if_pos rfl]
            exact next w a3
        · by_cases q5 : y5 = 0
          · obtain ⟨res, x1, w, a1, a2, a3⟩ := call (cs_clause y1 y2 y3 (h := 1) (o := 0) (by omega) (by omega)) h
            have a1' : f_E_clause y1 y2 y3 1 0 v = some (res, x1) := a1
            have a2' : f_M_clause y1 y2 y3 1 0 x1 = some (res, w) := a2
            rw [if_neg q4, if_pos q5, a1', zcall, if_neg q4, if_pos q5, a2', zcall, if_pos rfl]
            exact next w a3
          · obtain ⟨res, x1, w, a1, a2, a3⟩ := call (cs_clause y1 y2 y3 (h := 1) (o := 1) (by omega) (by omega)) h
            have a1' : f_E_clause y1 y2 y3 1 1 v = some (res, x1) := a1
            have a2' : f_M_clause y1 y2 y3 1 1 x1 = some (res, w) := a2
            rw [if_neg q4, if_neg q5, a1', zcall, if_neg q4, if_neg q5, a2', zcall, if_pos rfl]
            exact next w a3
      rw [if_neg o3]
      by_cases o4 : op = 4
      · rw [if_pos o4]
        obtain ⟨res, x1, w, a1, a2, a3⟩ := call (cs_forget) h
        rw [a1, zcall, a2, zcall]
        exact next w a3
      rw [if_neg o4]
      by_cases o5 : op = 5
      · rw [if_pos o5]
        obtain ⟨res, x1, w, a1, a2, a3⟩ := call (cs_fail y1 y2 y3) h
        rw [a1, zcall, a2, zcall, if_pos rfl]
        exact next w a3
      rw [if_neg o5]
      by_cases o6 : op = 6
      · rw [if_pos o6]
        obtain ⟨res, x1, w, a1, a2, a3⟩ := call (cs_send (by omega) y1 y2 y3) h
        rw [a1, zcall, a2, zcall, if_pos rfl]
        exact next w a3
      rw [if_neg o6]
      by_cases o7 : op = 7
      · rw [if_pos o7]
        obtain ⟨res, x1, w, a1, a2, a3⟩ := call (cs_work (by omega)) h
        rw [a1, zcall, a2, zcall, if_pos rfl]
        exact next w a3
      rw [if_neg o7]
      by_cases o8 : op = 8
      · rw [if_pos o8]
        obtain ⟨res, x1, w, a1, a2, a3⟩ := call (cs_pass (by omega) y1) h
        rw [a1, zcall, a2, zcall, if_pos rfl]
        exact next w a3
      rw [if_neg o8]
      by_cases o9 : op = 9
      · rw [if_pos o9]
        obtain ⟨res, x1, w, a1, a2, a3⟩ := call (cs_delivered y1) h
        rw [a1, zcall, a2, zcall, if_pos rfl]
        exact next w a3
      rw [if_neg o9]
      by_cases o10 : op = 10
      · rw [if_pos o10]
        obtain ⟨res, x1, w, a1, a2, a3⟩ := call (cs_body (by omega) y1 y2) h
        rw [a1, zcall, a2, zcall, if_pos rfl]
        exact next w a3
      rw [if_neg o10]
      by_cases o11 : op = 11
      · rw [if_pos o11]
        obtain ⟨res, x1, w, a1, a2, a3⟩ := call (cs_key (by omega) y1 y2) h
        rw [a1, zcall, a2, zcall, if_pos rfl]
        exact next w a3
      rw [if_neg o11]
      by_cases o12 : op = 12
      · rw [if_pos o12]
        obtain ⟨res, x1, w, a1, a2, a3⟩ := call (cs_group y1 y2) h
        rw [a1, zcall, a2, zcall, if_pos rfl]
        exact next w a3
      rw [if_neg o12]
      by_cases o13 : op = 13
      · rw [if_pos o13]
        obtain ⟨res, x1, w, a1, a2, a3⟩ := call (cs_count y1) h
        rw [a1, zcall, a2, zcall, if_pos rfl]
        exact next w a3
      rw [if_neg o13]
      exact next v (H2_mono h)
    · have hc : (Int32.ofNat Ln - 6) < nI (6 * i) := by
        by_cases c6 : 6 ≤ Ln
        · rw [show Int32.ofNat Ln - 6 = nI (Ln - 6) from pk_sub (a := Ln) (b := 6) c6]
          exact nI_lt (by omega) (by omega)
        · have h1 : nI Ln - nI 6 < 0 := pk_sneg (by omega) (by omega)
          have h2 : (0 : Int32) ≤ nI (6 * i) := nI_pos' (by omega)
          exact Int32.lt_of_lt_of_le h1 h2
      rw [if_pos hc]
      exact ⟨v, rfl⟩
/-- the law answers 1 on every script -/
theorem law_pure (xs : Nat → Int32) (Ln : Nat) (hLn : Ln ≤ 3072) : ∃ v1, f_W_law_L18 xs Ln (fun v => some (1, v)) 100000 0 ze_v0 = some (1, v1) := law_loop xs Ln hLn 513 0 100000 ze_v0 (by omega) (by omega) H2_0
