def f_R_readInner_J21 (RC : Int32 → ze_H → Option (Int32 × ze_H)) (b1 : Int32) (v : ze_H) : Option (Int32 × ze_H) :=
  ze_call (f_R_readOneOf  2 v) (fun r1 v2 => ze_let (v2 16 2) (fun x3 => ze_call (RC  (b1 + 1) v2) (fun r4 v5 => some (x3, v5))))
def f_R_readInner (RC : Int32 → ze_H → Option (Int32 × ze_H)) (a1 : Int32) (v : ze_H) : Option (Int32 × ze_H) :=
  (if a1 < 3 then (f_R_readInner_J21 RC a1 v) else (if (v 16 3) = (-1) then ze_lev (ze_u v 16 3 (v 16 2)) (fun v6 => (f_R_readInner_J21 RC a1 v6)) else (f_R_readInner_J21 RC a1 v)))
set_option maxHeartbeats 4000000 in
set_option maxRecDepth 100000 in
theorem w_R_readInner_J21 {G : ze_G} {fr1 lo1 : Nat} (X : ze_X G bc_R_readInner cn_R 3 (fr1 + 1) (lo1 + 60)) (Y : ze_Ri G .int) (hfr : 12 ≤ fr1) (hlo : 300 ≤ lo1) (RC : Int32 → ze_H → Option (Int32 × ze_H)) (hRC : ∀ (a : Int32), ∀ (v : ze_H) (r : Int32) (v1 : ze_H), RC a v = some (r, v1) → ze_Mv (ze_l G) (ze_D G) (ze_ad G) (ze_ca G) my_R_readList bc_R_readList 4 fr1 lo1 [.inr 16, .inl a] v v1) (b1 : Int32)  (v : ze_H) : ze_T G (f_R_readInner_J21 RC b1 v) v 21 [some (.inr 16), some (.inl b1), none] [] := by
  refine ze_aload_n X dc_R_readInner_21 rfl rfl ?_
  refine ze_ldcs (i := 2) X dc_R_readInner_22 (q := (cn_R, 80, "(", 2)) zt_R_80 ⟨rfl, rfl, rfl⟩ ?_
  refine ze_callVv (As := [.inr (1000 + 2)]) (st := []) X dc_R_readInner_24 zc_R_74 sh_16 (fun zr zv zh => c_R_readOneOf X.2.2.2.2.2.2.1  2 (by decide) v zh) rfl (by omega) (by omega) (Nat.le_of_ble_eq_true rfl) (fun r1 v2 => ?_)
  refine ze_aload_n X dc_R_readInner_27 rfl rfl ?_
  refine ze_geti X dc_R_readInner_28 zf_R_22 sh_16 rfl ?_
  refine ze_istore_n X dc_R_readInner_31 rfl (by decide) (fun x3 => ?_)
  refine ze_aload_n X dc_R_readInner_32 rfl rfl ?_
  refine ze_iload_n X dc_R_readInner_33 rfl rfl ?_
  refine ze_iconst (x := 1) X dc_R_readInner_34 (by decide) ?_
  refine ze_iadd X dc_R_readInner_35 ?_
  refine ze_callVv (As := [.inl (b1 + 1)]) (st := []) X dc_R_readInner_36 zc_R_25 sh_16 (fun zr zv zh => hRC (b1 + 1)  v2 zr zv zh) rfl (by omega) (by omega) (Nat.le_of_ble_eq_true rfl) (fun r4 v5 => ?_)
  refine ze_iload_n X dc_R_readInner_39 rfl rfl ?_
  exact ze_iret X Y (vp_nar_int _) dc_R_readInner_40
set_option maxHeartbeats 4000000 in
set_option maxRecDepth 100000 in
theorem w_R_readInner {G : ze_G} {fr1 lo1 : Nat} (X : ze_X G bc_R_readInner cn_R 3 (fr1 + 1) (lo1 + 60)) (Y : ze_Ri G .int) (hfr : 12 ≤ fr1) (hlo : 300 ≤ lo1) (RC : Int32 → ze_H → Option (Int32 × ze_H)) (hRC : ∀ (a : Int32), ∀ (v : ze_H) (r : Int32) (v1 : ze_H), RC a v = some (r, v1) → ze_Mv (ze_l G) (ze_D G) (ze_ad G) (ze_ca G) my_R_readList bc_R_readList 4 fr1 lo1 [.inr 16, .inl a] v v1) (a1 : Int32)  (v : ze_H) : ze_T G (f_R_readInner RC a1 v) v 0 [some (.inr 16), some (.inl a1), none] [] := by
  refine ze_iload_n X dc_R_readInner_0 rfl rfl ?_
  refine ze_iconst (x := 3) X dc_R_readInner_1 (by decide) ?_
  refine ze_icmp_lt (tgt := 21) X dc_R_readInner_2 (by decide) (fun _ => ?_) (fun _ => ?_)
  · refine ze_weak [true, true, false] ?_
    exact w_R_readInner_J21 X Y hfr hlo RC hRC a1  v
  · refine ze_aload_n X dc_R_readInner_5 rfl rfl ?_
    refine ze_geti X dc_R_readInner_6 zf_R_15 sh_16 rfl ?_
    refine ze_iconst (x := (-1)) X dc_R_readInner_9 (by decide) ?_
    refine ze_icmp_ne (tgt := 21) X dc_R_readInner_10 (by decide) (fun _ => ?_) (fun _ => ?_)
    · refine ze_aload_n X dc_R_readInner_13 rfl rfl ?_
      refine ze_aload_n X dc_R_readInner_14 rfl rfl ?_
      refine ze_geti X dc_R_readInner_15 zf_R_22 sh_16 rfl ?_
      refine ze_puti X dc_R_readInner_18 zp_R_15 sh_16 rfl (fun v6 => ?_)
      refine ze_weak [true, true, false] ?_
      exact w_R_readInner_J21 X Y hfr hlo RC hRC a1  v6
    · refine ze_weak [true, true, false] ?_
      exact w_R_readInner_J21 X Y hfr hlo RC hRC a1  v
set_option maxHeartbeats 4000000 in
set_option maxRecDepth 100000 in
theorem c_R_readInner {l : Launch} {D : va_G} {ad : Nat → Nat} {ca : Nat → ClassId} (hD : va_D (ze_A ad) (ze_ws ze_sh ad ca (fun _ _ => 0))) {fr1 lo1 : Nat} (hfr : 12 ≤ fr1) (hlo : 300 ≤ lo1) (RC : Int32 → ze_H → Option (Int32 × ze_H)) (hRC : ∀ (a : Int32), ∀ (v : ze_H) (r : Int32) (v1 : ze_H), RC a v = some (r, v1) → ze_Mv l D ad ca my_R_readList bc_R_readList 4 fr1 lo1 [.inr 16, .inl a] v v1) (a1 : Int32)  (v : ze_H) {r : Int32} {v1 : ze_H} (h : f_R_readInner RC a1 v = some (r, v1)) : ze_Mi l D ad ca my_R_readInner bc_R_readInner 3 .int (fr1 + 1) (lo1 + 60) [.inr 16, .inl a1] v r v1 := ze_Mi_of (plainFor_of_name (by decide)) hD (Nat.le_of_ble_eq_true rfl) (fun G e1 e2 e3 e4 X Y => by subst e1 e2 e3 e4; exact w_R_readInner X Y hfr hlo RC hRC a1  v) h
def f_R_readChoice (RC : Int32 → ze_H → Option (Int32 × ze_H)) (a1 : Int32) (a2 : Int32) (v : ze_H) : Option (Int32 × ze_H) :=
  ze_call (f_R_readTest  a1 v) (fun r1 v2 => ze_call (f_R_readInner RC a2 v2) (fun r3 v4 => ze_in a1 164 (ze_lev (ze_u v4 6 (Int32.toNatClampNeg a1) r3) (fun v5 => ze_in a1 164 (ze_lev (ze_u v5 7 (Int32.toNatClampNeg a1) (-1)) (fun v6 => (if (v6 16 3) = (-1) then ze_call (f_P_at  2 (v6 16 2) v6) (fun r7 v8 => (if r7 = 58 then ze_lev (ze_u v8 16 2 ((v8 16 2) + 1)) (fun v9 => ze_call (f_R_readInner RC a2 v9) (fun r10 v11 => ze_in a1 164 (ze_lev (ze_u v11 7 (Int32.toNatClampNeg a1) r10) (fun v12 => some (0, v12))))) else some (0, v8))) else some (0, v6))))))))
set_option maxHeartbeats 4000000 in
set_option maxRecDepth 100000 in
theorem w_R_readChoice {G : ze_G} {fr1 lo1 : Nat} (X : ze_X G bc_R_readChoice cn_R 3 (fr1 + 2) (lo1 + 120)) (Y : ze_Rv G) (hfr : 12 ≤ fr1) (hlo : 300 ≤ lo1) (RC : Int32 → ze_H → Option (Int32 × ze_H)) (hRC : ∀ (a : Int32), ∀ (v : ze_H) (r : Int32) (v1 : ze_H), RC a v = some (r, v1) → ze_Mv (ze_l G) (ze_D G) (ze_ad G) (ze_ca G) my_R_readList bc_R_readList 4 fr1 lo1 [.inr 16, .inl a] v v1) (a1 : Int32) (a2 : Int32)  (v : ze_H) : ze_T G (f_R_readChoice RC a1 a2 v) v 0 [some (.inr 16), some (.inl a1), some (.inl a2)] [] := by
  refine ze_aload_n X dc_R_readChoice_0 rfl rfl ?_
  refine ze_iload_n X dc_R_readChoice_1 rfl rfl ?_
  refine ze_callVv (As := [.inl a1]) (st := []) X dc_R_readChoice_2 zc_R_47 sh_16 (fun zr zv zh => c_R_readTest X.2.2.2.2.2.2.1  a1  v zh) rfl (by omega) (by omega) (Nat.le_of_ble_eq_true rfl) (fun r1 v2 => ?_)
  refine ze_aload_n X dc_R_readChoice_5 rfl rfl ?_
  refine ze_getr X dc_R_readChoice_6 zf_R_9 sh_16 rfl ?_
  refine ze_getr X dc_R_readChoice_9 zf_R_82 is_Program_2.1 rfl ?_
  refine ze_iload_n X dc_R_readChoice_12 rfl rfl ?_
  refine ze_aload_n X dc_R_readChoice_13 rfl rfl ?_
  refine ze_iload_n X dc_R_readChoice_14 rfl rfl ?_
  refine ze_callVi (As := [.inl a2]) (st := [.inl a1, .inr 6]) X dc_R_readChoice_15 zc_R_85 sh_16 (fun zr zv zh => c_R_readInner X.2.2.2.2.2.2.1 hfr hlo RC hRC a2  v2 zh) rfl (by omega) (by omega) (Nat.le_of_ble_eq_true rfl) (fun r3 v4 => ?_)
  refine ze_iast X dc_R_readChoice_18 sh_6 rfl (fun v5 _ => ?_)
  refine ze_aload_n X dc_R_readChoice_19 rfl rfl ?_
  refine ze_getr X dc_R_readChoice_20 zf_R_9 sh_16 rfl ?_
  refine ze_getr X dc_R_readChoice_23 zf_R_88 is_Program_2.1 rfl ?_
  refine ze_iload_n X dc_R_readChoice_26 rfl rfl ?_
  refine ze_iconst (x := (-1)) X dc_R_readChoice_27 (by decide) ?_
  refine ze_iast X dc_R_readChoice_28 sh_7 rfl (fun v6 _ => ?_)
  refine ze_aload_n X dc_R_readChoice_29 rfl rfl ?_
  refine ze_geti X dc_R_readChoice_30 zf_R_15 sh_16 rfl ?_
  refine ze_iconst (x := (-1)) X dc_R_readChoice_33 (by decide) ?_
  refine ze_icmp_ne (tgt := 77) X dc_R_readChoice_34 (by decide) (fun _ => ?_) (fun _ => ?_)
  · refine ze_aload_n X dc_R_readChoice_37 rfl rfl ?_
    refine ze_getr X dc_R_readChoice_38 zf_R_9 sh_16 rfl ?_
    refine ze_aload_n X dc_R_readChoice_41 rfl rfl ?_
    refine ze_geti X dc_R_readChoice_42 zf_R_22 sh_16 rfl ?_
    refine ze_callVi (As := [.inl (v6 16 2)]) (st := []) X dc_R_readChoice_45 zc_R_29 is_Program_2.1 (fun zr zv zh => c_P_at X.2.2.2.2.2.2.1  2 (v6 16 2) is_Program_2 v6 zh) rfl (by omega) (by omega) (Nat.le_of_ble_eq_true rfl) (fun r7 v8 => ?_)
    refine ze_bipush (x := 58) X dc_R_readChoice_48 (by decide) ?_
    refine ze_icmp_ne (tgt := 77) X dc_R_readChoice_50 (by decide) (fun _ => ?_) (fun _ => ?_)
    · refine ze_aload_n X dc_R_readChoice_53 rfl rfl ?_
      refine ze_dup X dc_R_readChoice_54 ?_
      refine ze_geti X dc_R_readChoice_55 zf_R_22 sh_16 rfl ?_
      refine ze_iconst (x := 1) X dc_R_readChoice_58 (by decide) ?_
      refine ze_iadd X dc_R_readChoice_59 ?_
      refine ze_puti X dc_R_readChoice_60 zp_R_22 sh_16 rfl (fun v9 => ?_)
      refine ze_aload_n X dc_R_readChoice_63 rfl rfl ?_
      refine ze_getr X dc_R_readChoice_64 zf_R_9 sh_16 rfl ?_
      refine ze_getr X dc_R_readChoice_67 zf_R_88 is_Program_2.1 rfl ?_
      refine ze_iload_n X dc_R_readChoice_70 rfl rfl ?_
      refine ze_aload_n X dc_R_readChoice_71 rfl rfl ?_
      refine ze_iload_n X dc_R_readChoice_72 rfl rfl ?_
      refine ze_callVi (As := [.inl a2]) (st := [.inl a1, .inr 7]) X dc_R_readChoice_73 zc_R_85 sh_16 (fun zr zv zh => c_R_readInner X.2.2.2.2.2.2.1 hfr hlo RC hRC a2  v9 zh) rfl (by omega) (by omega) (Nat.le_of_ble_eq_true rfl) (fun r10 v11 => ?_)
      refine ze_iast X dc_R_readChoice_76 sh_7 rfl (fun v12 _ => ?_)
      exact ze_vret X Y dc_R_readChoice_77
    · exact ze_vret X Y dc_R_readChoice_77
  · exact ze_vret X Y dc_R_readChoice_77
set_option maxHeartbeats 4000000 in
set_option maxRecDepth 100000 in
theorem c_R_readChoice {l : Launch} {D : va_G} {ad : Nat → Nat} {ca : Nat → ClassId} (hD : va_D (ze_A ad) (ze_ws ze_sh ad ca (fun _ _ => 0))) {fr1 lo1 : Nat} (hfr : 12 ≤ fr1) (hlo : 300 ≤ lo1) (RC : Int32 → ze_H → Option (Int32 × ze_H)) (hRC : ∀ (a : Int32), ∀ (v : ze_H) (r : Int32) (v1 : ze_H), RC a v = some (r, v1) → ze_Mv l D ad ca my_R_readList bc_R_readList 4 fr1 lo1 [.inr 16, .inl a] v v1) (a1 : Int32) (a2 : Int32)  (v : ze_H) {r : Int32} {v1 : ze_H} (h : f_R_readChoice RC a1 a2 v = some (r, v1)) : ze_Mv l D ad ca my_R_readChoice bc_R_readChoice 3 (fr1 + 2) (lo1 + 120) [.inr 16, .inl a1, .inl a2] v v1 := ze_Mv_of (plainFor_of_name (by decide)) hD (Nat.le_of_ble_eq_true rfl) (fun G e1 e2 e3 e4 X Y => by subst e1 e2 e3 e4; exact w_R_readChoice X Y hfr hlo RC hRC a1 a2  v) h
def f_R_readSplit (RC : Int32 → ze_H → Option (Int32 × ze_H)) (a1 : Int32) (a2 : Int32) (v : ze_H) : Option (Int32 × ze_H) :=
  ze_call (f_R_readNumber  4 a1 1 4 v) (fun r1 v2 => ze_call (f_R_readInner RC a2 v2) (fun r3 v4 => ze_in a1 164 (ze_lev (ze_u v4 6 (Int32.toNatClampNeg a1) r3) (fun v5 => some (0, v5)))))
set_option maxHeartbeats 4000000 in
set_option maxRecDepth 100000 in
theorem w_R_readSplit {G : ze_G} {fr1 lo1 : Nat} (X : ze_X G bc_R_readSplit cn_R 3 (fr1 + 2) (lo1 + 120)) (Y : ze_Rv G) (hfr : 12 ≤ fr1) (hlo : 300 ≤ lo1) (RC : Int32 → ze_H → Option (Int32 × ze_H)) (hRC : ∀ (a : Int32), ∀ (v : ze_H) (r : Int32) (v1 : ze_H), RC a v = some (r, v1) → ze_Mv (ze_l G) (ze_D G) (ze_ad G) (ze_ca G) my_R_readList bc_R_readList 4 fr1 lo1 [.inr 16, .inl a] v v1) (a1 : Int32) (a2 : Int32)  (v : ze_H) : ze_T G (f_R_readSplit RC a1 a2 v) v 0 [some (.inr 16), some (.inl a1), some (.inl a2)] [] := by
  refine ze_aload_n X dc_R_readSplit_0 rfl rfl ?_
  refine ze_aload_n X dc_R_readSplit_1 rfl rfl ?_
  refine ze_getr X dc_R_readSplit_2 zf_R_9 sh_16 rfl ?_
  refine ze_getr X dc_R_readSplit_5 zf_R_39 is_Program_2.1 rfl ?_
  refine ze_iload_n X dc_R_readSplit_8 rfl rfl ?_
  refine ze_iconst (x := 1) X dc_R_readSplit_9 (by decide) ?_
  refine ze_iconst (x := 4) X dc_R_readSplit_10 (by decide) ?_
  refine ze_callVv (As := [.inr 4, .inl a1, .inl 1, .inl 4]) (st := []) X dc_R_readSplit_11 zc_R_43 sh_16 (fun zr zv zh => c_R_readNumber X.2.2.2.2.2.2.1  4 a1 1 4 sh_4 v zh) rfl (by omega) (by omega) (Nat.le_of_ble_eq_true rfl) (fun r1 v2 => ?_)
  refine ze_aload_n X dc_R_readSplit_14 rfl rfl ?_
  refine ze_getr X dc_R_readSplit_15 zf_R_9 sh_16 rfl ?_
  refine ze_getr X dc_R_readSplit_18 zf_R_82 is_Program_2.1 rfl ?_
  refine ze_iload_n X dc_R_readSplit_21 rfl rfl ?_
  refine ze_aload_n X dc_R_readSplit_22 rfl rfl ?_
  refine ze_iload_n X dc_R_readSplit_23 rfl rfl ?_
  refine ze_callVi (As := [.inl a2]) (st := [.inl a1, .inr 6]) X dc_R_readSplit_24 zc_R_85 sh_16 (fun zr zv zh => c_R_readInner X.2.2.2.2.2.2.1 hfr hlo RC hRC a2  v2 zh) rfl (by omega) (by omega) (Nat.le_of_ble_eq_true rfl) (fun r3 v4 => ?_)
  refine ze_iast X dc_R_readSplit_27 sh_6 rfl (fun v5 _ => ?_)
  exact ze_vret X Y dc_R_readSplit_28
set_option maxHeartbeats 4000000 in
set_option maxRecDepth 100000 in
theorem c_R_readSplit {l : Launch} {D : va_G} {ad : Nat → Nat} {ca : Nat → ClassId} (hD : va_D (ze_A ad) (ze_ws ze_sh ad ca (fun _ _ => 0))) {fr1 lo1 : Nat} (hfr : 12 ≤ fr1) (hlo : 300 ≤ lo1) (RC : Int32 → ze_H → Option (Int32 × ze_H)) (hRC : ∀ (a : Int32), ∀ (v : ze_H) (r : Int32) (v1 : ze_H), RC a v = some (r, v1) → ze_Mv l D ad ca my_R_readList bc_R_readList 4 fr1 lo1 [.inr 16, .inl a] v v1) (a1 : Int32) (a2 : Int32)  (v : ze_H) {r : Int32} {v1 : ze_H} (h : f_R_readSplit RC a1 a2 v = some (r, v1)) : ze_Mv l D ad ca my_R_readSplit bc_R_readSplit 3 (fr1 + 2) (lo1 + 120) [.inr 16, .inl a1, .inl a2] v v1 := ze_Mv_of (plainFor_of_name (by decide)) hD (Nat.le_of_ble_eq_true rfl) (fun G e1 e2 e3 e4 X Y => by subst e1 e2 e3 e4; exact w_R_readSplit X Y hfr hlo RC hRC a1 a2  v) h
