def f_R_refuseInner  (a1 : Int32) (a2 : Int32) (v : ze_H) : Option (Int32 × ze_H) :=
  (if a2 ≤ 0 then some (0, v) else ze_lev (ze_u v 16 3 a1) (fun v1 => some (0, v1)))
set_option maxHeartbeats 4000000 in
set_option maxRecDepth 100000 in
theorem w_R_refuseInner {G : ze_G}  (X : ze_X G bc_R_refuseInner cn_R 3 0 0) (Y : ze_Rv G)    (a1 : Int32) (a2 : Int32)  (v : ze_H) : ze_T G (f_R_refuseInner  a1 a2 v) v 0 [some (.inr 16), some (.inl a1), some (.inl a2)] [] := by
  refine ze_iload_n X dc_R_refuseInner_0 rfl rfl ?_
  refine ze_if_le (tgt := 9) X dc_R_refuseInner_1 (by decide) (fun _ => ?_) (fun _ => ?_)
  · exact ze_vret X Y dc_R_refuseInner_9
  · refine ze_aload_n X dc_R_refuseInner_4 rfl rfl ?_
    refine ze_iload_n X dc_R_refuseInner_5 rfl rfl ?_
    refine ze_puti X dc_R_refuseInner_6 zp_R_15 sh_16 rfl (fun v1 => ?_)
    exact ze_vret X Y dc_R_refuseInner_9
set_option maxHeartbeats 4000000 in
set_option maxRecDepth 100000 in
theorem c_R_refuseInner {l : Launch} {D : va_G} {ad : Nat → Nat} {ca : Nat → ClassId} (hD : va_D (ze_A ad) (ze_ws ze_sh ad ca (fun _ _ => 0)))     (a1 : Int32) (a2 : Int32)  (v : ze_H) {r : Int32} {v1 : ze_H} (h : f_R_refuseInner  a1 a2 v = some (r, v1)) : ze_Mv l D ad ca my_R_refuseInner bc_R_refuseInner 3 0 0 [.inr 16, .inl a1, .inl a2] v v1 := ze_Mv_of (plainFor_of_name (by decide)) hD (Nat.le_of_ble_eq_true rfl) (fun G e1 e2 e3 e4 X Y => w_R_refuseInner X Y    a1 a2  v) h
def f_R_readNumber_L21  (k1 : Nat) (b2 : Int32) (b3 : Int32) (b4 : Int32) (b5 : Int32) (kk : Int32 → ze_H → Option (Int32 × ze_H)) : Nat → Int32 → Int32 → ze_H → Option (Int32 × ze_H)
  | 0, _, _, _ => none
  | n + 1, l6, l7, v =>
    (if 4 ≤ l7 then (kk l6 v) else ze_call (f_P_at  2 (v 16 2) v) (fun r4 v5 => ze_let r4 (fun x6 => (if x6 < 48 then (kk l6 v5) else (if x6 ≤ 57 then ze_let ((l6 * 10) + (x6 - 48)) (fun x7 => ze_lev (ze_u v5 16 2 ((v5 16 2) + 1)) (fun v8 => ze_let (l7 + 1) (fun x9 => (f_R_readNumber_L21  k1 b2 b3 b4 b5 kk n x7 x9 v8)))) else (kk l6 v5))))))
def f_R_readNumber_J86  (k1 : Nat) (b2 : Int32) (b3 : Int32) (b4 : Int32) (b5 : Int32) (b6 : Int32) (v : ze_H) : Option (Int32 × ze_H) :=
  (if (v 16 2) = b5 then ze_lev (ze_u v 16 3 b5) (fun v12 => ze_in b2 164 (ze_lev (ze_u v12 k1 (Int32.toNatClampNeg b2) b6) (fun v13 => some (0, v13)))) else (if b6 < b3 then ze_lev (ze_u v 16 3 b5) (fun v14 => ze_in b2 164 (ze_lev (ze_u v14 k1 (Int32.toNatClampNeg b2) b6) (fun v15 => some (0, v15)))) else (if b6 ≤ b4 then ze_in b2 164 (ze_lev (ze_u v k1 (Int32.toNatClampNeg b2) b6) (fun v16 => some (0, v16))) else ze_lev (ze_u v 16 3 b5) (fun v17 => ze_in b2 164 (ze_lev (ze_u v17 k1 (Int32.toNatClampNeg b2) b6) (fun v18 => some (0, v18)))))))
def f_R_readNumber  (a1 : Nat) (a2 : Int32) (a3 : Int32) (a4 : Int32) (v : ze_H) : Option (Int32 × ze_H) :=
  (if (v 16 3) = (-1) then ze_let (v 16 2) (fun x1 => ze_let 0 (fun x2 => ze_let 0 (fun x3 => (f_R_readNumber_L21  a1 a2 a3 a4 x1 (fun x10 v11 => (f_R_readNumber_J86  a1 a2 a3 a4 x1 x10 v11)) 200000 x2 x3 v)))) else some (0, v))
set_option maxHeartbeats 4000000 in
set_option maxRecDepth 100000 in
theorem w_R_readNumber_L21 {G : ze_G}  (X : ze_X G bc_R_readNumber cn_R 9 1 21) (Y : ze_Rv G)    (k1 : Nat) (b2 : Int32) (b3 : Int32) (b4 : Int32) (b5 : Int32) (hk1 : ze_sh[k1]? = some (.inl (0, 164, none))) {kk : Int32 → ze_H → Option (Int32 × ze_H)} (hkk : ∀ (l6 : Int32) (v : ze_H), ze_T G (kk l6 v) v 86 [some (.inr 16), some (.inr k1), some (.inl b2), some (.inl b3), some (.inl b4), some (.inl b5), some (.inl l6), none, none] []) : ∀ (n : Nat) (l6 : Int32) (l7 : Int32) (v : ze_H), ze_T G (f_R_readNumber_L21  k1 b2 b3 b4 b5 kk n l6 l7 v) v 21 [some (.inr 16), some (.inr k1), some (.inl b2), some (.inl b3), some (.inl b4), some (.inl b5), some (.inl l6), some (.inl l7), none] [] := by
  intro n
  induction n with
  | zero => intro l6 l7 v; exact ze_none
  | succ n ih =>
    intro l6 l7 v
    refine ze_iload X dc_R_readNumber_21 rfl ?_
    refine ze_iconst (x := 4) X dc_R_readNumber_23 (by decide) ?_
    refine ze_icmp_ge (tgt := 86) X dc_R_readNumber_24 (by decide) (fun _ => ?_) (fun _ => ?_)
    · refine ze_weak [true, true, true, true, true, true, true, false, false] ?_
      exact hkk l6 v
    · refine ze_aload_n X dc_R_readNumber_27 rfl rfl ?_
      refine ze_getr X dc_R_readNumber_28 zf_R_9 sh_16 rfl ?_
      refine ze_aload_n X dc_R_readNumber_31 rfl rfl ?_
      refine ze_geti X dc_R_readNumber_32 zf_R_22 sh_16 rfl ?_
      refine ze_callVi (As := [.inl (v 16 2)]) (st := []) X dc_R_readNumber_35 zc_R_29 is_Program_2.1 (fun zr zv zh => c_P_at X.2.2.2.2.2.2.1  2 (v 16 2) is_Program_2 v zh) rfl (by decide) (by decide) (Nat.le_of_ble_eq_true rfl) (fun r4 v5 => ?_)
      refine ze_istore X dc_R_readNumber_38 (by decide) (fun x6 => ?_)
      refine ze_iload X dc_R_readNumber_40 rfl ?_
      refine ze_bipush (x := 48) X dc_R_readNumber_42 (by decide) ?_
      refine ze_icmp_lt (tgt := 86) X dc_R_readNumber_44 (by decide) (fun _ => ?_) (fun _ => ?_)
      · refine ze_weak [true, true, true, true, true, true, true, false, false] ?_
        exact hkk l6 v5
      · refine ze_iload X dc_R_readNumber_47 rfl ?_
        refine ze_bipush (x := 57) X dc_R_readNumber_49 (by decide) ?_
        refine ze_icmp_le (tgt := 57) X dc_R_readNumber_51 (by decide) (fun _ => ?_) (fun _ => ?_)
        · refine ze_iload X dc_R_readNumber_57 rfl ?_
          refine ze_bipush (x := 10) X dc_R_readNumber_59 (by decide) ?_
          refine ze_imul X dc_R_readNumber_61 ?_
          refine ze_iload X dc_R_readNumber_62 rfl ?_
          refine ze_bipush (x := 48) X dc_R_readNumber_64 (by decide) ?_
          refine ze_isub X dc_R_readNumber_66 ?_
          refine ze_iadd X dc_R_readNumber_67 ?_
          refine ze_istore X dc_R_readNumber_68 (by decide) (fun x7 => ?_)
          refine ze_aload_n X dc_R_readNumber_70 rfl rfl ?_
          refine ze_dup X dc_R_readNumber_71 ?_
          refine ze_geti X dc_R_readNumber_72 zf_R_22 sh_16 rfl ?_
          refine ze_iconst (x := 1) X dc_R_readNumber_75 (by decide) ?_
          refine ze_iadd X dc_R_readNumber_76 ?_
          refine ze_puti X dc_R_readNumber_77 zp_R_22 sh_16 rfl (fun v8 => ?_)
          refine ze_iinc (y := 1) X dc_R_readNumber_80 rfl (by decide) (by decide) (fun x9 => ?_)
          refine ze_goto (tgt := 21) X dc_R_readNumber_83 (by decide) ?_
          refine ze_weak [true, true, true, true, true, true, true, true, false] ?_
          exact ih x7 x9 v8
        · refine ze_goto (tgt := 86) X dc_R_readNumber_54 (by decide) ?_
          refine ze_weak [true, true, true, true, true, true, true, false, false] ?_
          exact hkk l6 v5
set_option maxHeartbeats 4000000 in
set_option maxRecDepth 100000 in
theorem w_R_readNumber_J86 {G : ze_G}  (X : ze_X G bc_R_readNumber cn_R 9 1 21) (Y : ze_Rv G)    (k1 : Nat) (b2 : Int32) (b3 : Int32) (b4 : Int32) (b5 : Int32) (b6 : Int32) (hk1 : ze_sh[k1]? = some (.inl (0, 164, none))) (v : ze_H) : ze_T G (f_R_readNumber_J86  k1 b2 b3 b4 b5 b6 v) v 86 [some (.inr 16), some (.inr k1), some (.inl b2), some (.inl b3), some (.inl b4), some (.inl b5), some (.inl b6), none, none] [] := by
  refine ze_aload_n X dc_R_readNumber_86 rfl rfl ?_
  refine ze_geti X dc_R_readNumber_87 zf_R_22 sh_16 rfl ?_
  refine ze_iload X dc_R_readNumber_90 rfl ?_
  refine ze_icmp_eq (tgt := 108) X dc_R_readNumber_92 (by decide) (fun _ => ?_) (fun _ => ?_)
  · refine ze_aload_n X dc_R_readNumber_108 rfl rfl ?_
    refine ze_iload X dc_R_readNumber_109 rfl ?_
    refine ze_puti X dc_R_readNumber_111 zp_R_15 sh_16 rfl (fun v12 => ?_)
    refine ze_aload_n X dc_R_readNumber_114 rfl rfl ?_
    refine ze_iload_n X dc_R_readNumber_115 rfl rfl ?_
    refine ze_iload X dc_R_readNumber_116 rfl ?_
    refine ze_iast X dc_R_readNumber_118 hk1 rfl (fun v13 _ => ?_)
    exact ze_vret X Y dc_R_readNumber_119
  · refine ze_iload X dc_R_readNumber_95 rfl ?_
    refine ze_iload_n X dc_R_readNumber_97 rfl rfl ?_
    refine ze_icmp_lt (tgt := 108) X dc_R_readNumber_98 (by decide) (fun _ => ?_) (fun _ => ?_)
    · refine ze_aload_n X dc_R_readNumber_108 rfl rfl ?_
      refine ze_iload X dc_R_readNumber_109 rfl ?_
      refine ze_puti X dc_R_readNumber_111 zp_R_15 sh_16 rfl (fun v14 => ?_)
      refine ze_aload_n X dc_R_readNumber_114 rfl rfl ?_
      refine ze_iload_n X dc_R_readNumber_115 rfl rfl ?_
      refine ze_iload X dc_R_readNumber_116 rfl ?_
      refine ze_iast X dc_R_readNumber_118 hk1 rfl (fun v15 _ => ?_)
      exact ze_vret X Y dc_R_readNumber_119
    · refine ze_iload X dc_R_readNumber_101 rfl ?_
      refine ze_iload X dc_R_readNumber_103 rfl ?_
      refine ze_icmp_le (tgt := 114) X dc_R_readNumber_105 (by decide) (fun _ => ?_) (fun _ => ?_)
      · refine ze_aload_n X dc_R_readNumber_114 rfl rfl ?_
        refine ze_iload_n X dc_R_readNumber_115 rfl rfl ?_
        refine ze_iload X dc_R_readNumber_116 rfl ?_
        refine ze_iast X dc_R_readNumber_118 hk1 rfl (fun v16 _ => ?_)
        exact ze_vret X Y dc_R_readNumber_119
      · refine ze_aload_n X dc_R_readNumber_108 rfl rfl ?_
        refine ze_iload X dc_R_readNumber_109 rfl ?_
        refine ze_puti X dc_R_readNumber_111 zp_R_15 sh_16 rfl (fun v17 => ?_)
        refine ze_aload_n X dc_R_readNumber_114 rfl rfl ?_
        refine ze_iload_n X dc_R_readNumber_115 rfl rfl ?_
        refine ze_iload X dc_R_readNumber_116 rfl ?_
        refine ze_iast X dc_R_readNumber_118 hk1 rfl (fun v18 _ => ?_)
        exact ze_vret X Y dc_R_readNumber_119
set_option maxHeartbeats 4000000 in
set_option maxRecDepth 100000 in
theorem w_R_readNumber {G : ze_G}  (X : ze_X G bc_R_readNumber cn_R 9 1 21) (Y : ze_Rv G)    (a1 : Nat) (a2 : Int32) (a3 : Int32) (a4 : Int32) (ha1 : ze_sh[a1]? = some (.inl (0, 164, none))) (v : ze_H) : ze_T G (f_R_readNumber  a1 a2 a3 a4 v) v 0 [some (.inr 16), some (.inr a1), some (.inl a2), some (.inl a3), some (.inl a4), none, none, none, none] [] := by
  refine ze_aload_n X dc_R_readNumber_0 rfl rfl ?_
  refine ze_geti X dc_R_readNumber_1 zf_R_15 sh_16 rfl ?_
  refine ze_iconst (x := (-1)) X dc_R_readNumber_4 (by decide) ?_
  refine ze_icmp_eq (tgt := 9) X dc_R_readNumber_5 (by decide) (fun _ => ?_) (fun _ => ?_)
  · refine ze_aload_n X dc_R_readNumber_9 rfl rfl ?_
    refine ze_geti X dc_R_readNumber_10 zf_R_22 sh_16 rfl ?_
    refine ze_istore X dc_R_readNumber_13 (by decide) (fun x1 => ?_)
    refine ze_iconst (x := 0) X dc_R_readNumber_15 (by decide) ?_
    refine ze_istore X dc_R_readNumber_16 (by decide) (fun x2 => ?_)
    refine ze_iconst (x := 0) X dc_R_readNumber_18 (by decide) ?_
    refine ze_istore X dc_R_readNumber_19 (by decide) (fun x3 => ?_)
    refine ze_weak [true, true, true, true, true, true, true, true, false] ?_
    refine w_R_readNumber_L21 X Y    a1 a2 a3 a4 x1 ha1 (fun x10 v11 => ?_) 200000 x2 x3 v
    refine ze_weak [true, true, true, true, true, true, true, false, false] ?_
    exact w_R_readNumber_J86 X Y    a1 a2 a3 a4 x1 x10 ha1 v11
  · exact ze_vret X Y dc_R_readNumber_8
set_option maxHeartbeats 4000000 in
set_option maxRecDepth 100000 in
theorem c_R_readNumber {l : Launch} {D : va_G} {ad : Nat → Nat} {ca : Nat → ClassId} (hD : va_D (ze_A ad) (ze_ws ze_sh ad ca (fun _ _ => 0)))     (a1 : Nat) (a2 : Int32) (a3 : Int32) (a4 : Int32) (ha1 : ze_sh[a1]? = some (.inl (0, 164, none))) (v : ze_H) {r : Int32} {v1 : ze_H} (h : f_R_readNumber  a1 a2 a3 a4 v = some (r, v1)) : ze_Mv l D ad ca my_R_readNumber bc_R_readNumber 9 1 21 [.inr 16, .inr a1, .inl a2, .inl a3, .inl a4] v v1 := ze_Mv_of (plainFor_of_name (by decide)) hD (Nat.le_of_ble_eq_true rfl) (fun G e1 e2 e3 e4 X Y => w_R_readNumber X Y    a1 a2 a3 a4 ha1 v) h
def f_R_readOneOf  (a1 : Nat) (v : ze_H) : Option (Int32 × ze_H) :=
  (if (v 16 3) = (-1) then ze_call (f_P_at  2 (v 16 2) v) (fun r1 v2 => ze_call (f_JS_indexOf0  a1 r1 v2) (fun r3 v4 => (if r3 < 0 then ze_lev (ze_u v4 16 3 (v4 16 2)) (fun v5 => some (0, v5)) else ze_lev (ze_u v4 16 2 ((v4 16 2) + 1)) (fun v6 => some (0, v6))))) else some (0, v))
set_option maxHeartbeats 4000000 in
set_option maxRecDepth 100000 in
theorem w_R_readOneOf {G : ze_G}  (X : ze_X G bc_R_readOneOf cn_R 2 4 91) (Y : ze_Rv G)    (a1 : Nat) (ha1 : a1 < ze_sn) (v : ze_H) : ze_T G (f_R_readOneOf  a1 v) v 0 [some (.inr 16), some (.inr (1000 + a1))] [] := by
  refine ze_aload_n X dc_R_readOneOf_0 rfl rfl ?_
  refine ze_geti X dc_R_readOneOf_1 zf_R_15 sh_16 rfl ?_
  refine ze_iconst (x := (-1)) X dc_R_readOneOf_4 (by decide) ?_
  refine ze_icmp_eq (tgt := 9) X dc_R_readOneOf_5 (by decide) (fun _ => ?_) (fun _ => ?_)
  · refine ze_aload_n X dc_R_readOneOf_9 rfl rfl ?_
    refine ze_aload_n X dc_R_readOneOf_10 rfl rfl ?_
    refine ze_getr X dc_R_readOneOf_11 zf_R_9 sh_16 rfl ?_
    refine ze_aload_n X dc_R_readOneOf_14 rfl rfl ?_
    refine ze_geti X dc_R_readOneOf_15 zf_R_22 sh_16 rfl ?_
    refine ze_callVi (As := [.inl (v 16 2)]) (st := [.inr (1000 + a1)]) X dc_R_readOneOf_18 zc_R_29 is_Program_2.1 (fun zr zv zh => c_P_at X.2.2.2.2.2.2.1  2 (v 16 2) is_Program_2 v zh) rfl (by decide) (by decide) (Nat.le_of_ble_eq_true rfl) (fun r1 v2 => ?_)
    refine ze_callKi (As := [.inl r1]) (st := []) X dc_R_readOneOf_21 zc_R_66 ha1 (fun zr zv zh => c_JS_indexOf0 X.2.2.2.2.2.2.1  a1 r1 ha1 v2 zh) rfl (by decide) (by decide) (Nat.le_of_ble_eq_true rfl) rfl (fun r3 v4 => ?_)
    refine ze_if_lt (tgt := 40) X dc_R_readOneOf_24 (by decide) (fun _ => ?_) (fun _ => ?_)
    · refine ze_aload_n X dc_R_readOneOf_40 rfl rfl ?_
      refine ze_aload_n X dc_R_readOneOf_41 rfl rfl ?_
      refine ze_geti X dc_R_readOneOf_42 zf_R_22 sh_16 rfl ?_
      refine ze_puti X dc_R_readOneOf_45 zp_R_15 sh_16 rfl (fun v5 => ?_)
      exact ze_vret X Y dc_R_readOneOf_48
    · refine ze_aload_n X dc_R_readOneOf_27 rfl rfl ?_
      refine ze_dup X dc_R_readOneOf_28 ?_
      refine ze_geti X dc_R_readOneOf_29 zf_R_22 sh_16 rfl ?_
      refine ze_iconst (x := 1) X dc_R_readOneOf_32 (by decide) ?_
      refine ze_iadd X dc_R_readOneOf_33 ?_
      refine ze_puti X dc_R_readOneOf_34 zp_R_22 sh_16 rfl (fun v6 => ?_)
      refine ze_goto (tgt := 48) X dc_R_readOneOf_37 (by decide) ?_
      exact ze_vret X Y dc_R_readOneOf_48
  · exact ze_vret X Y dc_R_readOneOf_8
set_option maxHeartbeats 4000000 in
set_option maxRecDepth 100000 in
theorem c_R_readOneOf {l : Launch} {D : va_G} {ad : Nat → Nat} {ca : Nat → ClassId} (hD : va_D (ze_A ad) (ze_ws ze_sh ad ca (fun _ _ => 0)))     (a1 : Nat) (ha1 : a1 < ze_sn) (v : ze_H) {r : Int32} {v1 : ze_H} (h : f_R_readOneOf  a1 v = some (r, v1)) : ze_Mv l D ad ca my_R_readOneOf bc_R_readOneOf 2 4 91 [.inr 16, .inr (1000 + a1)] v v1 := ze_Mv_of (plainFor_of_name (by decide)) hD (Nat.le_of_ble_eq_true rfl) (fun G e1 e2 e3 e4 X Y => w_R_readOneOf X Y    a1 ha1 v) h
def f_R_readTest_J27  (b1 : Int32) (s0 : Int32) (v : ze_H) : Option (Int32 × ze_H) :=
  ze_let s0 (fun x5 => ze_call (f_R_readOneOf  1 v) (fun r6 v7 => (if x5 = 0 then ze_call (f_R_readNumber  4 b1 0 9999 v7) (fun r8 v9 => some (0, v9)) else ze_call (f_R_readNumber  4 b1 1 9999 v7) (fun r10 v11 => some (0, v11)))))
def f_R_readTest  (a1 : Int32) (v : ze_H) : Option (Int32 × ze_H) :=
  ze_call (f_R_readOneOf  0 v) (fun r1 v2 => ze_call (f_P_at  2 (v2 16 2) v2) (fun r3 v4 => (if r3 = 37 then (f_R_readTest_J27  a1 1 v4) else (f_R_readTest_J27  a1 0 v4))))
set_option maxHeartbeats 4000000 in
set_option maxRecDepth 100000 in
theorem w_R_readTest_J27 {G : ze_G}  (X : ze_X G bc_R_readTest cn_R 3 5 112) (Y : ze_Rv G)    (b1 : Int32) (s0 : Int32)  (v : ze_H) : ze_T G (f_R_readTest_J27  b1 s0 v) v 27 [some (.inr 16), some (.inl b1), none] [.inl s0] := by
  refine ze_istore_n X dc_R_readTest_27 rfl (by decide) (fun x5 => ?_)
  refine ze_aload_n X dc_R_readTest_28 rfl rfl ?_
  refine ze_ldcs (i := 1) X dc_R_readTest_29 (q := (cn_R, 78, "<>=%", 1)) zt_R_78 ⟨rfl, rfl, rfl⟩ ?_
  refine ze_callVv (As := [.inr (1000 + 1)]) (st := []) X dc_R_readTest_31 zc_R_74 sh_16 (fun zr zv zh => c_R_readOneOf X.2.2.2.2.2.2.1  1 (by decide) v zh) rfl (by decide) (by decide) (Nat.le_of_ble_eq_true rfl) (fun r6 v7 => ?_)
  refine ze_aload_n X dc_R_readTest_34 rfl rfl ?_
  refine ze_aload_n X dc_R_readTest_35 rfl rfl ?_
  refine ze_getr X dc_R_readTest_36 zf_R_9 sh_16 rfl ?_
  refine ze_getr X dc_R_readTest_39 zf_R_39 is_Program_2.1 rfl ?_
  refine ze_iload_n X dc_R_readTest_42 rfl rfl ?_
  refine ze_iload_n X dc_R_readTest_43 rfl rfl ?_
  refine ze_if_eq (tgt := 51) X dc_R_readTest_44 (by decide) (fun _ => ?_) (fun _ => ?_)
  · refine ze_iconst (x := 0) X dc_R_readTest_51 (by decide) ?_
    refine ze_sipush (x := 9999) X dc_R_readTest_52 (by decide) ?_
    refine ze_callVv (As := [.inr 4, .inl b1, .inl 0, .inl 9999]) (st := []) X dc_R_readTest_55 zc_R_43 sh_16 (fun zr zv zh => c_R_readNumber X.2.2.2.2.2.2.1  4 b1 0 9999 sh_4 v7 zh) rfl (by decide) (by decide) (Nat.le_of_ble_eq_true rfl) (fun r8 v9 => ?_)
    exact ze_vret X Y dc_R_readTest_58
  · refine ze_iconst (x := 1) X dc_R_readTest_47 (by decide) ?_
    refine ze_goto (tgt := 52) X dc_R_readTest_48 (by decide) ?_
    refine ze_sipush (x := 9999) X dc_R_readTest_52 (by decide) ?_
    refine ze_callVv (As := [.inr 4, .inl b1, .inl 1, .inl 9999]) (st := []) X dc_R_readTest_55 zc_R_43 sh_16 (fun zr zv zh => c_R_readNumber X.2.2.2.2.2.2.1  4 b1 1 9999 sh_4 v7 zh) rfl (by decide) (by decide) (Nat.le_of_ble_eq_true rfl) (fun r10 v11 => ?_)
    exact ze_vret X Y dc_R_readTest_58
set_option maxHeartbeats 4000000 in
set_option maxRecDepth 100000 in
theorem w_R_readTest {G : ze_G}  (X : ze_X G bc_R_readTest cn_R 3 5 112) (Y : ze_Rv G)    (a1 : Int32)  (v : ze_H) : ze_T G (f_R_readTest  a1 v) v 0 [some (.inr 16), some (.inl a1), none] [] := by
  refine ze_aload_n X dc_R_readTest_0 rfl rfl ?_
  refine ze_ldcs (i := 0) X dc_R_readTest_1 (q := (cn_R, 72, "bk", 0)) zt_R_72 ⟨rfl, rfl, rfl⟩ ?_
  refine ze_callVv (As := [.inr (1000 + 0)]) (st := []) X dc_R_readTest_3 zc_R_74 sh_16 (fun zr zv zh => c_R_readOneOf X.2.2.2.2.2.2.1  0 (by decide) v zh) rfl (by decide) (by decide) (Nat.le_of_ble_eq_true rfl) (fun r1 v2 => ?_)
  refine ze_aload_n X dc_R_readTest_6 rfl rfl ?_
  refine ze_getr X dc_R_readTest_7 zf_R_9 sh_16 rfl ?_
  refine ze_aload_n X dc_R_readTest_10 rfl rfl ?_
  refine ze_geti X dc_R_readTest_11 zf_R_22 sh_16 rfl ?_
  refine ze_callVi (As := [.inl (v2 16 2)]) (st := []) X dc_R_readTest_14 zc_R_29 is_Program_2.1 (fun zr zv zh => c_P_at X.2.2.2.2.2.2.1  2 (v2 16 2) is_Program_2 v2 zh) rfl (by decide) (by decide) (Nat.le_of_ble_eq_true rfl) (fun r3 v4 => ?_)
  refine ze_bipush (x := 37) X dc_R_readTest_17 (by decide) ?_
  refine ze_icmp_ne (tgt := 26) X dc_R_readTest_19 (by decide) (fun _ => ?_) (fun _ => ?_)
  · refine ze_iconst (x := 1) X dc_R_readTest_22 (by decide) ?_
    refine ze_goto (tgt := 27) X dc_R_readTest_23 (by decide) ?_
    refine ze_weak [true, true, false] ?_
    exact w_R_readTest_J27 X Y    a1 1  v4
  · refine ze_iconst (x := 0) X dc_R_readTest_26 (by decide) ?_
    refine ze_weak [true, true, false] ?_
    exact w_R_readTest_J27 X Y    a1 0  v4
set_option maxHeartbeats 4000000 in
set_option maxRecDepth 100000 in
theorem c_R_readTest {l : Launch} {D : va_G} {ad : Nat → Nat} {ca : Nat → ClassId} (hD : va_D (ze_A ad) (ze_ws ze_sh ad ca (fun _ _ => 0)))     (a1 : Int32)  (v : ze_H) {r : Int32} {v1 : ze_H} (h : f_R_readTest  a1 v = some (r, v1)) : ze_Mv l D ad ca my_R_readTest bc_R_readTest 3 5 112 [.inr 16, .inl a1] v v1 := ze_Mv_of (plainFor_of_name (by decide)) hD (Nat.le_of_ble_eq_true rfl) (fun G e1 e2 e3 e4 X Y => w_R_readTest X Y    a1  v) h
def f_R_readGathering  (a1 : Int32) (a2 : Int32) (v : ze_H) : Option (Int32 × ze_H) :=
  ze_call (f_R_refuseInner  a1 a2 v) (fun r1 v2 => ze_call (f_R_readNumber  4 a1 2 4 v2) (fun r3 v4 => ze_call (f_R_readOneOf  3 v4) (fun r5 v6 => ze_call (f_R_readNumber  5 a1 1 99 v6) (fun r7 v8 => some (0, v8)))))
set_option maxHeartbeats 4000000 in
set_option maxRecDepth 100000 in
theorem w_R_readGathering {G : ze_G}  (X : ze_X G bc_R_readGathering cn_R 3 5 112) (Y : ze_Rv G)    (a1 : Int32) (a2 : Int32)  (v : ze_H) : ze_T G (f_R_readGathering  a1 a2 v) v 0 [some (.inr 16), some (.inl a1), some (.inl a2)] [] := by
  refine ze_aload_n X dc_R_readGathering_0 rfl rfl ?_
  refine ze_iload_n X dc_R_readGathering_1 rfl rfl ?_
  refine ze_iload_n X dc_R_readGathering_2 rfl rfl ?_
  refine ze_callVv (As := [.inl a1, .inl a2]) (st := []) X dc_R_readGathering_3 zc_R_91 sh_16 (fun zr zv zh => c_R_refuseInner X.2.2.2.2.2.2.1  a1 a2  v zh) rfl (by decide) (by decide) (Nat.le_of_ble_eq_true rfl) (fun r1 v2 => ?_)
  refine ze_aload_n X dc_R_readGathering_6 rfl rfl ?_
  refine ze_aload_n X dc_R_readGathering_7 rfl rfl ?_
  refine ze_getr X dc_R_readGathering_8 zf_R_9 sh_16 rfl ?_
  refine ze_getr X dc_R_readGathering_11 zf_R_39 is_Program_2.1 rfl ?_
  refine ze_iload_n X dc_R_readGathering_14 rfl rfl ?_
  refine ze_iconst (x := 2) X dc_R_readGathering_15 (by decide) ?_
  refine ze_iconst (x := 4) X dc_R_readGathering_16 (by decide) ?_
  refine ze_callVv (As := [.inr 4, .inl a1, .inl 2, .inl 4]) (st := []) X dc_R_readGathering_17 zc_R_43 sh_16 (fun zr zv zh => c_R_readNumber X.2.2.2.2.2.2.1  4 a1 2 4 sh_4 v2 zh) rfl (by decide) (by decide) (Nat.le_of_ble_eq_true rfl) (fun r3 v4 => ?_)
  refine ze_aload_n X dc_R_readGathering_20 rfl rfl ?_
  refine ze_ldcs (i := 3) X dc_R_readGathering_21 (q := (cn_R, 94, ",", 3)) zt_R_94 ⟨rfl, rfl, rfl⟩ ?_
  refine ze_callVv (As := [.inr (1000 + 3)]) (st := []) X dc_R_readGathering_23 zc_R_74 sh_16 (fun zr zv zh => c_R_readOneOf X.2.2.2.2.2.2.1  3 (by decide) v4 zh) rfl (by decide) (by decide) (Nat.le_of_ble_eq_true rfl) (fun r5 v6 => ?_)
  refine ze_aload_n X dc_R_readGathering_26 rfl rfl ?_
  refine ze_aload_n X dc_R_readGathering_27 rfl rfl ?_
  refine ze_getr X dc_R_readGathering_28 zf_R_9 sh_16 rfl ?_
  refine ze_getr X dc_R_readGathering_31 zf_R_96 is_Program_2.1 rfl ?_
  refine ze_iload_n X dc_R_readGathering_34 rfl rfl ?_
  refine ze_iconst (x := 1) X dc_R_readGathering_35 (by decide) ?_
  refine ze_bipush (x := 99) X dc_R_readGathering_36 (by decide) ?_
  refine ze_callVv (As := [.inr 5, .inl a1, .inl 1, .inl 99]) (st := []) X dc_R_readGathering_38 zc_R_43 sh_16 (fun zr zv zh => c_R_readNumber X.2.2.2.2.2.2.1  5 a1 1 99 sh_5 v6 zh) rfl (by decide) (by decide) (Nat.le_of_ble_eq_true rfl) (fun r7 v8 => ?_)
  exact ze_vret X Y dc_R_readGathering_41
set_option maxHeartbeats 4000000 in
set_option maxRecDepth 100000 in
theorem c_R_readGathering {l : Launch} {D : va_G} {ad : Nat → Nat} {ca : Nat → ClassId} (hD : va_D (ze_A ad) (ze_ws ze_sh ad ca (fun _ _ => 0)))     (a1 : Int32) (a2 : Int32)  (v : ze_H) {r : Int32} {v1 : ze_H} (h : f_R_readGathering  a1 a2 v = some (r, v1)) : ze_Mv l D ad ca my_R_readGathering bc_R_readGathering 3 5 112 [.inr 16, .inl a1, .inl a2] v v1 := ze_Mv_of (plainFor_of_name (by decide)) hD (Nat.le_of_ble_eq_true rfl) (fun G e1 e2 e3 e4 X Y => w_R_readGathering X Y    a1 a2  v) h
def f_R_readOrdering  (a1 : Int32) (a2 : Int32) (v : ze_H) : Option (Int32 × ze_H) :=
  ze_call (f_R_refuseInner  a1 a2 v) (fun r1 v2 => ze_call (f_R_readNumber  4 a1 2 4 v2) (fun r3 v4 => some (0, v4)))
set_option maxHeartbeats 4000000 in
set_option maxRecDepth 100000 in
theorem w_R_readOrdering {G : ze_G}  (X : ze_X G bc_R_readOrdering cn_R 3 2 49) (Y : ze_Rv G)    (a1 : Int32) (a2 : Int32)  (v : ze_H) : ze_T G (f_R_readOrdering  a1 a2 v) v 0 [some (.inr 16), some (.inl a1), some (.inl a2)] [] := by
  refine ze_aload_n X dc_R_readOrdering_0 rfl rfl ?_
  refine ze_iload_n X dc_R_readOrdering_1 rfl rfl ?_
  refine ze_iload_n X dc_R_readOrdering_2 rfl rfl ?_
  refine ze_callVv (As := [.inl a1, .inl a2]) (st := []) X dc_R_readOrdering_3 zc_R_91 sh_16 (fun zr zv zh => c_R_refuseInner X.2.2.2.2.2.2.1  a1 a2  v zh) rfl (by decide) (by decide) (Nat.le_of_ble_eq_true rfl) (fun r1 v2 => ?_)
  refine ze_aload_n X dc_R_readOrdering_6 rfl rfl ?_
  refine ze_aload_n X dc_R_readOrdering_7 rfl rfl ?_
  refine ze_getr X dc_R_readOrdering_8 zf_R_9 sh_16 rfl ?_
  refine ze_getr X dc_R_readOrdering_11 zf_R_39 is_Program_2.1 rfl ?_
  refine ze_iload_n X dc_R_readOrdering_14 rfl rfl ?_
  refine ze_iconst (x := 2) X dc_R_readOrdering_15 (by decide) ?_
  refine ze_iconst (x := 4) X dc_R_readOrdering_16 (by decide) ?_
  refine ze_callVv (As := [.inr 4, .inl a1, .inl 2, .inl 4]) (st := []) X dc_R_readOrdering_17 zc_R_43 sh_16 (fun zr zv zh => c_R_readNumber X.2.2.2.2.2.2.1  4 a1 2 4 sh_4 v2 zh) rfl (by decide) (by decide) (Nat.le_of_ble_eq_true rfl) (fun r3 v4 => ?_)
  exact ze_vret X Y dc_R_readOrdering_20
set_option maxHeartbeats 4000000 in
set_option maxRecDepth 100000 in
theorem c_R_readOrdering {l : Launch} {D : va_G} {ad : Nat → Nat} {ca : Nat → ClassId} (hD : va_D (ze_A ad) (ze_ws ze_sh ad ca (fun _ _ => 0)))     (a1 : Int32) (a2 : Int32)  (v : ze_H) {r : Int32} {v1 : ze_H} (h : f_R_readOrdering  a1 a2 v = some (r, v1)) : ze_Mv l D ad ca my_R_readOrdering bc_R_readOrdering 3 2 49 [.inr 16, .inl a1, .inl a2] v v1 := ze_Mv_of (plainFor_of_name (by decide)) hD (Nat.le_of_ble_eq_true rfl) (fun G e1 e2 e3 e4 X Y => w_R_readOrdering X Y    a1 a2  v) h
