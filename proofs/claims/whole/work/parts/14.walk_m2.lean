def f_M_begin  (a1 : Int32) (a2 : Int32) (v : ze_H) : Option (Int32 × ze_H) :=
  ze_in (v 75 40) 16 (ze_lev (ze_u v 108 (Int32.toNatClampNeg (v 75 40)) a1) (fun v1 => ze_in (v1 75 40) 16 (ze_lev (ze_u v1 109 (Int32.toNatClampNeg (v1 75 40)) a2) (fun v2 => ze_in (v2 75 40) 16 (ze_lev (ze_u v2 110 (Int32.toNatClampNeg (v2 75 40)) a1) (fun v3 => ze_in 0 8 (ze_in 0 8 (ze_lev (ze_u v3 119 (Int32.toNatClampNeg 0) ((v3 119 (Int32.toNatClampNeg 0)) + 1)) (fun v4 => some (0, v4))))))))))
set_option maxHeartbeats 4000000 in
set_option maxRecDepth 100000 in
theorem w_M_begin {G : ze_G}  (X : ze_X G bc_M_begin cn_M 3 0 0) (Y : ze_Rv G)    (a1 : Int32) (a2 : Int32)  (v : ze_H) : ze_T G (f_M_begin  a1 a2 v) v 0 [some (.inr 75), some (.inl a1), some (.inl a2)] [] := by
  refine ze_aload_n X dc_M_begin_0 rfl rfl ?_
  refine ze_getr X dc_M_begin_1 zf_M_108 sh_75 rfl ?_
  refine ze_aload_n X dc_M_begin_4 rfl rfl ?_
  refine ze_geti X dc_M_begin_5 zf_M_211 sh_75 rfl ?_
  refine ze_iload_n X dc_M_begin_8 rfl rfl ?_
  refine ze_iast X dc_M_begin_9 sh_108 rfl (fun v1 _ => ?_)
  refine ze_aload_n X dc_M_begin_10 rfl rfl ?_
  refine ze_getr X dc_M_begin_11 zf_M_111 sh_75 rfl ?_
  refine ze_aload_n X dc_M_begin_14 rfl rfl ?_
  refine ze_geti X dc_M_begin_15 zf_M_211 sh_75 rfl ?_
  refine ze_iload_n X dc_M_begin_18 rfl rfl ?_
  refine ze_iast X dc_M_begin_19 sh_109 rfl (fun v2 _ => ?_)
  refine ze_aload_n X dc_M_begin_20 rfl rfl ?_
  refine ze_getr X dc_M_begin_21 zf_M_114 sh_75 rfl ?_
  refine ze_aload_n X dc_M_begin_24 rfl rfl ?_
  refine ze_geti X dc_M_begin_25 zf_M_211 sh_75 rfl ?_
  refine ze_iload_n X dc_M_begin_28 rfl rfl ?_
  refine ze_iast X dc_M_begin_29 sh_110 rfl (fun v3 _ => ?_)
  refine ze_aload_n X dc_M_begin_30 rfl rfl ?_
  refine ze_getr X dc_M_begin_31 zf_M_141 sh_75 rfl ?_
  refine ze_iconst (x := 0) X dc_M_begin_34 (by decide) ?_
  refine ze_dup2 X dc_M_begin_35 ?_
  refine ze_iald X dc_M_begin_36 sh_119 rfl (fun _ => ?_)
  refine ze_iconst (x := 1) X dc_M_begin_37 (by decide) ?_
  refine ze_iadd X dc_M_begin_38 ?_
  refine ze_iast X dc_M_begin_39 sh_119 rfl (fun v4 _ => ?_)
  exact ze_vret X Y dc_M_begin_40
set_option maxHeartbeats 4000000 in
set_option maxRecDepth 100000 in
theorem c_M_begin {l : Launch} {D : va_G} {ad : Nat → Nat} {ca : Nat → ClassId} (hD : va_D (ze_A ad) (ze_ws ze_sh ad ca (fun _ _ => 0)))     (a1 : Int32) (a2 : Int32)  (v : ze_H) {r : Int32} {v1 : ze_H} (h : f_M_begin  a1 a2 v = some (r, v1)) : ze_Mv l D ad ca my_M_begin bc_M_begin 3 0 0 [.inr 75, .inl a1, .inl a2] v v1 := ze_Mv_of (plainFor_of_name (by decide)) hD (Nat.le_of_ble_eq_true rfl) (fun G e1 e2 e3 e4 X Y => w_M_begin X Y    a1 a2  v) h
def f_M_push  (a1 : Int32) (a2 : Int32) (v : ze_H) : Option (Int32 × ze_H) :=
  ze_in (v 75 44) 20 (ze_lev (ze_u v 111 (Int32.toNatClampNeg (v 75 44)) a1) (fun v1 => ze_in (v1 75 44) 20 (ze_lev (ze_u v1 112 (Int32.toNatClampNeg (v1 75 44)) (v1 75 53)) (fun v2 => ze_in (v2 75 44) 20 (ze_lev (ze_u v2 113 (Int32.toNatClampNeg (v2 75 44)) a2) (fun v3 => ze_lev (ze_u v3 75 44 ((v3 75 44) + 1)) (fun v4 => some (0, v4))))))))
set_option maxHeartbeats 4000000 in
set_option maxRecDepth 100000 in
theorem w_M_push {G : ze_G}  (X : ze_X G bc_M_push cn_M 3 0 0) (Y : ze_Rv G)    (a1 : Int32) (a2 : Int32)  (v : ze_H) : ze_T G (f_M_push  a1 a2 v) v 0 [some (.inr 75), some (.inl a1), some (.inl a2)] [] := by
  refine ze_aload_n X dc_M_push_0 rfl rfl ?_
  refine ze_getr X dc_M_push_1 zf_M_117 sh_75 rfl ?_
  refine ze_aload_n X dc_M_push_4 rfl rfl ?_
  refine ze_geti X dc_M_push_5 zf_M_217 sh_75 rfl ?_
  refine ze_iload_n X dc_M_push_8 rfl rfl ?_
  refine ze_iast X dc_M_push_9 sh_111 rfl (fun v1 _ => ?_)
  refine ze_aload_n X dc_M_push_10 rfl rfl ?_
  refine ze_getr X dc_M_push_11 zf_M_120 sh_75 rfl ?_
  refine ze_aload_n X dc_M_push_14 rfl rfl ?_
  refine ze_geti X dc_M_push_15 zf_M_217 sh_75 rfl ?_
  refine ze_aload_n X dc_M_push_18 rfl rfl ?_
  refine ze_geti X dc_M_push_19 zf_M_201 sh_75 rfl ?_
  refine ze_iast X dc_M_push_22 sh_112 rfl (fun v2 _ => ?_)
  refine ze_aload_n X dc_M_push_23 rfl rfl ?_
  refine ze_getr X dc_M_push_24 zf_M_123 sh_75 rfl ?_
  refine ze_aload_n X dc_M_push_27 rfl rfl ?_
  refine ze_geti X dc_M_push_28 zf_M_217 sh_75 rfl ?_
  refine ze_iload_n X dc_M_push_31 rfl rfl ?_
  refine ze_iast X dc_M_push_32 sh_113 rfl (fun v3 _ => ?_)
  refine ze_aload_n X dc_M_push_33 rfl rfl ?_
  refine ze_dup X dc_M_push_34 ?_
  refine ze_geti X dc_M_push_35 zf_M_217 sh_75 rfl ?_
  refine ze_iconst (x := 1) X dc_M_push_38 (by decide) ?_
  refine ze_iadd X dc_M_push_39 ?_
  refine ze_puti X dc_M_push_40 zp_M_217 sh_75 rfl (fun v4 => ?_)
  exact ze_vret X Y dc_M_push_43
set_option maxHeartbeats 4000000 in
set_option maxRecDepth 100000 in
theorem c_M_push {l : Launch} {D : va_G} {ad : Nat → Nat} {ca : Nat → ClassId} (hD : va_D (ze_A ad) (ze_ws ze_sh ad ca (fun _ _ => 0)))     (a1 : Int32) (a2 : Int32)  (v : ze_H) {r : Int32} {v1 : ze_H} (h : f_M_push  a1 a2 v = some (r, v1)) : ze_Mv l D ad ca my_M_push bc_M_push 3 0 0 [.inr 75, .inl a1, .inl a2] v v1 := ze_Mv_of (plainFor_of_name (by decide)) hD (Nat.le_of_ble_eq_true rfl) (fun G e1 e2 e3 e4 X Y => w_M_push X Y    a1 a2  v) h
def f_M_part   (v : ze_H) : Option (Int32 × ze_H) :=
  ze_let ((v 75 44) - 1) (fun x1 => ze_in x1 20 (ze_lev (ze_u v 75 53 (v 112 (Int32.toNatClampNeg x1))) (fun v2 => ze_in x1 20 (ze_in x1 20 ((if (v2 115 (Int32.toNatClampNeg x1)) ≤ (v2 116 (Int32.toNatClampNeg x1)) then ze_in x1 20 (ze_in (v2 75 40) 16 (ze_lev (ze_u v2 108 (Int32.toNatClampNeg (v2 75 40)) (v2 117 (Int32.toNatClampNeg x1))) (fun v3 => ze_in x1 20 (ze_lev (ze_u v3 75 54 (v3 113 (Int32.toNatClampNeg x1))) (fun v4 => ze_lev (ze_u v4 75 44 ((v4 75 44) - 1)) (fun v5 => some (0, v5))))))) else ze_in (v2 75 40) 16 (ze_let (v2 109 (Int32.toNatClampNeg (v2 75 40))) (fun x6 => ze_lev (ze_u v2 75 40 ((v2 75 40) + 1)) (fun v7 => ze_in x1 20 (ze_in x1 20 (ze_in x1 20 (ze_call (f_M_down  ((v7 118 (Int32.toNatClampNeg x1)) + (v7 116 (Int32.toNatClampNeg x1))) (v7 115 (Int32.toNatClampNeg x1)) v7) (fun r8 v9 => ze_call (f_M_begin  r8 x6 v9) (fun r10 v11 => ze_in x1 20 (ze_in x1 20 (ze_lev (ze_u v11 116 (Int32.toNatClampNeg x1) ((v11 116 (Int32.toNatClampNeg x1)) + 1)) (fun v12 => ze_in x1 20 (ze_lev (ze_u v12 75 54 (v12 114 (Int32.toNatClampNeg x1))) (fun v13 => some (0, v13))))))))))))))))))))
set_option maxHeartbeats 4000000 in
set_option maxRecDepth 100000 in
theorem w_M_part {G : ze_G}  (X : ze_X G bc_M_part cn_M 3 1 22) (Y : ze_Rv G)      (v : ze_H) : ze_T G (f_M_part   v) v 0 [some (.inr 75), none, none] [] := by
  refine ze_aload_n X dc_M_part_0 rfl rfl ?_
  refine ze_geti X dc_M_part_1 zf_M_217 sh_75 rfl ?_
  refine ze_iconst (x := 1) X dc_M_part_4 (by decide) ?_
  refine ze_isub X dc_M_part_5 ?_
  refine ze_istore_n X dc_M_part_6 rfl (by decide) (fun x1 => ?_)
  refine ze_aload_n X dc_M_part_7 rfl rfl ?_
  refine ze_aload_n X dc_M_part_8 rfl rfl ?_
  refine ze_getr X dc_M_part_9 zf_M_120 sh_75 rfl ?_
  refine ze_iload_n X dc_M_part_12 rfl rfl ?_
  refine ze_iald X dc_M_part_13 sh_112 rfl (fun _ => ?_)
  refine ze_puti X dc_M_part_14 zp_M_201 sh_75 rfl (fun v2 => ?_)
  refine ze_aload_n X dc_M_part_17 rfl rfl ?_
  refine ze_getr X dc_M_part_18 zf_M_132 sh_75 rfl ?_
  refine ze_iload_n X dc_M_part_21 rfl rfl ?_
  refine ze_iald X dc_M_part_22 sh_116 rfl (fun _ => ?_)
  refine ze_aload_n X dc_M_part_23 rfl rfl ?_
  refine ze_getr X dc_M_part_24 zf_M_129 sh_75 rfl ?_
  refine ze_iload_n X dc_M_part_27 rfl rfl ?_
  refine ze_iald X dc_M_part_28 sh_115 rfl (fun _ => ?_)
  refine ze_icmp_ge (tgt := 102) X dc_M_part_29 (by decide) (fun _ => ?_) (fun _ => ?_)
  · refine ze_aload_n X dc_M_part_102 rfl rfl ?_
    refine ze_getr X dc_M_part_103 zf_M_108 sh_75 rfl ?_
    refine ze_aload_n X dc_M_part_106 rfl rfl ?_
    refine ze_geti X dc_M_part_107 zf_M_211 sh_75 rfl ?_
    refine ze_aload_n X dc_M_part_110 rfl rfl ?_
    refine ze_getr X dc_M_part_111 zf_M_135 sh_75 rfl ?_
    refine ze_iload_n X dc_M_part_114 rfl rfl ?_
    refine ze_iald X dc_M_part_115 sh_117 rfl (fun _ => ?_)
    refine ze_iast X dc_M_part_116 sh_108 rfl (fun v3 _ => ?_)
    refine ze_aload_n X dc_M_part_117 rfl rfl ?_
    refine ze_aload_n X dc_M_part_118 rfl rfl ?_
    refine ze_getr X dc_M_part_119 zf_M_123 sh_75 rfl ?_
    refine ze_iload_n X dc_M_part_122 rfl rfl ?_
    refine ze_iald X dc_M_part_123 sh_113 rfl (fun _ => ?_)
    refine ze_puti X dc_M_part_124 zp_M_227 sh_75 rfl (fun v4 => ?_)
    refine ze_aload_n X dc_M_part_127 rfl rfl ?_
    refine ze_dup X dc_M_part_128 ?_
    refine ze_geti X dc_M_part_129 zf_M_217 sh_75 rfl ?_
    refine ze_iconst (x := 1) X dc_M_part_132 (by decide) ?_
    refine ze_isub X dc_M_part_133 ?_
    refine ze_puti X dc_M_part_134 zp_M_217 sh_75 rfl (fun v5 => ?_)
    exact ze_vret X Y dc_M_part_137
  · refine ze_aload_n X dc_M_part_32 rfl rfl ?_
    refine ze_getr X dc_M_part_33 zf_M_111 sh_75 rfl ?_
    refine ze_aload_n X dc_M_part_36 rfl rfl ?_
    refine ze_geti X dc_M_part_37 zf_M_211 sh_75 rfl ?_
    refine ze_iald X dc_M_part_40 sh_109 rfl (fun _ => ?_)
    refine ze_istore_n X dc_M_part_41 rfl (by decide) (fun x6 => ?_)
    refine ze_aload_n X dc_M_part_42 rfl rfl ?_
    refine ze_dup X dc_M_part_43 ?_
    refine ze_geti X dc_M_part_44 zf_M_211 sh_75 rfl ?_
    refine ze_iconst (x := 1) X dc_M_part_47 (by decide) ?_
    refine ze_iadd X dc_M_part_48 ?_
    refine ze_puti X dc_M_part_49 zp_M_211 sh_75 rfl (fun v7 => ?_)
    refine ze_aload_n X dc_M_part_52 rfl rfl ?_
    refine ze_aload_n X dc_M_part_53 rfl rfl ?_
    refine ze_getr X dc_M_part_54 zf_M_138 sh_75 rfl ?_
    refine ze_iload_n X dc_M_part_57 rfl rfl ?_
    refine ze_iald X dc_M_part_58 sh_118 rfl (fun _ => ?_)
    refine ze_aload_n X dc_M_part_59 rfl rfl ?_
    refine ze_getr X dc_M_part_60 zf_M_132 sh_75 rfl ?_
    refine ze_iload_n X dc_M_part_63 rfl rfl ?_
    refine ze_iald X dc_M_part_64 sh_116 rfl (fun _ => ?_)
    refine ze_iadd X dc_M_part_65 ?_
    refine ze_aload_n X dc_M_part_66 rfl rfl ?_
    refine ze_getr X dc_M_part_67 zf_M_129 sh_75 rfl ?_
    refine ze_iload_n X dc_M_part_70 rfl rfl ?_
    refine ze_iald X dc_M_part_71 sh_115 rfl (fun _ => ?_)
    refine ze_callSi (As := [.inl ((v7 118 (Int32.toNatClampNeg x1)) + (v7 116 (Int32.toNatClampNeg x1))), .inl (v7 115 (Int32.toNatClampNeg x1))]) (st := [.inr 75]) X dc_M_part_72 zc_M_220 (fun zr zv zh => c_M_down X.2.2.2.2.2.2.1  ((v7 118 (Int32.toNatClampNeg x1)) + (v7 116 (Int32.toNatClampNeg x1))) (v7 115 (Int32.toNatClampNeg x1))  v7 zh) rfl (by decide) (by decide) (Nat.le_of_ble_eq_true rfl) (fun r8 v9 => ?_)
    refine ze_iload_n X dc_M_part_75 rfl rfl ?_
    refine ze_callVv (As := [.inl r8, .inl x6]) (st := []) X dc_M_part_76 zc_M_223 sh_75 (fun zr zv zh => c_M_begin X.2.2.2.2.2.2.1  r8 x6  v9 zh) rfl (by decide) (by decide) (Nat.le_of_ble_eq_true rfl) (fun r10 v11 => ?_)
    refine ze_aload_n X dc_M_part_79 rfl rfl ?_
    refine ze_getr X dc_M_part_80 zf_M_132 sh_75 rfl ?_
    refine ze_iload_n X dc_M_part_83 rfl rfl ?_
    refine ze_dup2 X dc_M_part_84 ?_
    refine ze_iald X dc_M_part_85 sh_116 rfl (fun _ => ?_)
    refine ze_iconst (x := 1) X dc_M_part_86 (by decide) ?_
    refine ze_iadd X dc_M_part_87 ?_
    refine ze_iast X dc_M_part_88 sh_116 rfl (fun v12 _ => ?_)
    refine ze_aload_n X dc_M_part_89 rfl rfl ?_
    refine ze_aload_n X dc_M_part_90 rfl rfl ?_
    refine ze_getr X dc_M_part_91 zf_M_126 sh_75 rfl ?_
    refine ze_iload_n X dc_M_part_94 rfl rfl ?_
    refine ze_iald X dc_M_part_95 sh_114 rfl (fun _ => ?_)
    refine ze_puti X dc_M_part_96 zp_M_227 sh_75 rfl (fun v13 => ?_)
    refine ze_goto (tgt := 137) X dc_M_part_99 (by decide) ?_
    exact ze_vret X Y dc_M_part_137
set_option maxHeartbeats 4000000 in
set_option maxRecDepth 100000 in
theorem c_M_part {l : Launch} {D : va_G} {ad : Nat → Nat} {ca : Nat → ClassId} (hD : va_D (ze_A ad) (ze_ws ze_sh ad ca (fun _ _ => 0)))       (v : ze_H) {r : Int32} {v1 : ze_H} (h : f_M_part   v = some (r, v1)) : ze_Mv l D ad ca my_M_part bc_M_part 3 1 22 [.inr 75] v v1 := ze_Mv_of (plainFor_of_name (by decide)) hD (Nat.le_of_ble_eq_true rfl) (fun G e1 e2 e3 e4 X Y => w_M_part X Y      v) h
def f_M_finish_L19  (b1 : Int32) (kk : ze_H → Option (Int32 × ze_H)) : Nat → ze_H → Option (Int32 × ze_H)
  | 0, _ => none
  | n + 1, v =>
    ze_in ((v 75 44) - 1) 20 ((if (v 111 (Int32.toNatClampNeg ((v 75 44) - 1))) = 2 then (kk  v) else ze_lev (ze_u v 75 44 ((v 75 44) - 1)) (fun v2 => (f_M_finish_L19  b1 kk n  v2))))
def f_M_finish_J75   (v : ze_H) : Option (Int32 × ze_H) :=
  ze_lev (ze_u v 75 40 ((v 75 40) - 1)) (fun v5 => ze_call (f_M_part   v5) (fun r6 v7 => some (0, v7)))
def f_M_finish  (a1 : Int32) (v : ze_H) : Option (Int32 × ze_H) :=
  ze_in a1 8 (ze_in a1 8 (ze_lev (ze_u v 119 (Int32.toNatClampNeg a1) ((v 119 (Int32.toNatClampNeg a1)) + 1)) (fun v1 => (if (v1 75 40) = 0 then some (a1, v1) else (f_M_finish_L19  a1 (fun  v3 => (if a1 = 1 then ze_in ((v3 75 44) - 1) 20 (ze_in (v3 75 40) 16 (ze_in ((v3 75 44) - 1) 20 (ze_lev (ze_u v3 117 (Int32.toNatClampNeg ((v3 75 44) - 1)) ((v3 117 (Int32.toNatClampNeg ((v3 75 44) - 1))) + (v3 108 (Int32.toNatClampNeg (v3 75 40))))) (fun v4 => (f_M_finish_J75   v4))))) else (f_M_finish_J75   v3))) 200000  v1)))))
set_option maxHeartbeats 4000000 in
set_option maxRecDepth 100000 in
theorem w_M_finish_L19 {G : ze_G}  (X : ze_X G bc_M_finish cn_M 2 2 44) (Y : ze_Ri G .int)    (b1 : Int32)  {kk : ze_H → Option (Int32 × ze_H)} (hkk : ∀ (v : ze_H), ze_T G (kk  v) v 47 [some (.inr 75), some (.inl b1)] []) : ∀ (n : Nat)  (v : ze_H), ze_T G (f_M_finish_L19  b1 kk n  v) v 19 [some (.inr 75), some (.inl b1)] [] := by
  intro n
  induction n with
  | zero => intro  v; exact ze_none
  | succ n ih =>
    intro  v
    refine ze_aload_n X dc_M_finish_19 rfl rfl ?_
    refine ze_getr X dc_M_finish_20 zf_M_117 sh_75 rfl ?_
    refine ze_aload_n X dc_M_finish_23 rfl rfl ?_
    refine ze_geti X dc_M_finish_24 zf_M_217 sh_75 rfl ?_
    refine ze_iconst (x := 1) X dc_M_finish_27 (by decide) ?_
    refine ze_isub X dc_M_finish_28 ?_
    refine ze_iald X dc_M_finish_29 sh_111 rfl (fun _ => ?_)
    refine ze_iconst (x := 2) X dc_M_finish_30 (by decide) ?_
    refine ze_icmp_eq (tgt := 47) X dc_M_finish_31 (by decide) (fun _ => ?_) (fun _ => ?_)
    · refine ze_weak [true, true] ?_
      exact hkk  v
    · refine ze_aload_n X dc_M_finish_34 rfl rfl ?_
      refine ze_dup X dc_M_finish_35 ?_
      refine ze_geti X dc_M_finish_36 zf_M_217 sh_75 rfl ?_
      refine ze_iconst (x := 1) X dc_M_finish_39 (by decide) ?_
      refine ze_isub X dc_M_finish_40 ?_
      refine ze_puti X dc_M_finish_41 zp_M_217 sh_75 rfl (fun v2 => ?_)
      refine ze_goto (tgt := 19) X dc_M_finish_44 (by decide) ?_
      refine ze_weak [true, true] ?_
      exact ih  v2
set_option maxHeartbeats 4000000 in
set_option maxRecDepth 100000 in
theorem w_M_finish_J75 {G : ze_G}  (X : ze_X G bc_M_finish cn_M 2 2 44) (Y : ze_Ri G .int)      (v : ze_H) : ze_T G (f_M_finish_J75   v) v 75 [some (.inr 75), none] [] := by
  refine ze_aload_n X dc_M_finish_75 rfl rfl ?_
  refine ze_dup X dc_M_finish_76 ?_
  refine ze_geti X dc_M_finish_77 zf_M_211 sh_75 rfl ?_
  refine ze_iconst (x := 1) X dc_M_finish_80 (by decide) ?_
  refine ze_isub X dc_M_finish_81 ?_
  refine ze_puti X dc_M_finish_82 zp_M_211 sh_75 rfl (fun v5 => ?_)
  refine ze_aload_n X dc_M_finish_85 rfl rfl ?_
  refine ze_callVv (As := []) (st := []) X dc_M_finish_86 zc_M_230 sh_75 (fun zr zv zh => c_M_part X.2.2.2.2.2.2.1    v5 zh) rfl (by decide) (by decide) (Nat.le_of_ble_eq_true rfl) (fun r6 v7 => ?_)
  refine ze_iconst (x := 0) X dc_M_finish_89 (by decide) ?_
  exact ze_iret X Y (vp_nar_int _) dc_M_finish_90
set_option maxHeartbeats 4000000 in
set_option maxRecDepth 100000 in
theorem w_M_finish {G : ze_G}  (X : ze_X G bc_M_finish cn_M 2 2 44) (Y : ze_Ri G .int)    (a1 : Int32)  (v : ze_H) : ze_T G (f_M_finish  a1 v) v 0 [some (.inr 75), some (.inl a1)] [] := by
  refine ze_aload_n X dc_M_finish_0 rfl rfl ?_
  refine ze_getr X dc_M_finish_1 zf_M_141 sh_75 rfl ?_
  refine ze_iload_n X dc_M_finish_4 rfl rfl ?_
  refine ze_dup2 X dc_M_finish_5 ?_
  refine ze_iald X dc_M_finish_6 sh_119 rfl (fun _ => ?_)
  refine ze_iconst (x := 1) X dc_M_finish_7 (by decide) ?_
  refine ze_iadd X dc_M_finish_8 ?_
  refine ze_iast X dc_M_finish_9 sh_119 rfl (fun v1 _ => ?_)
  refine ze_aload_n X dc_M_finish_10 rfl rfl ?_
  refine ze_geti X dc_M_finish_11 zf_M_211 sh_75 rfl ?_
  refine ze_if_ne (tgt := 19) X dc_M_finish_14 (by decide) (fun _ => ?_) (fun _ => ?_)
  · refine ze_iload_n X dc_M_finish_17 rfl rfl ?_
    exact ze_iret X Y (vp_nar_int _) dc_M_finish_18
  · refine ze_weak [true, true] ?_
    refine w_M_finish_L19 X Y    a1  (fun  v3 => ?_) 200000  v1
    refine ze_iload_n X dc_M_finish_47 rfl rfl ?_
    refine ze_iconst (x := 1) X dc_M_finish_48 (by decide) ?_
    refine ze_icmp_ne (tgt := 75) X dc_M_finish_49 (by decide) (fun _ => ?_) (fun _ => ?_)
    · refine ze_aload_n X dc_M_finish_52 rfl rfl ?_
      refine ze_getr X dc_M_finish_53 zf_M_135 sh_75 rfl ?_
      refine ze_aload_n X dc_M_finish_56 rfl rfl ?_
      refine ze_geti X dc_M_finish_57 zf_M_217 sh_75 rfl ?_
      refine ze_iconst (x := 1) X dc_M_finish_60 (by decide) ?_
      refine ze_isub X dc_M_finish_61 ?_
      refine ze_dup2 X dc_M_finish_62 ?_
      refine ze_iald X dc_M_finish_63 sh_117 rfl (fun _ => ?_)
      refine ze_aload_n X dc_M_finish_64 rfl rfl ?_
      refine ze_getr X dc_M_finish_65 zf_M_108 sh_75 rfl ?_
      refine ze_aload_n X dc_M_finish_68 rfl rfl ?_
      refine ze_geti X dc_M_finish_69 zf_M_211 sh_75 rfl ?_
      refine ze_iald X dc_M_finish_72 sh_108 rfl (fun _ => ?_)
      refine ze_iadd X dc_M_finish_73 ?_
      refine ze_iast X dc_M_finish_74 sh_117 rfl (fun v4 _ => ?_)
      refine ze_weak [true, false] ?_
      exact w_M_finish_J75 X Y      v4
    · refine ze_weak [true, false] ?_
      exact w_M_finish_J75 X Y      v3
set_option maxHeartbeats 4000000 in
set_option maxRecDepth 100000 in
theorem c_M_finish {l : Launch} {D : va_G} {ad : Nat → Nat} {ca : Nat → ClassId} (hD : va_D (ze_A ad) (ze_ws ze_sh ad ca (fun _ _ => 0)))     (a1 : Int32)  (v : ze_H) {r : Int32} {v1 : ze_H} (h : f_M_finish  a1 v = some (r, v1)) : ze_Mi l D ad ca my_M_finish bc_M_finish 2 .int 2 44 [.inr 75, .inl a1] v r v1 := ze_Mi_of (plainFor_of_name (by decide)) hD (Nat.le_of_ble_eq_true rfl) (fun G e1 e2 e3 e4 X Y => w_M_finish X Y    a1  v) h
def f_M_close   (v : ze_H) : Option (Int32 × ze_H) :=
  (if (v 75 44) = 0 then ze_call (f_M_finish  1 v) (fun r1 v2 => some (r1, v2)) else ze_in ((v 75 44) - 1) 20 ((if (v 111 (Int32.toNatClampNeg ((v 75 44) - 1))) = 2 then ze_call (f_M_finish  1 v) (fun r3 v4 => some (r3, v4)) else ze_lev (ze_u v 75 44 ((v 75 44) - 1)) (fun v5 => ze_in (v5 75 44) 20 (ze_lev (ze_u v5 75 53 (v5 112 (Int32.toNatClampNeg (v5 75 44)))) (fun v6 => ze_in (v6 75 44) 20 (ze_lev (ze_u v6 75 54 (v6 113 (Int32.toNatClampNeg (v6 75 44)))) (fun v7 => some (0, v7)))))))))
set_option maxHeartbeats 4000000 in
set_option maxRecDepth 100000 in
theorem w_M_close {G : ze_G}  (X : ze_X G bc_M_close cn_M 1 3 65) (Y : ze_Ri G .int)      (v : ze_H) : ze_T G (f_M_close   v) v 0 [some (.inr 75)] [] := by
  refine ze_aload_n X dc_M_close_0 rfl rfl ?_
  refine ze_geti X dc_M_close_1 zf_M_217 sh_75 rfl ?_
  refine ze_if_eq (tgt := 22) X dc_M_close_4 (by decide) (fun _ => ?_) (fun _ => ?_)
  · refine ze_aload_n X dc_M_close_22 rfl rfl ?_
    refine ze_iconst (x := 1) X dc_M_close_23 (by decide) ?_
    refine ze_callVi (As := [.inl 1]) (st := []) X dc_M_close_24 zc_M_233 sh_75 (fun zr zv zh => c_M_finish X.2.2.2.2.2.2.1  1  v zh) rfl (by decide) (by decide) (Nat.le_of_ble_eq_true rfl) (fun r1 v2 => ?_)
    exact ze_iret X Y (vp_nar_int _) dc_M_close_27
  · refine ze_aload_n X dc_M_close_7 rfl rfl ?_
    refine ze_getr X dc_M_close_8 zf_M_117 sh_75 rfl ?_
    refine ze_aload_n X dc_M_close_11 rfl rfl ?_
    refine ze_geti X dc_M_close_12 zf_M_217 sh_75 rfl ?_
    refine ze_iconst (x := 1) X dc_M_close_15 (by decide) ?_
    refine ze_isub X dc_M_close_16 ?_
    refine ze_iald X dc_M_close_17 sh_111 rfl (fun _ => ?_)
    refine ze_iconst (x := 2) X dc_M_close_18 (by decide) ?_
    refine ze_icmp_ne (tgt := 28) X dc_M_close_19 (by decide) (fun _ => ?_) (fun _ => ?_)
    · refine ze_aload_n X dc_M_close_22 rfl rfl ?_
      refine ze_iconst (x := 1) X dc_M_close_23 (by decide) ?_
      refine ze_callVi (As := [.inl 1]) (st := []) X dc_M_close_24 zc_M_233 sh_75 (fun zr zv zh => c_M_finish X.2.2.2.2.2.2.1  1  v zh) rfl (by decide) (by decide) (Nat.le_of_ble_eq_true rfl) (fun r3 v4 => ?_)
      exact ze_iret X Y (vp_nar_int _) dc_M_close_27
    · refine ze_aload_n X dc_M_close_28 rfl rfl ?_
      refine ze_dup X dc_M_close_29 ?_
      refine ze_geti X dc_M_close_30 zf_M_217 sh_75 rfl ?_
      refine ze_iconst (x := 1) X dc_M_close_33 (by decide) ?_
      refine ze_isub X dc_M_close_34 ?_
      refine ze_puti X dc_M_close_35 zp_M_217 sh_75 rfl (fun v5 => ?_)
      refine ze_aload_n X dc_M_close_38 rfl rfl ?_
      refine ze_aload_n X dc_M_close_39 rfl rfl ?_
      refine ze_getr X dc_M_close_40 zf_M_120 sh_75 rfl ?_
      refine ze_aload_n X dc_M_close_43 rfl rfl ?_
      refine ze_geti X dc_M_close_44 zf_M_217 sh_75 rfl ?_
      refine ze_iald X dc_M_close_47 sh_112 rfl (fun _ => ?_)
      refine ze_puti X dc_M_close_48 zp_M_201 sh_75 rfl (fun v6 => ?_)
      refine ze_aload_n X dc_M_close_51 rfl rfl ?_
      refine ze_aload_n X dc_M_close_52 rfl rfl ?_
      refine ze_getr X dc_M_close_53 zf_M_123 sh_75 rfl ?_
      refine ze_aload_n X dc_M_close_56 rfl rfl ?_
      refine ze_geti X dc_M_close_57 zf_M_217 sh_75 rfl ?_
      refine ze_iald X dc_M_close_60 sh_113 rfl (fun _ => ?_)
      refine ze_puti X dc_M_close_61 zp_M_227 sh_75 rfl (fun v7 => ?_)
      refine ze_iconst (x := 0) X dc_M_close_64 (by decide) ?_
      exact ze_iret X Y (vp_nar_int _) dc_M_close_65
set_option maxHeartbeats 4000000 in
set_option maxRecDepth 100000 in
theorem c_M_close {l : Launch} {D : va_G} {ad : Nat → Nat} {ca : Nat → ClassId} (hD : va_D (ze_A ad) (ze_ws ze_sh ad ca (fun _ _ => 0)))       (v : ze_H) {r : Int32} {v1 : ze_H} (h : f_M_close   v = some (r, v1)) : ze_Mi l D ad ca my_M_close bc_M_close 1 .int 3 65 [.inr 75] v r v1 := ze_Mi_of (plainFor_of_name (by decide)) hD (Nat.le_of_ble_eq_true rfl) (fun G e1 e2 e3 e4 X Y => w_M_close X Y      v) h
def f_M_change  (a1 : Int32) (a2 : Int32) (v : ze_H) : Option (Int32 × ze_H) :=
  ze_in (v 75 40) 16 (ze_let (v 108 (Int32.toNatClampNeg (v 75 40))) (fun x1 => (if a1 = 43 then ze_in (v 75 40) 16 (ze_lev (ze_u v 108 (Int32.toNatClampNeg (v 75 40)) (x1 + a2)) (fun v2 => ze_lev (ze_u v2 75 54 (v2 75 55)) (fun v3 => some (0, v3)))) else (if a1 = 45 then ze_in (v 75 40) 16 (ze_lev (ze_u v 108 (Int32.toNatClampNeg (v 75 40)) (x1 - a2)) (fun v4 => ze_lev (ze_u v4 75 54 (v4 75 55)) (fun v5 => some (0, v5)))) else ze_in (v 75 40) 16 (ze_lev (ze_u v 108 (Int32.toNatClampNeg (v 75 40)) (x1 * a2)) (fun v6 => ze_lev (ze_u v6 75 54 (v6 75 55)) (fun v7 => some (0, v7))))))))
set_option maxHeartbeats 4000000 in
set_option maxRecDepth 100000 in
theorem w_M_change {G : ze_G}  (X : ze_X G bc_M_change cn_M 4 0 0) (Y : ze_Rv G)    (a1 : Int32) (a2 : Int32)  (v : ze_H) : ze_T G (f_M_change  a1 a2 v) v 0 [some (.inr 75), some (.inl a1), some (.inl a2), none] [] := by
  refine ze_aload_n X dc_M_change_0 rfl rfl ?_
  refine ze_getr X dc_M_change_1 zf_M_108 sh_75 rfl ?_
  refine ze_aload_n X dc_M_change_4 rfl rfl ?_
  refine ze_geti X dc_M_change_5 zf_M_211 sh_75 rfl ?_
  refine ze_iald X dc_M_change_8 sh_108 rfl (fun _ => ?_)
  refine ze_istore_n X dc_M_change_9 rfl (by decide) (fun x1 => ?_)
  refine ze_aload_n X dc_M_change_10 rfl rfl ?_
  refine ze_getr X dc_M_change_11 zf_M_108 sh_75 rfl ?_
  refine ze_aload_n X dc_M_change_14 rfl rfl ?_
  refine ze_geti X dc_M_change_15 zf_M_211 sh_75 rfl ?_
  refine ze_iload_n X dc_M_change_18 rfl rfl ?_
  refine ze_bipush (x := 43) X dc_M_change_19 (by decide) ?_
  refine ze_icmp_ne (tgt := 30) X dc_M_change_21 (by decide) (fun _ => ?_) (fun _ => ?_)
  · refine ze_iload_n X dc_M_change_24 rfl rfl ?_
    refine ze_iload_n X dc_M_change_25 rfl rfl ?_
    refine ze_iadd X dc_M_change_26 ?_
    refine ze_goto (tgt := 45) X dc_M_change_27 (by decide) ?_
    refine ze_iast X dc_M_change_45 sh_108 rfl (fun v2 _ => ?_)
    refine ze_aload_n X dc_M_change_46 rfl rfl ?_
    refine ze_aload_n X dc_M_change_47 rfl rfl ?_
    refine ze_geti X dc_M_change_48 zf_M_204 sh_75 rfl ?_
    refine ze_puti X dc_M_change_51 zp_M_227 sh_75 rfl (fun v3 => ?_)
    exact ze_vret X Y dc_M_change_54
  · refine ze_iload_n X dc_M_change_30 rfl rfl ?_
    refine ze_bipush (x := 45) X dc_M_change_31 (by decide) ?_
    refine ze_icmp_ne (tgt := 42) X dc_M_change_33 (by decide) (fun _ => ?_) (fun _ => ?_)
    · refine ze_iload_n X dc_M_change_36 rfl rfl ?_
      refine ze_iload_n X dc_M_change_37 rfl rfl ?_
      refine ze_isub X dc_M_change_38 ?_
      refine ze_goto (tgt := 45) X dc_M_change_39 (by decide) ?_
      refine ze_iast X dc_M_change_45 sh_108 rfl (fun v4 _ => ?_)
      refine ze_aload_n X dc_M_change_46 rfl rfl ?_
      refine ze_aload_n X dc_M_change_47 rfl rfl ?_
      refine ze_geti X dc_M_change_48 zf_M_204 sh_75 rfl ?_
      refine ze_puti X dc_M_change_51 zp_M_227 sh_75 rfl (fun v5 => ?_)
      exact ze_vret X Y dc_M_change_54
    · refine ze_iload_n X dc_M_change_42 rfl rfl ?_
      refine ze_iload_n X dc_M_change_43 rfl rfl ?_
      refine ze_imul X dc_M_change_44 ?_
      refine ze_iast X dc_M_change_45 sh_108 rfl (fun v6 _ => ?_)
      refine ze_aload_n X dc_M_change_46 rfl rfl ?_
      refine ze_aload_n X dc_M_change_47 rfl rfl ?_
      refine ze_geti X dc_M_change_48 zf_M_204 sh_75 rfl ?_
      refine ze_puti X dc_M_change_51 zp_M_227 sh_75 rfl (fun v7 => ?_)
      exact ze_vret X Y dc_M_change_54
set_option maxHeartbeats 4000000 in
set_option maxRecDepth 100000 in
theorem c_M_change {l : Launch} {D : va_G} {ad : Nat → Nat} {ca : Nat → ClassId} (hD : va_D (ze_A ad) (ze_ws ze_sh ad ca (fun _ _ => 0)))     (a1 : Int32) (a2 : Int32)  (v : ze_H) {r : Int32} {v1 : ze_H} (h : f_M_change  a1 a2 v = some (r, v1)) : ze_Mv l D ad ca my_M_change bc_M_change 4 0 0 [.inr 75, .inl a1, .inl a2] v v1 := ze_Mv_of (plainFor_of_name (by decide)) hD (Nat.le_of_ble_eq_true rfl) (fun G e1 e2 e3 e4 X Y => w_M_change X Y    a1 a2  v) h
def f_M_choose_J62  (b1 : Int32) (b2 : Int32) (b3 : Int32) (b4 : Int32) (b5 : Int32) (v : ze_H) : Option (Int32 × ze_H) :=
  (if b1 = 0 then (if b4 = 0 then ze_lev (ze_u v 75 54 b5) (fun v9 => some (0, v9)) else ze_lev (ze_u v 75 54 (b3 + 2)) (fun v10 => some (0, v10))) else ze_lev (ze_u v 75 54 (b2 + 1)) (fun v11 => some (0, v11)))
def f_M_choose_J55  (b1 : Int32) (b2 : Int32) (b3 : Int32) (b4 : Int32) (b5 : Int32) (v : ze_H) : Option (Int32 × ze_H) :=
  ze_call (f_M_push  1 b5 v) (fun r12 v13 => (f_M_choose_J62  b1 b2 b3 b4 b5 v13))
def f_M_choose_J44  (b1 : Int32) (b2 : Int32) (b3 : Int32) (b4 : Int32) (s0 : Int32) (v : ze_H) : Option (Int32 × ze_H) :=
  ze_let s0 (fun x8 => (if b1 = 0 then (if b4 = 0 then (f_M_choose_J62  b1 b2 b3 b4 x8 v) else (f_M_choose_J55  b1 b2 b3 b4 x8 v)) else (f_M_choose_J55  b1 b2 b3 b4 x8 v)))
def f_M_choose_J26  (b1 : Int32) (b2 : Int32) (b3 : Int32) (s0 : Int32) (v : ze_H) : Option (Int32 × ze_H) :=
  ze_let s0 (fun x7 => (if x7 = 0 then (f_M_choose_J44  b1 b2 b3 x7 b3 v) else ze_call (f_M_behind  (b3 + 1) v) (fun r14 v15 => (f_M_choose_J44  b1 b2 b3 x7 r14 v15))))
def f_M_choose  (a1 : Int32) (v : ze_H) : Option (Int32 × ze_H) :=
  ze_let (v 75 55) (fun x1 => ze_call (f_M_behind  x1 v) (fun r2 v3 => ze_let r2 (fun x4 => ze_call (f_M_here  x4 v3) (fun r5 v6 => (if r5 = 58 then (f_M_choose_J26  a1 x1 x4 1 v6) else (f_M_choose_J26  a1 x1 x4 0 v6))))))
set_option maxHeartbeats 4000000 in
set_option maxRecDepth 100000 in
theorem w_M_choose_J62 {G : ze_G}  (X : ze_X G bc_M_choose cn_M 6 2 45) (Y : ze_Rv G)    (b1 : Int32) (b2 : Int32) (b3 : Int32) (b4 : Int32) (b5 : Int32)  (v : ze_H) : ze_T G (f_M_choose_J62  b1 b2 b3 b4 b5 v) v 62 [some (.inr 75), some (.inl b1), some (.inl b2), some (.inl b3), some (.inl b4), some (.inl b5)] [] := by
  refine ze_aload_n X dc_M_choose_62 rfl rfl ?_
  refine ze_iload_n X dc_M_choose_63 rfl rfl ?_
  refine ze_if_eq (tgt := 73) X dc_M_choose_64 (by decide) (fun _ => ?_) (fun _ => ?_)
  · refine ze_iload X dc_M_choose_73 rfl ?_
    refine ze_if_eq (tgt := 84) X dc_M_choose_75 (by decide) (fun _ => ?_) (fun _ => ?_)
    · refine ze_iload X dc_M_choose_84 rfl ?_
      refine ze_puti X dc_M_choose_86 zp_M_227 sh_75 rfl (fun v9 => ?_)
      exact ze_vret X Y dc_M_choose_89
    · refine ze_iload_n X dc_M_choose_78 rfl rfl ?_
      refine ze_iconst (x := 2) X dc_M_choose_79 (by decide) ?_
      refine ze_iadd X dc_M_choose_80 ?_
      refine ze_goto (tgt := 86) X dc_M_choose_81 (by decide) ?_
      refine ze_puti X dc_M_choose_86 zp_M_227 sh_75 rfl (fun v10 => ?_)
      exact ze_vret X Y dc_M_choose_89
  · refine ze_iload_n X dc_M_choose_67 rfl rfl ?_
    refine ze_iconst (x := 1) X dc_M_choose_68 (by decide) ?_
    refine ze_iadd X dc_M_choose_69 ?_
    refine ze_goto (tgt := 86) X dc_M_choose_70 (by decide) ?_
    refine ze_puti X dc_M_choose_86 zp_M_227 sh_75 rfl (fun v11 => ?_)
    exact ze_vret X Y dc_M_choose_89
set_option maxHeartbeats 4000000 in
set_option maxRecDepth 100000 in
theorem w_M_choose_J55 {G : ze_G}  (X : ze_X G bc_M_choose cn_M 6 2 45) (Y : ze_Rv G)    (b1 : Int32) (b2 : Int32) (b3 : Int32) (b4 : Int32) (b5 : Int32)  (v : ze_H) : ze_T G (f_M_choose_J55  b1 b2 b3 b4 b5 v) v 55 [some (.inr 75), some (.inl b1), some (.inl b2), some (.inl b3), some (.inl b4), some (.inl b5)] [] := by
  refine ze_aload_n X dc_M_choose_55 rfl rfl ?_
  refine ze_iconst (x := 1) X dc_M_choose_56 (by decide) ?_
  refine ze_iload X dc_M_choose_57 rfl ?_
  refine ze_callVv (As := [.inl 1, .inl b5]) (st := []) X dc_M_choose_59 zc_M_307 sh_75 (fun zr zv zh => c_M_push X.2.2.2.2.2.2.1  1 b5  v zh) rfl (by decide) (by decide) (Nat.le_of_ble_eq_true rfl) (fun r12 v13 => ?_)
  refine ze_weak [true, true, true, true, true, true] ?_
  exact w_M_choose_J62 X Y    b1 b2 b3 b4 b5  v13
set_option maxHeartbeats 4000000 in
set_option maxRecDepth 100000 in
theorem w_M_choose_J44 {G : ze_G}  (X : ze_X G bc_M_choose cn_M 6 2 45) (Y : ze_Rv G)    (b1 : Int32) (b2 : Int32) (b3 : Int32) (b4 : Int32) (s0 : Int32)  (v : ze_H) : ze_T G (f_M_choose_J44  b1 b2 b3 b4 s0 v) v 44 [some (.inr 75), some (.inl b1), some (.inl b2), some (.inl b3), some (.inl b4), none] [.inl s0] := by
  refine ze_istore X dc_M_choose_44 (by decide) (fun x8 => ?_)
  refine ze_iload_n X dc_M_choose_46 rfl rfl ?_
  refine ze_if_ne (tgt := 55) X dc_M_choose_47 (by decide) (fun _ => ?_) (fun _ => ?_)
  · refine ze_iload X dc_M_choose_50 rfl ?_
    refine ze_if_eq (tgt := 62) X dc_M_choose_52 (by decide) (fun _ => ?_) (fun _ => ?_)
    · refine ze_weak [true, true, true, true, true, true] ?_
      exact w_M_choose_J62 X Y    b1 b2 b3 b4 x8  v
    · refine ze_weak [true, true, true, true, true, true] ?_
      exact w_M_choose_J55 X Y    b1 b2 b3 b4 x8  v
  · refine ze_weak [true, true, true, true, true, true] ?_
    exact w_M_choose_J55 X Y    b1 b2 b3 b4 x8  v
set_option maxHeartbeats 4000000 in
set_option maxRecDepth 100000 in
theorem w_M_choose_J26 {G : ze_G}  (X : ze_X G bc_M_choose cn_M 6 2 45) (Y : ze_Rv G)    (b1 : Int32) (b2 : Int32) (b3 : Int32) (s0 : Int32)  (v : ze_H) : ze_T G (f_M_choose_J26  b1 b2 b3 s0 v) v 26 [some (.inr 75), some (.inl b1), some (.inl b2), some (.inl b3), none, none] [.inl s0] := by
  refine ze_istore X dc_M_choose_26 (by decide) (fun x7 => ?_)
  refine ze_iload X dc_M_choose_28 rfl ?_
  refine ze_if_eq (tgt := 43) X dc_M_choose_30 (by decide) (fun _ => ?_) (fun _ => ?_)
  · refine ze_iload_n X dc_M_choose_43 rfl rfl ?_
    refine ze_weak [true, true, true, true, true, false] ?_
    exact w_M_choose_J44 X Y    b1 b2 b3 x7 b3  v
  · refine ze_aload_n X dc_M_choose_33 rfl rfl ?_
    refine ze_iload_n X dc_M_choose_34 rfl rfl ?_
    refine ze_iconst (x := 1) X dc_M_choose_35 (by decide) ?_
    refine ze_iadd X dc_M_choose_36 ?_
    refine ze_callVi (As := [.inl (b3 + 1)]) (st := []) X dc_M_choose_37 zc_M_304 sh_75 (fun zr zv zh => c_M_behind X.2.2.2.2.2.2.1  (b3 + 1)  v zh) rfl (by decide) (by decide) (Nat.le_of_ble_eq_true rfl) (fun r14 v15 => ?_)
    refine ze_goto (tgt := 44) X dc_M_choose_40 (by decide) ?_
    refine ze_weak [true, true, true, true, true, false] ?_
    exact w_M_choose_J44 X Y    b1 b2 b3 x7 r14  v15
set_option maxHeartbeats 4000000 in
set_option maxRecDepth 100000 in
theorem w_M_choose {G : ze_G}  (X : ze_X G bc_M_choose cn_M 6 2 45) (Y : ze_Rv G)    (a1 : Int32)  (v : ze_H) : ze_T G (f_M_choose  a1 v) v 0 [some (.inr 75), some (.inl a1), none, none, none, none] [] := by
  refine ze_aload_n X dc_M_choose_0 rfl rfl ?_
  refine ze_geti X dc_M_choose_1 zf_M_204 sh_75 rfl ?_
  refine ze_istore_n X dc_M_choose_4 rfl (by decide) (fun x1 => ?_)
  refine ze_aload_n X dc_M_choose_5 rfl rfl ?_
  refine ze_iload_n X dc_M_choose_6 rfl rfl ?_
  refine ze_callVi (As := [.inl x1]) (st := []) X dc_M_choose_7 zc_M_304 sh_75 (fun zr zv zh => c_M_behind X.2.2.2.2.2.2.1  x1  v zh) rfl (by decide) (by decide) (Nat.le_of_ble_eq_true rfl) (fun r2 v3 => ?_)
  refine ze_istore_n X dc_M_choose_10 rfl (by decide) (fun x4 => ?_)
  refine ze_aload_n X dc_M_choose_11 rfl rfl ?_
  refine ze_iload_n X dc_M_choose_12 rfl rfl ?_
  refine ze_callVi (As := [.inl x4]) (st := []) X dc_M_choose_13 zc_M_207 sh_75 (fun zr zv zh => c_M_here X.2.2.2.2.2.2.1  x4  v3 zh) rfl (by decide) (by decide) (Nat.le_of_ble_eq_true rfl) (fun r5 v6 => ?_)
  refine ze_bipush (x := 58) X dc_M_choose_16 (by decide) ?_
  refine ze_icmp_ne (tgt := 25) X dc_M_choose_18 (by decide) (fun _ => ?_) (fun _ => ?_)
  · refine ze_iconst (x := 1) X dc_M_choose_21 (by decide) ?_
    refine ze_goto (tgt := 26) X dc_M_choose_22 (by decide) ?_
    refine ze_weak [true, true, true, true, false, false] ?_
    exact w_M_choose_J26 X Y    a1 x1 x4 1  v6
  · refine ze_iconst (x := 0) X dc_M_choose_25 (by decide) ?_
    refine ze_weak [true, true, true, true, false, false] ?_
    exact w_M_choose_J26 X Y    a1 x1 x4 0  v6
set_option maxHeartbeats 4000000 in
set_option maxRecDepth 100000 in
theorem c_M_choose {l : Launch} {D : va_G} {ad : Nat → Nat} {ca : Nat → ClassId} (hD : va_D (ze_A ad) (ze_ws ze_sh ad ca (fun _ _ => 0)))     (a1 : Int32)  (v : ze_H) {r : Int32} {v1 : ze_H} (h : f_M_choose  a1 v = some (r, v1)) : ze_Mv l D ad ca my_M_choose bc_M_choose 6 2 45 [.inr 75, .inl a1] v v1 := ze_Mv_of (plainFor_of_name (by decide)) hD (Nat.le_of_ble_eq_true rfl) (fun G e1 e2 e3 e4 X Y => w_M_choose X Y    a1  v) h
def f_M_split  (a1 : Int32) (v : ze_H) : Option (Int32 × ze_H) :=
  ze_call (f_M_behind  (v 75 55) v) (fun r1 v2 => ze_call (f_M_push  2 r1 v2) (fun r3 v4 => ze_in ((v4 75 44) - 1) 20 (ze_lev (ze_u v4 114 (Int32.toNatClampNeg ((v4 75 44) - 1)) ((v4 75 55) + 1)) (fun v5 => ze_in ((v5 75 44) - 1) 20 (ze_lev (ze_u v5 115 (Int32.toNatClampNeg ((v5 75 44) - 1)) a1) (fun v6 => ze_in ((v6 75 44) - 1) 20 (ze_lev (ze_u v6 116 (Int32.toNatClampNeg ((v6 75 44) - 1)) 0) (fun v7 => ze_in ((v7 75 44) - 1) 20 (ze_lev (ze_u v7 117 (Int32.toNatClampNeg ((v7 75 44) - 1)) 0) (fun v8 => ze_in (v8 75 40) 16 (ze_in ((v8 75 44) - 1) 20 (ze_lev (ze_u v8 118 (Int32.toNatClampNeg ((v8 75 44) - 1)) (v8 108 (Int32.toNatClampNeg (v8 75 40)))) (fun v9 => ze_call (f_M_part   v9) (fun r10 v11 => some (0, v11)))))))))))))))
set_option maxHeartbeats 4000000 in
set_option maxRecDepth 100000 in
theorem w_M_split {G : ze_G}  (X : ze_X G bc_M_split cn_M 2 2 45) (Y : ze_Rv G)    (a1 : Int32)  (v : ze_H) : ze_T G (f_M_split  a1 v) v 0 [some (.inr 75), some (.inl a1)] [] := by
  refine ze_aload_n X dc_M_split_0 rfl rfl ?_
  refine ze_iconst (x := 2) X dc_M_split_1 (by decide) ?_
  refine ze_aload_n X dc_M_split_2 rfl rfl ?_
  refine ze_aload_n X dc_M_split_3 rfl rfl ?_
  refine ze_geti X dc_M_split_4 zf_M_204 sh_75 rfl ?_
  refine ze_callVi (As := [.inl (v 75 55)]) (st := [.inl 2, .inr 75]) X dc_M_split_7 zc_M_304 sh_75 (fun zr zv zh => c_M_behind X.2.2.2.2.2.2.1  (v 75 55)  v zh) rfl (by decide) (by decide) (Nat.le_of_ble_eq_true rfl) (fun r1 v2 => ?_)
  refine ze_callVv (As := [.inl 2, .inl r1]) (st := []) X dc_M_split_10 zc_M_307 sh_75 (fun zr zv zh => c_M_push X.2.2.2.2.2.2.1  2 r1  v2 zh) rfl (by decide) (by decide) (Nat.le_of_ble_eq_true rfl) (fun r3 v4 => ?_)
  refine ze_aload_n X dc_M_split_13 rfl rfl ?_
  refine ze_getr X dc_M_split_14 zf_M_126 sh_75 rfl ?_
  refine ze_aload_n X dc_M_split_17 rfl rfl ?_
  refine ze_geti X dc_M_split_18 zf_M_217 sh_75 rfl ?_
  refine ze_iconst (x := 1) X dc_M_split_21 (by decide) ?_
  refine ze_isub X dc_M_split_22 ?_
  refine ze_aload_n X dc_M_split_23 rfl rfl ?_
  refine ze_geti X dc_M_split_24 zf_M_204 sh_75 rfl ?_
  refine ze_iconst (x := 1) X dc_M_split_27 (by decide) ?_
  refine ze_iadd X dc_M_split_28 ?_
  refine ze_iast X dc_M_split_29 sh_114 rfl (fun v5 _ => ?_)
  refine ze_aload_n X dc_M_split_30 rfl rfl ?_
  refine ze_getr X dc_M_split_31 zf_M_129 sh_75 rfl ?_
  refine ze_aload_n X dc_M_split_34 rfl rfl ?_
  refine ze_geti X dc_M_split_35 zf_M_217 sh_75 rfl ?_
  refine ze_iconst (x := 1) X dc_M_split_38 (by decide) ?_
  refine ze_isub X dc_M_split_39 ?_
  refine ze_iload_n X dc_M_split_40 rfl rfl ?_
  refine ze_iast X dc_M_split_41 sh_115 rfl (fun v6 _ => ?_)
  refine ze_aload_n X dc_M_split_42 rfl rfl ?_
  refine ze_getr X dc_M_split_43 zf_M_132 sh_75 rfl ?_
  refine ze_aload_n X dc_M_split_46 rfl rfl ?_
  refine ze_geti X dc_M_split_47 zf_M_217 sh_75 rfl ?_
  refine ze_iconst (x := 1) X dc_M_split_50 (by decide) ?_
  refine ze_isub X dc_M_split_51 ?_
  refine ze_iconst (x := 0) X dc_M_split_52 (by decide) ?_
  refine ze_iast X dc_M_split_53 sh_116 rfl (fun v7 _ => ?_)
  refine ze_aload_n X dc_M_split_54 rfl rfl ?_
  refine ze_getr X dc_M_split_55 zf_M_135 sh_75 rfl ?_
  refine ze_aload_n X dc_M_split_58 rfl rfl ?_
  refine ze_geti X dc_M_split_59 zf_M_217 sh_75 rfl ?_
  refine ze_iconst (x := 1) X dc_M_split_62 (by decide) ?_
  refine ze_isub X dc_M_split_63 ?_
  refine ze_iconst (x := 0) X dc_M_split_64 (by decide) ?_
  refine ze_iast X dc_M_split_65 sh_117 rfl (fun v8 _ => ?_)
  refine ze_aload_n X dc_M_split_66 rfl rfl ?_
  refine ze_getr X dc_M_split_67 zf_M_138 sh_75 rfl ?_
  refine ze_aload_n X dc_M_split_70 rfl rfl ?_
  refine ze_geti X dc_M_split_71 zf_M_217 sh_75 rfl ?_
  refine ze_iconst (x := 1) X dc_M_split_74 (by decide) ?_
  refine ze_isub X dc_M_split_75 ?_
  refine ze_aload_n X dc_M_split_76 rfl rfl ?_
  refine ze_getr X dc_M_split_77 zf_M_108 sh_75 rfl ?_
  refine ze_aload_n X dc_M_split_80 rfl rfl ?_
  refine ze_geti X dc_M_split_81 zf_M_211 sh_75 rfl ?_
  refine ze_iald X dc_M_split_84 sh_108 rfl (fun _ => ?_)
  refine ze_iast X dc_M_split_85 sh_118 rfl (fun v9 _ => ?_)
  refine ze_aload_n X dc_M_split_86 rfl rfl ?_
  refine ze_callVv (As := []) (st := []) X dc_M_split_87 zc_M_230 sh_75 (fun zr zv zh => c_M_part X.2.2.2.2.2.2.1    v9 zh) rfl (by decide) (by decide) (Nat.le_of_ble_eq_true rfl) (fun r10 v11 => ?_)
  exact ze_vret X Y dc_M_split_90
set_option maxHeartbeats 4000000 in
set_option maxRecDepth 100000 in
theorem c_M_split {l : Launch} {D : va_G} {ad : Nat → Nat} {ca : Nat → ClassId} (hD : va_D (ze_A ad) (ze_ws ze_sh ad ca (fun _ _ => 0)))     (a1 : Int32)  (v : ze_H) {r : Int32} {v1 : ze_H} (h : f_M_split  a1 v = some (r, v1)) : ze_Mv l D ad ca my_M_split bc_M_split 2 2 45 [.inr 75, .inl a1] v v1 := ze_Mv_of (plainFor_of_name (by decide)) hD (Nat.le_of_ble_eq_true rfl) (fun G e1 e2 e3 e4 X Y => w_M_split X Y    a1  v) h
def f_M_visit  (a1 : Int32) (v : ze_H) : Option (Int32 × ze_H) :=
  ze_call (f_M_push  0 (v 75 55) v) (fun r1 v2 => ze_lev (ze_u v2 75 53 a1) (fun v3 => ze_lev (ze_u v3 75 54 0) (fun v4 => some (0, v4))))
set_option maxHeartbeats 4000000 in
set_option maxRecDepth 100000 in
theorem w_M_visit {G : ze_G}  (X : ze_X G bc_M_visit cn_M 2 1 22) (Y : ze_Rv G)    (a1 : Int32)  (v : ze_H) : ze_T G (f_M_visit  a1 v) v 0 [some (.inr 75), some (.inl a1)] [] := by
  refine ze_aload_n X dc_M_visit_0 rfl rfl ?_
  refine ze_iconst (x := 0) X dc_M_visit_1 (by decide) ?_
  refine ze_aload_n X dc_M_visit_2 rfl rfl ?_
  refine ze_geti X dc_M_visit_3 zf_M_204 sh_75 rfl ?_
  refine ze_callVv (As := [.inl 0, .inl (v 75 55)]) (st := []) X dc_M_visit_6 zc_M_307 sh_75 (fun zr zv zh => c_M_push X.2.2.2.2.2.2.1  0 (v 75 55)  v zh) rfl (by decide) (by decide) (Nat.le_of_ble_eq_true rfl) (fun r1 v2 => ?_)
  refine ze_aload_n X dc_M_visit_9 rfl rfl ?_
  refine ze_iload_n X dc_M_visit_10 rfl rfl ?_
  refine ze_puti X dc_M_visit_11 zp_M_201 sh_75 rfl (fun v3 => ?_)
  refine ze_aload_n X dc_M_visit_14 rfl rfl ?_
  refine ze_iconst (x := 0) X dc_M_visit_15 (by decide) ?_
  refine ze_puti X dc_M_visit_16 zp_M_227 sh_75 rfl (fun v4 => ?_)
  exact ze_vret X Y dc_M_visit_19
set_option maxHeartbeats 4000000 in
set_option maxRecDepth 100000 in
theorem c_M_visit {l : Launch} {D : va_G} {ad : Nat → Nat} {ca : Nat → ClassId} (hD : va_D (ze_A ad) (ze_ws ze_sh ad ca (fun _ _ => 0)))     (a1 : Int32)  (v : ze_H) {r : Int32} {v1 : ze_H} (h : f_M_visit  a1 v = some (r, v1)) : ze_Mv l D ad ca my_M_visit bc_M_visit 2 1 22 [.inr 75, .inl a1] v v1 := ze_Mv_of (plainFor_of_name (by decide)) hD (Nat.le_of_ble_eq_true rfl) (fun G e1 e2 e3 e4 X Y => w_M_visit X Y    a1  v) h
def f_M_copy  (a1 : Int32) (v : ze_H) : Option (Int32 × ze_H) :=
  (if (v 75 18) < 8 then ze_in (v 75 18) 8 (ze_lev (ze_u v 91 (Int32.toNatClampNeg (v 75 18)) a1) (fun v1 => ze_in (v1 75 40) 16 (ze_in (v1 75 18) 8 (ze_lev (ze_u v1 92 (Int32.toNatClampNeg (v1 75 18)) (v1 108 (Int32.toNatClampNeg (v1 75 40)))) (fun v2 => ze_in (v2 75 40) 16 (ze_in (v2 75 18) 8 (ze_lev (ze_u v2 93 (Int32.toNatClampNeg (v2 75 18)) (v2 109 (Int32.toNatClampNeg (v2 75 40)))) (fun v3 => ze_lev (ze_u v3 75 18 ((v3 75 18) + 1)) (fun v4 => ze_lev (ze_u v4 75 54 (v4 75 55)) (fun v5 => some (0, v5))))))))))) else some (6, v))
set_option maxHeartbeats 4000000 in
set_option maxRecDepth 100000 in
theorem w_M_copy {G : ze_G}  (X : ze_X G bc_M_copy cn_M 2 0 0) (Y : ze_Ri G .int)    (a1 : Int32)  (v : ze_H) : ze_T G (f_M_copy  a1 v) v 0 [some (.inr 75), some (.inl a1)] [] := by
  refine ze_aload_n X dc_M_copy_0 rfl rfl ?_
  refine ze_geti X dc_M_copy_1 zf_M_189 sh_75 rfl ?_
  refine ze_bipush (x := 8) X dc_M_copy_4 (by decide) ?_
  refine ze_icmp_lt (tgt := 12) X dc_M_copy_6 (by decide) (fun _ => ?_) (fun _ => ?_)
  · refine ze_aload_n X dc_M_copy_12 rfl rfl ?_
    refine ze_getr X dc_M_copy_13 zf_M_57 sh_75 rfl ?_
    refine ze_aload_n X dc_M_copy_16 rfl rfl ?_
    refine ze_geti X dc_M_copy_17 zf_M_189 sh_75 rfl ?_
    refine ze_iload_n X dc_M_copy_20 rfl rfl ?_
    refine ze_iast X dc_M_copy_21 sh_91 rfl (fun v1 _ => ?_)
    refine ze_aload_n X dc_M_copy_22 rfl rfl ?_
    refine ze_getr X dc_M_copy_23 zf_M_60 sh_75 rfl ?_
    refine ze_aload_n X dc_M_copy_26 rfl rfl ?_
    refine ze_geti X dc_M_copy_27 zf_M_189 sh_75 rfl ?_
    refine ze_aload_n X dc_M_copy_30 rfl rfl ?_
    refine ze_getr X dc_M_copy_31 zf_M_108 sh_75 rfl ?_
    refine ze_aload_n X dc_M_copy_34 rfl rfl ?_
    refine ze_geti X dc_M_copy_35 zf_M_211 sh_75 rfl ?_
    refine ze_iald X dc_M_copy_38 sh_108 rfl (fun _ => ?_)
    refine ze_iast X dc_M_copy_39 sh_92 rfl (fun v2 _ => ?_)
    refine ze_aload_n X dc_M_copy_40 rfl rfl ?_
    refine ze_getr X dc_M_copy_41 zf_M_63 sh_75 rfl ?_
    refine ze_aload_n X dc_M_copy_44 rfl rfl ?_
    refine ze_geti X dc_M_copy_45 zf_M_189 sh_75 rfl ?_
    refine ze_aload_n X dc_M_copy_48 rfl rfl ?_
    refine ze_getr X dc_M_copy_49 zf_M_111 sh_75 rfl ?_
    refine ze_aload_n X dc_M_copy_52 rfl rfl ?_
    refine ze_geti X dc_M_copy_53 zf_M_211 sh_75 rfl ?_
    refine ze_iald X dc_M_copy_56 sh_109 rfl (fun _ => ?_)
    refine ze_iast X dc_M_copy_57 sh_93 rfl (fun v3 _ => ?_)
    refine ze_aload_n X dc_M_copy_58 rfl rfl ?_
    refine ze_dup X dc_M_copy_59 ?_
    refine ze_geti X dc_M_copy_60 zf_M_189 sh_75 rfl ?_
    refine ze_iconst (x := 1) X dc_M_copy_63 (by decide) ?_
    refine ze_iadd X dc_M_copy_64 ?_
    refine ze_puti X dc_M_copy_65 zp_M_189 sh_75 rfl (fun v4 => ?_)
    refine ze_aload_n X dc_M_copy_68 rfl rfl ?_
    refine ze_aload_n X dc_M_copy_69 rfl rfl ?_
    refine ze_geti X dc_M_copy_70 zf_M_204 sh_75 rfl ?_
    refine ze_puti X dc_M_copy_73 zp_M_227 sh_75 rfl (fun v5 => ?_)
    refine ze_iconst (x := 0) X dc_M_copy_76 (by decide) ?_
    exact ze_iret X Y (vp_nar_int _) dc_M_copy_77
  · refine ze_bipush (x := 6) X dc_M_copy_9 (by decide) ?_
    exact ze_iret X Y (vp_nar_int _) dc_M_copy_11
set_option maxHeartbeats 4000000 in
set_option maxRecDepth 100000 in
theorem c_M_copy {l : Launch} {D : va_G} {ad : Nat → Nat} {ca : Nat → ClassId} (hD : va_D (ze_A ad) (ze_ws ze_sh ad ca (fun _ _ => 0)))     (a1 : Int32)  (v : ze_H) {r : Int32} {v1 : ze_H} (h : f_M_copy  a1 v = some (r, v1)) : ze_Mi l D ad ca my_M_copy bc_M_copy 2 .int 0 0 [.inr 75, .inl a1] v r v1 := ze_Mi_of (plainFor_of_name (by decide)) hD (Nat.le_of_ble_eq_true rfl) (fun G e1 e2 e3 e4 X Y => w_M_copy X Y    a1  v) h
def f_M_deliver  (a1 : Int32) (a2 : Int32) (a3 : Int32) (v : ze_H) : Option (Int32 × ze_H) :=
  ze_in a1 5 ((if (8 : Int32) = 0 then none else ze_in ((8 * a1) + ((v 88 (Int32.toNatClampNeg a1)) - (v 88 (Int32.toNatClampNeg a1)) / 8 * 8)) 40 (ze_lev (ze_u v 89 (Int32.toNatClampNeg ((8 * a1) + ((v 88 (Int32.toNatClampNeg a1)) - (v 88 (Int32.toNatClampNeg a1)) / 8 * 8))) a2) (fun v1 => ze_in a1 5 ((if (8 : Int32) = 0 then none else ze_in ((8 * a1) + ((v1 88 (Int32.toNatClampNeg a1)) - (v1 88 (Int32.toNatClampNeg a1)) / 8 * 8)) 40 (ze_lev (ze_u v1 90 (Int32.toNatClampNeg ((8 * a1) + ((v1 88 (Int32.toNatClampNeg a1)) - (v1 88 (Int32.toNatClampNeg a1)) / 8 * 8))) a3) (fun v2 => ze_in a1 5 (ze_in a1 5 (ze_lev (ze_u v2 88 (Int32.toNatClampNeg a1) ((v2 88 (Int32.toNatClampNeg a1)) + 1)) (fun v3 => some (0, v3))))))))))))
set_option maxHeartbeats 4000000 in
set_option maxRecDepth 100000 in
theorem w_M_deliver {G : ze_G}  (X : ze_X G bc_M_deliver cn_M 4 0 0) (Y : ze_Rv G)    (a1 : Int32) (a2 : Int32) (a3 : Int32)  (v : ze_H) : ze_T G (f_M_deliver  a1 a2 a3 v) v 0 [some (.inr 75), some (.inl a1), some (.inl a2), some (.inl a3)] [] := by
  refine ze_aload_n X dc_M_deliver_0 rfl rfl ?_
  refine ze_getr X dc_M_deliver_1 zf_M_51 sh_75 rfl ?_
  refine ze_bipush (x := 8) X dc_M_deliver_4 (by decide) ?_
  refine ze_iload_n X dc_M_deliver_6 rfl rfl ?_
  refine ze_imul X dc_M_deliver_7 ?_
  refine ze_aload_n X dc_M_deliver_8 rfl rfl ?_
  refine ze_getr X dc_M_deliver_9 zf_M_48 sh_75 rfl ?_
  refine ze_iload_n X dc_M_deliver_12 rfl rfl ?_
  refine ze_iald X dc_M_deliver_13 sh_88 rfl (fun _ => ?_)
  refine ze_bipush (x := 8) X dc_M_deliver_14 (by decide) ?_
  refine ze_irem X dc_M_deliver_16 (fun _ => ?_)
  refine ze_iadd X dc_M_deliver_17 ?_
  refine ze_iload_n X dc_M_deliver_18 rfl rfl ?_
  refine ze_iast X dc_M_deliver_19 sh_89 rfl (fun v1 _ => ?_)
  refine ze_aload_n X dc_M_deliver_20 rfl rfl ?_
  refine ze_getr X dc_M_deliver_21 zf_M_54 sh_75 rfl ?_
  refine ze_bipush (x := 8) X dc_M_deliver_24 (by decide) ?_
  refine ze_iload_n X dc_M_deliver_26 rfl rfl ?_
  refine ze_imul X dc_M_deliver_27 ?_
  refine ze_aload_n X dc_M_deliver_28 rfl rfl ?_
  refine ze_getr X dc_M_deliver_29 zf_M_48 sh_75 rfl ?_
  refine ze_iload_n X dc_M_deliver_32 rfl rfl ?_
  refine ze_iald X dc_M_deliver_33 sh_88 rfl (fun _ => ?_)
  refine ze_bipush (x := 8) X dc_M_deliver_34 (by decide) ?_
  refine ze_irem X dc_M_deliver_36 (fun _ => ?_)
  refine ze_iadd X dc_M_deliver_37 ?_
  refine ze_iload_n X dc_M_deliver_38 rfl rfl ?_
  refine ze_iast X dc_M_deliver_39 sh_90 rfl (fun v2 _ => ?_)
  refine ze_aload_n X dc_M_deliver_40 rfl rfl ?_
  refine ze_getr X dc_M_deliver_41 zf_M_48 sh_75 rfl ?_
  refine ze_iload_n X dc_M_deliver_44 rfl rfl ?_
  refine ze_dup2 X dc_M_deliver_45 ?_
  refine ze_iald X dc_M_deliver_46 sh_88 rfl (fun _ => ?_)
  refine ze_iconst (x := 1) X dc_M_deliver_47 (by decide) ?_
  refine ze_iadd X dc_M_deliver_48 ?_
  refine ze_iast X dc_M_deliver_49 sh_88 rfl (fun v3 _ => ?_)
  exact ze_vret X Y dc_M_deliver_50
set_option maxHeartbeats 4000000 in
set_option maxRecDepth 100000 in
theorem c_M_deliver {l : Launch} {D : va_G} {ad : Nat → Nat} {ca : Nat → ClassId} (hD : va_D (ze_A ad) (ze_ws ze_sh ad ca (fun _ _ => 0)))     (a1 : Int32) (a2 : Int32) (a3 : Int32)  (v : ze_H) {r : Int32} {v1 : ze_H} (h : f_M_deliver  a1 a2 a3 v = some (r, v1)) : ze_Mv l D ad ca my_M_deliver bc_M_deliver 4 0 0 [.inr 75, .inl a1, .inl a2, .inl a3] v v1 := ze_Mv_of (plainFor_of_name (by decide)) hD (Nat.le_of_ble_eq_true rfl) (fun G e1 e2 e3 e4 X Y => w_M_deliver X Y    a1 a2 a3  v) h
def f_M_to  (a1 : Int32) (v : ze_H) : Option (Int32 × ze_H) :=
  ze_in a1 4 ((if (v 86 (Int32.toNatClampNeg a1)) ≤ 0 then ze_in (v 75 40) 16 (ze_in (v 75 40) 16 (ze_call (f_M_deliver  a1 (v 108 (Int32.toNatClampNeg (v 75 40))) (v 109 (Int32.toNatClampNeg (v 75 40))) v) (fun r1 v2 => some (0, v2)))) else ze_in a1 4 (ze_in a1 4 (ze_lev (ze_u v 86 (Int32.toNatClampNeg a1) ((v 86 (Int32.toNatClampNeg a1)) - 1)) (fun v3 => ze_in a1 4 (some ((v3 87 (Int32.toNatClampNeg a1)), v3)))))))
set_option maxHeartbeats 4000000 in
set_option maxRecDepth 100000 in
theorem w_M_to {G : ze_G}  (X : ze_X G bc_M_to cn_M 2 1 23) (Y : ze_Ri G .int)    (a1 : Int32)  (v : ze_H) : ze_T G (f_M_to  a1 v) v 0 [some (.inr 75), some (.inl a1)] [] := by
  refine ze_aload_n X dc_M_to_0 rfl rfl ?_
  refine ze_getr X dc_M_to_1 zf_M_42 sh_75 rfl ?_
  refine ze_iload_n X dc_M_to_4 rfl rfl ?_
  refine ze_iald X dc_M_to_5 sh_86 rfl (fun _ => ?_)
  refine ze_if_le (tgt := 26) X dc_M_to_6 (by decide) (fun _ => ?_) (fun _ => ?_)
  · refine ze_aload_n X dc_M_to_26 rfl rfl ?_
    refine ze_iload_n X dc_M_to_27 rfl rfl ?_
    refine ze_aload_n X dc_M_to_28 rfl rfl ?_
    refine ze_getr X dc_M_to_29 zf_M_108 sh_75 rfl ?_
    refine ze_aload_n X dc_M_to_32 rfl rfl ?_
    refine ze_geti X dc_M_to_33 zf_M_211 sh_75 rfl ?_
    refine ze_iald X dc_M_to_36 sh_108 rfl (fun _ => ?_)
    refine ze_aload_n X dc_M_to_37 rfl rfl ?_
    refine ze_getr X dc_M_to_38 zf_M_111 sh_75 rfl ?_
    refine ze_aload_n X dc_M_to_41 rfl rfl ?_
    refine ze_geti X dc_M_to_42 zf_M_211 sh_75 rfl ?_
    refine ze_iald X dc_M_to_45 sh_109 rfl (fun _ => ?_)
    refine ze_callVv (As := [.inl a1, .inl (v 108 (Int32.toNatClampNeg (v 75 40))), .inl (v 109 (Int32.toNatClampNeg (v 75 40)))]) (st := []) X dc_M_to_46 zc_M_257 sh_75 (fun zr zv zh => c_M_deliver X.2.2.2.2.2.2.1  a1 (v 108 (Int32.toNatClampNeg (v 75 40))) (v 109 (Int32.toNatClampNeg (v 75 40)))  v zh) rfl (by decide) (by decide) (Nat.le_of_ble_eq_true rfl) (fun r1 v2 => ?_)
    refine ze_iconst (x := 0) X dc_M_to_49 (by decide) ?_
    exact ze_iret X Y (vp_nar_int _) dc_M_to_50
  · refine ze_aload_n X dc_M_to_9 rfl rfl ?_
    refine ze_getr X dc_M_to_10 zf_M_42 sh_75 rfl ?_
    refine ze_iload_n X dc_M_to_13 rfl rfl ?_
    refine ze_dup2 X dc_M_to_14 ?_
    refine ze_iald X dc_M_to_15 sh_86 rfl (fun _ => ?_)
    refine ze_iconst (x := 1) X dc_M_to_16 (by decide) ?_
    refine ze_isub X dc_M_to_17 ?_
    refine ze_iast X dc_M_to_18 sh_86 rfl (fun v3 _ => ?_)
    refine ze_aload_n X dc_M_to_19 rfl rfl ?_
    refine ze_getr X dc_M_to_20 zf_M_45 sh_75 rfl ?_
    refine ze_iload_n X dc_M_to_23 rfl rfl ?_
    refine ze_iald X dc_M_to_24 sh_87 rfl (fun _ => ?_)
    exact ze_iret X Y (vp_nar_int _) dc_M_to_25
set_option maxHeartbeats 4000000 in
set_option maxRecDepth 100000 in
theorem c_M_to {l : Launch} {D : va_G} {ad : Nat → Nat} {ca : Nat → ClassId} (hD : va_D (ze_A ad) (ze_ws ze_sh ad ca (fun _ _ => 0)))     (a1 : Int32)  (v : ze_H) {r : Int32} {v1 : ze_H} (h : f_M_to  a1 v = some (r, v1)) : ze_Mi l D ad ca my_M_to bc_M_to 2 .int 1 23 [.inr 75, .inl a1] v r v1 := ze_Mi_of (plainFor_of_name (by decide)) hD (Nat.le_of_ble_eq_true rfl) (fun G e1 e2 e3 e4 X Y => w_M_to X Y    a1  v) h
def f_M_one  (a1 : Int32) (v : ze_H) : Option (Int32 × ze_H) :=
  ze_let (v 75 55) (fun x1 => ze_call (f_M_to  a1 v) (fun r2 v3 => ze_let r2 (fun x4 => (if x4 = 0 then ze_lev (ze_u v3 75 54 x1) (fun v5 => some (x4, v5)) else ze_lev (ze_u v3 75 54 (v3 75 54)) (fun v6 => some (x4, v6))))))
set_option maxHeartbeats 4000000 in
set_option maxRecDepth 100000 in
theorem w_M_one {G : ze_G}  (X : ze_X G bc_M_one cn_M 4 2 44) (Y : ze_Ri G .int)    (a1 : Int32)  (v : ze_H) : ze_T G (f_M_one  a1 v) v 0 [some (.inr 75), some (.inl a1), none, none] [] := by
  refine ze_aload_n X dc_M_one_0 rfl rfl ?_
  refine ze_geti X dc_M_one_1 zf_M_204 sh_75 rfl ?_
  refine ze_istore_n X dc_M_one_4 rfl (by decide) (fun x1 => ?_)
  refine ze_aload_n X dc_M_one_5 rfl rfl ?_
  refine ze_iload_n X dc_M_one_6 rfl rfl ?_
  refine ze_callVi (As := [.inl a1]) (st := []) X dc_M_one_7 zc_M_310 sh_75 (fun zr zv zh => c_M_to X.2.2.2.2.2.2.1  a1  v zh) rfl (by decide) (by decide) (Nat.le_of_ble_eq_true rfl) (fun r2 v3 => ?_)
  refine ze_istore_n X dc_M_one_10 rfl (by decide) (fun x4 => ?_)
  refine ze_aload_n X dc_M_one_11 rfl rfl ?_
  refine ze_iload_n X dc_M_one_12 rfl rfl ?_
  refine ze_if_ne (tgt := 20) X dc_M_one_13 (by decide) (fun _ => ?_) (fun _ => ?_)
  · refine ze_iload_n X dc_M_one_16 rfl rfl ?_
    refine ze_goto (tgt := 24) X dc_M_one_17 (by decide) ?_
    refine ze_puti X dc_M_one_24 zp_M_227 sh_75 rfl (fun v5 => ?_)
    refine ze_iload_n X dc_M_one_27 rfl rfl ?_
    exact ze_iret X Y (vp_nar_int _) dc_M_one_28
  · refine ze_aload_n X dc_M_one_20 rfl rfl ?_
    refine ze_geti X dc_M_one_21 zf_M_227 sh_75 rfl ?_
    refine ze_puti X dc_M_one_24 zp_M_227 sh_75 rfl (fun v6 => ?_)
    refine ze_iload_n X dc_M_one_27 rfl rfl ?_
    exact ze_iret X Y (vp_nar_int _) dc_M_one_28
set_option maxHeartbeats 4000000 in
set_option maxRecDepth 100000 in
theorem c_M_one {l : Launch} {D : va_G} {ad : Nat → Nat} {ca : Nat → ClassId} (hD : va_D (ze_A ad) (ze_ws ze_sh ad ca (fun _ _ => 0)))     (a1 : Int32)  (v : ze_H) {r : Int32} {v1 : ze_H} (h : f_M_one  a1 v = some (r, v1)) : ze_Mi l D ad ca my_M_one bc_M_one 4 .int 2 44 [.inr 75, .inl a1] v r v1 := ze_Mi_of (plainFor_of_name (by decide)) hD (Nat.le_of_ble_eq_true rfl) (fun G e1 e2 e3 e4 X Y => w_M_one X Y    a1  v) h
def f_M_several_L2   (kk : ze_H → Option (Int32 × ze_H)) : Nat → Int32 → ze_H → Option (Int32 × ze_H)
  | 0, _, _ => none
  | n + 1, l1, v =>
    (if 4 ≤ l1 then (kk  v) else ze_in (v 75 40) 16 ((if (((v 109 (Int32.toNatClampNeg (v 75 40))) >>> (l1 &&& 31)) &&& 1) = 1 then ze_call (f_M_to  l1 v) (fun r2 v3 => ze_let r2 (fun x4 => (if x4 ≤ 0 then ze_let (l1 + 1) (fun x5 => (f_M_several_L2   kk n x5 v3)) else some (x4, v3)))) else ze_let 0 (fun x6 => (if x6 ≤ 0 then ze_let (l1 + 1) (fun x7 => (f_M_several_L2   kk n x7 v)) else some (x6, v))))))
def f_M_several   (v : ze_H) : Option (Int32 × ze_H) :=
  ze_let 0 (fun x1 => (f_M_several_L2   (fun  v8 => ze_lev (ze_u v8 75 54 ((v8 75 54) + 1)) (fun v9 => some (0, v9))) 200000 x1 v))
set_option maxHeartbeats 4000000 in
set_option maxRecDepth 100000 in
theorem w_M_several_L2 {G : ze_G}  (X : ze_X G bc_M_several cn_M 3 2 44) (Y : ze_Ri G .int)      {kk : ze_H → Option (Int32 × ze_H)} (hkk : ∀ (v : ze_H), ze_T G (kk  v) v 46 [some (.inr 75), none, none] []) : ∀ (n : Nat) (l1 : Int32) (v : ze_H), ze_T G (f_M_several_L2   kk n l1 v) v 2 [some (.inr 75), some (.inl l1), none] [] := by
  intro n
  induction n with
  | zero => intro l1 v; exact ze_none
  | succ n ih =>
    intro l1 v
    refine ze_iload_n X dc_M_several_2 rfl rfl ?_
    refine ze_iconst (x := 4) X dc_M_several_3 (by decide) ?_
    refine ze_icmp_ge (tgt := 46) X dc_M_several_4 (by decide) (fun _ => ?_) (fun _ => ?_)
    · refine ze_weak [true, false, false] ?_
      exact hkk  v
    · refine ze_aload_n X dc_M_several_7 rfl rfl ?_
      refine ze_getr X dc_M_several_8 zf_M_111 sh_75 rfl ?_
      refine ze_aload_n X dc_M_several_11 rfl rfl ?_
      refine ze_geti X dc_M_several_12 zf_M_211 sh_75 rfl ?_
      refine ze_iald X dc_M_several_15 sh_109 rfl (fun _ => ?_)
      refine ze_iload_n X dc_M_several_16 rfl rfl ?_
      refine ze_ishr X dc_M_several_17 ?_
      refine ze_iconst (x := 1) X dc_M_several_18 (by decide) ?_
      refine ze_iand X dc_M_several_19 ?_
      refine ze_iconst (x := 1) X dc_M_several_20 (by decide) ?_
      refine ze_icmp_ne (tgt := 32) X dc_M_several_21 (by decide) (fun _ => ?_) (fun _ => ?_)
      · refine ze_aload_n X dc_M_several_24 rfl rfl ?_
        refine ze_iload_n X dc_M_several_25 rfl rfl ?_
        refine ze_callVi (As := [.inl l1]) (st := []) X dc_M_several_26 zc_M_310 sh_75 (fun zr zv zh => c_M_to X.2.2.2.2.2.2.1  l1  v zh) rfl (by decide) (by decide) (Nat.le_of_ble_eq_true rfl) (fun r2 v3 => ?_)
        refine ze_goto (tgt := 33) X dc_M_several_29 (by decide) ?_
        refine ze_istore_n X dc_M_several_33 rfl (by decide) (fun x4 => ?_)
        refine ze_iload_n X dc_M_several_34 rfl rfl ?_
        refine ze_if_le (tgt := 40) X dc_M_several_35 (by decide) (fun _ => ?_) (fun _ => ?_)
        · refine ze_iinc (y := 1) X dc_M_several_40 rfl (by decide) (by decide) (fun x5 => ?_)
          refine ze_goto (tgt := 2) X dc_M_several_43 (by decide) ?_
          refine ze_weak [true, true, false] ?_
          exact ih x5 v3
        · refine ze_iload_n X dc_M_several_38 rfl rfl ?_
          exact ze_iret X Y (vp_nar_int _) dc_M_several_39
      · refine ze_iconst (x := 0) X dc_M_several_32 (by decide) ?_
        refine ze_istore_n X dc_M_several_33 rfl (by decide) (fun x6 => ?_)
        refine ze_iload_n X dc_M_several_34 rfl rfl ?_
        refine ze_if_le (tgt := 40) X dc_M_several_35 (by decide) (fun _ => ?_) (fun _ => ?_)
        · refine ze_iinc (y := 1) X dc_M_several_40 rfl (by decide) (by decide) (fun x7 => ?_)
          refine ze_goto (tgt := 2) X dc_M_several_43 (by decide) ?_
          refine ze_weak [true, true, false] ?_
          exact ih x7 v
        · refine ze_iload_n X dc_M_several_38 rfl rfl ?_
          exact ze_iret X Y (vp_nar_int _) dc_M_several_39
set_option maxHeartbeats 4000000 in
set_option maxRecDepth 100000 in
theorem w_M_several {G : ze_G}  (X : ze_X G bc_M_several cn_M 3 2 44) (Y : ze_Ri G .int)      (v : ze_H) : ze_T G (f_M_several   v) v 0 [some (.inr 75), none, none] [] := by
  refine ze_iconst (x := 0) X dc_M_several_0 (by decide) ?_
  refine ze_istore_n X dc_M_several_1 rfl (by decide) (fun x1 => ?_)
  refine ze_weak [true, true, false] ?_
  refine w_M_several_L2 X Y      (fun  v8 => ?_) 200000 x1 v
  refine ze_aload_n X dc_M_several_46 rfl rfl ?_
  refine ze_dup X dc_M_several_47 ?_
  refine ze_geti X dc_M_several_48 zf_M_227 sh_75 rfl ?_
  refine ze_iconst (x := 1) X dc_M_several_51 (by decide) ?_
  refine ze_iadd X dc_M_several_52 ?_
  refine ze_puti X dc_M_several_53 zp_M_227 sh_75 rfl (fun v9 => ?_)
  refine ze_iconst (x := 0) X dc_M_several_56 (by decide) ?_
  exact ze_iret X Y (vp_nar_int _) dc_M_several_57
set_option maxHeartbeats 4000000 in
set_option maxRecDepth 100000 in
theorem c_M_several {l : Launch} {D : va_G} {ad : Nat → Nat} {ca : Nat → ClassId} (hD : va_D (ze_A ad) (ze_ws ze_sh ad ca (fun _ _ => 0)))       (v : ze_H) {r : Int32} {v1 : ze_H} (h : f_M_several   v = some (r, v1)) : ze_Mi l D ad ca my_M_several bc_M_several 3 .int 2 44 [.inr 75] v r v1 := ze_Mi_of (plainFor_of_name (by decide)) hD (Nat.le_of_ble_eq_true rfl) (fun G e1 e2 e3 e4 X Y => w_M_several X Y      v) h
def f_M_once_L27  (b1 : Int32) (b2 : Int32) (b3 : Int32) (kk : ze_H → Option (Int32 × ze_H)) : Nat → Int32 → ze_H → Option (Int32 × ze_H)
  | 0, _, _ => none
  | n + 1, l4, v =>
    ze_in b1 160 ((if (v 104 (Int32.toNatClampNeg b1)) ≤ l4 then (kk  v) else ze_in (b3 + l4) 640 ((if (v 103 (Int32.toNatClampNeg (b3 + l4))) = b2 then ze_lev (ze_u v 75 56 4) (fun v5 => ze_let (l4 + 1) (fun x6 => (f_M_once_L27  b1 b2 b3 kk n x6 v5))) else ze_let (l4 + 1) (fun x7 => (f_M_once_L27  b1 b2 b3 kk n x7 v))))))
def f_M_once_L83  (b1 : Int32) (b2 : Int32) (b3 : Int32) (kk : ze_H → Option (Int32 × ze_H)) : Nat → Int32 → ze_H → Option (Int32 × ze_H)
  | 0, _, _ => none
  | n + 1, l4, v =>
    (if 3 ≤ l4 then (kk  v) else ze_in ((b3 + l4) + 1) 640 (ze_in (b3 + l4) 640 (ze_lev (ze_u v 103 (Int32.toNatClampNeg (b3 + l4)) (v 103 (Int32.toNatClampNeg ((b3 + l4) + 1)))) (fun v10 => ze_let (l4 + 1) (fun x11 => (f_M_once_L83  b1 b2 b3 kk n x11 v10))))))
def f_M_once_J122  (b1 : Int32) (b2 : Int32) (b3 : Int32) (v : ze_H) : Option (Int32 × ze_H) :=
  ze_in b1 160 (ze_in (b3 + (v 104 (Int32.toNatClampNeg b1))) 640 (ze_lev (ze_u v 103 (Int32.toNatClampNeg (b3 + (v 104 (Int32.toNatClampNeg b1)))) b2) (fun v14 => ze_in b1 160 (ze_in b1 160 (ze_lev (ze_u v14 104 (Int32.toNatClampNeg b1) ((v14 104 (Int32.toNatClampNeg b1)) + 1)) (fun v15 => some (0, v15)))))))
def f_M_once  (a1 : Int32) (v : ze_H) : Option (Int32 × ze_H) :=
  ze_in (v 75 40) 16 (ze_let (v 109 (Int32.toNatClampNeg (v 75 40))) (fun x1 => ze_let (4 * a1) (fun x2 => ze_lev (ze_u v 75 54 ((v 75 54) + 1)) (fun v3 => ze_let 0 (fun x4 => (f_M_once_L27  a1 x1 x2 (fun  v8 => (if (v8 75 56) ≤ 0 then ze_in a1 160 ((if (v8 104 (Int32.toNatClampNeg a1)) = 4 then ze_let 0 (fun x9 => (f_M_once_L83  a1 x1 x2 (fun  v12 => ze_in a1 160 (ze_lev (ze_u v12 104 (Int32.toNatClampNeg a1) 3) (fun v13 => (f_M_once_J122  a1 x1 x2 v13)))) 200000 x9 v8)) else (f_M_once_J122  a1 x1 x2 v8))) else some (0, v8))) 200000 x4 v3))))))
set_option maxHeartbeats 4000000 in
set_option maxRecDepth 100000 in
theorem w_M_once_L27 {G : ze_G}  (X : ze_X G bc_M_once cn_M 5 0 0) (Y : ze_Rv G)    (b1 : Int32) (b2 : Int32) (b3 : Int32)  {kk : ze_H → Option (Int32 × ze_H)} (hkk : ∀ (v : ze_H), ze_T G (kk  v) v 62 [some (.inr 75), some (.inl b1), some (.inl b2), some (.inl b3), none] []) : ∀ (n : Nat) (l4 : Int32) (v : ze_H), ze_T G (f_M_once_L27  b1 b2 b3 kk n l4 v) v 27 [some (.inr 75), some (.inl b1), some (.inl b2), some (.inl b3), some (.inl l4)] [] := by
  intro n
  induction n with
  | zero => intro l4 v; exact ze_none
  | succ n ih =>
    intro l4 v
    refine ze_iload X dc_M_once_27 rfl ?_
    refine ze_aload_n X dc_M_once_29 rfl rfl ?_
    refine ze_getr X dc_M_once_30 zf_M_96 sh_75 rfl ?_
    refine ze_iload_n X dc_M_once_33 rfl rfl ?_
    refine ze_iald X dc_M_once_34 sh_104 rfl (fun _ => ?_)
    refine ze_icmp_ge (tgt := 62) X dc_M_once_35 (by decide) (fun _ => ?_) (fun _ => ?_)
    · refine ze_weak [true, true, true, true, false] ?_
      exact hkk  v
    · refine ze_aload_n X dc_M_once_38 rfl rfl ?_
      refine ze_getr X dc_M_once_39 zf_M_93 sh_75 rfl ?_
      refine ze_iload_n X dc_M_once_42 rfl rfl ?_
      refine ze_iload X dc_M_once_43 rfl ?_
      refine ze_iadd X dc_M_once_45 ?_
      refine ze_iald X dc_M_once_46 sh_103 rfl (fun _ => ?_)
      refine ze_iload_n X dc_M_once_47 rfl rfl ?_
      refine ze_icmp_ne (tgt := 56) X dc_M_once_48 (by decide) (fun _ => ?_) (fun _ => ?_)
      · refine ze_aload_n X dc_M_once_51 rfl rfl ?_
        refine ze_iconst (x := 4) X dc_M_once_52 (by decide) ?_
        refine ze_puti X dc_M_once_53 zp_M_247 sh_75 rfl (fun v5 => ?_)
        refine ze_iinc (y := 1) X dc_M_once_56 rfl (by decide) (by decide) (fun x6 => ?_)
        refine ze_goto (tgt := 27) X dc_M_once_59 (by decide) ?_
        refine ze_weak [true, true, true, true, true] ?_
        exact ih x6 v5
      · refine ze_iinc (y := 1) X dc_M_once_56 rfl (by decide) (by decide) (fun x7 => ?_)
        refine ze_goto (tgt := 27) X dc_M_once_59 (by decide) ?_
        refine ze_weak [true, true, true, true, true] ?_
        exact ih x7 v
set_option maxHeartbeats 4000000 in
set_option maxRecDepth 100000 in
theorem w_M_once_L83 {G : ze_G}  (X : ze_X G bc_M_once cn_M 5 0 0) (Y : ze_Rv G)    (b1 : Int32) (b2 : Int32) (b3 : Int32)  {kk : ze_H → Option (Int32 × ze_H)} (hkk : ∀ (v : ze_H), ze_T G (kk  v) v 115 [some (.inr 75), some (.inl b1), some (.inl b2), some (.inl b3), none] []) : ∀ (n : Nat) (l4 : Int32) (v : ze_H), ze_T G (f_M_once_L83  b1 b2 b3 kk n l4 v) v 83 [some (.inr 75), some (.inl b1), some (.inl b2), some (.inl b3), some (.inl l4)] [] := by
  intro n
  induction n with
  | zero => intro l4 v; exact ze_none
  | succ n ih =>
    intro l4 v
    refine ze_iload X dc_M_once_83 rfl ?_
    refine ze_iconst (x := 3) X dc_M_once_85 (by decide) ?_
    refine ze_icmp_ge (tgt := 115) X dc_M_once_86 (by decide) (fun _ => ?_) (fun _ => ?_)
    · refine ze_weak [true, true, true, true, false] ?_
      exact hkk  v
    · refine ze_aload_n X dc_M_once_89 rfl rfl ?_
      refine ze_getr X dc_M_once_90 zf_M_93 sh_75 rfl ?_
      refine ze_iload_n X dc_M_once_93 rfl rfl ?_
      refine ze_iload X dc_M_once_94 rfl ?_
      refine ze_iadd X dc_M_once_96 ?_
      refine ze_aload_n X dc_M_once_97 rfl rfl ?_
      refine ze_getr X dc_M_once_98 zf_M_93 sh_75 rfl ?_
      refine ze_iload_n X dc_M_once_101 rfl rfl ?_
      refine ze_iload X dc_M_once_102 rfl ?_
      refine ze_iadd X dc_M_once_104 ?_
      refine ze_iconst (x := 1) X dc_M_once_105 (by decide) ?_
      refine ze_iadd X dc_M_once_106 ?_
      refine ze_iald X dc_M_once_107 sh_103 rfl (fun _ => ?_)
      refine ze_iast X dc_M_once_108 sh_103 rfl (fun v10 _ => ?_)
      refine ze_iinc (y := 1) X dc_M_once_109 rfl (by decide) (by decide) (fun x11 => ?_)
      refine ze_goto (tgt := 83) X dc_M_once_112 (by decide) ?_
      refine ze_weak [true, true, true, true, true] ?_
      exact ih x11 v10
set_option maxHeartbeats 4000000 in
set_option maxRecDepth 100000 in
theorem w_M_once_J122 {G : ze_G}  (X : ze_X G bc_M_once cn_M 5 0 0) (Y : ze_Rv G)    (b1 : Int32) (b2 : Int32) (b3 : Int32)  (v : ze_H) : ze_T G (f_M_once_J122  b1 b2 b3 v) v 122 [some (.inr 75), some (.inl b1), some (.inl b2), some (.inl b3), none] [] := by
  refine ze_aload_n X dc_M_once_122 rfl rfl ?_
  refine ze_getr X dc_M_once_123 zf_M_93 sh_75 rfl ?_
  refine ze_iload_n X dc_M_once_126 rfl rfl ?_
  refine ze_aload_n X dc_M_once_127 rfl rfl ?_
  refine ze_getr X dc_M_once_128 zf_M_96 sh_75 rfl ?_
  refine ze_iload_n X dc_M_once_131 rfl rfl ?_
  refine ze_iald X dc_M_once_132 sh_104 rfl (fun _ => ?_)
  refine ze_iadd X dc_M_once_133 ?_
  refine ze_iload_n X dc_M_once_134 rfl rfl ?_
  refine ze_iast X dc_M_once_135 sh_103 rfl (fun v14 _ => ?_)
  refine ze_aload_n X dc_M_once_136 rfl rfl ?_
  refine ze_getr X dc_M_once_137 zf_M_96 sh_75 rfl ?_
  refine ze_iload_n X dc_M_once_140 rfl rfl ?_
  refine ze_dup2 X dc_M_once_141 ?_
  refine ze_iald X dc_M_once_142 sh_104 rfl (fun _ => ?_)
  refine ze_iconst (x := 1) X dc_M_once_143 (by decide) ?_
  refine ze_iadd X dc_M_once_144 ?_
  refine ze_iast X dc_M_once_145 sh_104 rfl (fun v15 _ => ?_)
  exact ze_vret X Y dc_M_once_146
set_option maxHeartbeats 4000000 in
set_option maxRecDepth 100000 in
theorem w_M_once {G : ze_G}  (X : ze_X G bc_M_once cn_M 5 0 0) (Y : ze_Rv G)    (a1 : Int32)  (v : ze_H) : ze_T G (f_M_once  a1 v) v 0 [some (.inr 75), some (.inl a1), none, none, none] [] := by
  refine ze_aload_n X dc_M_once_0 rfl rfl ?_
  refine ze_getr X dc_M_once_1 zf_M_111 sh_75 rfl ?_
  refine ze_aload_n X dc_M_once_4 rfl rfl ?_
  refine ze_geti X dc_M_once_5 zf_M_211 sh_75 rfl ?_
  refine ze_iald X dc_M_once_8 sh_109 rfl (fun _ => ?_)
  refine ze_istore_n X dc_M_once_9 rfl (by decide) (fun x1 => ?_)
  refine ze_iconst (x := 4) X dc_M_once_10 (by decide) ?_
  refine ze_iload_n X dc_M_once_11 rfl rfl ?_
  refine ze_imul X dc_M_once_12 ?_
  refine ze_istore_n X dc_M_once_13 rfl (by decide) (fun x2 => ?_)
  refine ze_aload_n X dc_M_once_14 rfl rfl ?_
  refine ze_dup X dc_M_once_15 ?_
  refine ze_geti X dc_M_once_16 zf_M_227 sh_75 rfl ?_
  refine ze_iconst (x := 1) X dc_M_once_19 (by decide) ?_
  refine ze_iadd X dc_M_once_20 ?_
  refine ze_puti X dc_M_once_21 zp_M_227 sh_75 rfl (fun v3 => ?_)
  refine ze_iconst (x := 0) X dc_M_once_24 (by decide) ?_
  refine ze_istore X dc_M_once_25 (by decide) (fun x4 => ?_)
  refine ze_weak [true, true, true, true, true] ?_
  refine w_M_once_L27 X Y    a1 x1 x2  (fun  v8 => ?_) 200000 x4 v3
  refine ze_aload_n X dc_M_once_62 rfl rfl ?_
  refine ze_geti X dc_M_once_63 zf_M_247 sh_75 rfl ?_
  refine ze_if_le (tgt := 70) X dc_M_once_66 (by decide) (fun _ => ?_) (fun _ => ?_)
  · refine ze_aload_n X dc_M_once_70 rfl rfl ?_
    refine ze_getr X dc_M_once_71 zf_M_96 sh_75 rfl ?_
    refine ze_iload_n X dc_M_once_74 rfl rfl ?_
    refine ze_iald X dc_M_once_75 sh_104 rfl (fun _ => ?_)
    refine ze_iconst (x := 4) X dc_M_once_76 (by decide) ?_
    refine ze_icmp_ne (tgt := 122) X dc_M_once_77 (by decide) (fun _ => ?_) (fun _ => ?_)
    · refine ze_iconst (x := 0) X dc_M_once_80 (by decide) ?_
      refine ze_istore X dc_M_once_81 (by decide) (fun x9 => ?_)
      refine ze_weak [true, true, true, true, true] ?_
      refine w_M_once_L83 X Y    a1 x1 x2  (fun  v12 => ?_) 200000 x9 v8
      refine ze_aload_n X dc_M_once_115 rfl rfl ?_
      refine ze_getr X dc_M_once_116 zf_M_96 sh_75 rfl ?_
      refine ze_iload_n X dc_M_once_119 rfl rfl ?_
      refine ze_iconst (x := 3) X dc_M_once_120 (by decide) ?_
      refine ze_iast X dc_M_once_121 sh_104 rfl (fun v13 _ => ?_)
      refine ze_weak [true, true, true, true, false] ?_
      exact w_M_once_J122 X Y    a1 x1 x2  v13
    · refine ze_weak [true, true, true, true, false] ?_
      exact w_M_once_J122 X Y    a1 x1 x2  v8
  · exact ze_vret X Y dc_M_once_69
set_option maxHeartbeats 4000000 in
set_option maxRecDepth 100000 in
theorem c_M_once {l : Launch} {D : va_G} {ad : Nat → Nat} {ca : Nat → ClassId} (hD : va_D (ze_A ad) (ze_ws ze_sh ad ca (fun _ _ => 0)))     (a1 : Int32)  (v : ze_H) {r : Int32} {v1 : ze_H} (h : f_M_once  a1 v = some (r, v1)) : ze_Mv l D ad ca my_M_once bc_M_once 5 0 0 [.inr 75, .inl a1] v v1 := ze_Mv_of (plainFor_of_name (by decide)) hD (Nat.le_of_ble_eq_true rfl) (fun G e1 e2 e3 e4 X Y => w_M_once X Y    a1  v) h
def f_M_makeReady  (a1 : Int32) (a2 : Int32) (a3 : Int32) (v : ze_H) : Option (Int32 × ze_H) :=
  ze_in (v 75 36) 420 (ze_lev (ze_u v 105 (Int32.toNatClampNeg (v 75 36)) a1) (fun v1 => ze_in (v1 75 36) 420 (ze_lev (ze_u v1 106 (Int32.toNatClampNeg (v1 75 36)) a2) (fun v2 => ze_in (v2 75 36) 420 (ze_lev (ze_u v2 107 (Int32.toNatClampNeg (v2 75 36)) a3) (fun v3 => ze_lev (ze_u v3 75 36 ((v3 75 36) + 1)) (fun v4 => some (0, v4))))))))
set_option maxHeartbeats 4000000 in
set_option maxRecDepth 100000 in
theorem w_M_makeReady {G : ze_G}  (X : ze_X G bc_M_makeReady cn_M 4 0 0) (Y : ze_Rv G)    (a1 : Int32) (a2 : Int32) (a3 : Int32)  (v : ze_H) : ze_T G (f_M_makeReady  a1 a2 a3 v) v 0 [some (.inr 75), some (.inl a1), some (.inl a2), some (.inl a3)] [] := by
  refine ze_aload_n X dc_M_makeReady_0 rfl rfl ?_
  refine ze_getr X dc_M_makeReady_1 zf_M_99 sh_75 rfl ?_
  refine ze_aload_n X dc_M_makeReady_4 rfl rfl ?_
  refine ze_geti X dc_M_makeReady_5 zf_M_313 sh_75 rfl ?_
  refine ze_iload_n X dc_M_makeReady_8 rfl rfl ?_
  refine ze_iast X dc_M_makeReady_9 sh_105 rfl (fun v1 _ => ?_)
  refine ze_aload_n X dc_M_makeReady_10 rfl rfl ?_
  refine ze_getr X dc_M_makeReady_11 zf_M_102 sh_75 rfl ?_
  refine ze_aload_n X dc_M_makeReady_14 rfl rfl ?_
  refine ze_geti X dc_M_makeReady_15 zf_M_313 sh_75 rfl ?_
  refine ze_iload_n X dc_M_makeReady_18 rfl rfl ?_
  refine ze_iast X dc_M_makeReady_19 sh_106 rfl (fun v2 _ => ?_)
  refine ze_aload_n X dc_M_makeReady_20 rfl rfl ?_
  refine ze_getr X dc_M_makeReady_21 zf_M_105 sh_75 rfl ?_
  refine ze_aload_n X dc_M_makeReady_24 rfl rfl ?_
  refine ze_geti X dc_M_makeReady_25 zf_M_313 sh_75 rfl ?_
  refine ze_iload_n X dc_M_makeReady_28 rfl rfl ?_
  refine ze_iast X dc_M_makeReady_29 sh_107 rfl (fun v3 _ => ?_)
  refine ze_aload_n X dc_M_makeReady_30 rfl rfl ?_
  refine ze_dup X dc_M_makeReady_31 ?_
  refine ze_geti X dc_M_makeReady_32 zf_M_313 sh_75 rfl ?_
  refine ze_iconst (x := 1) X dc_M_makeReady_35 (by decide) ?_
  refine ze_iadd X dc_M_makeReady_36 ?_
  refine ze_puti X dc_M_makeReady_37 zp_M_313 sh_75 rfl (fun v4 => ?_)
  exact ze_vret X Y dc_M_makeReady_40
set_option maxHeartbeats 4000000 in
set_option maxRecDepth 100000 in
theorem c_M_makeReady {l : Launch} {D : va_G} {ad : Nat → Nat} {ca : Nat → ClassId} (hD : va_D (ze_A ad) (ze_ws ze_sh ad ca (fun _ _ => 0)))     (a1 : Int32) (a2 : Int32) (a3 : Int32)  (v : ze_H) {r : Int32} {v1 : ze_H} (h : f_M_makeReady  a1 a2 a3 v = some (r, v1)) : ze_Mv l D ad ca my_M_makeReady bc_M_makeReady 4 0 0 [.inr 75, .inl a1, .inl a2, .inl a3] v v1 := ze_Mv_of (plainFor_of_name (by decide)) hD (Nat.le_of_ble_eq_true rfl) (fun G e1 e2 e3 e4 X Y => w_M_makeReady X Y    a1 a2 a3  v) h
def f_M_release_L34   (kk : ze_H → Option (Int32 × ze_H)) : Nat → Int32 → ze_H → Option (Int32 × ze_H)
  | 0, _, _ => none
  | n + 1, l2, v =>
    (if (v 75 22) ≤ l2 then (kk  v) else ze_in (l2 + 1) 120 (ze_in l2 120 (ze_lev (ze_u v 94 (Int32.toNatClampNeg l2) (v 94 (Int32.toNatClampNeg (l2 + 1)))) (fun v5 => ze_in (l2 + 1) 120 (ze_in l2 120 (ze_lev (ze_u v5 95 (Int32.toNatClampNeg l2) (v5 95 (Int32.toNatClampNeg (l2 + 1)))) (fun v6 => ze_in (l2 + 1) 120 (ze_in l2 120 (ze_lev (ze_u v6 96 (Int32.toNatClampNeg l2) (v6 96 (Int32.toNatClampNeg (l2 + 1)))) (fun v7 => ze_in (l2 + 1) 120 (ze_in l2 120 (ze_lev (ze_u v7 97 (Int32.toNatClampNeg l2) (v7 97 (Int32.toNatClampNeg (l2 + 1)))) (fun v8 => ze_in (l2 + 1) 120 (ze_in l2 120 (ze_lev (ze_u v8 98 (Int32.toNatClampNeg l2) (v8 98 (Int32.toNatClampNeg (l2 + 1)))) (fun v9 => ze_in (l2 + 1) 120 (ze_in l2 120 (ze_lev (ze_u v9 99 (Int32.toNatClampNeg l2) (v9 99 (Int32.toNatClampNeg (l2 + 1)))) (fun v10 => ze_let (l2 + 1) (fun x11 => (f_M_release_L34   kk n x11 v10)))))))))))))))))))))
def f_M_release  (a1 : Int32) (v : ze_H) : Option (Int32 × ze_H) :=
  ze_in a1 120 (ze_in a1 120 (ze_in a1 120 (ze_call (f_M_makeReady  (v 99 (Int32.toNatClampNeg a1)) (v 96 (Int32.toNatClampNeg a1)) (v 95 (Int32.toNatClampNeg a1)) v) (fun r1 v2 => ze_lev (ze_u v2 75 22 ((v2 75 22) - 1)) (fun v3 => ze_let a1 (fun x4 => (f_M_release_L34   (fun  v12 => some (0, v12)) 200000 x4 v3)))))))
set_option maxHeartbeats 4000000 in
set_option maxRecDepth 100000 in
theorem w_M_release_L34 {G : ze_G}  (X : ze_X G bc_M_release cn_M 3 1 23) (Y : ze_Rv G)      {kk : ze_H → Option (Int32 × ze_H)} (hkk : ∀ (v : ze_H), ze_T G (kk  v) v 132 [none, none, none] []) : ∀ (n : Nat) (l2 : Int32) (v : ze_H), ze_T G (f_M_release_L34   kk n l2 v) v 34 [some (.inr 75), none, some (.inl l2)] [] := by
  intro n
  induction n with
  | zero => intro l2 v; exact ze_none
  | succ n ih =>
    intro l2 v
    refine ze_iload_n X dc_M_release_34 rfl rfl ?_
    refine ze_aload_n X dc_M_release_35 rfl rfl ?_
    refine ze_geti X dc_M_release_36 zf_M_192 sh_75 rfl ?_
    refine ze_icmp_ge (tgt := 132) X dc_M_release_39 (by decide) (fun _ => ?_) (fun _ => ?_)
    · refine ze_weak [false, false, false] ?_
      exact hkk  v
    · refine ze_aload_n X dc_M_release_42 rfl rfl ?_
      refine ze_getr X dc_M_release_43 zf_M_66 sh_75 rfl ?_
      refine ze_iload_n X dc_M_release_46 rfl rfl ?_
      refine ze_aload_n X dc_M_release_47 rfl rfl ?_
      refine ze_getr X dc_M_release_48 zf_M_66 sh_75 rfl ?_
      refine ze_iload_n X dc_M_release_51 rfl rfl ?_
      refine ze_iconst (x := 1) X dc_M_release_52 (by decide) ?_
      refine ze_iadd X dc_M_release_53 ?_
      refine ze_iald X dc_M_release_54 sh_94 rfl (fun _ => ?_)
      refine ze_iast X dc_M_release_55 sh_94 rfl (fun v5 _ => ?_)
      refine ze_aload_n X dc_M_release_56 rfl rfl ?_
      refine ze_getr X dc_M_release_57 zf_M_69 sh_75 rfl ?_
      refine ze_iload_n X dc_M_release_60 rfl rfl ?_
      refine ze_aload_n X dc_M_release_61 rfl rfl ?_
      refine ze_getr X dc_M_release_62 zf_M_69 sh_75 rfl ?_
      refine ze_iload_n X dc_M_release_65 rfl rfl ?_
      refine ze_iconst (x := 1) X dc_M_release_66 (by decide) ?_
      refine ze_iadd X dc_M_release_67 ?_
      refine ze_iald X dc_M_release_68 sh_95 rfl (fun _ => ?_)
      refine ze_iast X dc_M_release_69 sh_95 rfl (fun v6 _ => ?_)
      refine ze_aload_n X dc_M_release_70 rfl rfl ?_
      refine ze_getr X dc_M_release_71 zf_M_72 sh_75 rfl ?_
      refine ze_iload_n X dc_M_release_74 rfl rfl ?_
      refine ze_aload_n X dc_M_release_75 rfl rfl ?_
      refine ze_getr X dc_M_release_76 zf_M_72 sh_75 rfl ?_
      refine ze_iload_n X dc_M_release_79 rfl rfl ?_
      refine ze_iconst (x := 1) X dc_M_release_80 (by decide) ?_
      refine ze_iadd X dc_M_release_81 ?_
      refine ze_iald X dc_M_release_82 sh_96 rfl (fun _ => ?_)
      refine ze_iast X dc_M_release_83 sh_96 rfl (fun v7 _ => ?_)
      refine ze_aload_n X dc_M_release_84 rfl rfl ?_
      refine ze_getr X dc_M_release_85 zf_M_75 sh_75 rfl ?_
      refine ze_iload_n X dc_M_release_88 rfl rfl ?_
      refine ze_aload_n X dc_M_release_89 rfl rfl ?_
      refine ze_getr X dc_M_release_90 zf_M_75 sh_75 rfl ?_
      refine ze_iload_n X dc_M_release_93 rfl rfl ?_
      refine ze_iconst (x := 1) X dc_M_release_94 (by decide) ?_
      refine ze_iadd X dc_M_release_95 ?_
      refine ze_iald X dc_M_release_96 sh_97 rfl (fun _ => ?_)
      refine ze_iast X dc_M_release_97 sh_97 rfl (fun v8 _ => ?_)
      refine ze_aload_n X dc_M_release_98 rfl rfl ?_
      refine ze_getr X dc_M_release_99 zf_M_78 sh_75 rfl ?_
      refine ze_iload_n X dc_M_release_102 rfl rfl ?_
      refine ze_aload_n X dc_M_release_103 rfl rfl ?_
      refine ze_getr X dc_M_release_104 zf_M_78 sh_75 rfl ?_
      refine ze_iload_n X dc_M_release_107 rfl rfl ?_
      refine ze_iconst (x := 1) X dc_M_release_108 (by decide) ?_
      refine ze_iadd X dc_M_release_109 ?_
      refine ze_iald X dc_M_release_110 sh_98 rfl (fun _ => ?_)
      refine ze_iast X dc_M_release_111 sh_98 rfl (fun v9 _ => ?_)
      refine ze_aload_n X dc_M_release_112 rfl rfl ?_
      refine ze_getr X dc_M_release_113 zf_M_81 sh_75 rfl ?_
      refine ze_iload_n X dc_M_release_116 rfl rfl ?_
      refine ze_aload_n X dc_M_release_117 rfl rfl ?_
      refine ze_getr X dc_M_release_118 zf_M_81 sh_75 rfl ?_
      refine ze_iload_n X dc_M_release_121 rfl rfl ?_
      refine ze_iconst (x := 1) X dc_M_release_122 (by decide) ?_
      refine ze_iadd X dc_M_release_123 ?_
      refine ze_iald X dc_M_release_124 sh_99 rfl (fun _ => ?_)
      refine ze_iast X dc_M_release_125 sh_99 rfl (fun v10 _ => ?_)
      refine ze_iinc (y := 1) X dc_M_release_126 rfl (by decide) (by decide) (fun x11 => ?_)
      refine ze_goto (tgt := 34) X dc_M_release_129 (by decide) ?_
      refine ze_weak [true, false, true] ?_
      exact ih x11 v10
set_option maxHeartbeats 4000000 in
set_option maxRecDepth 100000 in
theorem w_M_release {G : ze_G}  (X : ze_X G bc_M_release cn_M 3 1 23) (Y : ze_Rv G)    (a1 : Int32)  (v : ze_H) : ze_T G (f_M_release  a1 v) v 0 [some (.inr 75), some (.inl a1), none] [] := by
  refine ze_aload_n X dc_M_release_0 rfl rfl ?_
  refine ze_aload_n X dc_M_release_1 rfl rfl ?_
  refine ze_getr X dc_M_release_2 zf_M_81 sh_75 rfl ?_
  refine ze_iload_n X dc_M_release_5 rfl rfl ?_
  refine ze_iald X dc_M_release_6 sh_99 rfl (fun _ => ?_)
  refine ze_aload_n X dc_M_release_7 rfl rfl ?_
  refine ze_getr X dc_M_release_8 zf_M_72 sh_75 rfl ?_
  refine ze_iload_n X dc_M_release_11 rfl rfl ?_
  refine ze_iald X dc_M_release_12 sh_96 rfl (fun _ => ?_)
  refine ze_aload_n X dc_M_release_13 rfl rfl ?_
  refine ze_getr X dc_M_release_14 zf_M_69 sh_75 rfl ?_
  refine ze_iload_n X dc_M_release_17 rfl rfl ?_
  refine ze_iald X dc_M_release_18 sh_95 rfl (fun _ => ?_)
  refine ze_callVv (As := [.inl (v 99 (Int32.toNatClampNeg a1)), .inl (v 96 (Int32.toNatClampNeg a1)), .inl (v 95 (Int32.toNatClampNeg a1))]) (st := []) X dc_M_release_19 zc_M_316 sh_75 (fun zr zv zh => c_M_makeReady X.2.2.2.2.2.2.1  (v 99 (Int32.toNatClampNeg a1)) (v 96 (Int32.toNatClampNeg a1)) (v 95 (Int32.toNatClampNeg a1))  v zh) rfl (by decide) (by decide) (Nat.le_of_ble_eq_true rfl) (fun r1 v2 => ?_)
  refine ze_aload_n X dc_M_release_22 rfl rfl ?_
  refine ze_dup X dc_M_release_23 ?_
  refine ze_geti X dc_M_release_24 zf_M_192 sh_75 rfl ?_
  refine ze_iconst (x := 1) X dc_M_release_27 (by decide) ?_
  refine ze_isub X dc_M_release_28 ?_
  refine ze_puti X dc_M_release_29 zp_M_192 sh_75 rfl (fun v3 => ?_)
  refine ze_iload_n X dc_M_release_32 rfl rfl ?_
  refine ze_istore_n X dc_M_release_33 rfl (by decide) (fun x4 => ?_)
  refine ze_weak [true, false, true] ?_
  refine w_M_release_L34 X Y      (fun  v12 => ?_) 200000 x4 v3
  exact ze_vret X Y dc_M_release_132
set_option maxHeartbeats 4000000 in
set_option maxRecDepth 100000 in
theorem c_M_release {l : Launch} {D : va_G} {ad : Nat → Nat} {ca : Nat → ClassId} (hD : va_D (ze_A ad) (ze_ws ze_sh ad ca (fun _ _ => 0)))     (a1 : Int32)  (v : ze_H) {r : Int32} {v1 : ze_H} (h : f_M_release  a1 v = some (r, v1)) : ze_Mv l D ad ca my_M_release bc_M_release 3 1 23 [.inr 75, .inl a1] v v1 := ze_Mv_of (plainFor_of_name (by decide)) hD (Nat.le_of_ble_eq_true rfl) (fun G e1 e2 e3 e4 X Y => w_M_release X Y    a1  v) h
def f_M_gather_L31  (b1 : Int32) (b2 : Int32) (b3 : Int32) (kk : Int32 → Int32 → ze_H → Option (Int32 × ze_H)) : Nat → Int32 → Int32 → Int32 → ze_H → Option (Int32 × ze_H)
  | 0, _, _, _, _ => none
  | n + 1, l4, l5, l6, v =>
    (if (v 75 22) ≤ l6 then (kk l4 l5 v) else ze_in l6 120 ((if (v 94 (Int32.toNatClampNeg l6)) = b1 then ze_let (l4 + 1) (fun x10 => ze_in l6 120 ((if (v 94 (Int32.toNatClampNeg l6)) = b1 then ze_in l6 120 (ze_in (v 75 40) 16 ((if (v 95 (Int32.toNatClampNeg l6)) = (v 109 (Int32.toNatClampNeg (v 75 40))) then ze_let l6 (fun x11 => ze_let (l6 + 1) (fun x12 => (f_M_gather_L31  b1 b2 b3 kk n x10 x11 x12 v))) else ze_let (l6 + 1) (fun x13 => (f_M_gather_L31  b1 b2 b3 kk n x10 l5 x13 v))))) else ze_let (l6 + 1) (fun x14 => (f_M_gather_L31  b1 b2 b3 kk n x10 l5 x14 v))))) else ze_in l6 120 ((if (v 94 (Int32.toNatClampNeg l6)) = b1 then ze_in l6 120 (ze_in (v 75 40) 16 ((if (v 95 (Int32.toNatClampNeg l6)) = (v 109 (Int32.toNatClampNeg (v 75 40))) then ze_let l6 (fun x15 => ze_let (l6 + 1) (fun x16 => (f_M_gather_L31  b1 b2 b3 kk n l4 x15 x16 v))) else ze_let (l6 + 1) (fun x17 => (f_M_gather_L31  b1 b2 b3 kk n l4 l5 x17 v))))) else ze_let (l6 + 1) (fun x18 => (f_M_gather_L31  b1 b2 b3 kk n l4 l5 x18 v)))))))
def f_M_gather_J200  (b2 : Int32) (b5 : Int32) (v : ze_H) : Option (Int32 × ze_H) :=
  ze_in b5 120 (ze_in (v 75 40) 16 (ze_in b5 120 (ze_lev (ze_u v 96 (Int32.toNatClampNeg b5) ((v 96 (Int32.toNatClampNeg b5)) + (v 108 (Int32.toNatClampNeg (v 75 40))))) (fun v22 => ze_in b5 120 (ze_in b5 120 (ze_lev (ze_u v22 97 (Int32.toNatClampNeg b5) ((v22 97 (Int32.toNatClampNeg b5)) + 1)) (fun v23 => ze_in b5 120 ((if (v23 97 (Int32.toNatClampNeg b5)) = b2 then ze_call (f_M_release  b5 v23) (fun r24 v25 => ze_lev (ze_u v25 75 56 3) (fun v26 => some (0, v26))) else ze_lev (ze_u v23 75 56 3) (fun v27 => some (0, v27)))))))))))
def f_M_gather_J107  (b1 : Int32) (b2 : Int32) (b3 : Int32) (b5 : Int32) (v : ze_H) : Option (Int32 × ze_H) :=
  (if 0 ≤ b5 then (f_M_gather_J200  b2 b5 v) else ze_let (v 75 22) (fun x28 => ze_lev (ze_u v 75 22 ((v 75 22) + 1)) (fun v29 => ze_in x28 120 (ze_lev (ze_u v29 94 (Int32.toNatClampNeg x28) b1) (fun v30 => ze_in (v30 75 40) 16 (ze_in x28 120 (ze_lev (ze_u v30 95 (Int32.toNatClampNeg x28) (v30 109 (Int32.toNatClampNeg (v30 75 40)))) (fun v31 => ze_in x28 120 (ze_lev (ze_u v31 96 (Int32.toNatClampNeg x28) 0) (fun v32 => ze_in x28 120 (ze_lev (ze_u v32 97 (Int32.toNatClampNeg x28) 0) (fun v33 => ze_in x28 120 (ze_lev (ze_u v33 98 (Int32.toNatClampNeg x28) ((v33 75 58) + b3)) (fun v34 => ze_in x28 120 (ze_lev (ze_u v34 99 (Int32.toNatClampNeg x28) ((64 * (v34 75 53)) + (v34 75 55))) (fun v35 => (f_M_gather_J200  b2 x28 v35)))))))))))))))))
def f_M_gather  (a1 : Int32) (v : ze_H) : Option (Int32 × ze_H) :=
  ze_call (f_M_value  ((v 75 54) + 1) v) (fun r1 v2 => ze_let r1 (fun x3 => ze_call (f_M_value  ((v2 75 55) + 1) v2) (fun r4 v5 => ze_let r4 (fun x6 => ze_let 0 (fun x7 => ze_let (-1) (fun x8 => ze_let 0 (fun x9 => (f_M_gather_L31  a1 x3 x6 (fun x19 x20 v21 => (if 0 ≤ x20 then (f_M_gather_J107  a1 x3 x6 x20 v21) else (if x19 < 3 then (f_M_gather_J107  a1 x3 x6 x20 v21) else some (5, v21)))) 200000 x7 x8 x9 v5))))))))
set_option maxHeartbeats 4000000 in
set_option maxRecDepth 100000 in
theorem w_M_gather_L31 {G : ze_G}  (X : ze_X G bc_M_gather cn_M 7 2 45) (Y : ze_Ri G .int)    (b1 : Int32) (b2 : Int32) (b3 : Int32)  {kk : Int32 → Int32 → ze_H → Option (Int32 × ze_H)} (hkk : ∀ (l4 : Int32) (l5 : Int32) (v : ze_H), ze_T G (kk l4 l5 v) v 94 [some (.inr 75), some (.inl b1), some (.inl b2), some (.inl b3), some (.inl l4), some (.inl l5), none] []) : ∀ (n : Nat) (l4 : Int32) (l5 : Int32) (l6 : Int32) (v : ze_H), ze_T G (f_M_gather_L31  b1 b2 b3 kk n l4 l5 l6 v) v 31 [some (.inr 75), some (.inl b1), some (.inl b2), some (.inl b3), some (.inl l4), some (.inl l5), some (.inl l6)] [] := by
  intro n
  induction n with
  | zero => intro l4 l5 l6 v; exact ze_none
  | succ n ih =>
    intro l4 l5 l6 v
    refine ze_iload X dc_M_gather_31 rfl ?_
    refine ze_aload_n X dc_M_gather_33 rfl rfl ?_
    refine ze_geti X dc_M_gather_34 zf_M_192 sh_75 rfl ?_
    refine ze_icmp_ge (tgt := 94) X dc_M_gather_37 (by decide) (fun _ => ?_) (fun _ => ?_)
    · refine ze_weak [true, true, true, true, true, true, false] ?_
      exact hkk l4 l5 v
    · refine ze_aload_n X dc_M_gather_40 rfl rfl ?_
      refine ze_getr X dc_M_gather_41 zf_M_66 sh_75 rfl ?_
      refine ze_iload X dc_M_gather_44 rfl ?_
      refine ze_iald X dc_M_gather_46 sh_94 rfl (fun _ => ?_)
      refine ze_iload_n X dc_M_gather_47 rfl rfl ?_
      refine ze_icmp_ne (tgt := 54) X dc_M_gather_48 (by decide) (fun _ => ?_) (fun _ => ?_)
      · refine ze_iinc (y := 1) X dc_M_gather_51 rfl (by decide) (by decide) (fun x10 => ?_)
        refine ze_aload_n X dc_M_gather_54 rfl rfl ?_
        refine ze_getr X dc_M_gather_55 zf_M_66 sh_75 rfl ?_
        refine ze_iload X dc_M_gather_58 rfl ?_
        refine ze_iald X dc_M_gather_60 sh_94 rfl (fun _ => ?_)
        refine ze_iload_n X dc_M_gather_61 rfl rfl ?_
        refine ze_icmp_ne (tgt := 88) X dc_M_gather_62 (by decide) (fun _ => ?_) (fun _ => ?_)
        · refine ze_aload_n X dc_M_gather_65 rfl rfl ?_
          refine ze_getr X dc_M_gather_66 zf_M_69 sh_75 rfl ?_
          refine ze_iload X dc_M_gather_69 rfl ?_
          refine ze_iald X dc_M_gather_71 sh_95 rfl (fun _ => ?_)
          refine ze_aload_n X dc_M_gather_72 rfl rfl ?_
          refine ze_getr X dc_M_gather_73 zf_M_111 sh_75 rfl ?_
          refine ze_aload_n X dc_M_gather_76 rfl rfl ?_
          refine ze_geti X dc_M_gather_77 zf_M_211 sh_75 rfl ?_
          refine ze_iald X dc_M_gather_80 sh_109 rfl (fun _ => ?_)
          refine ze_icmp_ne (tgt := 88) X dc_M_gather_81 (by decide) (fun _ => ?_) (fun _ => ?_)
          · refine ze_iload X dc_M_gather_84 rfl ?_
            refine ze_istore X dc_M_gather_86 (by decide) (fun x11 => ?_)
            refine ze_iinc (y := 1) X dc_M_gather_88 rfl (by decide) (by decide) (fun x12 => ?_)
            refine ze_goto (tgt := 31) X dc_M_gather_91 (by decide) ?_
            refine ze_weak [true, true, true, true, true, true, true] ?_
            exact ih x10 x11 x12 v
          · refine ze_iinc (y := 1) X dc_M_gather_88 rfl (by decide) (by decide) (fun x13 => ?_)
            refine ze_goto (tgt := 31) X dc_M_gather_91 (by decide) ?_
            refine ze_weak [true, true, true, true, true, true, true] ?_
            exact ih x10 l5 x13 v
        · refine ze_iinc (y := 1) X dc_M_gather_88 rfl (by decide) (by decide) (fun x14 => ?_)
          refine ze_goto (tgt := 31) X dc_M_gather_91 (by decide) ?_
          refine ze_weak [true, true, true, true, true, true, true] ?_
          exact ih x10 l5 x14 v
      · refine ze_aload_n X dc_M_gather_54 rfl rfl ?_
        refine ze_getr X dc_M_gather_55 zf_M_66 sh_75 rfl ?_
        refine ze_iload X dc_M_gather_58 rfl ?_
        refine ze_iald X dc_M_gather_60 sh_94 rfl (fun _ => ?_)
        refine ze_iload_n X dc_M_gather_61 rfl rfl ?_
        refine ze_icmp_ne (tgt := 88) X dc_M_gather_62 (by decide) (fun _ => ?_) (fun _ => ?_)
        · refine ze_aload_n X dc_M_gather_65 rfl rfl ?_
          refine ze_getr X dc_M_gather_66 zf_M_69 sh_75 rfl ?_
          refine ze_iload X dc_M_gather_69 rfl ?_
          refine ze_iald X dc_M_gather_71 sh_95 rfl (fun _ => ?_)
          refine ze_aload_n X dc_M_gather_72 rfl rfl ?_
          refine ze_getr X dc_M_gather_73 zf_M_111 sh_75 rfl ?_
          refine ze_aload_n X dc_M_gather_76 rfl rfl ?_
          refine ze_geti X dc_M_gather_77 zf_M_211 sh_75 rfl ?_
          refine ze_iald X dc_M_gather_80 sh_109 rfl (fun _ => ?_)
          refine ze_icmp_ne (tgt := 88) X dc_M_gather_81 (by decide) (fun _ => ?_) (fun _ => ?_)
          · refine ze_iload X dc_M_gather_84 rfl ?_
            refine ze_istore X dc_M_gather_86 (by decide) (fun x15 => ?_)
            refine ze_iinc (y := 1) X dc_M_gather_88 rfl (by decide) (by decide) (fun x16 => ?_)
            refine ze_goto (tgt := 31) X dc_M_gather_91 (by decide) ?_
            refine ze_weak [true, true, true, true, true, true, true] ?_
            exact ih l4 x15 x16 v
          · refine ze_iinc (y := 1) X dc_M_gather_88 rfl (by decide) (by decide) (fun x17 => ?_)
            refine ze_goto (tgt := 31) X dc_M_gather_91 (by decide) ?_
            refine ze_weak [true, true, true, true, true, true, true] ?_
            exact ih l4 l5 x17 v
        · refine ze_iinc (y := 1) X dc_M_gather_88 rfl (by decide) (by decide) (fun x18 => ?_)
          refine ze_goto (tgt := 31) X dc_M_gather_91 (by decide) ?_
          refine ze_weak [true, true, true, true, true, true, true] ?_
          exact ih l4 l5 x18 v
set_option maxHeartbeats 4000000 in
set_option maxRecDepth 100000 in
theorem w_M_gather_J200 {G : ze_G}  (X : ze_X G bc_M_gather cn_M 7 2 45) (Y : ze_Ri G .int)    (b2 : Int32) (b5 : Int32)  (v : ze_H) : ze_T G (f_M_gather_J200  b2 b5 v) v 200 [some (.inr 75), none, some (.inl b2), none, none, some (.inl b5), none] [] := by
  refine ze_aload_n X dc_M_gather_200 rfl rfl ?_
  refine ze_getr X dc_M_gather_201 zf_M_72 sh_75 rfl ?_
  refine ze_iload X dc_M_gather_204 rfl ?_
  refine ze_dup2 X dc_M_gather_206 ?_
  refine ze_iald X dc_M_gather_207 sh_96 rfl (fun _ => ?_)
  refine ze_aload_n X dc_M_gather_208 rfl rfl ?_
  refine ze_getr X dc_M_gather_209 zf_M_108 sh_75 rfl ?_
  refine ze_aload_n X dc_M_gather_212 rfl rfl ?_
  refine ze_geti X dc_M_gather_213 zf_M_211 sh_75 rfl ?_
  refine ze_iald X dc_M_gather_216 sh_108 rfl (fun _ => ?_)
  refine ze_iadd X dc_M_gather_217 ?_
  refine ze_iast X dc_M_gather_218 sh_96 rfl (fun v22 _ => ?_)
  refine ze_aload_n X dc_M_gather_219 rfl rfl ?_
  refine ze_getr X dc_M_gather_220 zf_M_75 sh_75 rfl ?_
  refine ze_iload X dc_M_gather_223 rfl ?_
  refine ze_dup2 X dc_M_gather_225 ?_
  refine ze_iald X dc_M_gather_226 sh_97 rfl (fun _ => ?_)
  refine ze_iconst (x := 1) X dc_M_gather_227 (by decide) ?_
  refine ze_iadd X dc_M_gather_228 ?_
  refine ze_iast X dc_M_gather_229 sh_97 rfl (fun v23 _ => ?_)
  refine ze_aload_n X dc_M_gather_230 rfl rfl ?_
  refine ze_getr X dc_M_gather_231 zf_M_75 sh_75 rfl ?_
  refine ze_iload X dc_M_gather_234 rfl ?_
  refine ze_iald X dc_M_gather_236 sh_97 rfl (fun _ => ?_)
  refine ze_iload_n X dc_M_gather_237 rfl rfl ?_
  refine ze_icmp_ne (tgt := 247) X dc_M_gather_238 (by decide) (fun _ => ?_) (fun _ => ?_)
  · refine ze_aload_n X dc_M_gather_241 rfl rfl ?_
    refine ze_iload X dc_M_gather_242 rfl ?_
    refine ze_callVv (As := [.inl b5]) (st := []) X dc_M_gather_244 zc_M_319 sh_75 (fun zr zv zh => c_M_release X.2.2.2.2.2.2.1  b5  v23 zh) rfl (by decide) (by decide) (Nat.le_of_ble_eq_true rfl) (fun r24 v25 => ?_)
    refine ze_aload_n X dc_M_gather_247 rfl rfl ?_
    refine ze_iconst (x := 3) X dc_M_gather_248 (by decide) ?_
    refine ze_puti X dc_M_gather_249 zp_M_247 sh_75 rfl (fun v26 => ?_)
    refine ze_iconst (x := 0) X dc_M_gather_252 (by decide) ?_
    exact ze_iret X Y (vp_nar_int _) dc_M_gather_253
  · refine ze_aload_n X dc_M_gather_247 rfl rfl ?_
    refine ze_iconst (x := 3) X dc_M_gather_248 (by decide) ?_
    refine ze_puti X dc_M_gather_249 zp_M_247 sh_75 rfl (fun v27 => ?_)
    refine ze_iconst (x := 0) X dc_M_gather_252 (by decide) ?_
    exact ze_iret X Y (vp_nar_int _) dc_M_gather_253
set_option maxHeartbeats 4000000 in
set_option maxRecDepth 100000 in
theorem w_M_gather_J107 {G : ze_G}  (X : ze_X G bc_M_gather cn_M 7 2 45) (Y : ze_Ri G .int)    (b1 : Int32) (b2 : Int32) (b3 : Int32) (b5 : Int32)  (v : ze_H) : ze_T G (f_M_gather_J107  b1 b2 b3 b5 v) v 107 [some (.inr 75), some (.inl b1), some (.inl b2), some (.inl b3), none, some (.inl b5), none] [] := by
  refine ze_iload X dc_M_gather_107 rfl ?_
  refine ze_if_ge (tgt := 200) X dc_M_gather_109 (by decide) (fun _ => ?_) (fun _ => ?_)
  · refine ze_weak [true, false, true, false, false, true, false] ?_
    exact w_M_gather_J200 X Y    b2 b5  v
  · refine ze_aload_n X dc_M_gather_112 rfl rfl ?_
    refine ze_geti X dc_M_gather_113 zf_M_192 sh_75 rfl ?_
    refine ze_istore X dc_M_gather_116 (by decide) (fun x28 => ?_)
    refine ze_aload_n X dc_M_gather_118 rfl rfl ?_
    refine ze_dup X dc_M_gather_119 ?_
    refine ze_geti X dc_M_gather_120 zf_M_192 sh_75 rfl ?_
    refine ze_iconst (x := 1) X dc_M_gather_123 (by decide) ?_
    refine ze_iadd X dc_M_gather_124 ?_
    refine ze_puti X dc_M_gather_125 zp_M_192 sh_75 rfl (fun v29 => ?_)
    refine ze_aload_n X dc_M_gather_128 rfl rfl ?_
    refine ze_getr X dc_M_gather_129 zf_M_66 sh_75 rfl ?_
    refine ze_iload X dc_M_gather_132 rfl ?_
    refine ze_iload_n X dc_M_gather_134 rfl rfl ?_
    refine ze_iast X dc_M_gather_135 sh_94 rfl (fun v30 _ => ?_)
    refine ze_aload_n X dc_M_gather_136 rfl rfl ?_
    refine ze_getr X dc_M_gather_137 zf_M_69 sh_75 rfl ?_
    refine ze_iload X dc_M_gather_140 rfl ?_
    refine ze_aload_n X dc_M_gather_142 rfl rfl ?_
    refine ze_getr X dc_M_gather_143 zf_M_111 sh_75 rfl ?_
    refine ze_aload_n X dc_M_gather_146 rfl rfl ?_
    refine ze_geti X dc_M_gather_147 zf_M_211 sh_75 rfl ?_
    refine ze_iald X dc_M_gather_150 sh_109 rfl (fun _ => ?_)
    refine ze_iast X dc_M_gather_151 sh_95 rfl (fun v31 _ => ?_)
    refine ze_aload_n X dc_M_gather_152 rfl rfl ?_
    refine ze_getr X dc_M_gather_153 zf_M_72 sh_75 rfl ?_
    refine ze_iload X dc_M_gather_156 rfl ?_
    refine ze_iconst (x := 0) X dc_M_gather_158 (by decide) ?_
    refine ze_iast X dc_M_gather_159 sh_96 rfl (fun v32 _ => ?_)
    refine ze_aload_n X dc_M_gather_160 rfl rfl ?_
    refine ze_getr X dc_M_gather_161 zf_M_75 sh_75 rfl ?_
    refine ze_iload X dc_M_gather_164 rfl ?_
    refine ze_iconst (x := 0) X dc_M_gather_166 (by decide) ?_
    refine ze_iast X dc_M_gather_167 sh_97 rfl (fun v33 _ => ?_)
    refine ze_aload_n X dc_M_gather_168 rfl rfl ?_
    refine ze_getr X dc_M_gather_169 zf_M_78 sh_75 rfl ?_
    refine ze_iload X dc_M_gather_172 rfl ?_
    refine ze_aload_n X dc_M_gather_174 rfl rfl ?_
    refine ze_geti X dc_M_gather_175 zf_M_261 sh_75 rfl ?_
    refine ze_iload_n X dc_M_gather_178 rfl rfl ?_
    refine ze_iadd X dc_M_gather_179 ?_
    refine ze_iast X dc_M_gather_180 sh_98 rfl (fun v34 _ => ?_)
    refine ze_aload_n X dc_M_gather_181 rfl rfl ?_
    refine ze_getr X dc_M_gather_182 zf_M_81 sh_75 rfl ?_
    refine ze_iload X dc_M_gather_185 rfl ?_
    refine ze_bipush (x := 64) X dc_M_gather_187 (by decide) ?_
    refine ze_aload_n X dc_M_gather_189 rfl rfl ?_
    refine ze_geti X dc_M_gather_190 zf_M_201 sh_75 rfl ?_
    refine ze_imul X dc_M_gather_193 ?_
    refine ze_aload_n X dc_M_gather_194 rfl rfl ?_
    refine ze_geti X dc_M_gather_195 zf_M_204 sh_75 rfl ?_
    refine ze_iadd X dc_M_gather_198 ?_
    refine ze_iast X dc_M_gather_199 sh_99 rfl (fun v35 _ => ?_)
    refine ze_weak [true, false, true, false, false, true, false] ?_
    exact w_M_gather_J200 X Y    b2 x28  v35
set_option maxHeartbeats 4000000 in
set_option maxRecDepth 100000 in
theorem w_M_gather {G : ze_G}  (X : ze_X G bc_M_gather cn_M 7 2 45) (Y : ze_Ri G .int)    (a1 : Int32)  (v : ze_H) : ze_T G (f_M_gather  a1 v) v 0 [some (.inr 75), some (.inl a1), none, none, none, none, none] [] := by
  refine ze_aload_n X dc_M_gather_0 rfl rfl ?_
  refine ze_aload_n X dc_M_gather_1 rfl rfl ?_
  refine ze_geti X dc_M_gather_2 zf_M_227 sh_75 rfl ?_
  refine ze_iconst (x := 1) X dc_M_gather_5 (by decide) ?_
  refine ze_iadd X dc_M_gather_6 ?_
  refine ze_callVi (As := [.inl ((v 75 54) + 1)]) (st := []) X dc_M_gather_7 zc_M_214 sh_75 (fun zr zv zh => c_M_value X.2.2.2.2.2.2.1  ((v 75 54) + 1)  v zh) rfl (by decide) (by decide) (Nat.le_of_ble_eq_true rfl) (fun r1 v2 => ?_)
  refine ze_istore_n X dc_M_gather_10 rfl (by decide) (fun x3 => ?_)
  refine ze_aload_n X dc_M_gather_11 rfl rfl ?_
  refine ze_aload_n X dc_M_gather_12 rfl rfl ?_
  refine ze_geti X dc_M_gather_13 zf_M_204 sh_75 rfl ?_
  refine ze_iconst (x := 1) X dc_M_gather_16 (by decide) ?_
  refine ze_iadd X dc_M_gather_17 ?_
  refine ze_callVi (As := [.inl ((v2 75 55) + 1)]) (st := []) X dc_M_gather_18 zc_M_214 sh_75 (fun zr zv zh => c_M_value X.2.2.2.2.2.2.1  ((v2 75 55) + 1)  v2 zh) rfl (by decide) (by decide) (Nat.le_of_ble_eq_true rfl) (fun r4 v5 => ?_)
  refine ze_istore_n X dc_M_gather_21 rfl (by decide) (fun x6 => ?_)
  refine ze_iconst (x := 0) X dc_M_gather_22 (by decide) ?_
  refine ze_istore X dc_M_gather_23 (by decide) (fun x7 => ?_)
  refine ze_iconst (x := (-1)) X dc_M_gather_25 (by decide) ?_
  refine ze_istore X dc_M_gather_26 (by decide) (fun x8 => ?_)
  refine ze_iconst (x := 0) X dc_M_gather_28 (by decide) ?_
  refine ze_istore X dc_M_gather_29 (by decide) (fun x9 => ?_)
  refine ze_weak [true, true, true, true, true, true, true] ?_
  refine w_M_gather_L31 X Y    a1 x3 x6  (fun x19 x20 v21 => ?_) 200000 x7 x8 x9 v5
  refine ze_iload X dc_M_gather_94 rfl ?_
  refine ze_if_ge (tgt := 107) X dc_M_gather_96 (by decide) (fun _ => ?_) (fun _ => ?_)
  · refine ze_weak [true, true, true, true, false, true, false] ?_
    exact w_M_gather_J107 X Y    a1 x3 x6 x20  v21
  · refine ze_iload X dc_M_gather_99 rfl ?_
    refine ze_iconst (x := 3) X dc_M_gather_101 (by decide) ?_
    refine ze_icmp_lt (tgt := 107) X dc_M_gather_102 (by decide) (fun _ => ?_) (fun _ => ?_)
    · refine ze_weak [true, true, true, true, false, true, false] ?_
      exact w_M_gather_J107 X Y    a1 x3 x6 x20  v21
    · refine ze_iconst (x := 5) X dc_M_gather_105 (by decide) ?_
      exact ze_iret X Y (vp_nar_int _) dc_M_gather_106
set_option maxHeartbeats 4000000 in
set_option maxRecDepth 100000 in
theorem c_M_gather {l : Launch} {D : va_G} {ad : Nat → Nat} {ca : Nat → ClassId} (hD : va_D (ze_A ad) (ze_ws ze_sh ad ca (fun _ _ => 0)))     (a1 : Int32)  (v : ze_H) {r : Int32} {v1 : ze_H} (h : f_M_gather  a1 v = some (r, v1)) : ze_Mi l D ad ca my_M_gather bc_M_gather 7 .int 2 45 [.inr 75, .inl a1] v r v1 := ze_Mi_of (plainFor_of_name (by decide)) hD (Nat.le_of_ble_eq_true rfl) (fun G e1 e2 e3 e4 X Y => w_M_gather X Y    a1  v) h
def f_M_takeLeast_L5  (b1 : Int32) (b2 : Int32) (kk : Int32 → ze_H → Option (Int32 × ze_H)) : Nat → Int32 → Int32 → ze_H → Option (Int32 × ze_H)
  | 0, _, _, _ => none
  | n + 1, l3, l4, v =>
    (if (v 75 29) ≤ l4 then (kk l3 v) else ze_in l4 242 ((if (v 100 (Int32.toNatClampNeg l4)) = b1 then (if l3 < 0 then ze_let l4 (fun x3 => ze_let (l4 + 1) (fun x4 => (f_M_takeLeast_L5  b1 b2 kk n x3 x4 v))) else ze_in l4 242 (ze_in l3 242 ((if (v 102 (Int32.toNatClampNeg l3)) ≤ (v 102 (Int32.toNatClampNeg l4)) then ze_let (l4 + 1) (fun x5 => (f_M_takeLeast_L5  b1 b2 kk n l3 x5 v)) else ze_let l4 (fun x6 => ze_let (l4 + 1) (fun x7 => (f_M_takeLeast_L5  b1 b2 kk n x6 x7 v))))))) else ze_let (l4 + 1) (fun x8 => (f_M_takeLeast_L5  b1 b2 kk n l3 x8 v)))))
def f_M_takeLeast_L84   (kk : ze_H → Option (Int32 × ze_H)) : Nat → Int32 → ze_H → Option (Int32 × ze_H)
  | 0, _, _ => none
  | n + 1, l4, v =>
    (if (v 75 29) ≤ l4 then (kk  v) else ze_in (l4 + 1) 242 (ze_in l4 242 (ze_lev (ze_u v 100 (Int32.toNatClampNeg l4) (v 100 (Int32.toNatClampNeg (l4 + 1)))) (fun v15 => ze_in (l4 + 1) 242 (ze_in l4 242 (ze_lev (ze_u v15 101 (Int32.toNatClampNeg l4) (v15 101 (Int32.toNatClampNeg (l4 + 1)))) (fun v16 => ze_in (l4 + 1) 242 (ze_in l4 242 (ze_lev (ze_u v16 102 (Int32.toNatClampNeg l4) (v16 102 (Int32.toNatClampNeg (l4 + 1)))) (fun v17 => ze_let (l4 + 1) (fun x18 => (f_M_takeLeast_L84   kk n x18 v17))))))))))))
def f_M_takeLeast  (a1 : Int32) (a2 : Int32) (v : ze_H) : Option (Int32 × ze_H) :=
  ze_let (-1) (fun x1 => ze_let 0 (fun x2 => (f_M_takeLeast_L5  a1 a2 (fun x9 v10 => ze_in x9 242 (ze_in x9 242 (ze_call (f_M_makeReady  a2 (v10 101 (Int32.toNatClampNeg x9)) (v10 102 (Int32.toNatClampNeg x9)) v10) (fun r11 v12 => ze_lev (ze_u v12 75 29 ((v12 75 29) - 1)) (fun v13 => ze_let x9 (fun x14 => (f_M_takeLeast_L84   (fun  v19 => some (0, v19)) 200000 x14 v13))))))) 200000 x1 x2 v)))
set_option maxHeartbeats 4000000 in
set_option maxRecDepth 100000 in
theorem w_M_takeLeast_L5 {G : ze_G}  (X : ze_X G bc_M_takeLeast cn_M 5 1 23) (Y : ze_Rv G)    (b1 : Int32) (b2 : Int32)  {kk : Int32 → ze_H → Option (Int32 × ze_H)} (hkk : ∀ (l3 : Int32) (v : ze_H), ze_T G (kk l3 v) v 54 [some (.inr 75), none, some (.inl b2), some (.inl l3), none] []) : ∀ (n : Nat) (l3 : Int32) (l4 : Int32) (v : ze_H), ze_T G (f_M_takeLeast_L5  b1 b2 kk n l3 l4 v) v 5 [some (.inr 75), some (.inl b1), some (.inl b2), some (.inl l3), some (.inl l4)] [] := by
  intro n
  induction n with
  | zero => intro l3 l4 v; exact ze_none
  | succ n ih =>
    intro l3 l4 v
    refine ze_iload X dc_M_takeLeast_5 rfl ?_
    refine ze_aload_n X dc_M_takeLeast_7 rfl rfl ?_
    refine ze_geti X dc_M_takeLeast_8 zf_M_195 sh_75 rfl ?_
    refine ze_icmp_ge (tgt := 54) X dc_M_takeLeast_11 (by decide) (fun _ => ?_) (fun _ => ?_)
    · refine ze_weak [true, false, true, true, false] ?_
      exact hkk l3 v
    · refine ze_aload_n X dc_M_takeLeast_14 rfl rfl ?_
      refine ze_getr X dc_M_takeLeast_15 zf_M_84 sh_75 rfl ?_
      refine ze_iload X dc_M_takeLeast_18 rfl ?_
      refine ze_iald X dc_M_takeLeast_20 sh_100 rfl (fun _ => ?_)
      refine ze_iload_n X dc_M_takeLeast_21 rfl rfl ?_
      refine ze_icmp_ne (tgt := 48) X dc_M_takeLeast_22 (by decide) (fun _ => ?_) (fun _ => ?_)
      · refine ze_iload_n X dc_M_takeLeast_25 rfl rfl ?_
        refine ze_if_lt (tgt := 45) X dc_M_takeLeast_26 (by decide) (fun _ => ?_) (fun _ => ?_)
        · refine ze_iload X dc_M_takeLeast_45 rfl ?_
          refine ze_istore_n X dc_M_takeLeast_47 rfl (by decide) (fun x3 => ?_)
          refine ze_iinc (y := 1) X dc_M_takeLeast_48 rfl (by decide) (by decide) (fun x4 => ?_)
          refine ze_goto (tgt := 5) X dc_M_takeLeast_51 (by decide) ?_
          refine ze_weak [true, true, true, true, true] ?_
          exact ih x3 x4 v
        · refine ze_aload_n X dc_M_takeLeast_29 rfl rfl ?_
          refine ze_getr X dc_M_takeLeast_30 zf_M_90 sh_75 rfl ?_
          refine ze_iload X dc_M_takeLeast_33 rfl ?_
          refine ze_iald X dc_M_takeLeast_35 sh_102 rfl (fun _ => ?_)
          refine ze_aload_n X dc_M_takeLeast_36 rfl rfl ?_
          refine ze_getr X dc_M_takeLeast_37 zf_M_90 sh_75 rfl ?_
          refine ze_iload_n X dc_M_takeLeast_40 rfl rfl ?_
          refine ze_iald X dc_M_takeLeast_41 sh_102 rfl (fun _ => ?_)
          refine ze_icmp_ge (tgt := 48) X dc_M_takeLeast_42 (by decide) (fun _ => ?_) (fun _ => ?_)
          · refine ze_iinc (y := 1) X dc_M_takeLeast_48 rfl (by decide) (by decide) (fun x5 => ?_)
            refine ze_goto (tgt := 5) X dc_M_takeLeast_51 (by decide) ?_
            refine ze_weak [true, true, true, true, true] ?_
            exact ih l3 x5 v
          · refine ze_iload X dc_M_takeLeast_45 rfl ?_
            refine ze_istore_n X dc_M_takeLeast_47 rfl (by decide) (fun x6 => ?_)
            refine ze_iinc (y := 1) X dc_M_takeLeast_48 rfl (by decide) (by decide) (fun x7 => ?_)
            refine ze_goto (tgt := 5) X dc_M_takeLeast_51 (by decide) ?_
            refine ze_weak [true, true, true, true, true] ?_
            exact ih x6 x7 v
      · refine ze_iinc (y := 1) X dc_M_takeLeast_48 rfl (by decide) (by decide) (fun x8 => ?_)
        refine ze_goto (tgt := 5) X dc_M_takeLeast_51 (by decide) ?_
        refine ze_weak [true, true, true, true, true] ?_
        exact ih l3 x8 v
set_option maxHeartbeats 4000000 in
set_option maxRecDepth 100000 in
theorem w_M_takeLeast_L84 {G : ze_G}  (X : ze_X G bc_M_takeLeast cn_M 5 1 23) (Y : ze_Rv G)      {kk : ze_H → Option (Int32 × ze_H)} (hkk : ∀ (v : ze_H), ze_T G (kk  v) v 147 [none, none, none, none, none] []) : ∀ (n : Nat) (l4 : Int32) (v : ze_H), ze_T G (f_M_takeLeast_L84   kk n l4 v) v 84 [some (.inr 75), none, none, none, some (.inl l4)] [] := by
  intro n
  induction n with
  | zero => intro l4 v; exact ze_none
  | succ n ih =>
    intro l4 v
    refine ze_iload X dc_M_takeLeast_84 rfl ?_
    refine ze_aload_n X dc_M_takeLeast_86 rfl rfl ?_
    refine ze_geti X dc_M_takeLeast_87 zf_M_195 sh_75 rfl ?_
    refine ze_icmp_ge (tgt := 147) X dc_M_takeLeast_90 (by decide) (fun _ => ?_) (fun _ => ?_)
    · refine ze_weak [false, false, false, false, false] ?_
      exact hkk  v
    · refine ze_aload_n X dc_M_takeLeast_93 rfl rfl ?_
      refine ze_getr X dc_M_takeLeast_94 zf_M_84 sh_75 rfl ?_
      refine ze_iload X dc_M_takeLeast_97 rfl ?_
      refine ze_aload_n X dc_M_takeLeast_99 rfl rfl ?_
      refine ze_getr X dc_M_takeLeast_100 zf_M_84 sh_75 rfl ?_
      refine ze_iload X dc_M_takeLeast_103 rfl ?_
      refine ze_iconst (x := 1) X dc_M_takeLeast_105 (by decide) ?_
      refine ze_iadd X dc_M_takeLeast_106 ?_
      refine ze_iald X dc_M_takeLeast_107 sh_100 rfl (fun _ => ?_)
      refine ze_iast X dc_M_takeLeast_108 sh_100 rfl (fun v15 _ => ?_)
      refine ze_aload_n X dc_M_takeLeast_109 rfl rfl ?_
      refine ze_getr X dc_M_takeLeast_110 zf_M_87 sh_75 rfl ?_
      refine ze_iload X dc_M_takeLeast_113 rfl ?_
      refine ze_aload_n X dc_M_takeLeast_115 rfl rfl ?_
      refine ze_getr X dc_M_takeLeast_116 zf_M_87 sh_75 rfl ?_
      refine ze_iload X dc_M_takeLeast_119 rfl ?_
      refine ze_iconst (x := 1) X dc_M_takeLeast_121 (by decide) ?_
      refine ze_iadd X dc_M_takeLeast_122 ?_
      refine ze_iald X dc_M_takeLeast_123 sh_101 rfl (fun _ => ?_)
      refine ze_iast X dc_M_takeLeast_124 sh_101 rfl (fun v16 _ => ?_)
      refine ze_aload_n X dc_M_takeLeast_125 rfl rfl ?_
      refine ze_getr X dc_M_takeLeast_126 zf_M_90 sh_75 rfl ?_
      refine ze_iload X dc_M_takeLeast_129 rfl ?_
      refine ze_aload_n X dc_M_takeLeast_131 rfl rfl ?_
      refine ze_getr X dc_M_takeLeast_132 zf_M_90 sh_75 rfl ?_
      refine ze_iload X dc_M_takeLeast_135 rfl ?_
      refine ze_iconst (x := 1) X dc_M_takeLeast_137 (by decide) ?_
      refine ze_iadd X dc_M_takeLeast_138 ?_
      refine ze_iald X dc_M_takeLeast_139 sh_102 rfl (fun _ => ?_)
      refine ze_iast X dc_M_takeLeast_140 sh_102 rfl (fun v17 _ => ?_)
      refine ze_iinc (y := 1) X dc_M_takeLeast_141 rfl (by decide) (by decide) (fun x18 => ?_)
      refine ze_goto (tgt := 84) X dc_M_takeLeast_144 (by decide) ?_
      refine ze_weak [true, false, false, false, true] ?_
      exact ih x18 v17
set_option maxHeartbeats 4000000 in
set_option maxRecDepth 100000 in
theorem w_M_takeLeast {G : ze_G}  (X : ze_X G bc_M_takeLeast cn_M 5 1 23) (Y : ze_Rv G)    (a1 : Int32) (a2 : Int32)  (v : ze_H) : ze_T G (f_M_takeLeast  a1 a2 v) v 0 [some (.inr 75), some (.inl a1), some (.inl a2), none, none] [] := by
  refine ze_iconst (x := (-1)) X dc_M_takeLeast_0 (by decide) ?_
  refine ze_istore_n X dc_M_takeLeast_1 rfl (by decide) (fun x1 => ?_)
  refine ze_iconst (x := 0) X dc_M_takeLeast_2 (by decide) ?_
  refine ze_istore X dc_M_takeLeast_3 (by decide) (fun x2 => ?_)
  refine ze_weak [true, true, true, true, true] ?_
  refine w_M_takeLeast_L5 X Y    a1 a2  (fun x9 v10 => ?_) 200000 x1 x2 v
  refine ze_aload_n X dc_M_takeLeast_54 rfl rfl ?_
  refine ze_iload_n X dc_M_takeLeast_55 rfl rfl ?_
  refine ze_aload_n X dc_M_takeLeast_56 rfl rfl ?_
  refine ze_getr X dc_M_takeLeast_57 zf_M_87 sh_75 rfl ?_
  refine ze_iload_n X dc_M_takeLeast_60 rfl rfl ?_
  refine ze_iald X dc_M_takeLeast_61 sh_101 rfl (fun _ => ?_)
  refine ze_aload_n X dc_M_takeLeast_62 rfl rfl ?_
  refine ze_getr X dc_M_takeLeast_63 zf_M_90 sh_75 rfl ?_
  refine ze_iload_n X dc_M_takeLeast_66 rfl rfl ?_
  refine ze_iald X dc_M_takeLeast_67 sh_102 rfl (fun _ => ?_)
  refine ze_callVv (As := [.inl a2, .inl (v10 101 (Int32.toNatClampNeg x9)), .inl (v10 102 (Int32.toNatClampNeg x9))]) (st := []) X dc_M_takeLeast_68 zc_M_316 sh_75 (fun zr zv zh => c_M_makeReady X.2.2.2.2.2.2.1  a2 (v10 101 (Int32.toNatClampNeg x9)) (v10 102 (Int32.toNatClampNeg x9))  v10 zh) rfl (by decide) (by decide) (Nat.le_of_ble_eq_true rfl) (fun r11 v12 => ?_)
  refine ze_aload_n X dc_M_takeLeast_71 rfl rfl ?_
  refine ze_dup X dc_M_takeLeast_72 ?_
  refine ze_geti X dc_M_takeLeast_73 zf_M_195 sh_75 rfl ?_
  refine ze_iconst (x := 1) X dc_M_takeLeast_76 (by decide) ?_
  refine ze_isub X dc_M_takeLeast_77 ?_
  refine ze_puti X dc_M_takeLeast_78 zp_M_195 sh_75 rfl (fun v13 => ?_)
  refine ze_iload_n X dc_M_takeLeast_81 rfl rfl ?_
  refine ze_istore X dc_M_takeLeast_82 (by decide) (fun x14 => ?_)
  refine ze_weak [true, false, false, false, true] ?_
  refine w_M_takeLeast_L84 X Y      (fun  v19 => ?_) 200000 x14 v13
  exact ze_vret X Y dc_M_takeLeast_147
set_option maxHeartbeats 4000000 in
set_option maxRecDepth 100000 in
theorem c_M_takeLeast {l : Launch} {D : va_G} {ad : Nat → Nat} {ca : Nat → ClassId} (hD : va_D (ze_A ad) (ze_ws ze_sh ad ca (fun _ _ => 0)))     (a1 : Int32) (a2 : Int32)  (v : ze_H) {r : Int32} {v1 : ze_H} (h : f_M_takeLeast  a1 a2 v = some (r, v1)) : ze_Mv l D ad ca my_M_takeLeast bc_M_takeLeast 5 1 23 [.inr 75, .inl a1, .inl a2] v v1 := ze_Mv_of (plainFor_of_name (by decide)) hD (Nat.le_of_ble_eq_true rfl) (fun G e1 e2 e3 e4 X Y => w_M_takeLeast X Y    a1 a2  v) h
def f_M_order_L72  (b1 : Int32) (b2 : Int32) (kk : Int32 → ze_H → Option (Int32 × ze_H)) : Nat → Int32 → Int32 → ze_H → Option (Int32 × ze_H)
  | 0, _, _, _ => none
  | n + 1, l3, l4, v =>
    (if (v 75 29) ≤ l4 then (kk l3 v) else ze_in l4 242 ((if (v 100 (Int32.toNatClampNeg l4)) = b1 then ze_let (l3 + 1) (fun x10 => ze_let (l4 + 1) (fun x11 => (f_M_order_L72  b1 b2 kk n x10 x11 v))) else ze_let (l3 + 0) (fun x12 => ze_let (l4 + 1) (fun x13 => (f_M_order_L72  b1 b2 kk n x12 x13 v))))))
def f_M_order_L109  (b1 : Int32) (b2 : Int32) (b3 : Int32) (kk : ze_H → Option (Int32 × ze_H)) : Nat → Int32 → ze_H → Option (Int32 × ze_H)
  | 0, _, _ => none
  | n + 1, l4, v =>
    (if b3 ≤ l4 then (kk  v) else (if b3 = b2 then ze_call (f_M_takeLeast  b1 ((64 * (v 75 53)) + (v 75 55)) v) (fun r17 v18 => ze_let (l4 + 1) (fun x19 => (f_M_order_L109  b1 b2 b3 kk n x19 v18))) else (kk  v)))
def f_M_order  (a1 : Int32) (v : ze_H) : Option (Int32 × ze_H) :=
  ze_call (f_M_value  ((v 75 54) + 1) v) (fun r1 v2 => ze_let r1 (fun x3 => ze_in (v2 75 29) 242 (ze_lev (ze_u v2 100 (Int32.toNatClampNeg (v2 75 29)) a1) (fun v4 => ze_in (v4 75 40) 16 (ze_in (v4 75 29) 242 (ze_lev (ze_u v4 101 (Int32.toNatClampNeg (v4 75 29)) (v4 108 (Int32.toNatClampNeg (v4 75 40)))) (fun v5 => ze_in (v5 75 40) 16 (ze_in (v5 75 29) 242 (ze_lev (ze_u v5 102 (Int32.toNatClampNeg (v5 75 29)) (v5 109 (Int32.toNatClampNeg (v5 75 40)))) (fun v6 => ze_lev (ze_u v6 75 29 ((v6 75 29) + 1)) (fun v7 => ze_let 0 (fun x8 => ze_let 0 (fun x9 => (f_M_order_L72  a1 x3 (fun x14 v15 => ze_let 0 (fun x16 => (f_M_order_L109  a1 x3 x14 (fun  v20 => ze_lev (ze_u v20 75 56 3) (fun v21 => some (0, v21))) 200000 x16 v15))) 200000 x8 x9 v7))))))))))))))
set_option maxHeartbeats 4000000 in
set_option maxRecDepth 100000 in
theorem w_M_order_L72 {G : ze_G}  (X : ze_X G bc_M_order cn_M 5 2 47) (Y : ze_Rv G)    (b1 : Int32) (b2 : Int32)  {kk : Int32 → ze_H → Option (Int32 × ze_H)} (hkk : ∀ (l3 : Int32) (v : ze_H), ze_T G (kk l3 v) v 106 [some (.inr 75), some (.inl b1), some (.inl b2), some (.inl l3), none] []) : ∀ (n : Nat) (l3 : Int32) (l4 : Int32) (v : ze_H), ze_T G (f_M_order_L72  b1 b2 kk n l3 l4 v) v 72 [some (.inr 75), some (.inl b1), some (.inl b2), some (.inl l3), some (.inl l4)] [] := by
  intro n
  induction n with
  | zero => intro l3 l4 v; exact ze_none
  | succ n ih =>
    intro l3 l4 v
    refine ze_iload X dc_M_order_72 rfl ?_
    refine ze_aload_n X dc_M_order_74 rfl rfl ?_
    refine ze_geti X dc_M_order_75 zf_M_195 sh_75 rfl ?_
    refine ze_icmp_ge (tgt := 106) X dc_M_order_78 (by decide) (fun _ => ?_) (fun _ => ?_)
    · refine ze_weak [true, true, true, true, false] ?_
      exact hkk l3 v
    · refine ze_iload_n X dc_M_order_81 rfl rfl ?_
      refine ze_aload_n X dc_M_order_82 rfl rfl ?_
      refine ze_getr X dc_M_order_83 zf_M_84 sh_75 rfl ?_
      refine ze_iload X dc_M_order_86 rfl ?_
      refine ze_iald X dc_M_order_88 sh_100 rfl (fun _ => ?_)
      refine ze_iload_n X dc_M_order_89 rfl rfl ?_
      refine ze_icmp_ne (tgt := 97) X dc_M_order_90 (by decide) (fun _ => ?_) (fun _ => ?_)
      · refine ze_iconst (x := 1) X dc_M_order_93 (by decide) ?_
        refine ze_goto (tgt := 98) X dc_M_order_94 (by decide) ?_
        refine ze_iadd X dc_M_order_98 ?_
        refine ze_istore_n X dc_M_order_99 rfl (by decide) (fun x10 => ?_)
        refine ze_iinc (y := 1) X dc_M_order_100 rfl (by decide) (by decide) (fun x11 => ?_)
        refine ze_goto (tgt := 72) X dc_M_order_103 (by decide) ?_
        refine ze_weak [true, true, true, true, true] ?_
        exact ih x10 x11 v
      · refine ze_iconst (x := 0) X dc_M_order_97 (by decide) ?_
        refine ze_iadd X dc_M_order_98 ?_
        refine ze_istore_n X dc_M_order_99 rfl (by decide) (fun x12 => ?_)
        refine ze_iinc (y := 1) X dc_M_order_100 rfl (by decide) (by decide) (fun x13 => ?_)
        refine ze_goto (tgt := 72) X dc_M_order_103 (by decide) ?_
        refine ze_weak [true, true, true, true, true] ?_
        exact ih x12 x13 v
set_option maxHeartbeats 4000000 in
set_option maxRecDepth 100000 in
theorem w_M_order_L109 {G : ze_G}  (X : ze_X G bc_M_order cn_M 5 2 47) (Y : ze_Rv G)    (b1 : Int32) (b2 : Int32) (b3 : Int32)  {kk : ze_H → Option (Int32 × ze_H)} (hkk : ∀ (v : ze_H), ze_T G (kk  v) v 143 [some (.inr 75), none, none, none, none] []) : ∀ (n : Nat) (l4 : Int32) (v : ze_H), ze_T G (f_M_order_L109  b1 b2 b3 kk n l4 v) v 109 [some (.inr 75), some (.inl b1), some (.inl b2), some (.inl b3), some (.inl l4)] [] := by
  intro n
  induction n with
  | zero => intro l4 v; exact ze_none
  | succ n ih =>
    intro l4 v
    refine ze_iload X dc_M_order_109 rfl ?_
    refine ze_iload_n X dc_M_order_111 rfl rfl ?_
    refine ze_icmp_ge (tgt := 143) X dc_M_order_112 (by decide) (fun _ => ?_) (fun _ => ?_)
    · refine ze_weak [true, false, false, false, false] ?_
      exact hkk  v
    · refine ze_iload_n X dc_M_order_115 rfl rfl ?_
      refine ze_iload_n X dc_M_order_116 rfl rfl ?_
      refine ze_icmp_ne (tgt := 143) X dc_M_order_117 (by decide) (fun _ => ?_) (fun _ => ?_)
      · refine ze_aload_n X dc_M_order_120 rfl rfl ?_
        refine ze_iload_n X dc_M_order_121 rfl rfl ?_
        refine ze_bipush (x := 64) X dc_M_order_122 (by decide) ?_
        refine ze_aload_n X dc_M_order_124 rfl rfl ?_
        refine ze_geti X dc_M_order_125 zf_M_201 sh_75 rfl ?_
        refine ze_imul X dc_M_order_128 ?_
        refine ze_aload_n X dc_M_order_129 rfl rfl ?_
        refine ze_geti X dc_M_order_130 zf_M_204 sh_75 rfl ?_
        refine ze_iadd X dc_M_order_133 ?_
        refine ze_callVv (As := [.inl b1, .inl ((64 * (v 75 53)) + (v 75 55))]) (st := []) X dc_M_order_134 zc_M_322 sh_75 (fun zr zv zh => c_M_takeLeast X.2.2.2.2.2.2.1  b1 ((64 * (v 75 53)) + (v 75 55))  v zh) rfl (by decide) (by decide) (Nat.le_of_ble_eq_true rfl) (fun r17 v18 => ?_)
        refine ze_iinc (y := 1) X dc_M_order_137 rfl (by decide) (by decide) (fun x19 => ?_)
        refine ze_goto (tgt := 109) X dc_M_order_140 (by decide) ?_
        refine ze_weak [true, true, true, true, true] ?_
        exact ih x19 v18
      · refine ze_weak [true, false, false, false, false] ?_
        exact hkk  v
set_option maxHeartbeats 4000000 in
set_option maxRecDepth 100000 in
theorem w_M_order {G : ze_G}  (X : ze_X G bc_M_order cn_M 5 2 47) (Y : ze_Rv G)    (a1 : Int32)  (v : ze_H) : ze_T G (f_M_order  a1 v) v 0 [some (.inr 75), some (.inl a1), none, none, none] [] := by
  refine ze_aload_n X dc_M_order_0 rfl rfl ?_
  refine ze_aload_n X dc_M_order_1 rfl rfl ?_
  refine ze_geti X dc_M_order_2 zf_M_227 sh_75 rfl ?_
  refine ze_iconst (x := 1) X dc_M_order_5 (by decide) ?_
  refine ze_iadd X dc_M_order_6 ?_
  refine ze_callVi (As := [.inl ((v 75 54) + 1)]) (st := []) X dc_M_order_7 zc_M_214 sh_75 (fun zr zv zh => c_M_value X.2.2.2.2.2.2.1  ((v 75 54) + 1)  v zh) rfl (by decide) (by decide) (Nat.le_of_ble_eq_true rfl) (fun r1 v2 => ?_)
  refine ze_istore_n X dc_M_order_10 rfl (by decide) (fun x3 => ?_)
  refine ze_aload_n X dc_M_order_11 rfl rfl ?_
  refine ze_getr X dc_M_order_12 zf_M_84 sh_75 rfl ?_
  refine ze_aload_n X dc_M_order_15 rfl rfl ?_
  refine ze_geti X dc_M_order_16 zf_M_195 sh_75 rfl ?_
  refine ze_iload_n X dc_M_order_19 rfl rfl ?_
  refine ze_iast X dc_M_order_20 sh_100 rfl (fun v4 _ => ?_)
  refine ze_aload_n X dc_M_order_21 rfl rfl ?_
  refine ze_getr X dc_M_order_22 zf_M_87 sh_75 rfl ?_
  refine ze_aload_n X dc_M_order_25 rfl rfl ?_
  refine ze_geti X dc_M_order_26 zf_M_195 sh_75 rfl ?_
  refine ze_aload_n X dc_M_order_29 rfl rfl ?_
  refine ze_getr X dc_M_order_30 zf_M_108 sh_75 rfl ?_
  refine ze_aload_n X dc_M_order_33 rfl rfl ?_
  refine ze_geti X dc_M_order_34 zf_M_211 sh_75 rfl ?_
  refine ze_iald X dc_M_order_37 sh_108 rfl (fun _ => ?_)
  refine ze_iast X dc_M_order_38 sh_101 rfl (fun v5 _ => ?_)
  refine ze_aload_n X dc_M_order_39 rfl rfl ?_
  refine ze_getr X dc_M_order_40 zf_M_90 sh_75 rfl ?_
  refine ze_aload_n X dc_M_order_43 rfl rfl ?_
  refine ze_geti X dc_M_order_44 zf_M_195 sh_75 rfl ?_
  refine ze_aload_n X dc_M_order_47 rfl rfl ?_
  refine ze_getr X dc_M_order_48 zf_M_111 sh_75 rfl ?_
  refine ze_aload_n X dc_M_order_51 rfl rfl ?_
  refine ze_geti X dc_M_order_52 zf_M_211 sh_75 rfl ?_
  refine ze_iald X dc_M_order_55 sh_109 rfl (fun _ => ?_)
  refine ze_iast X dc_M_order_56 sh_102 rfl (fun v6 _ => ?_)
  refine ze_aload_n X dc_M_order_57 rfl rfl ?_
  refine ze_dup X dc_M_order_58 ?_
  refine ze_geti X dc_M_order_59 zf_M_195 sh_75 rfl ?_
  refine ze_iconst (x := 1) X dc_M_order_62 (by decide) ?_
  refine ze_iadd X dc_M_order_63 ?_
  refine ze_puti X dc_M_order_64 zp_M_195 sh_75 rfl (fun v7 => ?_)
  refine ze_iconst (x := 0) X dc_M_order_67 (by decide) ?_
  refine ze_istore_n X dc_M_order_68 rfl (by decide) (fun x8 => ?_)
  refine ze_iconst (x := 0) X dc_M_order_69 (by decide) ?_
  refine ze_istore X dc_M_order_70 (by decide) (fun x9 => ?_)
  refine ze_weak [true, true, true, true, true] ?_
  refine w_M_order_L72 X Y    a1 x3  (fun x14 v15 => ?_) 200000 x8 x9 v7
  refine ze_iconst (x := 0) X dc_M_order_106 (by decide) ?_
  refine ze_istore X dc_M_order_107 (by decide) (fun x16 => ?_)
  refine ze_weak [true, true, true, true, true] ?_
  refine w_M_order_L109 X Y    a1 x3 x14  (fun  v20 => ?_) 200000 x16 v15
  refine ze_aload_n X dc_M_order_143 rfl rfl ?_
  refine ze_iconst (x := 3) X dc_M_order_144 (by decide) ?_
  refine ze_puti X dc_M_order_145 zp_M_247 sh_75 rfl (fun v21 => ?_)
  exact ze_vret X Y dc_M_order_148
set_option maxHeartbeats 4000000 in
set_option maxRecDepth 100000 in
theorem c_M_order {l : Launch} {D : va_G} {ad : Nat → Nat} {ca : Nat → ClassId} (hD : va_D (ze_A ad) (ze_ws ze_sh ad ca (fun _ _ => 0)))     (a1 : Int32)  (v : ze_H) {r : Int32} {v1 : ze_H} (h : f_M_order  a1 v = some (r, v1)) : ze_Mv l D ad ca my_M_order bc_M_order 5 2 47 [.inr 75, .inl a1] v v1 := ze_Mv_of (plainFor_of_name (by decide)) hD (Nat.le_of_ble_eq_true rfl) (fun G e1 e2 e3 e4 X Y => w_M_order X Y    a1  v) h
def f_M_act  (a1 : Int32) (v : ze_H) : Option (Int32 × ze_H) :=
  (if a1 = 33 then ze_call (f_M_value  ((v 75 54) + 1) v) (fun r2 v3 => ze_call (f_M_one  r2 v3) (fun r4 v5 => some (r4, v5))) else (if a1 = 38 then ze_call (f_M_value  ((v 75 54) + 1) v) (fun r7 v8 => ze_call (f_M_copy  r7 v8) (fun r9 v10 => some (r9, v10))) else (if a1 = 42 then ze_call (f_M_value  ((v 75 54) + 1) v) (fun r12 v13 => ze_call (f_M_change  a1 r12 v13) (fun r14 v15 => some (0, v15))) else (if a1 = 43 then ze_call (f_M_value  ((v 75 54) + 1) v) (fun r17 v18 => ze_call (f_M_change  a1 r17 v18) (fun r19 v20 => some (0, v20))) else (if a1 = 45 then ze_call (f_M_value  ((v 75 54) + 1) v) (fun r22 v23 => ze_call (f_M_change  a1 r22 v23) (fun r24 v25 => some (0, v25))) else (if a1 = 62 then ze_call (f_M_value  ((v 75 54) + 1) v) (fun r27 v28 => ze_call (f_M_visit  r27 v28) (fun r29 v30 => some (0, v30))) else (if a1 = 63 then ze_call (f_M_holds  ((v 75 54) + 1) v) (fun r32 v33 => ze_call (f_M_choose  r32 v33) (fun r34 v35 => some (0, v35))) else (if a1 = 97 then ze_call (f_M_gather  ((40 * (v 75 53)) + (v 75 54)) v) (fun r37 v38 => some (r37, v38)) else (if a1 = 98 then ze_in (v 75 40) 16 (ze_in (v 75 40) 16 (ze_lev (ze_u v 108 (Int32.toNatClampNeg (v 75 40)) (v 109 (Int32.toNatClampNeg (v 75 40)))) (fun v40 => ze_lev (ze_u v40 75 54 ((v40 75 54) + 1)) (fun v41 => some (0, v41))))) else (if a1 = 102 then ze_call (f_M_holds  ((v 75 54) + 1) v) (fun r43 v44 => (if r43 = 0 then ze_lev (ze_u v44 75 56 2) (fun v45 => ze_lev (ze_u v45 75 54 (v45 75 55)) (fun v46 => some (0, v46))) else ze_lev (ze_u v44 75 56 0) (fun v47 => ze_lev (ze_u v47 75 54 (v47 75 55)) (fun v48 => some (0, v48))))) else (if a1 = 105 then ze_call (f_M_once  ((40 * (v 75 53)) + (v 75 54)) v) (fun r50 v51 => some (0, v51)) else (if a1 = 107 then ze_in (v 75 40) 16 (ze_in (v 75 40) 16 (ze_lev (ze_u v 109 (Int32.toNatClampNeg (v 75 40)) (v 108 (Int32.toNatClampNeg (v 75 40)))) (fun v53 => ze_lev (ze_u v53 75 54 ((v53 75 54) + 1)) (fun v54 => some (0, v54))))) else (if a1 = 114 then ze_call (f_M_several   v) (fun r56 v57 => some (r56, v57)) else (if a1 = 115 then ze_call (f_M_value  ((v 75 54) + 1) v) (fun r59 v60 => ze_call (f_M_split  r59 v60) (fun r61 v62 => some (0, v62))) else ze_call (f_M_order  ((40 * (v 75 53)) + (v 75 54)) v) (fun r63 v64 => some (0, v64))))))))))))))))
set_option maxHeartbeats 4000000 in
set_option maxRecDepth 100000 in
theorem w_M_act {G : ze_G}  (X : ze_X G bc_M_act cn_M 2 3 71) (Y : ze_Ri G .int)    (a1 : Int32)  (v : ze_H) : ze_T G (f_M_act  a1 v) v 0 [some (.inr 75), some (.inl a1)] [] := by
  refine ze_iload_n X dc_M_act_0 rfl rfl ?_
  refine ze_if (c := a1 = 33) (fun hq => ?_) (fun hn1 => ?_)
  · refine ze_lookup (off := 295) (tgt := 296) X dc_M_act_1 rfl (by rw [hq]; rfl) (by decide) ?_
    refine ze_aload_n X dc_M_act_296 rfl rfl ?_
    refine ze_aload_n X dc_M_act_297 rfl rfl ?_
    refine ze_aload_n X dc_M_act_298 rfl rfl ?_
    refine ze_geti X dc_M_act_299 zf_M_227 sh_75 rfl ?_
    refine ze_iconst (x := 1) X dc_M_act_302 (by decide) ?_
    refine ze_iadd X dc_M_act_303 ?_
    refine ze_callVi (As := [.inl ((v 75 54) + 1)]) (st := [.inr 75]) X dc_M_act_304 zc_M_214 sh_75 (fun zr zv zh => c_M_value X.2.2.2.2.2.2.1  ((v 75 54) + 1)  v zh) rfl (by decide) (by decide) (Nat.le_of_ble_eq_true rfl) (fun r2 v3 => ?_)
    refine ze_callVi (As := [.inl r2]) (st := []) X dc_M_act_307 zc_M_289 sh_75 (fun zr zv zh => c_M_one X.2.2.2.2.2.2.1  r2  v3 zh) rfl (by decide) (by decide) (Nat.le_of_ble_eq_true rfl) (fun r4 v5 => ?_)
    exact ze_iret X Y (vp_nar_int _) dc_M_act_310
  refine ze_if (c := a1 = 38) (fun hq => ?_) (fun hn6 => ?_)
  · refine ze_lookup (off := 280) (tgt := 281) X dc_M_act_1 rfl (by rw [hq]; rfl) (by decide) ?_
    refine ze_aload_n X dc_M_act_281 rfl rfl ?_
    refine ze_aload_n X dc_M_act_282 rfl rfl ?_
    refine ze_aload_n X dc_M_act_283 rfl rfl ?_
    refine ze_geti X dc_M_act_284 zf_M_227 sh_75 rfl ?_
    refine ze_iconst (x := 1) X dc_M_act_287 (by decide) ?_
    refine ze_iadd X dc_M_act_288 ?_
    refine ze_callVi (As := [.inl ((v 75 54) + 1)]) (st := [.inr 75]) X dc_M_act_289 zc_M_214 sh_75 (fun zr zv zh => c_M_value X.2.2.2.2.2.2.1  ((v 75 54) + 1)  v zh) rfl (by decide) (by decide) (Nat.le_of_ble_eq_true rfl) (fun r7 v8 => ?_)
    refine ze_callVi (As := [.inl r7]) (st := []) X dc_M_act_292 zc_M_286 sh_75 (fun zr zv zh => c_M_copy X.2.2.2.2.2.2.1  r7  v8 zh) rfl (by decide) (by decide) (Nat.le_of_ble_eq_true rfl) (fun r9 v10 => ?_)
    exact ze_iret X Y (vp_nar_int _) dc_M_act_295
  refine ze_if (c := a1 = 42) (fun hq => ?_) (fun hn11 => ?_)
  · refine ze_lookup (off := 123) (tgt := 124) X dc_M_act_1 rfl (by rw [hq]; rfl) (by decide) ?_
    refine ze_aload_n X dc_M_act_124 rfl rfl ?_
    refine ze_iload_n X dc_M_act_125 rfl rfl ?_
    refine ze_aload_n X dc_M_act_126 rfl rfl ?_
    refine ze_aload_n X dc_M_act_127 rfl rfl ?_
    refine ze_geti X dc_M_act_128 zf_M_227 sh_75 rfl ?_
    refine ze_iconst (x := 1) X dc_M_act_131 (by decide) ?_
    refine ze_iadd X dc_M_act_132 ?_
    refine ze_callVi (As := [.inl ((v 75 54) + 1)]) (st := [.inl a1, .inr 75]) X dc_M_act_133 zc_M_214 sh_75 (fun zr zv zh => c_M_value X.2.2.2.2.2.2.1  ((v 75 54) + 1)  v zh) rfl (by decide) (by decide) (Nat.le_of_ble_eq_true rfl) (fun r12 v13 => ?_)
    refine ze_callVv (As := [.inl a1, .inl r12]) (st := []) X dc_M_act_136 zc_M_267 sh_75 (fun zr zv zh => c_M_change X.2.2.2.2.2.2.1  a1 r12  v13 zh) rfl (by decide) (by decide) (Nat.le_of_ble_eq_true rfl) (fun r14 v15 => ?_)
    refine ze_iconst (x := 0) X dc_M_act_139 (by decide) ?_
    exact ze_iret X Y (vp_nar_int _) dc_M_act_140
  refine ze_if (c := a1 = 43) (fun hq => ?_) (fun hn16 => ?_)
  · refine ze_lookup (off := 123) (tgt := 124) X dc_M_act_1 rfl (by rw [hq]; rfl) (by decide) ?_
    refine ze_aload_n X dc_M_act_124 rfl rfl ?_
    refine ze_iload_n X dc_M_act_125 rfl rfl ?_
    refine ze_aload_n X dc_M_act_126 rfl rfl ?_
    refine ze_aload_n X dc_M_act_127 rfl rfl ?_
    refine ze_geti X dc_M_act_128 zf_M_227 sh_75 rfl ?_
    refine ze_iconst (x := 1) X dc_M_act_131 (by decide) ?_
    refine ze_iadd X dc_M_act_132 ?_
    refine ze_callVi (As := [.inl ((v 75 54) + 1)]) (st := [.inl a1, .inr 75]) X dc_M_act_133 zc_M_214 sh_75 (fun zr zv zh => c_M_value X.2.2.2.2.2.2.1  ((v 75 54) + 1)  v zh) rfl (by decide) (by decide) (Nat.le_of_ble_eq_true rfl) (fun r17 v18 => ?_)
    refine ze_callVv (As := [.inl a1, .inl r17]) (st := []) X dc_M_act_136 zc_M_267 sh_75 (fun zr zv zh => c_M_change X.2.2.2.2.2.2.1  a1 r17  v18 zh) rfl (by decide) (by decide) (Nat.le_of_ble_eq_true rfl) (fun r19 v20 => ?_)
    refine ze_iconst (x := 0) X dc_M_act_139 (by decide) ?_
    exact ze_iret X Y (vp_nar_int _) dc_M_act_140
  refine ze_if (c := a1 = 45) (fun hq => ?_) (fun hn21 => ?_)
  · refine ze_lookup (off := 123) (tgt := 124) X dc_M_act_1 rfl (by rw [hq]; rfl) (by decide) ?_
    refine ze_aload_n X dc_M_act_124 rfl rfl ?_
    refine ze_iload_n X dc_M_act_125 rfl rfl ?_
    refine ze_aload_n X dc_M_act_126 rfl rfl ?_
    refine ze_aload_n X dc_M_act_127 rfl rfl ?_
    refine ze_geti X dc_M_act_128 zf_M_227 sh_75 rfl ?_
    refine ze_iconst (x := 1) X dc_M_act_131 (by decide) ?_
    refine ze_iadd X dc_M_act_132 ?_
    refine ze_callVi (As := [.inl ((v 75 54) + 1)]) (st := [.inl a1, .inr 75]) X dc_M_act_133 zc_M_214 sh_75 (fun zr zv zh => c_M_value X.2.2.2.2.2.2.1  ((v 75 54) + 1)  v zh) rfl (by decide) (by decide) (Nat.le_of_ble_eq_true rfl) (fun r22 v23 => ?_)
    refine ze_callVv (As := [.inl a1, .inl r22]) (st := []) X dc_M_act_136 zc_M_267 sh_75 (fun zr zv zh => c_M_change X.2.2.2.2.2.2.1  a1 r22  v23 zh) rfl (by decide) (by decide) (Nat.le_of_ble_eq_true rfl) (fun r24 v25 => ?_)
    refine ze_iconst (x := 0) X dc_M_act_139 (by decide) ?_
    exact ze_iret X Y (vp_nar_int _) dc_M_act_140
  refine ze_if (c := a1 = 62) (fun hq => ?_) (fun hn26 => ?_)
  · refine ze_lookup (off := 264) (tgt := 265) X dc_M_act_1 rfl (by rw [hq]; rfl) (by decide) ?_
    refine ze_aload_n X dc_M_act_265 rfl rfl ?_
    refine ze_aload_n X dc_M_act_266 rfl rfl ?_
    refine ze_aload_n X dc_M_act_267 rfl rfl ?_
    refine ze_geti X dc_M_act_268 zf_M_227 sh_75 rfl ?_
    refine ze_iconst (x := 1) X dc_M_act_271 (by decide) ?_
    refine ze_iadd X dc_M_act_272 ?_
    refine ze_callVi (As := [.inl ((v 75 54) + 1)]) (st := [.inr 75]) X dc_M_act_273 zc_M_214 sh_75 (fun zr zv zh => c_M_value X.2.2.2.2.2.2.1  ((v 75 54) + 1)  v zh) rfl (by decide) (by decide) (Nat.le_of_ble_eq_true rfl) (fun r27 v28 => ?_)
    refine ze_callVv (As := [.inl r27]) (st := []) X dc_M_act_276 zc_M_283 sh_75 (fun zr zv zh => c_M_visit X.2.2.2.2.2.2.1  r27  v28 zh) rfl (by decide) (by decide) (Nat.le_of_ble_eq_true rfl) (fun r29 v30 => ?_)
    refine ze_iconst (x := 0) X dc_M_act_279 (by decide) ?_
    exact ze_iret X Y (vp_nar_int _) dc_M_act_280
  refine ze_if (c := a1 = 63) (fun hq => ?_) (fun hn31 => ?_)
  · refine ze_lookup (off := 200) (tgt := 201) X dc_M_act_1 rfl (by rw [hq]; rfl) (by decide) ?_
    refine ze_aload_n X dc_M_act_201 rfl rfl ?_
    refine ze_aload_n X dc_M_act_202 rfl rfl ?_
    refine ze_aload_n X dc_M_act_203 rfl rfl ?_
    refine ze_geti X dc_M_act_204 zf_M_227 sh_75 rfl ?_
    refine ze_iconst (x := 1) X dc_M_act_207 (by decide) ?_
    refine ze_iadd X dc_M_act_208 ?_
    refine ze_callVi (As := [.inl ((v 75 54) + 1)]) (st := [.inr 75]) X dc_M_act_209 zc_M_271 sh_75 (fun zr zv zh => c_M_holds X.2.2.2.2.2.2.1  ((v 75 54) + 1)  v zh) rfl (by decide) (by decide) (Nat.le_of_ble_eq_true rfl) (fun r32 v33 => ?_)
    refine ze_callVv (As := [.inl r32]) (st := []) X dc_M_act_212 zc_M_275 sh_75 (fun zr zv zh => c_M_choose X.2.2.2.2.2.2.1  r32  v33 zh) rfl (by decide) (by decide) (Nat.le_of_ble_eq_true rfl) (fun r34 v35 => ?_)
    refine ze_iconst (x := 0) X dc_M_act_215 (by decide) ?_
    exact ze_iret X Y (vp_nar_int _) dc_M_act_216
  refine ze_if (c := a1 = 97) (fun hq => ?_) (fun hn36 => ?_)
  · refine ze_lookup (off := 333) (tgt := 334) X dc_M_act_1 rfl (by rw [hq]; rfl) (by decide) ?_
    refine ze_aload_n X dc_M_act_334 rfl rfl ?_
    refine ze_bipush (x := 40) X dc_M_act_335 (by decide) ?_
    refine ze_aload_n X dc_M_act_337 rfl rfl ?_
    refine ze_geti X dc_M_act_338 zf_M_201 sh_75 rfl ?_
    refine ze_imul X dc_M_act_341 ?_
    refine ze_aload_n X dc_M_act_342 rfl rfl ?_
    refine ze_geti X dc_M_act_343 zf_M_227 sh_75 rfl ?_
    refine ze_iadd X dc_M_act_346 ?_
    refine ze_callVi (As := [.inl ((40 * (v 75 53)) + (v 75 54))]) (st := []) X dc_M_act_347 zc_M_298 sh_75 (fun zr zv zh => c_M_gather X.2.2.2.2.2.2.1  ((40 * (v 75 53)) + (v 75 54))  v zh) rfl (by decide) (by decide) (Nat.le_of_ble_eq_true rfl) (fun r37 v38 => ?_)
    exact ze_iret X Y (vp_nar_int _) dc_M_act_350
  refine ze_if (c := a1 = 98) (fun hq => ?_) (fun hn39 => ?_)
  · refine ze_lookup (off := 170) (tgt := 171) X dc_M_act_1 rfl (by rw [hq]; rfl) (by decide) ?_
    refine ze_aload_n X dc_M_act_171 rfl rfl ?_
    refine ze_getr X dc_M_act_172 zf_M_108 sh_75 rfl ?_
    refine ze_aload_n X dc_M_act_175 rfl rfl ?_
    refine ze_geti X dc_M_act_176 zf_M_211 sh_75 rfl ?_
    refine ze_aload_n X dc_M_act_179 rfl rfl ?_
    refine ze_getr X dc_M_act_180 zf_M_111 sh_75 rfl ?_
    refine ze_aload_n X dc_M_act_183 rfl rfl ?_
    refine ze_geti X dc_M_act_184 zf_M_211 sh_75 rfl ?_
    refine ze_iald X dc_M_act_187 sh_109 rfl (fun _ => ?_)
    refine ze_iast X dc_M_act_188 sh_108 rfl (fun v40 _ => ?_)
    refine ze_aload_n X dc_M_act_189 rfl rfl ?_
    refine ze_dup X dc_M_act_190 ?_
    refine ze_geti X dc_M_act_191 zf_M_227 sh_75 rfl ?_
    refine ze_iconst (x := 1) X dc_M_act_194 (by decide) ?_
    refine ze_iadd X dc_M_act_195 ?_
    refine ze_puti X dc_M_act_196 zp_M_227 sh_75 rfl (fun v41 => ?_)
    refine ze_iconst (x := 0) X dc_M_act_199 (by decide) ?_
    exact ze_iret X Y (vp_nar_int _) dc_M_act_200
  refine ze_if (c := a1 = 102) (fun hq => ?_) (fun hn42 => ?_)
  · refine ze_lookup (off := 216) (tgt := 217) X dc_M_act_1 rfl (by rw [hq]; rfl) (by decide) ?_
    refine ze_aload_n X dc_M_act_217 rfl rfl ?_
    refine ze_aload_n X dc_M_act_218 rfl rfl ?_
    refine ze_aload_n X dc_M_act_219 rfl rfl ?_
    refine ze_geti X dc_M_act_220 zf_M_227 sh_75 rfl ?_
    refine ze_iconst (x := 1) X dc_M_act_223 (by decide) ?_
    refine ze_iadd X dc_M_act_224 ?_
    refine ze_callVi (As := [.inl ((v 75 54) + 1)]) (st := [.inr 75]) X dc_M_act_225 zc_M_271 sh_75 (fun zr zv zh => c_M_holds X.2.2.2.2.2.2.1  ((v 75 54) + 1)  v zh) rfl (by decide) (by decide) (Nat.le_of_ble_eq_true rfl) (fun r43 v44 => ?_)
    refine ze_if_eq (tgt := 235) X dc_M_act_228 (by decide) (fun _ => ?_) (fun _ => ?_)
    · refine ze_iconst (x := 2) X dc_M_act_235 (by decide) ?_
      refine ze_puti X dc_M_act_236 zp_M_247 sh_75 rfl (fun v45 => ?_)
      refine ze_aload_n X dc_M_act_239 rfl rfl ?_
      refine ze_aload_n X dc_M_act_240 rfl rfl ?_
      refine ze_geti X dc_M_act_241 zf_M_204 sh_75 rfl ?_
      refine ze_puti X dc_M_act_244 zp_M_227 sh_75 rfl (fun v46 => ?_)
      refine ze_iconst (x := 0) X dc_M_act_247 (by decide) ?_
      exact ze_iret X Y (vp_nar_int _) dc_M_act_248
    · refine ze_iconst (x := 0) X dc_M_act_231 (by decide) ?_
      refine ze_goto (tgt := 236) X dc_M_act_232 (by decide) ?_
      refine ze_puti X dc_M_act_236 zp_M_247 sh_75 rfl (fun v47 => ?_)
      refine ze_aload_n X dc_M_act_239 rfl rfl ?_
      refine ze_aload_n X dc_M_act_240 rfl rfl ?_
      refine ze_geti X dc_M_act_241 zf_M_204 sh_75 rfl ?_
      refine ze_puti X dc_M_act_244 zp_M_227 sh_75 rfl (fun v48 => ?_)
      refine ze_iconst (x := 0) X dc_M_act_247 (by decide) ?_
      exact ze_iret X Y (vp_nar_int _) dc_M_act_248
  refine ze_if (c := a1 = 105) (fun hq => ?_) (fun hn49 => ?_)
  · refine ze_lookup (off := 315) (tgt := 316) X dc_M_act_1 rfl (by rw [hq]; rfl) (by decide) ?_
    refine ze_aload_n X dc_M_act_316 rfl rfl ?_
    refine ze_bipush (x := 40) X dc_M_act_317 (by decide) ?_
    refine ze_aload_n X dc_M_act_319 rfl rfl ?_
    refine ze_geti X dc_M_act_320 zf_M_201 sh_75 rfl ?_
    refine ze_imul X dc_M_act_323 ?_
    refine ze_aload_n X dc_M_act_324 rfl rfl ?_
    refine ze_geti X dc_M_act_325 zf_M_227 sh_75 rfl ?_
    refine ze_iadd X dc_M_act_328 ?_
    refine ze_callVv (As := [.inl ((40 * (v 75 53)) + (v 75 54))]) (st := []) X dc_M_act_329 zc_M_295 sh_75 (fun zr zv zh => c_M_once X.2.2.2.2.2.2.1  ((40 * (v 75 53)) + (v 75 54))  v zh) rfl (by decide) (by decide) (Nat.le_of_ble_eq_true rfl) (fun r50 v51 => ?_)
    refine ze_iconst (x := 0) X dc_M_act_332 (by decide) ?_
    exact ze_iret X Y (vp_nar_int _) dc_M_act_333
  refine ze_if (c := a1 = 107) (fun hq => ?_) (fun hn52 => ?_)
  · refine ze_lookup (off := 140) (tgt := 141) X dc_M_act_1 rfl (by rw [hq]; rfl) (by decide) ?_
    refine ze_aload_n X dc_M_act_141 rfl rfl ?_
    refine ze_getr X dc_M_act_142 zf_M_111 sh_75 rfl ?_
    refine ze_aload_n X dc_M_act_145 rfl rfl ?_
    refine ze_geti X dc_M_act_146 zf_M_211 sh_75 rfl ?_
    refine ze_aload_n X dc_M_act_149 rfl rfl ?_
    refine ze_getr X dc_M_act_150 zf_M_108 sh_75 rfl ?_
    refine ze_aload_n X dc_M_act_153 rfl rfl ?_
    refine ze_geti X dc_M_act_154 zf_M_211 sh_75 rfl ?_
    refine ze_iald X dc_M_act_157 sh_108 rfl (fun _ => ?_)
    refine ze_iast X dc_M_act_158 sh_109 rfl (fun v53 _ => ?_)
    refine ze_aload_n X dc_M_act_159 rfl rfl ?_
    refine ze_dup X dc_M_act_160 ?_
    refine ze_geti X dc_M_act_161 zf_M_227 sh_75 rfl ?_
    refine ze_iconst (x := 1) X dc_M_act_164 (by decide) ?_
    refine ze_iadd X dc_M_act_165 ?_
    refine ze_puti X dc_M_act_166 zp_M_227 sh_75 rfl (fun v54 => ?_)
    refine ze_iconst (x := 0) X dc_M_act_169 (by decide) ?_
    exact ze_iret X Y (vp_nar_int _) dc_M_act_170
  refine ze_if (c := a1 = 114) (fun hq => ?_) (fun hn55 => ?_)
  · refine ze_lookup (off := 310) (tgt := 311) X dc_M_act_1 rfl (by rw [hq]; rfl) (by decide) ?_
    refine ze_aload_n X dc_M_act_311 rfl rfl ?_
    refine ze_callVi (As := []) (st := []) X dc_M_act_312 zc_M_292 sh_75 (fun zr zv zh => c_M_several X.2.2.2.2.2.2.1    v zh) rfl (by decide) (by decide) (Nat.le_of_ble_eq_true rfl) (fun r56 v57 => ?_)
    exact ze_iret X Y (vp_nar_int _) dc_M_act_315
  refine ze_if (c := a1 = 115) (fun hq => ?_) (fun hn58 => ?_)
  · refine ze_lookup (off := 248) (tgt := 249) X dc_M_act_1 rfl (by rw [hq]; rfl) (by decide) ?_
    refine ze_aload_n X dc_M_act_249 rfl rfl ?_
    refine ze_aload_n X dc_M_act_250 rfl rfl ?_
    refine ze_aload_n X dc_M_act_251 rfl rfl ?_
    refine ze_geti X dc_M_act_252 zf_M_227 sh_75 rfl ?_
    refine ze_iconst (x := 1) X dc_M_act_255 (by decide) ?_
    refine ze_iadd X dc_M_act_256 ?_
    refine ze_callVi (As := [.inl ((v 75 54) + 1)]) (st := [.inr 75]) X dc_M_act_257 zc_M_214 sh_75 (fun zr zv zh => c_M_value X.2.2.2.2.2.2.1  ((v 75 54) + 1)  v zh) rfl (by decide) (by decide) (Nat.le_of_ble_eq_true rfl) (fun r59 v60 => ?_)
    refine ze_callVv (As := [.inl r59]) (st := []) X dc_M_act_260 zc_M_279 sh_75 (fun zr zv zh => c_M_split X.2.2.2.2.2.2.1  r59  v60 zh) rfl (by decide) (by decide) (Nat.le_of_ble_eq_true rfl) (fun r61 v62 => ?_)
    refine ze_iconst (x := 0) X dc_M_act_263 (by decide) ?_
    exact ze_iret X Y (vp_nar_int _) dc_M_act_264
  refine ze_lookup (off := 350) (tgt := 351) X dc_M_act_1 rfl (by show Op.lookupswitch.offset [(33, 295), (38, 280), (42, 123), (43, 123), (45, 123), (62, 264), (63, 200), (97, 333), (98, 170), (102, 216), (105, 315), (107, 140), (114, 310), (115, 248)] 350 _ = _; rw [lv_osw (a := 33) hn1 (by decide), lv_osw (a := 38) hn6 (by decide), lv_osw (a := 42) hn11 (by decide), lv_osw (a := 43) hn16 (by decide), lv_osw (a := 45) hn21 (by decide), lv_osw (a := 62) hn26 (by decide), lv_osw (a := 63) hn31 (by decide), lv_osw (a := 97) hn36 (by decide), lv_osw (a := 98) hn39 (by decide), lv_osw (a := 102) hn42 (by decide), lv_osw (a := 105) hn49 (by decide), lv_osw (a := 107) hn52 (by decide), lv_osw (a := 114) hn55 (by decide), lv_osw (a := 115) hn58 (by decide)]; rfl) (by decide) ?_
  refine ze_aload_n X dc_M_act_351 rfl rfl ?_
  refine ze_bipush (x := 40) X dc_M_act_352 (by decide) ?_
  refine ze_aload_n X dc_M_act_354 rfl rfl ?_
  refine ze_geti X dc_M_act_355 zf_M_201 sh_75 rfl ?_
  refine ze_imul X dc_M_act_358 ?_
  refine ze_aload_n X dc_M_act_359 rfl rfl ?_
  refine ze_geti X dc_M_act_360 zf_M_227 sh_75 rfl ?_
  refine ze_iadd X dc_M_act_363 ?_
  refine ze_callVv (As := [.inl ((40 * (v 75 53)) + (v 75 54))]) (st := []) X dc_M_act_364 zc_M_301 sh_75 (fun zr zv zh => c_M_order X.2.2.2.2.2.2.1  ((40 * (v 75 53)) + (v 75 54))  v zh) rfl (by decide) (by decide) (Nat.le_of_ble_eq_true rfl) (fun r63 v64 => ?_)
  refine ze_iconst (x := 0) X dc_M_act_367 (by decide) ?_
  exact ze_iret X Y (vp_nar_int _) dc_M_act_368
set_option maxHeartbeats 4000000 in
set_option maxRecDepth 100000 in
theorem c_M_act {l : Launch} {D : va_G} {ad : Nat → Nat} {ca : Nat → ClassId} (hD : va_D (ze_A ad) (ze_ws ze_sh ad ca (fun _ _ => 0)))     (a1 : Int32)  (v : ze_H) {r : Int32} {v1 : ze_H} (h : f_M_act  a1 v = some (r, v1)) : ze_Mi l D ad ca my_M_act bc_M_act 2 .int 3 71 [.inr 75, .inl a1] v r v1 := ze_Mi_of (plainFor_of_name (by decide)) hD (Nat.le_of_ble_eq_true rfl) (fun G e1 e2 e3 e4 X Y => w_M_act X Y    a1  v) h
def f_M_step_L149  (b1 : Int32) (kk : Int32 → ze_H → Option (Int32 × ze_H)) : Nat → Int32 → Int32 → ze_H → Option (Int32 × ze_H)
  | 0, _, _, _ => none
  | n + 1, l4, l5, v =>
    (if b1 ≤ l5 then (kk l4 v) else ze_let (2 * l4) (fun x14 => ze_let (l5 + 1) (fun x15 => (f_M_step_L149  b1 kk n x14 x15 v))))
def f_M_step_L2   (kk : ze_H → Option (Int32 × ze_H)) : Nat → Int32 → ze_H → Option (Int32 × ze_H)
  | 0, _, _ => none
  | n + 1, l1, v =>
    (if 10 < l1 then (kk  v) else (if (v 75 57) < 100 then ze_lev (ze_u v 75 57 ((v 75 57) + 1)) (fun v2 => ze_lev (ze_u v2 75 56 0) (fun v3 => ze_call (f_M_here  (v3 75 54) v3) (fun r4 v5 => ze_call (f_M_act  r4 v5) (fun r6 v7 => ze_let r6 (fun x8 => (if x8 = 0 then some ((v7 75 56), v7) else ze_call (f_M_clauseFor  x8 v7) (fun r9 v10 => ze_let r9 (fun x11 => (if 0 ≤ x11 then ze_in x11 4 ((if l1 ≤ (v10 82 (Int32.toNatClampNeg x11)) then ze_in x11 4 (ze_let (v10 83 (Int32.toNatClampNeg x11)) (fun x12 => ze_let 1 (fun x13 => (f_M_step_L149  l1 (fun x16 v17 => (if x16 ≤ 60 then ze_lev (ze_u v17 75 58 ((v17 75 58) + x16)) (fun v18 => ze_lev (ze_u v18 75 59 ((v18 75 59) + 1)) (fun v19 => ze_let (l1 + 1) (fun x20 => (f_M_step_L2   kk n x20 v19)))) else ze_lev (ze_u v17 75 58 ((v17 75 58) + 60)) (fun v21 => ze_lev (ze_u v21 75 59 ((v21 75 59) + 1)) (fun v22 => ze_let (l1 + 1) (fun x23 => (f_M_step_L2   kk n x23 v22)))))) 200000 x12 x13 v10)))) else ze_in x11 4 ((if (v10 84 (Int32.toNatClampNeg x11)) = 0 then some (6, v10) else ze_in x11 4 ((if (v10 85 (Int32.toNatClampNeg x11)) = 0 then ze_in (v10 75 40) 16 (ze_in (v10 75 40) 16 (ze_call (f_M_deliver  4 (v10 108 (Int32.toNatClampNeg (v10 75 40))) (v10 109 (Int32.toNatClampNeg (v10 75 40))) v10) (fun r24 v25 => some (5, v25)))) else ze_in (v10 75 40) 16 (ze_in (v10 75 40) 16 (ze_call (f_M_deliver  4 (v10 110 (Int32.toNatClampNeg (v10 75 40))) (v10 109 (Int32.toNatClampNeg (v10 75 40))) v10) (fun r26 v27 => some (5, v27)))))))))) else some (6, v10)))))))))) else some (7, v)))
def f_M_step   (v : ze_H) : Option (Int32 × ze_H) :=
  ze_let 1 (fun x1 => (f_M_step_L2   (fun  v28 => some (6, v28)) 200000 x1 v))
set_option maxHeartbeats 4000000 in
set_option maxRecDepth 100000 in
theorem w_M_step_L149 {G : ze_G}  (X : ze_X G bc_M_step cn_M 6 4 92) (Y : ze_Ri G .int)    (b1 : Int32)  {kk : Int32 → ze_H → Option (Int32 × ze_H)} (hkk : ∀ (l4 : Int32) (v : ze_H), ze_T G (kk l4 v) v 167 [some (.inr 75), some (.inl b1), none, none, some (.inl l4), none] []) : ∀ (n : Nat) (l4 : Int32) (l5 : Int32) (v : ze_H), ze_T G (f_M_step_L149  b1 kk n l4 l5 v) v 149 [some (.inr 75), some (.inl b1), none, none, some (.inl l4), some (.inl l5)] [] := by
  intro n
  induction n with
  | zero => intro l4 l5 v; exact ze_none
  | succ n ih =>
    intro l4 l5 v
    refine ze_iload X dc_M_step_149 rfl ?_
    refine ze_iload_n X dc_M_step_151 rfl rfl ?_
    refine ze_icmp_ge (tgt := 167) X dc_M_step_152 (by decide) (fun _ => ?_) (fun _ => ?_)
    · refine ze_weak [true, true, false, false, true, false] ?_
      exact hkk l4 v
    · refine ze_iconst (x := 2) X dc_M_step_155 (by decide) ?_
      refine ze_iload X dc_M_step_156 rfl ?_
      refine ze_imul X dc_M_step_158 ?_
      refine ze_istore X dc_M_step_159 (by decide) (fun x14 => ?_)
      refine ze_iinc (y := 1) X dc_M_step_161 rfl (by decide) (by decide) (fun x15 => ?_)
      refine ze_goto (tgt := 149) X dc_M_step_164 (by decide) ?_
      refine ze_weak [true, true, false, false, true, true] ?_
      exact ih x14 x15 v
set_option maxHeartbeats 4000000 in
set_option maxRecDepth 100000 in
theorem w_M_step_L2 {G : ze_G}  (X : ze_X G bc_M_step cn_M 6 4 92) (Y : ze_Ri G .int)      {kk : ze_H → Option (Int32 × ze_H)} (hkk : ∀ (v : ze_H), ze_T G (kk  v) v 206 [none, none, none, none, none, none] []) : ∀ (n : Nat) (l1 : Int32) (v : ze_H), ze_T G (f_M_step_L2   kk n l1 v) v 2 [some (.inr 75), some (.inl l1), none, none, none, none] [] := by
  intro n
  induction n with
  | zero => intro l1 v; exact ze_none
  | succ n ih =>
    intro l1 v
    refine ze_iload_n X dc_M_step_2 rfl rfl ?_
    refine ze_bipush (x := 10) X dc_M_step_3 (by decide) ?_
    refine ze_icmp_gt (tgt := 206) X dc_M_step_5 (by decide) (fun _ => ?_) (fun _ => ?_)
    · refine ze_weak [false, false, false, false, false, false] ?_
      exact hkk  v
    · refine ze_aload_n X dc_M_step_8 rfl rfl ?_
      refine ze_geti X dc_M_step_9 zf_M_244 sh_75 rfl ?_
      refine ze_bipush (x := 100) X dc_M_step_12 (by decide) ?_
      refine ze_icmp_lt (tgt := 20) X dc_M_step_14 (by decide) (fun _ => ?_) (fun _ => ?_)
      · refine ze_aload_n X dc_M_step_20 rfl rfl ?_
        refine ze_dup X dc_M_step_21 ?_
        refine ze_geti X dc_M_step_22 zf_M_244 sh_75 rfl ?_
        refine ze_iconst (x := 1) X dc_M_step_25 (by decide) ?_
        refine ze_iadd X dc_M_step_26 ?_
        refine ze_puti X dc_M_step_27 zp_M_244 sh_75 rfl (fun v2 => ?_)
        refine ze_aload_n X dc_M_step_30 rfl rfl ?_
        refine ze_iconst (x := 0) X dc_M_step_31 (by decide) ?_
        refine ze_puti X dc_M_step_32 zp_M_247 sh_75 rfl (fun v3 => ?_)
        refine ze_aload_n X dc_M_step_35 rfl rfl ?_
        refine ze_aload_n X dc_M_step_36 rfl rfl ?_
        refine ze_aload_n X dc_M_step_37 rfl rfl ?_
        refine ze_geti X dc_M_step_38 zf_M_227 sh_75 rfl ?_
        refine ze_callVi (As := [.inl (v3 75 54)]) (st := [.inr 75]) X dc_M_step_41 zc_M_207 sh_75 (fun zr zv zh => c_M_here X.2.2.2.2.2.2.1  (v3 75 54)  v3 zh) rfl (by decide) (by decide) (Nat.le_of_ble_eq_true rfl) (fun r4 v5 => ?_)
        refine ze_callVi (As := [.inl r4]) (st := []) X dc_M_step_44 zc_M_250 sh_75 (fun zr zv zh => c_M_act X.2.2.2.2.2.2.1  r4  v5 zh) rfl (by decide) (by decide) (Nat.le_of_ble_eq_true rfl) (fun r6 v7 => ?_)
        refine ze_istore_n X dc_M_step_47 rfl (by decide) (fun x8 => ?_)
        refine ze_iload_n X dc_M_step_48 rfl rfl ?_
        refine ze_if_ne (tgt := 57) X dc_M_step_49 (by decide) (fun _ => ?_) (fun _ => ?_)
        · refine ze_aload_n X dc_M_step_52 rfl rfl ?_
          refine ze_geti X dc_M_step_53 zf_M_247 sh_75 rfl ?_
          exact ze_iret X Y (vp_nar_int _) dc_M_step_56
        · refine ze_aload_n X dc_M_step_57 rfl rfl ?_
          refine ze_iload_n X dc_M_step_58 rfl rfl ?_
          refine ze_callVi (As := [.inl x8]) (st := []) X dc_M_step_59 zc_M_254 sh_75 (fun zr zv zh => c_M_clauseFor X.2.2.2.2.2.2.1  x8  v7 zh) rfl (by decide) (by decide) (Nat.le_of_ble_eq_true rfl) (fun r9 v10 => ?_)
          refine ze_istore_n X dc_M_step_62 rfl (by decide) (fun x11 => ?_)
          refine ze_iload_n X dc_M_step_63 rfl rfl ?_
          refine ze_if_ge (tgt := 70) X dc_M_step_64 (by decide) (fun _ => ?_) (fun _ => ?_)
          · refine ze_iload_n X dc_M_step_70 rfl rfl ?_
            refine ze_aload_n X dc_M_step_71 rfl rfl ?_
            refine ze_getr X dc_M_step_72 zf_M_29 sh_75 rfl ?_
            refine ze_iload_n X dc_M_step_75 rfl rfl ?_
            refine ze_iald X dc_M_step_76 sh_82 rfl (fun _ => ?_)
            refine ze_icmp_le (tgt := 138) X dc_M_step_77 (by decide) (fun _ => ?_) (fun _ => ?_)
            · refine ze_aload_n X dc_M_step_138 rfl rfl ?_
              refine ze_getr X dc_M_step_139 zf_M_32 sh_75 rfl ?_
              refine ze_iload_n X dc_M_step_142 rfl rfl ?_
              refine ze_iald X dc_M_step_143 sh_83 rfl (fun _ => ?_)
              refine ze_istore X dc_M_step_144 (by decide) (fun x12 => ?_)
              refine ze_iconst (x := 1) X dc_M_step_146 (by decide) ?_
              refine ze_istore X dc_M_step_147 (by decide) (fun x13 => ?_)
              refine ze_weak [true, true, false, false, true, true] ?_
              refine w_M_step_L149 X Y    l1  (fun x16 v17 => ?_) 200000 x12 x13 v10
              refine ze_aload_n X dc_M_step_167 rfl rfl ?_
              refine ze_dup X dc_M_step_168 ?_
              refine ze_geti X dc_M_step_169 zf_M_261 sh_75 rfl ?_
              refine ze_iload X dc_M_step_172 rfl ?_
              refine ze_bipush (x := 60) X dc_M_step_174 (by decide) ?_
              refine ze_icmp_le (tgt := 184) X dc_M_step_176 (by decide) (fun _ => ?_) (fun _ => ?_)
              · refine ze_iload X dc_M_step_184 rfl ?_
                refine ze_iadd X dc_M_step_186 ?_
                refine ze_puti X dc_M_step_187 zp_M_261 sh_75 rfl (fun v18 => ?_)
                refine ze_aload_n X dc_M_step_190 rfl rfl ?_
                refine ze_dup X dc_M_step_191 ?_
                refine ze_geti X dc_M_step_192 zf_M_264 sh_75 rfl ?_
                refine ze_iconst (x := 1) X dc_M_step_195 (by decide) ?_
                refine ze_iadd X dc_M_step_196 ?_
                refine ze_puti X dc_M_step_197 zp_M_264 sh_75 rfl (fun v19 => ?_)
                refine ze_iinc (y := 1) X dc_M_step_200 rfl (by decide) (by decide) (fun x20 => ?_)
                refine ze_goto (tgt := 2) X dc_M_step_203 (by decide) ?_
                refine ze_weak [true, true, false, false, false, false] ?_
                exact ih x20 v19
              · refine ze_bipush (x := 60) X dc_M_step_179 (by decide) ?_
                refine ze_goto (tgt := 186) X dc_M_step_181 (by decide) ?_
                refine ze_iadd X dc_M_step_186 ?_
                refine ze_puti X dc_M_step_187 zp_M_261 sh_75 rfl (fun v21 => ?_)
                refine ze_aload_n X dc_M_step_190 rfl rfl ?_
                refine ze_dup X dc_M_step_191 ?_
                refine ze_geti X dc_M_step_192 zf_M_264 sh_75 rfl ?_
                refine ze_iconst (x := 1) X dc_M_step_195 (by decide) ?_
                refine ze_iadd X dc_M_step_196 ?_
                refine ze_puti X dc_M_step_197 zp_M_264 sh_75 rfl (fun v22 => ?_)
                refine ze_iinc (y := 1) X dc_M_step_200 rfl (by decide) (by decide) (fun x23 => ?_)
                refine ze_goto (tgt := 2) X dc_M_step_203 (by decide) ?_
                refine ze_weak [true, true, false, false, false, false] ?_
                exact ih x23 v22
            · refine ze_aload_n X dc_M_step_80 rfl rfl ?_
              refine ze_getr X dc_M_step_81 zf_M_35 sh_75 rfl ?_
              refine ze_iload_n X dc_M_step_84 rfl rfl ?_
              refine ze_zald X dc_M_step_85 sh_84 rfl (fun _ => ?_)
              refine ze_if_ne (tgt := 92) X dc_M_step_86 (by decide) (fun _ => ?_) (fun _ => ?_)
              · refine ze_bipush (x := 6) X dc_M_step_89 (by decide) ?_
                exact ze_iret X Y (vp_nar_int _) dc_M_step_91
              · refine ze_aload_n X dc_M_step_92 rfl rfl ?_
                refine ze_iconst (x := 4) X dc_M_step_93 (by decide) ?_
                refine ze_aload_n X dc_M_step_94 rfl rfl ?_
                refine ze_getr X dc_M_step_95 zf_M_39 sh_75 rfl ?_
                refine ze_iload_n X dc_M_step_98 rfl rfl ?_
                refine ze_zald X dc_M_step_99 sh_85 rfl (fun _ => ?_)
                refine ze_if_eq (tgt := 115) X dc_M_step_100 (by decide) (fun _ => ?_) (fun _ => ?_)
                · refine ze_aload_n X dc_M_step_115 rfl rfl ?_
                  refine ze_getr X dc_M_step_116 zf_M_108 sh_75 rfl ?_
                  refine ze_aload_n X dc_M_step_119 rfl rfl ?_
                  refine ze_geti X dc_M_step_120 zf_M_211 sh_75 rfl ?_
                  refine ze_iald X dc_M_step_123 sh_108 rfl (fun _ => ?_)
                  refine ze_aload_n X dc_M_step_124 rfl rfl ?_
                  refine ze_getr X dc_M_step_125 zf_M_111 sh_75 rfl ?_
                  refine ze_aload_n X dc_M_step_128 rfl rfl ?_
                  refine ze_geti X dc_M_step_129 zf_M_211 sh_75 rfl ?_
                  refine ze_iald X dc_M_step_132 sh_109 rfl (fun _ => ?_)
                  refine ze_callVv (As := [.inl 4, .inl (v10 108 (Int32.toNatClampNeg (v10 75 40))), .inl (v10 109 (Int32.toNatClampNeg (v10 75 40)))]) (st := []) X dc_M_step_133 zc_M_257 sh_75 (fun zr zv zh => c_M_deliver X.2.2.2.2.2.2.1  4 (v10 108 (Int32.toNatClampNeg (v10 75 40))) (v10 109 (Int32.toNatClampNeg (v10 75 40)))  v10 zh) rfl (by decide) (by decide) (Nat.le_of_ble_eq_true rfl) (fun r24 v25 => ?_)
                  refine ze_iconst (x := 5) X dc_M_step_136 (by decide) ?_
                  exact ze_iret X Y (vp_nar_int _) dc_M_step_137
                · refine ze_aload_n X dc_M_step_103 rfl rfl ?_
                  refine ze_getr X dc_M_step_104 zf_M_114 sh_75 rfl ?_
                  refine ze_aload_n X dc_M_step_107 rfl rfl ?_
                  refine ze_geti X dc_M_step_108 zf_M_211 sh_75 rfl ?_
                  refine ze_iald X dc_M_step_111 sh_110 rfl (fun _ => ?_)
                  refine ze_goto (tgt := 124) X dc_M_step_112 (by decide) ?_
                  refine ze_aload_n X dc_M_step_124 rfl rfl ?_
                  refine ze_getr X dc_M_step_125 zf_M_111 sh_75 rfl ?_
                  refine ze_aload_n X dc_M_step_128 rfl rfl ?_
                  refine ze_geti X dc_M_step_129 zf_M_211 sh_75 rfl ?_
                  refine ze_iald X dc_M_step_132 sh_109 rfl (fun _ => ?_)
                  refine ze_callVv (As := [.inl 4, .inl (v10 110 (Int32.toNatClampNeg (v10 75 40))), .inl (v10 109 (Int32.toNatClampNeg (v10 75 40)))]) (st := []) X dc_M_step_133 zc_M_257 sh_75 (fun zr zv zh => c_M_deliver X.2.2.2.2.2.2.1  4 (v10 110 (Int32.toNatClampNeg (v10 75 40))) (v10 109 (Int32.toNatClampNeg (v10 75 40)))  v10 zh) rfl (by decide) (by decide) (Nat.le_of_ble_eq_true rfl) (fun r26 v27 => ?_)
                  refine ze_iconst (x := 5) X dc_M_step_136 (by decide) ?_
                  exact ze_iret X Y (vp_nar_int _) dc_M_step_137
          · refine ze_bipush (x := 6) X dc_M_step_67 (by decide) ?_
            exact ze_iret X Y (vp_nar_int _) dc_M_step_69
      · refine ze_bipush (x := 7) X dc_M_step_17 (by decide) ?_
        exact ze_iret X Y (vp_nar_int _) dc_M_step_19
set_option maxHeartbeats 4000000 in
set_option maxRecDepth 100000 in
theorem w_M_step {G : ze_G}  (X : ze_X G bc_M_step cn_M 6 4 92) (Y : ze_Ri G .int)      (v : ze_H) : ze_T G (f_M_step   v) v 0 [some (.inr 75), none, none, none, none, none] [] := by
  refine ze_iconst (x := 1) X dc_M_step_0 (by decide) ?_
  refine ze_istore_n X dc_M_step_1 rfl (by decide) (fun x1 => ?_)
  refine ze_weak [true, true, false, false, false, false] ?_
  refine w_M_step_L2 X Y      (fun  v28 => ?_) 200000 x1 v
  refine ze_bipush (x := 6) X dc_M_step_206 (by decide) ?_
  exact ze_iret X Y (vp_nar_int _) dc_M_step_208
set_option maxHeartbeats 4000000 in
set_option maxRecDepth 100000 in
theorem c_M_step {l : Launch} {D : va_G} {ad : Nat → Nat} {ca : Nat → ClassId} (hD : va_D (ze_A ad) (ze_ws ze_sh ad ca (fun _ _ => 0)))       (v : ze_H) {r : Int32} {v1 : ze_H} (h : f_M_step   v = some (r, v1)) : ze_Mi l D ad ca my_M_step bc_M_step 6 .int 4 92 [.inr 75] v r v1 := ze_Mi_of (plainFor_of_name (by decide)) hD (Nat.le_of_ble_eq_true rfl) (fun G e1 e2 e3 e4 X Y => w_M_step X Y      v) h
def f_M_run_L33   (kk : Int32 → ze_H → Option (Int32 × ze_H)) : Nat → Int32 → Int32 → ze_H → Option (Int32 × ze_H)
  | 0, _, _, _ => none
  | n + 1, l5, l6, v =>
    (if 100000 ≤ l6 then (kk l5 v) else (if l5 = 0 then ze_in (v 75 53) 4 ((if (v 79 (Int32.toNatClampNeg (v 75 53))) ≤ (v 75 54) then ze_call (f_M_close   v) (fun r9 v10 => ze_let r9 (fun x11 => ze_let (l6 + 1) (fun x12 => (f_M_run_L33   kk n x11 x12 v10)))) else ze_call (f_M_here  (v 75 54) v) (fun r13 v14 => (if r13 = 41 then ze_call (f_M_close   v14) (fun r15 v16 => ze_let r15 (fun x17 => ze_let (l6 + 1) (fun x18 => (f_M_run_L33   kk n x17 x18 v16)))) else ze_call (f_M_step   v14) (fun r19 v20 => ze_let r19 (fun x21 => (if x21 ≤ 0 then ze_let (l6 + 1) (fun x22 => (f_M_run_L33   kk n l5 x22 v20)) else ze_call (f_M_finish  x21 v20) (fun r23 v24 => ze_let r23 (fun x25 => ze_let (l6 + 1) (fun x26 => (f_M_run_L33   kk n x25 x26 v24))))))))))) else (kk l5 v)))
def f_M_run  (a1 : Int32) (a2 : Int32) (a3 : Int32) (a4 : Int32) (v : ze_H) : Option (Int32 × ze_H) :=
  ze_lev (ze_u v 75 40 0) (fun v1 => ze_lev (ze_u v1 75 44 0) (fun v2 => ze_lev (ze_u v2 75 53 a1) (fun v3 => ze_lev (ze_u v3 75 54 a2) (fun v4 => ze_call (f_M_begin  a3 a4 v4) (fun r5 v6 => ze_let 0 (fun x7 => ze_let 0 (fun x8 => (f_M_run_L33   (fun x27 v28 => some (x27, v28)) 200000 x7 x8 v6))))))))
set_option maxHeartbeats 4000000 in
set_option maxRecDepth 100000 in
theorem w_M_run_L33 {G : ze_G}  (X : ze_X G bc_M_run cn_M 8 5 117) (Y : ze_Ri G .int)      {kk : Int32 → ze_H → Option (Int32 × ze_H)} (hkk : ∀ (l5 : Int32) (v : ze_H), ze_T G (kk l5 v) v 108 [none, none, none, none, none, some (.inl l5), none, none] []) : ∀ (n : Nat) (l5 : Int32) (l6 : Int32) (v : ze_H), ze_T G (f_M_run_L33   kk n l5 l6 v) v 33 [some (.inr 75), none, none, none, none, some (.inl l5), some (.inl l6), none] [] := by
  intro n
  induction n with
  | zero => intro l5 l6 v; exact ze_none
  | succ n ih =>
    intro l5 l6 v
    refine ze_iload X dc_M_run_33 rfl ?_
    refine ze_ldc (x := 100000) X dc_M_run_35 (by decide +kernel) ?_
    refine ze_icmp_ge (tgt := 108) X dc_M_run_37 (by decide) (fun _ => ?_) (fun _ => ?_)
    · refine ze_weak [false, false, false, false, false, true, false, false] ?_
      exact hkk l5 v
    · refine ze_iload X dc_M_run_40 rfl ?_
      refine ze_if_ne (tgt := 108) X dc_M_run_42 (by decide) (fun _ => ?_) (fun _ => ?_)
      · refine ze_aload_n X dc_M_run_45 rfl rfl ?_
        refine ze_geti X dc_M_run_46 zf_M_227 sh_75 rfl ?_
        refine ze_aload_n X dc_M_run_49 rfl rfl ?_
        refine ze_getr X dc_M_run_50 zf_M_20 sh_75 rfl ?_
        refine ze_aload_n X dc_M_run_53 rfl rfl ?_
        refine ze_geti X dc_M_run_54 zf_M_201 sh_75 rfl ?_
        refine ze_iald X dc_M_run_57 sh_79 rfl (fun _ => ?_)
        refine ze_icmp_ge (tgt := 74) X dc_M_run_58 (by decide) (fun _ => ?_) (fun _ => ?_)
        · refine ze_aload_n X dc_M_run_74 rfl rfl ?_
          refine ze_callVi (As := []) (st := []) X dc_M_run_75 zc_M_237 sh_75 (fun zr zv zh => c_M_close X.2.2.2.2.2.2.1    v zh) rfl (by decide) (by decide) (Nat.le_of_ble_eq_true rfl) (fun r9 v10 => ?_)
          refine ze_istore X dc_M_run_78 (by decide) (fun x11 => ?_)
          refine ze_goto (tgt := 102) X dc_M_run_80 (by decide) ?_
          refine ze_iinc (y := 1) X dc_M_run_102 rfl (by decide) (by decide) (fun x12 => ?_)
          refine ze_goto (tgt := 33) X dc_M_run_105 (by decide) ?_
          refine ze_weak [true, false, false, false, false, true, true, false] ?_
          exact ih x11 x12 v10
        · refine ze_aload_n X dc_M_run_61 rfl rfl ?_
          refine ze_aload_n X dc_M_run_62 rfl rfl ?_
          refine ze_geti X dc_M_run_63 zf_M_227 sh_75 rfl ?_
          refine ze_callVi (As := [.inl (v 75 54)]) (st := []) X dc_M_run_66 zc_M_207 sh_75 (fun zr zv zh => c_M_here X.2.2.2.2.2.2.1  (v 75 54)  v zh) rfl (by decide) (by decide) (Nat.le_of_ble_eq_true rfl) (fun r13 v14 => ?_)
          refine ze_bipush (x := 41) X dc_M_run_69 (by decide) ?_
          refine ze_icmp_ne (tgt := 83) X dc_M_run_71 (by decide) (fun _ => ?_) (fun _ => ?_)
          · refine ze_aload_n X dc_M_run_74 rfl rfl ?_
            refine ze_callVi (As := []) (st := []) X dc_M_run_75 zc_M_237 sh_75 (fun zr zv zh => c_M_close X.2.2.2.2.2.2.1    v14 zh) rfl (by decide) (by decide) (Nat.le_of_ble_eq_true rfl) (fun r15 v16 => ?_)
            refine ze_istore X dc_M_run_78 (by decide) (fun x17 => ?_)
            refine ze_goto (tgt := 102) X dc_M_run_80 (by decide) ?_
            refine ze_iinc (y := 1) X dc_M_run_102 rfl (by decide) (by decide) (fun x18 => ?_)
            refine ze_goto (tgt := 33) X dc_M_run_105 (by decide) ?_
            refine ze_weak [true, false, false, false, false, true, true, false] ?_
            exact ih x17 x18 v16
          · refine ze_aload_n X dc_M_run_83 rfl rfl ?_
            refine ze_callVi (As := []) (st := []) X dc_M_run_84 zc_M_241 sh_75 (fun zr zv zh => c_M_step X.2.2.2.2.2.2.1    v14 zh) rfl (by decide) (by decide) (Nat.le_of_ble_eq_true rfl) (fun r19 v20 => ?_)
            refine ze_istore X dc_M_run_87 (by decide) (fun x21 => ?_)
            refine ze_iload X dc_M_run_89 rfl ?_
            refine ze_if_le (tgt := 102) X dc_M_run_91 (by decide) (fun _ => ?_) (fun _ => ?_)
            · refine ze_iinc (y := 1) X dc_M_run_102 rfl (by decide) (by decide) (fun x22 => ?_)
              refine ze_goto (tgt := 33) X dc_M_run_105 (by decide) ?_
              refine ze_weak [true, false, false, false, false, true, true, false] ?_
              exact ih l5 x22 v20
            · refine ze_aload_n X dc_M_run_94 rfl rfl ?_
              refine ze_iload X dc_M_run_95 rfl ?_
              refine ze_callVi (As := [.inl x21]) (st := []) X dc_M_run_97 zc_M_233 sh_75 (fun zr zv zh => c_M_finish X.2.2.2.2.2.2.1  x21  v20 zh) rfl (by decide) (by decide) (Nat.le_of_ble_eq_true rfl) (fun r23 v24 => ?_)
              refine ze_istore X dc_M_run_100 (by decide) (fun x25 => ?_)
              refine ze_iinc (y := 1) X dc_M_run_102 rfl (by decide) (by decide) (fun x26 => ?_)
              refine ze_goto (tgt := 33) X dc_M_run_105 (by decide) ?_
              refine ze_weak [true, false, false, false, false, true, true, false] ?_
              exact ih x25 x26 v24
      · refine ze_weak [false, false, false, false, false, true, false, false] ?_
        exact hkk l5 v
set_option maxHeartbeats 4000000 in
set_option maxRecDepth 100000 in
theorem w_M_run {G : ze_G}  (X : ze_X G bc_M_run cn_M 8 5 117) (Y : ze_Ri G .int)    (a1 : Int32) (a2 : Int32) (a3 : Int32) (a4 : Int32)  (v : ze_H) : ze_T G (f_M_run  a1 a2 a3 a4 v) v 0 [some (.inr 75), some (.inl a1), some (.inl a2), some (.inl a3), some (.inl a4), none, none, none] [] := by
  refine ze_aload_n X dc_M_run_0 rfl rfl ?_
  refine ze_iconst (x := 0) X dc_M_run_1 (by decide) ?_
  refine ze_puti X dc_M_run_2 zp_M_211 sh_75 rfl (fun v1 => ?_)
  refine ze_aload_n X dc_M_run_5 rfl rfl ?_
  refine ze_iconst (x := 0) X dc_M_run_6 (by decide) ?_
  refine ze_puti X dc_M_run_7 zp_M_217 sh_75 rfl (fun v2 => ?_)
  refine ze_aload_n X dc_M_run_10 rfl rfl ?_
  refine ze_iload_n X dc_M_run_11 rfl rfl ?_
  refine ze_puti X dc_M_run_12 zp_M_201 sh_75 rfl (fun v3 => ?_)
  refine ze_aload_n X dc_M_run_15 rfl rfl ?_
  refine ze_iload_n X dc_M_run_16 rfl rfl ?_
  refine ze_puti X dc_M_run_17 zp_M_227 sh_75 rfl (fun v4 => ?_)
  refine ze_aload_n X dc_M_run_20 rfl rfl ?_
  refine ze_iload_n X dc_M_run_21 rfl rfl ?_
  refine ze_iload X dc_M_run_22 rfl ?_
  refine ze_callVv (As := [.inl a3, .inl a4]) (st := []) X dc_M_run_24 zc_M_223 sh_75 (fun zr zv zh => c_M_begin X.2.2.2.2.2.2.1  a3 a4  v4 zh) rfl (by decide) (by decide) (Nat.le_of_ble_eq_true rfl) (fun r5 v6 => ?_)
  refine ze_iconst (x := 0) X dc_M_run_27 (by decide) ?_
  refine ze_istore X dc_M_run_28 (by decide) (fun x7 => ?_)
  refine ze_iconst (x := 0) X dc_M_run_30 (by decide) ?_
  refine ze_istore X dc_M_run_31 (by decide) (fun x8 => ?_)
  refine ze_weak [true, false, false, false, false, true, true, false] ?_
  refine w_M_run_L33 X Y      (fun x27 v28 => ?_) 200000 x7 x8 v6
  refine ze_iload X dc_M_run_108 rfl ?_
  exact ze_iret X Y (vp_nar_int _) dc_M_run_110
set_option maxHeartbeats 4000000 in
set_option maxRecDepth 100000 in
theorem c_M_run {l : Launch} {D : va_G} {ad : Nat → Nat} {ca : Nat → ClassId} (hD : va_D (ze_A ad) (ze_ws ze_sh ad ca (fun _ _ => 0)))     (a1 : Int32) (a2 : Int32) (a3 : Int32) (a4 : Int32)  (v : ze_H) {r : Int32} {v1 : ze_H} (h : f_M_run  a1 a2 a3 a4 v = some (r, v1)) : ze_Mi l D ad ca my_M_run bc_M_run 8 .int 5 117 [.inr 75, .inl a1, .inl a2, .inl a3, .inl a4] v r v1 := ze_Mi_of (plainFor_of_name (by decide)) hD (Nat.le_of_ble_eq_true rfl) (fun G e1 e2 e3 e4 X Y => w_M_run X Y    a1 a2 a3 a4  v) h
def f_M_runReady_L0   (kk : ze_H → Option (Int32 × ze_H)) : Nat → ze_H → Option (Int32 × ze_H)
  | 0, _ => none
  | n + 1, v =>
    (if (v 75 36) ≤ (v 75 35) then (kk  v) else ze_let (v 75 35) (fun x1 => ze_lev (ze_u v 75 35 ((v 75 35) + 1)) (fun v2 => ze_in x1 420 ((if (64 : Int32) = 0 then none else ze_in x1 420 ((if (64 : Int32) = 0 then none else ze_in x1 420 (ze_in x1 420 (ze_call (f_M_run  ((v2 105 (Int32.toNatClampNeg x1)) / 64) ((v2 105 (Int32.toNatClampNeg x1)) - (v2 105 (Int32.toNatClampNeg x1)) / 64 * 64) (v2 106 (Int32.toNatClampNeg x1)) (v2 107 (Int32.toNatClampNeg x1)) v2) (fun r3 v4 => (f_M_runReady_L0   kk n  v4)))))))))))
def f_M_runReady   (v : ze_H) : Option (Int32 × ze_H) :=
  (f_M_runReady_L0   (fun  v5 => ze_lev (ze_u v5 75 35 0) (fun v6 => ze_lev (ze_u v6 75 36 0) (fun v7 => some (0, v7)))) 200000  v)
set_option maxHeartbeats 4000000 in
set_option maxRecDepth 100000 in
theorem w_M_runReady_L0 {G : ze_G}  (X : ze_X G bc_M_runReady cn_M 2 6 144) (Y : ze_Rv G)      {kk : ze_H → Option (Int32 × ze_H)} (hkk : ∀ (v : ze_H), ze_T G (kk  v) v 64 [some (.inr 75), none] []) : ∀ (n : Nat)  (v : ze_H), ze_T G (f_M_runReady_L0   kk n  v) v 0 [some (.inr 75), none] [] := by
  intro n
  induction n with
  | zero => intro  v; exact ze_none
  | succ n ih =>
    intro  v
    refine ze_aload_n X dc_M_runReady_0 rfl rfl ?_
    refine ze_geti X dc_M_runReady_1 zf_M_325 sh_75 rfl ?_
    refine ze_aload_n X dc_M_runReady_4 rfl rfl ?_
    refine ze_geti X dc_M_runReady_5 zf_M_313 sh_75 rfl ?_
    refine ze_icmp_ge (tgt := 64) X dc_M_runReady_8 (by decide) (fun _ => ?_) (fun _ => ?_)
    · refine ze_weak [true, false] ?_
      exact hkk  v
    · refine ze_aload_n X dc_M_runReady_11 rfl rfl ?_
      refine ze_geti X dc_M_runReady_12 zf_M_325 sh_75 rfl ?_
      refine ze_istore_n X dc_M_runReady_15 rfl (by decide) (fun x1 => ?_)
      refine ze_aload_n X dc_M_runReady_16 rfl rfl ?_
      refine ze_dup X dc_M_runReady_17 ?_
      refine ze_geti X dc_M_runReady_18 zf_M_325 sh_75 rfl ?_
      refine ze_iconst (x := 1) X dc_M_runReady_21 (by decide) ?_
      refine ze_iadd X dc_M_runReady_22 ?_
      refine ze_puti X dc_M_runReady_23 zp_M_325 sh_75 rfl (fun v2 => ?_)
      refine ze_aload_n X dc_M_runReady_26 rfl rfl ?_
      refine ze_aload_n X dc_M_runReady_27 rfl rfl ?_
      refine ze_getr X dc_M_runReady_28 zf_M_99 sh_75 rfl ?_
      refine ze_iload_n X dc_M_runReady_31 rfl rfl ?_
      refine ze_iald X dc_M_runReady_32 sh_105 rfl (fun _ => ?_)
      refine ze_bipush (x := 64) X dc_M_runReady_33 (by decide) ?_
      refine ze_idiv X dc_M_runReady_35 (fun _ => ?_)
      refine ze_aload_n X dc_M_runReady_36 rfl rfl ?_
      refine ze_getr X dc_M_runReady_37 zf_M_99 sh_75 rfl ?_
      refine ze_iload_n X dc_M_runReady_40 rfl rfl ?_
      refine ze_iald X dc_M_runReady_41 sh_105 rfl (fun _ => ?_)
      refine ze_bipush (x := 64) X dc_M_runReady_42 (by decide) ?_
      refine ze_irem X dc_M_runReady_44 (fun _ => ?_)
      refine ze_aload_n X dc_M_runReady_45 rfl rfl ?_
      refine ze_getr X dc_M_runReady_46 zf_M_102 sh_75 rfl ?_
      refine ze_iload_n X dc_M_runReady_49 rfl rfl ?_
      refine ze_iald X dc_M_runReady_50 sh_106 rfl (fun _ => ?_)
      refine ze_aload_n X dc_M_runReady_51 rfl rfl ?_
      refine ze_getr X dc_M_runReady_52 zf_M_105 sh_75 rfl ?_
      refine ze_iload_n X dc_M_runReady_55 rfl rfl ?_
      refine ze_iald X dc_M_runReady_56 sh_107 rfl (fun _ => ?_)
      refine ze_callVi (As := [.inl ((v2 105 (Int32.toNatClampNeg x1)) / 64), .inl ((v2 105 (Int32.toNatClampNeg x1)) - (v2 105 (Int32.toNatClampNeg x1)) / 64 * 64), .inl (v2 106 (Int32.toNatClampNeg x1)), .inl (v2 107 (Int32.toNatClampNeg x1))]) (st := []) X dc_M_runReady_57 zc_M_328 sh_75 (fun zr zv zh => c_M_run X.2.2.2.2.2.2.1  ((v2 105 (Int32.toNatClampNeg x1)) / 64) ((v2 105 (Int32.toNatClampNeg x1)) - (v2 105 (Int32.toNatClampNeg x1)) / 64 * 64) (v2 106 (Int32.toNatClampNeg x1)) (v2 107 (Int32.toNatClampNeg x1))  v2 zh) rfl (by decide) (by decide) (Nat.le_of_ble_eq_true rfl) (fun r3 v4 => ?_)
      refine ze_pop X dc_M_runReady_60 ?_
      refine ze_goto (tgt := 0) X dc_M_runReady_61 (by decide) ?_
      refine ze_weak [true, false] ?_
      exact ih  v4
set_option maxHeartbeats 4000000 in
set_option maxRecDepth 100000 in
theorem w_M_runReady {G : ze_G}  (X : ze_X G bc_M_runReady cn_M 2 6 144) (Y : ze_Rv G)      (v : ze_H) : ze_T G (f_M_runReady   v) v 0 [some (.inr 75), none] [] := by
  refine ze_weak [true, false] ?_
  refine w_M_runReady_L0 X Y      (fun  v5 => ?_) 200000  v
  refine ze_aload_n X dc_M_runReady_64 rfl rfl ?_
  refine ze_iconst (x := 0) X dc_M_runReady_65 (by decide) ?_
  refine ze_puti X dc_M_runReady_66 zp_M_325 sh_75 rfl (fun v6 => ?_)
  refine ze_aload_n X dc_M_runReady_69 rfl rfl ?_
  refine ze_iconst (x := 0) X dc_M_runReady_70 (by decide) ?_
  refine ze_puti X dc_M_runReady_71 zp_M_313 sh_75 rfl (fun v7 => ?_)
  exact ze_vret X Y dc_M_runReady_74
set_option maxHeartbeats 4000000 in
set_option maxRecDepth 100000 in
theorem c_M_runReady {l : Launch} {D : va_G} {ad : Nat → Nat} {ca : Nat → ClassId} (hD : va_D (ze_A ad) (ze_ws ze_sh ad ca (fun _ _ => 0)))       (v : ze_H) {r : Int32} {v1 : ze_H} (h : f_M_runReady   v = some (r, v1)) : ze_Mv l D ad ca my_M_runReady bc_M_runReady 2 6 144 [.inr 75] v v1 := ze_Mv_of (plainFor_of_name (by decide)) hD (Nat.le_of_ble_eq_true rfl) (fun G e1 e2 e3 e4 X Y => w_M_runReady X Y      v) h
def f_M_send  (a1 : Int32) (a2 : Int32) (a3 : Int32) (v : ze_H) : Option (Int32 × ze_H) :=
  ze_call (f_M_outside  a1 0 3 v) (fun r1 v2 => (if r1 = 0 then ze_lev (ze_u v2 75 57 0) (fun v3 => ze_call (f_M_run  a1 0 a2 a3 v3) (fun r4 v5 => ze_let r4 (fun x6 => ze_call (f_M_runReady   v5) (fun r7 v8 => some (x6, v8))))) else some ((-1), v2)))
set_option maxHeartbeats 4000000 in
set_option maxRecDepth 100000 in
theorem w_M_send {G : ze_G}  (X : ze_X G bc_M_send cn_M 5 7 165) (Y : ze_Ri G .int)    (a1 : Int32) (a2 : Int32) (a3 : Int32)  (v : ze_H) : ze_T G (f_M_send  a1 a2 a3 v) v 0 [some (.inr 75), some (.inl a1), some (.inl a2), some (.inl a3), none] [] := by
  refine ze_iload_n X dc_M_send_0 rfl rfl ?_
  refine ze_iconst (x := 0) X dc_M_send_1 (by decide) ?_
  refine ze_iconst (x := 3) X dc_M_send_2 (by decide) ?_
  refine ze_callSi (As := [.inl a1, .inl 0, .inl 3]) (st := []) X dc_M_send_3 zc_M_144 (fun zr zv zh => c_M_outside X.2.2.2.2.2.2.1  a1 0 3  v zh) rfl (by decide) (by decide) (Nat.le_of_ble_eq_true rfl) (fun r1 v2 => ?_)
  refine ze_if_eq (tgt := 11) X dc_M_send_6 (by decide) (fun _ => ?_) (fun _ => ?_)
  · refine ze_aload_n X dc_M_send_11 rfl rfl ?_
    refine ze_iconst (x := 0) X dc_M_send_12 (by decide) ?_
    refine ze_puti X dc_M_send_13 zp_M_244 sh_75 rfl (fun v3 => ?_)
    refine ze_aload_n X dc_M_send_16 rfl rfl ?_
    refine ze_iload_n X dc_M_send_17 rfl rfl ?_
    refine ze_iconst (x := 0) X dc_M_send_18 (by decide) ?_
    refine ze_iload_n X dc_M_send_19 rfl rfl ?_
    refine ze_iload_n X dc_M_send_20 rfl rfl ?_
    refine ze_callVi (As := [.inl a1, .inl 0, .inl a2, .inl a3]) (st := []) X dc_M_send_21 zc_M_328 sh_75 (fun zr zv zh => c_M_run X.2.2.2.2.2.2.1  a1 0 a2 a3  v3 zh) rfl (by decide) (by decide) (Nat.le_of_ble_eq_true rfl) (fun r4 v5 => ?_)
    refine ze_istore X dc_M_send_24 (by decide) (fun x6 => ?_)
    refine ze_aload_n X dc_M_send_26 rfl rfl ?_
    refine ze_callVv (As := []) (st := []) X dc_M_send_27 zc_M_331 sh_75 (fun zr zv zh => c_M_runReady X.2.2.2.2.2.2.1    v5 zh) rfl (by decide) (by decide) (Nat.le_of_ble_eq_true rfl) (fun r7 v8 => ?_)
    refine ze_iload X dc_M_send_30 rfl ?_
    exact ze_iret X Y (vp_nar_int _) dc_M_send_32
  · refine ze_iconst (x := (-1)) X dc_M_send_9 (by decide) ?_
    exact ze_iret X Y (vp_nar_int _) dc_M_send_10
set_option maxHeartbeats 4000000 in
set_option maxRecDepth 100000 in
theorem c_M_send {l : Launch} {D : va_G} {ad : Nat → Nat} {ca : Nat → ClassId} (hD : va_D (ze_A ad) (ze_ws ze_sh ad ca (fun _ _ => 0)))     (a1 : Int32) (a2 : Int32) (a3 : Int32)  (v : ze_H) {r : Int32} {v1 : ze_H} (h : f_M_send  a1 a2 a3 v = some (r, v1)) : ze_Mi l D ad ca my_M_send bc_M_send 5 .int 7 165 [.inr 75, .inl a1, .inl a2, .inl a3] v r v1 := ze_Mi_of (plainFor_of_name (by decide)) hD (Nat.le_of_ble_eq_true rfl) (fun G e1 e2 e3 e4 X Y => w_M_send X Y    a1 a2 a3  v) h
def f_M_work_L43  (b1 : Int32) (b2 : Int32) (b3 : Int32) (kk : ze_H → Option (Int32 × ze_H)) : Nat → Int32 → ze_H → Option (Int32 × ze_H)
  | 0, _, _ => none
  | n + 1, l4, v =>
    (if (v 75 18) ≤ l4 then (kk  v) else ze_in (l4 + 1) 8 (ze_in l4 8 (ze_lev (ze_u v 91 (Int32.toNatClampNeg l4) (v 91 (Int32.toNatClampNeg (l4 + 1)))) (fun v6 => ze_in (l4 + 1) 8 (ze_in l4 8 (ze_lev (ze_u v6 92 (Int32.toNatClampNeg l4) (v6 92 (Int32.toNatClampNeg (l4 + 1)))) (fun v7 => ze_in (l4 + 1) 8 (ze_in l4 8 (ze_lev (ze_u v7 93 (Int32.toNatClampNeg l4) (v7 93 (Int32.toNatClampNeg (l4 + 1)))) (fun v8 => ze_let (l4 + 1) (fun x9 => (f_M_work_L43  b1 b2 b3 kk n x9 v8))))))))))))
def f_M_work   (v : ze_H) : Option (Int32 × ze_H) :=
  (if (v 75 18) = 0 then some ((-1), v) else ze_in 0 8 (ze_let (v 91 (Int32.toNatClampNeg 0)) (fun x1 => ze_in 0 8 (ze_let (v 92 (Int32.toNatClampNeg 0)) (fun x2 => ze_in 0 8 (ze_let (v 93 (Int32.toNatClampNeg 0)) (fun x3 => ze_lev (ze_u v 75 18 ((v 75 18) - 1)) (fun v4 => ze_let 0 (fun x5 => (f_M_work_L43  x1 x2 x3 (fun  v10 => ze_call (f_M_send  x1 x2 x3 v10) (fun r11 v12 => some (r11, v12))) 200000 x5 v4))))))))))
set_option maxHeartbeats 4000000 in
set_option maxRecDepth 100000 in
theorem w_M_work_L43 {G : ze_G}  (X : ze_X G bc_M_work cn_M 5 8 189) (Y : ze_Ri G .int)    (b1 : Int32) (b2 : Int32) (b3 : Int32)  {kk : ze_H → Option (Int32 × ze_H)} (hkk : ∀ (v : ze_H), ze_T G (kk  v) v 106 [some (.inr 75), some (.inl b1), some (.inl b2), some (.inl b3), none] []) : ∀ (n : Nat) (l4 : Int32) (v : ze_H), ze_T G (f_M_work_L43  b1 b2 b3 kk n l4 v) v 43 [some (.inr 75), some (.inl b1), some (.inl b2), some (.inl b3), some (.inl l4)] [] := by
  intro n
  induction n with
  | zero => intro l4 v; exact ze_none
  | succ n ih =>
    intro l4 v
    refine ze_iload X dc_M_work_43 rfl ?_
    refine ze_aload_n X dc_M_work_45 rfl rfl ?_
    refine ze_geti X dc_M_work_46 zf_M_189 sh_75 rfl ?_
    refine ze_icmp_ge (tgt := 106) X dc_M_work_49 (by decide) (fun _ => ?_) (fun _ => ?_)
    · refine ze_weak [true, true, true, true, false] ?_
      exact hkk  v
    · refine ze_aload_n X dc_M_work_52 rfl rfl ?_
      refine ze_getr X dc_M_work_53 zf_M_57 sh_75 rfl ?_
      refine ze_iload X dc_M_work_56 rfl ?_
      refine ze_aload_n X dc_M_work_58 rfl rfl ?_
      refine ze_getr X dc_M_work_59 zf_M_57 sh_75 rfl ?_
      refine ze_iload X dc_M_work_62 rfl ?_
      refine ze_iconst (x := 1) X dc_M_work_64 (by decide) ?_
      refine ze_iadd X dc_M_work_65 ?_
      refine ze_iald X dc_M_work_66 sh_91 rfl (fun _ => ?_)
      refine ze_iast X dc_M_work_67 sh_91 rfl (fun v6 _ => ?_)
      refine ze_aload_n X dc_M_work_68 rfl rfl ?_
      refine ze_getr X dc_M_work_69 zf_M_60 sh_75 rfl ?_
      refine ze_iload X dc_M_work_72 rfl ?_
      refine ze_aload_n X dc_M_work_74 rfl rfl ?_
      refine ze_getr X dc_M_work_75 zf_M_60 sh_75 rfl ?_
      refine ze_iload X dc_M_work_78 rfl ?_
      refine ze_iconst (x := 1) X dc_M_work_80 (by decide) ?_
      refine ze_iadd X dc_M_work_81 ?_
      refine ze_iald X dc_M_work_82 sh_92 rfl (fun _ => ?_)
      refine ze_iast X dc_M_work_83 sh_92 rfl (fun v7 _ => ?_)
      refine ze_aload_n X dc_M_work_84 rfl rfl ?_
      refine ze_getr X dc_M_work_85 zf_M_63 sh_75 rfl ?_
      refine ze_iload X dc_M_work_88 rfl ?_
      refine ze_aload_n X dc_M_work_90 rfl rfl ?_
      refine ze_getr X dc_M_work_91 zf_M_63 sh_75 rfl ?_
      refine ze_iload X dc_M_work_94 rfl ?_
      refine ze_iconst (x := 1) X dc_M_work_96 (by decide) ?_
      refine ze_iadd X dc_M_work_97 ?_
      refine ze_iald X dc_M_work_98 sh_93 rfl (fun _ => ?_)
      refine ze_iast X dc_M_work_99 sh_93 rfl (fun v8 _ => ?_)
      refine ze_iinc (y := 1) X dc_M_work_100 rfl (by decide) (by decide) (fun x9 => ?_)
      refine ze_goto (tgt := 43) X dc_M_work_103 (by decide) ?_
      refine ze_weak [true, true, true, true, true] ?_
      exact ih x9 v8
set_option maxHeartbeats 4000000 in
set_option maxRecDepth 100000 in
theorem w_M_work {G : ze_G}  (X : ze_X G bc_M_work cn_M 5 8 189) (Y : ze_Ri G .int)      (v : ze_H) : ze_T G (f_M_work   v) v 0 [some (.inr 75), none, none, none, none] [] := by
  refine ze_aload_n X dc_M_work_0 rfl rfl ?_
  refine ze_geti X dc_M_work_1 zf_M_189 sh_75 rfl ?_
  refine ze_if_ne (tgt := 9) X dc_M_work_4 (by decide) (fun _ => ?_) (fun _ => ?_)
  · refine ze_iconst (x := (-1)) X dc_M_work_7 (by decide) ?_
    exact ze_iret X Y (vp_nar_int _) dc_M_work_8
  · refine ze_aload_n X dc_M_work_9 rfl rfl ?_
    refine ze_getr X dc_M_work_10 zf_M_57 sh_75 rfl ?_
    refine ze_iconst (x := 0) X dc_M_work_13 (by decide) ?_
    refine ze_iald X dc_M_work_14 sh_91 rfl (fun _ => ?_)
    refine ze_istore_n X dc_M_work_15 rfl (by decide) (fun x1 => ?_)
    refine ze_aload_n X dc_M_work_16 rfl rfl ?_
    refine ze_getr X dc_M_work_17 zf_M_60 sh_75 rfl ?_
    refine ze_iconst (x := 0) X dc_M_work_20 (by decide) ?_
    refine ze_iald X dc_M_work_21 sh_92 rfl (fun _ => ?_)
    refine ze_istore_n X dc_M_work_22 rfl (by decide) (fun x2 => ?_)
    refine ze_aload_n X dc_M_work_23 rfl rfl ?_
    refine ze_getr X dc_M_work_24 zf_M_63 sh_75 rfl ?_
    refine ze_iconst (x := 0) X dc_M_work_27 (by decide) ?_
    refine ze_iald X dc_M_work_28 sh_93 rfl (fun _ => ?_)
    refine ze_istore_n X dc_M_work_29 rfl (by decide) (fun x3 => ?_)
    refine ze_aload_n X dc_M_work_30 rfl rfl ?_
    refine ze_dup X dc_M_work_31 ?_
    refine ze_geti X dc_M_work_32 zf_M_189 sh_75 rfl ?_
    refine ze_iconst (x := 1) X dc_M_work_35 (by decide) ?_
    refine ze_isub X dc_M_work_36 ?_
    refine ze_puti X dc_M_work_37 zp_M_189 sh_75 rfl (fun v4 => ?_)
    refine ze_iconst (x := 0) X dc_M_work_40 (by decide) ?_
    refine ze_istore X dc_M_work_41 (by decide) (fun x5 => ?_)
    refine ze_weak [true, true, true, true, true] ?_
    refine w_M_work_L43 X Y    x1 x2 x3  (fun  v10 => ?_) 200000 x5 v4
    refine ze_aload_n X dc_M_work_106 rfl rfl ?_
    refine ze_iload_n X dc_M_work_107 rfl rfl ?_
    refine ze_iload_n X dc_M_work_108 rfl rfl ?_
    refine ze_iload_n X dc_M_work_109 rfl rfl ?_
    refine ze_callVi (As := [.inl x1, .inl x2, .inl x3]) (st := []) X dc_M_work_110 zc_M_334 sh_75 (fun zr zv zh => c_M_send X.2.2.2.2.2.2.1  x1 x2 x3  v10 zh) rfl (by decide) (by decide) (Nat.le_of_ble_eq_true rfl) (fun r11 v12 => ?_)
    exact ze_iret X Y (vp_nar_int _) dc_M_work_113
set_option maxHeartbeats 4000000 in
set_option maxRecDepth 100000 in
theorem c_M_work {l : Launch} {D : va_G} {ad : Nat → Nat} {ca : Nat → ClassId} (hD : va_D (ze_A ad) (ze_ws ze_sh ad ca (fun _ _ => 0)))       (v : ze_H) {r : Int32} {v1 : ze_H} (h : f_M_work   v = some (r, v1)) : ze_Mi l D ad ca my_M_work bc_M_work 5 .int 8 189 [.inr 75] v r v1 := ze_Mi_of (plainFor_of_name (by decide)) hD (Nat.le_of_ble_eq_true rfl) (fun G e1 e2 e3 e4 X Y => w_M_work X Y      v) h
def f_M_dueGroup_L2   (kk : ze_H → Option (Int32 × ze_H)) : Nat → Int32 → ze_H → Option (Int32 × ze_H)
  | 0, _, _ => none
  | n + 1, l1, v =>
    (if (v 75 22) ≤ l1 then (kk  v) else ze_in l1 120 ((if (v 75 58) < (v 98 (Int32.toNatClampNeg l1)) then ze_let (l1 + 1) (fun x2 => (f_M_dueGroup_L2   kk n x2 v)) else some (l1, v))))
def f_M_dueGroup   (v : ze_H) : Option (Int32 × ze_H) :=
  ze_let 0 (fun x1 => (f_M_dueGroup_L2   (fun  v3 => some ((-1), v3)) 200000 x1 v))
set_option maxHeartbeats 4000000 in
set_option maxRecDepth 100000 in
theorem w_M_dueGroup_L2 {G : ze_G}  (X : ze_X G bc_M_dueGroup cn_M 2 0 0) (Y : ze_Ri G .int)      {kk : ze_H → Option (Int32 × ze_H)} (hkk : ∀ (v : ze_H), ze_T G (kk  v) v 31 [none, none] []) : ∀ (n : Nat) (l1 : Int32) (v : ze_H), ze_T G (f_M_dueGroup_L2   kk n l1 v) v 2 [some (.inr 75), some (.inl l1)] [] := by
  intro n
  induction n with
  | zero => intro l1 v; exact ze_none
  | succ n ih =>
    intro l1 v
    refine ze_iload_n X dc_M_dueGroup_2 rfl rfl ?_
    refine ze_aload_n X dc_M_dueGroup_3 rfl rfl ?_
    refine ze_geti X dc_M_dueGroup_4 zf_M_192 sh_75 rfl ?_
    refine ze_icmp_ge (tgt := 31) X dc_M_dueGroup_7 (by decide) (fun _ => ?_) (fun _ => ?_)
    · refine ze_weak [false, false] ?_
      exact hkk  v
    · refine ze_aload_n X dc_M_dueGroup_10 rfl rfl ?_
      refine ze_getr X dc_M_dueGroup_11 zf_M_78 sh_75 rfl ?_
      refine ze_iload_n X dc_M_dueGroup_14 rfl rfl ?_
      refine ze_iald X dc_M_dueGroup_15 sh_98 rfl (fun _ => ?_)
      refine ze_aload_n X dc_M_dueGroup_16 rfl rfl ?_
      refine ze_geti X dc_M_dueGroup_17 zf_M_261 sh_75 rfl ?_
      refine ze_icmp_gt (tgt := 25) X dc_M_dueGroup_20 (by decide) (fun _ => ?_) (fun _ => ?_)
      · refine ze_iinc (y := 1) X dc_M_dueGroup_25 rfl (by decide) (by decide) (fun x2 => ?_)
        refine ze_goto (tgt := 2) X dc_M_dueGroup_28 (by decide) ?_
        refine ze_weak [true, true] ?_
        exact ih x2 v
      · refine ze_iload_n X dc_M_dueGroup_23 rfl rfl ?_
        exact ze_iret X Y (vp_nar_int _) dc_M_dueGroup_24
set_option maxHeartbeats 4000000 in
set_option maxRecDepth 100000 in
theorem w_M_dueGroup {G : ze_G}  (X : ze_X G bc_M_dueGroup cn_M 2 0 0) (Y : ze_Ri G .int)      (v : ze_H) : ze_T G (f_M_dueGroup   v) v 0 [some (.inr 75), none] [] := by
  refine ze_iconst (x := 0) X dc_M_dueGroup_0 (by decide) ?_
  refine ze_istore_n X dc_M_dueGroup_1 rfl (by decide) (fun x1 => ?_)
  refine ze_weak [true, true] ?_
  refine w_M_dueGroup_L2 X Y      (fun  v3 => ?_) 200000 x1 v
  refine ze_iconst (x := (-1)) X dc_M_dueGroup_31 (by decide) ?_
  exact ze_iret X Y (vp_nar_int _) dc_M_dueGroup_32
set_option maxHeartbeats 4000000 in
set_option maxRecDepth 100000 in
theorem c_M_dueGroup {l : Launch} {D : va_G} {ad : Nat → Nat} {ca : Nat → ClassId} (hD : va_D (ze_A ad) (ze_ws ze_sh ad ca (fun _ _ => 0)))       (v : ze_H) {r : Int32} {v1 : ze_H} (h : f_M_dueGroup   v = some (r, v1)) : ze_Mi l D ad ca my_M_dueGroup bc_M_dueGroup 2 .int 0 0 [.inr 75] v r v1 := ze_Mi_of (plainFor_of_name (by decide)) hD (Nat.le_of_ble_eq_true rfl) (fun G e1 e2 e3 e4 X Y => w_M_dueGroup X Y      v) h
def f_M_pass_L45  (b1 : Int32) (b3 : Int32) (kk : Int32 → ze_H → Option (Int32 × ze_H)) : Nat → Int32 → Int32 → Int32 → ze_H → Option (Int32 × ze_H)
  | 0, _, _, _, _ => none
  | n + 1, l2, l4, l5, v =>
    (if 100000 ≤ l5 then (kk l2 v) else (if l4 < 0 then (kk l2 v) else ze_call (f_M_release  l4 v) (fun r11 v12 => ze_let (l2 + 1) (fun x13 => ze_call (f_M_runReady   v12) (fun r14 v15 => ze_call (f_M_dueGroup   v15) (fun r16 v17 => ze_let r16 (fun x18 => ze_let (l5 + 1) (fun x19 => (f_M_pass_L45  b1 b3 kk n x13 x18 x19 v17)))))))))
def f_M_pass_L21  (b1 : Int32) (kk : Int32 → ze_H → Option (Int32 × ze_H)) : Nat → Int32 → Int32 → ze_H → Option (Int32 × ze_H)
  | 0, _, _, _ => none
  | n + 1, l2, l3, v =>
    (if b1 ≤ l3 then (kk l2 v) else ze_lev (ze_u v 75 58 ((v 75 58) + 1)) (fun v6 => ze_call (f_M_dueGroup   v6) (fun r7 v8 => ze_let r7 (fun x9 => ze_let 0 (fun x10 => (f_M_pass_L45  b1 l3 (fun x20 v21 => ze_let (l3 + 1) (fun x22 => (f_M_pass_L21  b1 kk n x20 x22 v21))) 200000 l2 x9 x10 v8))))))
def f_M_pass  (a1 : Int32) (v : ze_H) : Option (Int32 × ze_H) :=
  ze_call (f_M_outside  a1 1 100 v) (fun r1 v2 => (if r1 = 0 then ze_lev (ze_u v2 75 57 0) (fun v3 => ze_let 0 (fun x4 => ze_let 0 (fun x5 => (f_M_pass_L21  a1 (fun x23 v24 => some (x23, v24)) 200000 x4 x5 v3)))) else some ((-1), v2)))
set_option maxHeartbeats 4000000 in
set_option maxRecDepth 100000 in
theorem w_M_pass_L45 {G : ze_G}  (X : ze_X G bc_M_pass cn_M 6 7 165) (Y : ze_Ri G .int)    (b1 : Int32) (b3 : Int32)  {kk : Int32 → ze_H → Option (Int32 × ze_H)} (hkk : ∀ (l2 : Int32) (v : ze_H), ze_T G (kk l2 v) v 82 [some (.inr 75), some (.inl b1), some (.inl l2), some (.inl b3), none, none] []) : ∀ (n : Nat) (l2 : Int32) (l4 : Int32) (l5 : Int32) (v : ze_H), ze_T G (f_M_pass_L45  b1 b3 kk n l2 l4 l5 v) v 45 [some (.inr 75), some (.inl b1), some (.inl l2), some (.inl b3), some (.inl l4), some (.inl l5)] [] := by
  intro n
  induction n with
  | zero => intro l2 l4 l5 v; exact ze_none
  | succ n ih =>
    intro l2 l4 l5 v
    refine ze_iload X dc_M_pass_45 rfl ?_
    refine ze_ldc (x := 100000) X dc_M_pass_47 (by decide +kernel) ?_
    refine ze_icmp_ge (tgt := 82) X dc_M_pass_49 (by decide) (fun _ => ?_) (fun _ => ?_)
    · refine ze_weak [true, true, true, true, false, false] ?_
      exact hkk l2 v
    · refine ze_iload X dc_M_pass_52 rfl ?_
      refine ze_if_lt (tgt := 82) X dc_M_pass_54 (by decide) (fun _ => ?_) (fun _ => ?_)
      · refine ze_weak [true, true, true, true, false, false] ?_
        exact hkk l2 v
      · refine ze_aload_n X dc_M_pass_57 rfl rfl ?_
        refine ze_iload X dc_M_pass_58 rfl ?_
        refine ze_callVv (As := [.inl l4]) (st := []) X dc_M_pass_60 zc_M_319 sh_75 (fun zr zv zh => c_M_release X.2.2.2.2.2.2.1  l4  v zh) rfl (by decide) (by decide) (Nat.le_of_ble_eq_true rfl) (fun r11 v12 => ?_)
        refine ze_iinc (y := 1) X dc_M_pass_63 rfl (by decide) (by decide) (fun x13 => ?_)
        refine ze_aload_n X dc_M_pass_66 rfl rfl ?_
        refine ze_callVv (As := []) (st := []) X dc_M_pass_67 zc_M_331 sh_75 (fun zr zv zh => c_M_runReady X.2.2.2.2.2.2.1    v12 zh) rfl (by decide) (by decide) (Nat.le_of_ble_eq_true rfl) (fun r14 v15 => ?_)
        refine ze_aload_n X dc_M_pass_70 rfl rfl ?_
        refine ze_callVi (As := []) (st := []) X dc_M_pass_71 zc_M_337 sh_75 (fun zr zv zh => c_M_dueGroup X.2.2.2.2.2.2.1    v15 zh) rfl (by decide) (by decide) (Nat.le_of_ble_eq_true rfl) (fun r16 v17 => ?_)
        refine ze_istore X dc_M_pass_74 (by decide) (fun x18 => ?_)
        refine ze_iinc (y := 1) X dc_M_pass_76 rfl (by decide) (by decide) (fun x19 => ?_)
        refine ze_goto (tgt := 45) X dc_M_pass_79 (by decide) ?_
        refine ze_weak [true, true, true, true, true, true] ?_
        exact ih x13 x18 x19 v17
set_option maxHeartbeats 4000000 in
set_option maxRecDepth 100000 in
theorem w_M_pass_L21 {G : ze_G}  (X : ze_X G bc_M_pass cn_M 6 7 165) (Y : ze_Ri G .int)    (b1 : Int32)  {kk : Int32 → ze_H → Option (Int32 × ze_H)} (hkk : ∀ (l2 : Int32) (v : ze_H), ze_T G (kk l2 v) v 88 [none, none, some (.inl l2), none, none, none] []) : ∀ (n : Nat) (l2 : Int32) (l3 : Int32) (v : ze_H), ze_T G (f_M_pass_L21  b1 kk n l2 l3 v) v 21 [some (.inr 75), some (.inl b1), some (.inl l2), some (.inl l3), none, none] [] := by
  intro n
  induction n with
  | zero => intro l2 l3 v; exact ze_none
  | succ n ih =>
    intro l2 l3 v
    refine ze_iload_n X dc_M_pass_21 rfl rfl ?_
    refine ze_iload_n X dc_M_pass_22 rfl rfl ?_
    refine ze_icmp_ge (tgt := 88) X dc_M_pass_23 (by decide) (fun _ => ?_) (fun _ => ?_)
    · refine ze_weak [false, false, true, false, false, false] ?_
      exact hkk l2 v
    · refine ze_aload_n X dc_M_pass_26 rfl rfl ?_
      refine ze_dup X dc_M_pass_27 ?_
      refine ze_geti X dc_M_pass_28 zf_M_261 sh_75 rfl ?_
      refine ze_iconst (x := 1) X dc_M_pass_31 (by decide) ?_
      refine ze_iadd X dc_M_pass_32 ?_
      refine ze_puti X dc_M_pass_33 zp_M_261 sh_75 rfl (fun v6 => ?_)
      refine ze_aload_n X dc_M_pass_36 rfl rfl ?_
      refine ze_callVi (As := []) (st := []) X dc_M_pass_37 zc_M_337 sh_75 (fun zr zv zh => c_M_dueGroup X.2.2.2.2.2.2.1    v6 zh) rfl (by decide) (by decide) (Nat.le_of_ble_eq_true rfl) (fun r7 v8 => ?_)
      refine ze_istore X dc_M_pass_40 (by decide) (fun x9 => ?_)
      refine ze_iconst (x := 0) X dc_M_pass_42 (by decide) ?_
      refine ze_istore X dc_M_pass_43 (by decide) (fun x10 => ?_)
      refine ze_weak [true, true, true, true, true, true] ?_
      refine w_M_pass_L45 X Y    b1 l3  (fun x20 v21 => ?_) 200000 l2 x9 x10 v8
      refine ze_iinc (y := 1) X dc_M_pass_82 rfl (by decide) (by decide) (fun x22 => ?_)
      refine ze_goto (tgt := 21) X dc_M_pass_85 (by decide) ?_
      refine ze_weak [true, true, true, true, false, false] ?_
      exact ih x20 x22 v21
set_option maxHeartbeats 4000000 in
set_option maxRecDepth 100000 in
theorem w_M_pass {G : ze_G}  (X : ze_X G bc_M_pass cn_M 6 7 165) (Y : ze_Ri G .int)    (a1 : Int32)  (v : ze_H) : ze_T G (f_M_pass  a1 v) v 0 [some (.inr 75), some (.inl a1), none, none, none, none] [] := by
  refine ze_iload_n X dc_M_pass_0 rfl rfl ?_
  refine ze_iconst (x := 1) X dc_M_pass_1 (by decide) ?_
  refine ze_bipush (x := 100) X dc_M_pass_2 (by decide) ?_
  refine ze_callSi (As := [.inl a1, .inl 1, .inl 100]) (st := []) X dc_M_pass_4 zc_M_144 (fun zr zv zh => c_M_outside X.2.2.2.2.2.2.1  a1 1 100  v zh) rfl (by decide) (by decide) (Nat.le_of_ble_eq_true rfl) (fun r1 v2 => ?_)
  refine ze_if_eq (tgt := 12) X dc_M_pass_7 (by decide) (fun _ => ?_) (fun _ => ?_)
  · refine ze_aload_n X dc_M_pass_12 rfl rfl ?_
    refine ze_iconst (x := 0) X dc_M_pass_13 (by decide) ?_
    refine ze_puti X dc_M_pass_14 zp_M_244 sh_75 rfl (fun v3 => ?_)
    refine ze_iconst (x := 0) X dc_M_pass_17 (by decide) ?_
    refine ze_istore_n X dc_M_pass_18 rfl (by decide) (fun x4 => ?_)
    refine ze_iconst (x := 0) X dc_M_pass_19 (by decide) ?_
    refine ze_istore_n X dc_M_pass_20 rfl (by decide) (fun x5 => ?_)
    refine ze_weak [true, true, true, true, false, false] ?_
    refine w_M_pass_L21 X Y    a1  (fun x23 v24 => ?_) 200000 x4 x5 v3
    refine ze_iload_n X dc_M_pass_88 rfl rfl ?_
    exact ze_iret X Y (vp_nar_int _) dc_M_pass_89
  · refine ze_iconst (x := (-1)) X dc_M_pass_10 (by decide) ?_
    exact ze_iret X Y (vp_nar_int _) dc_M_pass_11
set_option maxHeartbeats 4000000 in
set_option maxRecDepth 100000 in
theorem c_M_pass {l : Launch} {D : va_G} {ad : Nat → Nat} {ca : Nat → ClassId} (hD : va_D (ze_A ad) (ze_ws ze_sh ad ca (fun _ _ => 0)))     (a1 : Int32)  (v : ze_H) {r : Int32} {v1 : ze_H} (h : f_M_pass  a1 v = some (r, v1)) : ze_Mi l D ad ca my_M_pass bc_M_pass 6 .int 7 165 [.inr 75, .inl a1] v r v1 := ze_Mi_of (plainFor_of_name (by decide)) hD (Nat.le_of_ble_eq_true rfl) (fun G e1 e2 e3 e4 X Y => w_M_pass X Y    a1  v) h
def f_M_delivered  (a1 : Int32) (v : ze_H) : Option (Int32 × ze_H) :=
  ze_call (f_M_outside  a1 0 4 v) (fun r1 v2 => (if r1 = 0 then ze_in a1 5 (some ((v2 88 (Int32.toNatClampNeg a1)), v2)) else some ((-1), v2)))
set_option maxHeartbeats 4000000 in
set_option maxRecDepth 100000 in
theorem w_M_delivered {G : ze_G}  (X : ze_X G bc_M_delivered cn_M 2 1 22) (Y : ze_Ri G .int)    (a1 : Int32)  (v : ze_H) : ze_T G (f_M_delivered  a1 v) v 0 [some (.inr 75), some (.inl a1)] [] := by
  refine ze_iload_n X dc_M_delivered_0 rfl rfl ?_
  refine ze_iconst (x := 0) X dc_M_delivered_1 (by decide) ?_
  refine ze_iconst (x := 4) X dc_M_delivered_2 (by decide) ?_
  refine ze_callSi (As := [.inl a1, .inl 0, .inl 4]) (st := []) X dc_M_delivered_3 zc_M_144 (fun zr zv zh => c_M_outside X.2.2.2.2.2.2.1  a1 0 4  v zh) rfl (by decide) (by decide) (Nat.le_of_ble_eq_true rfl) (fun r1 v2 => ?_)
  refine ze_if_eq (tgt := 13) X dc_M_delivered_6 (by decide) (fun _ => ?_) (fun _ => ?_)
  · refine ze_aload_n X dc_M_delivered_13 rfl rfl ?_
    refine ze_getr X dc_M_delivered_14 zf_M_48 sh_75 rfl ?_
    refine ze_iload_n X dc_M_delivered_17 rfl rfl ?_
    refine ze_iald X dc_M_delivered_18 sh_88 rfl (fun _ => ?_)
    exact ze_iret X Y (vp_nar_int _) dc_M_delivered_19
  · refine ze_iconst (x := (-1)) X dc_M_delivered_9 (by decide) ?_
    refine ze_goto (tgt := 19) X dc_M_delivered_10 (by decide) ?_
    exact ze_iret X Y (vp_nar_int _) dc_M_delivered_19
set_option maxHeartbeats 4000000 in
set_option maxRecDepth 100000 in
theorem c_M_delivered {l : Launch} {D : va_G} {ad : Nat → Nat} {ca : Nat → ClassId} (hD : va_D (ze_A ad) (ze_ws ze_sh ad ca (fun _ _ => 0)))     (a1 : Int32)  (v : ze_H) {r : Int32} {v1 : ze_H} (h : f_M_delivered  a1 v = some (r, v1)) : ze_Mi l D ad ca my_M_delivered bc_M_delivered 2 .int 1 22 [.inr 75, .inl a1] v r v1 := ze_Mi_of (plainFor_of_name (by decide)) hD (Nat.le_of_ble_eq_true rfl) (fun G e1 e2 e3 e4 X Y => w_M_delivered X Y    a1  v) h
def f_M_slot  (a1 : Int32) (a2 : Int32) (v : ze_H) : Option (Int32 × ze_H) :=
  ze_call (f_M_outside  a1 0 4 v) (fun r1 v2 => (if r1 = 0 then ze_call (f_M_outside  a2 0 7 v2) (fun r3 v4 => (if r3 = 0 then ze_in a1 5 ((if a2 < (v4 88 (Int32.toNatClampNeg a1)) then ze_in a1 5 ((if (8 : Int32) = 0 then none else some (((8 * a1) + ((((v4 88 (Int32.toNatClampNeg a1)) - 1) - a2) - (((v4 88 (Int32.toNatClampNeg a1)) - 1) - a2) / 8 * 8)), v4))) else some ((-1), v4))) else some ((-1), v4))) else some ((-1), v2)))
set_option maxHeartbeats 4000000 in
set_option maxRecDepth 100000 in
theorem w_M_slot {G : ze_G}  (X : ze_X G bc_M_slot cn_M 3 1 22) (Y : ze_Ri G .int)    (a1 : Int32) (a2 : Int32)  (v : ze_H) : ze_T G (f_M_slot  a1 a2 v) v 0 [some (.inr 75), some (.inl a1), some (.inl a2)] [] := by
  refine ze_iload_n X dc_M_slot_0 rfl rfl ?_
  refine ze_iconst (x := 0) X dc_M_slot_1 (by decide) ?_
  refine ze_iconst (x := 4) X dc_M_slot_2 (by decide) ?_
  refine ze_callSi (As := [.inl a1, .inl 0, .inl 4]) (st := []) X dc_M_slot_3 zc_M_144 (fun zr zv zh => c_M_outside X.2.2.2.2.2.2.1  a1 0 4  v zh) rfl (by decide) (by decide) (Nat.le_of_ble_eq_true rfl) (fun r1 v2 => ?_)
  refine ze_if_ne (tgt := 29) X dc_M_slot_6 (by decide) (fun _ => ?_) (fun _ => ?_)
  · refine ze_iload_n X dc_M_slot_9 rfl rfl ?_
    refine ze_iconst (x := 0) X dc_M_slot_10 (by decide) ?_
    refine ze_bipush (x := 7) X dc_M_slot_11 (by decide) ?_
    refine ze_callSi (As := [.inl a2, .inl 0, .inl 7]) (st := []) X dc_M_slot_13 zc_M_144 (fun zr zv zh => c_M_outside X.2.2.2.2.2.2.1  a2 0 7  v2 zh) rfl (by decide) (by decide) (Nat.le_of_ble_eq_true rfl) (fun r3 v4 => ?_)
    refine ze_if_ne (tgt := 29) X dc_M_slot_16 (by decide) (fun _ => ?_) (fun _ => ?_)
    · refine ze_iload_n X dc_M_slot_19 rfl rfl ?_
      refine ze_aload_n X dc_M_slot_20 rfl rfl ?_
      refine ze_getr X dc_M_slot_21 zf_M_48 sh_75 rfl ?_
      refine ze_iload_n X dc_M_slot_24 rfl rfl ?_
      refine ze_iald X dc_M_slot_25 sh_88 rfl (fun _ => ?_)
      refine ze_icmp_lt (tgt := 33) X dc_M_slot_26 (by decide) (fun _ => ?_) (fun _ => ?_)
      · refine ze_bipush (x := 8) X dc_M_slot_33 (by decide) ?_
        refine ze_iload_n X dc_M_slot_35 rfl rfl ?_
        refine ze_imul X dc_M_slot_36 ?_
        refine ze_aload_n X dc_M_slot_37 rfl rfl ?_
        refine ze_getr X dc_M_slot_38 zf_M_48 sh_75 rfl ?_
        refine ze_iload_n X dc_M_slot_41 rfl rfl ?_
        refine ze_iald X dc_M_slot_42 sh_88 rfl (fun _ => ?_)
        refine ze_iconst (x := 1) X dc_M_slot_43 (by decide) ?_
        refine ze_isub X dc_M_slot_44 ?_
        refine ze_iload_n X dc_M_slot_45 rfl rfl ?_
        refine ze_isub X dc_M_slot_46 ?_
        refine ze_bipush (x := 8) X dc_M_slot_47 (by decide) ?_
        refine ze_irem X dc_M_slot_49 (fun _ => ?_)
        refine ze_iadd X dc_M_slot_50 ?_
        exact ze_iret X Y (vp_nar_int _) dc_M_slot_51
      · refine ze_iconst (x := (-1)) X dc_M_slot_29 (by decide) ?_
        refine ze_goto (tgt := 51) X dc_M_slot_30 (by decide) ?_
        exact ze_iret X Y (vp_nar_int _) dc_M_slot_51
    · refine ze_iconst (x := (-1)) X dc_M_slot_29 (by decide) ?_
      refine ze_goto (tgt := 51) X dc_M_slot_30 (by decide) ?_
      exact ze_iret X Y (vp_nar_int _) dc_M_slot_51
  · refine ze_iconst (x := (-1)) X dc_M_slot_29 (by decide) ?_
    refine ze_goto (tgt := 51) X dc_M_slot_30 (by decide) ?_
    exact ze_iret X Y (vp_nar_int _) dc_M_slot_51
set_option maxHeartbeats 4000000 in
set_option maxRecDepth 100000 in
theorem c_M_slot {l : Launch} {D : va_G} {ad : Nat → Nat} {ca : Nat → ClassId} (hD : va_D (ze_A ad) (ze_ws ze_sh ad ca (fun _ _ => 0)))     (a1 : Int32) (a2 : Int32)  (v : ze_H) {r : Int32} {v1 : ze_H} (h : f_M_slot  a1 a2 v = some (r, v1)) : ze_Mi l D ad ca my_M_slot bc_M_slot 3 .int 1 22 [.inr 75, .inl a1, .inl a2] v r v1 := ze_Mi_of (plainFor_of_name (by decide)) hD (Nat.le_of_ble_eq_true rfl) (fun G e1 e2 e3 e4 X Y => w_M_slot X Y    a1 a2  v) h
def f_M_body  (a1 : Int32) (a2 : Int32) (v : ze_H) : Option (Int32 × ze_H) :=
  ze_call (f_M_slot  a1 a2 v) (fun r1 v2 => ze_let r1 (fun x3 => (if 0 ≤ x3 then ze_in x3 40 (some ((v2 89 (Int32.toNatClampNeg x3)), v2)) else some (0, v2))))
set_option maxHeartbeats 4000000 in
set_option maxRecDepth 100000 in
theorem w_M_body {G : ze_G}  (X : ze_X G bc_M_body cn_M 4 2 44) (Y : ze_Ri G .int)    (a1 : Int32) (a2 : Int32)  (v : ze_H) : ze_T G (f_M_body  a1 a2 v) v 0 [some (.inr 75), some (.inl a1), some (.inl a2), none] [] := by
  refine ze_aload_n X dc_M_body_0 rfl rfl ?_
  refine ze_iload_n X dc_M_body_1 rfl rfl ?_
  refine ze_iload_n X dc_M_body_2 rfl rfl ?_
  refine ze_callVi (As := [.inl a1, .inl a2]) (st := []) X dc_M_body_3 zc_M_340 sh_75 (fun zr zv zh => c_M_slot X.2.2.2.2.2.2.1  a1 a2  v zh) rfl (by decide) (by decide) (Nat.le_of_ble_eq_true rfl) (fun r1 v2 => ?_)
  refine ze_istore_n X dc_M_body_6 rfl (by decide) (fun x3 => ?_)
  refine ze_iload_n X dc_M_body_7 rfl rfl ?_
  refine ze_if_ge (tgt := 15) X dc_M_body_8 (by decide) (fun _ => ?_) (fun _ => ?_)
  · refine ze_aload_n X dc_M_body_15 rfl rfl ?_
    refine ze_getr X dc_M_body_16 zf_M_51 sh_75 rfl ?_
    refine ze_iload_n X dc_M_body_19 rfl rfl ?_
    refine ze_iald X dc_M_body_20 sh_89 rfl (fun _ => ?_)
    exact ze_iret X Y (vp_nar_int _) dc_M_body_21
  · refine ze_iconst (x := 0) X dc_M_body_11 (by decide) ?_
    refine ze_goto (tgt := 21) X dc_M_body_12 (by decide) ?_
    exact ze_iret X Y (vp_nar_int _) dc_M_body_21
set_option maxHeartbeats 4000000 in
set_option maxRecDepth 100000 in
theorem c_M_body {l : Launch} {D : va_G} {ad : Nat → Nat} {ca : Nat → ClassId} (hD : va_D (ze_A ad) (ze_ws ze_sh ad ca (fun _ _ => 0)))     (a1 : Int32) (a2 : Int32)  (v : ze_H) {r : Int32} {v1 : ze_H} (h : f_M_body  a1 a2 v = some (r, v1)) : ze_Mi l D ad ca my_M_body bc_M_body 4 .int 2 44 [.inr 75, .inl a1, .inl a2] v r v1 := ze_Mi_of (plainFor_of_name (by decide)) hD (Nat.le_of_ble_eq_true rfl) (fun G e1 e2 e3 e4 X Y => w_M_body X Y    a1 a2  v) h
def f_M_key  (a1 : Int32) (a2 : Int32) (v : ze_H) : Option (Int32 × ze_H) :=
  ze_call (f_M_slot  a1 a2 v) (fun r1 v2 => ze_let r1 (fun x3 => (if 0 ≤ x3 then ze_in x3 40 (some ((v2 90 (Int32.toNatClampNeg x3)), v2)) else some (0, v2))))
set_option maxHeartbeats 4000000 in
set_option maxRecDepth 100000 in
theorem w_M_key {G : ze_G}  (X : ze_X G bc_M_key cn_M 4 2 44) (Y : ze_Ri G .int)    (a1 : Int32) (a2 : Int32)  (v : ze_H) : ze_T G (f_M_key  a1 a2 v) v 0 [some (.inr 75), some (.inl a1), some (.inl a2), none] [] := by
  refine ze_aload_n X dc_M_key_0 rfl rfl ?_
  refine ze_iload_n X dc_M_key_1 rfl rfl ?_
  refine ze_iload_n X dc_M_key_2 rfl rfl ?_
  refine ze_callVi (As := [.inl a1, .inl a2]) (st := []) X dc_M_key_3 zc_M_340 sh_75 (fun zr zv zh => c_M_slot X.2.2.2.2.2.2.1  a1 a2  v zh) rfl (by decide) (by decide) (Nat.le_of_ble_eq_true rfl) (fun r1 v2 => ?_)
  refine ze_istore_n X dc_M_key_6 rfl (by decide) (fun x3 => ?_)
  refine ze_iload_n X dc_M_key_7 rfl rfl ?_
  refine ze_if_ge (tgt := 15) X dc_M_key_8 (by decide) (fun _ => ?_) (fun _ => ?_)
  · refine ze_aload_n X dc_M_key_15 rfl rfl ?_
    refine ze_getr X dc_M_key_16 zf_M_54 sh_75 rfl ?_
    refine ze_iload_n X dc_M_key_19 rfl rfl ?_
    refine ze_iald X dc_M_key_20 sh_90 rfl (fun _ => ?_)
    exact ze_iret X Y (vp_nar_int _) dc_M_key_21
  · refine ze_iconst (x := 0) X dc_M_key_11 (by decide) ?_
    refine ze_goto (tgt := 21) X dc_M_key_12 (by decide) ?_
    exact ze_iret X Y (vp_nar_int _) dc_M_key_21
set_option maxHeartbeats 4000000 in
set_option maxRecDepth 100000 in
theorem c_M_key {l : Launch} {D : va_G} {ad : Nat → Nat} {ca : Nat → ClassId} (hD : va_D (ze_A ad) (ze_ws ze_sh ad ca (fun _ _ => 0)))     (a1 : Int32) (a2 : Int32)  (v : ze_H) {r : Int32} {v1 : ze_H} (h : f_M_key  a1 a2 v = some (r, v1)) : ze_Mi l D ad ca my_M_key bc_M_key 4 .int 2 44 [.inr 75, .inl a1, .inl a2] v r v1 := ze_Mi_of (plainFor_of_name (by decide)) hD (Nat.le_of_ble_eq_true rfl) (fun G e1 e2 e3 e4 X Y => w_M_key X Y    a1 a2  v) h
def f_M_group  (a1 : Int32) (a2 : Int32) (v : ze_H) : Option (Int32 × ze_H) :=
  (if a1 < 0 then some (0, v) else (if a1 < (v 75 22) then (if a2 = 0 then ze_in a1 120 (some ((v 95 (Int32.toNatClampNeg a1)), v)) else (if a2 = 1 then ze_in a1 120 (some ((v 96 (Int32.toNatClampNeg a1)), v)) else (if a2 = 2 then ze_in a1 120 (some ((v 97 (Int32.toNatClampNeg a1)), v)) else (if a2 = 3 then ze_in a1 120 (some ((v 98 (Int32.toNatClampNeg a1)), v)) else some (0, v))))) else some (0, v)))
set_option maxHeartbeats 4000000 in
set_option maxRecDepth 100000 in
theorem w_M_group {G : ze_G}  (X : ze_X G bc_M_group cn_M 3 0 0) (Y : ze_Ri G .int)    (a1 : Int32) (a2 : Int32)  (v : ze_H) : ze_T G (f_M_group  a1 a2 v) v 0 [some (.inr 75), some (.inl a1), some (.inl a2)] [] := by
  refine ze_iload_n X dc_M_group_0 rfl rfl ?_
  refine ze_if_lt (tgt := 12) X dc_M_group_1 (by decide) (fun _ => ?_) (fun _ => ?_)
  · refine ze_iconst (x := 0) X dc_M_group_12 (by decide) ?_
    exact ze_iret X Y (vp_nar_int _) dc_M_group_13
  · refine ze_iload_n X dc_M_group_4 rfl rfl ?_
    refine ze_aload_n X dc_M_group_5 rfl rfl ?_
    refine ze_geti X dc_M_group_6 zf_M_192 sh_75 rfl ?_
    refine ze_icmp_lt (tgt := 14) X dc_M_group_9 (by decide) (fun _ => ?_) (fun _ => ?_)
    · refine ze_iload_n X dc_M_group_14 rfl rfl ?_
      refine ze_if_ne (tgt := 27) X dc_M_group_15 (by decide) (fun _ => ?_) (fun _ => ?_)
      · refine ze_aload_n X dc_M_group_18 rfl rfl ?_
        refine ze_getr X dc_M_group_19 zf_M_69 sh_75 rfl ?_
        refine ze_iload_n X dc_M_group_22 rfl rfl ?_
        refine ze_iald X dc_M_group_23 sh_95 rfl (fun _ => ?_)
        refine ze_goto (tgt := 70) X dc_M_group_24 (by decide) ?_
        exact ze_iret X Y (vp_nar_int _) dc_M_group_70
      · refine ze_iload_n X dc_M_group_27 rfl rfl ?_
        refine ze_iconst (x := 1) X dc_M_group_28 (by decide) ?_
        refine ze_icmp_ne (tgt := 41) X dc_M_group_29 (by decide) (fun _ => ?_) (fun _ => ?_)
        · refine ze_aload_n X dc_M_group_32 rfl rfl ?_
          refine ze_getr X dc_M_group_33 zf_M_72 sh_75 rfl ?_
          refine ze_iload_n X dc_M_group_36 rfl rfl ?_
          refine ze_iald X dc_M_group_37 sh_96 rfl (fun _ => ?_)
          refine ze_goto (tgt := 70) X dc_M_group_38 (by decide) ?_
          exact ze_iret X Y (vp_nar_int _) dc_M_group_70
        · refine ze_iload_n X dc_M_group_41 rfl rfl ?_
          refine ze_iconst (x := 2) X dc_M_group_42 (by decide) ?_
          refine ze_icmp_ne (tgt := 55) X dc_M_group_43 (by decide) (fun _ => ?_) (fun _ => ?_)
          · refine ze_aload_n X dc_M_group_46 rfl rfl ?_
            refine ze_getr X dc_M_group_47 zf_M_75 sh_75 rfl ?_
            refine ze_iload_n X dc_M_group_50 rfl rfl ?_
            refine ze_iald X dc_M_group_51 sh_97 rfl (fun _ => ?_)
            refine ze_goto (tgt := 70) X dc_M_group_52 (by decide) ?_
            exact ze_iret X Y (vp_nar_int _) dc_M_group_70
          · refine ze_iload_n X dc_M_group_55 rfl rfl ?_
            refine ze_iconst (x := 3) X dc_M_group_56 (by decide) ?_
            refine ze_icmp_ne (tgt := 69) X dc_M_group_57 (by decide) (fun _ => ?_) (fun _ => ?_)
            · refine ze_aload_n X dc_M_group_60 rfl rfl ?_
              refine ze_getr X dc_M_group_61 zf_M_78 sh_75 rfl ?_
              refine ze_iload_n X dc_M_group_64 rfl rfl ?_
              refine ze_iald X dc_M_group_65 sh_98 rfl (fun _ => ?_)
              refine ze_goto (tgt := 70) X dc_M_group_66 (by decide) ?_
              exact ze_iret X Y (vp_nar_int _) dc_M_group_70
            · refine ze_iconst (x := 0) X dc_M_group_69 (by decide) ?_
              exact ze_iret X Y (vp_nar_int _) dc_M_group_70
    · refine ze_iconst (x := 0) X dc_M_group_12 (by decide) ?_
      exact ze_iret X Y (vp_nar_int _) dc_M_group_13
set_option maxHeartbeats 4000000 in
set_option maxRecDepth 100000 in
theorem c_M_group {l : Launch} {D : va_G} {ad : Nat → Nat} {ca : Nat → ClassId} (hD : va_D (ze_A ad) (ze_ws ze_sh ad ca (fun _ _ => 0)))     (a1 : Int32) (a2 : Int32)  (v : ze_H) {r : Int32} {v1 : ze_H} (h : f_M_group  a1 a2 v = some (r, v1)) : ze_Mi l D ad ca my_M_group bc_M_group 3 .int 0 0 [.inr 75, .inl a1, .inl a2] v r v1 := ze_Mi_of (plainFor_of_name (by decide)) hD (Nat.le_of_ble_eq_true rfl) (fun G e1 e2 e3 e4 X Y => w_M_group X Y    a1 a2  v) h
def f_M_count_J17  (b1 : Int32) (v : ze_H) : Option (Int32 × ze_H) :=
  (if b1 = 8 then some ((v 75 58), v) else (if b1 = 9 then some ((v 75 18), v) else (if b1 = 10 then some ((v 75 22), v) else (if b1 = 11 then some ((v 75 29), v) else (if b1 = 12 then some ((v 75 59), v) else some ((-1), v))))))
def f_M_count  (a1 : Int32) (v : ze_H) : Option (Int32 × ze_H) :=
  (if a1 < 0 then (f_M_count_J17  a1 v) else (if 7 < a1 then (f_M_count_J17  a1 v) else ze_in a1 8 (some ((v 119 (Int32.toNatClampNeg a1)), v))))
set_option maxHeartbeats 4000000 in
set_option maxRecDepth 100000 in
theorem w_M_count_J17 {G : ze_G}  (X : ze_X G bc_M_count cn_M 2 0 0) (Y : ze_Ri G .int)    (b1 : Int32)  (v : ze_H) : ze_T G (f_M_count_J17  b1 v) v 17 [some (.inr 75), some (.inl b1)] [] := by
  refine ze_iload_n X dc_M_count_17 rfl rfl ?_
  refine ze_bipush (x := 8) X dc_M_count_18 (by decide) ?_
  refine ze_icmp_ne (tgt := 30) X dc_M_count_20 (by decide) (fun _ => ?_) (fun _ => ?_)
  · refine ze_aload_n X dc_M_count_23 rfl rfl ?_
    refine ze_geti X dc_M_count_24 zf_M_261 sh_75 rfl ?_
    refine ze_goto (tgt := 83) X dc_M_count_27 (by decide) ?_
    exact ze_iret X Y (vp_nar_int _) dc_M_count_83
  · refine ze_iload_n X dc_M_count_30 rfl rfl ?_
    refine ze_bipush (x := 9) X dc_M_count_31 (by decide) ?_
    refine ze_icmp_ne (tgt := 43) X dc_M_count_33 (by decide) (fun _ => ?_) (fun _ => ?_)
    · refine ze_aload_n X dc_M_count_36 rfl rfl ?_
      refine ze_geti X dc_M_count_37 zf_M_189 sh_75 rfl ?_
      refine ze_goto (tgt := 83) X dc_M_count_40 (by decide) ?_
      exact ze_iret X Y (vp_nar_int _) dc_M_count_83
    · refine ze_iload_n X dc_M_count_43 rfl rfl ?_
      refine ze_bipush (x := 10) X dc_M_count_44 (by decide) ?_
      refine ze_icmp_ne (tgt := 56) X dc_M_count_46 (by decide) (fun _ => ?_) (fun _ => ?_)
      · refine ze_aload_n X dc_M_count_49 rfl rfl ?_
        refine ze_geti X dc_M_count_50 zf_M_192 sh_75 rfl ?_
        refine ze_goto (tgt := 83) X dc_M_count_53 (by decide) ?_
        exact ze_iret X Y (vp_nar_int _) dc_M_count_83
      · refine ze_iload_n X dc_M_count_56 rfl rfl ?_
        refine ze_bipush (x := 11) X dc_M_count_57 (by decide) ?_
        refine ze_icmp_ne (tgt := 69) X dc_M_count_59 (by decide) (fun _ => ?_) (fun _ => ?_)
        · refine ze_aload_n X dc_M_count_62 rfl rfl ?_
          refine ze_geti X dc_M_count_63 zf_M_195 sh_75 rfl ?_
          refine ze_goto (tgt := 83) X dc_M_count_66 (by decide) ?_
          exact ze_iret X Y (vp_nar_int _) dc_M_count_83
        · refine ze_iload_n X dc_M_count_69 rfl rfl ?_
          refine ze_bipush (x := 12) X dc_M_count_70 (by decide) ?_
          refine ze_icmp_ne (tgt := 82) X dc_M_count_72 (by decide) (fun _ => ?_) (fun _ => ?_)
          · refine ze_aload_n X dc_M_count_75 rfl rfl ?_
            refine ze_geti X dc_M_count_76 zf_M_264 sh_75 rfl ?_
            refine ze_goto (tgt := 83) X dc_M_count_79 (by decide) ?_
            exact ze_iret X Y (vp_nar_int _) dc_M_count_83
          · refine ze_iconst (x := (-1)) X dc_M_count_82 (by decide) ?_
            exact ze_iret X Y (vp_nar_int _) dc_M_count_83
set_option maxHeartbeats 4000000 in
set_option maxRecDepth 100000 in
theorem w_M_count {G : ze_G}  (X : ze_X G bc_M_count cn_M 2 0 0) (Y : ze_Ri G .int)    (a1 : Int32)  (v : ze_H) : ze_T G (f_M_count  a1 v) v 0 [some (.inr 75), some (.inl a1)] [] := by
  refine ze_iload_n X dc_M_count_0 rfl rfl ?_
  refine ze_if_lt (tgt := 17) X dc_M_count_1 (by decide) (fun _ => ?_) (fun _ => ?_)
  · refine ze_weak [true, true] ?_
    exact w_M_count_J17 X Y    a1  v
  · refine ze_iload_n X dc_M_count_4 rfl rfl ?_
    refine ze_bipush (x := 7) X dc_M_count_5 (by decide) ?_
    refine ze_icmp_gt (tgt := 17) X dc_M_count_7 (by decide) (fun _ => ?_) (fun _ => ?_)
    · refine ze_weak [true, true] ?_
      exact w_M_count_J17 X Y    a1  v
    · refine ze_aload_n X dc_M_count_10 rfl rfl ?_
      refine ze_getr X dc_M_count_11 zf_M_141 sh_75 rfl ?_
      refine ze_iload_n X dc_M_count_14 rfl rfl ?_
      refine ze_iald X dc_M_count_15 sh_119 rfl (fun _ => ?_)
      exact ze_iret X Y (vp_nar_int _) dc_M_count_16
set_option maxHeartbeats 4000000 in
set_option maxRecDepth 100000 in
theorem c_M_count {l : Launch} {D : va_G} {ad : Nat → Nat} {ca : Nat → ClassId} (hD : va_D (ze_A ad) (ze_ws ze_sh ad ca (fun _ _ => 0)))     (a1 : Int32)  (v : ze_H) {r : Int32} {v1 : ze_H} (h : f_M_count  a1 v = some (r, v1)) : ze_Mi l D ad ca my_M_count bc_M_count 2 .int 0 0 [.inr 75, .inl a1] v r v1 := ze_Mi_of (plainFor_of_name (by decide)) hD (Nat.le_of_ble_eq_true rfl) (fun G e1 e2 e3 e4 X Y => w_M_count X Y    a1  v) h
