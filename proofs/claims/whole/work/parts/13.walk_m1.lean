def f_M_outside  (a1 : Int32) (a2 : Int32) (a3 : Int32) (v : ze_H) : Option (Int32 × ze_H) :=
  (if a1 < a2 then some (1, v) else (if a1 ≤ a3 then some (0, v) else some (1, v)))
set_option maxHeartbeats 4000000 in
set_option maxRecDepth 100000 in
theorem w_M_outside {G : ze_G}  (X : ze_X G bc_M_outside cn_M 3 0 0) (Y : ze_Ri G .boolean)    (a1 : Int32) (a2 : Int32) (a3 : Int32)  (v : ze_H) : ze_T G (f_M_outside  a1 a2 a3 v) v 0 [some (.inl a1), some (.inl a2), some (.inl a3)] [] := by
  refine ze_iload_n X dc_M_outside_0 rfl rfl ?_
  refine ze_iload_n X dc_M_outside_1 rfl rfl ?_
  refine ze_icmp_lt (tgt := 10) X dc_M_outside_2 (by decide) (fun _ => ?_) (fun _ => ?_)
  · refine ze_iconst (x := 1) X dc_M_outside_10 (by decide) ?_
    refine ze_goto (tgt := 15) X dc_M_outside_11 (by decide) ?_
    exact ze_iret X Y rfl dc_M_outside_15
  · refine ze_iload_n X dc_M_outside_5 rfl rfl ?_
    refine ze_iload_n X dc_M_outside_6 rfl rfl ?_
    refine ze_icmp_le (tgt := 14) X dc_M_outside_7 (by decide) (fun _ => ?_) (fun _ => ?_)
    · refine ze_iconst (x := 0) X dc_M_outside_14 (by decide) ?_
      exact ze_iret X Y rfl dc_M_outside_15
    · refine ze_iconst (x := 1) X dc_M_outside_10 (by decide) ?_
      refine ze_goto (tgt := 15) X dc_M_outside_11 (by decide) ?_
      exact ze_iret X Y rfl dc_M_outside_15
set_option maxHeartbeats 4000000 in
set_option maxRecDepth 100000 in
theorem c_M_outside {l : Launch} {D : va_G} {ad : Nat → Nat} {ca : Nat → ClassId} (hD : va_D (ze_A ad) (ze_ws ze_sh ad ca (fun _ _ => 0)))     (a1 : Int32) (a2 : Int32) (a3 : Int32)  (v : ze_H) {r : Int32} {v1 : ze_H} (h : f_M_outside  a1 a2 a3 v = some (r, v1)) : ze_Mi l D ad ca my_M_outside bc_M_outside 3 .boolean 0 0 [.inl a1, .inl a2, .inl a3] v r v1 := ze_Mi_of (plainFor_of_name (by decide)) hD (Nat.le_of_ble_eq_true rfl) (fun G e1 e2 e3 e4 X Y => w_M_outside X Y    a1 a2 a3  v) h
def f_M_put  (a1 : Int32) (a2 : Int32) (v : ze_H) : Option (Int32 × ze_H) :=
  ze_call (f_M_outside  a1 0 3 v) (fun r1 v2 => (if r1 = 0 then (if a2 < 33 then some (0, v2) else (if 126 < a2 then some (0, v2) else ze_in a1 4 ((if (v2 77 (Int32.toNatClampNeg a1)) < 40 then ze_in a1 4 (ze_in ((40 * a1) + (v2 77 (Int32.toNatClampNeg a1))) 160 (ze_lev (ze_u v2 76 (Int32.toNatClampNeg ((40 * a1) + (v2 77 (Int32.toNatClampNeg a1)))) (vp_nar .char a2)) (fun v3 => ze_in a1 4 (ze_in a1 4 (ze_lev (ze_u v3 77 (Int32.toNatClampNeg a1) ((v3 77 (Int32.toNatClampNeg a1)) + 1)) (fun v4 => some (1, v4))))))) else some (0, v2))))) else some (0, v2)))
set_option maxHeartbeats 4000000 in
set_option maxRecDepth 100000 in
theorem w_M_put {G : ze_G}  (X : ze_X G bc_M_put cn_M 3 1 22) (Y : ze_Ri G .boolean)    (a1 : Int32) (a2 : Int32)  (v : ze_H) : ze_T G (f_M_put  a1 a2 v) v 0 [some (.inr 75), some (.inl a1), some (.inl a2)] [] := by
  refine ze_iload_n X dc_M_put_0 rfl rfl ?_
  refine ze_iconst (x := 0) X dc_M_put_1 (by decide) ?_
  refine ze_iconst (x := 3) X dc_M_put_2 (by decide) ?_
  refine ze_callSi (As := [.inl a1, .inl 0, .inl 3]) (st := []) X dc_M_put_3 zc_M_144 (fun zr zv zh => c_M_outside X.2.2.2.2.2.2.1  a1 0 3  v zh) rfl (by decide) (by decide) (Nat.le_of_ble_eq_true rfl) (fun r1 v2 => ?_)
  refine ze_if_ne (tgt := 32) X dc_M_put_6 (by decide) (fun _ => ?_) (fun _ => ?_)
  · refine ze_iload_n X dc_M_put_9 rfl rfl ?_
    refine ze_bipush (x := 33) X dc_M_put_10 (by decide) ?_
    refine ze_icmp_lt (tgt := 32) X dc_M_put_12 (by decide) (fun _ => ?_) (fun _ => ?_)
    · refine ze_iconst (x := 0) X dc_M_put_32 (by decide) ?_
      exact ze_iret X Y rfl dc_M_put_33
    · refine ze_iload_n X dc_M_put_15 rfl rfl ?_
      refine ze_bipush (x := 126) X dc_M_put_16 (by decide) ?_
      refine ze_icmp_gt (tgt := 32) X dc_M_put_18 (by decide) (fun _ => ?_) (fun _ => ?_)
      · refine ze_iconst (x := 0) X dc_M_put_32 (by decide) ?_
        exact ze_iret X Y rfl dc_M_put_33
      · refine ze_aload_n X dc_M_put_21 rfl rfl ?_
        refine ze_getr X dc_M_put_22 zf_M_13 sh_75 rfl ?_
        refine ze_iload_n X dc_M_put_25 rfl rfl ?_
        refine ze_iald X dc_M_put_26 sh_77 rfl (fun _ => ?_)
        refine ze_bipush (x := 40) X dc_M_put_27 (by decide) ?_
        refine ze_icmp_lt (tgt := 34) X dc_M_put_29 (by decide) (fun _ => ?_) (fun _ => ?_)
        · refine ze_aload_n X dc_M_put_34 rfl rfl ?_
          refine ze_getr X dc_M_put_35 zf_M_7 sh_75 rfl ?_
          refine ze_bipush (x := 40) X dc_M_put_38 (by decide) ?_
          refine ze_iload_n X dc_M_put_40 rfl rfl ?_
          refine ze_imul X dc_M_put_41 ?_
          refine ze_aload_n X dc_M_put_42 rfl rfl ?_
          refine ze_getr X dc_M_put_43 zf_M_13 sh_75 rfl ?_
          refine ze_iload_n X dc_M_put_46 rfl rfl ?_
          refine ze_iald X dc_M_put_47 sh_77 rfl (fun _ => ?_)
          refine ze_iadd X dc_M_put_48 ?_
          refine ze_iload_n X dc_M_put_49 rfl rfl ?_
          refine ze_cast X dc_M_put_50 sh_76 rfl (fun v3 _ => ?_)
          refine ze_aload_n X dc_M_put_51 rfl rfl ?_
          refine ze_getr X dc_M_put_52 zf_M_13 sh_75 rfl ?_
          refine ze_iload_n X dc_M_put_55 rfl rfl ?_
          refine ze_dup2 X dc_M_put_56 ?_
          refine ze_iald X dc_M_put_57 sh_77 rfl (fun _ => ?_)
          refine ze_iconst (x := 1) X dc_M_put_58 (by decide) ?_
          refine ze_iadd X dc_M_put_59 ?_
          refine ze_iast X dc_M_put_60 sh_77 rfl (fun v4 _ => ?_)
          refine ze_iconst (x := 1) X dc_M_put_61 (by decide) ?_
          exact ze_iret X Y rfl dc_M_put_62
        · refine ze_iconst (x := 0) X dc_M_put_32 (by decide) ?_
          exact ze_iret X Y rfl dc_M_put_33
  · refine ze_iconst (x := 0) X dc_M_put_32 (by decide) ?_
    exact ze_iret X Y rfl dc_M_put_33
set_option maxHeartbeats 4000000 in
set_option maxRecDepth 100000 in
theorem c_M_put {l : Launch} {D : va_G} {ad : Nat → Nat} {ca : Nat → ClassId} (hD : va_D (ze_A ad) (ze_ws ze_sh ad ca (fun _ _ => 0)))     (a1 : Int32) (a2 : Int32)  (v : ze_H) {r : Int32} {v1 : ze_H} (h : f_M_put  a1 a2 v = some (r, v1)) : ze_Mi l D ad ca my_M_put bc_M_put 3 .boolean 1 22 [.inr 75, .inl a1, .inl a2] v r v1 := ze_Mi_of (plainFor_of_name (by decide)) hD (Nat.le_of_ble_eq_true rfl) (fun G e1 e2 e3 e4 X Y => w_M_put X Y    a1 a2  v) h
def f_M_clear  (a1 : Int32) (v : ze_H) : Option (Int32 × ze_H) :=
  ze_call (f_M_outside  a1 0 3 v) (fun r1 v2 => (if r1 = 0 then ze_in a1 4 (ze_lev (ze_u v2 77 (Int32.toNatClampNeg a1) 0) (fun v3 => some (1, v3))) else some (0, v2)))
set_option maxHeartbeats 4000000 in
set_option maxRecDepth 100000 in
theorem w_M_clear {G : ze_G}  (X : ze_X G bc_M_clear cn_M 2 1 22) (Y : ze_Ri G .boolean)    (a1 : Int32)  (v : ze_H) : ze_T G (f_M_clear  a1 v) v 0 [some (.inr 75), some (.inl a1)] [] := by
  refine ze_iload_n X dc_M_clear_0 rfl rfl ?_
  refine ze_iconst (x := 0) X dc_M_clear_1 (by decide) ?_
  refine ze_iconst (x := 3) X dc_M_clear_2 (by decide) ?_
  refine ze_callSi (As := [.inl a1, .inl 0, .inl 3]) (st := []) X dc_M_clear_3 zc_M_144 (fun zr zv zh => c_M_outside X.2.2.2.2.2.2.1  a1 0 3  v zh) rfl (by decide) (by decide) (Nat.le_of_ble_eq_true rfl) (fun r1 v2 => ?_)
  refine ze_if_eq (tgt := 11) X dc_M_clear_6 (by decide) (fun _ => ?_) (fun _ => ?_)
  · refine ze_aload_n X dc_M_clear_11 rfl rfl ?_
    refine ze_getr X dc_M_clear_12 zf_M_13 sh_75 rfl ?_
    refine ze_iload_n X dc_M_clear_15 rfl rfl ?_
    refine ze_iconst (x := 0) X dc_M_clear_16 (by decide) ?_
    refine ze_iast X dc_M_clear_17 sh_77 rfl (fun v3 _ => ?_)
    refine ze_iconst (x := 1) X dc_M_clear_18 (by decide) ?_
    exact ze_iret X Y rfl dc_M_clear_19
  · refine ze_iconst (x := 0) X dc_M_clear_9 (by decide) ?_
    exact ze_iret X Y rfl dc_M_clear_10
set_option maxHeartbeats 4000000 in
set_option maxRecDepth 100000 in
theorem c_M_clear {l : Launch} {D : va_G} {ad : Nat → Nat} {ca : Nat → ClassId} (hD : va_D (ze_A ad) (ze_ws ze_sh ad ca (fun _ _ => 0)))     (a1 : Int32)  (v : ze_H) {r : Int32} {v1 : ze_H} (h : f_M_clear  a1 v = some (r, v1)) : ze_Mi l D ad ca my_M_clear bc_M_clear 2 .boolean 1 22 [.inr 75, .inl a1] v r v1 := ze_Mi_of (plainFor_of_name (by decide)) hD (Nat.le_of_ble_eq_true rfl) (fun G e1 e2 e3 e4 X Y => w_M_clear X Y    a1  v) h
def f_M_digit  (a1 : Int32) (v : ze_H) : Option (Int32 × ze_H) :=
  (if a1 < 48 then some (0, v) else (if 57 < a1 then some (0, v) else some (1, v)))
set_option maxHeartbeats 4000000 in
set_option maxRecDepth 100000 in
theorem w_M_digit {G : ze_G}  (X : ze_X G bc_M_digit cn_M 1 0 0) (Y : ze_Ri G .boolean)    (a1 : Int32)  (v : ze_H) : ze_T G (f_M_digit  a1 v) v 0 [some (.inl a1)] [] := by
  refine ze_iload_n X dc_M_digit_0 rfl rfl ?_
  refine ze_bipush (x := 48) X dc_M_digit_1 (by decide) ?_
  refine ze_icmp_lt (tgt := 16) X dc_M_digit_3 (by decide) (fun _ => ?_) (fun _ => ?_)
  · refine ze_iconst (x := 0) X dc_M_digit_16 (by decide) ?_
    exact ze_iret X Y rfl dc_M_digit_17
  · refine ze_iload_n X dc_M_digit_6 rfl rfl ?_
    refine ze_bipush (x := 57) X dc_M_digit_7 (by decide) ?_
    refine ze_icmp_gt (tgt := 16) X dc_M_digit_9 (by decide) (fun _ => ?_) (fun _ => ?_)
    · refine ze_iconst (x := 0) X dc_M_digit_16 (by decide) ?_
      exact ze_iret X Y rfl dc_M_digit_17
    · refine ze_iconst (x := 1) X dc_M_digit_12 (by decide) ?_
      refine ze_goto (tgt := 17) X dc_M_digit_13 (by decide) ?_
      exact ze_iret X Y rfl dc_M_digit_17
set_option maxHeartbeats 4000000 in
set_option maxRecDepth 100000 in
theorem c_M_digit {l : Launch} {D : va_G} {ad : Nat → Nat} {ca : Nat → ClassId} (hD : va_D (ze_A ad) (ze_ws ze_sh ad ca (fun _ _ => 0)))     (a1 : Int32)  (v : ze_H) {r : Int32} {v1 : ze_H} (h : f_M_digit  a1 v = some (r, v1)) : ze_Mi l D ad ca my_M_digit bc_M_digit 1 .boolean 0 0 [.inl a1] v r v1 := ze_Mi_of (plainFor_of_name (by decide)) hD (Nat.le_of_ble_eq_true rfl) (fun G e1 e2 e3 e4 X Y => w_M_digit X Y    a1  v) h
def f_M_look  (a1 : Int32) (a2 : Int32) (v : ze_H) : Option (Int32 × ze_H) :=
  ze_in a1 4 ((if (v 77 (Int32.toNatClampNeg a1)) ≤ a2 then ze_rc 0 v else ze_in ((40 * a1) + a2) 160 (ze_rc (v 76 (Int32.toNatClampNeg ((40 * a1) + a2))) v)))
set_option maxHeartbeats 4000000 in
set_option maxRecDepth 100000 in
theorem w_M_look {G : ze_G}  (X : ze_X G bc_M_look cn_M 3 0 0) (Y : ze_Ri G .char)    (a1 : Int32) (a2 : Int32)  (v : ze_H) : ze_T G (f_M_look  a1 a2 v) v 0 [some (.inr 75), some (.inl a1), some (.inl a2)] [] := by
  refine ze_iload_n X dc_M_look_0 rfl rfl ?_
  refine ze_aload_n X dc_M_look_1 rfl rfl ?_
  refine ze_getr X dc_M_look_2 zf_M_13 sh_75 rfl ?_
  refine ze_iload_n X dc_M_look_5 rfl rfl ?_
  refine ze_iald X dc_M_look_6 sh_77 rfl (fun _ => ?_)
  refine ze_icmp_ge (tgt := 24) X dc_M_look_7 (by decide) (fun _ => ?_) (fun _ => ?_)
  · refine ze_iconst (x := 0) X dc_M_look_24 (by decide) ?_
    exact ze_cret X Y dc_M_look_25
  · refine ze_aload_n X dc_M_look_10 rfl rfl ?_
    refine ze_getr X dc_M_look_11 zf_M_7 sh_75 rfl ?_
    refine ze_bipush (x := 40) X dc_M_look_14 (by decide) ?_
    refine ze_iload_n X dc_M_look_16 rfl rfl ?_
    refine ze_imul X dc_M_look_17 ?_
    refine ze_iload_n X dc_M_look_18 rfl rfl ?_
    refine ze_iadd X dc_M_look_19 ?_
    refine ze_cald X dc_M_look_20 sh_76 rfl (fun _ => ?_)
    refine ze_goto (tgt := 25) X dc_M_look_21 (by decide) ?_
    exact ze_cret X Y dc_M_look_25
set_option maxHeartbeats 4000000 in
set_option maxRecDepth 100000 in
theorem c_M_look {l : Launch} {D : va_G} {ad : Nat → Nat} {ca : Nat → ClassId} (hD : va_D (ze_A ad) (ze_ws ze_sh ad ca (fun _ _ => 0)))     (a1 : Int32) (a2 : Int32)  (v : ze_H) {r : Int32} {v1 : ze_H} (h : f_M_look  a1 a2 v = some (r, v1)) : ze_Mi l D ad ca my_M_look bc_M_look 3 .char 0 0 [.inr 75, .inl a1, .inl a2] v r v1 := ze_Mi_of (plainFor_of_name (by decide)) hD (Nat.le_of_ble_eq_true rfl) (fun G e1 e2 e3 e4 X Y => w_M_look X Y    a1 a2  v) h
def f_M_must_J21  (b1 : Int32) (b2 : Int32) (v : ze_H) : Option (Int32 × ze_H) :=
  ze_in b1 4 ((if (v 77 (Int32.toNatClampNeg b1)) ≤ b2 then ze_in b1 4 (ze_lev (ze_u v 75 6 (v 77 (Int32.toNatClampNeg b1))) (fun v1 => (if 0 ≤ (v1 75 6) then some (0, v1) else some (1, v1)))) else ze_lev (ze_u v 75 6 b2) (fun v2 => (if 0 ≤ (v2 75 6) then some (0, v2) else some (1, v2)))))
def f_M_must  (a1 : Int32) (a2 : Int32) (a3 : Int32) (v : ze_H) : Option (Int32 × ze_H) :=
  (if 0 ≤ (v 75 6) then (if 0 ≤ (v 75 6) then some (0, v) else some (1, v)) else ze_in a1 4 ((if (v 77 (Int32.toNatClampNeg a1)) ≤ a2 then (f_M_must_J21  a1 a2 v) else (if a3 = 0 then (f_M_must_J21  a1 a2 v) else (if 0 ≤ (v 75 6) then some (0, v) else some (1, v))))))
set_option maxHeartbeats 4000000 in
set_option maxRecDepth 100000 in
theorem w_M_must_J21 {G : ze_G}  (X : ze_X G bc_M_must cn_M 4 0 0) (Y : ze_Ri G .boolean)    (b1 : Int32) (b2 : Int32)  (v : ze_H) : ze_T G (f_M_must_J21  b1 b2 v) v 21 [some (.inr 75), some (.inl b1), some (.inl b2), none] [] := by
  refine ze_aload_n X dc_M_must_21 rfl rfl ?_
  refine ze_iload_n X dc_M_must_22 rfl rfl ?_
  refine ze_aload_n X dc_M_must_23 rfl rfl ?_
  refine ze_getr X dc_M_must_24 zf_M_13 sh_75 rfl ?_
  refine ze_iload_n X dc_M_must_27 rfl rfl ?_
  refine ze_iald X dc_M_must_28 sh_77 rfl (fun _ => ?_)
  refine ze_icmp_ge (tgt := 36) X dc_M_must_29 (by decide) (fun _ => ?_) (fun _ => ?_)
  · refine ze_aload_n X dc_M_must_36 rfl rfl ?_
    refine ze_getr X dc_M_must_37 zf_M_13 sh_75 rfl ?_
    refine ze_iload_n X dc_M_must_40 rfl rfl ?_
    refine ze_iald X dc_M_must_41 sh_77 rfl (fun _ => ?_)
    refine ze_puti X dc_M_must_42 zp_M_148 sh_75 rfl (fun v1 => ?_)
    refine ze_aload_n X dc_M_must_45 rfl rfl ?_
    refine ze_geti X dc_M_must_46 zf_M_148 sh_75 rfl ?_
    refine ze_if_ge (tgt := 56) X dc_M_must_49 (by decide) (fun _ => ?_) (fun _ => ?_)
    · refine ze_iconst (x := 0) X dc_M_must_56 (by decide) ?_
      exact ze_iret X Y rfl dc_M_must_57
    · refine ze_iconst (x := 1) X dc_M_must_52 (by decide) ?_
      refine ze_goto (tgt := 57) X dc_M_must_53 (by decide) ?_
      exact ze_iret X Y rfl dc_M_must_57
  · refine ze_iload_n X dc_M_must_32 rfl rfl ?_
    refine ze_goto (tgt := 42) X dc_M_must_33 (by decide) ?_
    refine ze_puti X dc_M_must_42 zp_M_148 sh_75 rfl (fun v2 => ?_)
    refine ze_aload_n X dc_M_must_45 rfl rfl ?_
    refine ze_geti X dc_M_must_46 zf_M_148 sh_75 rfl ?_
    refine ze_if_ge (tgt := 56) X dc_M_must_49 (by decide) (fun _ => ?_) (fun _ => ?_)
    · refine ze_iconst (x := 0) X dc_M_must_56 (by decide) ?_
      exact ze_iret X Y rfl dc_M_must_57
    · refine ze_iconst (x := 1) X dc_M_must_52 (by decide) ?_
      refine ze_goto (tgt := 57) X dc_M_must_53 (by decide) ?_
      exact ze_iret X Y rfl dc_M_must_57
set_option maxHeartbeats 4000000 in
set_option maxRecDepth 100000 in
theorem w_M_must {G : ze_G}  (X : ze_X G bc_M_must cn_M 4 0 0) (Y : ze_Ri G .boolean)    (a1 : Int32) (a2 : Int32) (a3 : Int32)  (v : ze_H) : ze_T G (f_M_must  a1 a2 a3 v) v 0 [some (.inr 75), some (.inl a1), some (.inl a2), some (.inl a3)] [] := by
  refine ze_aload_n X dc_M_must_0 rfl rfl ?_
  refine ze_geti X dc_M_must_1 zf_M_148 sh_75 rfl ?_
  refine ze_if_ge (tgt := 45) X dc_M_must_4 (by decide) (fun _ => ?_) (fun _ => ?_)
  · refine ze_aload_n X dc_M_must_45 rfl rfl ?_
    refine ze_geti X dc_M_must_46 zf_M_148 sh_75 rfl ?_
    refine ze_if_ge (tgt := 56) X dc_M_must_49 (by decide) (fun _ => ?_) (fun _ => ?_)
    · refine ze_iconst (x := 0) X dc_M_must_56 (by decide) ?_
      exact ze_iret X Y rfl dc_M_must_57
    · refine ze_iconst (x := 1) X dc_M_must_52 (by decide) ?_
      refine ze_goto (tgt := 57) X dc_M_must_53 (by decide) ?_
      exact ze_iret X Y rfl dc_M_must_57
  · refine ze_iload_n X dc_M_must_7 rfl rfl ?_
    refine ze_aload_n X dc_M_must_8 rfl rfl ?_
    refine ze_getr X dc_M_must_9 zf_M_13 sh_75 rfl ?_
    refine ze_iload_n X dc_M_must_12 rfl rfl ?_
    refine ze_iald X dc_M_must_13 sh_77 rfl (fun _ => ?_)
    refine ze_icmp_ge (tgt := 21) X dc_M_must_14 (by decide) (fun _ => ?_) (fun _ => ?_)
    · refine ze_weak [true, true, true, false] ?_
      exact w_M_must_J21 X Y    a1 a2  v
    · refine ze_iload_n X dc_M_must_17 rfl rfl ?_
      refine ze_if_ne (tgt := 45) X dc_M_must_18 (by decide) (fun _ => ?_) (fun _ => ?_)
      · refine ze_weak [true, true, true, false] ?_
        exact w_M_must_J21 X Y    a1 a2  v
      · refine ze_aload_n X dc_M_must_45 rfl rfl ?_
        refine ze_geti X dc_M_must_46 zf_M_148 sh_75 rfl ?_
        refine ze_if_ge (tgt := 56) X dc_M_must_49 (by decide) (fun _ => ?_) (fun _ => ?_)
        · refine ze_iconst (x := 0) X dc_M_must_56 (by decide) ?_
          exact ze_iret X Y rfl dc_M_must_57
        · refine ze_iconst (x := 1) X dc_M_must_52 (by decide) ?_
          refine ze_goto (tgt := 57) X dc_M_must_53 (by decide) ?_
          exact ze_iret X Y rfl dc_M_must_57
set_option maxHeartbeats 4000000 in
set_option maxRecDepth 100000 in
theorem c_M_must {l : Launch} {D : va_G} {ad : Nat → Nat} {ca : Nat → ClassId} (hD : va_D (ze_A ad) (ze_ws ze_sh ad ca (fun _ _ => 0)))     (a1 : Int32) (a2 : Int32) (a3 : Int32)  (v : ze_H) {r : Int32} {v1 : ze_H} (h : f_M_must  a1 a2 a3 v = some (r, v1)) : ze_Mi l D ad ca my_M_must bc_M_must 4 .boolean 0 0 [.inr 75, .inl a1, .inl a2, .inl a3] v r v1 := ze_Mi_of (plainFor_of_name (by decide)) hD (Nat.le_of_ble_eq_true rfl) (fun G e1 e2 e3 e4 X Y => w_M_must X Y    a1 a2 a3  v) h
def f_M_number_L26  (b1 : Int32) (b2 : Int32) (b3 : Int32) (b4 : Int32) (kk : Int32 → Int32 → ze_H → Option (Int32 × ze_H)) : Nat → Int32 → Int32 → ze_H → Option (Int32 × ze_H)
  | 0, _, _, _ => none
  | n + 1, l5, l6, v =>
    (if (b2 + 4) ≤ l6 then (kk l5 l6 v) else ze_in b1 4 ((if (v 77 (Int32.toNatClampNeg b1)) ≤ l6 then (kk l5 l6 v) else ze_call (f_M_look  b1 l6 v) (fun r9 v10 => ze_call (f_M_digit  r9 v10) (fun r11 v12 => (if r11 = 0 then (kk l5 l6 v12) else ze_call (f_M_look  b1 l6 v12) (fun r13 v14 => ze_let (((l5 * 10) + r13) - 48) (fun x15 => ze_let (l6 + 1) (fun x16 => (f_M_number_L26  b1 b2 b3 b4 kk n x15 x16 v14))))))))))
def f_M_number_J82  (b2 : Int32) (b3 : Int32) (b4 : Int32) (b5 : Int32) (b6 : Int32) (v : ze_H) : Option (Int32 × ze_H) :=
  (if b5 < b3 then ze_lev (ze_u v 75 6 b2) (fun v20 => some (b6, v20)) else (if b5 ≤ b4 then some (b6, v) else ze_lev (ze_u v 75 6 b2) (fun v21 => some (b6, v21))))
def f_M_number  (a1 : Int32) (a2 : Int32) (a3 : Int32) (a4 : Int32) (v : ze_H) : Option (Int32 × ze_H) :=
  ze_call (f_M_look  a1 a2 v) (fun r1 v2 => ze_call (f_M_digit  r1 v2) (fun r3 v4 => ze_call (f_M_must  a1 a2 r3 v4) (fun r5 v6 => (if r5 = 0 then some (a2, v6) else ze_let 0 (fun x7 => ze_let a2 (fun x8 => (f_M_number_L26  a1 a2 a3 a4 (fun x17 x18 v19 => (f_M_number_J82  a2 a3 a4 x17 x18 v19)) 200000 x7 x8 v6)))))))
set_option maxHeartbeats 4000000 in
set_option maxRecDepth 100000 in
theorem w_M_number_L26 {G : ze_G}  (X : ze_X G bc_M_number cn_M 7 1 23) (Y : ze_Ri G .int)    (b1 : Int32) (b2 : Int32) (b3 : Int32) (b4 : Int32)  {kk : Int32 → Int32 → ze_H → Option (Int32 × ze_H)} (hkk : ∀ (l5 : Int32) (l6 : Int32) (v : ze_H), ze_T G (kk l5 l6 v) v 82 [some (.inr 75), none, some (.inl b2), some (.inl b3), some (.inl b4), some (.inl l5), some (.inl l6)] []) : ∀ (n : Nat) (l5 : Int32) (l6 : Int32) (v : ze_H), ze_T G (f_M_number_L26  b1 b2 b3 b4 kk n l5 l6 v) v 26 [some (.inr 75), some (.inl b1), some (.inl b2), some (.inl b3), some (.inl b4), some (.inl l5), some (.inl l6)] [] := by
  intro n
  induction n with
  | zero => intro l5 l6 v; exact ze_none
  | succ n ih =>
    intro l5 l6 v
    refine ze_iload X dc_M_number_26 rfl ?_
    refine ze_iload_n X dc_M_number_28 rfl rfl ?_
    refine ze_iconst (x := 4) X dc_M_number_29 (by decide) ?_
    refine ze_iadd X dc_M_number_30 ?_
    refine ze_icmp_ge (tgt := 82) X dc_M_number_31 (by decide) (fun _ => ?_) (fun _ => ?_)
    · refine ze_weak [true, false, true, true, true, true, true] ?_
      exact hkk l5 l6 v
    · refine ze_iload X dc_M_number_34 rfl ?_
      refine ze_aload_n X dc_M_number_36 rfl rfl ?_
      refine ze_getr X dc_M_number_37 zf_M_13 sh_75 rfl ?_
      refine ze_iload_n X dc_M_number_40 rfl rfl ?_
      refine ze_iald X dc_M_number_41 sh_77 rfl (fun _ => ?_)
      refine ze_icmp_ge (tgt := 82) X dc_M_number_42 (by decide) (fun _ => ?_) (fun _ => ?_)
      · refine ze_weak [true, false, true, true, true, true, true] ?_
        exact hkk l5 l6 v
      · refine ze_aload_n X dc_M_number_45 rfl rfl ?_
        refine ze_iload_n X dc_M_number_46 rfl rfl ?_
        refine ze_iload X dc_M_number_47 rfl ?_
        refine ze_callVi (As := [.inl b1, .inl l6]) (st := []) X dc_M_number_49 zc_M_152 sh_75 (fun zr zv zh => c_M_look X.2.2.2.2.2.2.1  b1 l6  v zh) rfl (by decide) (by decide) (Nat.le_of_ble_eq_true rfl) (fun r9 v10 => ?_)
        refine ze_callSi (As := [.inl r9]) (st := []) X dc_M_number_52 zc_M_156 (fun zr zv zh => c_M_digit X.2.2.2.2.2.2.1  r9  v10 zh) rfl (by decide) (by decide) (Nat.le_of_ble_eq_true rfl) (fun r11 v12 => ?_)
        refine ze_if_eq (tgt := 82) X dc_M_number_55 (by decide) (fun _ => ?_) (fun _ => ?_)
        · refine ze_weak [true, false, true, true, true, true, true] ?_
          exact hkk l5 l6 v12
        · refine ze_iload X dc_M_number_58 rfl ?_
          refine ze_bipush (x := 10) X dc_M_number_60 (by decide) ?_
          refine ze_imul X dc_M_number_62 ?_
          refine ze_aload_n X dc_M_number_63 rfl rfl ?_
          refine ze_iload_n X dc_M_number_64 rfl rfl ?_
          refine ze_iload X dc_M_number_65 rfl ?_
          refine ze_callVi (As := [.inl b1, .inl l6]) (st := [.inl (l5 * 10)]) X dc_M_number_67 zc_M_152 sh_75 (fun zr zv zh => c_M_look X.2.2.2.2.2.2.1  b1 l6  v12 zh) rfl (by decide) (by decide) (Nat.le_of_ble_eq_true rfl) (fun r13 v14 => ?_)
          refine ze_iadd X dc_M_number_70 ?_
          refine ze_bipush (x := 48) X dc_M_number_71 (by decide) ?_
          refine ze_isub X dc_M_number_73 ?_
          refine ze_istore X dc_M_number_74 (by decide) (fun x15 => ?_)
          refine ze_iinc (y := 1) X dc_M_number_76 rfl (by decide) (by decide) (fun x16 => ?_)
          refine ze_goto (tgt := 26) X dc_M_number_79 (by decide) ?_
          refine ze_weak [true, true, true, true, true, true, true] ?_
          exact ih x15 x16 v14
set_option maxHeartbeats 4000000 in
set_option maxRecDepth 100000 in
theorem w_M_number_J82 {G : ze_G}  (X : ze_X G bc_M_number cn_M 7 1 23) (Y : ze_Ri G .int)    (b2 : Int32) (b3 : Int32) (b4 : Int32) (b5 : Int32) (b6 : Int32)  (v : ze_H) : ze_T G (f_M_number_J82  b2 b3 b4 b5 b6 v) v 82 [some (.inr 75), none, some (.inl b2), some (.inl b3), some (.inl b4), some (.inl b5), some (.inl b6)] [] := by
  refine ze_iload X dc_M_number_82 rfl ?_
  refine ze_iload_n X dc_M_number_84 rfl rfl ?_
  refine ze_icmp_lt (tgt := 95) X dc_M_number_85 (by decide) (fun _ => ?_) (fun _ => ?_)
  · refine ze_aload_n X dc_M_number_95 rfl rfl ?_
    refine ze_iload_n X dc_M_number_96 rfl rfl ?_
    refine ze_puti X dc_M_number_97 zp_M_148 sh_75 rfl (fun v20 => ?_)
    refine ze_iload X dc_M_number_100 rfl ?_
    exact ze_iret X Y (vp_nar_int _) dc_M_number_102
  · refine ze_iload X dc_M_number_88 rfl ?_
    refine ze_iload X dc_M_number_90 rfl ?_
    refine ze_icmp_le (tgt := 100) X dc_M_number_92 (by decide) (fun _ => ?_) (fun _ => ?_)
    · refine ze_iload X dc_M_number_100 rfl ?_
      exact ze_iret X Y (vp_nar_int _) dc_M_number_102
    · refine ze_aload_n X dc_M_number_95 rfl rfl ?_
      refine ze_iload_n X dc_M_number_96 rfl rfl ?_
      refine ze_puti X dc_M_number_97 zp_M_148 sh_75 rfl (fun v21 => ?_)
      refine ze_iload X dc_M_number_100 rfl ?_
      exact ze_iret X Y (vp_nar_int _) dc_M_number_102
set_option maxHeartbeats 4000000 in
set_option maxRecDepth 100000 in
theorem w_M_number {G : ze_G}  (X : ze_X G bc_M_number cn_M 7 1 23) (Y : ze_Ri G .int)    (a1 : Int32) (a2 : Int32) (a3 : Int32) (a4 : Int32)  (v : ze_H) : ze_T G (f_M_number  a1 a2 a3 a4 v) v 0 [some (.inr 75), some (.inl a1), some (.inl a2), some (.inl a3), some (.inl a4), none, none] [] := by
  refine ze_aload_n X dc_M_number_0 rfl rfl ?_
  refine ze_iload_n X dc_M_number_1 rfl rfl ?_
  refine ze_iload_n X dc_M_number_2 rfl rfl ?_
  refine ze_aload_n X dc_M_number_3 rfl rfl ?_
  refine ze_iload_n X dc_M_number_4 rfl rfl ?_
  refine ze_iload_n X dc_M_number_5 rfl rfl ?_
  refine ze_callVi (As := [.inl a1, .inl a2]) (st := [.inl a2, .inl a1, .inr 75]) X dc_M_number_6 zc_M_152 sh_75 (fun zr zv zh => c_M_look X.2.2.2.2.2.2.1  a1 a2  v zh) rfl (by decide) (by decide) (Nat.le_of_ble_eq_true rfl) (fun r1 v2 => ?_)
  refine ze_callSi (As := [.inl r1]) (st := [.inl a2, .inl a1, .inr 75]) X dc_M_number_9 zc_M_156 (fun zr zv zh => c_M_digit X.2.2.2.2.2.2.1  r1  v2 zh) rfl (by decide) (by decide) (Nat.le_of_ble_eq_true rfl) (fun r3 v4 => ?_)
  refine ze_callVi (As := [.inl a1, .inl a2, .inl r3]) (st := []) X dc_M_number_12 zc_M_160 sh_75 (fun zr zv zh => c_M_must X.2.2.2.2.2.2.1  a1 a2 r3  v4 zh) rfl (by decide) (by decide) (Nat.le_of_ble_eq_true rfl) (fun r5 v6 => ?_)
  refine ze_if_ne (tgt := 20) X dc_M_number_15 (by decide) (fun _ => ?_) (fun _ => ?_)
  · refine ze_iload_n X dc_M_number_18 rfl rfl ?_
    exact ze_iret X Y (vp_nar_int _) dc_M_number_19
  · refine ze_iconst (x := 0) X dc_M_number_20 (by decide) ?_
    refine ze_istore X dc_M_number_21 (by decide) (fun x7 => ?_)
    refine ze_iload_n X dc_M_number_23 rfl rfl ?_
    refine ze_istore X dc_M_number_24 (by decide) (fun x8 => ?_)
    refine ze_weak [true, true, true, true, true, true, true] ?_
    refine w_M_number_L26 X Y    a1 a2 a3 a4  (fun x17 x18 v19 => ?_) 200000 x7 x8 v6
    refine ze_weak [true, false, true, true, true, true, true] ?_
    exact w_M_number_J82 X Y    a2 a3 a4 x17 x18  v19
set_option maxHeartbeats 4000000 in
set_option maxRecDepth 100000 in
theorem c_M_number {l : Launch} {D : va_G} {ad : Nat → Nat} {ca : Nat → ClassId} (hD : va_D (ze_A ad) (ze_ws ze_sh ad ca (fun _ _ => 0)))     (a1 : Int32) (a2 : Int32) (a3 : Int32) (a4 : Int32)  (v : ze_H) {r : Int32} {v1 : ze_H} (h : f_M_number  a1 a2 a3 a4 v = some (r, v1)) : ze_Mi l D ad ca my_M_number bc_M_number 7 .int 1 23 [.inr 75, .inl a1, .inl a2, .inl a3, .inl a4] v r v1 := ze_Mi_of (plainFor_of_name (by decide)) hD (Nat.le_of_ble_eq_true rfl) (fun G e1 e2 e3 e4 X Y => w_M_number X Y    a1 a2 a3 a4  v) h
def f_M_test  (a1 : Int32) (a2 : Int32) (v : ze_H) : Option (Int32 × ze_H) :=
  ze_call (f_M_look  a1 a2 v) (fun r1 v2 => ze_let r1 (fun x3 => (if x3 = 98 then ze_call (f_M_must  a1 a2 1 v2) (fun r4 v5 => (if r4 = 0 then some (a2, v5) else ze_call (f_M_look  a1 (a2 + 1) v5) (fun r6 v7 => ze_let r6 (fun x8 => (if x8 = 60 then ze_call (f_M_must  a1 (a2 + 1) 1 v7) (fun r9 v10 => (if r9 = 0 then some (a2, v10) else (if x8 = 37 then ze_call (f_M_number  a1 (a2 + 2) 1 9999 v10) (fun r11 v12 => some (r11, v12)) else ze_call (f_M_number  a1 (a2 + 2) 0 9999 v10) (fun r13 v14 => some (r13, v14))))) else (if x8 = 62 then ze_call (f_M_must  a1 (a2 + 1) 1 v7) (fun r15 v16 => (if r15 = 0 then some (a2, v16) else (if x8 = 37 then ze_call (f_M_number  a1 (a2 + 2) 1 9999 v16) (fun r17 v18 => some (r17, v18)) else ze_call (f_M_number  a1 (a2 + 2) 0 9999 v16) (fun r19 v20 => some (r19, v20))))) else (if x8 = 61 then ze_call (f_M_must  a1 (a2 + 1) 1 v7) (fun r21 v22 => (if r21 = 0 then some (a2, v22) else (if x8 = 37 then ze_call (f_M_number  a1 (a2 + 2) 1 9999 v22) (fun r23 v24 => some (r23, v24)) else ze_call (f_M_number  a1 (a2 + 2) 0 9999 v22) (fun r25 v26 => some (r25, v26))))) else (if x8 = 37 then ze_call (f_M_must  a1 (a2 + 1) 1 v7) (fun r27 v28 => (if r27 = 0 then some (a2, v28) else (if x8 = 37 then ze_call (f_M_number  a1 (a2 + 2) 1 9999 v28) (fun r29 v30 => some (r29, v30)) else ze_call (f_M_number  a1 (a2 + 2) 0 9999 v28) (fun r31 v32 => some (r31, v32))))) else ze_call (f_M_must  a1 (a2 + 1) 0 v7) (fun r33 v34 => (if r33 = 0 then some (a2, v34) else (if x8 = 37 then ze_call (f_M_number  a1 (a2 + 2) 1 9999 v34) (fun r35 v36 => some (r35, v36)) else ze_call (f_M_number  a1 (a2 + 2) 0 9999 v34) (fun r37 v38 => some (r37, v38))))))))))))) else (if x3 = 107 then ze_call (f_M_must  a1 a2 1 v2) (fun r39 v40 => (if r39 = 0 then some (a2, v40) else ze_call (f_M_look  a1 (a2 + 1) v40) (fun r41 v42 => ze_let r41 (fun x43 => (if x43 = 60 then ze_call (f_M_must  a1 (a2 + 1) 1 v42) (fun r44 v45 => (if r44 = 0 then some (a2, v45) else (if x43 = 37 then ze_call (f_M_number  a1 (a2 + 2) 1 9999 v45) (fun r46 v47 => some (r46, v47)) else ze_call (f_M_number  a1 (a2 + 2) 0 9999 v45) (fun r48 v49 => some (r48, v49))))) else (if x43 = 62 then ze_call (f_M_must  a1 (a2 + 1) 1 v42) (fun r50 v51 => (if r50 = 0 then some (a2, v51) else (if x43 = 37 then ze_call (f_M_number  a1 (a2 + 2) 1 9999 v51) (fun r52 v53 => some (r52, v53)) else ze_call (f_M_number  a1 (a2 + 2) 0 9999 v51) (fun r54 v55 => some (r54, v55))))) else (if x43 = 61 then ze_call (f_M_must  a1 (a2 + 1) 1 v42) (fun r56 v57 => (if r56 = 0 then some (a2, v57) else (if x43 = 37 then ze_call (f_M_number  a1 (a2 + 2) 1 9999 v57) (fun r58 v59 => some (r58, v59)) else ze_call (f_M_number  a1 (a2 + 2) 0 9999 v57) (fun r60 v61 => some (r60, v61))))) else (if x43 = 37 then ze_call (f_M_must  a1 (a2 + 1) 1 v42) (fun r62 v63 => (if r62 = 0 then some (a2, v63) else (if x43 = 37 then ze_call (f_M_number  a1 (a2 + 2) 1 9999 v63) (fun r64 v65 => some (r64, v65)) else ze_call (f_M_number  a1 (a2 + 2) 0 9999 v63) (fun r66 v67 => some (r66, v67))))) else ze_call (f_M_must  a1 (a2 + 1) 0 v42) (fun r68 v69 => (if r68 = 0 then some (a2, v69) else (if x43 = 37 then ze_call (f_M_number  a1 (a2 + 2) 1 9999 v69) (fun r70 v71 => some (r70, v71)) else ze_call (f_M_number  a1 (a2 + 2) 0 9999 v69) (fun r72 v73 => some (r72, v73))))))))))))) else ze_call (f_M_must  a1 a2 0 v2) (fun r74 v75 => (if r74 = 0 then some (a2, v75) else ze_call (f_M_look  a1 (a2 + 1) v75) (fun r76 v77 => ze_let r76 (fun x78 => (if x78 = 60 then ze_call (f_M_must  a1 (a2 + 1) 1 v77) (fun r79 v80 => (if r79 = 0 then some (a2, v80) else (if x78 = 37 then ze_call (f_M_number  a1 (a2 + 2) 1 9999 v80) (fun r81 v82 => some (r81, v82)) else ze_call (f_M_number  a1 (a2 + 2) 0 9999 v80) (fun r83 v84 => some (r83, v84))))) else (if x78 = 62 then ze_call (f_M_must  a1 (a2 + 1) 1 v77) (fun r85 v86 => (if r85 = 0 then some (a2, v86) else (if x78 = 37 then ze_call (f_M_number  a1 (a2 + 2) 1 9999 v86) (fun r87 v88 => some (r87, v88)) else ze_call (f_M_number  a1 (a2 + 2) 0 9999 v86) (fun r89 v90 => some (r89, v90))))) else (if x78 = 61 then ze_call (f_M_must  a1 (a2 + 1) 1 v77) (fun r91 v92 => (if r91 = 0 then some (a2, v92) else (if x78 = 37 then ze_call (f_M_number  a1 (a2 + 2) 1 9999 v92) (fun r93 v94 => some (r93, v94)) else ze_call (f_M_number  a1 (a2 + 2) 0 9999 v92) (fun r95 v96 => some (r95, v96))))) else (if x78 = 37 then ze_call (f_M_must  a1 (a2 + 1) 1 v77) (fun r97 v98 => (if r97 = 0 then some (a2, v98) else (if x78 = 37 then ze_call (f_M_number  a1 (a2 + 2) 1 9999 v98) (fun r99 v100 => some (r99, v100)) else ze_call (f_M_number  a1 (a2 + 2) 0 9999 v98) (fun r101 v102 => some (r101, v102))))) else ze_call (f_M_must  a1 (a2 + 1) 0 v77) (fun r103 v104 => (if r103 = 0 then some (a2, v104) else (if x78 = 37 then ze_call (f_M_number  a1 (a2 + 2) 1 9999 v104) (fun r105 v106 => some (r105, v106)) else ze_call (f_M_number  a1 (a2 + 2) 0 9999 v104) (fun r107 v108 => some (r107, v108)))))))))))))))))
set_option maxHeartbeats 4000000 in
set_option maxRecDepth 100000 in
theorem w_M_test {G : ze_G}  (X : ze_X G bc_M_test cn_M 5 2 49) (Y : ze_Ri G .int)    (a1 : Int32) (a2 : Int32)  (v : ze_H) : ze_T G (f_M_test  a1 a2 v) v 0 [some (.inr 75), some (.inl a1), some (.inl a2), none, none] [] := by
  refine ze_aload_n X dc_M_test_0 rfl rfl ?_
  refine ze_iload_n X dc_M_test_1 rfl rfl ?_
  refine ze_iload_n X dc_M_test_2 rfl rfl ?_
  refine ze_callVi (As := [.inl a1, .inl a2]) (st := []) X dc_M_test_3 zc_M_152 sh_75 (fun zr zv zh => c_M_look X.2.2.2.2.2.2.1  a1 a2  v zh) rfl (by decide) (by decide) (Nat.le_of_ble_eq_true rfl) (fun r1 v2 => ?_)
  refine ze_istore_n X dc_M_test_6 rfl (by decide) (fun x3 => ?_)
  refine ze_aload_n X dc_M_test_7 rfl rfl ?_
  refine ze_iload_n X dc_M_test_8 rfl rfl ?_
  refine ze_iload_n X dc_M_test_9 rfl rfl ?_
  refine ze_iload_n X dc_M_test_10 rfl rfl ?_
  refine ze_bipush (x := 98) X dc_M_test_11 (by decide) ?_
  refine ze_icmp_eq (tgt := 22) X dc_M_test_13 (by decide) (fun _ => ?_) (fun _ => ?_)
  · refine ze_iconst (x := 1) X dc_M_test_22 (by decide) ?_
    refine ze_goto (tgt := 27) X dc_M_test_23 (by decide) ?_
    refine ze_callVi (As := [.inl a1, .inl a2, .inl 1]) (st := []) X dc_M_test_27 zc_M_160 sh_75 (fun zr zv zh => c_M_must X.2.2.2.2.2.2.1  a1 a2 1  v2 zh) rfl (by decide) (by decide) (Nat.le_of_ble_eq_true rfl) (fun r4 v5 => ?_)
    refine ze_if_ne (tgt := 35) X dc_M_test_30 (by decide) (fun _ => ?_) (fun _ => ?_)
    · refine ze_iload_n X dc_M_test_33 rfl rfl ?_
      exact ze_iret X Y (vp_nar_int _) dc_M_test_34
    · refine ze_aload_n X dc_M_test_35 rfl rfl ?_
      refine ze_iload_n X dc_M_test_36 rfl rfl ?_
      refine ze_iload_n X dc_M_test_37 rfl rfl ?_
      refine ze_iconst (x := 1) X dc_M_test_38 (by decide) ?_
      refine ze_iadd X dc_M_test_39 ?_
      refine ze_callVi (As := [.inl a1, .inl (a2 + 1)]) (st := []) X dc_M_test_40 zc_M_152 sh_75 (fun zr zv zh => c_M_look X.2.2.2.2.2.2.1  a1 (a2 + 1)  v5 zh) rfl (by decide) (by decide) (Nat.le_of_ble_eq_true rfl) (fun r6 v7 => ?_)
      refine ze_istore X dc_M_test_43 (by decide) (fun x8 => ?_)
      refine ze_aload_n X dc_M_test_45 rfl rfl ?_
      refine ze_iload_n X dc_M_test_46 rfl rfl ?_
      refine ze_iload_n X dc_M_test_47 rfl rfl ?_
      refine ze_iconst (x := 1) X dc_M_test_48 (by decide) ?_
      refine ze_iadd X dc_M_test_49 ?_
      refine ze_iload X dc_M_test_50 rfl ?_
      refine ze_bipush (x := 60) X dc_M_test_52 (by decide) ?_
      refine ze_icmp_eq (tgt := 78) X dc_M_test_54 (by decide) (fun _ => ?_) (fun _ => ?_)
      · refine ze_iconst (x := 1) X dc_M_test_78 (by decide) ?_
        refine ze_goto (tgt := 83) X dc_M_test_79 (by decide) ?_
        refine ze_callVi (As := [.inl a1, .inl (a2 + 1), .inl 1]) (st := []) X dc_M_test_83 zc_M_160 sh_75 (fun zr zv zh => c_M_must X.2.2.2.2.2.2.1  a1 (a2 + 1) 1  v7 zh) rfl (by decide) (by decide) (Nat.le_of_ble_eq_true rfl) (fun r9 v10 => ?_)
        refine ze_if_ne (tgt := 91) X dc_M_test_86 (by decide) (fun _ => ?_) (fun _ => ?_)
        · refine ze_iload_n X dc_M_test_89 rfl rfl ?_
          exact ze_iret X Y (vp_nar_int _) dc_M_test_90
        · refine ze_aload_n X dc_M_test_91 rfl rfl ?_
          refine ze_iload_n X dc_M_test_92 rfl rfl ?_
          refine ze_iload_n X dc_M_test_93 rfl rfl ?_
          refine ze_iconst (x := 2) X dc_M_test_94 (by decide) ?_
          refine ze_iadd X dc_M_test_95 ?_
          refine ze_iload X dc_M_test_96 rfl ?_
          refine ze_bipush (x := 37) X dc_M_test_98 (by decide) ?_
          refine ze_icmp_ne (tgt := 107) X dc_M_test_100 (by decide) (fun _ => ?_) (fun _ => ?_)
          · refine ze_iconst (x := 1) X dc_M_test_103 (by decide) ?_
            refine ze_goto (tgt := 108) X dc_M_test_104 (by decide) ?_
            refine ze_sipush (x := 9999) X dc_M_test_108 (by decide) ?_
            refine ze_callVi (As := [.inl a1, .inl (a2 + 2), .inl 1, .inl 9999]) (st := []) X dc_M_test_111 zc_M_164 sh_75 (fun zr zv zh => c_M_number X.2.2.2.2.2.2.1  a1 (a2 + 2) 1 9999  v10 zh) rfl (by decide) (by decide) (Nat.le_of_ble_eq_true rfl) (fun r11 v12 => ?_)
            exact ze_iret X Y (vp_nar_int _) dc_M_test_114
          · refine ze_iconst (x := 0) X dc_M_test_107 (by decide) ?_
            refine ze_sipush (x := 9999) X dc_M_test_108 (by decide) ?_
            refine ze_callVi (As := [.inl a1, .inl (a2 + 2), .inl 0, .inl 9999]) (st := []) X dc_M_test_111 zc_M_164 sh_75 (fun zr zv zh => c_M_number X.2.2.2.2.2.2.1  a1 (a2 + 2) 0 9999  v10 zh) rfl (by decide) (by decide) (Nat.le_of_ble_eq_true rfl) (fun r13 v14 => ?_)
            exact ze_iret X Y (vp_nar_int _) dc_M_test_114
      · refine ze_iload X dc_M_test_57 rfl ?_
        refine ze_bipush (x := 62) X dc_M_test_59 (by decide) ?_
        refine ze_icmp_eq (tgt := 78) X dc_M_test_61 (by decide) (fun _ => ?_) (fun _ => ?_)
        · refine ze_iconst (x := 1) X dc_M_test_78 (by decide) ?_
          refine ze_goto (tgt := 83) X dc_M_test_79 (by decide) ?_
          refine ze_callVi (As := [.inl a1, .inl (a2 + 1), .inl 1]) (st := []) X dc_M_test_83 zc_M_160 sh_75 (fun zr zv zh => c_M_must X.2.2.2.2.2.2.1  a1 (a2 + 1) 1  v7 zh) rfl (by decide) (by decide) (Nat.le_of_ble_eq_true rfl) (fun r15 v16 => ?_)
          refine ze_if_ne (tgt := 91) X dc_M_test_86 (by decide) (fun _ => ?_) (fun _ => ?_)
          · refine ze_iload_n X dc_M_test_89 rfl rfl ?_
            exact ze_iret X Y (vp_nar_int _) dc_M_test_90
          · refine ze_aload_n X dc_M_test_91 rfl rfl ?_
            refine ze_iload_n X dc_M_test_92 rfl rfl ?_
            refine ze_iload_n X dc_M_test_93 rfl rfl ?_
            refine ze_iconst (x := 2) X dc_M_test_94 (by decide) ?_
            refine ze_iadd X dc_M_test_95 ?_
            refine ze_iload X dc_M_test_96 rfl ?_
            refine ze_bipush (x := 37) X dc_M_test_98 (by decide) ?_
            refine ze_icmp_ne (tgt := 107) X dc_M_test_100 (by decide) (fun _ => ?_) (fun _ => ?_)
            · refine ze_iconst (x := 1) X dc_M_test_103 (by decide) ?_
              refine ze_goto (tgt := 108) X dc_M_test_104 (by decide) ?_
              refine ze_sipush (x := 9999) X dc_M_test_108 (by decide) ?_
              refine ze_callVi (As := [.inl a1, .inl (a2 + 2), .inl 1, .inl 9999]) (st := []) X dc_M_test_111 zc_M_164 sh_75 (fun zr zv zh => c_M_number X.2.2.2.2.2.2.1  a1 (a2 + 2) 1 9999  v16 zh) rfl (by decide) (by decide) (Nat.le_of_ble_eq_true rfl) (fun r17 v18 => ?_)
              exact ze_iret X Y (vp_nar_int _) dc_M_test_114
            · refine ze_iconst (x := 0) X dc_M_test_107 (by decide) ?_
              refine ze_sipush (x := 9999) X dc_M_test_108 (by decide) ?_
              refine ze_callVi (As := [.inl a1, .inl (a2 + 2), .inl 0, .inl 9999]) (st := []) X dc_M_test_111 zc_M_164 sh_75 (fun zr zv zh => c_M_number X.2.2.2.2.2.2.1  a1 (a2 + 2) 0 9999  v16 zh) rfl (by decide) (by decide) (Nat.le_of_ble_eq_true rfl) (fun r19 v20 => ?_)
              exact ze_iret X Y (vp_nar_int _) dc_M_test_114
        · refine ze_iload X dc_M_test_64 rfl ?_
          refine ze_bipush (x := 61) X dc_M_test_66 (by decide) ?_
          refine ze_icmp_eq (tgt := 78) X dc_M_test_68 (by decide) (fun _ => ?_) (fun _ => ?_)
          · refine ze_iconst (x := 1) X dc_M_test_78 (by decide) ?_
            refine ze_goto (tgt := 83) X dc_M_test_79 (by decide) ?_
            refine ze_callVi (As := [.inl a1, .inl (a2 + 1), .inl 1]) (st := []) X dc_M_test_83 zc_M_160 sh_75 (fun zr zv zh => c_M_must X.2.2.2.2.2.2.1  a1 (a2 + 1) 1  v7 zh) rfl (by decide) (by decide) (Nat.le_of_ble_eq_true rfl) (fun r21 v22 => ?_)
            refine ze_if_ne (tgt := 91) X dc_M_test_86 (by decide) (fun _ => ?_) (fun _ => ?_)
            · refine ze_iload_n X dc_M_test_89 rfl rfl ?_
              exact ze_iret X Y (vp_nar_int _) dc_M_test_90
            · refine ze_aload_n X dc_M_test_91 rfl rfl ?_
              refine ze_iload_n X dc_M_test_92 rfl rfl ?_
              refine ze_iload_n X dc_M_test_93 rfl rfl ?_
              refine ze_iconst (x := 2) X dc_M_test_94 (by decide) ?_
              refine ze_iadd X dc_M_test_95 ?_
              refine ze_iload X dc_M_test_96 rfl ?_
              refine ze_bipush (x := 37) X dc_M_test_98 (by decide) ?_
              refine ze_icmp_ne (tgt := 107) X dc_M_test_100 (by decide) (fun _ => ?_) (fun _ => ?_)
              · refine ze_iconst (x := 1) X dc_M_test_103 (by decide) ?_
                refine ze_goto (tgt := 108) X dc_M_test_104 (by decide) ?_
                refine ze_sipush (x := 9999) X dc_M_test_108 (by decide) ?_
                refine ze_callVi (As := [.inl a1, .inl (a2 + 2), .inl 1, .inl 9999]) (st := []) X dc_M_test_111 zc_M_164 sh_75 (fun zr zv zh => c_M_number X.2.2.2.2.2.2.1  a1 (a2 + 2) 1 9999  v22 zh) rfl (by decide) (by decide) (Nat.le_of_ble_eq_true rfl) (fun r23 v24 => ?_)
                exact ze_iret X Y (vp_nar_int _) dc_M_test_114
              · refine ze_iconst (x := 0) X dc_M_test_107 (by decide) ?_
                refine ze_sipush (x := 9999) X dc_M_test_108 (by decide) ?_
                refine ze_callVi (As := [.inl a1, .inl (a2 + 2), .inl 0, .inl 9999]) (st := []) X dc_M_test_111 zc_M_164 sh_75 (fun zr zv zh => c_M_number X.2.2.2.2.2.2.1  a1 (a2 + 2) 0 9999  v22 zh) rfl (by decide) (by decide) (Nat.le_of_ble_eq_true rfl) (fun r25 v26 => ?_)
                exact ze_iret X Y (vp_nar_int _) dc_M_test_114
          · refine ze_iload X dc_M_test_71 rfl ?_
            refine ze_bipush (x := 37) X dc_M_test_73 (by decide) ?_
            refine ze_icmp_ne (tgt := 82) X dc_M_test_75 (by decide) (fun _ => ?_) (fun _ => ?_)
            · refine ze_iconst (x := 1) X dc_M_test_78 (by decide) ?_
              refine ze_goto (tgt := 83) X dc_M_test_79 (by decide) ?_
              refine ze_callVi (As := [.inl a1, .inl (a2 + 1), .inl 1]) (st := []) X dc_M_test_83 zc_M_160 sh_75 (fun zr zv zh => c_M_must X.2.2.2.2.2.2.1  a1 (a2 + 1) 1  v7 zh) rfl (by decide) (by decide) (Nat.le_of_ble_eq_true rfl) (fun r27 v28 => ?_)
              refine ze_if_ne (tgt := 91) X dc_M_test_86 (by decide) (fun _ => ?_) (fun _ => ?_)
              · refine ze_iload_n X dc_M_test_89 rfl rfl ?_
                exact ze_iret X Y (vp_nar_int _) dc_M_test_90
              · refine ze_aload_n X dc_M_test_91 rfl rfl ?_
                refine ze_iload_n X dc_M_test_92 rfl rfl ?_
                refine ze_iload_n X dc_M_test_93 rfl rfl ?_
                refine ze_iconst (x := 2) X dc_M_test_94 (by decide) ?_
                refine ze_iadd X dc_M_test_95 ?_
                refine ze_iload X dc_M_test_96 rfl ?_
                refine ze_bipush (x := 37) X dc_M_test_98 (by decide) ?_
                refine ze_icmp_ne (tgt := 107) X dc_M_test_100 (by decide) (fun _ => ?_) (fun _ => ?_)
                · refine ze_iconst (x := 1) X dc_M_test_103 (by decide) ?_
                  refine ze_goto (tgt := 108) X dc_M_test_104 (by decide) ?_
                  refine ze_sipush (x := 9999) X dc_M_test_108 (by decide) ?_
                  refine ze_callVi (As := [.inl a1, .inl (a2 + 2), .inl 1, .inl 9999]) (st := []) X dc_M_test_111 zc_M_164 sh_75 (fun zr zv zh => c_M_number X.2.2.2.2.2.2.1  a1 (a2 + 2) 1 9999  v28 zh) rfl (by decide) (by decide) (Nat.le_of_ble_eq_true rfl) (fun r29 v30 => ?_)
                  exact ze_iret X Y (vp_nar_int _) dc_M_test_114
                · refine ze_iconst (x := 0) X dc_M_test_107 (by decide) ?_
                  refine ze_sipush (x := 9999) X dc_M_test_108 (by decide) ?_
                  refine ze_callVi (As := [.inl a1, .inl (a2 + 2), .inl 0, .inl 9999]) (st := []) X dc_M_test_111 zc_M_164 sh_75 (fun zr zv zh => c_M_number X.2.2.2.2.2.2.1  a1 (a2 + 2) 0 9999  v28 zh) rfl (by decide) (by decide) (Nat.le_of_ble_eq_true rfl) (fun r31 v32 => ?_)
                  exact ze_iret X Y (vp_nar_int _) dc_M_test_114
            · refine ze_iconst (x := 0) X dc_M_test_82 (by decide) ?_
              refine ze_callVi (As := [.inl a1, .inl (a2 + 1), .inl 0]) (st := []) X dc_M_test_83 zc_M_160 sh_75 (fun zr zv zh => c_M_must X.2.2.2.2.2.2.1  a1 (a2 + 1) 0  v7 zh) rfl (by decide) (by decide) (Nat.le_of_ble_eq_true rfl) (fun r33 v34 => ?_)
              refine ze_if_ne (tgt := 91) X dc_M_test_86 (by decide) (fun _ => ?_) (fun _ => ?_)
              · refine ze_iload_n X dc_M_test_89 rfl rfl ?_
                exact ze_iret X Y (vp_nar_int _) dc_M_test_90
              · refine ze_aload_n X dc_M_test_91 rfl rfl ?_
                refine ze_iload_n X dc_M_test_92 rfl rfl ?_
                refine ze_iload_n X dc_M_test_93 rfl rfl ?_
                refine ze_iconst (x := 2) X dc_M_test_94 (by decide) ?_
                refine ze_iadd X dc_M_test_95 ?_
                refine ze_iload X dc_M_test_96 rfl ?_
                refine ze_bipush (x := 37) X dc_M_test_98 (by decide) ?_
                refine ze_icmp_ne (tgt := 107) X dc_M_test_100 (by decide) (fun _ => ?_) (fun _ => ?_)
                · refine ze_iconst (x := 1) X dc_M_test_103 (by decide) ?_
                  refine ze_goto (tgt := 108) X dc_M_test_104 (by decide) ?_
                  refine ze_sipush (x := 9999) X dc_M_test_108 (by decide) ?_
                  refine ze_callVi (As := [.inl a1, .inl (a2 + 2), .inl 1, .inl 9999]) (st := []) X dc_M_test_111 zc_M_164 sh_75 (fun zr zv zh => c_M_number X.2.2.2.2.2.2.1  a1 (a2 + 2) 1 9999  v34 zh) rfl (by decide) (by decide) (Nat.le_of_ble_eq_true rfl) (fun r35 v36 => ?_)
                  exact ze_iret X Y (vp_nar_int _) dc_M_test_114
                · refine ze_iconst (x := 0) X dc_M_test_107 (by decide) ?_
                  refine ze_sipush (x := 9999) X dc_M_test_108 (by decide) ?_
                  refine ze_callVi (As := [.inl a1, .inl (a2 + 2), .inl 0, .inl 9999]) (st := []) X dc_M_test_111 zc_M_164 sh_75 (fun zr zv zh => c_M_number X.2.2.2.2.2.2.1  a1 (a2 + 2) 0 9999  v34 zh) rfl (by decide) (by decide) (Nat.le_of_ble_eq_true rfl) (fun r37 v38 => ?_)
                  exact ze_iret X Y (vp_nar_int _) dc_M_test_114
  · refine ze_iload_n X dc_M_test_16 rfl rfl ?_
    refine ze_bipush (x := 107) X dc_M_test_17 (by decide) ?_
    refine ze_icmp_ne (tgt := 26) X dc_M_test_19 (by decide) (fun _ => ?_) (fun _ => ?_)
    · refine ze_iconst (x := 1) X dc_M_test_22 (by decide) ?_
      refine ze_goto (tgt := 27) X dc_M_test_23 (by decide) ?_
      refine ze_callVi (As := [.inl a1, .inl a2, .inl 1]) (st := []) X dc_M_test_27 zc_M_160 sh_75 (fun zr zv zh => c_M_must X.2.2.2.2.2.2.1  a1 a2 1  v2 zh) rfl (by decide) (by decide) (Nat.le_of_ble_eq_true rfl) (fun r39 v40 => ?_)
      refine ze_if_ne (tgt := 35) X dc_M_test_30 (by decide) (fun _ => ?_) (fun _ => ?_)
      · refine ze_iload_n X dc_M_test_33 rfl rfl ?_
        exact ze_iret X Y (vp_nar_int _) dc_M_test_34
      · refine ze_aload_n X dc_M_test_35 rfl rfl ?_
        refine ze_iload_n X dc_M_test_36 rfl rfl ?_
        refine ze_iload_n X dc_M_test_37 rfl rfl ?_
        refine ze_iconst (x := 1) X dc_M_test_38 (by decide) ?_
        refine ze_iadd X dc_M_test_39 ?_
        refine ze_callVi (As := [.inl a1, .inl (a2 + 1)]) (st := []) X dc_M_test_40 zc_M_152 sh_75 (fun zr zv zh => c_M_look X.2.2.2.2.2.2.1  a1 (a2 + 1)  v40 zh) rfl (by decide) (by decide) (Nat.le_of_ble_eq_true rfl) (fun r41 v42 => ?_)
        refine ze_istore X dc_M_test_43 (by decide) (fun x43 => ?_)
        refine ze_aload_n X dc_M_test_45 rfl rfl ?_
        refine ze_iload_n X dc_M_test_46 rfl rfl ?_
        refine ze_iload_n X dc_M_test_47 rfl rfl ?_
        refine ze_iconst (x := 1) X dc_M_test_48 (by decide) ?_
        refine ze_iadd X dc_M_test_49 ?_
        refine ze_iload X dc_M_test_50 rfl ?_
        refine ze_bipush (x := 60) X dc_M_test_52 (by decide) ?_
        refine ze_icmp_eq (tgt := 78) X dc_M_test_54 (by decide) (fun _ => ?_) (fun _ => ?_)
        · refine ze_iconst (x := 1) X dc_M_test_78 (by decide) ?_
          refine ze_goto (tgt := 83) X dc_M_test_79 (by decide) ?_
          refine ze_callVi (As := [.inl a1, .inl (a2 + 1), .inl 1]) (st := []) X dc_M_test_83 zc_M_160 sh_75 (fun zr zv zh => c_M_must X.2.2.2.2.2.2.1  a1 (a2 + 1) 1  v42 zh) rfl (by decide) (by decide) (Nat.le_of_ble_eq_true rfl) (fun r44 v45 => ?_)
          refine ze_if_ne (tgt := 91) X dc_M_test_86 (by decide) (fun _ => ?_) (fun _ => ?_)
          · refine ze_iload_n X dc_M_test_89 rfl rfl ?_
            exact ze_iret X Y (vp_nar_int _) dc_M_test_90
          · refine ze_aload_n X dc_M_test_91 rfl rfl ?_
            refine ze_iload_n X dc_M_test_92 rfl rfl ?_
            refine ze_iload_n X dc_M_test_93 rfl rfl ?_
            refine ze_iconst (x := 2) X dc_M_test_94 (by decide) ?_
            refine ze_iadd X dc_M_test_95 ?_
            refine ze_iload X dc_M_test_96 rfl ?_
            refine ze_bipush (x := 37) X dc_M_test_98 (by decide) ?_
            refine ze_icmp_ne (tgt := 107) X dc_M_test_100 (by decide) (fun _ => ?_) (fun _ => ?_)
            · refine ze_iconst (x := 1) X dc_M_test_103 (by decide) ?_
              refine ze_goto (tgt := 108) X dc_M_test_104 (by decide) ?_
              refine ze_sipush (x := 9999) X dc_M_test_108 (by decide) ?_
              refine ze_callVi (As := [.inl a1, .inl (a2 + 2), .inl 1, .inl 9999]) (st := []) X dc_M_test_111 zc_M_164 sh_75 (fun zr zv zh => c_M_number X.2.2.2.2.2.2.1  a1 (a2 + 2) 1 9999  v45 zh) rfl (by decide) (by decide) (Nat.le_of_ble_eq_true rfl) (fun r46 v47 => ?_)
              exact ze_iret X Y (vp_nar_int _) dc_M_test_114
            · refine ze_iconst (x := 0) X dc_M_test_107 (by decide) ?_
              refine ze_sipush (x := 9999) X dc_M_test_108 (by decide) ?_
              refine ze_callVi (As := [.inl a1, .inl (a2 + 2), .inl 0, .inl 9999]) (st := []) X dc_M_test_111 zc_M_164 sh_75 (fun zr zv zh => c_M_number X.2.2.2.2.2.2.1  a1 (a2 + 2) 0 9999  v45 zh) rfl (by decide) (by decide) (Nat.le_of_ble_eq_true rfl) (fun r48 v49 => ?_)
              exact ze_iret X Y (vp_nar_int _) dc_M_test_114
        · refine ze_iload X dc_M_test_57 rfl ?_
          refine ze_bipush (x := 62) X dc_M_test_59 (by decide) ?_
          refine ze_icmp_eq (tgt := 78) X dc_M_test_61 (by decide) (fun _ => ?_) (fun _ => ?_)
          · refine ze_iconst (x := 1) X dc_M_test_78 (by decide) ?_
            refine ze_goto (tgt := 83) X dc_M_test_79 (by decide) ?_
            refine ze_callVi (As := [.inl a1, .inl (a2 + 1), .inl 1]) (st := []) X dc_M_test_83 zc_M_160 sh_75 (fun zr zv zh => c_M_must X.2.2.2.2.2.2.1  a1 (a2 + 1) 1  v42 zh) rfl (by decide) (by decide) (Nat.le_of_ble_eq_true rfl) (fun r50 v51 => ?_)
            refine ze_if_ne (tgt := 91) X dc_M_test_86 (by decide) (fun _ => ?_) (fun _ => ?_)
            · refine ze_iload_n X dc_M_test_89 rfl rfl ?_
              exact ze_iret X Y (vp_nar_int _) dc_M_test_90
            · refine ze_aload_n X dc_M_test_91 rfl rfl ?_
              refine ze_iload_n X dc_M_test_92 rfl rfl ?_
              refine ze_iload_n X dc_M_test_93 rfl rfl ?_
              refine ze_iconst (x := 2) X dc_M_test_94 (by decide) ?_
              refine ze_iadd X dc_M_test_95 ?_
              refine ze_iload X dc_M_test_96 rfl ?_
              refine ze_bipush (x := 37) X dc_M_test_98 (by decide) ?_
              refine ze_icmp_ne (tgt := 107) X dc_M_test_100 (by decide) (fun _ => ?_) (fun _ => ?_)
              · refine ze_iconst (x := 1) X dc_M_test_103 (by decide) ?_
                refine ze_goto (tgt := 108) X dc_M_test_104 (by decide) ?_
                refine ze_sipush (x := 9999) X dc_M_test_108 (by decide) ?_
                refine ze_callVi (As := [.inl a1, .inl (a2 + 2), .inl 1, .inl 9999]) (st := []) X dc_M_test_111 zc_M_164 sh_75 (fun zr zv zh => c_M_number X.2.2.2.2.2.2.1  a1 (a2 + 2) 1 9999  v51 zh) rfl (by decide) (by decide) (Nat.le_of_ble_eq_true rfl) (fun r52 v53 => ?_)
                exact ze_iret X Y (vp_nar_int _) dc_M_test_114
              · refine ze_iconst (x := 0) X dc_M_test_107 (by decide) ?_
                refine ze_sipush (x := 9999) X dc_M_test_108 (by decide) ?_
                refine ze_callVi (As := [.inl a1, .inl (a2 + 2), .inl 0, .inl 9999]) (st := []) X dc_M_test_111 zc_M_164 sh_75 (fun zr zv zh => c_M_number X.2.2.2.2.2.2.1  a1 (a2 + 2) 0 9999  v51 zh) rfl (by decide) (by decide) (Nat.le_of_ble_eq_true rfl) (fun r54 v55 => ?_)
                exact ze_iret X Y (vp_nar_int _) dc_M_test_114
          · refine ze_iload X dc_M_test_64 rfl ?_
            refine ze_bipush (x := 61) X dc_M_test_66 (by decide) ?_
            refine ze_icmp_eq (tgt := 78) X dc_M_test_68 (by decide) (fun _ => ?_) (fun _ => ?_)
            · refine ze_iconst (x := 1) X dc_M_test_78 (by decide) ?_
              refine ze_goto (tgt := 83) X dc_M_test_79 (by decide) ?_
              refine ze_callVi (As := [.inl a1, .inl (a2 + 1), .inl 1]) (st := []) X dc_M_test_83 zc_M_160 sh_75 (fun zr zv zh => c_M_must X.2.2.2.2.2.2.1  a1 (a2 + 1) 1  v42 zh) rfl (by decide) (by decide) (Nat.le_of_ble_eq_true rfl) (fun r56 v57 => ?_)
              refine ze_if_ne (tgt := 91) X dc_M_test_86 (by decide) (fun _ => ?_) (fun _ => ?_)
              · refine ze_iload_n X dc_M_test_89 rfl rfl ?_
                exact ze_iret X Y (vp_nar_int _) dc_M_test_90
              · refine ze_aload_n X dc_M_test_91 rfl rfl ?_
                refine ze_iload_n X dc_M_test_92 rfl rfl ?_
                refine ze_iload_n X dc_M_test_93 rfl rfl ?_
                refine ze_iconst (x := 2) X dc_M_test_94 (by decide) ?_
                refine ze_iadd X dc_M_test_95 ?_
                refine ze_iload X dc_M_test_96 rfl ?_
                refine ze_bipush (x := 37) X dc_M_test_98 (by decide) ?_
                refine ze_icmp_ne (tgt := 107) X dc_M_test_100 (by decide) (fun _ => ?_) (fun _ => ?_)
                · refine ze_iconst (x := 1) X dc_M_test_103 (by decide) ?_
                  refine ze_goto (tgt := 108) X dc_M_test_104 (by decide) ?_
                  refine ze_sipush (x := 9999) X dc_M_test_108 (by decide) ?_
                  refine ze_callVi (As := [.inl a1, .inl (a2 + 2), .inl 1, .inl 9999]) (st := []) X dc_M_test_111 zc_M_164 sh_75 (fun zr zv zh => c_M_number X.2.2.2.2.2.2.1  a1 (a2 + 2) 1 9999  v57 zh) rfl (by decide) (by decide) (Nat.le_of_ble_eq_true rfl) (fun r58 v59 => ?_)
                  exact ze_iret X Y (vp_nar_int _) dc_M_test_114
                · refine ze_iconst (x := 0) X dc_M_test_107 (by decide) ?_
                  refine ze_sipush (x := 9999) X dc_M_test_108 (by decide) ?_
                  refine ze_callVi (As := [.inl a1, .inl (a2 + 2), .inl 0, .inl 9999]) (st := []) X dc_M_test_111 zc_M_164 sh_75 (fun zr zv zh => c_M_number X.2.2.2.2.2.2.1  a1 (a2 + 2) 0 9999  v57 zh) rfl (by decide) (by decide) (Nat.le_of_ble_eq_true rfl) (fun r60 v61 => ?_)
                  exact ze_iret X Y (vp_nar_int _) dc_M_test_114
            · refine ze_iload X dc_M_test_71 rfl ?_
              refine ze_bipush (x := 37) X dc_M_test_73 (by decide) ?_
              refine ze_icmp_ne (tgt := 82) X dc_M_test_75 (by decide) (fun _ => ?_) (fun _ => ?_)
              · refine ze_iconst (x := 1) X dc_M_test_78 (by decide) ?_
                refine ze_goto (tgt := 83) X dc_M_test_79 (by decide) ?_
                refine ze_callVi (As := [.inl a1, .inl (a2 + 1), .inl 1]) (st := []) X dc_M_test_83 zc_M_160 sh_75 (fun zr zv zh => c_M_must X.2.2.2.2.2.2.1  a1 (a2 + 1) 1  v42 zh) rfl (by decide) (by decide) (Nat.le_of_ble_eq_true rfl) (fun r62 v63 => ?_)
                refine ze_if_ne (tgt := 91) X dc_M_test_86 (by decide) (fun _ => ?_) (fun _ => ?_)
                · refine ze_iload_n X dc_M_test_89 rfl rfl ?_
                  exact ze_iret X Y (vp_nar_int _) dc_M_test_90
                · refine ze_aload_n X dc_M_test_91 rfl rfl ?_
                  refine ze_iload_n X dc_M_test_92 rfl rfl ?_
                  refine ze_iload_n X dc_M_test_93 rfl rfl ?_
                  refine ze_iconst (x := 2) X dc_M_test_94 (by decide) ?_
                  refine ze_iadd X dc_M_test_95 ?_
                  refine ze_iload X dc_M_test_96 rfl ?_
                  refine ze_bipush (x := 37) X dc_M_test_98 (by decide) ?_
                  refine ze_icmp_ne (tgt := 107) X dc_M_test_100 (by decide) (fun _ => ?_) (fun _ => ?_)
                  · refine ze_iconst (x := 1) X dc_M_test_103 (by decide) ?_
                    refine ze_goto (tgt := 108) X dc_M_test_104 (by decide) ?_
                    refine ze_sipush (x := 9999) X dc_M_test_108 (by decide) ?_
                    refine ze_callVi (As := [.inl a1, .inl (a2 + 2), .inl 1, .inl 9999]) (st := []) X dc_M_test_111 zc_M_164 sh_75 (fun zr zv zh => c_M_number X.2.2.2.2.2.2.1  a1 (a2 + 2) 1 9999  v63 zh) rfl (by decide) (by decide) (Nat.le_of_ble_eq_true rfl) (fun r64 v65 => ?_)
                    exact ze_iret X Y (vp_nar_int _) dc_M_test_114
                  · refine ze_iconst (x := 0) X dc_M_test_107 (by decide) ?_
                    refine ze_sipush (x := 9999) X dc_M_test_108 (by decide) ?_
                    refine ze_callVi (As := [.inl a1, .inl (a2 + 2), .inl 0, .inl 9999]) (st := []) X dc_M_test_111 zc_M_164 sh_75 (fun zr zv zh => c_M_number X.2.2.2.2.2.2.1  a1 (a2 + 2) 0 9999  v63 zh) rfl (by decide) (by decide) (Nat.le_of_ble_eq_true rfl) (fun r66 v67 => ?_)
                    exact ze_iret X Y (vp_nar_int _) dc_M_test_114
              · refine ze_iconst (x := 0) X dc_M_test_82 (by decide) ?_
                refine ze_callVi (As := [.inl a1, .inl (a2 + 1), .inl 0]) (st := []) X dc_M_test_83 zc_M_160 sh_75 (fun zr zv zh => c_M_must X.2.2.2.2.2.2.1  a1 (a2 + 1) 0  v42 zh) rfl (by decide) (by decide) (Nat.le_of_ble_eq_true rfl) (fun r68 v69 => ?_)
                refine ze_if_ne (tgt := 91) X dc_M_test_86 (by decide) (fun _ => ?_) (fun _ => ?_)
                · refine ze_iload_n X dc_M_test_89 rfl rfl ?_
                  exact ze_iret X Y (vp_nar_int _) dc_M_test_90
                · refine ze_aload_n X dc_M_test_91 rfl rfl ?_
                  refine ze_iload_n X dc_M_test_92 rfl rfl ?_
                  refine ze_iload_n X dc_M_test_93 rfl rfl ?_
                  refine ze_iconst (x := 2) X dc_M_test_94 (by decide) ?_
                  refine ze_iadd X dc_M_test_95 ?_
                  refine ze_iload X dc_M_test_96 rfl ?_
                  refine ze_bipush (x := 37) X dc_M_test_98 (by decide) ?_
                  refine ze_icmp_ne (tgt := 107) X dc_M_test_100 (by decide) (fun _ => ?_) (fun _ => ?_)
                  · refine ze_iconst (x := 1) X dc_M_test_103 (by decide) ?_
                    refine ze_goto (tgt := 108) X dc_M_test_104 (by decide) ?_
                    refine ze_sipush (x := 9999) X dc_M_test_108 (by decide) ?_
                    refine ze_callVi (As := [.inl a1, .inl (a2 + 2), .inl 1, .inl 9999]) (st := []) X dc_M_test_111 zc_M_164 sh_75 (fun zr zv zh => c_M_number X.2.2.2.2.2.2.1  a1 (a2 + 2) 1 9999  v69 zh) rfl (by decide) (by decide) (Nat.le_of_ble_eq_true rfl) (fun r70 v71 => ?_)
                    exact ze_iret X Y (vp_nar_int _) dc_M_test_114
                  · refine ze_iconst (x := 0) X dc_M_test_107 (by decide) ?_
                    refine ze_sipush (x := 9999) X dc_M_test_108 (by decide) ?_
                    refine ze_callVi (As := [.inl a1, .inl (a2 + 2), .inl 0, .inl 9999]) (st := []) X dc_M_test_111 zc_M_164 sh_75 (fun zr zv zh => c_M_number X.2.2.2.2.2.2.1  a1 (a2 + 2) 0 9999  v69 zh) rfl (by decide) (by decide) (Nat.le_of_ble_eq_true rfl) (fun r72 v73 => ?_)
                    exact ze_iret X Y (vp_nar_int _) dc_M_test_114
    · refine ze_iconst (x := 0) X dc_M_test_26 (by decide) ?_
      refine ze_callVi (As := [.inl a1, .inl a2, .inl 0]) (st := []) X dc_M_test_27 zc_M_160 sh_75 (fun zr zv zh => c_M_must X.2.2.2.2.2.2.1  a1 a2 0  v2 zh) rfl (by decide) (by decide) (Nat.le_of_ble_eq_true rfl) (fun r74 v75 => ?_)
      refine ze_if_ne (tgt := 35) X dc_M_test_30 (by decide) (fun _ => ?_) (fun _ => ?_)
      · refine ze_iload_n X dc_M_test_33 rfl rfl ?_
        exact ze_iret X Y (vp_nar_int _) dc_M_test_34
      · refine ze_aload_n X dc_M_test_35 rfl rfl ?_
        refine ze_iload_n X dc_M_test_36 rfl rfl ?_
        refine ze_iload_n X dc_M_test_37 rfl rfl ?_
        refine ze_iconst (x := 1) X dc_M_test_38 (by decide) ?_
        refine ze_iadd X dc_M_test_39 ?_
        refine ze_callVi (As := [.inl a1, .inl (a2 + 1)]) (st := []) X dc_M_test_40 zc_M_152 sh_75 (fun zr zv zh => c_M_look X.2.2.2.2.2.2.1  a1 (a2 + 1)  v75 zh) rfl (by decide) (by decide) (Nat.le_of_ble_eq_true rfl) (fun r76 v77 => ?_)
        refine ze_istore X dc_M_test_43 (by decide) (fun x78 => ?_)
        refine ze_aload_n X dc_M_test_45 rfl rfl ?_
        refine ze_iload_n X dc_M_test_46 rfl rfl ?_
        refine ze_iload_n X dc_M_test_47 rfl rfl ?_
        refine ze_iconst (x := 1) X dc_M_test_48 (by decide) ?_
        refine ze_iadd X dc_M_test_49 ?_
        refine ze_iload X dc_M_test_50 rfl ?_
        refine ze_bipush (x := 60) X dc_M_test_52 (by decide) ?_
        refine ze_icmp_eq (tgt := 78) X dc_M_test_54 (by decide) (fun _ => ?_) (fun _ => ?_)
        · refine ze_iconst (x := 1) X dc_M_test_78 (by decide) ?_
          refine ze_goto (tgt := 83) X dc_M_test_79 (by decide) ?_
          refine ze_callVi (As := [.inl a1, .inl (a2 + 1), .inl 1]) (st := []) X dc_M_test_83 zc_M_160 sh_75 (fun zr zv zh => c_M_must X.2.2.2.2.2.2.1  a1 (a2 + 1) 1  v77 zh) rfl (by decide) (by decide) (Nat.le_of_ble_eq_true rfl) (fun r79 v80 => ?_)
          refine ze_if_ne (tgt := 91) X dc_M_test_86 (by decide) (fun _ => ?_) (fun _ => ?_)
          · refine ze_iload_n X dc_M_test_89 rfl rfl ?_
            exact ze_iret X Y (vp_nar_int _) dc_M_test_90
          · refine ze_aload_n X dc_M_test_91 rfl rfl ?_
            refine ze_iload_n X dc_M_test_92 rfl rfl ?_
            refine ze_iload_n X dc_M_test_93 rfl rfl ?_
            refine ze_iconst (x := 2) X dc_M_test_94 (by decide) ?_
            refine ze_iadd X dc_M_test_95 ?_
            refine ze_iload X dc_M_test_96 rfl ?_
            refine ze_bipush (x := 37) X dc_M_test_98 (by decide) ?_
            refine ze_icmp_ne (tgt := 107) X dc_M_test_100 (by decide) (fun _ => ?_) (fun _ => ?_)
            · refine ze_iconst (x := 1) X dc_M_test_103 (by decide) ?_
              refine ze_goto (tgt := 108) X dc_M_test_104 (by decide) ?_
              refine ze_sipush (x := 9999) X dc_M_test_108 (by decide) ?_
              refine ze_callVi (As := [.inl a1, .inl (a2 + 2), .inl 1, .inl 9999]) (st := []) X dc_M_test_111 zc_M_164 sh_75 (fun zr zv zh => c_M_number X.2.2.2.2.2.2.1  a1 (a2 + 2) 1 9999  v80 zh) rfl (by decide) (by decide) (Nat.le_of_ble_eq_true rfl) (fun r81 v82 => ?_)
              exact ze_iret X Y (vp_nar_int _) dc_M_test_114
            · refine ze_iconst (x := 0) X dc_M_test_107 (by decide) ?_
              refine ze_sipush (x := 9999) X dc_M_test_108 (by decide) ?_
              refine ze_callVi (As := [.inl a1, .inl (a2 + 2), .inl 0, .inl 9999]) (st := []) X dc_M_test_111 zc_M_164 sh_75 (fun zr zv zh => c_M_number X.2.2.2.2.2.2.1  a1 (a2 + 2) 0 9999  v80 zh) rfl (by decide) (by decide) (Nat.le_of_ble_eq_true rfl) (fun r83 v84 => ?_)
              exact ze_iret X Y (vp_nar_int _) dc_M_test_114
        · refine ze_iload X dc_M_test_57 rfl ?_
          refine ze_bipush (x := 62) X dc_M_test_59 (by decide) ?_
          refine ze_icmp_eq (tgt := 78) X dc_M_test_61 (by decide) (fun _ => ?_) (fun _ => ?_)
          · refine ze_iconst (x := 1) X dc_M_test_78 (by decide) ?_
            refine ze_goto (tgt := 83) X dc_M_test_79 (by decide) ?_
            refine ze_callVi (As := [.inl a1, .inl (a2 + 1), .inl 1]) (st := []) X dc_M_test_83 zc_M_160 sh_75 (fun zr zv zh => c_M_must X.2.2.2.2.2.2.1  a1 (a2 + 1) 1  v77 zh) rfl (by decide) (by decide) (Nat.le_of_ble_eq_true rfl) (fun r85 v86 => ?_)
            refine ze_if_ne (tgt := 91) X dc_M_test_86 (by decide) (fun _ => ?_) (fun _ => ?_)
            · refine ze_iload_n X dc_M_test_89 rfl rfl ?_
              exact ze_iret X Y (vp_nar_int _) dc_M_test_90
            · refine ze_aload_n X dc_M_test_91 rfl rfl ?_
              refine ze_iload_n X dc_M_test_92 rfl rfl ?_
              refine ze_iload_n X dc_M_test_93 rfl rfl ?_
              refine ze_iconst (x := 2) X dc_M_test_94 (by decide) ?_
              refine ze_iadd X dc_M_test_95 ?_
              refine ze_iload X dc_M_test_96 rfl ?_
              refine ze_bipush (x := 37) X dc_M_test_98 (by decide) ?_
              refine ze_icmp_ne (tgt := 107) X dc_M_test_100 (by decide) (fun _ => ?_) (fun _ => ?_)
              · refine ze_iconst (x := 1) X dc_M_test_103 (by decide) ?_
                refine ze_goto (tgt := 108) X dc_M_test_104 (by decide) ?_
                refine ze_sipush (x := 9999) X dc_M_test_108 (by decide) ?_
                refine ze_callVi (As := [.inl a1, .inl (a2 + 2), .inl 1, .inl 9999]) (st := []) X dc_M_test_111 zc_M_164 sh_75 (fun zr zv zh => c_M_number X.2.2.2.2.2.2.1  a1 (a2 + 2) 1 9999  v86 zh) rfl (by decide) (by decide) (Nat.le_of_ble_eq_true rfl) (fun r87 v88 => ?_)
                exact ze_iret X Y (vp_nar_int _) dc_M_test_114
              · refine ze_iconst (x := 0) X dc_M_test_107 (by decide) ?_
                refine ze_sipush (x := 9999) X dc_M_test_108 (by decide) ?_
                refine ze_callVi (As := [.inl a1, .inl (a2 + 2), .inl 0, .inl 9999]) (st := []) X dc_M_test_111 zc_M_164 sh_75 (fun zr zv zh => c_M_number X.2.2.2.2.2.2.1  a1 (a2 + 2) 0 9999  v86 zh) rfl (by decide) (by decide) (Nat.le_of_ble_eq_true rfl) (fun r89 v90 => ?_)
                exact ze_iret X Y (vp_nar_int _) dc_M_test_114
          · refine ze_iload X dc_M_test_64 rfl ?_
            refine ze_bipush (x := 61) X dc_M_test_66 (by decide) ?_
            refine ze_icmp_eq (tgt := 78) X dc_M_test_68 (by decide) (fun _ => ?_) (fun _ => ?_)
            · refine ze_iconst (x := 1) X dc_M_test_78 (by decide) ?_
              refine ze_goto (tgt := 83) X dc_M_test_79 (by decide) ?_
              refine ze_callVi (As := [.inl a1, .inl (a2 + 1), .inl 1]) (st := []) X dc_M_test_83 zc_M_160 sh_75 (fun zr zv zh => c_M_must X.2.2.2.2.2.2.1  a1 (a2 + 1) 1  v77 zh) rfl (by decide) (by decide) (Nat.le_of_ble_eq_true rfl) (fun r91 v92 => ?_)
              refine ze_if_ne (tgt := 91) X dc_M_test_86 (by decide) (fun _ => ?_) (fun _ => ?_)
              · refine ze_iload_n X dc_M_test_89 rfl rfl ?_
                exact ze_iret X Y (vp_nar_int _) dc_M_test_90
              · refine ze_aload_n X dc_M_test_91 rfl rfl ?_
                refine ze_iload_n X dc_M_test_92 rfl rfl ?_
                refine ze_iload_n X dc_M_test_93 rfl rfl ?_
                refine ze_iconst (x := 2) X dc_M_test_94 (by decide) ?_
                refine ze_iadd X dc_M_test_95 ?_
                refine ze_iload X dc_M_test_96 rfl ?_
                refine ze_bipush (x := 37) X dc_M_test_98 (by decide) ?_
                refine ze_icmp_ne (tgt := 107) X dc_M_test_100 (by decide) (fun _ => ?_) (fun _ => ?_)
                · refine ze_iconst (x := 1) X dc_M_test_103 (by decide) ?_
                  refine ze_goto (tgt := 108) X dc_M_test_104 (by decide) ?_
                  refine ze_sipush (x := 9999) X dc_M_test_108 (by decide) ?_
                  refine ze_callVi (As := [.inl a1, .inl (a2 + 2), .inl 1, .inl 9999]) (st := []) X dc_M_test_111 zc_M_164 sh_75 (fun zr zv zh => c_M_number X.2.2.2.2.2.2.1  a1 (a2 + 2) 1 9999  v92 zh) rfl (by decide) (by decide) (Nat.le_of_ble_eq_true rfl) (fun r93 v94 => ?_)
                  exact ze_iret X Y (vp_nar_int _) dc_M_test_114
                · refine ze_iconst (x := 0) X dc_M_test_107 (by decide) ?_
                  refine ze_sipush (x := 9999) X dc_M_test_108 (by decide) ?_
                  refine ze_callVi (As := [.inl a1, .inl (a2 + 2), .inl 0, .inl 9999]) (st := []) X dc_M_test_111 zc_M_164 sh_75 (fun zr zv zh => c_M_number X.2.2.2.2.2.2.1  a1 (a2 + 2) 0 9999  v92 zh) rfl (by decide) (by decide) (Nat.le_of_ble_eq_true rfl) (fun r95 v96 => ?_)
                  exact ze_iret X Y (vp_nar_int _) dc_M_test_114
            · refine ze_iload X dc_M_test_71 rfl ?_
              refine ze_bipush (x := 37) X dc_M_test_73 (by decide) ?_
              refine ze_icmp_ne (tgt := 82) X dc_M_test_75 (by decide) (fun _ => ?_) (fun _ => ?_)
              · refine ze_iconst (x := 1) X dc_M_test_78 (by decide) ?_
                refine ze_goto (tgt := 83) X dc_M_test_79 (by decide) ?_
                refine ze_callVi (As := [.inl a1, .inl (a2 + 1), .inl 1]) (st := []) X dc_M_test_83 zc_M_160 sh_75 (fun zr zv zh => c_M_must X.2.2.2.2.2.2.1  a1 (a2 + 1) 1  v77 zh) rfl (by decide) (by decide) (Nat.le_of_ble_eq_true rfl) (fun r97 v98 => ?_)
                refine ze_if_ne (tgt := 91) X dc_M_test_86 (by decide) (fun _ => ?_) (fun _ => ?_)
                · refine ze_iload_n X dc_M_test_89 rfl rfl ?_
                  exact ze_iret X Y (vp_nar_int _) dc_M_test_90
                · refine ze_aload_n X dc_M_test_91 rfl rfl ?_
                  refine ze_iload_n X dc_M_test_92 rfl rfl ?_
                  refine ze_iload_n X dc_M_test_93 rfl rfl ?_
                  refine ze_iconst (x := 2) X dc_M_test_94 (by decide) ?_
                  refine ze_iadd X dc_M_test_95 ?_
                  refine ze_iload X dc_M_test_96 rfl ?_
                  refine ze_bipush (x := 37) X dc_M_test_98 (by decide) ?_
                  refine ze_icmp_ne (tgt := 107) X dc_M_test_100 (by decide) (fun _ => ?_) (fun _ => ?_)
                  · refine ze_iconst (x := 1) X dc_M_test_103 (by decide) ?_
                    refine ze_goto (tgt := 108) X dc_M_test_104 (by decide) ?_
                    refine ze_sipush (x := 9999) X dc_M_test_108 (by decide) ?_
                    refine ze_callVi (As := [.inl a1, .inl (a2 + 2), .inl 1, .inl 9999]) (st := []) X dc_M_test_111 zc_M_164 sh_75 (fun zr zv zh => c_M_number X.2.2.2.2.2.2.1  a1 (a2 + 2) 1 9999  v98 zh) rfl (by decide) (by decide) (Nat.le_of_ble_eq_true rfl) (fun r99 v100 => ?_)
                    exact ze_iret X Y (vp_nar_int _) dc_M_test_114
                  · refine ze_iconst (x := 0) X dc_M_test_107 (by decide) ?_
                    refine ze_sipush (x := 9999) X dc_M_test_108 (by decide) ?_
                    refine ze_callVi (As := [.inl a1, .inl (a2 + 2), .inl 0, .inl 9999]) (st := []) X dc_M_test_111 zc_M_164 sh_75 (fun zr zv zh => c_M_number X.2.2.2.2.2.2.1  a1 (a2 + 2) 0 9999  v98 zh) rfl (by decide) (by decide) (Nat.le_of_ble_eq_true rfl) (fun r101 v102 => ?_)
                    exact ze_iret X Y (vp_nar_int _) dc_M_test_114
              · refine ze_iconst (x := 0) X dc_M_test_82 (by decide) ?_
                refine ze_callVi (As := [.inl a1, .inl (a2 + 1), .inl 0]) (st := []) X dc_M_test_83 zc_M_160 sh_75 (fun zr zv zh => c_M_must X.2.2.2.2.2.2.1  a1 (a2 + 1) 0  v77 zh) rfl (by decide) (by decide) (Nat.le_of_ble_eq_true rfl) (fun r103 v104 => ?_)
                refine ze_if_ne (tgt := 91) X dc_M_test_86 (by decide) (fun _ => ?_) (fun _ => ?_)
                · refine ze_iload_n X dc_M_test_89 rfl rfl ?_
                  exact ze_iret X Y (vp_nar_int _) dc_M_test_90
                · refine ze_aload_n X dc_M_test_91 rfl rfl ?_
                  refine ze_iload_n X dc_M_test_92 rfl rfl ?_
                  refine ze_iload_n X dc_M_test_93 rfl rfl ?_
                  refine ze_iconst (x := 2) X dc_M_test_94 (by decide) ?_
                  refine ze_iadd X dc_M_test_95 ?_
                  refine ze_iload X dc_M_test_96 rfl ?_
                  refine ze_bipush (x := 37) X dc_M_test_98 (by decide) ?_
                  refine ze_icmp_ne (tgt := 107) X dc_M_test_100 (by decide) (fun _ => ?_) (fun _ => ?_)
                  · refine ze_iconst (x := 1) X dc_M_test_103 (by decide) ?_
                    refine ze_goto (tgt := 108) X dc_M_test_104 (by decide) ?_
                    refine ze_sipush (x := 9999) X dc_M_test_108 (by decide) ?_
                    refine ze_callVi (As := [.inl a1, .inl (a2 + 2), .inl 1, .inl 9999]) (st := []) X dc_M_test_111 zc_M_164 sh_75 (fun zr zv zh => c_M_number X.2.2.2.2.2.2.1  a1 (a2 + 2) 1 9999  v104 zh) rfl (by decide) (by decide) (Nat.le_of_ble_eq_true rfl) (fun r105 v106 => ?_)
                    exact ze_iret X Y (vp_nar_int _) dc_M_test_114
                  · refine ze_iconst (x := 0) X dc_M_test_107 (by decide) ?_
                    refine ze_sipush (x := 9999) X dc_M_test_108 (by decide) ?_
                    refine ze_callVi (As := [.inl a1, .inl (a2 + 2), .inl 0, .inl 9999]) (st := []) X dc_M_test_111 zc_M_164 sh_75 (fun zr zv zh => c_M_number X.2.2.2.2.2.2.1  a1 (a2 + 2) 0 9999  v104 zh) rfl (by decide) (by decide) (Nat.le_of_ble_eq_true rfl) (fun r107 v108 => ?_)
                    exact ze_iret X Y (vp_nar_int _) dc_M_test_114
set_option maxHeartbeats 4000000 in
set_option maxRecDepth 100000 in
theorem c_M_test {l : Launch} {D : va_G} {ad : Nat → Nat} {ca : Nat → ClassId} (hD : va_D (ze_A ad) (ze_ws ze_sh ad ca (fun _ _ => 0)))     (a1 : Int32) (a2 : Int32)  (v : ze_H) {r : Int32} {v1 : ze_H} (h : f_M_test  a1 a2 v = some (r, v1)) : ze_Mi l D ad ca my_M_test bc_M_test 5 .int 2 49 [.inr 75, .inl a1, .inl a2] v r v1 := ze_Mi_of (plainFor_of_name (by decide)) hD (Nat.le_of_ble_eq_true rfl) (fun G e1 e2 e3 e4 X Y => w_M_test X Y    a1 a2  v) h
def f_M_enter  (a1 : Int32) (a2 : Int32) (a3 : Int32) (v : ze_H) : Option (Int32 × ze_H) :=
  ze_call (f_M_look  a1 a2 v) (fun r1 v2 => (if r1 = 40 then (if 3 ≤ (v2 75 5) then ze_call (f_M_must  a1 a2 0 v2) (fun r3 v4 => (if r3 = 0 then some (a2, v4) else ze_in (v4 75 5) 4 (ze_lev (ze_u v4 80 (Int32.toNatClampNeg (v4 75 5)) a3) (fun v5 => ze_lev (ze_u v5 75 5 ((v5 75 5) + 1)) (fun v6 => some ((a2 + 1), v6)))))) else ze_call (f_M_must  a1 a2 1 v2) (fun r7 v8 => (if r7 = 0 then some (a2, v8) else ze_in (v8 75 5) 4 (ze_lev (ze_u v8 80 (Int32.toNatClampNeg (v8 75 5)) a3) (fun v9 => ze_lev (ze_u v9 75 5 ((v9 75 5) + 1)) (fun v10 => some ((a2 + 1), v10))))))) else ze_call (f_M_must  a1 a2 0 v2) (fun r11 v12 => (if r11 = 0 then some (a2, v12) else ze_in (v12 75 5) 4 (ze_lev (ze_u v12 80 (Int32.toNatClampNeg (v12 75 5)) a3) (fun v13 => ze_lev (ze_u v13 75 5 ((v13 75 5) + 1)) (fun v14 => some ((a2 + 1), v14))))))))
set_option maxHeartbeats 4000000 in
set_option maxRecDepth 100000 in
theorem w_M_enter {G : ze_G}  (X : ze_X G bc_M_enter cn_M 4 1 23) (Y : ze_Ri G .int)    (a1 : Int32) (a2 : Int32) (a3 : Int32)  (v : ze_H) : ze_T G (f_M_enter  a1 a2 a3 v) v 0 [some (.inr 75), some (.inl a1), some (.inl a2), some (.inl a3)] [] := by
  refine ze_aload_n X dc_M_enter_0 rfl rfl ?_
  refine ze_iload_n X dc_M_enter_1 rfl rfl ?_
  refine ze_iload_n X dc_M_enter_2 rfl rfl ?_
  refine ze_aload_n X dc_M_enter_3 rfl rfl ?_
  refine ze_iload_n X dc_M_enter_4 rfl rfl ?_
  refine ze_iload_n X dc_M_enter_5 rfl rfl ?_
  refine ze_callVi (As := [.inl a1, .inl a2]) (st := [.inl a2, .inl a1, .inr 75]) X dc_M_enter_6 zc_M_152 sh_75 (fun zr zv zh => c_M_look X.2.2.2.2.2.2.1  a1 a2  v zh) rfl (by decide) (by decide) (Nat.le_of_ble_eq_true rfl) (fun r1 v2 => ?_)
  refine ze_bipush (x := 40) X dc_M_enter_9 (by decide) ?_
  refine ze_icmp_ne (tgt := 26) X dc_M_enter_11 (by decide) (fun _ => ?_) (fun _ => ?_)
  · refine ze_aload_n X dc_M_enter_14 rfl rfl ?_
    refine ze_geti X dc_M_enter_15 zf_M_168 sh_75 rfl ?_
    refine ze_iconst (x := 3) X dc_M_enter_18 (by decide) ?_
    refine ze_icmp_ge (tgt := 26) X dc_M_enter_19 (by decide) (fun _ => ?_) (fun _ => ?_)
    · refine ze_iconst (x := 0) X dc_M_enter_26 (by decide) ?_
      refine ze_callVi (As := [.inl a1, .inl a2, .inl 0]) (st := []) X dc_M_enter_27 zc_M_160 sh_75 (fun zr zv zh => c_M_must X.2.2.2.2.2.2.1  a1 a2 0  v2 zh) rfl (by decide) (by decide) (Nat.le_of_ble_eq_true rfl) (fun r3 v4 => ?_)
      refine ze_if_ne (tgt := 35) X dc_M_enter_30 (by decide) (fun _ => ?_) (fun _ => ?_)
      · refine ze_iload_n X dc_M_enter_33 rfl rfl ?_
        exact ze_iret X Y (vp_nar_int _) dc_M_enter_34
      · refine ze_aload_n X dc_M_enter_35 rfl rfl ?_
        refine ze_getr X dc_M_enter_36 zf_M_23 sh_75 rfl ?_
        refine ze_aload_n X dc_M_enter_39 rfl rfl ?_
        refine ze_geti X dc_M_enter_40 zf_M_168 sh_75 rfl ?_
        refine ze_iload_n X dc_M_enter_43 rfl rfl ?_
        refine ze_iast X dc_M_enter_44 sh_80 rfl (fun v5 _ => ?_)
        refine ze_aload_n X dc_M_enter_45 rfl rfl ?_
        refine ze_dup X dc_M_enter_46 ?_
        refine ze_geti X dc_M_enter_47 zf_M_168 sh_75 rfl ?_
        refine ze_iconst (x := 1) X dc_M_enter_50 (by decide) ?_
        refine ze_iadd X dc_M_enter_51 ?_
        refine ze_puti X dc_M_enter_52 zp_M_168 sh_75 rfl (fun v6 => ?_)
        refine ze_iload_n X dc_M_enter_55 rfl rfl ?_
        refine ze_iconst (x := 1) X dc_M_enter_56 (by decide) ?_
        refine ze_iadd X dc_M_enter_57 ?_
        exact ze_iret X Y (vp_nar_int _) dc_M_enter_58
    · refine ze_iconst (x := 1) X dc_M_enter_22 (by decide) ?_
      refine ze_goto (tgt := 27) X dc_M_enter_23 (by decide) ?_
      refine ze_callVi (As := [.inl a1, .inl a2, .inl 1]) (st := []) X dc_M_enter_27 zc_M_160 sh_75 (fun zr zv zh => c_M_must X.2.2.2.2.2.2.1  a1 a2 1  v2 zh) rfl (by decide) (by decide) (Nat.le_of_ble_eq_true rfl) (fun r7 v8 => ?_)
      refine ze_if_ne (tgt := 35) X dc_M_enter_30 (by decide) (fun _ => ?_) (fun _ => ?_)
      · refine ze_iload_n X dc_M_enter_33 rfl rfl ?_
        exact ze_iret X Y (vp_nar_int _) dc_M_enter_34
      · refine ze_aload_n X dc_M_enter_35 rfl rfl ?_
        refine ze_getr X dc_M_enter_36 zf_M_23 sh_75 rfl ?_
        refine ze_aload_n X dc_M_enter_39 rfl rfl ?_
        refine ze_geti X dc_M_enter_40 zf_M_168 sh_75 rfl ?_
        refine ze_iload_n X dc_M_enter_43 rfl rfl ?_
        refine ze_iast X dc_M_enter_44 sh_80 rfl (fun v9 _ => ?_)
        refine ze_aload_n X dc_M_enter_45 rfl rfl ?_
        refine ze_dup X dc_M_enter_46 ?_
        refine ze_geti X dc_M_enter_47 zf_M_168 sh_75 rfl ?_
        refine ze_iconst (x := 1) X dc_M_enter_50 (by decide) ?_
        refine ze_iadd X dc_M_enter_51 ?_
        refine ze_puti X dc_M_enter_52 zp_M_168 sh_75 rfl (fun v10 => ?_)
        refine ze_iload_n X dc_M_enter_55 rfl rfl ?_
        refine ze_iconst (x := 1) X dc_M_enter_56 (by decide) ?_
        refine ze_iadd X dc_M_enter_57 ?_
        exact ze_iret X Y (vp_nar_int _) dc_M_enter_58
  · refine ze_iconst (x := 0) X dc_M_enter_26 (by decide) ?_
    refine ze_callVi (As := [.inl a1, .inl a2, .inl 0]) (st := []) X dc_M_enter_27 zc_M_160 sh_75 (fun zr zv zh => c_M_must X.2.2.2.2.2.2.1  a1 a2 0  v2 zh) rfl (by decide) (by decide) (Nat.le_of_ble_eq_true rfl) (fun r11 v12 => ?_)
    refine ze_if_ne (tgt := 35) X dc_M_enter_30 (by decide) (fun _ => ?_) (fun _ => ?_)
    · refine ze_iload_n X dc_M_enter_33 rfl rfl ?_
      exact ze_iret X Y (vp_nar_int _) dc_M_enter_34
    · refine ze_aload_n X dc_M_enter_35 rfl rfl ?_
      refine ze_getr X dc_M_enter_36 zf_M_23 sh_75 rfl ?_
      refine ze_aload_n X dc_M_enter_39 rfl rfl ?_
      refine ze_geti X dc_M_enter_40 zf_M_168 sh_75 rfl ?_
      refine ze_iload_n X dc_M_enter_43 rfl rfl ?_
      refine ze_iast X dc_M_enter_44 sh_80 rfl (fun v13 _ => ?_)
      refine ze_aload_n X dc_M_enter_45 rfl rfl ?_
      refine ze_dup X dc_M_enter_46 ?_
      refine ze_geti X dc_M_enter_47 zf_M_168 sh_75 rfl ?_
      refine ze_iconst (x := 1) X dc_M_enter_50 (by decide) ?_
      refine ze_iadd X dc_M_enter_51 ?_
      refine ze_puti X dc_M_enter_52 zp_M_168 sh_75 rfl (fun v14 => ?_)
      refine ze_iload_n X dc_M_enter_55 rfl rfl ?_
      refine ze_iconst (x := 1) X dc_M_enter_56 (by decide) ?_
      refine ze_iadd X dc_M_enter_57 ?_
      exact ze_iret X Y (vp_nar_int _) dc_M_enter_58
set_option maxHeartbeats 4000000 in
set_option maxRecDepth 100000 in
theorem c_M_enter {l : Launch} {D : va_G} {ad : Nat → Nat} {ca : Nat → ClassId} (hD : va_D (ze_A ad) (ze_ws ze_sh ad ca (fun _ _ => 0)))     (a1 : Int32) (a2 : Int32) (a3 : Int32)  (v : ze_H) {r : Int32} {v1 : ze_H} (h : f_M_enter  a1 a2 a3 v = some (r, v1)) : ze_Mi l D ad ca my_M_enter bc_M_enter 4 .int 1 23 [.inr 75, .inl a1, .inl a2, .inl a3] v r v1 := ze_Mi_of (plainFor_of_name (by decide)) hD (Nat.le_of_ble_eq_true rfl) (fun G e1 e2 e3 e4 X Y => w_M_enter X Y    a1 a2 a3  v) h
def f_M_leave_J76  (b1 : Int32) (b2 : Int32) (s0 : Int32) (v : ze_H) : Option (Int32 × ze_H) :=
  ze_let s0 (fun x4 => (if x4 = 0 then some ((b2 + 1), v) else ze_call (f_M_enter  b1 (b2 + 2) 0 v) (fun r5 v6 => some (r5, v6))))
def f_M_leave_J75  (b1 : Int32) (b2 : Int32) (v : ze_H) : Option (Int32 × ze_H) :=
  (f_M_leave_J76  b1 b2 0 v)
def f_M_leave  (a1 : Int32) (a2 : Int32) (v : ze_H) : Option (Int32 × ze_H) :=
  (if (v 75 5) ≤ 0 then ze_call (f_M_must  a1 a2 0 v) (fun r1 v2 => (if r1 = 0 then some (a2, v2) else ze_lev (ze_u v2 75 5 ((v2 75 5) - 1)) (fun v3 => ze_in (v3 75 5) 4 ((if (v3 80 (Int32.toNatClampNeg (v3 75 5))) = 1 then ze_in a1 4 ((if (v3 77 (Int32.toNatClampNeg a1)) ≤ (a2 + 1) then (f_M_leave_J75  a1 a2 v3) else ze_call (f_M_look  a1 (a2 + 1) v3) (fun r7 v8 => (if r7 = 58 then (f_M_leave_J76  a1 a2 1 v8) else (f_M_leave_J75  a1 a2 v8))))) else (f_M_leave_J75  a1 a2 v3)))))) else ze_call (f_M_must  a1 a2 1 v) (fun r9 v10 => (if r9 = 0 then some (a2, v10) else ze_lev (ze_u v10 75 5 ((v10 75 5) - 1)) (fun v11 => ze_in (v11 75 5) 4 ((if (v11 80 (Int32.toNatClampNeg (v11 75 5))) = 1 then ze_in a1 4 ((if (v11 77 (Int32.toNatClampNeg a1)) ≤ (a2 + 1) then (f_M_leave_J75  a1 a2 v11) else ze_call (f_M_look  a1 (a2 + 1) v11) (fun r12 v13 => (if r12 = 58 then (f_M_leave_J76  a1 a2 1 v13) else (f_M_leave_J75  a1 a2 v13))))) else (f_M_leave_J75  a1 a2 v11)))))))
set_option maxHeartbeats 4000000 in
set_option maxRecDepth 100000 in
theorem w_M_leave_J76 {G : ze_G}  (X : ze_X G bc_M_leave cn_M 4 2 46) (Y : ze_Ri G .int)    (b1 : Int32) (b2 : Int32) (s0 : Int32)  (v : ze_H) : ze_T G (f_M_leave_J76  b1 b2 s0 v) v 76 [some (.inr 75), some (.inl b1), some (.inl b2), none] [.inl s0] := by
  refine ze_istore_n X dc_M_leave_76 rfl (by decide) (fun x4 => ?_)
  refine ze_iload_n X dc_M_leave_77 rfl rfl ?_
  refine ze_if_eq (tgt := 93) X dc_M_leave_78 (by decide) (fun _ => ?_) (fun _ => ?_)
  · refine ze_iload_n X dc_M_leave_93 rfl rfl ?_
    refine ze_iconst (x := 1) X dc_M_leave_94 (by decide) ?_
    refine ze_iadd X dc_M_leave_95 ?_
    exact ze_iret X Y (vp_nar_int _) dc_M_leave_96
  · refine ze_aload_n X dc_M_leave_81 rfl rfl ?_
    refine ze_iload_n X dc_M_leave_82 rfl rfl ?_
    refine ze_iload_n X dc_M_leave_83 rfl rfl ?_
    refine ze_iconst (x := 2) X dc_M_leave_84 (by decide) ?_
    refine ze_iadd X dc_M_leave_85 ?_
    refine ze_iconst (x := 0) X dc_M_leave_86 (by decide) ?_
    refine ze_callVi (As := [.inl b1, .inl (b2 + 2), .inl 0]) (st := []) X dc_M_leave_87 zc_M_171 sh_75 (fun zr zv zh => c_M_enter X.2.2.2.2.2.2.1  b1 (b2 + 2) 0  v zh) rfl (by decide) (by decide) (Nat.le_of_ble_eq_true rfl) (fun r5 v6 => ?_)
    refine ze_goto (tgt := 96) X dc_M_leave_90 (by decide) ?_
    exact ze_iret X Y (vp_nar_int _) dc_M_leave_96
set_option maxHeartbeats 4000000 in
set_option maxRecDepth 100000 in
theorem w_M_leave_J75 {G : ze_G}  (X : ze_X G bc_M_leave cn_M 4 2 46) (Y : ze_Ri G .int)    (b1 : Int32) (b2 : Int32)  (v : ze_H) : ze_T G (f_M_leave_J75  b1 b2 v) v 75 [some (.inr 75), some (.inl b1), some (.inl b2), none] [] := by
  refine ze_iconst (x := 0) X dc_M_leave_75 (by decide) ?_
  refine ze_weak [true, true, true, false] ?_
  exact w_M_leave_J76 X Y    b1 b2 0  v
set_option maxHeartbeats 4000000 in
set_option maxRecDepth 100000 in
theorem w_M_leave {G : ze_G}  (X : ze_X G bc_M_leave cn_M 4 2 46) (Y : ze_Ri G .int)    (a1 : Int32) (a2 : Int32)  (v : ze_H) : ze_T G (f_M_leave  a1 a2 v) v 0 [some (.inr 75), some (.inl a1), some (.inl a2), none] [] := by
  refine ze_aload_n X dc_M_leave_0 rfl rfl ?_
  refine ze_iload_n X dc_M_leave_1 rfl rfl ?_
  refine ze_iload_n X dc_M_leave_2 rfl rfl ?_
  refine ze_aload_n X dc_M_leave_3 rfl rfl ?_
  refine ze_geti X dc_M_leave_4 zf_M_168 sh_75 rfl ?_
  refine ze_if_le (tgt := 14) X dc_M_leave_7 (by decide) (fun _ => ?_) (fun _ => ?_)
  · refine ze_iconst (x := 0) X dc_M_leave_14 (by decide) ?_
    refine ze_callVi (As := [.inl a1, .inl a2, .inl 0]) (st := []) X dc_M_leave_15 zc_M_160 sh_75 (fun zr zv zh => c_M_must X.2.2.2.2.2.2.1  a1 a2 0  v zh) rfl (by decide) (by decide) (Nat.le_of_ble_eq_true rfl) (fun r1 v2 => ?_)
    refine ze_if_ne (tgt := 23) X dc_M_leave_18 (by decide) (fun _ => ?_) (fun _ => ?_)
    · refine ze_iload_n X dc_M_leave_21 rfl rfl ?_
      exact ze_iret X Y (vp_nar_int _) dc_M_leave_22
    · refine ze_aload_n X dc_M_leave_23 rfl rfl ?_
      refine ze_dup X dc_M_leave_24 ?_
      refine ze_geti X dc_M_leave_25 zf_M_168 sh_75 rfl ?_
      refine ze_iconst (x := 1) X dc_M_leave_28 (by decide) ?_
      refine ze_isub X dc_M_leave_29 ?_
      refine ze_puti X dc_M_leave_30 zp_M_168 sh_75 rfl (fun v3 => ?_)
      refine ze_aload_n X dc_M_leave_33 rfl rfl ?_
      refine ze_getr X dc_M_leave_34 zf_M_23 sh_75 rfl ?_
      refine ze_aload_n X dc_M_leave_37 rfl rfl ?_
      refine ze_geti X dc_M_leave_38 zf_M_168 sh_75 rfl ?_
      refine ze_iald X dc_M_leave_41 sh_80 rfl (fun _ => ?_)
      refine ze_iconst (x := 1) X dc_M_leave_42 (by decide) ?_
      refine ze_icmp_ne (tgt := 75) X dc_M_leave_43 (by decide) (fun _ => ?_) (fun _ => ?_)
      · refine ze_iload_n X dc_M_leave_46 rfl rfl ?_
        refine ze_iconst (x := 1) X dc_M_leave_47 (by decide) ?_
        refine ze_iadd X dc_M_leave_48 ?_
        refine ze_aload_n X dc_M_leave_49 rfl rfl ?_
        refine ze_getr X dc_M_leave_50 zf_M_13 sh_75 rfl ?_
        refine ze_iload_n X dc_M_leave_53 rfl rfl ?_
        refine ze_iald X dc_M_leave_54 sh_77 rfl (fun _ => ?_)
        refine ze_icmp_ge (tgt := 75) X dc_M_leave_55 (by decide) (fun _ => ?_) (fun _ => ?_)
        · refine ze_weak [true, true, true, false] ?_
          exact w_M_leave_J75 X Y    a1 a2  v3
        · refine ze_aload_n X dc_M_leave_58 rfl rfl ?_
          refine ze_iload_n X dc_M_leave_59 rfl rfl ?_
          refine ze_iload_n X dc_M_leave_60 rfl rfl ?_
          refine ze_iconst (x := 1) X dc_M_leave_61 (by decide) ?_
          refine ze_iadd X dc_M_leave_62 ?_
          refine ze_callVi (As := [.inl a1, .inl (a2 + 1)]) (st := []) X dc_M_leave_63 zc_M_152 sh_75 (fun zr zv zh => c_M_look X.2.2.2.2.2.2.1  a1 (a2 + 1)  v3 zh) rfl (by decide) (by decide) (Nat.le_of_ble_eq_true rfl) (fun r7 v8 => ?_)
          refine ze_bipush (x := 58) X dc_M_leave_66 (by decide) ?_
          refine ze_icmp_ne (tgt := 75) X dc_M_leave_68 (by decide) (fun _ => ?_) (fun _ => ?_)
          · refine ze_iconst (x := 1) X dc_M_leave_71 (by decide) ?_
            refine ze_goto (tgt := 76) X dc_M_leave_72 (by decide) ?_
            refine ze_weak [true, true, true, false] ?_
            exact w_M_leave_J76 X Y    a1 a2 1  v8
          · refine ze_weak [true, true, true, false] ?_
            exact w_M_leave_J75 X Y    a1 a2  v8
      · refine ze_weak [true, true, true, false] ?_
        exact w_M_leave_J75 X Y    a1 a2  v3
  · refine ze_iconst (x := 1) X dc_M_leave_10 (by decide) ?_
    refine ze_goto (tgt := 15) X dc_M_leave_11 (by decide) ?_
    refine ze_callVi (As := [.inl a1, .inl a2, .inl 1]) (st := []) X dc_M_leave_15 zc_M_160 sh_75 (fun zr zv zh => c_M_must X.2.2.2.2.2.2.1  a1 a2 1  v zh) rfl (by decide) (by decide) (Nat.le_of_ble_eq_true rfl) (fun r9 v10 => ?_)
    refine ze_if_ne (tgt := 23) X dc_M_leave_18 (by decide) (fun _ => ?_) (fun _ => ?_)
    · refine ze_iload_n X dc_M_leave_21 rfl rfl ?_
      exact ze_iret X Y (vp_nar_int _) dc_M_leave_22
    · refine ze_aload_n X dc_M_leave_23 rfl rfl ?_
      refine ze_dup X dc_M_leave_24 ?_
      refine ze_geti X dc_M_leave_25 zf_M_168 sh_75 rfl ?_
      refine ze_iconst (x := 1) X dc_M_leave_28 (by decide) ?_
      refine ze_isub X dc_M_leave_29 ?_
      refine ze_puti X dc_M_leave_30 zp_M_168 sh_75 rfl (fun v11 => ?_)
      refine ze_aload_n X dc_M_leave_33 rfl rfl ?_
      refine ze_getr X dc_M_leave_34 zf_M_23 sh_75 rfl ?_
      refine ze_aload_n X dc_M_leave_37 rfl rfl ?_
      refine ze_geti X dc_M_leave_38 zf_M_168 sh_75 rfl ?_
      refine ze_iald X dc_M_leave_41 sh_80 rfl (fun _ => ?_)
      refine ze_iconst (x := 1) X dc_M_leave_42 (by decide) ?_
      refine ze_icmp_ne (tgt := 75) X dc_M_leave_43 (by decide) (fun _ => ?_) (fun _ => ?_)
      · refine ze_iload_n X dc_M_leave_46 rfl rfl ?_
        refine ze_iconst (x := 1) X dc_M_leave_47 (by decide) ?_
        refine ze_iadd X dc_M_leave_48 ?_
        refine ze_aload_n X dc_M_leave_49 rfl rfl ?_
        refine ze_getr X dc_M_leave_50 zf_M_13 sh_75 rfl ?_
        refine ze_iload_n X dc_M_leave_53 rfl rfl ?_
        refine ze_iald X dc_M_leave_54 sh_77 rfl (fun _ => ?_)
        refine ze_icmp_ge (tgt := 75) X dc_M_leave_55 (by decide) (fun _ => ?_) (fun _ => ?_)
        · refine ze_weak [true, true, true, false] ?_
          exact w_M_leave_J75 X Y    a1 a2  v11
        · refine ze_aload_n X dc_M_leave_58 rfl rfl ?_
          refine ze_iload_n X dc_M_leave_59 rfl rfl ?_
          refine ze_iload_n X dc_M_leave_60 rfl rfl ?_
          refine ze_iconst (x := 1) X dc_M_leave_61 (by decide) ?_
          refine ze_iadd X dc_M_leave_62 ?_
          refine ze_callVi (As := [.inl a1, .inl (a2 + 1)]) (st := []) X dc_M_leave_63 zc_M_152 sh_75 (fun zr zv zh => c_M_look X.2.2.2.2.2.2.1  a1 (a2 + 1)  v11 zh) rfl (by decide) (by decide) (Nat.le_of_ble_eq_true rfl) (fun r12 v13 => ?_)
          refine ze_bipush (x := 58) X dc_M_leave_66 (by decide) ?_
          refine ze_icmp_ne (tgt := 75) X dc_M_leave_68 (by decide) (fun _ => ?_) (fun _ => ?_)
          · refine ze_iconst (x := 1) X dc_M_leave_71 (by decide) ?_
            refine ze_goto (tgt := 76) X dc_M_leave_72 (by decide) ?_
            refine ze_weak [true, true, true, false] ?_
            exact w_M_leave_J76 X Y    a1 a2 1  v13
          · refine ze_weak [true, true, true, false] ?_
            exact w_M_leave_J75 X Y    a1 a2  v13
      · refine ze_weak [true, true, true, false] ?_
        exact w_M_leave_J75 X Y    a1 a2  v11
set_option maxHeartbeats 4000000 in
set_option maxRecDepth 100000 in
theorem c_M_leave {l : Launch} {D : va_G} {ad : Nat → Nat} {ca : Nat → ClassId} (hD : va_D (ze_A ad) (ze_ws ze_sh ad ca (fun _ _ => 0)))     (a1 : Int32) (a2 : Int32)  (v : ze_H) {r : Int32} {v1 : ze_H} (h : f_M_leave  a1 a2 v = some (r, v1)) : ze_Mi l D ad ca my_M_leave bc_M_leave 4 .int 2 46 [.inr 75, .inl a1, .inl a2] v r v1 := ze_Mi_of (plainFor_of_name (by decide)) hD (Nat.le_of_ble_eq_true rfl) (fun G e1 e2 e3 e4 X Y => w_M_leave X Y    a1 a2  v) h
def f_M_stepAt_J322  (b1 : Int32) (s0 : Int32) (v : ze_H) : Option (Int32 × ze_H) :=
  ze_let s0 (fun x32 => (if 0 ≤ (v 75 6) then some (x32, v) else ze_call (f_M_look  b1 x32 v) (fun r33 v34 => (if r33 = 44 then ze_call (f_M_must  b1 x32 1 v34) (fun r35 v36 => (if r35 = 0 then some (x32, v36) else ze_call (f_M_number  b1 (x32 + 1) 1 99 v36) (fun r37 v38 => some (r37, v38)))) else ze_call (f_M_must  b1 x32 0 v34) (fun r39 v40 => (if r39 = 0 then some (x32, v40) else ze_call (f_M_number  b1 (x32 + 1) 1 99 v40) (fun r41 v42 => some (r41, v42))))))))
def f_M_stepAt  (a1 : Int32) (a2 : Int32) (v : ze_H) : Option (Int32 × ze_H) :=
  ze_call (f_M_look  a1 a2 v) (fun r1 v2 => ze_let r1 (fun x3 => ze_let (a2 + 1) (fun x4 => (if x3 = 33 then ze_call (f_M_number  a1 x4 0 3 v2) (fun r6 v7 => some (r6, v7)) else (if x3 = 38 then ze_call (f_M_number  a1 x4 0 3 v2) (fun r9 v10 => some (r9, v10)) else (if x3 = 42 then ze_call (f_M_number  a1 x4 0 9999 v2) (fun r12 v13 => some (r12, v13)) else (if x3 = 43 then ze_call (f_M_number  a1 x4 0 9999 v2) (fun r15 v16 => some (r15, v16)) else (if x3 = 45 then ze_call (f_M_number  a1 x4 0 9999 v2) (fun r18 v19 => some (r18, v19)) else (if x3 = 62 then ze_call (f_M_number  a1 x4 (a1 + 1) 3 v2) (fun r21 v22 => some (r21, v22)) else (if x3 = 63 then ze_call (f_M_test  a1 x4 v2) (fun r24 v25 => ze_let r24 (fun x26 => (if 0 ≤ (v25 75 6) then some (x26, v25) else ze_call (f_M_enter  a1 x26 1 v25) (fun r27 v28 => some (r27, v28))))) else (if x3 = 97 then (if (v2 75 5) = 0 then ze_call (f_M_must  a1 a2 1 v2) (fun r30 v31 => (if r30 = 0 then (f_M_stepAt_J322  a1 x4 v31) else ze_call (f_M_number  a1 x4 2 4 v31) (fun r43 v44 => (f_M_stepAt_J322  a1 r43 v44)))) else ze_call (f_M_must  a1 a2 0 v2) (fun r45 v46 => (if r45 = 0 then (f_M_stepAt_J322  a1 x4 v46) else ze_call (f_M_number  a1 x4 2 4 v46) (fun r47 v48 => (f_M_stepAt_J322  a1 r47 v48))))) else (if x3 = 98 then some (x4, v2) else (if x3 = 102 then ze_call (f_M_test  a1 x4 v2) (fun r51 v52 => some (r51, v52)) else (if x3 = 105 then some (x4, v2) else (if x3 = 107 then some (x4, v2) else (if x3 = 113 then (if (v2 75 5) = 0 then ze_call (f_M_must  a1 a2 1 v2) (fun r56 v57 => (if r56 = 0 then some (x4, v57) else ze_call (f_M_number  a1 x4 2 4 v57) (fun r58 v59 => some (r58, v59)))) else ze_call (f_M_must  a1 a2 0 v2) (fun r60 v61 => (if r60 = 0 then some (x4, v61) else ze_call (f_M_number  a1 x4 2 4 v61) (fun r62 v63 => some (r62, v63))))) else (if x3 = 114 then some (x4, v2) else (if x3 = 115 then ze_call (f_M_number  a1 x4 1 4 v2) (fun r66 v67 => ze_let r66 (fun x68 => (if 0 ≤ (v67 75 6) then some (x68, v67) else ze_call (f_M_enter  a1 x68 0 v67) (fun r69 v70 => some (r69, v70))))) else ze_lev (ze_u v2 75 6 a2) (fun v71 => some (x4, v71))))))))))))))))))))
set_option maxHeartbeats 4000000 in
set_option maxRecDepth 100000 in
theorem w_M_stepAt_J322 {G : ze_G}  (X : ze_X G bc_M_stepAt cn_M 5 3 73) (Y : ze_Ri G .int)    (b1 : Int32) (s0 : Int32)  (v : ze_H) : ze_T G (f_M_stepAt_J322  b1 s0 v) v 322 [some (.inr 75), some (.inl b1), none, none, none] [.inl s0] := by
  refine ze_istore X dc_M_stepAt_322 (by decide) (fun x32 => ?_)
  refine ze_aload_n X dc_M_stepAt_324 rfl rfl ?_
  refine ze_geti X dc_M_stepAt_325 zf_M_148 sh_75 rfl ?_
  refine ze_if_ge (tgt := 373) X dc_M_stepAt_328 (by decide) (fun _ => ?_) (fun _ => ?_)
  · refine ze_iload X dc_M_stepAt_373 rfl ?_
    exact ze_iret X Y (vp_nar_int _) dc_M_stepAt_375
  · refine ze_aload_n X dc_M_stepAt_331 rfl rfl ?_
    refine ze_iload_n X dc_M_stepAt_332 rfl rfl ?_
    refine ze_iload X dc_M_stepAt_333 rfl ?_
    refine ze_aload_n X dc_M_stepAt_335 rfl rfl ?_
    refine ze_iload_n X dc_M_stepAt_336 rfl rfl ?_
    refine ze_iload X dc_M_stepAt_337 rfl ?_
    refine ze_callVi (As := [.inl b1, .inl x32]) (st := [.inl x32, .inl b1, .inr 75]) X dc_M_stepAt_339 zc_M_152 sh_75 (fun zr zv zh => c_M_look X.2.2.2.2.2.2.1  b1 x32  v zh) rfl (by decide) (by decide) (Nat.le_of_ble_eq_true rfl) (fun r33 v34 => ?_)
    refine ze_bipush (x := 44) X dc_M_stepAt_342 (by decide) ?_
    refine ze_icmp_ne (tgt := 351) X dc_M_stepAt_344 (by decide) (fun _ => ?_) (fun _ => ?_)
    · refine ze_iconst (x := 1) X dc_M_stepAt_347 (by decide) ?_
      refine ze_goto (tgt := 352) X dc_M_stepAt_348 (by decide) ?_
      refine ze_callVi (As := [.inl b1, .inl x32, .inl 1]) (st := []) X dc_M_stepAt_352 zc_M_160 sh_75 (fun zr zv zh => c_M_must X.2.2.2.2.2.2.1  b1 x32 1  v34 zh) rfl (by decide) (by decide) (Nat.le_of_ble_eq_true rfl) (fun r35 v36 => ?_)
      refine ze_if_eq (tgt := 373) X dc_M_stepAt_355 (by decide) (fun _ => ?_) (fun _ => ?_)
      · refine ze_iload X dc_M_stepAt_373 rfl ?_
        exact ze_iret X Y (vp_nar_int _) dc_M_stepAt_375
      · refine ze_aload_n X dc_M_stepAt_358 rfl rfl ?_
        refine ze_iload_n X dc_M_stepAt_359 rfl rfl ?_
        refine ze_iload X dc_M_stepAt_360 rfl ?_
        refine ze_iconst (x := 1) X dc_M_stepAt_362 (by decide) ?_
        refine ze_iadd X dc_M_stepAt_363 ?_
        refine ze_iconst (x := 1) X dc_M_stepAt_364 (by decide) ?_
        refine ze_bipush (x := 99) X dc_M_stepAt_365 (by decide) ?_
        refine ze_callVi (As := [.inl b1, .inl (x32 + 1), .inl 1, .inl 99]) (st := []) X dc_M_stepAt_367 zc_M_164 sh_75 (fun zr zv zh => c_M_number X.2.2.2.2.2.2.1  b1 (x32 + 1) 1 99  v36 zh) rfl (by decide) (by decide) (Nat.le_of_ble_eq_true rfl) (fun r37 v38 => ?_)
        refine ze_goto (tgt := 375) X dc_M_stepAt_370 (by decide) ?_
        exact ze_iret X Y (vp_nar_int _) dc_M_stepAt_375
    · refine ze_iconst (x := 0) X dc_M_stepAt_351 (by decide) ?_
      refine ze_callVi (As := [.inl b1, .inl x32, .inl 0]) (st := []) X dc_M_stepAt_352 zc_M_160 sh_75 (fun zr zv zh => c_M_must X.2.2.2.2.2.2.1  b1 x32 0  v34 zh) rfl (by decide) (by decide) (Nat.le_of_ble_eq_true rfl) (fun r39 v40 => ?_)
      refine ze_if_eq (tgt := 373) X dc_M_stepAt_355 (by decide) (fun _ => ?_) (fun _ => ?_)
      · refine ze_iload X dc_M_stepAt_373 rfl ?_
        exact ze_iret X Y (vp_nar_int _) dc_M_stepAt_375
      · refine ze_aload_n X dc_M_stepAt_358 rfl rfl ?_
        refine ze_iload_n X dc_M_stepAt_359 rfl rfl ?_
        refine ze_iload X dc_M_stepAt_360 rfl ?_
        refine ze_iconst (x := 1) X dc_M_stepAt_362 (by decide) ?_
        refine ze_iadd X dc_M_stepAt_363 ?_
        refine ze_iconst (x := 1) X dc_M_stepAt_364 (by decide) ?_
        refine ze_bipush (x := 99) X dc_M_stepAt_365 (by decide) ?_
        refine ze_callVi (As := [.inl b1, .inl (x32 + 1), .inl 1, .inl 99]) (st := []) X dc_M_stepAt_367 zc_M_164 sh_75 (fun zr zv zh => c_M_number X.2.2.2.2.2.2.1  b1 (x32 + 1) 1 99  v40 zh) rfl (by decide) (by decide) (Nat.le_of_ble_eq_true rfl) (fun r41 v42 => ?_)
        refine ze_goto (tgt := 375) X dc_M_stepAt_370 (by decide) ?_
        exact ze_iret X Y (vp_nar_int _) dc_M_stepAt_375
set_option maxHeartbeats 4000000 in
set_option maxRecDepth 100000 in
theorem w_M_stepAt {G : ze_G}  (X : ze_X G bc_M_stepAt cn_M 5 3 73) (Y : ze_Ri G .int)    (a1 : Int32) (a2 : Int32)  (v : ze_H) : ze_T G (f_M_stepAt  a1 a2 v) v 0 [some (.inr 75), some (.inl a1), some (.inl a2), none, none] [] := by
  refine ze_aload_n X dc_M_stepAt_0 rfl rfl ?_
  refine ze_iload_n X dc_M_stepAt_1 rfl rfl ?_
  refine ze_iload_n X dc_M_stepAt_2 rfl rfl ?_
  refine ze_callVi (As := [.inl a1, .inl a2]) (st := []) X dc_M_stepAt_3 zc_M_152 sh_75 (fun zr zv zh => c_M_look X.2.2.2.2.2.2.1  a1 a2  v zh) rfl (by decide) (by decide) (Nat.le_of_ble_eq_true rfl) (fun r1 v2 => ?_)
  refine ze_istore_n X dc_M_stepAt_6 rfl (by decide) (fun x3 => ?_)
  refine ze_iload_n X dc_M_stepAt_7 rfl rfl ?_
  refine ze_iconst (x := 1) X dc_M_stepAt_8 (by decide) ?_
  refine ze_iadd X dc_M_stepAt_9 ?_
  refine ze_istore X dc_M_stepAt_10 (by decide) (fun x4 => ?_)
  refine ze_iload_n X dc_M_stepAt_12 rfl rfl ?_
  refine ze_if (c := x3 = 33) (fun hq => ?_) (fun hn5 => ?_)
  · refine ze_lookup (off := 228) (tgt := 241) X dc_M_stepAt_13 rfl (by rw [hq]; rfl) (by decide) ?_
    refine ze_aload_n X dc_M_stepAt_241 rfl rfl ?_
    refine ze_iload_n X dc_M_stepAt_242 rfl rfl ?_
    refine ze_iload X dc_M_stepAt_243 rfl ?_
    refine ze_iconst (x := 0) X dc_M_stepAt_245 (by decide) ?_
    refine ze_iconst (x := 3) X dc_M_stepAt_246 (by decide) ?_
    refine ze_callVi (As := [.inl a1, .inl x4, .inl 0, .inl 3]) (st := []) X dc_M_stepAt_247 zc_M_164 sh_75 (fun zr zv zh => c_M_number X.2.2.2.2.2.2.1  a1 x4 0 3  v2 zh) rfl (by decide) (by decide) (Nat.le_of_ble_eq_true rfl) (fun r6 v7 => ?_)
    exact ze_iret X Y (vp_nar_int _) dc_M_stepAt_250
  refine ze_if (c := x3 = 38) (fun hq => ?_) (fun hn8 => ?_)
  · refine ze_lookup (off := 228) (tgt := 241) X dc_M_stepAt_13 rfl (by rw [hq]; rfl) (by decide) ?_
    refine ze_aload_n X dc_M_stepAt_241 rfl rfl ?_
    refine ze_iload_n X dc_M_stepAt_242 rfl rfl ?_
    refine ze_iload X dc_M_stepAt_243 rfl ?_
    refine ze_iconst (x := 0) X dc_M_stepAt_245 (by decide) ?_
    refine ze_iconst (x := 3) X dc_M_stepAt_246 (by decide) ?_
    refine ze_callVi (As := [.inl a1, .inl x4, .inl 0, .inl 3]) (st := []) X dc_M_stepAt_247 zc_M_164 sh_75 (fun zr zv zh => c_M_number X.2.2.2.2.2.2.1  a1 x4 0 3  v2 zh) rfl (by decide) (by decide) (Nat.le_of_ble_eq_true rfl) (fun r9 v10 => ?_)
    exact ze_iret X Y (vp_nar_int _) dc_M_stepAt_250
  refine ze_if (c := x3 = 42) (fun hq => ?_) (fun hn11 => ?_)
  · refine ze_lookup (off := 131) (tgt := 144) X dc_M_stepAt_13 rfl (by rw [hq]; rfl) (by decide) ?_
    refine ze_aload_n X dc_M_stepAt_144 rfl rfl ?_
    refine ze_iload_n X dc_M_stepAt_145 rfl rfl ?_
    refine ze_iload X dc_M_stepAt_146 rfl ?_
    refine ze_iconst (x := 0) X dc_M_stepAt_148 (by decide) ?_
    refine ze_sipush (x := 9999) X dc_M_stepAt_149 (by decide) ?_
    refine ze_callVi (As := [.inl a1, .inl x4, .inl 0, .inl 9999]) (st := []) X dc_M_stepAt_152 zc_M_164 sh_75 (fun zr zv zh => c_M_number X.2.2.2.2.2.2.1  a1 x4 0 9999  v2 zh) rfl (by decide) (by decide) (Nat.le_of_ble_eq_true rfl) (fun r12 v13 => ?_)
    exact ze_iret X Y (vp_nar_int _) dc_M_stepAt_155
  refine ze_if (c := x3 = 43) (fun hq => ?_) (fun hn14 => ?_)
  · refine ze_lookup (off := 131) (tgt := 144) X dc_M_stepAt_13 rfl (by rw [hq]; rfl) (by decide) ?_
    refine ze_aload_n X dc_M_stepAt_144 rfl rfl ?_
    refine ze_iload_n X dc_M_stepAt_145 rfl rfl ?_
    refine ze_iload X dc_M_stepAt_146 rfl ?_
    refine ze_iconst (x := 0) X dc_M_stepAt_148 (by decide) ?_
    refine ze_sipush (x := 9999) X dc_M_stepAt_149 (by decide) ?_
    refine ze_callVi (As := [.inl a1, .inl x4, .inl 0, .inl 9999]) (st := []) X dc_M_stepAt_152 zc_M_164 sh_75 (fun zr zv zh => c_M_number X.2.2.2.2.2.2.1  a1 x4 0 9999  v2 zh) rfl (by decide) (by decide) (Nat.le_of_ble_eq_true rfl) (fun r15 v16 => ?_)
    exact ze_iret X Y (vp_nar_int _) dc_M_stepAt_155
  refine ze_if (c := x3 = 45) (fun hq => ?_) (fun hn17 => ?_)
  · refine ze_lookup (off := 131) (tgt := 144) X dc_M_stepAt_13 rfl (by rw [hq]; rfl) (by decide) ?_
    refine ze_aload_n X dc_M_stepAt_144 rfl rfl ?_
    refine ze_iload_n X dc_M_stepAt_145 rfl rfl ?_
    refine ze_iload X dc_M_stepAt_146 rfl ?_
    refine ze_iconst (x := 0) X dc_M_stepAt_148 (by decide) ?_
    refine ze_sipush (x := 9999) X dc_M_stepAt_149 (by decide) ?_
    refine ze_callVi (As := [.inl a1, .inl x4, .inl 0, .inl 9999]) (st := []) X dc_M_stepAt_152 zc_M_164 sh_75 (fun zr zv zh => c_M_number X.2.2.2.2.2.2.1  a1 x4 0 9999  v2 zh) rfl (by decide) (by decide) (Nat.le_of_ble_eq_true rfl) (fun r18 v19 => ?_)
    exact ze_iret X Y (vp_nar_int _) dc_M_stepAt_155
  refine ze_if (c := x3 = 62) (fun hq => ?_) (fun hn20 => ?_)
  · refine ze_lookup (off := 216) (tgt := 229) X dc_M_stepAt_13 rfl (by rw [hq]; rfl) (by decide) ?_
    refine ze_aload_n X dc_M_stepAt_229 rfl rfl ?_
    refine ze_iload_n X dc_M_stepAt_230 rfl rfl ?_
    refine ze_iload X dc_M_stepAt_231 rfl ?_
    refine ze_iload_n X dc_M_stepAt_233 rfl rfl ?_
    refine ze_iconst (x := 1) X dc_M_stepAt_234 (by decide) ?_
    refine ze_iadd X dc_M_stepAt_235 ?_
    refine ze_iconst (x := 3) X dc_M_stepAt_236 (by decide) ?_
    refine ze_callVi (As := [.inl a1, .inl x4, .inl (a1 + 1), .inl 3]) (st := []) X dc_M_stepAt_237 zc_M_164 sh_75 (fun zr zv zh => c_M_number X.2.2.2.2.2.2.1  a1 x4 (a1 + 1) 3  v2 zh) rfl (by decide) (by decide) (Nat.le_of_ble_eq_true rfl) (fun r21 v22 => ?_)
    exact ze_iret X Y (vp_nar_int _) dc_M_stepAt_240
  refine ze_if (c := x3 = 63) (fun hq => ?_) (fun hn23 => ?_)
  · refine ze_lookup (off := 154) (tgt := 167) X dc_M_stepAt_13 rfl (by rw [hq]; rfl) (by decide) ?_
    refine ze_aload_n X dc_M_stepAt_167 rfl rfl ?_
    refine ze_iload_n X dc_M_stepAt_168 rfl rfl ?_
    refine ze_iload X dc_M_stepAt_169 rfl ?_
    refine ze_callVi (As := [.inl a1, .inl x4]) (st := []) X dc_M_stepAt_171 zc_M_175 sh_75 (fun zr zv zh => c_M_test X.2.2.2.2.2.2.1  a1 x4  v2 zh) rfl (by decide) (by decide) (Nat.le_of_ble_eq_true rfl) (fun r24 v25 => ?_)
    refine ze_istore X dc_M_stepAt_174 (by decide) (fun x26 => ?_)
    refine ze_aload_n X dc_M_stepAt_176 rfl rfl ?_
    refine ze_geti X dc_M_stepAt_177 zf_M_148 sh_75 rfl ?_
    refine ze_if_ge (tgt := 194) X dc_M_stepAt_180 (by decide) (fun _ => ?_) (fun _ => ?_)
    · refine ze_iload X dc_M_stepAt_194 rfl ?_
      exact ze_iret X Y (vp_nar_int _) dc_M_stepAt_196
    · refine ze_aload_n X dc_M_stepAt_183 rfl rfl ?_
      refine ze_iload_n X dc_M_stepAt_184 rfl rfl ?_
      refine ze_iload X dc_M_stepAt_185 rfl ?_
      refine ze_iconst (x := 1) X dc_M_stepAt_187 (by decide) ?_
      refine ze_callVi (As := [.inl a1, .inl x26, .inl 1]) (st := []) X dc_M_stepAt_188 zc_M_171 sh_75 (fun zr zv zh => c_M_enter X.2.2.2.2.2.2.1  a1 x26 1  v25 zh) rfl (by decide) (by decide) (Nat.le_of_ble_eq_true rfl) (fun r27 v28 => ?_)
      refine ze_goto (tgt := 196) X dc_M_stepAt_191 (by decide) ?_
      exact ze_iret X Y (vp_nar_int _) dc_M_stepAt_196
  refine ze_if (c := x3 = 97) (fun hq => ?_) (fun hn29 => ?_)
  · refine ze_lookup (off := 274) (tgt := 287) X dc_M_stepAt_13 rfl (by rw [hq]; rfl) (by decide) ?_
    refine ze_aload_n X dc_M_stepAt_287 rfl rfl ?_
    refine ze_iload_n X dc_M_stepAt_288 rfl rfl ?_
    refine ze_iload_n X dc_M_stepAt_289 rfl rfl ?_
    refine ze_aload_n X dc_M_stepAt_290 rfl rfl ?_
    refine ze_geti X dc_M_stepAt_291 zf_M_168 sh_75 rfl ?_
    refine ze_if_ne (tgt := 301) X dc_M_stepAt_294 (by decide) (fun _ => ?_) (fun _ => ?_)
    · refine ze_iconst (x := 1) X dc_M_stepAt_297 (by decide) ?_
      refine ze_goto (tgt := 302) X dc_M_stepAt_298 (by decide) ?_
      refine ze_callVi (As := [.inl a1, .inl a2, .inl 1]) (st := []) X dc_M_stepAt_302 zc_M_160 sh_75 (fun zr zv zh => c_M_must X.2.2.2.2.2.2.1  a1 a2 1  v2 zh) rfl (by decide) (by decide) (Nat.le_of_ble_eq_true rfl) (fun r30 v31 => ?_)
      refine ze_if_eq (tgt := 320) X dc_M_stepAt_305 (by decide) (fun _ => ?_) (fun _ => ?_)
      · refine ze_iload X dc_M_stepAt_320 rfl ?_
        refine ze_weak [true, true, false, false, false] ?_
        exact w_M_stepAt_J322 X Y    a1 x4  v31
      · refine ze_aload_n X dc_M_stepAt_308 rfl rfl ?_
        refine ze_iload_n X dc_M_stepAt_309 rfl rfl ?_
        refine ze_iload X dc_M_stepAt_310 rfl ?_
        refine ze_iconst (x := 2) X dc_M_stepAt_312 (by decide) ?_
        refine ze_iconst (x := 4) X dc_M_stepAt_313 (by decide) ?_
        refine ze_callVi (As := [.inl a1, .inl x4, .inl 2, .inl 4]) (st := []) X dc_M_stepAt_314 zc_M_164 sh_75 (fun zr zv zh => c_M_number X.2.2.2.2.2.2.1  a1 x4 2 4  v31 zh) rfl (by decide) (by decide) (Nat.le_of_ble_eq_true rfl) (fun r43 v44 => ?_)
        refine ze_goto (tgt := 322) X dc_M_stepAt_317 (by decide) ?_
        refine ze_weak [true, true, false, false, false] ?_
        exact w_M_stepAt_J322 X Y    a1 r43  v44
    · refine ze_iconst (x := 0) X dc_M_stepAt_301 (by decide) ?_
      refine ze_callVi (As := [.inl a1, .inl a2, .inl 0]) (st := []) X dc_M_stepAt_302 zc_M_160 sh_75 (fun zr zv zh => c_M_must X.2.2.2.2.2.2.1  a1 a2 0  v2 zh) rfl (by decide) (by decide) (Nat.le_of_ble_eq_true rfl) (fun r45 v46 => ?_)
      refine ze_if_eq (tgt := 320) X dc_M_stepAt_305 (by decide) (fun _ => ?_) (fun _ => ?_)
      · refine ze_iload X dc_M_stepAt_320 rfl ?_
        refine ze_weak [true, true, false, false, false] ?_
        exact w_M_stepAt_J322 X Y    a1 x4  v46
      · refine ze_aload_n X dc_M_stepAt_308 rfl rfl ?_
        refine ze_iload_n X dc_M_stepAt_309 rfl rfl ?_
        refine ze_iload X dc_M_stepAt_310 rfl ?_
        refine ze_iconst (x := 2) X dc_M_stepAt_312 (by decide) ?_
        refine ze_iconst (x := 4) X dc_M_stepAt_313 (by decide) ?_
        refine ze_callVi (As := [.inl a1, .inl x4, .inl 2, .inl 4]) (st := []) X dc_M_stepAt_314 zc_M_164 sh_75 (fun zr zv zh => c_M_number X.2.2.2.2.2.2.1  a1 x4 2 4  v46 zh) rfl (by decide) (by decide) (Nat.le_of_ble_eq_true rfl) (fun r47 v48 => ?_)
        refine ze_goto (tgt := 322) X dc_M_stepAt_317 (by decide) ?_
        refine ze_weak [true, true, false, false, false] ?_
        exact w_M_stepAt_J322 X Y    a1 r47  v48
  refine ze_if (c := x3 = 98) (fun hq => ?_) (fun hn49 => ?_)
  · refine ze_lookup (off := 143) (tgt := 156) X dc_M_stepAt_13 rfl (by rw [hq]; rfl) (by decide) ?_
    refine ze_iload X dc_M_stepAt_156 rfl ?_
    exact ze_iret X Y (vp_nar_int _) dc_M_stepAt_158
  refine ze_if (c := x3 = 102) (fun hq => ?_) (fun hn50 => ?_)
  · refine ze_lookup (off := 146) (tgt := 159) X dc_M_stepAt_13 rfl (by rw [hq]; rfl) (by decide) ?_
    refine ze_aload_n X dc_M_stepAt_159 rfl rfl ?_
    refine ze_iload_n X dc_M_stepAt_160 rfl rfl ?_
    refine ze_iload X dc_M_stepAt_161 rfl ?_
    refine ze_callVi (As := [.inl a1, .inl x4]) (st := []) X dc_M_stepAt_163 zc_M_175 sh_75 (fun zr zv zh => c_M_test X.2.2.2.2.2.2.1  a1 x4  v2 zh) rfl (by decide) (by decide) (Nat.le_of_ble_eq_true rfl) (fun r51 v52 => ?_)
    exact ze_iret X Y (vp_nar_int _) dc_M_stepAt_166
  refine ze_if (c := x3 = 105) (fun hq => ?_) (fun hn53 => ?_)
  · refine ze_lookup (off := 143) (tgt := 156) X dc_M_stepAt_13 rfl (by rw [hq]; rfl) (by decide) ?_
    refine ze_iload X dc_M_stepAt_156 rfl ?_
    exact ze_iret X Y (vp_nar_int _) dc_M_stepAt_158
  refine ze_if (c := x3 = 107) (fun hq => ?_) (fun hn54 => ?_)
  · refine ze_lookup (off := 143) (tgt := 156) X dc_M_stepAt_13 rfl (by rw [hq]; rfl) (by decide) ?_
    refine ze_iload X dc_M_stepAt_156 rfl ?_
    exact ze_iret X Y (vp_nar_int _) dc_M_stepAt_158
  refine ze_if (c := x3 = 113) (fun hq => ?_) (fun hn55 => ?_)
  · refine ze_lookup (off := 238) (tgt := 251) X dc_M_stepAt_13 rfl (by rw [hq]; rfl) (by decide) ?_
    refine ze_aload_n X dc_M_stepAt_251 rfl rfl ?_
    refine ze_iload_n X dc_M_stepAt_252 rfl rfl ?_
    refine ze_iload_n X dc_M_stepAt_253 rfl rfl ?_
    refine ze_aload_n X dc_M_stepAt_254 rfl rfl ?_
    refine ze_geti X dc_M_stepAt_255 zf_M_168 sh_75 rfl ?_
    refine ze_if_ne (tgt := 265) X dc_M_stepAt_258 (by decide) (fun _ => ?_) (fun _ => ?_)
    · refine ze_iconst (x := 1) X dc_M_stepAt_261 (by decide) ?_
      refine ze_goto (tgt := 266) X dc_M_stepAt_262 (by decide) ?_
      refine ze_callVi (As := [.inl a1, .inl a2, .inl 1]) (st := []) X dc_M_stepAt_266 zc_M_160 sh_75 (fun zr zv zh => c_M_must X.2.2.2.2.2.2.1  a1 a2 1  v2 zh) rfl (by decide) (by decide) (Nat.le_of_ble_eq_true rfl) (fun r56 v57 => ?_)
      refine ze_if_eq (tgt := 284) X dc_M_stepAt_269 (by decide) (fun _ => ?_) (fun _ => ?_)
      · refine ze_iload X dc_M_stepAt_284 rfl ?_
        exact ze_iret X Y (vp_nar_int _) dc_M_stepAt_286
      · refine ze_aload_n X dc_M_stepAt_272 rfl rfl ?_
        refine ze_iload_n X dc_M_stepAt_273 rfl rfl ?_
        refine ze_iload X dc_M_stepAt_274 rfl ?_
        refine ze_iconst (x := 2) X dc_M_stepAt_276 (by decide) ?_
        refine ze_iconst (x := 4) X dc_M_stepAt_277 (by decide) ?_
        refine ze_callVi (As := [.inl a1, .inl x4, .inl 2, .inl 4]) (st := []) X dc_M_stepAt_278 zc_M_164 sh_75 (fun zr zv zh => c_M_number X.2.2.2.2.2.2.1  a1 x4 2 4  v57 zh) rfl (by decide) (by decide) (Nat.le_of_ble_eq_true rfl) (fun r58 v59 => ?_)
        refine ze_goto (tgt := 286) X dc_M_stepAt_281 (by decide) ?_
        exact ze_iret X Y (vp_nar_int _) dc_M_stepAt_286
    · refine ze_iconst (x := 0) X dc_M_stepAt_265 (by decide) ?_
      refine ze_callVi (As := [.inl a1, .inl a2, .inl 0]) (st := []) X dc_M_stepAt_266 zc_M_160 sh_75 (fun zr zv zh => c_M_must X.2.2.2.2.2.2.1  a1 a2 0  v2 zh) rfl (by decide) (by decide) (Nat.le_of_ble_eq_true rfl) (fun r60 v61 => ?_)
      refine ze_if_eq (tgt := 284) X dc_M_stepAt_269 (by decide) (fun _ => ?_) (fun _ => ?_)
      · refine ze_iload X dc_M_stepAt_284 rfl ?_
        exact ze_iret X Y (vp_nar_int _) dc_M_stepAt_286
      · refine ze_aload_n X dc_M_stepAt_272 rfl rfl ?_
        refine ze_iload_n X dc_M_stepAt_273 rfl rfl ?_
        refine ze_iload X dc_M_stepAt_274 rfl ?_
        refine ze_iconst (x := 2) X dc_M_stepAt_276 (by decide) ?_
        refine ze_iconst (x := 4) X dc_M_stepAt_277 (by decide) ?_
        refine ze_callVi (As := [.inl a1, .inl x4, .inl 2, .inl 4]) (st := []) X dc_M_stepAt_278 zc_M_164 sh_75 (fun zr zv zh => c_M_number X.2.2.2.2.2.2.1  a1 x4 2 4  v61 zh) rfl (by decide) (by decide) (Nat.le_of_ble_eq_true rfl) (fun r62 v63 => ?_)
        refine ze_goto (tgt := 286) X dc_M_stepAt_281 (by decide) ?_
        exact ze_iret X Y (vp_nar_int _) dc_M_stepAt_286
  refine ze_if (c := x3 = 114) (fun hq => ?_) (fun hn64 => ?_)
  · refine ze_lookup (off := 143) (tgt := 156) X dc_M_stepAt_13 rfl (by rw [hq]; rfl) (by decide) ?_
    refine ze_iload X dc_M_stepAt_156 rfl ?_
    exact ze_iret X Y (vp_nar_int _) dc_M_stepAt_158
  refine ze_if (c := x3 = 115) (fun hq => ?_) (fun hn65 => ?_)
  · refine ze_lookup (off := 184) (tgt := 197) X dc_M_stepAt_13 rfl (by rw [hq]; rfl) (by decide) ?_
    refine ze_aload_n X dc_M_stepAt_197 rfl rfl ?_
    refine ze_iload_n X dc_M_stepAt_198 rfl rfl ?_
    refine ze_iload X dc_M_stepAt_199 rfl ?_
    refine ze_iconst (x := 1) X dc_M_stepAt_201 (by decide) ?_
    refine ze_iconst (x := 4) X dc_M_stepAt_202 (by decide) ?_
    refine ze_callVi (As := [.inl a1, .inl x4, .inl 1, .inl 4]) (st := []) X dc_M_stepAt_203 zc_M_164 sh_75 (fun zr zv zh => c_M_number X.2.2.2.2.2.2.1  a1 x4 1 4  v2 zh) rfl (by decide) (by decide) (Nat.le_of_ble_eq_true rfl) (fun r66 v67 => ?_)
    refine ze_istore X dc_M_stepAt_206 (by decide) (fun x68 => ?_)
    refine ze_aload_n X dc_M_stepAt_208 rfl rfl ?_
    refine ze_geti X dc_M_stepAt_209 zf_M_148 sh_75 rfl ?_
    refine ze_if_ge (tgt := 226) X dc_M_stepAt_212 (by decide) (fun _ => ?_) (fun _ => ?_)
    · refine ze_iload X dc_M_stepAt_226 rfl ?_
      exact ze_iret X Y (vp_nar_int _) dc_M_stepAt_228
    · refine ze_aload_n X dc_M_stepAt_215 rfl rfl ?_
      refine ze_iload_n X dc_M_stepAt_216 rfl rfl ?_
      refine ze_iload X dc_M_stepAt_217 rfl ?_
      refine ze_iconst (x := 0) X dc_M_stepAt_219 (by decide) ?_
      refine ze_callVi (As := [.inl a1, .inl x68, .inl 0]) (st := []) X dc_M_stepAt_220 zc_M_171 sh_75 (fun zr zv zh => c_M_enter X.2.2.2.2.2.2.1  a1 x68 0  v67 zh) rfl (by decide) (by decide) (Nat.le_of_ble_eq_true rfl) (fun r69 v70 => ?_)
      refine ze_goto (tgt := 228) X dc_M_stepAt_223 (by decide) ?_
      exact ze_iret X Y (vp_nar_int _) dc_M_stepAt_228
  refine ze_lookup (off := 363) (tgt := 376) X dc_M_stepAt_13 rfl (by show Op.lookupswitch.offset [(33, 228), (38, 228), (42, 131), (43, 131), (45, 131), (62, 216), (63, 154), (97, 274), (98, 143), (102, 146), (105, 143), (107, 143), (113, 238), (114, 143), (115, 184)] 363 _ = _; rw [lv_osw (a := 33) hn5 (by decide), lv_osw (a := 38) hn8 (by decide), lv_osw (a := 42) hn11 (by decide), lv_osw (a := 43) hn14 (by decide), lv_osw (a := 45) hn17 (by decide), lv_osw (a := 62) hn20 (by decide), lv_osw (a := 63) hn23 (by decide), lv_osw (a := 97) hn29 (by decide), lv_osw (a := 98) hn49 (by decide), lv_osw (a := 102) hn50 (by decide), lv_osw (a := 105) hn53 (by decide), lv_osw (a := 107) hn54 (by decide), lv_osw (a := 113) hn55 (by decide), lv_osw (a := 114) hn64 (by decide), lv_osw (a := 115) hn65 (by decide)]; rfl) (by decide) ?_
  refine ze_aload_n X dc_M_stepAt_376 rfl rfl ?_
  refine ze_iload_n X dc_M_stepAt_377 rfl rfl ?_
  refine ze_puti X dc_M_stepAt_378 zp_M_148 sh_75 rfl (fun v71 => ?_)
  refine ze_iload X dc_M_stepAt_381 rfl ?_
  exact ze_iret X Y (vp_nar_int _) dc_M_stepAt_383
set_option maxHeartbeats 4000000 in
set_option maxRecDepth 100000 in
theorem c_M_stepAt {l : Launch} {D : va_G} {ad : Nat → Nat} {ca : Nat → ClassId} (hD : va_D (ze_A ad) (ze_ws ze_sh ad ca (fun _ _ => 0)))     (a1 : Int32) (a2 : Int32)  (v : ze_H) {r : Int32} {v1 : ze_H} (h : f_M_stepAt  a1 a2 v = some (r, v1)) : ze_Mi l D ad ca my_M_stepAt bc_M_stepAt 5 .int 3 73 [.inr 75, .inl a1, .inl a2] v r v1 := ze_Mi_of (plainFor_of_name (by decide)) hD (Nat.le_of_ble_eq_true rfl) (fun G e1 e2 e3 e4 X Y => w_M_stepAt X Y    a1 a2  v) h
def f_M_errorOf_L12  (b1 : Int32) (kk : ze_H → Option (Int32 × ze_H)) : Nat → Int32 → ze_H → Option (Int32 × ze_H)
  | 0, _, _ => none
  | n + 1, l2, v =>
    (if 0 ≤ (v 75 6) then (kk  v) else ze_in b1 4 ((if (v 77 (Int32.toNatClampNeg b1)) ≤ l2 then (kk  v) else ze_call (f_M_look  b1 l2 v) (fun r4 v5 => (if r4 = 41 then ze_call (f_M_leave  b1 l2 v5) (fun r6 v7 => ze_let r6 (fun x8 => (f_M_errorOf_L12  b1 kk n x8 v7))) else ze_call (f_M_stepAt  b1 l2 v5) (fun r9 v10 => ze_let r9 (fun x11 => (f_M_errorOf_L12  b1 kk n x11 v10))))))))
def f_M_errorOf_J59  (b1 : Int32) (v : ze_H) : Option (Int32 × ze_H) :=
  (if 0 ≤ (v 75 6) then some ((v 75 6), v) else (if (v 75 5) ≤ 0 then some ((v 75 6), v) else ze_in b1 4 (ze_lev (ze_u v 75 6 (v 77 (Int32.toNatClampNeg b1))) (fun v13 => some ((v13 75 6), v13)))))
def f_M_errorOf  (a1 : Int32) (v : ze_H) : Option (Int32 × ze_H) :=
  ze_lev (ze_u v 75 6 (-1)) (fun v1 => ze_lev (ze_u v1 75 5 0) (fun v2 => ze_let 0 (fun x3 => (f_M_errorOf_L12  a1 (fun  v12 => (f_M_errorOf_J59  a1 v12)) 200000 x3 v2))))
set_option maxHeartbeats 4000000 in
set_option maxRecDepth 100000 in
theorem w_M_errorOf_L12 {G : ze_G}  (X : ze_X G bc_M_errorOf cn_M 3 4 97) (Y : ze_Ri G .int)    (b1 : Int32)  {kk : ze_H → Option (Int32 × ze_H)} (hkk : ∀ (v : ze_H), ze_T G (kk  v) v 59 [some (.inr 75), some (.inl b1), none] []) : ∀ (n : Nat) (l2 : Int32) (v : ze_H), ze_T G (f_M_errorOf_L12  b1 kk n l2 v) v 12 [some (.inr 75), some (.inl b1), some (.inl l2)] [] := by
  intro n
  induction n with
  | zero => intro l2 v; exact ze_none
  | succ n ih =>
    intro l2 v
    refine ze_aload_n X dc_M_errorOf_12 rfl rfl ?_
    refine ze_geti X dc_M_errorOf_13 zf_M_148 sh_75 rfl ?_
    refine ze_if_ge (tgt := 59) X dc_M_errorOf_16 (by decide) (fun _ => ?_) (fun _ => ?_)
    · refine ze_weak [true, true, false] ?_
      exact hkk  v
    · refine ze_iload_n X dc_M_errorOf_19 rfl rfl ?_
      refine ze_aload_n X dc_M_errorOf_20 rfl rfl ?_
      refine ze_getr X dc_M_errorOf_21 zf_M_13 sh_75 rfl ?_
      refine ze_iload_n X dc_M_errorOf_24 rfl rfl ?_
      refine ze_iald X dc_M_errorOf_25 sh_77 rfl (fun _ => ?_)
      refine ze_icmp_ge (tgt := 59) X dc_M_errorOf_26 (by decide) (fun _ => ?_) (fun _ => ?_)
      · refine ze_weak [true, true, false] ?_
        exact hkk  v
      · refine ze_aload_n X dc_M_errorOf_29 rfl rfl ?_
        refine ze_iload_n X dc_M_errorOf_30 rfl rfl ?_
        refine ze_iload_n X dc_M_errorOf_31 rfl rfl ?_
        refine ze_callVi (As := [.inl b1, .inl l2]) (st := []) X dc_M_errorOf_32 zc_M_152 sh_75 (fun zr zv zh => c_M_look X.2.2.2.2.2.2.1  b1 l2  v zh) rfl (by decide) (by decide) (Nat.le_of_ble_eq_true rfl) (fun r4 v5 => ?_)
        refine ze_bipush (x := 41) X dc_M_errorOf_35 (by decide) ?_
        refine ze_icmp_ne (tgt := 49) X dc_M_errorOf_37 (by decide) (fun _ => ?_) (fun _ => ?_)
        · refine ze_aload_n X dc_M_errorOf_40 rfl rfl ?_
          refine ze_iload_n X dc_M_errorOf_41 rfl rfl ?_
          refine ze_iload_n X dc_M_errorOf_42 rfl rfl ?_
          refine ze_callVi (As := [.inl b1, .inl l2]) (st := []) X dc_M_errorOf_43 zc_M_179 sh_75 (fun zr zv zh => c_M_leave X.2.2.2.2.2.2.1  b1 l2  v5 zh) rfl (by decide) (by decide) (Nat.le_of_ble_eq_true rfl) (fun r6 v7 => ?_)
          refine ze_goto (tgt := 55) X dc_M_errorOf_46 (by decide) ?_
          refine ze_istore_n X dc_M_errorOf_55 rfl (by decide) (fun x8 => ?_)
          refine ze_goto (tgt := 12) X dc_M_errorOf_56 (by decide) ?_
          refine ze_weak [true, true, true] ?_
          exact ih x8 v7
        · refine ze_aload_n X dc_M_errorOf_49 rfl rfl ?_
          refine ze_iload_n X dc_M_errorOf_50 rfl rfl ?_
          refine ze_iload_n X dc_M_errorOf_51 rfl rfl ?_
          refine ze_callVi (As := [.inl b1, .inl l2]) (st := []) X dc_M_errorOf_52 zc_M_182 sh_75 (fun zr zv zh => c_M_stepAt X.2.2.2.2.2.2.1  b1 l2  v5 zh) rfl (by decide) (by decide) (Nat.le_of_ble_eq_true rfl) (fun r9 v10 => ?_)
          refine ze_istore_n X dc_M_errorOf_55 rfl (by decide) (fun x11 => ?_)
          refine ze_goto (tgt := 12) X dc_M_errorOf_56 (by decide) ?_
          refine ze_weak [true, true, true] ?_
          exact ih x11 v10
set_option maxHeartbeats 4000000 in
set_option maxRecDepth 100000 in
theorem w_M_errorOf_J59 {G : ze_G}  (X : ze_X G bc_M_errorOf cn_M 3 4 97) (Y : ze_Ri G .int)    (b1 : Int32)  (v : ze_H) : ze_T G (f_M_errorOf_J59  b1 v) v 59 [some (.inr 75), some (.inl b1), none] [] := by
  refine ze_aload_n X dc_M_errorOf_59 rfl rfl ?_
  refine ze_geti X dc_M_errorOf_60 zf_M_148 sh_75 rfl ?_
  refine ze_if_ge (tgt := 83) X dc_M_errorOf_63 (by decide) (fun _ => ?_) (fun _ => ?_)
  · refine ze_aload_n X dc_M_errorOf_83 rfl rfl ?_
    refine ze_geti X dc_M_errorOf_84 zf_M_148 sh_75 rfl ?_
    exact ze_iret X Y (vp_nar_int _) dc_M_errorOf_87
  · refine ze_aload_n X dc_M_errorOf_66 rfl rfl ?_
    refine ze_geti X dc_M_errorOf_67 zf_M_168 sh_75 rfl ?_
    refine ze_if_le (tgt := 83) X dc_M_errorOf_70 (by decide) (fun _ => ?_) (fun _ => ?_)
    · refine ze_aload_n X dc_M_errorOf_83 rfl rfl ?_
      refine ze_geti X dc_M_errorOf_84 zf_M_148 sh_75 rfl ?_
      exact ze_iret X Y (vp_nar_int _) dc_M_errorOf_87
    · refine ze_aload_n X dc_M_errorOf_73 rfl rfl ?_
      refine ze_aload_n X dc_M_errorOf_74 rfl rfl ?_
      refine ze_getr X dc_M_errorOf_75 zf_M_13 sh_75 rfl ?_
      refine ze_iload_n X dc_M_errorOf_78 rfl rfl ?_
      refine ze_iald X dc_M_errorOf_79 sh_77 rfl (fun _ => ?_)
      refine ze_puti X dc_M_errorOf_80 zp_M_148 sh_75 rfl (fun v13 => ?_)
      refine ze_aload_n X dc_M_errorOf_83 rfl rfl ?_
      refine ze_geti X dc_M_errorOf_84 zf_M_148 sh_75 rfl ?_
      exact ze_iret X Y (vp_nar_int _) dc_M_errorOf_87
set_option maxHeartbeats 4000000 in
set_option maxRecDepth 100000 in
theorem w_M_errorOf {G : ze_G}  (X : ze_X G bc_M_errorOf cn_M 3 4 97) (Y : ze_Ri G .int)    (a1 : Int32)  (v : ze_H) : ze_T G (f_M_errorOf  a1 v) v 0 [some (.inr 75), some (.inl a1), none] [] := by
  refine ze_aload_n X dc_M_errorOf_0 rfl rfl ?_
  refine ze_iconst (x := (-1)) X dc_M_errorOf_1 (by decide) ?_
  refine ze_puti X dc_M_errorOf_2 zp_M_148 sh_75 rfl (fun v1 => ?_)
  refine ze_aload_n X dc_M_errorOf_5 rfl rfl ?_
  refine ze_iconst (x := 0) X dc_M_errorOf_6 (by decide) ?_
  refine ze_puti X dc_M_errorOf_7 zp_M_168 sh_75 rfl (fun v2 => ?_)
  refine ze_iconst (x := 0) X dc_M_errorOf_10 (by decide) ?_
  refine ze_istore_n X dc_M_errorOf_11 rfl (by decide) (fun x3 => ?_)
  refine ze_weak [true, true, true] ?_
  refine w_M_errorOf_L12 X Y    a1  (fun  v12 => ?_) 200000 x3 v2
  refine ze_weak [true, true, false] ?_
  exact w_M_errorOf_J59 X Y    a1  v12
set_option maxHeartbeats 4000000 in
set_option maxRecDepth 100000 in
theorem c_M_errorOf {l : Launch} {D : va_G} {ad : Nat → Nat} {ca : Nat → ClassId} (hD : va_D (ze_A ad) (ze_ws ze_sh ad ca (fun _ _ => 0)))     (a1 : Int32)  (v : ze_H) {r : Int32} {v1 : ze_H} (h : f_M_errorOf  a1 v = some (r, v1)) : ze_Mi l D ad ca my_M_errorOf bc_M_errorOf 3 .int 4 97 [.inr 75, .inl a1] v r v1 := ze_Mi_of (plainFor_of_name (by decide)) hD (Nat.le_of_ble_eq_true rfl) (fun G e1 e2 e3 e4 X Y => w_M_errorOf X Y    a1  v) h
def f_M_read_L2   (kk : ze_H → Option (Int32 × ze_H)) : Nat → Int32 → ze_H → Option (Int32 × ze_H)
  | 0, _, _ => none
  | n + 1, l1, v =>
    (if 4 ≤ l1 then (kk  v) else ze_call (f_M_errorOf  l1 v) (fun r2 v3 => ze_let r2 (fun x4 => (if x4 < 0 then ze_let (l1 + 1) (fun x5 => (f_M_read_L2   kk n x5 v3)) else some (((100 * (l1 + 1)) + x4), v3)))))
def f_M_read_L34   (kk : ze_H → Option (Int32 × ze_H)) : Nat → Int32 → ze_H → Option (Int32 × ze_H)
  | 0, _, _ => none
  | n + 1, l1, v =>
    (if 160 ≤ l1 then (kk  v) else ze_in l1 160 (ze_in l1 160 (ze_lev (ze_u v 78 (Int32.toNatClampNeg l1) (vp_nar .char (v 76 (Int32.toNatClampNeg l1)))) (fun v8 => ze_in l1 160 (ze_lev (ze_u v8 104 (Int32.toNatClampNeg l1) 0) (fun v9 => ze_let (l1 + 1) (fun x10 => (f_M_read_L34   kk n x10 v9))))))))
def f_M_read_L68   (kk : ze_H → Option (Int32 × ze_H)) : Nat → Int32 → ze_H → Option (Int32 × ze_H)
  | 0, _, _ => none
  | n + 1, l1, v =>
    (if 4 ≤ l1 then (kk  v) else ze_in l1 4 (ze_in l1 4 (ze_lev (ze_u v 79 (Int32.toNatClampNeg l1) (v 77 (Int32.toNatClampNeg l1))) (fun v13 => ze_let (l1 + 1) (fun x14 => (f_M_read_L68   kk n x14 v13))))))
def f_M_read   (v : ze_H) : Option (Int32 × ze_H) :=
  ze_let 0 (fun x1 => (f_M_read_L2   (fun  v6 => ze_let 0 (fun x7 => (f_M_read_L34   (fun  v11 => ze_let 0 (fun x12 => (f_M_read_L68   (fun  v15 => ze_lev (ze_u v15 75 18 0) (fun v16 => ze_lev (ze_u v16 75 22 0) (fun v17 => ze_lev (ze_u v17 75 29 0) (fun v18 => some (0, v18))))) 200000 x12 v11))) 200000 x7 v6))) 200000 x1 v))
set_option maxHeartbeats 4000000 in
set_option maxRecDepth 100000 in
theorem w_M_read_L2 {G : ze_G}  (X : ze_X G bc_M_read cn_M 3 5 119) (Y : ze_Ri G .int)      {kk : ze_H → Option (Int32 × ze_H)} (hkk : ∀ (v : ze_H), ze_T G (kk  v) v 32 [some (.inr 75), none, none] []) : ∀ (n : Nat) (l1 : Int32) (v : ze_H), ze_T G (f_M_read_L2   kk n l1 v) v 2 [some (.inr 75), some (.inl l1), none] [] := by
  intro n
  induction n with
  | zero => intro l1 v; exact ze_none
  | succ n ih =>
    intro l1 v
    refine ze_iload_n X dc_M_read_2 rfl rfl ?_
    refine ze_iconst (x := 4) X dc_M_read_3 (by decide) ?_
    refine ze_icmp_ge (tgt := 32) X dc_M_read_4 (by decide) (fun _ => ?_) (fun _ => ?_)
    · refine ze_weak [true, false, false] ?_
      exact hkk  v
    · refine ze_aload_n X dc_M_read_7 rfl rfl ?_
      refine ze_iload_n X dc_M_read_8 rfl rfl ?_
      refine ze_callVi (As := [.inl l1]) (st := []) X dc_M_read_9 zc_M_185 sh_75 (fun zr zv zh => c_M_errorOf X.2.2.2.2.2.2.1  l1  v zh) rfl (by decide) (by decide) (Nat.le_of_ble_eq_true rfl) (fun r2 v3 => ?_)
      refine ze_istore_n X dc_M_read_12 rfl (by decide) (fun x4 => ?_)
      refine ze_iload_n X dc_M_read_13 rfl rfl ?_
      refine ze_if_lt (tgt := 26) X dc_M_read_14 (by decide) (fun _ => ?_) (fun _ => ?_)
      · refine ze_iinc (y := 1) X dc_M_read_26 rfl (by decide) (by decide) (fun x5 => ?_)
        refine ze_goto (tgt := 2) X dc_M_read_29 (by decide) ?_
        refine ze_weak [true, true, false] ?_
        exact ih x5 v3
      · refine ze_bipush (x := 100) X dc_M_read_17 (by decide) ?_
        refine ze_iload_n X dc_M_read_19 rfl rfl ?_
        refine ze_iconst (x := 1) X dc_M_read_20 (by decide) ?_
        refine ze_iadd X dc_M_read_21 ?_
        refine ze_imul X dc_M_read_22 ?_
        refine ze_iload_n X dc_M_read_23 rfl rfl ?_
        refine ze_iadd X dc_M_read_24 ?_
        exact ze_iret X Y (vp_nar_int _) dc_M_read_25
set_option maxHeartbeats 4000000 in
set_option maxRecDepth 100000 in
theorem w_M_read_L34 {G : ze_G}  (X : ze_X G bc_M_read cn_M 3 5 119) (Y : ze_Ri G .int)      {kk : ze_H → Option (Int32 × ze_H)} (hkk : ∀ (v : ze_H), ze_T G (kk  v) v 66 [some (.inr 75), none, none] []) : ∀ (n : Nat) (l1 : Int32) (v : ze_H), ze_T G (f_M_read_L34   kk n l1 v) v 34 [some (.inr 75), some (.inl l1), none] [] := by
  intro n
  induction n with
  | zero => intro l1 v; exact ze_none
  | succ n ih =>
    intro l1 v
    refine ze_iload_n X dc_M_read_34 rfl rfl ?_
    refine ze_sipush (x := 160) X dc_M_read_35 (by decide) ?_
    refine ze_icmp_ge (tgt := 66) X dc_M_read_38 (by decide) (fun _ => ?_) (fun _ => ?_)
    · refine ze_weak [true, false, false] ?_
      exact hkk  v
    · refine ze_aload_n X dc_M_read_41 rfl rfl ?_
      refine ze_getr X dc_M_read_42 zf_M_17 sh_75 rfl ?_
      refine ze_iload_n X dc_M_read_45 rfl rfl ?_
      refine ze_aload_n X dc_M_read_46 rfl rfl ?_
      refine ze_getr X dc_M_read_47 zf_M_7 sh_75 rfl ?_
      refine ze_iload_n X dc_M_read_50 rfl rfl ?_
      refine ze_cald X dc_M_read_51 sh_76 rfl (fun _ => ?_)
      refine ze_cast X dc_M_read_52 sh_78 rfl (fun v8 _ => ?_)
      refine ze_aload_n X dc_M_read_53 rfl rfl ?_
      refine ze_getr X dc_M_read_54 zf_M_96 sh_75 rfl ?_
      refine ze_iload_n X dc_M_read_57 rfl rfl ?_
      refine ze_iconst (x := 0) X dc_M_read_58 (by decide) ?_
      refine ze_iast X dc_M_read_59 sh_104 rfl (fun v9 _ => ?_)
      refine ze_iinc (y := 1) X dc_M_read_60 rfl (by decide) (by decide) (fun x10 => ?_)
      refine ze_goto (tgt := 34) X dc_M_read_63 (by decide) ?_
      refine ze_weak [true, true, false] ?_
      exact ih x10 v9
set_option maxHeartbeats 4000000 in
set_option maxRecDepth 100000 in
theorem w_M_read_L68 {G : ze_G}  (X : ze_X G bc_M_read cn_M 3 5 119) (Y : ze_Ri G .int)      {kk : ze_H → Option (Int32 × ze_H)} (hkk : ∀ (v : ze_H), ze_T G (kk  v) v 91 [some (.inr 75), none, none] []) : ∀ (n : Nat) (l1 : Int32) (v : ze_H), ze_T G (f_M_read_L68   kk n l1 v) v 68 [some (.inr 75), some (.inl l1), none] [] := by
  intro n
  induction n with
  | zero => intro l1 v; exact ze_none
  | succ n ih =>
    intro l1 v
    refine ze_iload_n X dc_M_read_68 rfl rfl ?_
    refine ze_iconst (x := 4) X dc_M_read_69 (by decide) ?_
    refine ze_icmp_ge (tgt := 91) X dc_M_read_70 (by decide) (fun _ => ?_) (fun _ => ?_)
    · refine ze_weak [true, false, false] ?_
      exact hkk  v
    · refine ze_aload_n X dc_M_read_73 rfl rfl ?_
      refine ze_getr X dc_M_read_74 zf_M_20 sh_75 rfl ?_
      refine ze_iload_n X dc_M_read_77 rfl rfl ?_
      refine ze_aload_n X dc_M_read_78 rfl rfl ?_
      refine ze_getr X dc_M_read_79 zf_M_13 sh_75 rfl ?_
      refine ze_iload_n X dc_M_read_82 rfl rfl ?_
      refine ze_iald X dc_M_read_83 sh_77 rfl (fun _ => ?_)
      refine ze_iast X dc_M_read_84 sh_79 rfl (fun v13 _ => ?_)
      refine ze_iinc (y := 1) X dc_M_read_85 rfl (by decide) (by decide) (fun x14 => ?_)
      refine ze_goto (tgt := 68) X dc_M_read_88 (by decide) ?_
      refine ze_weak [true, true, false] ?_
      exact ih x14 v13
set_option maxHeartbeats 4000000 in
set_option maxRecDepth 100000 in
theorem w_M_read {G : ze_G}  (X : ze_X G bc_M_read cn_M 3 5 119) (Y : ze_Ri G .int)      (v : ze_H) : ze_T G (f_M_read   v) v 0 [some (.inr 75), none, none] [] := by
  refine ze_iconst (x := 0) X dc_M_read_0 (by decide) ?_
  refine ze_istore_n X dc_M_read_1 rfl (by decide) (fun x1 => ?_)
  refine ze_weak [true, true, false] ?_
  refine w_M_read_L2 X Y      (fun  v6 => ?_) 200000 x1 v
  refine ze_iconst (x := 0) X dc_M_read_32 (by decide) ?_
  refine ze_istore_n X dc_M_read_33 rfl (by decide) (fun x7 => ?_)
  refine ze_weak [true, true, false] ?_
  refine w_M_read_L34 X Y      (fun  v11 => ?_) 200000 x7 v6
  refine ze_iconst (x := 0) X dc_M_read_66 (by decide) ?_
  refine ze_istore_n X dc_M_read_67 rfl (by decide) (fun x12 => ?_)
  refine ze_weak [true, true, false] ?_
  refine w_M_read_L68 X Y      (fun  v15 => ?_) 200000 x12 v11
  refine ze_aload_n X dc_M_read_91 rfl rfl ?_
  refine ze_iconst (x := 0) X dc_M_read_92 (by decide) ?_
  refine ze_puti X dc_M_read_93 zp_M_189 sh_75 rfl (fun v16 => ?_)
  refine ze_aload_n X dc_M_read_96 rfl rfl ?_
  refine ze_iconst (x := 0) X dc_M_read_97 (by decide) ?_
  refine ze_puti X dc_M_read_98 zp_M_192 sh_75 rfl (fun v17 => ?_)
  refine ze_aload_n X dc_M_read_101 rfl rfl ?_
  refine ze_iconst (x := 0) X dc_M_read_102 (by decide) ?_
  refine ze_puti X dc_M_read_103 zp_M_195 sh_75 rfl (fun v18 => ?_)
  refine ze_iconst (x := 0) X dc_M_read_106 (by decide) ?_
  exact ze_iret X Y (vp_nar_int _) dc_M_read_107
set_option maxHeartbeats 4000000 in
set_option maxRecDepth 100000 in
theorem c_M_read {l : Launch} {D : va_G} {ad : Nat → Nat} {ca : Nat → ClassId} (hD : va_D (ze_A ad) (ze_ws ze_sh ad ca (fun _ _ => 0)))       (v : ze_H) {r : Int32} {v1 : ze_H} (h : f_M_read   v = some (r, v1)) : ze_Mi l D ad ca my_M_read bc_M_read 3 .int 5 119 [.inr 75] v r v1 := ze_Mi_of (plainFor_of_name (by decide)) hD (Nat.le_of_ble_eq_true rfl) (fun G e1 e2 e3 e4 X Y => w_M_read X Y      v) h
def f_M_clause  (a1 : Int32) (a2 : Int32) (a3 : Int32) (a4 : Int32) (a5 : Int32) (v : ze_H) : Option (Int32 × ze_H) :=
  ze_call (f_M_outside  a1 1 7 v) (fun r1 v2 => (if r1 = 0 then ze_call (f_M_outside  a2 0 5 v2) (fun r3 v4 => (if r3 = 0 then ze_call (f_M_outside  a3 0 20 v4) (fun r5 v6 => (if r5 = 0 then (if (v6 75 7) < 4 then ze_in (v6 75 7) 4 (ze_lev (ze_u v6 81 (Int32.toNatClampNeg (v6 75 7)) a1) (fun v7 => ze_in (v7 75 7) 4 (ze_lev (ze_u v7 82 (Int32.toNatClampNeg (v7 75 7)) a2) (fun v8 => ze_in (v8 75 7) 4 (ze_lev (ze_u v8 83 (Int32.toNatClampNeg (v8 75 7)) a3) (fun v9 => ze_in (v9 75 7) 4 (ze_lev (ze_u v9 84 (Int32.toNatClampNeg (v9 75 7)) (vp_nar .boolean a4)) (fun v10 => ze_in (v10 75 7) 4 (ze_lev (ze_u v10 85 (Int32.toNatClampNeg (v10 75 7)) (vp_nar .boolean a5)) (fun v11 => ze_lev (ze_u v11 75 7 ((v11 75 7) + 1)) (fun v12 => some (1, v12)))))))))))) else some (0, v6)) else some (0, v6))) else some (0, v4))) else some (0, v2)))
set_option maxHeartbeats 4000000 in
set_option maxRecDepth 100000 in
theorem w_M_clause {G : ze_G}  (X : ze_X G bc_M_clause cn_M 6 1 22) (Y : ze_Ri G .boolean)    (a1 : Int32) (a2 : Int32) (a3 : Int32) (a4 : Int32) (a5 : Int32)  (v : ze_H) : ze_T G (f_M_clause  a1 a2 a3 a4 a5 v) v 0 [some (.inr 75), some (.inl a1), some (.inl a2), some (.inl a3), some (.inl a4), some (.inl a5)] [] := by
  refine ze_iload_n X dc_M_clause_0 rfl rfl ?_
  refine ze_iconst (x := 1) X dc_M_clause_1 (by decide) ?_
  refine ze_bipush (x := 7) X dc_M_clause_2 (by decide) ?_
  refine ze_callSi (As := [.inl a1, .inl 1, .inl 7]) (st := []) X dc_M_clause_4 zc_M_144 (fun zr zv zh => c_M_outside X.2.2.2.2.2.2.1  a1 1 7  v zh) rfl (by decide) (by decide) (Nat.le_of_ble_eq_true rfl) (fun r1 v2 => ?_)
  refine ze_if_ne (tgt := 37) X dc_M_clause_7 (by decide) (fun _ => ?_) (fun _ => ?_)
  · refine ze_iload_n X dc_M_clause_10 rfl rfl ?_
    refine ze_iconst (x := 0) X dc_M_clause_11 (by decide) ?_
    refine ze_iconst (x := 5) X dc_M_clause_12 (by decide) ?_
    refine ze_callSi (As := [.inl a2, .inl 0, .inl 5]) (st := []) X dc_M_clause_13 zc_M_144 (fun zr zv zh => c_M_outside X.2.2.2.2.2.2.1  a2 0 5  v2 zh) rfl (by decide) (by decide) (Nat.le_of_ble_eq_true rfl) (fun r3 v4 => ?_)
    refine ze_if_ne (tgt := 37) X dc_M_clause_16 (by decide) (fun _ => ?_) (fun _ => ?_)
    · refine ze_iload_n X dc_M_clause_19 rfl rfl ?_
      refine ze_iconst (x := 0) X dc_M_clause_20 (by decide) ?_
      refine ze_bipush (x := 20) X dc_M_clause_21 (by decide) ?_
      refine ze_callSi (As := [.inl a3, .inl 0, .inl 20]) (st := []) X dc_M_clause_23 zc_M_144 (fun zr zv zh => c_M_outside X.2.2.2.2.2.2.1  a3 0 20  v4 zh) rfl (by decide) (by decide) (Nat.le_of_ble_eq_true rfl) (fun r5 v6 => ?_)
      refine ze_if_ne (tgt := 37) X dc_M_clause_26 (by decide) (fun _ => ?_) (fun _ => ?_)
      · refine ze_aload_n X dc_M_clause_29 rfl rfl ?_
        refine ze_geti X dc_M_clause_30 zf_M_198 sh_75 rfl ?_
        refine ze_iconst (x := 4) X dc_M_clause_33 (by decide) ?_
        refine ze_icmp_lt (tgt := 39) X dc_M_clause_34 (by decide) (fun _ => ?_) (fun _ => ?_)
        · refine ze_aload_n X dc_M_clause_39 rfl rfl ?_
          refine ze_getr X dc_M_clause_40 zf_M_26 sh_75 rfl ?_
          refine ze_aload_n X dc_M_clause_43 rfl rfl ?_
          refine ze_geti X dc_M_clause_44 zf_M_198 sh_75 rfl ?_
          refine ze_iload_n X dc_M_clause_47 rfl rfl ?_
          refine ze_iast X dc_M_clause_48 sh_81 rfl (fun v7 _ => ?_)
          refine ze_aload_n X dc_M_clause_49 rfl rfl ?_
          refine ze_getr X dc_M_clause_50 zf_M_29 sh_75 rfl ?_
          refine ze_aload_n X dc_M_clause_53 rfl rfl ?_
          refine ze_geti X dc_M_clause_54 zf_M_198 sh_75 rfl ?_
          refine ze_iload_n X dc_M_clause_57 rfl rfl ?_
          refine ze_iast X dc_M_clause_58 sh_82 rfl (fun v8 _ => ?_)
          refine ze_aload_n X dc_M_clause_59 rfl rfl ?_
          refine ze_getr X dc_M_clause_60 zf_M_32 sh_75 rfl ?_
          refine ze_aload_n X dc_M_clause_63 rfl rfl ?_
          refine ze_geti X dc_M_clause_64 zf_M_198 sh_75 rfl ?_
          refine ze_iload_n X dc_M_clause_67 rfl rfl ?_
          refine ze_iast X dc_M_clause_68 sh_83 rfl (fun v9 _ => ?_)
          refine ze_aload_n X dc_M_clause_69 rfl rfl ?_
          refine ze_getr X dc_M_clause_70 zf_M_35 sh_75 rfl ?_
          refine ze_aload_n X dc_M_clause_73 rfl rfl ?_
          refine ze_geti X dc_M_clause_74 zf_M_198 sh_75 rfl ?_
          refine ze_iload X dc_M_clause_77 rfl ?_
          refine ze_zast X dc_M_clause_79 sh_84 rfl (fun v10 _ => ?_)
          refine ze_aload_n X dc_M_clause_80 rfl rfl ?_
          refine ze_getr X dc_M_clause_81 zf_M_39 sh_75 rfl ?_
          refine ze_aload_n X dc_M_clause_84 rfl rfl ?_
          refine ze_geti X dc_M_clause_85 zf_M_198 sh_75 rfl ?_
          refine ze_iload X dc_M_clause_88 rfl ?_
          refine ze_zast X dc_M_clause_90 sh_85 rfl (fun v11 _ => ?_)
          refine ze_aload_n X dc_M_clause_91 rfl rfl ?_
          refine ze_dup X dc_M_clause_92 ?_
          refine ze_geti X dc_M_clause_93 zf_M_198 sh_75 rfl ?_
          refine ze_iconst (x := 1) X dc_M_clause_96 (by decide) ?_
          refine ze_iadd X dc_M_clause_97 ?_
          refine ze_puti X dc_M_clause_98 zp_M_198 sh_75 rfl (fun v12 => ?_)
          refine ze_iconst (x := 1) X dc_M_clause_101 (by decide) ?_
          exact ze_iret X Y rfl dc_M_clause_102
        · refine ze_iconst (x := 0) X dc_M_clause_37 (by decide) ?_
          exact ze_iret X Y rfl dc_M_clause_38
      · refine ze_iconst (x := 0) X dc_M_clause_37 (by decide) ?_
        exact ze_iret X Y rfl dc_M_clause_38
    · refine ze_iconst (x := 0) X dc_M_clause_37 (by decide) ?_
      exact ze_iret X Y rfl dc_M_clause_38
  · refine ze_iconst (x := 0) X dc_M_clause_37 (by decide) ?_
    exact ze_iret X Y rfl dc_M_clause_38
set_option maxHeartbeats 4000000 in
set_option maxRecDepth 100000 in
theorem c_M_clause {l : Launch} {D : va_G} {ad : Nat → Nat} {ca : Nat → ClassId} (hD : va_D (ze_A ad) (ze_ws ze_sh ad ca (fun _ _ => 0)))     (a1 : Int32) (a2 : Int32) (a3 : Int32) (a4 : Int32) (a5 : Int32)  (v : ze_H) {r : Int32} {v1 : ze_H} (h : f_M_clause  a1 a2 a3 a4 a5 v = some (r, v1)) : ze_Mi l D ad ca my_M_clause bc_M_clause 6 .boolean 1 22 [.inr 75, .inl a1, .inl a2, .inl a3, .inl a4, .inl a5] v r v1 := ze_Mi_of (plainFor_of_name (by decide)) hD (Nat.le_of_ble_eq_true rfl) (fun G e1 e2 e3 e4 X Y => w_M_clause X Y    a1 a2 a3 a4 a5  v) h
def f_M_forget   (v : ze_H) : Option (Int32 × ze_H) :=
  ze_lev (ze_u v 75 7 0) (fun v1 => some (0, v1))
set_option maxHeartbeats 4000000 in
set_option maxRecDepth 100000 in
theorem w_M_forget {G : ze_G}  (X : ze_X G bc_M_forget cn_M 1 0 0) (Y : ze_Rv G)      (v : ze_H) : ze_T G (f_M_forget   v) v 0 [some (.inr 75)] [] := by
  refine ze_aload_n X dc_M_forget_0 rfl rfl ?_
  refine ze_iconst (x := 0) X dc_M_forget_1 (by decide) ?_
  refine ze_puti X dc_M_forget_2 zp_M_198 sh_75 rfl (fun v1 => ?_)
  exact ze_vret X Y dc_M_forget_5
set_option maxHeartbeats 4000000 in
set_option maxRecDepth 100000 in
theorem c_M_forget {l : Launch} {D : va_G} {ad : Nat → Nat} {ca : Nat → ClassId} (hD : va_D (ze_A ad) (ze_ws ze_sh ad ca (fun _ _ => 0)))       (v : ze_H) {r : Int32} {v1 : ze_H} (h : f_M_forget   v = some (r, v1)) : ze_Mv l D ad ca my_M_forget bc_M_forget 1 0 0 [.inr 75] v v1 := ze_Mv_of (plainFor_of_name (by decide)) hD (Nat.le_of_ble_eq_true rfl) (fun G e1 e2 e3 e4 X Y => w_M_forget X Y      v) h
def f_M_fail  (a1 : Int32) (a2 : Int32) (a3 : Int32) (v : ze_H) : Option (Int32 × ze_H) :=
  ze_call (f_M_outside  a1 0 3 v) (fun r1 v2 => (if r1 = 0 then ze_call (f_M_outside  a2 0 9 v2) (fun r3 v4 => (if r3 = 0 then ze_call (f_M_outside  a3 1 7 v4) (fun r5 v6 => (if r5 = 0 then ze_in a1 4 (ze_lev (ze_u v6 86 (Int32.toNatClampNeg a1) a2) (fun v7 => ze_in a1 4 (ze_lev (ze_u v7 87 (Int32.toNatClampNeg a1) a3) (fun v8 => some (1, v8))))) else some (0, v6))) else some (0, v4))) else some (0, v2)))
set_option maxHeartbeats 4000000 in
set_option maxRecDepth 100000 in
theorem w_M_fail {G : ze_G}  (X : ze_X G bc_M_fail cn_M 4 1 22) (Y : ze_Ri G .boolean)    (a1 : Int32) (a2 : Int32) (a3 : Int32)  (v : ze_H) : ze_T G (f_M_fail  a1 a2 a3 v) v 0 [some (.inr 75), some (.inl a1), some (.inl a2), some (.inl a3)] [] := by
  refine ze_iload_n X dc_M_fail_0 rfl rfl ?_
  refine ze_iconst (x := 0) X dc_M_fail_1 (by decide) ?_
  refine ze_iconst (x := 3) X dc_M_fail_2 (by decide) ?_
  refine ze_callSi (As := [.inl a1, .inl 0, .inl 3]) (st := []) X dc_M_fail_3 zc_M_144 (fun zr zv zh => c_M_outside X.2.2.2.2.2.2.1  a1 0 3  v zh) rfl (by decide) (by decide) (Nat.le_of_ble_eq_true rfl) (fun r1 v2 => ?_)
  refine ze_if_ne (tgt := 29) X dc_M_fail_6 (by decide) (fun _ => ?_) (fun _ => ?_)
  · refine ze_iload_n X dc_M_fail_9 rfl rfl ?_
    refine ze_iconst (x := 0) X dc_M_fail_10 (by decide) ?_
    refine ze_bipush (x := 9) X dc_M_fail_11 (by decide) ?_
    refine ze_callSi (As := [.inl a2, .inl 0, .inl 9]) (st := []) X dc_M_fail_13 zc_M_144 (fun zr zv zh => c_M_outside X.2.2.2.2.2.2.1  a2 0 9  v2 zh) rfl (by decide) (by decide) (Nat.le_of_ble_eq_true rfl) (fun r3 v4 => ?_)
    refine ze_if_ne (tgt := 29) X dc_M_fail_16 (by decide) (fun _ => ?_) (fun _ => ?_)
    · refine ze_iload_n X dc_M_fail_19 rfl rfl ?_
      refine ze_iconst (x := 1) X dc_M_fail_20 (by decide) ?_
      refine ze_bipush (x := 7) X dc_M_fail_21 (by decide) ?_
      refine ze_callSi (As := [.inl a3, .inl 1, .inl 7]) (st := []) X dc_M_fail_23 zc_M_144 (fun zr zv zh => c_M_outside X.2.2.2.2.2.2.1  a3 1 7  v4 zh) rfl (by decide) (by decide) (Nat.le_of_ble_eq_true rfl) (fun r5 v6 => ?_)
      refine ze_if_eq (tgt := 31) X dc_M_fail_26 (by decide) (fun _ => ?_) (fun _ => ?_)
      · refine ze_aload_n X dc_M_fail_31 rfl rfl ?_
        refine ze_getr X dc_M_fail_32 zf_M_42 sh_75 rfl ?_
        refine ze_iload_n X dc_M_fail_35 rfl rfl ?_
        refine ze_iload_n X dc_M_fail_36 rfl rfl ?_
        refine ze_iast X dc_M_fail_37 sh_86 rfl (fun v7 _ => ?_)
        refine ze_aload_n X dc_M_fail_38 rfl rfl ?_
        refine ze_getr X dc_M_fail_39 zf_M_45 sh_75 rfl ?_
        refine ze_iload_n X dc_M_fail_42 rfl rfl ?_
        refine ze_iload_n X dc_M_fail_43 rfl rfl ?_
        refine ze_iast X dc_M_fail_44 sh_87 rfl (fun v8 _ => ?_)
        refine ze_iconst (x := 1) X dc_M_fail_45 (by decide) ?_
        exact ze_iret X Y rfl dc_M_fail_46
      · refine ze_iconst (x := 0) X dc_M_fail_29 (by decide) ?_
        exact ze_iret X Y rfl dc_M_fail_30
    · refine ze_iconst (x := 0) X dc_M_fail_29 (by decide) ?_
      exact ze_iret X Y rfl dc_M_fail_30
  · refine ze_iconst (x := 0) X dc_M_fail_29 (by decide) ?_
    exact ze_iret X Y rfl dc_M_fail_30
set_option maxHeartbeats 4000000 in
set_option maxRecDepth 100000 in
theorem c_M_fail {l : Launch} {D : va_G} {ad : Nat → Nat} {ca : Nat → ClassId} (hD : va_D (ze_A ad) (ze_ws ze_sh ad ca (fun _ _ => 0)))     (a1 : Int32) (a2 : Int32) (a3 : Int32)  (v : ze_H) {r : Int32} {v1 : ze_H} (h : f_M_fail  a1 a2 a3 v = some (r, v1)) : ze_Mi l D ad ca my_M_fail bc_M_fail 4 .boolean 1 22 [.inr 75, .inl a1, .inl a2, .inl a3] v r v1 := ze_Mi_of (plainFor_of_name (by decide)) hD (Nat.le_of_ble_eq_true rfl) (fun G e1 e2 e3 e4 X Y => w_M_fail X Y    a1 a2 a3  v) h
def f_M_clauseFor_L12  (b1 : Int32) (b2 : Int32) (kk : ze_H → Option (Int32 × ze_H)) : Nat → Int32 → ze_H → Option (Int32 × ze_H)
  | 0, _, _ => none
  | n + 1, l3, v =>
    (if l3 ≤ 0 then (kk  v) else ze_in b2 4 ((if (v 81 (Int32.toNatClampNeg b2)) = l3 then some (b2, v) else (if (2 : Int32) = 0 then none else ze_let (l3 / 2) (fun x3 => (f_M_clauseFor_L12  b1 b2 kk n x3 v))))))
def f_M_clauseFor_L2  (b1 : Int32) (kk : ze_H → Option (Int32 × ze_H)) : Nat → Int32 → ze_H → Option (Int32 × ze_H)
  | 0, _, _ => none
  | n + 1, l2, v =>
    (if (v 75 7) ≤ l2 then (kk  v) else ze_let b1 (fun x2 => (f_M_clauseFor_L12  b1 l2 (fun  v4 => ze_let (l2 + 1) (fun x5 => (f_M_clauseFor_L2  b1 kk n x5 v4))) 200000 x2 v)))
def f_M_clauseFor  (a1 : Int32) (v : ze_H) : Option (Int32 × ze_H) :=
  ze_let 0 (fun x1 => (f_M_clauseFor_L2  a1 (fun  v6 => some ((-1), v6)) 200000 x1 v))
set_option maxHeartbeats 4000000 in
set_option maxRecDepth 100000 in
theorem w_M_clauseFor_L12 {G : ze_G}  (X : ze_X G bc_M_clauseFor cn_M 4 0 0) (Y : ze_Ri G .int)    (b1 : Int32) (b2 : Int32)  {kk : ze_H → Option (Int32 × ze_H)} (hkk : ∀ (v : ze_H), ze_T G (kk  v) v 35 [some (.inr 75), some (.inl b1), some (.inl b2), none] []) : ∀ (n : Nat) (l3 : Int32) (v : ze_H), ze_T G (f_M_clauseFor_L12  b1 b2 kk n l3 v) v 12 [some (.inr 75), some (.inl b1), some (.inl b2), some (.inl l3)] [] := by
  intro n
  induction n with
  | zero => intro l3 v; exact ze_none
  | succ n ih =>
    intro l3 v
    refine ze_iload_n X dc_M_clauseFor_12 rfl rfl ?_
    refine ze_if_le (tgt := 35) X dc_M_clauseFor_13 (by decide) (fun _ => ?_) (fun _ => ?_)
    · refine ze_weak [true, true, true, false] ?_
      exact hkk  v
    · refine ze_aload_n X dc_M_clauseFor_16 rfl rfl ?_
      refine ze_getr X dc_M_clauseFor_17 zf_M_26 sh_75 rfl ?_
      refine ze_iload_n X dc_M_clauseFor_20 rfl rfl ?_
      refine ze_iald X dc_M_clauseFor_21 sh_81 rfl (fun _ => ?_)
      refine ze_iload_n X dc_M_clauseFor_22 rfl rfl ?_
      refine ze_icmp_ne (tgt := 28) X dc_M_clauseFor_23 (by decide) (fun _ => ?_) (fun _ => ?_)
      · refine ze_iload_n X dc_M_clauseFor_26 rfl rfl ?_
        exact ze_iret X Y (vp_nar_int _) dc_M_clauseFor_27
      · refine ze_iload_n X dc_M_clauseFor_28 rfl rfl ?_
        refine ze_iconst (x := 2) X dc_M_clauseFor_29 (by decide) ?_
        refine ze_idiv X dc_M_clauseFor_30 (fun _ => ?_)
        refine ze_istore_n X dc_M_clauseFor_31 rfl (by decide) (fun x3 => ?_)
        refine ze_goto (tgt := 12) X dc_M_clauseFor_32 (by decide) ?_
        refine ze_weak [true, true, true, true] ?_
        exact ih x3 v
set_option maxHeartbeats 4000000 in
set_option maxRecDepth 100000 in
theorem w_M_clauseFor_L2 {G : ze_G}  (X : ze_X G bc_M_clauseFor cn_M 4 0 0) (Y : ze_Ri G .int)    (b1 : Int32)  {kk : ze_H → Option (Int32 × ze_H)} (hkk : ∀ (v : ze_H), ze_T G (kk  v) v 41 [none, none, none, none] []) : ∀ (n : Nat) (l2 : Int32) (v : ze_H), ze_T G (f_M_clauseFor_L2  b1 kk n l2 v) v 2 [some (.inr 75), some (.inl b1), some (.inl l2), none] [] := by
  intro n
  induction n with
  | zero => intro l2 v; exact ze_none
  | succ n ih =>
    intro l2 v
    refine ze_iload_n X dc_M_clauseFor_2 rfl rfl ?_
    refine ze_aload_n X dc_M_clauseFor_3 rfl rfl ?_
    refine ze_geti X dc_M_clauseFor_4 zf_M_198 sh_75 rfl ?_
    refine ze_icmp_ge (tgt := 41) X dc_M_clauseFor_7 (by decide) (fun _ => ?_) (fun _ => ?_)
    · refine ze_weak [false, false, false, false] ?_
      exact hkk  v
    · refine ze_iload_n X dc_M_clauseFor_10 rfl rfl ?_
      refine ze_istore_n X dc_M_clauseFor_11 rfl (by decide) (fun x2 => ?_)
      refine ze_weak [true, true, true, true] ?_
      refine w_M_clauseFor_L12 X Y    b1 l2  (fun  v4 => ?_) 200000 x2 v
      refine ze_iinc (y := 1) X dc_M_clauseFor_35 rfl (by decide) (by decide) (fun x5 => ?_)
      refine ze_goto (tgt := 2) X dc_M_clauseFor_38 (by decide) ?_
      refine ze_weak [true, true, true, false] ?_
      exact ih x5 v4
set_option maxHeartbeats 4000000 in
set_option maxRecDepth 100000 in
theorem w_M_clauseFor {G : ze_G}  (X : ze_X G bc_M_clauseFor cn_M 4 0 0) (Y : ze_Ri G .int)    (a1 : Int32)  (v : ze_H) : ze_T G (f_M_clauseFor  a1 v) v 0 [some (.inr 75), some (.inl a1), none, none] [] := by
  refine ze_iconst (x := 0) X dc_M_clauseFor_0 (by decide) ?_
  refine ze_istore_n X dc_M_clauseFor_1 rfl (by decide) (fun x1 => ?_)
  refine ze_weak [true, true, true, false] ?_
  refine w_M_clauseFor_L2 X Y    a1  (fun  v6 => ?_) 200000 x1 v
  refine ze_iconst (x := (-1)) X dc_M_clauseFor_41 (by decide) ?_
  exact ze_iret X Y (vp_nar_int _) dc_M_clauseFor_42
set_option maxHeartbeats 4000000 in
set_option maxRecDepth 100000 in
theorem c_M_clauseFor {l : Launch} {D : va_G} {ad : Nat → Nat} {ca : Nat → ClassId} (hD : va_D (ze_A ad) (ze_ws ze_sh ad ca (fun _ _ => 0)))     (a1 : Int32)  (v : ze_H) {r : Int32} {v1 : ze_H} (h : f_M_clauseFor  a1 v = some (r, v1)) : ze_Mi l D ad ca my_M_clauseFor bc_M_clauseFor 4 .int 0 0 [.inr 75, .inl a1] v r v1 := ze_Mi_of (plainFor_of_name (by decide)) hD (Nat.le_of_ble_eq_true rfl) (fun G e1 e2 e3 e4 X Y => w_M_clauseFor X Y    a1  v) h
def f_M_here  (a1 : Int32) (v : ze_H) : Option (Int32 × ze_H) :=
  ze_in (v 75 53) 4 ((if (v 79 (Int32.toNatClampNeg (v 75 53))) ≤ a1 then ze_rc 0 v else ze_in ((40 * (v 75 53)) + a1) 160 (ze_rc (v 78 (Int32.toNatClampNeg ((40 * (v 75 53)) + a1))) v)))
set_option maxHeartbeats 4000000 in
set_option maxRecDepth 100000 in
theorem w_M_here {G : ze_G}  (X : ze_X G bc_M_here cn_M 2 0 0) (Y : ze_Ri G .char)    (a1 : Int32)  (v : ze_H) : ze_T G (f_M_here  a1 v) v 0 [some (.inr 75), some (.inl a1)] [] := by
  refine ze_iload_n X dc_M_here_0 rfl rfl ?_
  refine ze_aload_n X dc_M_here_1 rfl rfl ?_
  refine ze_getr X dc_M_here_2 zf_M_20 sh_75 rfl ?_
  refine ze_aload_n X dc_M_here_5 rfl rfl ?_
  refine ze_geti X dc_M_here_6 zf_M_201 sh_75 rfl ?_
  refine ze_iald X dc_M_here_9 sh_79 rfl (fun _ => ?_)
  refine ze_icmp_ge (tgt := 30) X dc_M_here_10 (by decide) (fun _ => ?_) (fun _ => ?_)
  · refine ze_iconst (x := 0) X dc_M_here_30 (by decide) ?_
    exact ze_cret X Y dc_M_here_31
  · refine ze_aload_n X dc_M_here_13 rfl rfl ?_
    refine ze_getr X dc_M_here_14 zf_M_17 sh_75 rfl ?_
    refine ze_bipush (x := 40) X dc_M_here_17 (by decide) ?_
    refine ze_aload_n X dc_M_here_19 rfl rfl ?_
    refine ze_geti X dc_M_here_20 zf_M_201 sh_75 rfl ?_
    refine ze_imul X dc_M_here_23 ?_
    refine ze_iload_n X dc_M_here_24 rfl rfl ?_
    refine ze_iadd X dc_M_here_25 ?_
    refine ze_cald X dc_M_here_26 sh_78 rfl (fun _ => ?_)
    refine ze_goto (tgt := 31) X dc_M_here_27 (by decide) ?_
    exact ze_cret X Y dc_M_here_31
set_option maxHeartbeats 4000000 in
set_option maxRecDepth 100000 in
theorem c_M_here {l : Launch} {D : va_G} {ad : Nat → Nat} {ca : Nat → ClassId} (hD : va_D (ze_A ad) (ze_ws ze_sh ad ca (fun _ _ => 0)))     (a1 : Int32)  (v : ze_H) {r : Int32} {v1 : ze_H} (h : f_M_here  a1 v = some (r, v1)) : ze_Mi l D ad ca my_M_here bc_M_here 2 .char 0 0 [.inr 75, .inl a1] v r v1 := ze_Mi_of (plainFor_of_name (by decide)) hD (Nat.le_of_ble_eq_true rfl) (fun G e1 e2 e3 e4 X Y => w_M_here X Y    a1  v) h
def f_M_value_L7  (b1 : Int32) (kk : Int32 → ze_H → Option (Int32 × ze_H)) : Nat → Int32 → ze_H → Option (Int32 × ze_H)
  | 0, _, _ => none
  | n + 1, l2, v =>
    (if (b1 + 4) ≤ (v 75 55) then (kk l2 v) else ze_call (f_M_here  (v 75 55) v) (fun r3 v4 => ze_call (f_M_digit  r3 v4) (fun r5 v6 => (if r5 = 0 then (kk l2 v6) else ze_call (f_M_here  (v6 75 55) v6) (fun r7 v8 => ze_let (((l2 * 10) + r7) - 48) (fun x9 => ze_lev (ze_u v8 75 55 ((v8 75 55) + 1)) (fun v10 => (f_M_value_L7  b1 kk n x9 v10))))))))
def f_M_value  (a1 : Int32) (v : ze_H) : Option (Int32 × ze_H) :=
  ze_let 0 (fun x1 => ze_lev (ze_u v 75 55 a1) (fun v2 => (f_M_value_L7  a1 (fun x11 v12 => some (x11, v12)) 200000 x1 v2)))
set_option maxHeartbeats 4000000 in
set_option maxRecDepth 100000 in
theorem w_M_value_L7 {G : ze_G}  (X : ze_X G bc_M_value cn_M 3 1 21) (Y : ze_Ri G .int)    (b1 : Int32)  {kk : Int32 → ze_H → Option (Int32 × ze_H)} (hkk : ∀ (l2 : Int32) (v : ze_H), ze_T G (kk l2 v) v 61 [none, none, some (.inl l2)] []) : ∀ (n : Nat) (l2 : Int32) (v : ze_H), ze_T G (f_M_value_L7  b1 kk n l2 v) v 7 [some (.inr 75), some (.inl b1), some (.inl l2)] [] := by
  intro n
  induction n with
  | zero => intro l2 v; exact ze_none
  | succ n ih =>
    intro l2 v
    refine ze_aload_n X dc_M_value_7 rfl rfl ?_
    refine ze_geti X dc_M_value_8 zf_M_204 sh_75 rfl ?_
    refine ze_iload_n X dc_M_value_11 rfl rfl ?_
    refine ze_iconst (x := 4) X dc_M_value_12 (by decide) ?_
    refine ze_iadd X dc_M_value_13 ?_
    refine ze_icmp_ge (tgt := 61) X dc_M_value_14 (by decide) (fun _ => ?_) (fun _ => ?_)
    · refine ze_weak [false, false, true] ?_
      exact hkk l2 v
    · refine ze_aload_n X dc_M_value_17 rfl rfl ?_
      refine ze_aload_n X dc_M_value_18 rfl rfl ?_
      refine ze_geti X dc_M_value_19 zf_M_204 sh_75 rfl ?_
      refine ze_callVi (As := [.inl (v 75 55)]) (st := []) X dc_M_value_22 zc_M_207 sh_75 (fun zr zv zh => c_M_here X.2.2.2.2.2.2.1  (v 75 55)  v zh) rfl (by decide) (by decide) (Nat.le_of_ble_eq_true rfl) (fun r3 v4 => ?_)
      refine ze_callSi (As := [.inl r3]) (st := []) X dc_M_value_25 zc_M_156 (fun zr zv zh => c_M_digit X.2.2.2.2.2.2.1  r3  v4 zh) rfl (by decide) (by decide) (Nat.le_of_ble_eq_true rfl) (fun r5 v6 => ?_)
      refine ze_if_eq (tgt := 61) X dc_M_value_28 (by decide) (fun _ => ?_) (fun _ => ?_)
      · refine ze_weak [false, false, true] ?_
        exact hkk l2 v6
      · refine ze_iload_n X dc_M_value_31 rfl rfl ?_
        refine ze_bipush (x := 10) X dc_M_value_32 (by decide) ?_
        refine ze_imul X dc_M_value_34 ?_
        refine ze_aload_n X dc_M_value_35 rfl rfl ?_
        refine ze_aload_n X dc_M_value_36 rfl rfl ?_
        refine ze_geti X dc_M_value_37 zf_M_204 sh_75 rfl ?_
        refine ze_callVi (As := [.inl (v6 75 55)]) (st := [.inl (l2 * 10)]) X dc_M_value_40 zc_M_207 sh_75 (fun zr zv zh => c_M_here X.2.2.2.2.2.2.1  (v6 75 55)  v6 zh) rfl (by decide) (by decide) (Nat.le_of_ble_eq_true rfl) (fun r7 v8 => ?_)
        refine ze_iadd X dc_M_value_43 ?_
        refine ze_bipush (x := 48) X dc_M_value_44 (by decide) ?_
        refine ze_isub X dc_M_value_46 ?_
        refine ze_istore_n X dc_M_value_47 rfl (by decide) (fun x9 => ?_)
        refine ze_aload_n X dc_M_value_48 rfl rfl ?_
        refine ze_dup X dc_M_value_49 ?_
        refine ze_geti X dc_M_value_50 zf_M_204 sh_75 rfl ?_
        refine ze_iconst (x := 1) X dc_M_value_53 (by decide) ?_
        refine ze_iadd X dc_M_value_54 ?_
        refine ze_puti X dc_M_value_55 zp_M_204 sh_75 rfl (fun v10 => ?_)
        refine ze_goto (tgt := 7) X dc_M_value_58 (by decide) ?_
        refine ze_weak [true, true, true] ?_
        exact ih x9 v10
set_option maxHeartbeats 4000000 in
set_option maxRecDepth 100000 in
theorem w_M_value {G : ze_G}  (X : ze_X G bc_M_value cn_M 3 1 21) (Y : ze_Ri G .int)    (a1 : Int32)  (v : ze_H) : ze_T G (f_M_value  a1 v) v 0 [some (.inr 75), some (.inl a1), none] [] := by
  refine ze_iconst (x := 0) X dc_M_value_0 (by decide) ?_
  refine ze_istore_n X dc_M_value_1 rfl (by decide) (fun x1 => ?_)
  refine ze_aload_n X dc_M_value_2 rfl rfl ?_
  refine ze_iload_n X dc_M_value_3 rfl rfl ?_
  refine ze_puti X dc_M_value_4 zp_M_204 sh_75 rfl (fun v2 => ?_)
  refine ze_weak [true, true, true] ?_
  refine w_M_value_L7 X Y    a1  (fun x11 v12 => ?_) 200000 x1 v2
  refine ze_iload_n X dc_M_value_61 rfl rfl ?_
  exact ze_iret X Y (vp_nar_int _) dc_M_value_62
set_option maxHeartbeats 4000000 in
set_option maxRecDepth 100000 in
theorem c_M_value {l : Launch} {D : va_G} {ad : Nat → Nat} {ca : Nat → ClassId} (hD : va_D (ze_A ad) (ze_ws ze_sh ad ca (fun _ _ => 0)))     (a1 : Int32)  (v : ze_H) {r : Int32} {v1 : ze_H} (h : f_M_value  a1 v = some (r, v1)) : ze_Mi l D ad ca my_M_value bc_M_value 3 .int 1 21 [.inr 75, .inl a1] v r v1 := ze_Mi_of (plainFor_of_name (by decide)) hD (Nat.le_of_ble_eq_true rfl) (fun G e1 e2 e3 e4 X Y => w_M_value X Y    a1  v) h
def f_M_holds_J31  (b1 : Int32) (s0 : Int32) (v : ze_H) : Option (Int32 × ze_H) :=
  ze_let s0 (fun x3 => ze_call (f_M_here  (b1 + 1) v) (fun r4 v5 => ze_let r4 (fun x6 => ze_call (f_M_value  (b1 + 2) v5) (fun r7 v8 => ze_let r7 (fun x9 => (if x6 = 60 then (if x9 ≤ x3 then some (0, v8) else some (1, v8)) else (if x6 = 62 then (if x3 ≤ x9 then some (0, v8) else some (1, v8)) else (if x6 = 61 then (if x3 = x9 then some (1, v8) else some (0, v8)) else (if x9 = 0 then some (0, v8) else (if (x9 : Int32) = 0 then none else (if (x3 - x3 / x9 * x9) = 0 then some (1, v8) else some (0, v8))))))))))))
def f_M_holds  (a1 : Int32) (v : ze_H) : Option (Int32 × ze_H) :=
  ze_call (f_M_here  a1 v) (fun r1 v2 => (if r1 = 98 then ze_in (v2 75 40) 16 ((f_M_holds_J31  a1 (v2 108 (Int32.toNatClampNeg (v2 75 40))) v2)) else ze_in (v2 75 40) 16 ((f_M_holds_J31  a1 (v2 109 (Int32.toNatClampNeg (v2 75 40))) v2))))
set_option maxHeartbeats 4000000 in
set_option maxRecDepth 100000 in
theorem w_M_holds_J31 {G : ze_G}  (X : ze_X G bc_M_holds cn_M 5 2 43) (Y : ze_Ri G .boolean)    (b1 : Int32) (s0 : Int32)  (v : ze_H) : ze_T G (f_M_holds_J31  b1 s0 v) v 31 [some (.inr 75), some (.inl b1), none, none, none] [.inl s0] := by
  refine ze_istore_n X dc_M_holds_31 rfl (by decide) (fun x3 => ?_)
  refine ze_aload_n X dc_M_holds_32 rfl rfl ?_
  refine ze_iload_n X dc_M_holds_33 rfl rfl ?_
  refine ze_iconst (x := 1) X dc_M_holds_34 (by decide) ?_
  refine ze_iadd X dc_M_holds_35 ?_
  refine ze_callVi (As := [.inl (b1 + 1)]) (st := []) X dc_M_holds_36 zc_M_207 sh_75 (fun zr zv zh => c_M_here X.2.2.2.2.2.2.1  (b1 + 1)  v zh) rfl (by decide) (by decide) (Nat.le_of_ble_eq_true rfl) (fun r4 v5 => ?_)
  refine ze_istore_n X dc_M_holds_39 rfl (by decide) (fun x6 => ?_)
  refine ze_aload_n X dc_M_holds_40 rfl rfl ?_
  refine ze_iload_n X dc_M_holds_41 rfl rfl ?_
  refine ze_iconst (x := 2) X dc_M_holds_42 (by decide) ?_
  refine ze_iadd X dc_M_holds_43 ?_
  refine ze_callVi (As := [.inl (b1 + 2)]) (st := []) X dc_M_holds_44 zc_M_214 sh_75 (fun zr zv zh => c_M_value X.2.2.2.2.2.2.1  (b1 + 2)  v5 zh) rfl (by decide) (by decide) (Nat.le_of_ble_eq_true rfl) (fun r7 v8 => ?_)
  refine ze_istore X dc_M_holds_47 (by decide) (fun x9 => ?_)
  refine ze_iload_n X dc_M_holds_49 rfl rfl ?_
  refine ze_bipush (x := 60) X dc_M_holds_50 (by decide) ?_
  refine ze_icmp_ne (tgt := 69) X dc_M_holds_52 (by decide) (fun _ => ?_) (fun _ => ?_)
  · refine ze_iload_n X dc_M_holds_55 rfl rfl ?_
    refine ze_iload X dc_M_holds_56 rfl ?_
    refine ze_icmp_ge (tgt := 65) X dc_M_holds_58 (by decide) (fun _ => ?_) (fun _ => ?_)
    · refine ze_iconst (x := 0) X dc_M_holds_65 (by decide) ?_
      refine ze_goto (tgt := 126) X dc_M_holds_66 (by decide) ?_
      exact ze_iret X Y rfl dc_M_holds_126
    · refine ze_iconst (x := 1) X dc_M_holds_61 (by decide) ?_
      refine ze_goto (tgt := 126) X dc_M_holds_62 (by decide) ?_
      exact ze_iret X Y rfl dc_M_holds_126
  · refine ze_iload_n X dc_M_holds_69 rfl rfl ?_
    refine ze_bipush (x := 62) X dc_M_holds_70 (by decide) ?_
    refine ze_icmp_ne (tgt := 89) X dc_M_holds_72 (by decide) (fun _ => ?_) (fun _ => ?_)
    · refine ze_iload_n X dc_M_holds_75 rfl rfl ?_
      refine ze_iload X dc_M_holds_76 rfl ?_
      refine ze_icmp_le (tgt := 85) X dc_M_holds_78 (by decide) (fun _ => ?_) (fun _ => ?_)
      · refine ze_iconst (x := 0) X dc_M_holds_85 (by decide) ?_
        refine ze_goto (tgt := 126) X dc_M_holds_86 (by decide) ?_
        exact ze_iret X Y rfl dc_M_holds_126
      · refine ze_iconst (x := 1) X dc_M_holds_81 (by decide) ?_
        refine ze_goto (tgt := 126) X dc_M_holds_82 (by decide) ?_
        exact ze_iret X Y rfl dc_M_holds_126
    · refine ze_iload_n X dc_M_holds_89 rfl rfl ?_
      refine ze_bipush (x := 61) X dc_M_holds_90 (by decide) ?_
      refine ze_icmp_ne (tgt := 109) X dc_M_holds_92 (by decide) (fun _ => ?_) (fun _ => ?_)
      · refine ze_iload_n X dc_M_holds_95 rfl rfl ?_
        refine ze_iload X dc_M_holds_96 rfl ?_
        refine ze_icmp_ne (tgt := 105) X dc_M_holds_98 (by decide) (fun _ => ?_) (fun _ => ?_)
        · refine ze_iconst (x := 1) X dc_M_holds_101 (by decide) ?_
          refine ze_goto (tgt := 126) X dc_M_holds_102 (by decide) ?_
          exact ze_iret X Y rfl dc_M_holds_126
        · refine ze_iconst (x := 0) X dc_M_holds_105 (by decide) ?_
          refine ze_goto (tgt := 126) X dc_M_holds_106 (by decide) ?_
          exact ze_iret X Y rfl dc_M_holds_126
      · refine ze_iload X dc_M_holds_109 rfl ?_
        refine ze_if_eq (tgt := 125) X dc_M_holds_111 (by decide) (fun _ => ?_) (fun _ => ?_)
        · refine ze_iconst (x := 0) X dc_M_holds_125 (by decide) ?_
          exact ze_iret X Y rfl dc_M_holds_126
        · refine ze_iload_n X dc_M_holds_114 rfl rfl ?_
          refine ze_iload X dc_M_holds_115 rfl ?_
          refine ze_irem X dc_M_holds_117 (fun _ => ?_)
          refine ze_if_ne (tgt := 125) X dc_M_holds_118 (by decide) (fun _ => ?_) (fun _ => ?_)
          · refine ze_iconst (x := 1) X dc_M_holds_121 (by decide) ?_
            refine ze_goto (tgt := 126) X dc_M_holds_122 (by decide) ?_
            exact ze_iret X Y rfl dc_M_holds_126
          · refine ze_iconst (x := 0) X dc_M_holds_125 (by decide) ?_
            exact ze_iret X Y rfl dc_M_holds_126
set_option maxHeartbeats 4000000 in
set_option maxRecDepth 100000 in
theorem w_M_holds {G : ze_G}  (X : ze_X G bc_M_holds cn_M 5 2 43) (Y : ze_Ri G .boolean)    (a1 : Int32)  (v : ze_H) : ze_T G (f_M_holds  a1 v) v 0 [some (.inr 75), some (.inl a1), none, none, none] [] := by
  refine ze_aload_n X dc_M_holds_0 rfl rfl ?_
  refine ze_iload_n X dc_M_holds_1 rfl rfl ?_
  refine ze_callVi (As := [.inl a1]) (st := []) X dc_M_holds_2 zc_M_207 sh_75 (fun zr zv zh => c_M_here X.2.2.2.2.2.2.1  a1  v zh) rfl (by decide) (by decide) (Nat.le_of_ble_eq_true rfl) (fun r1 v2 => ?_)
  refine ze_bipush (x := 98) X dc_M_holds_5 (by decide) ?_
  refine ze_icmp_ne (tgt := 22) X dc_M_holds_7 (by decide) (fun _ => ?_) (fun _ => ?_)
  · refine ze_aload_n X dc_M_holds_10 rfl rfl ?_
    refine ze_getr X dc_M_holds_11 zf_M_108 sh_75 rfl ?_
    refine ze_aload_n X dc_M_holds_14 rfl rfl ?_
    refine ze_geti X dc_M_holds_15 zf_M_211 sh_75 rfl ?_
    refine ze_iald X dc_M_holds_18 sh_108 rfl (fun _ => ?_)
    refine ze_goto (tgt := 31) X dc_M_holds_19 (by decide) ?_
    refine ze_weak [true, true, false, false, false] ?_
    exact w_M_holds_J31 X Y    a1 (v2 108 (Int32.toNatClampNeg (v2 75 40)))  v2
  · refine ze_aload_n X dc_M_holds_22 rfl rfl ?_
    refine ze_getr X dc_M_holds_23 zf_M_111 sh_75 rfl ?_
    refine ze_aload_n X dc_M_holds_26 rfl rfl ?_
    refine ze_geti X dc_M_holds_27 zf_M_211 sh_75 rfl ?_
    refine ze_iald X dc_M_holds_30 sh_109 rfl (fun _ => ?_)
    refine ze_weak [true, true, false, false, false] ?_
    exact w_M_holds_J31 X Y    a1 (v2 109 (Int32.toNatClampNeg (v2 75 40)))  v2
set_option maxHeartbeats 4000000 in
set_option maxRecDepth 100000 in
theorem c_M_holds {l : Launch} {D : va_G} {ad : Nat → Nat} {ca : Nat → ClassId} (hD : va_D (ze_A ad) (ze_ws ze_sh ad ca (fun _ _ => 0)))     (a1 : Int32)  (v : ze_H) {r : Int32} {v1 : ze_H} (h : f_M_holds  a1 v = some (r, v1)) : ze_Mi l D ad ca my_M_holds bc_M_holds 5 .boolean 2 43 [.inr 75, .inl a1] v r v1 := ze_Mi_of (plainFor_of_name (by decide)) hD (Nat.le_of_ble_eq_true rfl) (fun G e1 e2 e3 e4 X Y => w_M_holds X Y    a1  v) h
def f_M_behind_L4   (kk : ze_H → Option (Int32 × ze_H)) : Nat → Int32 → Int32 → ze_H → Option (Int32 × ze_H)
  | 0, _, _, _ => none
  | n + 1, l2, l3, v =>
    ze_in (v 75 53) 4 ((if (v 79 (Int32.toNatClampNeg (v 75 53))) ≤ l3 then (kk  v) else ze_call (f_M_here  l3 v) (fun r3 v4 => ze_let r3 (fun x5 => (if x5 = 40 then ze_let (l2 + 1) (fun x6 => (if x6 = 0 then some ((l3 + 1), v4) else ze_let (l3 + 1) (fun x7 => (f_M_behind_L4   kk n x6 x7 v4)))) else (if x5 = 41 then ze_let (l2 - 1) (fun x8 => (if x8 = 0 then some ((l3 + 1), v4) else ze_let (l3 + 1) (fun x9 => (f_M_behind_L4   kk n x8 x9 v4)))) else ze_let l2 (fun x10 => (if x10 = 0 then some ((l3 + 1), v4) else ze_let (l3 + 1) (fun x11 => (f_M_behind_L4   kk n x10 x11 v4))))))))))
def f_M_behind  (a1 : Int32) (v : ze_H) : Option (Int32 × ze_H) :=
  ze_let 0 (fun x1 => ze_let a1 (fun x2 => (f_M_behind_L4   (fun  v12 => ze_in (v12 75 53) 4 (some ((v12 79 (Int32.toNatClampNeg (v12 75 53))), v12))) 200000 x1 x2 v)))
set_option maxHeartbeats 4000000 in
set_option maxRecDepth 100000 in
theorem w_M_behind_L4 {G : ze_G}  (X : ze_X G bc_M_behind cn_M 5 1 21) (Y : ze_Ri G .int)      {kk : ze_H → Option (Int32 × ze_H)} (hkk : ∀ (v : ze_H), ze_T G (kk  v) v 66 [some (.inr 75), none, none, none, none] []) : ∀ (n : Nat) (l2 : Int32) (l3 : Int32) (v : ze_H), ze_T G (f_M_behind_L4   kk n l2 l3 v) v 4 [some (.inr 75), none, some (.inl l2), some (.inl l3), none] [] := by
  intro n
  induction n with
  | zero => intro l2 l3 v; exact ze_none
  | succ n ih =>
    intro l2 l3 v
    refine ze_iload_n X dc_M_behind_4 rfl rfl ?_
    refine ze_aload_n X dc_M_behind_5 rfl rfl ?_
    refine ze_getr X dc_M_behind_6 zf_M_20 sh_75 rfl ?_
    refine ze_aload_n X dc_M_behind_9 rfl rfl ?_
    refine ze_geti X dc_M_behind_10 zf_M_201 sh_75 rfl ?_
    refine ze_iald X dc_M_behind_13 sh_79 rfl (fun _ => ?_)
    refine ze_icmp_ge (tgt := 66) X dc_M_behind_14 (by decide) (fun _ => ?_) (fun _ => ?_)
    · refine ze_weak [true, false, false, false, false] ?_
      exact hkk  v
    · refine ze_aload_n X dc_M_behind_17 rfl rfl ?_
      refine ze_iload_n X dc_M_behind_18 rfl rfl ?_
      refine ze_callVi (As := [.inl l3]) (st := []) X dc_M_behind_19 zc_M_207 sh_75 (fun zr zv zh => c_M_here X.2.2.2.2.2.2.1  l3  v zh) rfl (by decide) (by decide) (Nat.le_of_ble_eq_true rfl) (fun r3 v4 => ?_)
      refine ze_istore X dc_M_behind_22 (by decide) (fun x5 => ?_)
      refine ze_iload X dc_M_behind_24 rfl ?_
      refine ze_bipush (x := 40) X dc_M_behind_26 (by decide) ?_
      refine ze_icmp_ne (tgt := 37) X dc_M_behind_28 (by decide) (fun _ => ?_) (fun _ => ?_)
      · refine ze_iload_n X dc_M_behind_31 rfl rfl ?_
        refine ze_iconst (x := 1) X dc_M_behind_32 (by decide) ?_
        refine ze_iadd X dc_M_behind_33 ?_
        refine ze_goto (tgt := 51) X dc_M_behind_34 (by decide) ?_
        refine ze_istore_n X dc_M_behind_51 rfl (by decide) (fun x6 => ?_)
        refine ze_iload_n X dc_M_behind_52 rfl rfl ?_
        refine ze_if_ne (tgt := 60) X dc_M_behind_53 (by decide) (fun _ => ?_) (fun _ => ?_)
        · refine ze_iload_n X dc_M_behind_56 rfl rfl ?_
          refine ze_iconst (x := 1) X dc_M_behind_57 (by decide) ?_
          refine ze_iadd X dc_M_behind_58 ?_
          exact ze_iret X Y (vp_nar_int _) dc_M_behind_59
        · refine ze_iinc (y := 1) X dc_M_behind_60 rfl (by decide) (by decide) (fun x7 => ?_)
          refine ze_goto (tgt := 4) X dc_M_behind_63 (by decide) ?_
          refine ze_weak [true, false, true, true, false] ?_
          exact ih x6 x7 v4
      · refine ze_iload X dc_M_behind_37 rfl ?_
        refine ze_bipush (x := 41) X dc_M_behind_39 (by decide) ?_
        refine ze_icmp_ne (tgt := 50) X dc_M_behind_41 (by decide) (fun _ => ?_) (fun _ => ?_)
        · refine ze_iload_n X dc_M_behind_44 rfl rfl ?_
          refine ze_iconst (x := 1) X dc_M_behind_45 (by decide) ?_
          refine ze_isub X dc_M_behind_46 ?_
          refine ze_goto (tgt := 51) X dc_M_behind_47 (by decide) ?_
          refine ze_istore_n X dc_M_behind_51 rfl (by decide) (fun x8 => ?_)
          refine ze_iload_n X dc_M_behind_52 rfl rfl ?_
          refine ze_if_ne (tgt := 60) X dc_M_behind_53 (by decide) (fun _ => ?_) (fun _ => ?_)
          · refine ze_iload_n X dc_M_behind_56 rfl rfl ?_
            refine ze_iconst (x := 1) X dc_M_behind_57 (by decide) ?_
            refine ze_iadd X dc_M_behind_58 ?_
            exact ze_iret X Y (vp_nar_int _) dc_M_behind_59
          · refine ze_iinc (y := 1) X dc_M_behind_60 rfl (by decide) (by decide) (fun x9 => ?_)
            refine ze_goto (tgt := 4) X dc_M_behind_63 (by decide) ?_
            refine ze_weak [true, false, true, true, false] ?_
            exact ih x8 x9 v4
        · refine ze_iload_n X dc_M_behind_50 rfl rfl ?_
          refine ze_istore_n X dc_M_behind_51 rfl (by decide) (fun x10 => ?_)
          refine ze_iload_n X dc_M_behind_52 rfl rfl ?_
          refine ze_if_ne (tgt := 60) X dc_M_behind_53 (by decide) (fun _ => ?_) (fun _ => ?_)
          · refine ze_iload_n X dc_M_behind_56 rfl rfl ?_
            refine ze_iconst (x := 1) X dc_M_behind_57 (by decide) ?_
            refine ze_iadd X dc_M_behind_58 ?_
            exact ze_iret X Y (vp_nar_int _) dc_M_behind_59
          · refine ze_iinc (y := 1) X dc_M_behind_60 rfl (by decide) (by decide) (fun x11 => ?_)
            refine ze_goto (tgt := 4) X dc_M_behind_63 (by decide) ?_
            refine ze_weak [true, false, true, true, false] ?_
            exact ih x10 x11 v4
set_option maxHeartbeats 4000000 in
set_option maxRecDepth 100000 in
theorem w_M_behind {G : ze_G}  (X : ze_X G bc_M_behind cn_M 5 1 21) (Y : ze_Ri G .int)    (a1 : Int32)  (v : ze_H) : ze_T G (f_M_behind  a1 v) v 0 [some (.inr 75), some (.inl a1), none, none, none] [] := by
  refine ze_iconst (x := 0) X dc_M_behind_0 (by decide) ?_
  refine ze_istore_n X dc_M_behind_1 rfl (by decide) (fun x1 => ?_)
  refine ze_iload_n X dc_M_behind_2 rfl rfl ?_
  refine ze_istore_n X dc_M_behind_3 rfl (by decide) (fun x2 => ?_)
  refine ze_weak [true, false, true, true, false] ?_
  refine w_M_behind_L4 X Y      (fun  v12 => ?_) 200000 x1 x2 v
  refine ze_aload_n X dc_M_behind_66 rfl rfl ?_
  refine ze_getr X dc_M_behind_67 zf_M_20 sh_75 rfl ?_
  refine ze_aload_n X dc_M_behind_70 rfl rfl ?_
  refine ze_geti X dc_M_behind_71 zf_M_201 sh_75 rfl ?_
  refine ze_iald X dc_M_behind_74 sh_79 rfl (fun _ => ?_)
  exact ze_iret X Y (vp_nar_int _) dc_M_behind_75
set_option maxHeartbeats 4000000 in
set_option maxRecDepth 100000 in
theorem c_M_behind {l : Launch} {D : va_G} {ad : Nat → Nat} {ca : Nat → ClassId} (hD : va_D (ze_A ad) (ze_ws ze_sh ad ca (fun _ _ => 0)))     (a1 : Int32)  (v : ze_H) {r : Int32} {v1 : ze_H} (h : f_M_behind  a1 v = some (r, v1)) : ze_Mi l D ad ca my_M_behind bc_M_behind 5 .int 1 21 [.inr 75, .inl a1] v r v1 := ze_Mi_of (plainFor_of_name (by decide)) hD (Nat.le_of_ble_eq_true rfl) (fun G e1 e2 e3 e4 X Y => w_M_behind X Y    a1  v) h
def f_M_down  (a1 : Int32) (a2 : Int32) (v : ze_H) : Option (Int32 × ze_H) :=
  (if (a2 : Int32) = 0 then none else ze_let (a1 / a2) (fun x1 => (if (a2 : Int32) = 0 then none else (if 0 ≤ (a1 - a1 / a2 * a2) then some (x1, v) else some ((x1 - 1), v)))))
set_option maxHeartbeats 4000000 in
set_option maxRecDepth 100000 in
theorem w_M_down {G : ze_G}  (X : ze_X G bc_M_down cn_M 3 0 0) (Y : ze_Ri G .int)    (a1 : Int32) (a2 : Int32)  (v : ze_H) : ze_T G (f_M_down  a1 a2 v) v 0 [some (.inl a1), some (.inl a2), none] [] := by
  refine ze_iload_n X dc_M_down_0 rfl rfl ?_
  refine ze_iload_n X dc_M_down_1 rfl rfl ?_
  refine ze_idiv X dc_M_down_2 (fun _ => ?_)
  refine ze_istore_n X dc_M_down_3 rfl (by decide) (fun x1 => ?_)
  refine ze_iload_n X dc_M_down_4 rfl rfl ?_
  refine ze_iload_n X dc_M_down_5 rfl rfl ?_
  refine ze_irem X dc_M_down_6 (fun _ => ?_)
  refine ze_if_ge (tgt := 16) X dc_M_down_7 (by decide) (fun _ => ?_) (fun _ => ?_)
  · refine ze_iload_n X dc_M_down_16 rfl rfl ?_
    exact ze_iret X Y (vp_nar_int _) dc_M_down_17
  · refine ze_iload_n X dc_M_down_10 rfl rfl ?_
    refine ze_iconst (x := 1) X dc_M_down_11 (by decide) ?_
    refine ze_isub X dc_M_down_12 ?_
    refine ze_goto (tgt := 17) X dc_M_down_13 (by decide) ?_
    exact ze_iret X Y (vp_nar_int _) dc_M_down_17
set_option maxHeartbeats 4000000 in
set_option maxRecDepth 100000 in
theorem c_M_down {l : Launch} {D : va_G} {ad : Nat → Nat} {ca : Nat → ClassId} (hD : va_D (ze_A ad) (ze_ws ze_sh ad ca (fun _ _ => 0)))     (a1 : Int32) (a2 : Int32)  (v : ze_H) {r : Int32} {v1 : ze_H} (h : f_M_down  a1 a2 v = some (r, v1)) : ze_Mi l D ad ca my_M_down bc_M_down 3 .int 0 0 [.inl a1, .inl a2] v r v1 := ze_Mi_of (plainFor_of_name (by decide)) hD (Nat.le_of_ble_eq_true rfl) (fun G e1 e2 e3 e4 X Y => w_M_down X Y    a1 a2  v) h
