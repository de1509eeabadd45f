def f_E_isRoute  (a1 : Int32) (v : ze_H) : Option (Int32 × ze_H) :=
  (if a1 < 0 then some (0, v) else (if 4 ≤ a1 then some (0, v) else some (1, v)))
set_option maxHeartbeats 4000000 in
set_option maxRecDepth 100000 in
theorem w_E_isRoute {G : ze_G}  (X : ze_X G bc_E_isRoute cn_E 1 0 0) (Y : ze_Ri G .boolean)    (a1 : Int32)  (v : ze_H) : ze_T G (f_E_isRoute  a1 v) v 0 [some (.inl a1)] [] := by
  refine ze_iload_n X dc_E_isRoute_0 rfl rfl ?_
  refine ze_if_lt (tgt := 13) X dc_E_isRoute_1 (by decide) (fun _ => ?_) (fun _ => ?_)
  · refine ze_iconst (x := 0) X dc_E_isRoute_13 (by decide) ?_
    exact ze_iret X Y rfl dc_E_isRoute_14
  · refine ze_iload_n X dc_E_isRoute_4 rfl rfl ?_
    refine ze_iconst (x := 4) X dc_E_isRoute_5 (by decide) ?_
    refine ze_icmp_ge (tgt := 13) X dc_E_isRoute_6 (by decide) (fun _ => ?_) (fun _ => ?_)
    · refine ze_iconst (x := 0) X dc_E_isRoute_13 (by decide) ?_
      exact ze_iret X Y rfl dc_E_isRoute_14
    · refine ze_iconst (x := 1) X dc_E_isRoute_9 (by decide) ?_
      refine ze_goto (tgt := 14) X dc_E_isRoute_10 (by decide) ?_
      exact ze_iret X Y rfl dc_E_isRoute_14
set_option maxHeartbeats 4000000 in
set_option maxRecDepth 100000 in
theorem c_E_isRoute {l : Launch} {D : va_G} {ad : Nat → Nat} {ca : Nat → ClassId} (hD : va_D (ze_A ad) (ze_ws ze_sh ad ca (fun _ _ => 0)))     (a1 : Int32)  (v : ze_H) {r : Int32} {v1 : ze_H} (h : f_E_isRoute  a1 v = some (r, v1)) : ze_Mi l D ad ca my_E_isRoute bc_E_isRoute 1 .boolean 0 0 [.inl a1] v r v1 := ze_Mi_of (plainFor_of_name (by decide)) hD (Nat.le_of_ble_eq_true rfl) (fun G e1 e2 e3 e4 X Y => w_E_isRoute X Y    a1  v) h
def f_E_isThrown  (a1 : Int32) (v : ze_H) : Option (Int32 × ze_H) :=
  (if a1 < 1 then some (0, v) else (if 7 < a1 then some (0, v) else some (1, v)))
set_option maxHeartbeats 4000000 in
set_option maxRecDepth 100000 in
theorem w_E_isThrown {G : ze_G}  (X : ze_X G bc_E_isThrown cn_E 1 0 0) (Y : ze_Ri G .boolean)    (a1 : Int32)  (v : ze_H) : ze_T G (f_E_isThrown  a1 v) v 0 [some (.inl a1)] [] := by
  refine ze_iload_n X dc_E_isThrown_0 rfl rfl ?_
  refine ze_iconst (x := 1) X dc_E_isThrown_1 (by decide) ?_
  refine ze_icmp_lt (tgt := 15) X dc_E_isThrown_2 (by decide) (fun _ => ?_) (fun _ => ?_)
  · refine ze_iconst (x := 0) X dc_E_isThrown_15 (by decide) ?_
    exact ze_iret X Y rfl dc_E_isThrown_16
  · refine ze_iload_n X dc_E_isThrown_5 rfl rfl ?_
    refine ze_bipush (x := 7) X dc_E_isThrown_6 (by decide) ?_
    refine ze_icmp_gt (tgt := 15) X dc_E_isThrown_8 (by decide) (fun _ => ?_) (fun _ => ?_)
    · refine ze_iconst (x := 0) X dc_E_isThrown_15 (by decide) ?_
      exact ze_iret X Y rfl dc_E_isThrown_16
    · refine ze_iconst (x := 1) X dc_E_isThrown_11 (by decide) ?_
      refine ze_goto (tgt := 16) X dc_E_isThrown_12 (by decide) ?_
      exact ze_iret X Y rfl dc_E_isThrown_16
set_option maxHeartbeats 4000000 in
set_option maxRecDepth 100000 in
theorem c_E_isThrown {l : Launch} {D : va_G} {ad : Nat → Nat} {ca : Nat → ClassId} (hD : va_D (ze_A ad) (ze_ws ze_sh ad ca (fun _ _ => 0)))     (a1 : Int32)  (v : ze_H) {r : Int32} {v1 : ze_H} (h : f_E_isThrown  a1 v = some (r, v1)) : ze_Mi l D ad ca my_E_isThrown bc_E_isThrown 1 .boolean 0 0 [.inl a1] v r v1 := ze_Mi_of (plainFor_of_name (by decide)) hD (Nat.le_of_ble_eq_true rfl) (fun G e1 e2 e3 e4 X Y => w_E_isThrown X Y    a1  v) h
def f_E_put  (a1 : Int32) (a2 : Int32) (v : ze_H) : Option (Int32 × ze_H) :=
  ze_call (f_E_isRoute  a1 v) (fun r1 v2 => (if r1 = 0 then some (0, v2) else (if a2 < 33 then some (0, v2) else (if 126 < a2 then some (0, v2) else ze_in a1 4 ((if (v2 1 (Int32.toNatClampNeg a1)) < 40 then ze_in a1 4 (ze_in ((a1 * 41) + (v2 1 (Int32.toNatClampNeg a1))) 164 (ze_lev (ze_u v2 3 (Int32.toNatClampNeg ((a1 * 41) + (v2 1 (Int32.toNatClampNeg a1)))) (vp_nar .char a2)) (fun v3 => ze_in a1 4 (ze_in a1 4 (ze_lev (ze_u v3 1 (Int32.toNatClampNeg a1) ((v3 1 (Int32.toNatClampNeg a1)) + 1)) (fun v4 => some (1, v4))))))) else some (0, v2)))))))
set_option maxHeartbeats 4000000 in
set_option maxRecDepth 100000 in
theorem w_E_put {G : ze_G}  (X : ze_X G bc_E_put cn_E 3 1 20) (Y : ze_Ri G .boolean)    (a1 : Int32) (a2 : Int32)  (v : ze_H) : ze_T G (f_E_put  a1 a2 v) v 0 [some (.inr 0), some (.inl a1), some (.inl a2)] [] := by
  refine ze_iload_n X dc_E_put_0 rfl rfl ?_
  refine ze_callSi (As := [.inl a1]) (st := []) X dc_E_put_1 zc_E_82 (fun zr zv zh => c_E_isRoute X.2.2.2.2.2.2.1  a1  v zh) rfl (by decide) (by decide) (Nat.le_of_ble_eq_true rfl) (fun r1 v2 => ?_)
  refine ze_if_eq (tgt := 30) X dc_E_put_4 (by decide) (fun _ => ?_) (fun _ => ?_)
  · refine ze_iconst (x := 0) X dc_E_put_30 (by decide) ?_
    exact ze_iret X Y rfl dc_E_put_31
  · refine ze_iload_n X dc_E_put_7 rfl rfl ?_
    refine ze_bipush (x := 33) X dc_E_put_8 (by decide) ?_
    refine ze_icmp_lt (tgt := 30) X dc_E_put_10 (by decide) (fun _ => ?_) (fun _ => ?_)
    · refine ze_iconst (x := 0) X dc_E_put_30 (by decide) ?_
      exact ze_iret X Y rfl dc_E_put_31
    · refine ze_iload_n X dc_E_put_13 rfl rfl ?_
      refine ze_bipush (x := 126) X dc_E_put_14 (by decide) ?_
      refine ze_icmp_gt (tgt := 30) X dc_E_put_16 (by decide) (fun _ => ?_) (fun _ => ?_)
      · refine ze_iconst (x := 0) X dc_E_put_30 (by decide) ?_
        exact ze_iret X Y rfl dc_E_put_31
      · refine ze_aload_n X dc_E_put_19 rfl rfl ?_
        refine ze_getr X dc_E_put_20 zf_E_9 sh_0 rfl ?_
        refine ze_iload_n X dc_E_put_23 rfl rfl ?_
        refine ze_iald X dc_E_put_24 sh_1 rfl (fun _ => ?_)
        refine ze_bipush (x := 40) X dc_E_put_25 (by decide) ?_
        refine ze_icmp_lt (tgt := 32) X dc_E_put_27 (by decide) (fun _ => ?_) (fun _ => ?_)
        · refine ze_aload_n X dc_E_put_32 rfl rfl ?_
          refine ze_getr X dc_E_put_33 zf_E_16 sh_0 rfl ?_
          refine ze_getr X dc_E_put_36 zf_E_86 is_Program_2.1 rfl ?_
          refine ze_iload_n X dc_E_put_39 rfl rfl ?_
          refine ze_bipush (x := 41) X dc_E_put_40 (by decide) ?_
          refine ze_imul X dc_E_put_42 ?_
          refine ze_aload_n X dc_E_put_43 rfl rfl ?_
          refine ze_getr X dc_E_put_44 zf_E_9 sh_0 rfl ?_
          refine ze_iload_n X dc_E_put_47 rfl rfl ?_
          refine ze_iald X dc_E_put_48 sh_1 rfl (fun _ => ?_)
          refine ze_iadd X dc_E_put_49 ?_
          refine ze_iload_n X dc_E_put_50 rfl rfl ?_
          refine ze_cast X dc_E_put_51 sh_3 rfl (fun v3 _ => ?_)
          refine ze_aload_n X dc_E_put_52 rfl rfl ?_
          refine ze_getr X dc_E_put_53 zf_E_9 sh_0 rfl ?_
          refine ze_iload_n X dc_E_put_56 rfl rfl ?_
          refine ze_dup2 X dc_E_put_57 ?_
          refine ze_iald X dc_E_put_58 sh_1 rfl (fun _ => ?_)
          refine ze_iconst (x := 1) X dc_E_put_59 (by decide) ?_
          refine ze_iadd X dc_E_put_60 ?_
          refine ze_iast X dc_E_put_61 sh_1 rfl (fun v4 _ => ?_)
          refine ze_iconst (x := 1) X dc_E_put_62 (by decide) ?_
          exact ze_iret X Y rfl dc_E_put_63
        · refine ze_iconst (x := 0) X dc_E_put_30 (by decide) ?_
          exact ze_iret X Y rfl dc_E_put_31
set_option maxHeartbeats 4000000 in
set_option maxRecDepth 100000 in
theorem c_E_put {l : Launch} {D : va_G} {ad : Nat → Nat} {ca : Nat → ClassId} (hD : va_D (ze_A ad) (ze_ws ze_sh ad ca (fun _ _ => 0)))     (a1 : Int32) (a2 : Int32)  (v : ze_H) {r : Int32} {v1 : ze_H} (h : f_E_put  a1 a2 v = some (r, v1)) : ze_Mi l D ad ca my_E_put bc_E_put 3 .boolean 1 20 [.inr 0, .inl a1, .inl a2] v r v1 := ze_Mi_of (plainFor_of_name (by decide)) hD (Nat.le_of_ble_eq_true rfl) (fun G e1 e2 e3 e4 X Y => w_E_put X Y    a1 a2  v) h
def f_E_clear_L11  (b1 : Int32) (kk : ze_H → Option (Int32 × ze_H)) : Nat → Int32 → ze_H → Option (Int32 × ze_H)
  | 0, _, _ => none
  | n + 1, l2, v =>
    (if 40 ≤ l2 then (kk  v) else ze_in ((b1 * 41) + l2) 164 (ze_lev (ze_u v 3 (Int32.toNatClampNeg ((b1 * 41) + l2)) (vp_nar .char 0)) (fun v4 => ze_let (l2 + 1) (fun x5 => (f_E_clear_L11  b1 kk n x5 v4)))))
def f_E_clear  (a1 : Int32) (v : ze_H) : Option (Int32 × ze_H) :=
  ze_call (f_E_isRoute  a1 v) (fun r1 v2 => (if r1 = 0 then some (0, v2) else ze_let 0 (fun x3 => (f_E_clear_L11  a1 (fun  v6 => ze_in a1 4 (ze_lev (ze_u v6 1 (Int32.toNatClampNeg a1) 0) (fun v7 => some (1, v7)))) 200000 x3 v2))))
set_option maxHeartbeats 4000000 in
set_option maxRecDepth 100000 in
theorem w_E_clear_L11 {G : ze_G}  (X : ze_X G bc_E_clear cn_E 3 1 20) (Y : ze_Ri G .boolean)    (b1 : Int32)  {kk : ze_H → Option (Int32 × ze_H)} (hkk : ∀ (v : ze_H), ze_T G (kk  v) v 38 [some (.inr 0), some (.inl b1), none] []) : ∀ (n : Nat) (l2 : Int32) (v : ze_H), ze_T G (f_E_clear_L11  b1 kk n l2 v) v 11 [some (.inr 0), some (.inl b1), some (.inl l2)] [] := by
  intro n
  induction n with
  | zero => intro l2 v; exact ze_none
  | succ n ih =>
    intro l2 v
    refine ze_iload_n X dc_E_clear_11 rfl rfl ?_
    refine ze_bipush (x := 40) X dc_E_clear_12 (by decide) ?_
    refine ze_icmp_ge (tgt := 38) X dc_E_clear_14 (by decide) (fun _ => ?_) (fun _ => ?_)
    · refine ze_weak [true, true, false] ?_
      exact hkk  v
    · refine ze_aload_n X dc_E_clear_17 rfl rfl ?_
      refine ze_getr X dc_E_clear_18 zf_E_16 sh_0 rfl ?_
      refine ze_getr X dc_E_clear_21 zf_E_86 is_Program_2.1 rfl ?_
      refine ze_iload_n X dc_E_clear_24 rfl rfl ?_
      refine ze_bipush (x := 41) X dc_E_clear_25 (by decide) ?_
      refine ze_imul X dc_E_clear_27 ?_
      refine ze_iload_n X dc_E_clear_28 rfl rfl ?_
      refine ze_iadd X dc_E_clear_29 ?_
      refine ze_iconst (x := 0) X dc_E_clear_30 (by decide) ?_
      refine ze_cast X dc_E_clear_31 sh_3 rfl (fun v4 _ => ?_)
      refine ze_iinc (y := 1) X dc_E_clear_32 rfl (by decide) (by decide) (fun x5 => ?_)
      refine ze_goto (tgt := 11) X dc_E_clear_35 (by decide) ?_
      refine ze_weak [true, true, true] ?_
      exact ih x5 v4
set_option maxHeartbeats 4000000 in
set_option maxRecDepth 100000 in
theorem w_E_clear {G : ze_G}  (X : ze_X G bc_E_clear cn_E 3 1 20) (Y : ze_Ri G .boolean)    (a1 : Int32)  (v : ze_H) : ze_T G (f_E_clear  a1 v) v 0 [some (.inr 0), some (.inl a1), none] [] := by
  refine ze_iload_n X dc_E_clear_0 rfl rfl ?_
  refine ze_callSi (As := [.inl a1]) (st := []) X dc_E_clear_1 zc_E_82 (fun zr zv zh => c_E_isRoute X.2.2.2.2.2.2.1  a1  v zh) rfl (by decide) (by decide) (Nat.le_of_ble_eq_true rfl) (fun r1 v2 => ?_)
  refine ze_if_ne (tgt := 9) X dc_E_clear_4 (by decide) (fun _ => ?_) (fun _ => ?_)
  · refine ze_iconst (x := 0) X dc_E_clear_7 (by decide) ?_
    exact ze_iret X Y rfl dc_E_clear_8
  · refine ze_iconst (x := 0) X dc_E_clear_9 (by decide) ?_
    refine ze_istore_n X dc_E_clear_10 rfl (by decide) (fun x3 => ?_)
    refine ze_weak [true, true, true] ?_
    refine w_E_clear_L11 X Y    a1  (fun  v6 => ?_) 200000 x3 v2
    refine ze_aload_n X dc_E_clear_38 rfl rfl ?_
    refine ze_getr X dc_E_clear_39 zf_E_9 sh_0 rfl ?_
    refine ze_iload_n X dc_E_clear_42 rfl rfl ?_
    refine ze_iconst (x := 0) X dc_E_clear_43 (by decide) ?_
    refine ze_iast X dc_E_clear_44 sh_1 rfl (fun v7 _ => ?_)
    refine ze_iconst (x := 1) X dc_E_clear_45 (by decide) ?_
    exact ze_iret X Y rfl dc_E_clear_46
set_option maxHeartbeats 4000000 in
set_option maxRecDepth 100000 in
theorem c_E_clear {l : Launch} {D : va_G} {ad : Nat → Nat} {ca : Nat → ClassId} (hD : va_D (ze_A ad) (ze_ws ze_sh ad ca (fun _ _ => 0)))     (a1 : Int32)  (v : ze_H) {r : Int32} {v1 : ze_H} (h : f_E_clear  a1 v = some (r, v1)) : ze_Mi l D ad ca my_E_clear bc_E_clear 3 .boolean 1 20 [.inr 0, .inl a1] v r v1 := ze_Mi_of (plainFor_of_name (by decide)) hD (Nat.le_of_ble_eq_true rfl) (fun G e1 e2 e3 e4 X Y => w_E_clear X Y    a1  v) h
def f_E_clause  (a1 : Int32) (a2 : Int32) (a3 : Int32) (a4 : Int32) (a5 : Int32) (v : ze_H) : Option (Int32 × ze_H) :=
  ze_call (f_E_isThrown  a1 v) (fun r1 v2 => (if r1 = 0 then some (0, v2) else (if a2 < 0 then some (0, v2) else (if 5 < a2 then some (0, v2) else (if a3 < 0 then some (0, v2) else (if a3 ≤ 20 then ze_call (f_C_add  a1 a2 a3 a4 a5 v2) (fun r3 v4 => ze_rb r3 v4) else some (0, v2)))))))
set_option maxHeartbeats 4000000 in
set_option maxRecDepth 100000 in
theorem w_E_clause {G : ze_G}  (X : ze_X G bc_E_clause cn_E 6 1 25) (Y : ze_Ri G .boolean)    (a1 : Int32) (a2 : Int32) (a3 : Int32) (a4 : Int32) (a5 : Int32)  (v : ze_H) : ze_T G (f_E_clause  a1 a2 a3 a4 a5 v) v 0 [some (.inr 0), some (.inl a1), some (.inl a2), some (.inl a3), some (.inl a4), some (.inl a5)] [] := by
  refine ze_iload_n X dc_E_clause_0 rfl rfl ?_
  refine ze_callSi (As := [.inl a1]) (st := []) X dc_E_clause_1 zc_E_108 (fun zr zv zh => c_E_isThrown X.2.2.2.2.2.2.1  a1  v zh) rfl (by decide) (by decide) (Nat.le_of_ble_eq_true rfl) (fun r1 v2 => ?_)
  refine ze_if_eq (tgt := 26) X dc_E_clause_4 (by decide) (fun _ => ?_) (fun _ => ?_)
  · refine ze_iconst (x := 0) X dc_E_clause_26 (by decide) ?_
    exact ze_iret X Y rfl dc_E_clause_27
  · refine ze_iload_n X dc_E_clause_7 rfl rfl ?_
    refine ze_if_lt (tgt := 26) X dc_E_clause_8 (by decide) (fun _ => ?_) (fun _ => ?_)
    · refine ze_iconst (x := 0) X dc_E_clause_26 (by decide) ?_
      exact ze_iret X Y rfl dc_E_clause_27
    · refine ze_iload_n X dc_E_clause_11 rfl rfl ?_
      refine ze_iconst (x := 5) X dc_E_clause_12 (by decide) ?_
      refine ze_icmp_gt (tgt := 26) X dc_E_clause_13 (by decide) (fun _ => ?_) (fun _ => ?_)
      · refine ze_iconst (x := 0) X dc_E_clause_26 (by decide) ?_
        exact ze_iret X Y rfl dc_E_clause_27
      · refine ze_iload_n X dc_E_clause_16 rfl rfl ?_
        refine ze_if_lt (tgt := 26) X dc_E_clause_17 (by decide) (fun _ => ?_) (fun _ => ?_)
        · refine ze_iconst (x := 0) X dc_E_clause_26 (by decide) ?_
          exact ze_iret X Y rfl dc_E_clause_27
        · refine ze_iload_n X dc_E_clause_20 rfl rfl ?_
          refine ze_bipush (x := 20) X dc_E_clause_21 (by decide) ?_
          refine ze_icmp_le (tgt := 28) X dc_E_clause_23 (by decide) (fun _ => ?_) (fun _ => ?_)
          · refine ze_aload_n X dc_E_clause_28 rfl rfl ?_
            refine ze_getr X dc_E_clause_29 zf_E_35 sh_0 rfl ?_
            refine ze_iload_n X dc_E_clause_32 rfl rfl ?_
            refine ze_iload_n X dc_E_clause_33 rfl rfl ?_
            refine ze_iload_n X dc_E_clause_34 rfl rfl ?_
            refine ze_iload X dc_E_clause_35 rfl ?_
            refine ze_iload X dc_E_clause_37 rfl ?_
            refine ze_callVi (As := [.inl a1, .inl a2, .inl a3, .inl a4, .inl a5]) (st := []) X dc_E_clause_39 zc_E_111 sh_17 (fun zr zv zh => c_C_add X.2.2.2.2.2.2.1  a1 a2 a3 a4 a5  v2 zh) rfl (by decide) (by decide) (Nat.le_of_ble_eq_true rfl) (fun r3 v4 => ?_)
            exact ze_zret X Y dc_E_clause_42
          · refine ze_iconst (x := 0) X dc_E_clause_26 (by decide) ?_
            exact ze_iret X Y rfl dc_E_clause_27
set_option maxHeartbeats 4000000 in
set_option maxRecDepth 100000 in
theorem c_E_clause {l : Launch} {D : va_G} {ad : Nat → Nat} {ca : Nat → ClassId} (hD : va_D (ze_A ad) (ze_ws ze_sh ad ca (fun _ _ => 0)))     (a1 : Int32) (a2 : Int32) (a3 : Int32) (a4 : Int32) (a5 : Int32)  (v : ze_H) {r : Int32} {v1 : ze_H} (h : f_E_clause  a1 a2 a3 a4 a5 v = some (r, v1)) : ze_Mi l D ad ca my_E_clause bc_E_clause 6 .boolean 1 25 [.inr 0, .inl a1, .inl a2, .inl a3, .inl a4, .inl a5] v r v1 := ze_Mi_of (plainFor_of_name (by decide)) hD (Nat.le_of_ble_eq_true rfl) (fun G e1 e2 e3 e4 X Y => w_E_clause X Y    a1 a2 a3 a4 a5  v) h
def f_E_forget   (v : ze_H) : Option (Int32 × ze_H) :=
  ze_lev (ze_u v 17 5 0) (fun v1 => some (0, v1))
set_option maxHeartbeats 4000000 in
set_option maxRecDepth 100000 in
theorem w_E_forget {G : ze_G}  (X : ze_X G bc_E_forget cn_E 1 0 0) (Y : ze_Rv G)      (v : ze_H) : ze_T G (f_E_forget   v) v 0 [some (.inr 0)] [] := by
  refine ze_aload_n X dc_E_forget_0 rfl rfl ?_
  refine ze_getr X dc_E_forget_1 zf_E_35 sh_0 rfl ?_
  refine ze_iconst (x := 0) X dc_E_forget_4 (by decide) ?_
  refine ze_puti X dc_E_forget_5 zp_E_115 sh_17 rfl (fun v1 => ?_)
  exact ze_vret X Y dc_E_forget_8
set_option maxHeartbeats 4000000 in
set_option maxRecDepth 100000 in
theorem c_E_forget {l : Launch} {D : va_G} {ad : Nat → Nat} {ca : Nat → ClassId} (hD : va_D (ze_A ad) (ze_ws ze_sh ad ca (fun _ _ => 0)))       (v : ze_H) {r : Int32} {v1 : ze_H} (h : f_E_forget   v = some (r, v1)) : ze_Mv l D ad ca my_E_forget bc_E_forget 1 0 0 [.inr 0] v v1 := ze_Mv_of (plainFor_of_name (by decide)) hD (Nat.le_of_ble_eq_true rfl) (fun G e1 e2 e3 e4 X Y => w_E_forget X Y      v) h
def f_E_fail  (a1 : Int32) (a2 : Int32) (a3 : Int32) (v : ze_H) : Option (Int32 × ze_H) :=
  (if a1 < 0 then some (0, v) else (if 4 ≤ a1 then some (0, v) else (if a2 < 0 then some (0, v) else (if 9 < a2 then some (0, v) else ze_call (f_E_isThrown  a3 v) (fun r1 v2 => (if r1 = 0 then some (0, v2) else ze_in a1 5 (ze_lev (ze_u v2 (24 + 3 * (Int32.toNatClampNeg a1)) 3 a2) (fun v4 => ze_in a1 5 (ze_lev (ze_u v4 (24 + 3 * (Int32.toNatClampNeg a1)) 4 a3) (fun v6 => some (1, v6)))))))))))
set_option maxHeartbeats 4000000 in
set_option maxRecDepth 100000 in
theorem w_E_fail {G : ze_G}  (X : ze_X G bc_E_fail cn_E 4 1 20) (Y : ze_Ri G .boolean)    (a1 : Int32) (a2 : Int32) (a3 : Int32)  (v : ze_H) : ze_T G (f_E_fail  a1 a2 a3 v) v 0 [some (.inr 0), some (.inl a1), some (.inl a2), some (.inl a3)] [] := by
  refine ze_iload_n X dc_E_fail_0 rfl rfl ?_
  refine ze_if_lt (tgt := 26) X dc_E_fail_1 (by decide) (fun _ => ?_) (fun _ => ?_)
  · refine ze_iconst (x := 0) X dc_E_fail_26 (by decide) ?_
    exact ze_iret X Y rfl dc_E_fail_27
  · refine ze_iload_n X dc_E_fail_4 rfl rfl ?_
    refine ze_iconst (x := 4) X dc_E_fail_5 (by decide) ?_
    refine ze_icmp_ge (tgt := 26) X dc_E_fail_6 (by decide) (fun _ => ?_) (fun _ => ?_)
    · refine ze_iconst (x := 0) X dc_E_fail_26 (by decide) ?_
      exact ze_iret X Y rfl dc_E_fail_27
    · refine ze_iload_n X dc_E_fail_9 rfl rfl ?_
      refine ze_if_lt (tgt := 26) X dc_E_fail_10 (by decide) (fun _ => ?_) (fun _ => ?_)
      · refine ze_iconst (x := 0) X dc_E_fail_26 (by decide) ?_
        exact ze_iret X Y rfl dc_E_fail_27
      · refine ze_iload_n X dc_E_fail_13 rfl rfl ?_
        refine ze_bipush (x := 9) X dc_E_fail_14 (by decide) ?_
        refine ze_icmp_gt (tgt := 26) X dc_E_fail_16 (by decide) (fun _ => ?_) (fun _ => ?_)
        · refine ze_iconst (x := 0) X dc_E_fail_26 (by decide) ?_
          exact ze_iret X Y rfl dc_E_fail_27
        · refine ze_iload_n X dc_E_fail_19 rfl rfl ?_
          refine ze_callSi (As := [.inl a3]) (st := []) X dc_E_fail_20 zc_E_108 (fun zr zv zh => c_E_isThrown X.2.2.2.2.2.2.1  a3  v zh) rfl (by decide) (by decide) (Nat.le_of_ble_eq_true rfl) (fun r1 v2 => ?_)
          refine ze_if_ne (tgt := 28) X dc_E_fail_23 (by decide) (fun _ => ?_) (fun _ => ?_)
          · refine ze_iconst (x := 0) X dc_E_fail_26 (by decide) ?_
            exact ze_iret X Y rfl dc_E_fail_27
          · refine ze_aload_n X dc_E_fail_28 rfl rfl ?_
            refine ze_getr X dc_E_fail_29 zf_E_41 sh_0 rfl ?_
            refine ze_iload_n X dc_E_fail_32 rfl rfl ?_
            refine ze_aald X dc_E_fail_33 sh_23 rfl (fun hi3 => ?_)
            refine ze_iload_n X dc_E_fail_34 rfl rfl ?_
            refine ze_puti X dc_E_fail_35 zp_E_116 (is_Endpoint_at hi3).1 rfl (fun v4 => ?_)
            refine ze_aload_n X dc_E_fail_38 rfl rfl ?_
            refine ze_getr X dc_E_fail_39 zf_E_41 sh_0 rfl ?_
            refine ze_iload_n X dc_E_fail_42 rfl rfl ?_
            refine ze_aald X dc_E_fail_43 sh_23 rfl (fun hi5 => ?_)
            refine ze_iload_n X dc_E_fail_44 rfl rfl ?_
            refine ze_puti X dc_E_fail_45 zp_E_119 (is_Endpoint_at hi5).1 rfl (fun v6 => ?_)
            refine ze_iconst (x := 1) X dc_E_fail_48 (by decide) ?_
            exact ze_iret X Y rfl dc_E_fail_49
set_option maxHeartbeats 4000000 in
set_option maxRecDepth 100000 in
theorem c_E_fail {l : Launch} {D : va_G} {ad : Nat → Nat} {ca : Nat → ClassId} (hD : va_D (ze_A ad) (ze_ws ze_sh ad ca (fun _ _ => 0)))     (a1 : Int32) (a2 : Int32) (a3 : Int32)  (v : ze_H) {r : Int32} {v1 : ze_H} (h : f_E_fail  a1 a2 a3 v = some (r, v1)) : ze_Mi l D ad ca my_E_fail bc_E_fail 4 .boolean 1 20 [.inr 0, .inl a1, .inl a2, .inl a3] v r v1 := ze_Mi_of (plainFor_of_name (by decide)) hD (Nat.le_of_ble_eq_true rfl) (fun G e1 e2 e3 e4 X Y => w_E_fail X Y    a1 a2 a3  v) h
def f_E_delivered  (a1 : Int32) (v : ze_H) : Option (Int32 × ze_H) :=
  (if a1 < 0 then some ((-1), v) else (if 4 < a1 then some ((-1), v) else ze_in a1 5 (some ((v (24 + 3 * (Int32.toNatClampNeg a1)) 2), v))))
set_option maxHeartbeats 4000000 in
set_option maxRecDepth 100000 in
theorem w_E_delivered {G : ze_G}  (X : ze_X G bc_E_delivered cn_E 2 0 0) (Y : ze_Ri G .int)    (a1 : Int32)  (v : ze_H) : ze_T G (f_E_delivered  a1 v) v 0 [some (.inr 0), some (.inl a1)] [] := by
  refine ze_iload_n X dc_E_delivered_0 rfl rfl ?_
  refine ze_if_lt (tgt := 21) X dc_E_delivered_1 (by decide) (fun _ => ?_) (fun _ => ?_)
  · refine ze_iconst (x := (-1)) X dc_E_delivered_21 (by decide) ?_
    exact ze_iret X Y (vp_nar_int _) dc_E_delivered_22
  · refine ze_iload_n X dc_E_delivered_4 rfl rfl ?_
    refine ze_iconst (x := 4) X dc_E_delivered_5 (by decide) ?_
    refine ze_icmp_gt (tgt := 21) X dc_E_delivered_6 (by decide) (fun _ => ?_) (fun _ => ?_)
    · refine ze_iconst (x := (-1)) X dc_E_delivered_21 (by decide) ?_
      exact ze_iret X Y (vp_nar_int _) dc_E_delivered_22
    · refine ze_aload_n X dc_E_delivered_9 rfl rfl ?_
      refine ze_getr X dc_E_delivered_10 zf_E_41 sh_0 rfl ?_
      refine ze_iload_n X dc_E_delivered_13 rfl rfl ?_
      refine ze_aald X dc_E_delivered_14 sh_23 rfl (fun hi1 => ?_)
      refine ze_geti X dc_E_delivered_15 zf_E_158 (is_Endpoint_at hi1).1 rfl ?_
      refine ze_goto (tgt := 22) X dc_E_delivered_18 (by decide) ?_
      exact ze_iret X Y (vp_nar_int _) dc_E_delivered_22
set_option maxHeartbeats 4000000 in
set_option maxRecDepth 100000 in
theorem c_E_delivered {l : Launch} {D : va_G} {ad : Nat → Nat} {ca : Nat → ClassId} (hD : va_D (ze_A ad) (ze_ws ze_sh ad ca (fun _ _ => 0)))     (a1 : Int32)  (v : ze_H) {r : Int32} {v1 : ze_H} (h : f_E_delivered  a1 v = some (r, v1)) : ze_Mi l D ad ca my_E_delivered bc_E_delivered 2 .int 0 0 [.inr 0, .inl a1] v r v1 := ze_Mi_of (plainFor_of_name (by decide)) hD (Nat.le_of_ble_eq_true rfl) (fun G e1 e2 e3 e4 X Y => w_E_delivered X Y    a1  v) h
def f_E_isDelivery  (a1 : Int32) (a2 : Int32) (v : ze_H) : Option (Int32 × ze_H) :=
  (if a1 < 0 then some (0, v) else (if 4 < a1 then some (0, v) else (if a2 < 0 then some (0, v) else (if 8 ≤ a2 then some (0, v) else ze_in a1 5 ((if (v (24 + 3 * (Int32.toNatClampNeg a1)) 2) ≤ a2 then some (0, v) else some (1, v)))))))
set_option maxHeartbeats 4000000 in
set_option maxRecDepth 100000 in
theorem w_E_isDelivery {G : ze_G}  (X : ze_X G bc_E_isDelivery cn_E 3 0 0) (Y : ze_Ri G .boolean)    (a1 : Int32) (a2 : Int32)  (v : ze_H) : ze_T G (f_E_isDelivery  a1 a2 v) v 0 [some (.inr 0), some (.inl a1), some (.inl a2)] [] := by
  refine ze_iload_n X dc_E_isDelivery_0 rfl rfl ?_
  refine ze_if_lt (tgt := 36) X dc_E_isDelivery_1 (by decide) (fun _ => ?_) (fun _ => ?_)
  · refine ze_iconst (x := 0) X dc_E_isDelivery_36 (by decide) ?_
    exact ze_iret X Y rfl dc_E_isDelivery_37
  · refine ze_iload_n X dc_E_isDelivery_4 rfl rfl ?_
    refine ze_iconst (x := 4) X dc_E_isDelivery_5 (by decide) ?_
    refine ze_icmp_gt (tgt := 36) X dc_E_isDelivery_6 (by decide) (fun _ => ?_) (fun _ => ?_)
    · refine ze_iconst (x := 0) X dc_E_isDelivery_36 (by decide) ?_
      exact ze_iret X Y rfl dc_E_isDelivery_37
    · refine ze_iload_n X dc_E_isDelivery_9 rfl rfl ?_
      refine ze_if_lt (tgt := 36) X dc_E_isDelivery_10 (by decide) (fun _ => ?_) (fun _ => ?_)
      · refine ze_iconst (x := 0) X dc_E_isDelivery_36 (by decide) ?_
        exact ze_iret X Y rfl dc_E_isDelivery_37
      · refine ze_iload_n X dc_E_isDelivery_13 rfl rfl ?_
        refine ze_bipush (x := 8) X dc_E_isDelivery_14 (by decide) ?_
        refine ze_icmp_ge (tgt := 36) X dc_E_isDelivery_16 (by decide) (fun _ => ?_) (fun _ => ?_)
        · refine ze_iconst (x := 0) X dc_E_isDelivery_36 (by decide) ?_
          exact ze_iret X Y rfl dc_E_isDelivery_37
        · refine ze_iload_n X dc_E_isDelivery_19 rfl rfl ?_
          refine ze_aload_n X dc_E_isDelivery_20 rfl rfl ?_
          refine ze_getr X dc_E_isDelivery_21 zf_E_41 sh_0 rfl ?_
          refine ze_iload_n X dc_E_isDelivery_24 rfl rfl ?_
          refine ze_aald X dc_E_isDelivery_25 sh_23 rfl (fun hi1 => ?_)
          refine ze_geti X dc_E_isDelivery_26 zf_E_158 (is_Endpoint_at hi1).1 rfl ?_
          refine ze_icmp_ge (tgt := 36) X dc_E_isDelivery_29 (by decide) (fun _ => ?_) (fun _ => ?_)
          · refine ze_iconst (x := 0) X dc_E_isDelivery_36 (by decide) ?_
            exact ze_iret X Y rfl dc_E_isDelivery_37
          · refine ze_iconst (x := 1) X dc_E_isDelivery_32 (by decide) ?_
            refine ze_goto (tgt := 37) X dc_E_isDelivery_33 (by decide) ?_
            exact ze_iret X Y rfl dc_E_isDelivery_37
set_option maxHeartbeats 4000000 in
set_option maxRecDepth 100000 in
theorem c_E_isDelivery {l : Launch} {D : va_G} {ad : Nat → Nat} {ca : Nat → ClassId} (hD : va_D (ze_A ad) (ze_ws ze_sh ad ca (fun _ _ => 0)))     (a1 : Int32) (a2 : Int32)  (v : ze_H) {r : Int32} {v1 : ze_H} (h : f_E_isDelivery  a1 a2 v = some (r, v1)) : ze_Mi l D ad ca my_E_isDelivery bc_E_isDelivery 3 .boolean 0 0 [.inr 0, .inl a1, .inl a2] v r v1 := ze_Mi_of (plainFor_of_name (by decide)) hD (Nat.le_of_ble_eq_true rfl) (fun G e1 e2 e3 e4 X Y => w_E_isDelivery X Y    a1 a2  v) h
def f_E_body  (a1 : Int32) (a2 : Int32) (v : ze_H) : Option (Int32 × ze_H) :=
  ze_call (f_E_isDelivery  a1 a2 v) (fun r1 v2 => (if r1 = 0 then some (0, v2) else ze_in a1 5 (ze_in a1 5 (ze_call (f_N_slotBefore  (24 + 3 * (Int32.toNatClampNeg a1)) a2 v2) (fun r5 v6 => ze_in r5 8 (some ((v6 ((24 + 3 * (Int32.toNatClampNeg a1)) + 1) (Int32.toNatClampNeg r5)), v6)))))))
set_option maxHeartbeats 4000000 in
set_option maxRecDepth 100000 in
theorem w_E_body {G : ze_G}  (X : ze_X G bc_E_body cn_E 3 2 43) (Y : ze_Ri G .int)    (a1 : Int32) (a2 : Int32)  (v : ze_H) : ze_T G (f_E_body  a1 a2 v) v 0 [some (.inr 0), some (.inl a1), some (.inl a2)] [] := by
  refine ze_aload_n X dc_E_body_0 rfl rfl ?_
  refine ze_iload_n X dc_E_body_1 rfl rfl ?_
  refine ze_iload_n X dc_E_body_2 rfl rfl ?_
  refine ze_callVi (As := [.inl a1, .inl a2]) (st := []) X dc_E_body_3 zc_E_161 sh_0 (fun zr zv zh => c_E_isDelivery X.2.2.2.2.2.2.1  a1 a2  v zh) rfl (by decide) (by decide) (Nat.le_of_ble_eq_true rfl) (fun r1 v2 => ?_)
  refine ze_if_eq (tgt := 32) X dc_E_body_6 (by decide) (fun _ => ?_) (fun _ => ?_)
  · refine ze_iconst (x := 0) X dc_E_body_32 (by decide) ?_
    exact ze_iret X Y (vp_nar_int _) dc_E_body_33
  · refine ze_aload_n X dc_E_body_9 rfl rfl ?_
    refine ze_getr X dc_E_body_10 zf_E_41 sh_0 rfl ?_
    refine ze_iload_n X dc_E_body_13 rfl rfl ?_
    refine ze_aald X dc_E_body_14 sh_23 rfl (fun hi3 => ?_)
    refine ze_getr X dc_E_body_15 zf_E_165 (is_Endpoint_at hi3).1 rfl ?_
    refine ze_aload_n X dc_E_body_18 rfl rfl ?_
    refine ze_getr X dc_E_body_19 zf_E_41 sh_0 rfl ?_
    refine ze_iload_n X dc_E_body_22 rfl rfl ?_
    refine ze_aald X dc_E_body_23 sh_23 rfl (fun hi4 => ?_)
    refine ze_iload_n X dc_E_body_24 rfl rfl ?_
    refine ze_callVi (As := [.inl a2]) (st := [.inr ((24 + 3 * (Int32.toNatClampNeg a1)) + 1)]) X dc_E_body_25 zc_E_166 (is_Endpoint_at hi4).1 (fun zr zv zh => c_N_slotBefore X.2.2.2.2.2.2.1  (24 + 3 * (Int32.toNatClampNeg a1)) a2 (is_Endpoint_at hi4) v2 zh) rfl (by decide) (by decide) (Nat.le_of_ble_eq_true rfl) (fun r5 v6 => ?_)
    refine ze_iald X dc_E_body_28 (is_Endpoint_at hi3).2.1 rfl (fun _ => ?_)
    refine ze_goto (tgt := 33) X dc_E_body_29 (by decide) ?_
    exact ze_iret X Y (vp_nar_int _) dc_E_body_33
set_option maxHeartbeats 4000000 in
set_option maxRecDepth 100000 in
theorem c_E_body {l : Launch} {D : va_G} {ad : Nat → Nat} {ca : Nat → ClassId} (hD : va_D (ze_A ad) (ze_ws ze_sh ad ca (fun _ _ => 0)))     (a1 : Int32) (a2 : Int32)  (v : ze_H) {r : Int32} {v1 : ze_H} (h : f_E_body  a1 a2 v = some (r, v1)) : ze_Mi l D ad ca my_E_body bc_E_body 3 .int 2 43 [.inr 0, .inl a1, .inl a2] v r v1 := ze_Mi_of (plainFor_of_name (by decide)) hD (Nat.le_of_ble_eq_true rfl) (fun G e1 e2 e3 e4 X Y => w_E_body X Y    a1 a2  v) h
def f_E_key  (a1 : Int32) (a2 : Int32) (v : ze_H) : Option (Int32 × ze_H) :=
  ze_call (f_E_isDelivery  a1 a2 v) (fun r1 v2 => (if r1 = 0 then some (0, v2) else ze_in a1 5 (ze_in a1 5 (ze_call (f_N_slotBefore  (24 + 3 * (Int32.toNatClampNeg a1)) a2 v2) (fun r5 v6 => ze_in r5 8 (some ((v6 ((24 + 3 * (Int32.toNatClampNeg a1)) + 2) (Int32.toNatClampNeg r5)), v6)))))))
set_option maxHeartbeats 4000000 in
set_option maxRecDepth 100000 in
theorem w_E_key {G : ze_G}  (X : ze_X G bc_E_key cn_E 3 2 43) (Y : ze_Ri G .int)    (a1 : Int32) (a2 : Int32)  (v : ze_H) : ze_T G (f_E_key  a1 a2 v) v 0 [some (.inr 0), some (.inl a1), some (.inl a2)] [] := by
  refine ze_aload_n X dc_E_key_0 rfl rfl ?_
  refine ze_iload_n X dc_E_key_1 rfl rfl ?_
  refine ze_iload_n X dc_E_key_2 rfl rfl ?_
  refine ze_callVi (As := [.inl a1, .inl a2]) (st := []) X dc_E_key_3 zc_E_161 sh_0 (fun zr zv zh => c_E_isDelivery X.2.2.2.2.2.2.1  a1 a2  v zh) rfl (by decide) (by decide) (Nat.le_of_ble_eq_true rfl) (fun r1 v2 => ?_)
  refine ze_if_eq (tgt := 32) X dc_E_key_6 (by decide) (fun _ => ?_) (fun _ => ?_)
  · refine ze_iconst (x := 0) X dc_E_key_32 (by decide) ?_
    exact ze_iret X Y (vp_nar_int _) dc_E_key_33
  · refine ze_aload_n X dc_E_key_9 rfl rfl ?_
    refine ze_getr X dc_E_key_10 zf_E_41 sh_0 rfl ?_
    refine ze_iload_n X dc_E_key_13 rfl rfl ?_
    refine ze_aald X dc_E_key_14 sh_23 rfl (fun hi3 => ?_)
    refine ze_getr X dc_E_key_15 zf_E_169 (is_Endpoint_at hi3).1 rfl ?_
    refine ze_aload_n X dc_E_key_18 rfl rfl ?_
    refine ze_getr X dc_E_key_19 zf_E_41 sh_0 rfl ?_
    refine ze_iload_n X dc_E_key_22 rfl rfl ?_
    refine ze_aald X dc_E_key_23 sh_23 rfl (fun hi4 => ?_)
    refine ze_iload_n X dc_E_key_24 rfl rfl ?_
    refine ze_callVi (As := [.inl a2]) (st := [.inr ((24 + 3 * (Int32.toNatClampNeg a1)) + 2)]) X dc_E_key_25 zc_E_166 (is_Endpoint_at hi4).1 (fun zr zv zh => c_N_slotBefore X.2.2.2.2.2.2.1  (24 + 3 * (Int32.toNatClampNeg a1)) a2 (is_Endpoint_at hi4) v2 zh) rfl (by decide) (by decide) (Nat.le_of_ble_eq_true rfl) (fun r5 v6 => ?_)
    refine ze_iald X dc_E_key_28 (is_Endpoint_at hi3).2.2 rfl (fun _ => ?_)
    refine ze_goto (tgt := 33) X dc_E_key_29 (by decide) ?_
    exact ze_iret X Y (vp_nar_int _) dc_E_key_33
set_option maxHeartbeats 4000000 in
set_option maxRecDepth 100000 in
theorem c_E_key {l : Launch} {D : va_G} {ad : Nat → Nat} {ca : Nat → ClassId} (hD : va_D (ze_A ad) (ze_ws ze_sh ad ca (fun _ _ => 0)))     (a1 : Int32) (a2 : Int32)  (v : ze_H) {r : Int32} {v1 : ze_H} (h : f_E_key  a1 a2 v = some (r, v1)) : ze_Mi l D ad ca my_E_key bc_E_key 3 .int 2 43 [.inr 0, .inl a1, .inl a2] v r v1 := ze_Mi_of (plainFor_of_name (by decide)) hD (Nat.le_of_ble_eq_true rfl) (fun G e1 e2 e3 e4 X Y => w_E_key X Y    a1 a2  v) h
def f_E_group  (a1 : Int32) (a2 : Int32) (v : ze_H) : Option (Int32 × ze_H) :=
  (if a1 < 0 then some (0, v) else (if a1 < (v 47 5) then (if a2 = 0 then ze_in a1 120 (some ((v 49 (Int32.toNatClampNeg a1)), v)) else (if a2 = 1 then ze_in a1 120 (some ((v 50 (Int32.toNatClampNeg a1)), v)) else (if a2 = 2 then ze_in a1 120 (some ((v 51 (Int32.toNatClampNeg a1)), v)) else (if a2 = 3 then ze_in a1 120 (some ((v 52 (Int32.toNatClampNeg a1)), v)) else some (0, v))))) else some (0, v)))
set_option maxHeartbeats 4000000 in
set_option maxRecDepth 100000 in
theorem w_E_group {G : ze_G}  (X : ze_X G bc_E_group cn_E 3 0 0) (Y : ze_Ri G .int)    (a1 : Int32) (a2 : Int32)  (v : ze_H) : ze_T G (f_E_group  a1 a2 v) v 0 [some (.inr 0), some (.inl a1), some (.inl a2)] [] := by
  refine ze_iload_n X dc_E_group_0 rfl rfl ?_
  refine ze_if_lt (tgt := 15) X dc_E_group_1 (by decide) (fun _ => ?_) (fun _ => ?_)
  · refine ze_iconst (x := 0) X dc_E_group_15 (by decide) ?_
    exact ze_iret X Y (vp_nar_int _) dc_E_group_16
  · refine ze_iload_n X dc_E_group_4 rfl rfl ?_
    refine ze_aload_n X dc_E_group_5 rfl rfl ?_
    refine ze_getr X dc_E_group_6 zf_E_61 sh_0 rfl ?_
    refine ze_geti X dc_E_group_9 zf_E_100 sh_47 rfl ?_
    refine ze_icmp_lt (tgt := 17) X dc_E_group_12 (by decide) (fun _ => ?_) (fun _ => ?_)
    · refine ze_iload_n X dc_E_group_17 rfl rfl ?_
      refine ze_if (c := a2 = 0) (fun hq => ?_) (fun hn1 => ?_)
      · refine ze_tabI (off := 30) (tgt := 48) X dc_E_group_18 (by rw [hq]; decide) (by rw [hq]; decide) (by rw [hq]; rfl) (by decide) ?_
        refine ze_aload_n X dc_E_group_48 rfl rfl ?_
        refine ze_getr X dc_E_group_49 zf_E_61 sh_0 rfl ?_
        refine ze_getr X dc_E_group_52 zf_E_170 sh_47 rfl ?_
        refine ze_iload_n X dc_E_group_55 rfl rfl ?_
        refine ze_iald X dc_E_group_56 sh_49 rfl (fun _ => ?_)
        exact ze_iret X Y (vp_nar_int _) dc_E_group_57
      refine ze_if (c := a2 = 1) (fun hq => ?_) (fun hn2 => ?_)
      · refine ze_tabI (off := 40) (tgt := 58) X dc_E_group_18 (by rw [hq]; decide) (by rw [hq]; decide) (by rw [hq]; rfl) (by decide) ?_
        refine ze_aload_n X dc_E_group_58 rfl rfl ?_
        refine ze_getr X dc_E_group_59 zf_E_61 sh_0 rfl ?_
        refine ze_getr X dc_E_group_62 zf_E_171 sh_47 rfl ?_
        refine ze_iload_n X dc_E_group_65 rfl rfl ?_
        refine ze_iald X dc_E_group_66 sh_50 rfl (fun _ => ?_)
        exact ze_iret X Y (vp_nar_int _) dc_E_group_67
      refine ze_if (c := a2 = 2) (fun hq => ?_) (fun hn3 => ?_)
      · refine ze_tabI (off := 50) (tgt := 68) X dc_E_group_18 (by rw [hq]; decide) (by rw [hq]; decide) (by rw [hq]; rfl) (by decide) ?_
        refine ze_aload_n X dc_E_group_68 rfl rfl ?_
        refine ze_getr X dc_E_group_69 zf_E_61 sh_0 rfl ?_
        refine ze_getr X dc_E_group_72 zf_E_174 sh_47 rfl ?_
        refine ze_iload_n X dc_E_group_75 rfl rfl ?_
        refine ze_iald X dc_E_group_76 sh_51 rfl (fun _ => ?_)
        exact ze_iret X Y (vp_nar_int _) dc_E_group_77
      refine ze_if (c := a2 = 3) (fun hq => ?_) (fun hn4 => ?_)
      · refine ze_tabI (off := 60) (tgt := 78) X dc_E_group_18 (by rw [hq]; decide) (by rw [hq]; decide) (by rw [hq]; rfl) (by decide) ?_
        refine ze_aload_n X dc_E_group_78 rfl rfl ?_
        refine ze_getr X dc_E_group_79 zf_E_61 sh_0 rfl ?_
        refine ze_getr X dc_E_group_82 zf_E_177 sh_47 rfl ?_
        refine ze_iload_n X dc_E_group_85 rfl rfl ?_
        refine ze_iald X dc_E_group_86 sh_52 rfl (fun _ => ?_)
        exact ze_iret X Y (vp_nar_int _) dc_E_group_87
      refine ze_tabO (tgt := 88) X dc_E_group_18 (by have q0 := lv_neT (a := 0) hn1 (by decide); have q1 := lv_neT (a := 1) hn2 (by decide); have q2 := lv_neT (a := 2) hn3 (by decide); have q3 := lv_neT (a := 3) hn4 (by decide); omega) (by decide) ?_
      refine ze_iconst (x := 0) X dc_E_group_88 (by decide) ?_
      exact ze_iret X Y (vp_nar_int _) dc_E_group_89
    · refine ze_iconst (x := 0) X dc_E_group_15 (by decide) ?_
      exact ze_iret X Y (vp_nar_int _) dc_E_group_16
set_option maxHeartbeats 4000000 in
set_option maxRecDepth 100000 in
theorem c_E_group {l : Launch} {D : va_G} {ad : Nat → Nat} {ca : Nat → ClassId} (hD : va_D (ze_A ad) (ze_ws ze_sh ad ca (fun _ _ => 0)))     (a1 : Int32) (a2 : Int32)  (v : ze_H) {r : Int32} {v1 : ze_H} (h : f_E_group  a1 a2 v = some (r, v1)) : ze_Mi l D ad ca my_E_group bc_E_group 3 .int 0 0 [.inr 0, .inl a1, .inl a2] v r v1 := ze_Mi_of (plainFor_of_name (by decide)) hD (Nat.le_of_ble_eq_true rfl) (fun G e1 e2 e3 e4 X Y => w_E_group X Y    a1 a2  v) h
def f_E_count_J17  (b1 : Int32) (v : ze_H) : Option (Int32 × ze_H) :=
  (if b1 = 8 then some ((v 0 13), v) else (if b1 = 9 then some ((v 39 5), v) else (if b1 = 10 then some ((v 47 5), v) else (if b1 = 11 then some ((v 0 14), v) else (if b1 = 12 then some ((v 0 15), v) else some ((-1), v))))))
def f_E_count  (a1 : Int32) (v : ze_H) : Option (Int32 × ze_H) :=
  (if a1 < 0 then (f_E_count_J17  a1 v) else (if 7 < a1 then (f_E_count_J17  a1 v) else ze_in a1 8 (some ((v 74 (Int32.toNatClampNeg a1)), v))))
set_option maxHeartbeats 4000000 in
set_option maxRecDepth 100000 in
theorem w_E_count_J17 {G : ze_G}  (X : ze_X G bc_E_count cn_E 2 0 0) (Y : ze_Ri G .int)    (b1 : Int32)  (v : ze_H) : ze_T G (f_E_count_J17  b1 v) v 17 [some (.inr 0), some (.inl b1)] [] := by
  refine ze_iload_n X dc_E_count_17 rfl rfl ?_
  refine ze_if (c := b1 = 8) (fun hq => ?_) (fun hn1 => ?_)
  · refine ze_tabI (off := 34) (tgt := 52) X dc_E_count_18 (by rw [hq]; decide) (by rw [hq]; decide) (by rw [hq]; rfl) (by decide) ?_
    refine ze_aload_n X dc_E_count_52 rfl rfl ?_
    refine ze_geti X dc_E_count_53 zf_E_148 sh_0 rfl ?_
    exact ze_iret X Y (vp_nar_int _) dc_E_count_56
  refine ze_if (c := b1 = 9) (fun hq => ?_) (fun hn2 => ?_)
  · refine ze_tabI (off := 39) (tgt := 57) X dc_E_count_18 (by rw [hq]; decide) (by rw [hq]; decide) (by rw [hq]; rfl) (by decide) ?_
    refine ze_aload_n X dc_E_count_57 rfl rfl ?_
    refine ze_getr X dc_E_count_58 zf_E_51 sh_0 rfl ?_
    refine ze_geti X dc_E_count_61 zf_E_132 is_Line_39.1 rfl ?_
    exact ze_iret X Y (vp_nar_int _) dc_E_count_64
  refine ze_if (c := b1 = 10) (fun hq => ?_) (fun hn3 => ?_)
  · refine ze_tabI (off := 47) (tgt := 65) X dc_E_count_18 (by rw [hq]; decide) (by rw [hq]; decide) (by rw [hq]; rfl) (by decide) ?_
    refine ze_aload_n X dc_E_count_65 rfl rfl ?_
    refine ze_getr X dc_E_count_66 zf_E_61 sh_0 rfl ?_
    refine ze_geti X dc_E_count_69 zf_E_100 sh_47 rfl ?_
    exact ze_iret X Y (vp_nar_int _) dc_E_count_72
  refine ze_if (c := b1 = 11) (fun hq => ?_) (fun hn4 => ?_)
  · refine ze_tabI (off := 55) (tgt := 73) X dc_E_count_18 (by rw [hq]; decide) (by rw [hq]; decide) (by rw [hq]; rfl) (by decide) ?_
    refine ze_aload_n X dc_E_count_73 rfl rfl ?_
    refine ze_geti X dc_E_count_74 zf_E_105 sh_0 rfl ?_
    exact ze_iret X Y (vp_nar_int _) dc_E_count_77
  refine ze_if (c := b1 = 12) (fun hq => ?_) (fun hn5 => ?_)
  · refine ze_tabI (off := 60) (tgt := 78) X dc_E_count_18 (by rw [hq]; decide) (by rw [hq]; decide) (by rw [hq]; rfl) (by decide) ?_
    refine ze_aload_n X dc_E_count_78 rfl rfl ?_
    refine ze_geti X dc_E_count_79 zf_E_180 sh_0 rfl ?_
    exact ze_iret X Y (vp_nar_int _) dc_E_count_82
  refine ze_tabO (tgt := 83) X dc_E_count_18 (by have q0 := lv_neT (a := 8) hn1 (by decide); have q1 := lv_neT (a := 9) hn2 (by decide); have q2 := lv_neT (a := 10) hn3 (by decide); have q3 := lv_neT (a := 11) hn4 (by decide); have q4 := lv_neT (a := 12) hn5 (by decide); omega) (by decide) ?_
  refine ze_iconst (x := (-1)) X dc_E_count_83 (by decide) ?_
  exact ze_iret X Y (vp_nar_int _) dc_E_count_84
set_option maxHeartbeats 4000000 in
set_option maxRecDepth 100000 in
theorem w_E_count {G : ze_G}  (X : ze_X G bc_E_count cn_E 2 0 0) (Y : ze_Ri G .int)    (a1 : Int32)  (v : ze_H) : ze_T G (f_E_count  a1 v) v 0 [some (.inr 0), some (.inl a1)] [] := by
  refine ze_iload_n X dc_E_count_0 rfl rfl ?_
  refine ze_if_lt (tgt := 17) X dc_E_count_1 (by decide) (fun _ => ?_) (fun _ => ?_)
  · refine ze_weak [true, true] ?_
    exact w_E_count_J17 X Y    a1  v
  · refine ze_iload_n X dc_E_count_4 rfl rfl ?_
    refine ze_bipush (x := 7) X dc_E_count_5 (by decide) ?_
    refine ze_icmp_gt (tgt := 17) X dc_E_count_7 (by decide) (fun _ => ?_) (fun _ => ?_)
    · refine ze_weak [true, true] ?_
      exact w_E_count_J17 X Y    a1  v
    · refine ze_aload_n X dc_E_count_10 rfl rfl ?_
      refine ze_getr X dc_E_count_11 zf_E_79 sh_0 rfl ?_
      refine ze_iload_n X dc_E_count_14 rfl rfl ?_
      refine ze_iald X dc_E_count_15 sh_74 rfl (fun _ => ?_)
      exact ze_iret X Y (vp_nar_int _) dc_E_count_16
set_option maxHeartbeats 4000000 in
set_option maxRecDepth 100000 in
theorem c_E_count {l : Launch} {D : va_G} {ad : Nat → Nat} {ca : Nat → ClassId} (hD : va_D (ze_A ad) (ze_ws ze_sh ad ca (fun _ _ => 0)))     (a1 : Int32)  (v : ze_H) {r : Int32} {v1 : ze_H} (h : f_E_count  a1 v = some (r, v1)) : ze_Mi l D ad ca my_E_count bc_E_count 2 .int 0 0 [.inr 0, .inl a1] v r v1 := ze_Mi_of (plainFor_of_name (by decide)) hD (Nat.le_of_ble_eq_true rfl) (fun G e1 e2 e3 e4 X Y => w_E_count X Y    a1  v) h
def f_E_begin  (a1 : Nat) (a2 : Int32) (a3 : Int32) (v : ze_H) : Option (Int32 × ze_H) :=
  ze_lev (ze_u v a1 0 a2) (fun v1 => ze_lev (ze_u v1 a1 1 a3) (fun v2 => ze_lev (ze_u v2 a1 2 a2) (fun v3 => ze_lev (ze_u v3 a1 3 0) (fun v4 => ze_in 0 8 (ze_in 0 8 (ze_lev (ze_u v4 74 (Int32.toNatClampNeg 0) ((v4 74 (Int32.toNatClampNeg 0)) + 1)) (fun v5 => some (0, v5))))))))
set_option maxHeartbeats 4000000 in
set_option maxRecDepth 100000 in
theorem w_E_begin {G : ze_G}  (X : ze_X G bc_E_begin cn_E 4 0 0) (Y : ze_Rv G)    (a1 : Nat) (a2 : Int32) (a3 : Int32) (ha1 : ze_isExchange a1) (v : ze_H) : ze_T G (f_E_begin  a1 a2 a3 v) v 0 [some (.inr 0), some (.inr a1), some (.inl a2), some (.inl a3)] [] := by
  refine ze_aload_n X dc_E_begin_0 rfl rfl ?_
  refine ze_iload_n X dc_E_begin_1 rfl rfl ?_
  refine ze_puti X dc_E_begin_2 zp_E_183 ha1 rfl (fun v1 => ?_)
  refine ze_aload_n X dc_E_begin_5 rfl rfl ?_
  refine ze_iload_n X dc_E_begin_6 rfl rfl ?_
  refine ze_puti X dc_E_begin_7 zp_E_186 ha1 rfl (fun v2 => ?_)
  refine ze_aload_n X dc_E_begin_10 rfl rfl ?_
  refine ze_iload_n X dc_E_begin_11 rfl rfl ?_
  refine ze_puti X dc_E_begin_12 zp_E_189 ha1 rfl (fun v3 => ?_)
  refine ze_aload_n X dc_E_begin_15 rfl rfl ?_
  refine ze_iconst (x := 0) X dc_E_begin_16 (by decide) ?_
  refine ze_puti X dc_E_begin_17 zp_E_192 ha1 rfl (fun v4 => ?_)
  refine ze_aload_n X dc_E_begin_20 rfl rfl ?_
  refine ze_getr X dc_E_begin_21 zf_E_79 sh_0 rfl ?_
  refine ze_iconst (x := 0) X dc_E_begin_24 (by decide) ?_
  refine ze_dup2 X dc_E_begin_25 ?_
  refine ze_iald X dc_E_begin_26 sh_74 rfl (fun _ => ?_)
  refine ze_iconst (x := 1) X dc_E_begin_27 (by decide) ?_
  refine ze_iadd X dc_E_begin_28 ?_
  refine ze_iast X dc_E_begin_29 sh_74 rfl (fun v5 _ => ?_)
  exact ze_vret X Y dc_E_begin_30
set_option maxHeartbeats 4000000 in
set_option maxRecDepth 100000 in
theorem c_E_begin {l : Launch} {D : va_G} {ad : Nat → Nat} {ca : Nat → ClassId} (hD : va_D (ze_A ad) (ze_ws ze_sh ad ca (fun _ _ => 0)))     (a1 : Nat) (a2 : Int32) (a3 : Int32) (ha1 : ze_isExchange a1) (v : ze_H) {r : Int32} {v1 : ze_H} (h : f_E_begin  a1 a2 a3 v = some (r, v1)) : ze_Mv l D ad ca my_E_begin bc_E_begin 4 0 0 [.inr 0, .inr a1, .inl a2, .inl a3] v v1 := ze_Mv_of (plainFor_of_name (by decide)) hD (Nat.le_of_ble_eq_true rfl) (fun G e1 e2 e3 e4 X Y => w_E_begin X Y    a1 a2 a3 ha1 v) h
def f_E_end  (a1 : Nat) (a2 : Int32) (v : ze_H) : Option (Int32 × ze_H) :=
  ze_lev (ze_u v a1 3 a2) (fun v1 => ze_in a2 8 (ze_in a2 8 (ze_lev (ze_u v1 74 (Int32.toNatClampNeg a2) ((v1 74 (Int32.toNatClampNeg a2)) + 1)) (fun v2 => some (0, v2)))))
set_option maxHeartbeats 4000000 in
set_option maxRecDepth 100000 in
theorem w_E_end {G : ze_G}  (X : ze_X G bc_E_end cn_E 3 0 0) (Y : ze_Rv G)    (a1 : Nat) (a2 : Int32) (ha1 : ze_isExchange a1) (v : ze_H) : ze_T G (f_E_end  a1 a2 v) v 0 [some (.inr 0), some (.inr a1), some (.inl a2)] [] := by
  refine ze_aload_n X dc_E_end_0 rfl rfl ?_
  refine ze_iload_n X dc_E_end_1 rfl rfl ?_
  refine ze_puti X dc_E_end_2 zp_E_192 ha1 rfl (fun v1 => ?_)
  refine ze_aload_n X dc_E_end_5 rfl rfl ?_
  refine ze_getr X dc_E_end_6 zf_E_79 sh_0 rfl ?_
  refine ze_iload_n X dc_E_end_9 rfl rfl ?_
  refine ze_dup2 X dc_E_end_10 ?_
  refine ze_iald X dc_E_end_11 sh_74 rfl (fun _ => ?_)
  refine ze_iconst (x := 1) X dc_E_end_12 (by decide) ?_
  refine ze_iadd X dc_E_end_13 ?_
  refine ze_iast X dc_E_end_14 sh_74 rfl (fun v2 _ => ?_)
  exact ze_vret X Y dc_E_end_15
set_option maxHeartbeats 4000000 in
set_option maxRecDepth 100000 in
theorem c_E_end {l : Launch} {D : va_G} {ad : Nat → Nat} {ca : Nat → ClassId} (hD : va_D (ze_A ad) (ze_ws ze_sh ad ca (fun _ _ => 0)))     (a1 : Nat) (a2 : Int32) (ha1 : ze_isExchange a1) (v : ze_H) {r : Int32} {v1 : ze_H} (h : f_E_end  a1 a2 v = some (r, v1)) : ze_Mv l D ad ca my_E_end bc_E_end 3 0 0 [.inr 0, .inr a1, .inl a2] v v1 := ze_Mv_of (plainFor_of_name (by decide)) hD (Nat.le_of_ble_eq_true rfl) (fun G e1 e2 e3 e4 X Y => w_E_end X Y    a1 a2 ha1 v) h
def f_E_isRedelivered_J116  (k1 : Nat) (s0 : Int32) (v : ze_H) : Option (Int32 × ze_H) :=
  ze_let s0 (fun x8 => ze_in 4 5 (ze_call (f_N_accept  (24 + 3 * (Int32.toNatClampNeg 4)) x8 (v k1 1) v) (fun r10 v11 => ze_call (f_E_end  k1 5 v11) (fun r12 v13 => some (0, v13)))))
def f_E_isRedelivered  (a1 : Nat) (a2 : Int32) (a3 : Int32) (v : ze_H) : Option (Int32 × ze_H) :=
  ze_call (f_C_firstFor  a2 v) (fun r1 v2 => ze_let r1 (fun x3 => (if x3 = (-1) then ze_call (f_E_end  a1 6 v2) (fun r4 v5 => some (0, v5)) else ze_in x3 4 ((if (v2 19 (Int32.toNatClampNeg x3)) < a3 then ze_in x3 4 ((if (v2 21 (Int32.toNatClampNeg x3)) = 0 then ze_call (f_E_end  a1 6 v2) (fun r6 v7 => some (0, v7)) else ze_in x3 4 ((if (v2 22 (Int32.toNatClampNeg x3)) = 0 then (f_E_isRedelivered_J116  a1 (v2 a1 0) v2) else (f_E_isRedelivered_J116  a1 (v2 a1 2) v2))))) else ze_lev (ze_u v2 0 15 ((v2 0 15) + 1)) (fun v14 => ze_in x3 4 (ze_lev (ze_u v14 0 13 ((v14 0 13) + (if 60 < ((v14 20 (Int32.toNatClampNeg x3)) <<< ((a3 - 1) &&& 31)) then 60 else ((v14 20 (Int32.toNatClampNeg x3)) <<< ((a3 - 1) &&& 31))))) (fun v15 => some (1, v15)))))))))
set_option maxHeartbeats 4000000 in
set_option maxRecDepth 100000 in
theorem w_E_isRedelivered_J116 {G : ze_G}  (X : ze_X G bc_E_isRedelivered cn_E 6 2 45) (Y : ze_Ri G .boolean)    (k1 : Nat) (s0 : Int32) (hk1 : ze_isExchange k1) (v : ze_H) : ze_T G (f_E_isRedelivered_J116  k1 s0 v) v 116 [some (.inr 0), some (.inr k1), none, none, none, none] [.inl s0] := by
  refine ze_istore X dc_E_isRedelivered_116 (by decide) (fun x8 => ?_)
  refine ze_aload_n X dc_E_isRedelivered_118 rfl rfl ?_
  refine ze_getr X dc_E_isRedelivered_119 zf_E_41 sh_0 rfl ?_
  refine ze_iconst (x := 4) X dc_E_isRedelivered_122 (by decide) ?_
  refine ze_aald X dc_E_isRedelivered_123 sh_23 rfl (fun hi9 => ?_)
  refine ze_iload X dc_E_isRedelivered_124 rfl ?_
  refine ze_aload_n X dc_E_isRedelivered_126 rfl rfl ?_
  refine ze_geti X dc_E_isRedelivered_127 zf_E_186 hk1 rfl ?_
  refine ze_callVv (As := [.inl x8, .inl (v k1 1)]) (st := []) X dc_E_isRedelivered_130 zc_E_272 (is_Endpoint_at hi9).1 (fun zr zv zh => c_N_accept X.2.2.2.2.2.2.1  (24 + 3 * (Int32.toNatClampNeg 4)) x8 (v k1 1) (is_Endpoint_at hi9) v zh) rfl (by decide) (by decide) (Nat.le_of_ble_eq_true rfl) (fun r10 v11 => ?_)
  refine ze_aload_n X dc_E_isRedelivered_133 rfl rfl ?_
  refine ze_aload_n X dc_E_isRedelivered_134 rfl rfl ?_
  refine ze_iconst (x := 5) X dc_E_isRedelivered_135 (by decide) ?_
  refine ze_callVv (As := [.inr k1, .inl 5]) (st := []) X dc_E_isRedelivered_136 zc_E_202 sh_0 (fun zr zv zh => c_E_end X.2.2.2.2.2.2.1  k1 5 hk1 v11 zh) rfl (by decide) (by decide) (Nat.le_of_ble_eq_true rfl) (fun r12 v13 => ?_)
  refine ze_goto (tgt := 149) X dc_E_isRedelivered_139 (by decide) ?_
  refine ze_iconst (x := 0) X dc_E_isRedelivered_149 (by decide) ?_
  exact ze_iret X Y rfl dc_E_isRedelivered_150
set_option maxHeartbeats 4000000 in
set_option maxRecDepth 100000 in
theorem w_E_isRedelivered {G : ze_G}  (X : ze_X G bc_E_isRedelivered cn_E 6 2 45) (Y : ze_Ri G .boolean)    (a1 : Nat) (a2 : Int32) (a3 : Int32) (ha1 : ze_isExchange a1) (v : ze_H) : ze_T G (f_E_isRedelivered  a1 a2 a3 v) v 0 [some (.inr 0), some (.inr a1), some (.inl a2), some (.inl a3), none, none] [] := by
  refine ze_aload_n X dc_E_isRedelivered_0 rfl rfl ?_
  refine ze_getr X dc_E_isRedelivered_1 zf_E_35 sh_0 rfl ?_
  refine ze_iload_n X dc_E_isRedelivered_4 rfl rfl ?_
  refine ze_callVi (As := [.inl a2]) (st := []) X dc_E_isRedelivered_5 zc_E_251 sh_17 (fun zr zv zh => c_C_firstFor X.2.2.2.2.2.2.1  a2  v zh) rfl (by decide) (by decide) (Nat.le_of_ble_eq_true rfl) (fun r1 v2 => ?_)
  refine ze_istore X dc_E_isRedelivered_8 (by decide) (fun x3 => ?_)
  refine ze_iload X dc_E_isRedelivered_10 rfl ?_
  refine ze_iconst (x := (-1)) X dc_E_isRedelivered_12 (by decide) ?_
  refine ze_icmp_ne (tgt := 25) X dc_E_isRedelivered_13 (by decide) (fun _ => ?_) (fun _ => ?_)
  · refine ze_aload_n X dc_E_isRedelivered_16 rfl rfl ?_
    refine ze_aload_n X dc_E_isRedelivered_17 rfl rfl ?_
    refine ze_bipush (x := 6) X dc_E_isRedelivered_18 (by decide) ?_
    refine ze_callVv (As := [.inr a1, .inl 6]) (st := []) X dc_E_isRedelivered_20 zc_E_202 sh_0 (fun zr zv zh => c_E_end X.2.2.2.2.2.2.1  a1 6 ha1 v2 zh) rfl (by decide) (by decide) (Nat.le_of_ble_eq_true rfl) (fun r4 v5 => ?_)
    refine ze_iconst (x := 0) X dc_E_isRedelivered_23 (by decide) ?_
    exact ze_iret X Y rfl dc_E_isRedelivered_24
  · refine ze_iload_n X dc_E_isRedelivered_25 rfl rfl ?_
    refine ze_aload_n X dc_E_isRedelivered_26 rfl rfl ?_
    refine ze_getr X dc_E_isRedelivered_27 zf_E_35 sh_0 rfl ?_
    refine ze_getr X dc_E_isRedelivered_30 zf_E_254 sh_17 rfl ?_
    refine ze_iload X dc_E_isRedelivered_33 rfl ?_
    refine ze_iald X dc_E_isRedelivered_35 sh_19 rfl (fun _ => ?_)
    refine ze_icmp_gt (tgt := 79) X dc_E_isRedelivered_36 (by decide) (fun _ => ?_) (fun _ => ?_)
    · refine ze_aload_n X dc_E_isRedelivered_79 rfl rfl ?_
      refine ze_getr X dc_E_isRedelivered_80 zf_E_35 sh_0 rfl ?_
      refine ze_getr X dc_E_isRedelivered_83 zf_E_266 sh_17 rfl ?_
      refine ze_iload X dc_E_isRedelivered_86 rfl ?_
      refine ze_zald X dc_E_isRedelivered_88 sh_21 rfl (fun _ => ?_)
      refine ze_if_eq (tgt := 142) X dc_E_isRedelivered_89 (by decide) (fun _ => ?_) (fun _ => ?_)
      · refine ze_aload_n X dc_E_isRedelivered_142 rfl rfl ?_
        refine ze_aload_n X dc_E_isRedelivered_143 rfl rfl ?_
        refine ze_bipush (x := 6) X dc_E_isRedelivered_144 (by decide) ?_
        refine ze_callVv (As := [.inr a1, .inl 6]) (st := []) X dc_E_isRedelivered_146 zc_E_202 sh_0 (fun zr zv zh => c_E_end X.2.2.2.2.2.2.1  a1 6 ha1 v2 zh) rfl (by decide) (by decide) (Nat.le_of_ble_eq_true rfl) (fun r6 v7 => ?_)
        refine ze_iconst (x := 0) X dc_E_isRedelivered_149 (by decide) ?_
        exact ze_iret X Y rfl dc_E_isRedelivered_150
      · refine ze_aload_n X dc_E_isRedelivered_92 rfl rfl ?_
        refine ze_getr X dc_E_isRedelivered_93 zf_E_35 sh_0 rfl ?_
        refine ze_getr X dc_E_isRedelivered_96 zf_E_270 sh_17 rfl ?_
        refine ze_iload X dc_E_isRedelivered_99 rfl ?_
        refine ze_zald X dc_E_isRedelivered_101 sh_22 rfl (fun _ => ?_)
        refine ze_if_eq (tgt := 112) X dc_E_isRedelivered_102 (by decide) (fun _ => ?_) (fun _ => ?_)
        · refine ze_aload_n X dc_E_isRedelivered_112 rfl rfl ?_
          refine ze_geti X dc_E_isRedelivered_113 zf_E_183 ha1 rfl ?_
          refine ze_weak [true, true, false, false, false, false] ?_
          exact w_E_isRedelivered_J116 X Y    a1 (v2 a1 0) ha1 v2
        · refine ze_aload_n X dc_E_isRedelivered_105 rfl rfl ?_
          refine ze_geti X dc_E_isRedelivered_106 zf_E_189 ha1 rfl ?_
          refine ze_goto (tgt := 116) X dc_E_isRedelivered_109 (by decide) ?_
          refine ze_weak [true, true, false, false, false, false] ?_
          exact w_E_isRedelivered_J116 X Y    a1 (v2 a1 2) ha1 v2
    · refine ze_aload_n X dc_E_isRedelivered_39 rfl rfl ?_
      refine ze_dup X dc_E_isRedelivered_40 ?_
      refine ze_geti X dc_E_isRedelivered_41 zf_E_180 sh_0 rfl ?_
      refine ze_iconst (x := 1) X dc_E_isRedelivered_44 (by decide) ?_
      refine ze_iadd X dc_E_isRedelivered_45 ?_
      refine ze_puti X dc_E_isRedelivered_46 zp_E_180 sh_0 rfl (fun v14 => ?_)
      refine ze_aload_n X dc_E_isRedelivered_49 rfl rfl ?_
      refine ze_dup X dc_E_isRedelivered_50 ?_
      refine ze_geti X dc_E_isRedelivered_51 zf_E_148 sh_0 rfl ?_
      refine ze_aload_n X dc_E_isRedelivered_54 rfl rfl ?_
      refine ze_getr X dc_E_isRedelivered_55 zf_E_35 sh_0 rfl ?_
      refine ze_getr X dc_E_isRedelivered_58 zf_E_257 sh_17 rfl ?_
      refine ze_iload X dc_E_isRedelivered_61 rfl ?_
      refine ze_iald X dc_E_isRedelivered_63 sh_20 rfl (fun _ => ?_)
      refine ze_iload_n X dc_E_isRedelivered_64 rfl rfl ?_
      refine ze_iconst (x := 1) X dc_E_isRedelivered_65 (by decide) ?_
      refine ze_isub X dc_E_isRedelivered_66 ?_
      refine ze_ishl X dc_E_isRedelivered_67 ?_
      refine ze_bipush (x := 60) X dc_E_isRedelivered_68 (by decide) ?_
      refine ze_mmin X dc_E_isRedelivered_70 zm_E_260 (by decide) (by decide) (Nat.le_of_ble_eq_true rfl) ?_
      refine ze_iadd X dc_E_isRedelivered_73 ?_
      refine ze_puti X dc_E_isRedelivered_74 zp_E_148 sh_0 rfl (fun v15 => ?_)
      refine ze_iconst (x := 1) X dc_E_isRedelivered_77 (by decide) ?_
      exact ze_iret X Y rfl dc_E_isRedelivered_78
set_option maxHeartbeats 4000000 in
set_option maxRecDepth 100000 in
theorem c_E_isRedelivered {l : Launch} {D : va_G} {ad : Nat → Nat} {ca : Nat → ClassId} (hD : va_D (ze_A ad) (ze_ws ze_sh ad ca (fun _ _ => 0)))     (a1 : Nat) (a2 : Int32) (a3 : Int32) (ha1 : ze_isExchange a1) (v : ze_H) {r : Int32} {v1 : ze_H} (h : f_E_isRedelivered  a1 a2 a3 v = some (r, v1)) : ze_Mi l D ad ca my_E_isRedelivered bc_E_isRedelivered 6 .boolean 2 45 [.inr 0, .inr a1, .inl a2, .inl a3] v r v1 := ze_Mi_of (plainFor_of_name (by decide)) hD (Nat.le_of_ble_eq_true rfl) (fun G e1 e2 e3 e4 X Y => w_E_isRedelivered X Y    a1 a2 a3 ha1 v) h
def f_E_filter  (a1 : Nat) (a2 : Int32) (v : ze_H) : Option (Int32 × ze_H) :=
  ze_call (f_P_holds  9 a1 a2 v) (fun r1 v2 => (if r1 = 0 then ze_call (f_E_end  a1 2 v2) (fun r3 v4 => some (0, v4)) else some (0, v2)))
set_option maxHeartbeats 4000000 in
set_option maxRecDepth 100000 in
theorem w_E_filter {G : ze_G}  (X : ze_X G bc_E_filter cn_E 3 2 45) (Y : ze_Rv G)    (a1 : Nat) (a2 : Int32) (ha1 : ze_isExchange a1) (v : ze_H) : ze_T G (f_E_filter  a1 a2 v) v 0 [some (.inr 0), some (.inr a1), some (.inl a2)] [] := by
  refine ze_aload_n X dc_E_filter_0 rfl rfl ?_
  refine ze_getr X dc_E_filter_1 zf_E_20 sh_0 rfl ?_
  refine ze_aload_n X dc_E_filter_4 rfl rfl ?_
  refine ze_iload_n X dc_E_filter_5 rfl rfl ?_
  refine ze_callVi (As := [.inr a1, .inl a2]) (st := []) X dc_E_filter_6 zc_E_282 is_Program_9.1 (fun zr zv zh => c_P_holds X.2.2.2.2.2.2.1  9 a1 a2 is_Program_9 ha1 v zh) rfl (by decide) (by decide) (Nat.le_of_ble_eq_true rfl) (fun r1 v2 => ?_)
  refine ze_if_ne (tgt := 18) X dc_E_filter_9 (by decide) (fun _ => ?_) (fun _ => ?_)
  · refine ze_aload_n X dc_E_filter_12 rfl rfl ?_
    refine ze_aload_n X dc_E_filter_13 rfl rfl ?_
    refine ze_iconst (x := 2) X dc_E_filter_14 (by decide) ?_
    refine ze_callVv (As := [.inr a1, .inl 2]) (st := []) X dc_E_filter_15 zc_E_202 sh_0 (fun zr zv zh => c_E_end X.2.2.2.2.2.2.1  a1 2 ha1 v2 zh) rfl (by decide) (by decide) (Nat.le_of_ble_eq_true rfl) (fun r3 v4 => ?_)
    exact ze_vret X Y dc_E_filter_18
  · exact ze_vret X Y dc_E_filter_18
set_option maxHeartbeats 4000000 in
set_option maxRecDepth 100000 in
theorem c_E_filter {l : Launch} {D : va_G} {ad : Nat → Nat} {ca : Nat → ClassId} (hD : va_D (ze_A ad) (ze_ws ze_sh ad ca (fun _ _ => 0)))     (a1 : Nat) (a2 : Int32) (ha1 : ze_isExchange a1) (v : ze_H) {r : Int32} {v1 : ze_H} (h : f_E_filter  a1 a2 v = some (r, v1)) : ze_Mv l D ad ca my_E_filter bc_E_filter 3 2 45 [.inr 0, .inr a1, .inl a2] v v1 := ze_Mv_of (plainFor_of_name (by decide)) hD (Nat.le_of_ble_eq_true rfl) (fun G e1 e2 e3 e4 X Y => w_E_filter X Y    a1 a2 ha1 v) h
def f_E_endIfDuplicate  (a1 : Nat) (a2 : Int32) (v : ze_H) : Option (Int32 × ze_H) :=
  ze_call (f_K_has  a2 (v a1 1) v) (fun r1 v2 => (if r1 = 0 then ze_call (f_K_addLatest  a2 (v2 a1 1) v2) (fun r3 v4 => some (0, v4)) else ze_call (f_E_end  a1 4 v2) (fun r5 v6 => some (0, v6))))
set_option maxHeartbeats 4000000 in
set_option maxRecDepth 100000 in
theorem w_E_endIfDuplicate {G : ze_G}  (X : ze_X G bc_E_endIfDuplicate cn_E 3 2 83) (Y : ze_Rv G)    (a1 : Nat) (a2 : Int32) (ha1 : ze_isExchange a1) (v : ze_H) : ze_T G (f_E_endIfDuplicate  a1 a2 v) v 0 [some (.inr 0), some (.inr a1), some (.inl a2)] [] := by
  refine ze_aload_n X dc_E_endIfDuplicate_0 rfl rfl ?_
  refine ze_getr X dc_E_endIfDuplicate_1 zf_E_68 sh_0 rfl ?_
  refine ze_iload_n X dc_E_endIfDuplicate_4 rfl rfl ?_
  refine ze_aload_n X dc_E_endIfDuplicate_5 rfl rfl ?_
  refine ze_geti X dc_E_endIfDuplicate_6 zf_E_186 ha1 rfl ?_
  refine ze_callVi (As := [.inl a2, .inl (v a1 1)]) (st := []) X dc_E_endIfDuplicate_9 zc_E_286 sh_53 (fun zr zv zh => c_K_has X.2.2.2.2.2.2.1  a2 (v a1 1)  v zh) rfl (by decide) (by decide) (Nat.le_of_ble_eq_true rfl) (fun r1 v2 => ?_)
  refine ze_if_eq (tgt := 24) X dc_E_endIfDuplicate_12 (by decide) (fun _ => ?_) (fun _ => ?_)
  · refine ze_aload_n X dc_E_endIfDuplicate_24 rfl rfl ?_
    refine ze_getr X dc_E_endIfDuplicate_25 zf_E_68 sh_0 rfl ?_
    refine ze_iload_n X dc_E_endIfDuplicate_28 rfl rfl ?_
    refine ze_aload_n X dc_E_endIfDuplicate_29 rfl rfl ?_
    refine ze_geti X dc_E_endIfDuplicate_30 zf_E_186 ha1 rfl ?_
    refine ze_callVv (As := [.inl a2, .inl (v2 a1 1)]) (st := []) X dc_E_endIfDuplicate_33 zc_E_289 sh_53 (fun zr zv zh => c_K_addLatest X.2.2.2.2.2.2.1  a2 (v2 a1 1)  v2 zh) rfl (by decide) (by decide) (Nat.le_of_ble_eq_true rfl) (fun r3 v4 => ?_)
    exact ze_vret X Y dc_E_endIfDuplicate_36
  · refine ze_aload_n X dc_E_endIfDuplicate_15 rfl rfl ?_
    refine ze_aload_n X dc_E_endIfDuplicate_16 rfl rfl ?_
    refine ze_iconst (x := 4) X dc_E_endIfDuplicate_17 (by decide) ?_
    refine ze_callVv (As := [.inr a1, .inl 4]) (st := []) X dc_E_endIfDuplicate_18 zc_E_202 sh_0 (fun zr zv zh => c_E_end X.2.2.2.2.2.2.1  a1 4 ha1 v2 zh) rfl (by decide) (by decide) (Nat.le_of_ble_eq_true rfl) (fun r5 v6 => ?_)
    refine ze_goto (tgt := 36) X dc_E_endIfDuplicate_21 (by decide) ?_
    exact ze_vret X Y dc_E_endIfDuplicate_36
set_option maxHeartbeats 4000000 in
set_option maxRecDepth 100000 in
theorem c_E_endIfDuplicate {l : Launch} {D : va_G} {ad : Nat → Nat} {ca : Nat → ClassId} (hD : va_D (ze_A ad) (ze_ws ze_sh ad ca (fun _ _ => 0)))     (a1 : Nat) (a2 : Int32) (ha1 : ze_isExchange a1) (v : ze_H) {r : Int32} {v1 : ze_H} (h : f_E_endIfDuplicate  a1 a2 v = some (r, v1)) : ze_Mv l D ad ca my_E_endIfDuplicate bc_E_endIfDuplicate 3 2 83 [.inr 0, .inr a1, .inl a2] v v1 := ze_Mv_of (plainFor_of_name (by decide)) hD (Nat.le_of_ble_eq_true rfl) (fun G e1 e2 e3 e4 X Y => w_E_endIfDuplicate X Y    a1 a2 ha1 v) h
def f_E_hold_L59  (b2 : Int32) (b3 : Int32) (kk : ze_H → Option (Int32 × ze_H)) : Nat → Int32 → ze_H → Option (Int32 × ze_H)
  | 0, _, _ => none
  | n + 1, l4, v =>
    (if b3 ≤ l4 then (kk  v) else ze_let ((b2 * 4) + l4) (fun x8 => ze_in b2 164 (ze_in x8 656 (ze_in x8 656 (ze_call (f_L_add  43 401 (v 15 (Int32.toNatClampNeg b2)) (v 55 (Int32.toNatClampNeg x8)) (v 56 (Int32.toNatClampNeg x8)) v) (fun r9 v10 => ze_let (l4 + 1) (fun x11 => (f_E_hold_L59  b2 b3 kk n x11 v10))))))))
def f_E_hold  (a1 : Nat) (a2 : Int32) (v : ze_H) : Option (Int32 × ze_H) :=
  ze_call (f_K_addInOrder  a2 (v a1 0) (v a1 1) v) (fun r1 v2 => ze_lev (ze_u v2 0 14 ((v2 0 14) + 1)) (fun v3 => ze_call (f_E_end  a1 3 v3) (fun r4 v5 => ze_in a2 164 (ze_let (v5 54 (Int32.toNatClampNeg a2)) (fun x6 => ze_in a2 164 ((if (v5 11 (Int32.toNatClampNeg a2)) ≤ x6 then ze_let 0 (fun x7 => (f_E_hold_L59  a2 x6 (fun  v12 => ze_in a2 164 (ze_lev (ze_u v12 54 (Int32.toNatClampNeg a2) 0) (fun v13 => ze_lev (ze_u v13 0 14 ((v13 0 14) - x6)) (fun v14 => some (0, v14))))) 200000 x7 v5)) else some (0, v5))))))))
set_option maxHeartbeats 4000000 in
set_option maxRecDepth 100000 in
theorem w_E_hold_L59 {G : ze_G}  (X : ze_X G bc_E_hold cn_E 6 1 25) (Y : ze_Rv G)    (b2 : Int32) (b3 : Int32)  {kk : ze_H → Option (Int32 × ze_H)} (hkk : ∀ (v : ze_H), ze_T G (kk  v) v 116 [some (.inr 0), none, some (.inl b2), some (.inl b3), none, none] []) : ∀ (n : Nat) (l4 : Int32) (v : ze_H), ze_T G (f_E_hold_L59  b2 b3 kk n l4 v) v 59 [some (.inr 0), none, some (.inl b2), some (.inl b3), some (.inl l4), none] [] := by
  intro n
  induction n with
  | zero => intro l4 v; exact ze_none
  | succ n ih =>
    intro l4 v
    refine ze_iload X dc_E_hold_59 rfl ?_
    refine ze_iload_n X dc_E_hold_61 rfl rfl ?_
    refine ze_icmp_ge (tgt := 116) X dc_E_hold_62 (by decide) (fun _ => ?_) (fun _ => ?_)
    · refine ze_weak [true, false, true, true, false, false] ?_
      exact hkk  v
    · refine ze_iload_n X dc_E_hold_65 rfl rfl ?_
      refine ze_iconst (x := 4) X dc_E_hold_66 (by decide) ?_
      refine ze_imul X dc_E_hold_67 ?_
      refine ze_iload X dc_E_hold_68 rfl ?_
      refine ze_iadd X dc_E_hold_70 ?_
      refine ze_istore X dc_E_hold_71 (by decide) (fun x8 => ?_)
      refine ze_aload_n X dc_E_hold_73 rfl rfl ?_
      refine ze_getr X dc_E_hold_74 zf_E_55 sh_0 rfl ?_
      refine ze_aload_n X dc_E_hold_77 rfl rfl ?_
      refine ze_getr X dc_E_hold_78 zf_E_20 sh_0 rfl ?_
      refine ze_getr X dc_E_hold_81 zf_E_212 is_Program_9.1 rfl ?_
      refine ze_iload_n X dc_E_hold_84 rfl rfl ?_
      refine ze_iald X dc_E_hold_85 sh_15 rfl (fun _ => ?_)
      refine ze_aload_n X dc_E_hold_86 rfl rfl ?_
      refine ze_getr X dc_E_hold_87 zf_E_68 sh_0 rfl ?_
      refine ze_getr X dc_E_hold_90 zf_E_299 sh_53 rfl ?_
      refine ze_iload X dc_E_hold_93 rfl ?_
      refine ze_iald X dc_E_hold_95 sh_55 rfl (fun _ => ?_)
      refine ze_aload_n X dc_E_hold_96 rfl rfl ?_
      refine ze_getr X dc_E_hold_97 zf_E_68 sh_0 rfl ?_
      refine ze_getr X dc_E_hold_100 zf_E_300 sh_53 rfl ?_
      refine ze_iload X dc_E_hold_103 rfl ?_
      refine ze_iald X dc_E_hold_105 sh_56 rfl (fun _ => ?_)
      refine ze_callVi (As := [.inl (v 15 (Int32.toNatClampNeg b2)), .inl (v 55 (Int32.toNatClampNeg x8)), .inl (v 56 (Int32.toNatClampNeg x8))]) (st := []) X dc_E_hold_106 zc_E_125 is_Line_43.1 (fun zr zv zh => c_L_add X.2.2.2.2.2.2.1  43 401 (v 15 (Int32.toNatClampNeg b2)) (v 55 (Int32.toNatClampNeg x8)) (v 56 (Int32.toNatClampNeg x8)) is_Line_43 v zh) rfl (by decide) (by decide) (Nat.le_of_ble_eq_true rfl) (fun r9 v10 => ?_)
      refine ze_pop X dc_E_hold_109 ?_
      refine ze_iinc (y := 1) X dc_E_hold_110 rfl (by decide) (by decide) (fun x11 => ?_)
      refine ze_goto (tgt := 59) X dc_E_hold_113 (by decide) ?_
      refine ze_weak [true, false, true, true, true, false] ?_
      exact ih x11 v10
set_option maxHeartbeats 4000000 in
set_option maxRecDepth 100000 in
theorem w_E_hold {G : ze_G}  (X : ze_X G bc_E_hold cn_E 6 1 25) (Y : ze_Rv G)    (a1 : Nat) (a2 : Int32) (ha1 : ze_isExchange a1) (v : ze_H) : ze_T G (f_E_hold  a1 a2 v) v 0 [some (.inr 0), some (.inr a1), some (.inl a2), none, none, none] [] := by
  refine ze_aload_n X dc_E_hold_0 rfl rfl ?_
  refine ze_getr X dc_E_hold_1 zf_E_68 sh_0 rfl ?_
  refine ze_iload_n X dc_E_hold_4 rfl rfl ?_
  refine ze_aload_n X dc_E_hold_5 rfl rfl ?_
  refine ze_geti X dc_E_hold_6 zf_E_183 ha1 rfl ?_
  refine ze_aload_n X dc_E_hold_9 rfl rfl ?_
  refine ze_geti X dc_E_hold_10 zf_E_186 ha1 rfl ?_
  refine ze_callVv (As := [.inl a2, .inl (v a1 0), .inl (v a1 1)]) (st := []) X dc_E_hold_13 zc_E_292 sh_53 (fun zr zv zh => c_K_addInOrder X.2.2.2.2.2.2.1  a2 (v a1 0) (v a1 1)  v zh) rfl (by decide) (by decide) (Nat.le_of_ble_eq_true rfl) (fun r1 v2 => ?_)
  refine ze_aload_n X dc_E_hold_16 rfl rfl ?_
  refine ze_dup X dc_E_hold_17 ?_
  refine ze_geti X dc_E_hold_18 zf_E_105 sh_0 rfl ?_
  refine ze_iconst (x := 1) X dc_E_hold_21 (by decide) ?_
  refine ze_iadd X dc_E_hold_22 ?_
  refine ze_puti X dc_E_hold_23 zp_E_105 sh_0 rfl (fun v3 => ?_)
  refine ze_aload_n X dc_E_hold_26 rfl rfl ?_
  refine ze_aload_n X dc_E_hold_27 rfl rfl ?_
  refine ze_iconst (x := 3) X dc_E_hold_28 (by decide) ?_
  refine ze_callVv (As := [.inr a1, .inl 3]) (st := []) X dc_E_hold_29 zc_E_202 sh_0 (fun zr zv zh => c_E_end X.2.2.2.2.2.2.1  a1 3 ha1 v3 zh) rfl (by decide) (by decide) (Nat.le_of_ble_eq_true rfl) (fun r4 v5 => ?_)
  refine ze_aload_n X dc_E_hold_32 rfl rfl ?_
  refine ze_getr X dc_E_hold_33 zf_E_68 sh_0 rfl ?_
  refine ze_getr X dc_E_hold_36 zf_E_296 sh_53 rfl ?_
  refine ze_iload_n X dc_E_hold_39 rfl rfl ?_
  refine ze_iald X dc_E_hold_40 sh_54 rfl (fun _ => ?_)
  refine ze_istore_n X dc_E_hold_41 rfl (by decide) (fun x6 => ?_)
  refine ze_iload_n X dc_E_hold_42 rfl rfl ?_
  refine ze_aload_n X dc_E_hold_43 rfl rfl ?_
  refine ze_getr X dc_E_hold_44 zf_E_20 sh_0 rfl ?_
  refine ze_getr X dc_E_hold_47 zf_E_223 is_Program_9.1 rfl ?_
  refine ze_iload_n X dc_E_hold_50 rfl rfl ?_
  refine ze_iald X dc_E_hold_51 sh_11 rfl (fun _ => ?_)
  refine ze_icmp_ge (tgt := 56) X dc_E_hold_52 (by decide) (fun _ => ?_) (fun _ => ?_)
  · refine ze_iconst (x := 0) X dc_E_hold_56 (by decide) ?_
    refine ze_istore X dc_E_hold_57 (by decide) (fun x7 => ?_)
    refine ze_weak [true, false, true, true, true, false] ?_
    refine w_E_hold_L59 X Y    a2 x6  (fun  v12 => ?_) 200000 x7 v5
    refine ze_aload_n X dc_E_hold_116 rfl rfl ?_
    refine ze_getr X dc_E_hold_117 zf_E_68 sh_0 rfl ?_
    refine ze_getr X dc_E_hold_120 zf_E_296 sh_53 rfl ?_
    refine ze_iload_n X dc_E_hold_123 rfl rfl ?_
    refine ze_iconst (x := 0) X dc_E_hold_124 (by decide) ?_
    refine ze_iast X dc_E_hold_125 sh_54 rfl (fun v13 _ => ?_)
    refine ze_aload_n X dc_E_hold_126 rfl rfl ?_
    refine ze_dup X dc_E_hold_127 ?_
    refine ze_geti X dc_E_hold_128 zf_E_105 sh_0 rfl ?_
    refine ze_iload_n X dc_E_hold_131 rfl rfl ?_
    refine ze_isub X dc_E_hold_132 ?_
    refine ze_puti X dc_E_hold_133 zp_E_105 sh_0 rfl (fun v14 => ?_)
    exact ze_vret X Y dc_E_hold_136
  · exact ze_vret X Y dc_E_hold_55
set_option maxHeartbeats 4000000 in
set_option maxRecDepth 100000 in
theorem c_E_hold {l : Launch} {D : va_G} {ad : Nat → Nat} {ca : Nat → ClassId} (hD : va_D (ze_A ad) (ze_ws ze_sh ad ca (fun _ _ => 0)))     (a1 : Nat) (a2 : Int32) (ha1 : ze_isExchange a1) (v : ze_H) {r : Int32} {v1 : ze_H} (h : f_E_hold  a1 a2 v = some (r, v1)) : ze_Mv l D ad ca my_E_hold bc_E_hold 6 1 25 [.inr 0, .inr a1, .inl a2] v v1 := ze_Mv_of (plainFor_of_name (by decide)) hD (Nat.le_of_ble_eq_true rfl) (fun G e1 e2 e3 e4 X Y => w_E_hold X Y    a1 a2 ha1 v) h
def f_E_release  (a1 : Int32) (v : ze_H) : Option (Int32 × ze_H) :=
  ze_in a1 120 (ze_in (v 48 (Int32.toNatClampNeg a1)) 164 (ze_in a1 120 (ze_in a1 120 (ze_call (f_L_add  43 401 (v 15 (Int32.toNatClampNeg (v 48 (Int32.toNatClampNeg a1)))) (v 50 (Int32.toNatClampNeg a1)) (v 49 (Int32.toNatClampNeg a1)) v) (fun r1 v2 => ze_call (f_G_remove  a1 v2) (fun r3 v4 => some (0, v4)))))))
set_option maxHeartbeats 4000000 in
set_option maxRecDepth 100000 in
theorem w_E_release {G : ze_G}  (X : ze_X G bc_E_release cn_E 2 1 24) (Y : ze_Rv G)    (a1 : Int32)  (v : ze_H) : ze_T G (f_E_release  a1 v) v 0 [some (.inr 0), some (.inl a1)] [] := by
  refine ze_aload_n X dc_E_release_0 rfl rfl ?_
  refine ze_getr X dc_E_release_1 zf_E_55 sh_0 rfl ?_
  refine ze_aload_n X dc_E_release_4 rfl rfl ?_
  refine ze_getr X dc_E_release_5 zf_E_20 sh_0 rfl ?_
  refine ze_getr X dc_E_release_8 zf_E_212 is_Program_9.1 rfl ?_
  refine ze_aload_n X dc_E_release_11 rfl rfl ?_
  refine ze_getr X dc_E_release_12 zf_E_61 sh_0 rfl ?_
  refine ze_getr X dc_E_release_15 zf_E_311 sh_47 rfl ?_
  refine ze_iload_n X dc_E_release_18 rfl rfl ?_
  refine ze_iald X dc_E_release_19 sh_48 rfl (fun _ => ?_)
  refine ze_iald X dc_E_release_20 sh_15 rfl (fun _ => ?_)
  refine ze_aload_n X dc_E_release_21 rfl rfl ?_
  refine ze_getr X dc_E_release_22 zf_E_61 sh_0 rfl ?_
  refine ze_getr X dc_E_release_25 zf_E_171 sh_47 rfl ?_
  refine ze_iload_n X dc_E_release_28 rfl rfl ?_
  refine ze_iald X dc_E_release_29 sh_50 rfl (fun _ => ?_)
  refine ze_aload_n X dc_E_release_30 rfl rfl ?_
  refine ze_getr X dc_E_release_31 zf_E_61 sh_0 rfl ?_
  refine ze_getr X dc_E_release_34 zf_E_170 sh_47 rfl ?_
  refine ze_iload_n X dc_E_release_37 rfl rfl ?_
  refine ze_iald X dc_E_release_38 sh_49 rfl (fun _ => ?_)
  refine ze_callVi (As := [.inl (v 15 (Int32.toNatClampNeg (v 48 (Int32.toNatClampNeg a1)))), .inl (v 50 (Int32.toNatClampNeg a1)), .inl (v 49 (Int32.toNatClampNeg a1))]) (st := []) X dc_E_release_39 zc_E_125 is_Line_43.1 (fun zr zv zh => c_L_add X.2.2.2.2.2.2.1  43 401 (v 15 (Int32.toNatClampNeg (v 48 (Int32.toNatClampNeg a1)))) (v 50 (Int32.toNatClampNeg a1)) (v 49 (Int32.toNatClampNeg a1)) is_Line_43 v zh) rfl (by decide) (by decide) (Nat.le_of_ble_eq_true rfl) (fun r1 v2 => ?_)
  refine ze_pop X dc_E_release_42 ?_
  refine ze_aload_n X dc_E_release_43 rfl rfl ?_
  refine ze_getr X dc_E_release_44 zf_E_61 sh_0 rfl ?_
  refine ze_iload_n X dc_E_release_47 rfl rfl ?_
  refine ze_callVv (As := [.inl a1]) (st := []) X dc_E_release_48 zc_E_312 sh_47 (fun zr zv zh => c_G_remove X.2.2.2.2.2.2.1  a1  v2 zh) rfl (by decide) (by decide) (Nat.le_of_ble_eq_true rfl) (fun r3 v4 => ?_)
  exact ze_vret X Y dc_E_release_51
set_option maxHeartbeats 4000000 in
set_option maxRecDepth 100000 in
theorem c_E_release {l : Launch} {D : va_G} {ad : Nat → Nat} {ca : Nat → ClassId} (hD : va_D (ze_A ad) (ze_ws ze_sh ad ca (fun _ _ => 0)))     (a1 : Int32)  (v : ze_H) {r : Int32} {v1 : ze_H} (h : f_E_release  a1 v = some (r, v1)) : ze_Mv l D ad ca my_E_release bc_E_release 2 1 24 [.inr 0, .inl a1] v v1 := ze_Mv_of (plainFor_of_name (by decide)) hD (Nat.le_of_ble_eq_true rfl) (fun G e1 e2 e3 e4 X Y => w_E_release X Y    a1  v) h
def f_E_gather_J45  (k1 : Nat) (b2 : Int32) (b3 : Int32) (v : ze_H) : Option (Int32 × ze_H) :=
  (if b3 = (-1) then some (5, v) else ze_in b3 120 (ze_in b3 120 (ze_lev (ze_u v 50 (Int32.toNatClampNeg b3) ((v 50 (Int32.toNatClampNeg b3)) + (v k1 0))) (fun v7 => ze_in b3 120 (ze_in b3 120 (ze_lev (ze_u v7 51 (Int32.toNatClampNeg b3) ((v7 51 (Int32.toNatClampNeg b3)) + 1)) (fun v8 => ze_call (f_E_end  k1 3 v8) (fun r9 v10 => ze_in b3 120 (ze_in b2 164 ((if (v10 51 (Int32.toNatClampNeg b3)) < (v10 11 (Int32.toNatClampNeg b2)) then some (0, v10) else ze_call (f_E_release  b3 v10) (fun r11 v12 => some (0, v12)))))))))))))
def f_E_gather  (a1 : Nat) (a2 : Int32) (v : ze_H) : Option (Int32 × ze_H) :=
  ze_call (f_G_find  a2 (v a1 1) v) (fun r1 v2 => ze_let r1 (fun x3 => (if x3 = (-1) then ze_in a2 164 (ze_call (f_G_open  a2 (v2 a1 1) ((v2 0 13) + (v2 12 (Int32.toNatClampNeg a2))) v2) (fun r4 v5 => ze_let r4 (fun x6 => (f_E_gather_J45  a1 a2 x6 v5)))) else (f_E_gather_J45  a1 a2 x3 v2))))
set_option maxHeartbeats 4000000 in
set_option maxRecDepth 100000 in
theorem w_E_gather_J45 {G : ze_G}  (X : ze_X G bc_E_gather cn_E 4 2 46) (Y : ze_Ri G .int)    (k1 : Nat) (b2 : Int32) (b3 : Int32) (hk1 : ze_isExchange k1) (v : ze_H) : ze_T G (f_E_gather_J45  k1 b2 b3 v) v 45 [some (.inr 0), some (.inr k1), some (.inl b2), some (.inl b3)] [] := by
  refine ze_iload_n X dc_E_gather_45 rfl rfl ?_
  refine ze_iconst (x := (-1)) X dc_E_gather_46 (by decide) ?_
  refine ze_icmp_ne (tgt := 52) X dc_E_gather_47 (by decide) (fun _ => ?_) (fun _ => ?_)
  · refine ze_iconst (x := 5) X dc_E_gather_50 (by decide) ?_
    exact ze_iret X Y (vp_nar_int _) dc_E_gather_51
  · refine ze_aload_n X dc_E_gather_52 rfl rfl ?_
    refine ze_getr X dc_E_gather_53 zf_E_61 sh_0 rfl ?_
    refine ze_getr X dc_E_gather_56 zf_E_171 sh_47 rfl ?_
    refine ze_iload_n X dc_E_gather_59 rfl rfl ?_
    refine ze_dup2 X dc_E_gather_60 ?_
    refine ze_iald X dc_E_gather_61 sh_50 rfl (fun _ => ?_)
    refine ze_aload_n X dc_E_gather_62 rfl rfl ?_
    refine ze_geti X dc_E_gather_63 zf_E_183 hk1 rfl ?_
    refine ze_iadd X dc_E_gather_66 ?_
    refine ze_iast X dc_E_gather_67 sh_50 rfl (fun v7 _ => ?_)
    refine ze_aload_n X dc_E_gather_68 rfl rfl ?_
    refine ze_getr X dc_E_gather_69 zf_E_61 sh_0 rfl ?_
    refine ze_getr X dc_E_gather_72 zf_E_174 sh_47 rfl ?_
    refine ze_iload_n X dc_E_gather_75 rfl rfl ?_
    refine ze_dup2 X dc_E_gather_76 ?_
    refine ze_iald X dc_E_gather_77 sh_51 rfl (fun _ => ?_)
    refine ze_iconst (x := 1) X dc_E_gather_78 (by decide) ?_
    refine ze_iadd X dc_E_gather_79 ?_
    refine ze_iast X dc_E_gather_80 sh_51 rfl (fun v8 _ => ?_)
    refine ze_aload_n X dc_E_gather_81 rfl rfl ?_
    refine ze_aload_n X dc_E_gather_82 rfl rfl ?_
    refine ze_iconst (x := 3) X dc_E_gather_83 (by decide) ?_
    refine ze_callVv (As := [.inr k1, .inl 3]) (st := []) X dc_E_gather_84 zc_E_202 sh_0 (fun zr zv zh => c_E_end X.2.2.2.2.2.2.1  k1 3 hk1 v8 zh) rfl (by decide) (by decide) (Nat.le_of_ble_eq_true rfl) (fun r9 v10 => ?_)
    refine ze_aload_n X dc_E_gather_87 rfl rfl ?_
    refine ze_getr X dc_E_gather_88 zf_E_61 sh_0 rfl ?_
    refine ze_getr X dc_E_gather_91 zf_E_174 sh_47 rfl ?_
    refine ze_iload_n X dc_E_gather_94 rfl rfl ?_
    refine ze_iald X dc_E_gather_95 sh_51 rfl (fun _ => ?_)
    refine ze_aload_n X dc_E_gather_96 rfl rfl ?_
    refine ze_getr X dc_E_gather_97 zf_E_20 sh_0 rfl ?_
    refine ze_getr X dc_E_gather_100 zf_E_223 is_Program_9.1 rfl ?_
    refine ze_iload_n X dc_E_gather_103 rfl rfl ?_
    refine ze_iald X dc_E_gather_104 sh_11 rfl (fun _ => ?_)
    refine ze_icmp_lt (tgt := 113) X dc_E_gather_105 (by decide) (fun _ => ?_) (fun _ => ?_)
    · refine ze_iconst (x := 0) X dc_E_gather_113 (by decide) ?_
      exact ze_iret X Y (vp_nar_int _) dc_E_gather_114
    · refine ze_aload_n X dc_E_gather_108 rfl rfl ?_
      refine ze_iload_n X dc_E_gather_109 rfl rfl ?_
      refine ze_callVv (As := [.inl b3]) (st := []) X dc_E_gather_110 zc_E_155 sh_0 (fun zr zv zh => c_E_release X.2.2.2.2.2.2.1  b3  v10 zh) rfl (by decide) (by decide) (Nat.le_of_ble_eq_true rfl) (fun r11 v12 => ?_)
      refine ze_iconst (x := 0) X dc_E_gather_113 (by decide) ?_
      exact ze_iret X Y (vp_nar_int _) dc_E_gather_114
set_option maxHeartbeats 4000000 in
set_option maxRecDepth 100000 in
theorem w_E_gather {G : ze_G}  (X : ze_X G bc_E_gather cn_E 4 2 46) (Y : ze_Ri G .int)    (a1 : Nat) (a2 : Int32) (ha1 : ze_isExchange a1) (v : ze_H) : ze_T G (f_E_gather  a1 a2 v) v 0 [some (.inr 0), some (.inr a1), some (.inl a2), none] [] := by
  refine ze_aload_n X dc_E_gather_0 rfl rfl ?_
  refine ze_getr X dc_E_gather_1 zf_E_61 sh_0 rfl ?_
  refine ze_iload_n X dc_E_gather_4 rfl rfl ?_
  refine ze_aload_n X dc_E_gather_5 rfl rfl ?_
  refine ze_geti X dc_E_gather_6 zf_E_186 ha1 rfl ?_
  refine ze_callVi (As := [.inl a2, .inl (v a1 1)]) (st := []) X dc_E_gather_9 zc_E_301 sh_47 (fun zr zv zh => c_G_find X.2.2.2.2.2.2.1  a2 (v a1 1)  v zh) rfl (by decide) (by decide) (Nat.le_of_ble_eq_true rfl) (fun r1 v2 => ?_)
  refine ze_istore_n X dc_E_gather_12 rfl (by decide) (fun x3 => ?_)
  refine ze_iload_n X dc_E_gather_13 rfl rfl ?_
  refine ze_iconst (x := (-1)) X dc_E_gather_14 (by decide) ?_
  refine ze_icmp_ne (tgt := 45) X dc_E_gather_15 (by decide) (fun _ => ?_) (fun _ => ?_)
  · refine ze_aload_n X dc_E_gather_18 rfl rfl ?_
    refine ze_getr X dc_E_gather_19 zf_E_61 sh_0 rfl ?_
    refine ze_iload_n X dc_E_gather_22 rfl rfl ?_
    refine ze_aload_n X dc_E_gather_23 rfl rfl ?_
    refine ze_geti X dc_E_gather_24 zf_E_186 ha1 rfl ?_
    refine ze_aload_n X dc_E_gather_27 rfl rfl ?_
    refine ze_geti X dc_E_gather_28 zf_E_148 sh_0 rfl ?_
    refine ze_aload_n X dc_E_gather_31 rfl rfl ?_
    refine ze_getr X dc_E_gather_32 zf_E_20 sh_0 rfl ?_
    refine ze_getr X dc_E_gather_35 zf_E_304 is_Program_9.1 rfl ?_
    refine ze_iload_n X dc_E_gather_38 rfl rfl ?_
    refine ze_iald X dc_E_gather_39 sh_12 rfl (fun _ => ?_)
    refine ze_iadd X dc_E_gather_40 ?_
    refine ze_callVi (As := [.inl a2, .inl (v2 a1 1), .inl ((v2 0 13) + (v2 12 (Int32.toNatClampNeg a2)))]) (st := []) X dc_E_gather_41 zc_E_307 sh_47 (fun zr zv zh => c_G_open X.2.2.2.2.2.2.1  a2 (v2 a1 1) ((v2 0 13) + (v2 12 (Int32.toNatClampNeg a2)))  v2 zh) rfl (by decide) (by decide) (Nat.le_of_ble_eq_true rfl) (fun r4 v5 => ?_)
    refine ze_istore_n X dc_E_gather_44 rfl (by decide) (fun x6 => ?_)
    refine ze_weak [true, true, true, true] ?_
    exact w_E_gather_J45 X Y    a1 a2 x6 ha1 v5
  · refine ze_weak [true, true, true, true] ?_
    exact w_E_gather_J45 X Y    a1 a2 x3 ha1 v2
set_option maxHeartbeats 4000000 in
set_option maxRecDepth 100000 in
theorem c_E_gather {l : Launch} {D : va_G} {ad : Nat → Nat} {ca : Nat → ClassId} (hD : va_D (ze_A ad) (ze_ws ze_sh ad ca (fun _ _ => 0)))     (a1 : Nat) (a2 : Int32) (ha1 : ze_isExchange a1) (v : ze_H) {r : Int32} {v1 : ze_H} (h : f_E_gather  a1 a2 v = some (r, v1)) : ze_Mi l D ad ca my_E_gather bc_E_gather 4 .int 2 46 [.inr 0, .inr a1, .inl a2] v r v1 := ze_Mi_of (plainFor_of_name (by decide)) hD (Nat.le_of_ble_eq_true rfl) (fun G e1 e2 e3 e4 X Y => w_E_gather X Y    a1 a2 ha1 v) h
def f_E_copyToQueue  (a1 : Nat) (a2 : Int32) (v : ze_H) : Option (Int32 × ze_H) :=
  ze_call (f_L_add  39 8 (a2 * 41) (v a1 0) (v a1 1) v) (fun r1 v2 => ze_let r1 (fun x3 => (if x3 = 0 then some (6, v2) else some (0, v2))))
set_option maxHeartbeats 4000000 in
set_option maxRecDepth 100000 in
theorem w_E_copyToQueue {G : ze_G}  (X : ze_X G bc_E_copyToQueue cn_E 4 1 24) (Y : ze_Ri G .int)    (a1 : Nat) (a2 : Int32) (ha1 : ze_isExchange a1) (v : ze_H) : ze_T G (f_E_copyToQueue  a1 a2 v) v 0 [some (.inr 0), some (.inr a1), some (.inl a2), none] [] := by
  refine ze_aload_n X dc_E_copyToQueue_0 rfl rfl ?_
  refine ze_getr X dc_E_copyToQueue_1 zf_E_51 sh_0 rfl ?_
  refine ze_iload_n X dc_E_copyToQueue_4 rfl rfl ?_
  refine ze_bipush (x := 41) X dc_E_copyToQueue_5 (by decide) ?_
  refine ze_imul X dc_E_copyToQueue_7 ?_
  refine ze_aload_n X dc_E_copyToQueue_8 rfl rfl ?_
  refine ze_geti X dc_E_copyToQueue_9 zf_E_183 ha1 rfl ?_
  refine ze_aload_n X dc_E_copyToQueue_12 rfl rfl ?_
  refine ze_geti X dc_E_copyToQueue_13 zf_E_186 ha1 rfl ?_
  refine ze_callVi (As := [.inl (a2 * 41), .inl (v a1 0), .inl (v a1 1)]) (st := []) X dc_E_copyToQueue_16 zc_E_125 is_Line_39.1 (fun zr zv zh => c_L_add X.2.2.2.2.2.2.1  39 8 (a2 * 41) (v a1 0) (v a1 1) is_Line_39 v zh) rfl (by decide) (by decide) (Nat.le_of_ble_eq_true rfl) (fun r1 v2 => ?_)
  refine ze_istore_n X dc_E_copyToQueue_19 rfl (by decide) (fun x3 => ?_)
  refine ze_iload_n X dc_E_copyToQueue_20 rfl rfl ?_
  refine ze_if_eq (tgt := 28) X dc_E_copyToQueue_21 (by decide) (fun _ => ?_) (fun _ => ?_)
  · refine ze_bipush (x := 6) X dc_E_copyToQueue_28 (by decide) ?_
    exact ze_iret X Y (vp_nar_int _) dc_E_copyToQueue_30
  · refine ze_iconst (x := 0) X dc_E_copyToQueue_24 (by decide) ?_
    refine ze_goto (tgt := 30) X dc_E_copyToQueue_25 (by decide) ?_
    exact ze_iret X Y (vp_nar_int _) dc_E_copyToQueue_30
set_option maxHeartbeats 4000000 in
set_option maxRecDepth 100000 in
theorem c_E_copyToQueue {l : Launch} {D : va_G} {ad : Nat → Nat} {ca : Nat → ClassId} (hD : va_D (ze_A ad) (ze_ws ze_sh ad ca (fun _ _ => 0)))     (a1 : Nat) (a2 : Int32) (ha1 : ze_isExchange a1) (v : ze_H) {r : Int32} {v1 : ze_H} (h : f_E_copyToQueue  a1 a2 v = some (r, v1)) : ze_Mi l D ad ca my_E_copyToQueue bc_E_copyToQueue 4 .int 1 24 [.inr 0, .inr a1, .inl a2] v r v1 := ze_Mi_of (plainFor_of_name (by decide)) hD (Nat.le_of_ble_eq_true rfl) (fun G e1 e2 e3 e4 X Y => w_E_copyToQueue X Y    a1 a2 ha1 v) h
def f_E_deliver_L2  (k1 : Nat) (b2 : Int32) (kk : ze_H → Option (Int32 × ze_H)) : Nat → Int32 → ze_H → Option (Int32 × ze_H)
  | 0, _, _ => none
  | n + 1, l3, v =>
    (if 4 ≤ l3 then (kk  v) else (if ((b2 >>> (l3 &&& 31)) &&& 1) = 0 then ze_let (l3 + 1) (fun x2 => (f_E_deliver_L2  k1 b2 kk n x2 v)) else ze_in l3 5 ((if (v (24 + 3 * (Int32.toNatClampNeg l3)) 3) ≤ 0 then ze_in l3 5 (ze_call (f_N_accept  (24 + 3 * (Int32.toNatClampNeg l3)) (v k1 0) (v k1 1) v) (fun r5 v6 => ze_let (l3 + 1) (fun x7 => (f_E_deliver_L2  k1 b2 kk n x7 v6)))) else ze_in l3 5 (ze_lev (ze_u v (24 + 3 * (Int32.toNatClampNeg l3)) 3 ((v (24 + 3 * (Int32.toNatClampNeg l3)) 3) - 1)) (fun v9 => ze_in l3 5 (some ((v9 (24 + 3 * (Int32.toNatClampNeg l3)) 4), v9))))))))
def f_E_deliver  (a1 : Nat) (a2 : Int32) (v : ze_H) : Option (Int32 × ze_H) :=
  ze_let 0 (fun x1 => (f_E_deliver_L2  a1 a2 (fun  v11 => some (0, v11)) 200000 x1 v))
set_option maxHeartbeats 4000000 in
set_option maxRecDepth 100000 in
theorem w_E_deliver_L2 {G : ze_G}  (X : ze_X G bc_E_deliver cn_E 4 2 45) (Y : ze_Ri G .int)    (k1 : Nat) (b2 : Int32) (hk1 : ze_isExchange k1) {kk : ze_H → Option (Int32 × ze_H)} (hkk : ∀ (v : ze_H), ze_T G (kk  v) v 78 [none, none, none, none] []) : ∀ (n : Nat) (l3 : Int32) (v : ze_H), ze_T G (f_E_deliver_L2  k1 b2 kk n l3 v) v 2 [some (.inr 0), some (.inr k1), some (.inl b2), some (.inl l3)] [] := by
  intro n
  induction n with
  | zero => intro l3 v; exact ze_none
  | succ n ih =>
    intro l3 v
    refine ze_iload_n X dc_E_deliver_2 rfl rfl ?_
    refine ze_iconst (x := 4) X dc_E_deliver_3 (by decide) ?_
    refine ze_icmp_ge (tgt := 78) X dc_E_deliver_4 (by decide) (fun _ => ?_) (fun _ => ?_)
    · refine ze_weak [false, false, false, false] ?_
      exact hkk  v
    · refine ze_iload_n X dc_E_deliver_7 rfl rfl ?_
      refine ze_iload_n X dc_E_deliver_8 rfl rfl ?_
      refine ze_ishr X dc_E_deliver_9 ?_
      refine ze_iconst (x := 1) X dc_E_deliver_10 (by decide) ?_
      refine ze_iand X dc_E_deliver_11 ?_
      refine ze_if_ne (tgt := 18) X dc_E_deliver_12 (by decide) (fun _ => ?_) (fun _ => ?_)
      · refine ze_goto (tgt := 72) X dc_E_deliver_15 (by decide) ?_
        refine ze_iinc (y := 1) X dc_E_deliver_72 rfl (by decide) (by decide) (fun x2 => ?_)
        refine ze_goto (tgt := 2) X dc_E_deliver_75 (by decide) ?_
        refine ze_weak [true, true, true, true] ?_
        exact ih x2 v
      · refine ze_aload_n X dc_E_deliver_18 rfl rfl ?_
        refine ze_getr X dc_E_deliver_19 zf_E_41 sh_0 rfl ?_
        refine ze_iload_n X dc_E_deliver_22 rfl rfl ?_
        refine ze_aald X dc_E_deliver_23 sh_23 rfl (fun hi3 => ?_)
        refine ze_geti X dc_E_deliver_24 zf_E_116 (is_Endpoint_at hi3).1 rfl ?_
        refine ze_if_le (tgt := 55) X dc_E_deliver_27 (by decide) (fun _ => ?_) (fun _ => ?_)
        · refine ze_aload_n X dc_E_deliver_55 rfl rfl ?_
          refine ze_getr X dc_E_deliver_56 zf_E_41 sh_0 rfl ?_
          refine ze_iload_n X dc_E_deliver_59 rfl rfl ?_
          refine ze_aald X dc_E_deliver_60 sh_23 rfl (fun hi4 => ?_)
          refine ze_aload_n X dc_E_deliver_61 rfl rfl ?_
          refine ze_geti X dc_E_deliver_62 zf_E_183 hk1 rfl ?_
          refine ze_aload_n X dc_E_deliver_65 rfl rfl ?_
          refine ze_geti X dc_E_deliver_66 zf_E_186 hk1 rfl ?_
          refine ze_callVv (As := [.inl (v k1 0), .inl (v k1 1)]) (st := []) X dc_E_deliver_69 zc_E_272 (is_Endpoint_at hi4).1 (fun zr zv zh => c_N_accept X.2.2.2.2.2.2.1  (24 + 3 * (Int32.toNatClampNeg l3)) (v k1 0) (v k1 1) (is_Endpoint_at hi4) v zh) rfl (by decide) (by decide) (Nat.le_of_ble_eq_true rfl) (fun r5 v6 => ?_)
          refine ze_iinc (y := 1) X dc_E_deliver_72 rfl (by decide) (by decide) (fun x7 => ?_)
          refine ze_goto (tgt := 2) X dc_E_deliver_75 (by decide) ?_
          refine ze_weak [true, true, true, true] ?_
          exact ih x7 v6
        · refine ze_aload_n X dc_E_deliver_30 rfl rfl ?_
          refine ze_getr X dc_E_deliver_31 zf_E_41 sh_0 rfl ?_
          refine ze_iload_n X dc_E_deliver_34 rfl rfl ?_
          refine ze_aald X dc_E_deliver_35 sh_23 rfl (fun hi8 => ?_)
          refine ze_dup X dc_E_deliver_36 ?_
          refine ze_geti X dc_E_deliver_37 zf_E_116 (is_Endpoint_at hi8).1 rfl ?_
          refine ze_iconst (x := 1) X dc_E_deliver_40 (by decide) ?_
          refine ze_isub X dc_E_deliver_41 ?_
          refine ze_puti X dc_E_deliver_42 zp_E_116 (is_Endpoint_at hi8).1 rfl (fun v9 => ?_)
          refine ze_aload_n X dc_E_deliver_45 rfl rfl ?_
          refine ze_getr X dc_E_deliver_46 zf_E_41 sh_0 rfl ?_
          refine ze_iload_n X dc_E_deliver_49 rfl rfl ?_
          refine ze_aald X dc_E_deliver_50 sh_23 rfl (fun hi10 => ?_)
          refine ze_geti X dc_E_deliver_51 zf_E_119 (is_Endpoint_at hi10).1 rfl ?_
          exact ze_iret X Y (vp_nar_int _) dc_E_deliver_54
set_option maxHeartbeats 4000000 in
set_option maxRecDepth 100000 in
theorem w_E_deliver {G : ze_G}  (X : ze_X G bc_E_deliver cn_E 4 2 45) (Y : ze_Ri G .int)    (a1 : Nat) (a2 : Int32) (ha1 : ze_isExchange a1) (v : ze_H) : ze_T G (f_E_deliver  a1 a2 v) v 0 [some (.inr 0), some (.inr a1), some (.inl a2), none] [] := by
  refine ze_iconst (x := 0) X dc_E_deliver_0 (by decide) ?_
  refine ze_istore_n X dc_E_deliver_1 rfl (by decide) (fun x1 => ?_)
  refine ze_weak [true, true, true, true] ?_
  refine w_E_deliver_L2 X Y    a1 a2 ha1 (fun  v11 => ?_) 200000 x1 v
  refine ze_iconst (x := 0) X dc_E_deliver_78 (by decide) ?_
  exact ze_iret X Y (vp_nar_int _) dc_E_deliver_79
set_option maxHeartbeats 4000000 in
set_option maxRecDepth 100000 in
theorem c_E_deliver {l : Launch} {D : va_G} {ad : Nat → Nat} {ca : Nat → ClassId} (hD : va_D (ze_A ad) (ze_ws ze_sh ad ca (fun _ _ => 0)))     (a1 : Nat) (a2 : Int32) (ha1 : ze_isExchange a1) (v : ze_H) {r : Int32} {v1 : ze_H} (h : f_E_deliver  a1 a2 v = some (r, v1)) : ze_Mi l D ad ca my_E_deliver bc_E_deliver 4 .int 2 45 [.inr 0, .inr a1, .inl a2] v r v1 := ze_Mi_of (plainFor_of_name (by decide)) hD (Nat.le_of_ble_eq_true rfl) (fun G e1 e2 e3 e4 X Y => w_E_deliver X Y    a1 a2 ha1 v) h
def f_E_runParts_L45 (RC : Nat → Int32 → Int32 → ze_H → Option (Int32 × ze_H)) (k1 : Nat) (b2 : Int32) (b3 : Int32) (b4 : Int32) (k5 : Nat) (kk : Int32 → ze_H → Option (Int32 × ze_H)) : Nat → Int32 → Int32 → ze_H → Option (Int32 × ze_H)
  | 0, _, _, _ => none
  | n + 1, l6, l7, v =>
    (if b4 ≤ l7 then (kk l6 v) else ze_call (f_JM_floorDiv  ((v k1 0) + l7) b4 v) (fun r7 v8 => ze_call (f_E_begin  k5 r7 (v8 k1 1) v8) (fun r9 v10 => ze_in b2 164 (ze_call (RC  k5 (v10 13 (Int32.toNatClampNeg b2)) b3 v10) (fun r11 v12 => (if (v12 k5 3) = 0 then ze_call (f_E_end  k5 1 v12) (fun r13 v14 => ze_let (l6 + (v14 k5 0)) (fun x15 => ze_let (l7 + 1) (fun x16 => (f_E_runParts_L45 RC k1 b2 b3 b4 k5 kk n x15 x16 v14)))) else ze_let (l7 + 1) (fun x17 => (f_E_runParts_L45 RC k1 b2 b3 b4 k5 kk n l6 x17 v12))))))))
def f_E_runParts (RC : Nat → Int32 → Int32 → ze_H → Option (Int32 × ze_H)) (a1 : Nat) (a2 : Int32) (a3 : Int32) (v : ze_H) : Option (Int32 × ze_H) :=
  ze_in a2 164 (ze_let (v 11 (Int32.toNatClampNeg a2)) (fun x1 => (if 16 ≤ a3 then ze_call (f_E_end  a1 6 v) (fun r2 v3 => some (0, v3)) else (if 1 ≤ x1 then ze_in a3 16 (ze_let 0 (fun x5 => ze_let 0 (fun x6 => (f_E_runParts_L45 RC a1 a2 a3 x1 (58 + 1 * (Int32.toNatClampNeg a3)) (fun x18 v19 => ze_lev (ze_u v19 a1 0 x18) (fun v20 => some (0, v20))) 200000 x5 x6 v)))) else ze_call (f_E_end  a1 6 v) (fun r21 v22 => some (0, v22))))))
set_option maxHeartbeats 4000000 in
set_option maxRecDepth 100000 in
theorem w_E_runParts_L45 {G : ze_G} {fr1 lo1 : Nat} (X : ze_X G bc_E_runParts cn_E 8 (fr1 + 1) (lo1 + 60)) (Y : ze_Rv G) (hfr : 12 ≤ fr1) (hlo : 300 ≤ lo1) (RC : Nat → Int32 → Int32 → ze_H → Option (Int32 × ze_H)) (hRC : ∀ (e : Nat) (a : Int32) (b : Int32), ze_isExchange e → ∀ (v : ze_H) (r : Int32) (v1 : ze_H), RC e a b v = some (r, v1) → ze_Mv (ze_l G) (ze_D G) (ze_ad G) (ze_ca G) my_E_runList bc_E_runList 6 fr1 lo1 [.inr 0, .inr e, .inl a, .inl b] v v1) (k1 : Nat) (b2 : Int32) (b3 : Int32) (b4 : Int32) (k5 : Nat) (hk1 : ze_isExchange k1) (hk5 : ze_isExchange k5) {kk : Int32 → ze_H → Option (Int32 × ze_H)} (hkk : ∀ (l6 : Int32) (v : ze_H), ze_T G (kk l6 v) v 121 [none, some (.inr k1), none, none, none, none, some (.inl l6), none] []) : ∀ (n : Nat) (l6 : Int32) (l7 : Int32) (v : ze_H), ze_T G (f_E_runParts_L45 RC k1 b2 b3 b4 k5 kk n l6 l7 v) v 45 [some (.inr 0), some (.inr k1), some (.inl b2), some (.inl b3), some (.inl b4), some (.inr k5), some (.inl l6), some (.inl l7)] [] := by
  intro n
  induction n with
  | zero => intro l6 l7 v; exact ze_none
  | succ n ih =>
    intro l6 l7 v
    refine ze_iload X dc_E_runParts_45 rfl ?_
    refine ze_iload X dc_E_runParts_47 rfl ?_
    refine ze_icmp_ge (tgt := 121) X dc_E_runParts_49 (by decide) (fun _ => ?_) (fun _ => ?_)
    · refine ze_weak [false, true, false, false, false, false, true, false] ?_
      exact hkk l6 v
    · refine ze_aload_n X dc_E_runParts_52 rfl rfl ?_
      refine ze_aload X dc_E_runParts_53 rfl ?_
      refine ze_aload_n X dc_E_runParts_55 rfl rfl ?_
      refine ze_geti X dc_E_runParts_56 zf_E_183 hk1 rfl ?_
      refine ze_iload X dc_E_runParts_59 rfl ?_
      refine ze_iadd X dc_E_runParts_61 ?_
      refine ze_iload X dc_E_runParts_62 rfl ?_
      refine ze_callSi (As := [.inl ((v k1 0) + l7), .inl b4]) (st := [.inr k5, .inr 0]) X dc_E_runParts_64 zc_E_276 (fun zr zv zh => c_JM_floorDiv X.2.2.2.2.2.2.1  ((v k1 0) + l7) b4  v zh) rfl (by omega) (by omega) (Nat.le_of_ble_eq_true rfl) (fun r7 v8 => ?_)
      refine ze_aload_n X dc_E_runParts_67 rfl rfl ?_
      refine ze_geti X dc_E_runParts_68 zf_E_186 hk1 rfl ?_
      refine ze_callVv (As := [.inr k5, .inl r7, .inl (v8 k1 1)]) (st := []) X dc_E_runParts_71 zc_E_195 sh_0 (fun zr zv zh => c_E_begin X.2.2.2.2.2.2.1  k5 r7 (v8 k1 1) hk5 v8 zh) rfl (by omega) (by omega) (Nat.le_of_ble_eq_true rfl) (fun r9 v10 => ?_)
      refine ze_aload_n X dc_E_runParts_74 rfl rfl ?_
      refine ze_aload X dc_E_runParts_75 rfl ?_
      refine ze_aload_n X dc_E_runParts_77 rfl rfl ?_
      refine ze_getr X dc_E_runParts_78 zf_E_20 sh_0 rfl ?_
      refine ze_getr X dc_E_runParts_81 zf_E_279 is_Program_9.1 rfl ?_
      refine ze_iload_n X dc_E_runParts_84 rfl rfl ?_
      refine ze_iald X dc_E_runParts_85 sh_13 rfl (fun _ => ?_)
      refine ze_iload_n X dc_E_runParts_86 rfl rfl ?_
      refine ze_callVv (As := [.inr k5, .inl (v10 13 (Int32.toNatClampNeg b2)), .inl b3]) (st := []) X dc_E_runParts_87 zc_E_199 sh_0 (fun zr zv zh => hRC k5 (v10 13 (Int32.toNatClampNeg b2)) b3 hk5 v10 zr zv zh) rfl (by omega) (by omega) (Nat.le_of_ble_eq_true rfl) (fun r11 v12 => ?_)
      refine ze_aload X dc_E_runParts_90 rfl ?_
      refine ze_geti X dc_E_runParts_92 zf_E_192 hk5 rfl ?_
      refine ze_if_ne (tgt := 115) X dc_E_runParts_95 (by decide) (fun _ => ?_) (fun _ => ?_)
      · refine ze_aload_n X dc_E_runParts_98 rfl rfl ?_
        refine ze_aload X dc_E_runParts_99 rfl ?_
        refine ze_iconst (x := 1) X dc_E_runParts_101 (by decide) ?_
        refine ze_callVv (As := [.inr k5, .inl 1]) (st := []) X dc_E_runParts_102 zc_E_202 sh_0 (fun zr zv zh => c_E_end X.2.2.2.2.2.2.1  k5 1 hk5 v12 zh) rfl (by omega) (by omega) (Nat.le_of_ble_eq_true rfl) (fun r13 v14 => ?_)
        refine ze_iload X dc_E_runParts_105 rfl ?_
        refine ze_aload X dc_E_runParts_107 rfl ?_
        refine ze_geti X dc_E_runParts_109 zf_E_183 hk5 rfl ?_
        refine ze_iadd X dc_E_runParts_112 ?_
        refine ze_istore X dc_E_runParts_113 (by decide) (fun x15 => ?_)
        refine ze_iinc (y := 1) X dc_E_runParts_115 rfl (by decide) (by decide) (fun x16 => ?_)
        refine ze_goto (tgt := 45) X dc_E_runParts_118 (by decide) ?_
        refine ze_weak [true, true, true, true, true, true, true, true] ?_
        exact ih x15 x16 v14
      · refine ze_iinc (y := 1) X dc_E_runParts_115 rfl (by decide) (by decide) (fun x17 => ?_)
        refine ze_goto (tgt := 45) X dc_E_runParts_118 (by decide) ?_
        refine ze_weak [true, true, true, true, true, true, true, true] ?_
        exact ih l6 x17 v12
set_option maxHeartbeats 4000000 in
set_option maxRecDepth 100000 in
theorem w_E_runParts {G : ze_G} {fr1 lo1 : Nat} (X : ze_X G bc_E_runParts cn_E 8 (fr1 + 1) (lo1 + 60)) (Y : ze_Rv G) (hfr : 12 ≤ fr1) (hlo : 300 ≤ lo1) (RC : Nat → Int32 → Int32 → ze_H → Option (Int32 × ze_H)) (hRC : ∀ (e : Nat) (a : Int32) (b : Int32), ze_isExchange e → ∀ (v : ze_H) (r : Int32) (v1 : ze_H), RC e a b v = some (r, v1) → ze_Mv (ze_l G) (ze_D G) (ze_ad G) (ze_ca G) my_E_runList bc_E_runList 6 fr1 lo1 [.inr 0, .inr e, .inl a, .inl b] v v1) (a1 : Nat) (a2 : Int32) (a3 : Int32) (ha1 : ze_isExchange a1) (v : ze_H) : ze_T G (f_E_runParts RC a1 a2 a3 v) v 0 [some (.inr 0), some (.inr a1), some (.inl a2), some (.inl a3), none, none, none, none] [] := by
  refine ze_aload_n X dc_E_runParts_0 rfl rfl ?_
  refine ze_getr X dc_E_runParts_1 zf_E_20 sh_0 rfl ?_
  refine ze_getr X dc_E_runParts_4 zf_E_223 is_Program_9.1 rfl ?_
  refine ze_iload_n X dc_E_runParts_7 rfl rfl ?_
  refine ze_iald X dc_E_runParts_8 sh_11 rfl (fun _ => ?_)
  refine ze_istore X dc_E_runParts_9 (by decide) (fun x1 => ?_)
  refine ze_iload_n X dc_E_runParts_11 rfl rfl ?_
  refine ze_bipush (x := 16) X dc_E_runParts_12 (by decide) ?_
  refine ze_icmp_ge (tgt := 23) X dc_E_runParts_14 (by decide) (fun _ => ?_) (fun _ => ?_)
  · refine ze_aload_n X dc_E_runParts_23 rfl rfl ?_
    refine ze_aload_n X dc_E_runParts_24 rfl rfl ?_
    refine ze_bipush (x := 6) X dc_E_runParts_25 (by decide) ?_
    refine ze_callVv (As := [.inr a1, .inl 6]) (st := []) X dc_E_runParts_27 zc_E_202 sh_0 (fun zr zv zh => c_E_end X.2.2.2.2.2.2.1  a1 6 ha1 v zh) rfl (by omega) (by omega) (Nat.le_of_ble_eq_true rfl) (fun r2 v3 => ?_)
    exact ze_vret X Y dc_E_runParts_30
  · refine ze_iload X dc_E_runParts_17 rfl ?_
    refine ze_iconst (x := 1) X dc_E_runParts_19 (by decide) ?_
    refine ze_icmp_ge (tgt := 31) X dc_E_runParts_20 (by decide) (fun _ => ?_) (fun _ => ?_)
    · refine ze_aload_n X dc_E_runParts_31 rfl rfl ?_
      refine ze_getr X dc_E_runParts_32 zf_E_74 sh_0 rfl ?_
      refine ze_iload_n X dc_E_runParts_35 rfl rfl ?_
      refine ze_aald X dc_E_runParts_36 sh_57 rfl (fun hi4 => ?_)
      refine ze_astore X dc_E_runParts_37 (by decide) ?_
      refine ze_iconst (x := 0) X dc_E_runParts_39 (by decide) ?_
      refine ze_istore X dc_E_runParts_40 (by decide) (fun x5 => ?_)
      refine ze_iconst (x := 0) X dc_E_runParts_42 (by decide) ?_
      refine ze_istore X dc_E_runParts_43 (by decide) (fun x6 => ?_)
      refine ze_weak [true, true, true, true, true, true, true, true] ?_
      refine w_E_runParts_L45 X Y hfr hlo RC hRC a1 a2 a3 x1 (58 + 1 * (Int32.toNatClampNeg a3)) ha1 (is_Exchange_at hi4) (fun x18 v19 => ?_) 200000 x5 x6 v
      refine ze_aload_n X dc_E_runParts_121 rfl rfl ?_
      refine ze_iload X dc_E_runParts_122 rfl ?_
      refine ze_puti X dc_E_runParts_124 zp_E_183 ha1 rfl (fun v20 => ?_)
      exact ze_vret X Y dc_E_runParts_127
    · refine ze_aload_n X dc_E_runParts_23 rfl rfl ?_
      refine ze_aload_n X dc_E_runParts_24 rfl rfl ?_
      refine ze_bipush (x := 6) X dc_E_runParts_25 (by decide) ?_
      refine ze_callVv (As := [.inr a1, .inl 6]) (st := []) X dc_E_runParts_27 zc_E_202 sh_0 (fun zr zv zh => c_E_end X.2.2.2.2.2.2.1  a1 6 ha1 v zh) rfl (by omega) (by omega) (Nat.le_of_ble_eq_true rfl) (fun r21 v22 => ?_)
      exact ze_vret X Y dc_E_runParts_30
set_option maxHeartbeats 4000000 in
set_option maxRecDepth 100000 in
theorem c_E_runParts {l : Launch} {D : va_G} {ad : Nat → Nat} {ca : Nat → ClassId} (hD : va_D (ze_A ad) (ze_ws ze_sh ad ca (fun _ _ => 0))) {fr1 lo1 : Nat} (hfr : 12 ≤ fr1) (hlo : 300 ≤ lo1) (RC : Nat → Int32 → Int32 → ze_H → Option (Int32 × ze_H)) (hRC : ∀ (e : Nat) (a : Int32) (b : Int32), ze_isExchange e → ∀ (v : ze_H) (r : Int32) (v1 : ze_H), RC e a b v = some (r, v1) → ze_Mv l D ad ca my_E_runList bc_E_runList 6 fr1 lo1 [.inr 0, .inr e, .inl a, .inl b] v v1) (a1 : Nat) (a2 : Int32) (a3 : Int32) (ha1 : ze_isExchange a1) (v : ze_H) {r : Int32} {v1 : ze_H} (h : f_E_runParts RC a1 a2 a3 v = some (r, v1)) : ze_Mv l D ad ca my_E_runParts bc_E_runParts 8 (fr1 + 1) (lo1 + 60) [.inr 0, .inr a1, .inl a2, .inl a3] v v1 := ze_Mv_of (plainFor_of_name (by decide)) hD (Nat.le_of_ble_eq_true rfl) (fun G e1 e2 e3 e4 X Y => by subst e1 e2 e3 e4; exact w_E_runParts X Y hfr hlo RC hRC a1 a2 a3 ha1 v) h
def f_E_attempt (RC : Nat → Int32 → Int32 → ze_H → Option (Int32 × ze_H)) (a1 : Nat) (a2 : Int32) (a3 : Int32) (v : ze_H) : Option (Int32 × ze_H) :=
  ze_in a2 164 (ze_let (v 11 (Int32.toNatClampNeg a2)) (fun x1 => ze_in a2 164 ((if (v 10 (Int32.toNatClampNeg a2)) = 33 then ze_call (f_E_deliver  a1 (1 <<< (x1 &&& 31)) v) (fun r3 v4 => some (r3, v4)) else (if (v 10 (Int32.toNatClampNeg a2)) = 38 then ze_call (f_E_copyToQueue  a1 x1 v) (fun r6 v7 => some (r6, v7)) else (if (v 10 (Int32.toNatClampNeg a2)) = 42 then ze_lev (ze_u v a1 0 ((v a1 0) * x1)) (fun v9 => some (0, v9)) else (if (v 10 (Int32.toNatClampNeg a2)) = 43 then ze_lev (ze_u v a1 0 ((v a1 0) + x1)) (fun v11 => some (0, v11)) else (if (v 10 (Int32.toNatClampNeg a2)) = 45 then ze_lev (ze_u v a1 0 ((v a1 0) - x1)) (fun v13 => some (0, v13)) else (if (v 10 (Int32.toNatClampNeg a2)) = 62 then ze_call (RC  a1 (x1 * 41) (a3 + 1) v) (fun r15 v16 => some (0, v16)) else (if (v 10 (Int32.toNatClampNeg a2)) = 63 then ze_call (f_P_listFor  9 a1 a2 v) (fun r18 v19 => ze_call (RC  a1 r18 (a3 + 1) v19) (fun r20 v21 => some (0, v21))) else (if (v 10 (Int32.toNatClampNeg a2)) = 97 then ze_call (f_E_gather  a1 a2 v) (fun r23 v24 => some (r23, v24)) else (if (v 10 (Int32.toNatClampNeg a2)) = 98 then ze_lev (ze_u v a1 0 (v a1 1)) (fun v26 => some (0, v26)) else (if (v 10 (Int32.toNatClampNeg a2)) = 102 then ze_call (f_E_filter  a1 a2 v) (fun r28 v29 => some (0, v29)) else (if (v 10 (Int32.toNatClampNeg a2)) = 105 then ze_call (f_E_endIfDuplicate  a1 a2 v) (fun r31 v32 => some (0, v32)) else (if (v 10 (Int32.toNatClampNeg a2)) = 107 then ze_lev (ze_u v a1 1 (v a1 0)) (fun v34 => some (0, v34)) else (if (v 10 (Int32.toNatClampNeg a2)) = 113 then ze_call (f_E_hold  a1 a2 v) (fun r36 v37 => some (0, v37)) else (if (v 10 (Int32.toNatClampNeg a2)) = 114 then ze_call (f_E_deliver  a1 ((v a1 1) &&& 15) v) (fun r39 v40 => some (r39, v40)) else (if (v 10 (Int32.toNatClampNeg a2)) = 115 then ze_call (f_E_runParts RC a1 a2 (a3 + 1) v) (fun r42 v43 => some (0, v43)) else some (0, v)))))))))))))))))))
set_option maxHeartbeats 4000000 in
set_option maxRecDepth 100000 in
theorem w_E_attempt {G : ze_G} {fr1 lo1 : Nat} (X : ze_X G bc_E_attempt cn_E 5 (fr1 + 2) (lo1 + 120)) (Y : ze_Ri G .int) (hfr : 12 ≤ fr1) (hlo : 300 ≤ lo1) (RC : Nat → Int32 → Int32 → ze_H → Option (Int32 × ze_H)) (hRC : ∀ (e : Nat) (a : Int32) (b : Int32), ze_isExchange e → ∀ (v : ze_H) (r : Int32) (v1 : ze_H), RC e a b v = some (r, v1) → ze_Mv (ze_l G) (ze_D G) (ze_ad G) (ze_ca G) my_E_runList bc_E_runList 6 fr1 lo1 [.inr 0, .inr e, .inl a, .inl b] v v1) (a1 : Nat) (a2 : Int32) (a3 : Int32) (ha1 : ze_isExchange a1) (v : ze_H) : ze_T G (f_E_attempt RC a1 a2 a3 v) v 0 [some (.inr 0), some (.inr a1), some (.inl a2), some (.inl a3), none] [] := by
  refine ze_aload_n X dc_E_attempt_0 rfl rfl ?_
  refine ze_getr X dc_E_attempt_1 zf_E_20 sh_0 rfl ?_
  refine ze_getr X dc_E_attempt_4 zf_E_223 is_Program_9.1 rfl ?_
  refine ze_iload_n X dc_E_attempt_7 rfl rfl ?_
  refine ze_iald X dc_E_attempt_8 sh_11 rfl (fun _ => ?_)
  refine ze_istore X dc_E_attempt_9 (by decide) (fun x1 => ?_)
  refine ze_aload_n X dc_E_attempt_11 rfl rfl ?_
  refine ze_getr X dc_E_attempt_12 zf_E_20 sh_0 rfl ?_
  refine ze_getr X dc_E_attempt_15 zf_E_86 is_Program_9.1 rfl ?_
  refine ze_iload_n X dc_E_attempt_18 rfl rfl ?_
  refine ze_cald X dc_E_attempt_19 sh_10 rfl (fun _ => ?_)
  refine ze_if (c := (v 10 (Int32.toNatClampNeg a2)) = 33) (fun hq => ?_) (fun hn2 => ?_)
  · refine ze_lookup (off := 286) (tgt := 306) X dc_E_attempt_20 rfl (by rw [hq]; rfl) (by decide) ?_
    refine ze_aload_n X dc_E_attempt_306 rfl rfl ?_
    refine ze_aload_n X dc_E_attempt_307 rfl rfl ?_
    refine ze_iconst (x := 1) X dc_E_attempt_308 (by decide) ?_
    refine ze_iload X dc_E_attempt_309 rfl ?_
    refine ze_ishl X dc_E_attempt_311 ?_
    refine ze_callVi (As := [.inr a1, .inl (1 <<< (x1 &&& 31))]) (st := []) X dc_E_attempt_312 zc_E_248 sh_0 (fun zr zv zh => c_E_deliver X.2.2.2.2.2.2.1  a1 (1 <<< (x1 &&& 31)) ha1 v zh) rfl (by omega) (by omega) (Nat.le_of_ble_eq_true rfl) (fun r3 v4 => ?_)
    exact ze_iret X Y (vp_nar_int _) dc_E_attempt_315
  refine ze_if (c := (v 10 (Int32.toNatClampNeg a2)) = 38) (fun hq => ?_) (fun hn5 => ?_)
  · refine ze_lookup (off := 278) (tgt := 298) X dc_E_attempt_20 rfl (by rw [hq]; rfl) (by decide) ?_
    refine ze_aload_n X dc_E_attempt_298 rfl rfl ?_
    refine ze_aload_n X dc_E_attempt_299 rfl rfl ?_
    refine ze_iload X dc_E_attempt_300 rfl ?_
    refine ze_callVi (As := [.inr a1, .inl x1]) (st := []) X dc_E_attempt_302 zc_E_245 sh_0 (fun zr zv zh => c_E_copyToQueue X.2.2.2.2.2.2.1  a1 x1 ha1 v zh) rfl (by omega) (by omega) (Nat.le_of_ble_eq_true rfl) (fun r6 v7 => ?_)
    exact ze_iret X Y (vp_nar_int _) dc_E_attempt_305
  refine ze_if (c := (v 10 (Int32.toNatClampNeg a2)) = 42) (fun hq => ?_) (fun hn8 => ?_)
  · refine ze_lookup (off := 160) (tgt := 180) X dc_E_attempt_20 rfl (by rw [hq]; rfl) (by decide) ?_
    refine ze_aload_n X dc_E_attempt_180 rfl rfl ?_
    refine ze_dup X dc_E_attempt_181 ?_
    refine ze_geti X dc_E_attempt_182 zf_E_183 ha1 rfl ?_
    refine ze_iload X dc_E_attempt_185 rfl ?_
    refine ze_imul X dc_E_attempt_187 ?_
    refine ze_puti X dc_E_attempt_188 zp_E_183 ha1 rfl (fun v9 => ?_)
    refine ze_goto (tgt := 329) X dc_E_attempt_191 (by decide) ?_
    refine ze_iconst (x := 0) X dc_E_attempt_329 (by decide) ?_
    exact ze_iret X Y (vp_nar_int _) dc_E_attempt_330
  refine ze_if (c := (v 10 (Int32.toNatClampNeg a2)) = 43) (fun hq => ?_) (fun hn10 => ?_)
  · refine ze_lookup (off := 132) (tgt := 152) X dc_E_attempt_20 rfl (by rw [hq]; rfl) (by decide) ?_
    refine ze_aload_n X dc_E_attempt_152 rfl rfl ?_
    refine ze_dup X dc_E_attempt_153 ?_
    refine ze_geti X dc_E_attempt_154 zf_E_183 ha1 rfl ?_
    refine ze_iload X dc_E_attempt_157 rfl ?_
    refine ze_iadd X dc_E_attempt_159 ?_
    refine ze_puti X dc_E_attempt_160 zp_E_183 ha1 rfl (fun v11 => ?_)
    refine ze_goto (tgt := 329) X dc_E_attempt_163 (by decide) ?_
    refine ze_iconst (x := 0) X dc_E_attempt_329 (by decide) ?_
    exact ze_iret X Y (vp_nar_int _) dc_E_attempt_330
  refine ze_if (c := (v 10 (Int32.toNatClampNeg a2)) = 45) (fun hq => ?_) (fun hn12 => ?_)
  · refine ze_lookup (off := 146) (tgt := 166) X dc_E_attempt_20 rfl (by rw [hq]; rfl) (by decide) ?_
    refine ze_aload_n X dc_E_attempt_166 rfl rfl ?_
    refine ze_dup X dc_E_attempt_167 ?_
    refine ze_geti X dc_E_attempt_168 zf_E_183 ha1 rfl ?_
    refine ze_iload X dc_E_attempt_171 rfl ?_
    refine ze_isub X dc_E_attempt_173 ?_
    refine ze_puti X dc_E_attempt_174 zp_E_183 ha1 rfl (fun v13 => ?_)
    refine ze_goto (tgt := 329) X dc_E_attempt_177 (by decide) ?_
    refine ze_iconst (x := 0) X dc_E_attempt_329 (by decide) ?_
    exact ze_iret X Y (vp_nar_int _) dc_E_attempt_330
  refine ze_if (c := (v 10 (Int32.toNatClampNeg a2)) = 62) (fun hq => ?_) (fun hn14 => ?_)
  · refine ze_lookup (off := 216) (tgt := 236) X dc_E_attempt_20 rfl (by rw [hq]; rfl) (by decide) ?_
    refine ze_aload_n X dc_E_attempt_236 rfl rfl ?_
    refine ze_aload_n X dc_E_attempt_237 rfl rfl ?_
    refine ze_iload X dc_E_attempt_238 rfl ?_
    refine ze_bipush (x := 41) X dc_E_attempt_240 (by decide) ?_
    refine ze_imul X dc_E_attempt_242 ?_
    refine ze_iload_n X dc_E_attempt_243 rfl rfl ?_
    refine ze_iconst (x := 1) X dc_E_attempt_244 (by decide) ?_
    refine ze_iadd X dc_E_attempt_245 ?_
    refine ze_callVv (As := [.inr a1, .inl (x1 * 41), .inl (a3 + 1)]) (st := []) X dc_E_attempt_246 zc_E_199 sh_0 (fun zr zv zh => hRC a1 (x1 * 41) (a3 + 1) ha1 v zr zv zh) rfl (by omega) (by omega) (Nat.le_of_ble_eq_true rfl) (fun r15 v16 => ?_)
    refine ze_goto (tgt := 329) X dc_E_attempt_249 (by decide) ?_
    refine ze_iconst (x := 0) X dc_E_attempt_329 (by decide) ?_
    exact ze_iret X Y (vp_nar_int _) dc_E_attempt_330
  refine ze_if (c := (v 10 (Int32.toNatClampNeg a2)) = 63) (fun hq => ?_) (fun hn17 => ?_)
  · refine ze_lookup (off := 196) (tgt := 216) X dc_E_attempt_20 rfl (by rw [hq]; rfl) (by decide) ?_
    refine ze_aload_n X dc_E_attempt_216 rfl rfl ?_
    refine ze_aload_n X dc_E_attempt_217 rfl rfl ?_
    refine ze_aload_n X dc_E_attempt_218 rfl rfl ?_
    refine ze_getr X dc_E_attempt_219 zf_E_20 sh_0 rfl ?_
    refine ze_aload_n X dc_E_attempt_222 rfl rfl ?_
    refine ze_iload_n X dc_E_attempt_223 rfl rfl ?_
    refine ze_callVi (As := [.inr a1, .inl a2]) (st := [.inr a1, .inr 0]) X dc_E_attempt_224 zc_E_226 is_Program_9.1 (fun zr zv zh => c_P_listFor X.2.2.2.2.2.2.1  9 a1 a2 is_Program_9 ha1 v zh) rfl (by omega) (by omega) (Nat.le_of_ble_eq_true rfl) (fun r18 v19 => ?_)
    refine ze_iload_n X dc_E_attempt_227 rfl rfl ?_
    refine ze_iconst (x := 1) X dc_E_attempt_228 (by decide) ?_
    refine ze_iadd X dc_E_attempt_229 ?_
    refine ze_callVv (As := [.inr a1, .inl r18, .inl (a3 + 1)]) (st := []) X dc_E_attempt_230 zc_E_199 sh_0 (fun zr zv zh => hRC a1 r18 (a3 + 1) ha1 v19 zr zv zh) rfl (by omega) (by omega) (Nat.le_of_ble_eq_true rfl) (fun r20 v21 => ?_)
    refine ze_goto (tgt := 329) X dc_E_attempt_233 (by decide) ?_
    refine ze_iconst (x := 0) X dc_E_attempt_329 (by decide) ?_
    exact ze_iret X Y (vp_nar_int _) dc_E_attempt_330
  refine ze_if (c := (v 10 (Int32.toNatClampNeg a2)) = 97) (fun hq => ?_) (fun hn22 => ?_)
  · refine ze_lookup (off := 271) (tgt := 291) X dc_E_attempt_20 rfl (by rw [hq]; rfl) (by decide) ?_
    refine ze_aload_n X dc_E_attempt_291 rfl rfl ?_
    refine ze_aload_n X dc_E_attempt_292 rfl rfl ?_
    refine ze_iload_n X dc_E_attempt_293 rfl rfl ?_
    refine ze_callVi (As := [.inr a1, .inl a2]) (st := []) X dc_E_attempt_294 zc_E_242 sh_0 (fun zr zv zh => c_E_gather X.2.2.2.2.2.2.1  a1 a2 ha1 v zh) rfl (by omega) (by omega) (Nat.le_of_ble_eq_true rfl) (fun r23 v24 => ?_)
    exact ze_iret X Y (vp_nar_int _) dc_E_attempt_297
  refine ze_if (c := (v 10 (Int32.toNatClampNeg a2)) = 98) (fun hq => ?_) (fun hn25 => ?_)
  · refine ze_lookup (off := 185) (tgt := 205) X dc_E_attempt_20 rfl (by rw [hq]; rfl) (by decide) ?_
    refine ze_aload_n X dc_E_attempt_205 rfl rfl ?_
    refine ze_aload_n X dc_E_attempt_206 rfl rfl ?_
    refine ze_geti X dc_E_attempt_207 zf_E_186 ha1 rfl ?_
    refine ze_puti X dc_E_attempt_210 zp_E_183 ha1 rfl (fun v26 => ?_)
    refine ze_goto (tgt := 329) X dc_E_attempt_213 (by decide) ?_
    refine ze_iconst (x := 0) X dc_E_attempt_329 (by decide) ?_
    exact ze_iret X Y (vp_nar_int _) dc_E_attempt_330
  refine ze_if (c := (v 10 (Int32.toNatClampNeg a2)) = 102) (fun hq => ?_) (fun hn27 => ?_)
  · refine ze_lookup (off := 244) (tgt := 264) X dc_E_attempt_20 rfl (by rw [hq]; rfl) (by decide) ?_
    refine ze_aload_n X dc_E_attempt_264 rfl rfl ?_
    refine ze_aload_n X dc_E_attempt_265 rfl rfl ?_
    refine ze_iload_n X dc_E_attempt_266 rfl rfl ?_
    refine ze_callVv (As := [.inr a1, .inl a2]) (st := []) X dc_E_attempt_267 zc_E_233 sh_0 (fun zr zv zh => c_E_filter X.2.2.2.2.2.2.1  a1 a2 ha1 v zh) rfl (by omega) (by omega) (Nat.le_of_ble_eq_true rfl) (fun r28 v29 => ?_)
    refine ze_goto (tgt := 329) X dc_E_attempt_270 (by decide) ?_
    refine ze_iconst (x := 0) X dc_E_attempt_329 (by decide) ?_
    exact ze_iret X Y (vp_nar_int _) dc_E_attempt_330
  refine ze_if (c := (v 10 (Int32.toNatClampNeg a2)) = 105) (fun hq => ?_) (fun hn30 => ?_)
  · refine ze_lookup (off := 253) (tgt := 273) X dc_E_attempt_20 rfl (by rw [hq]; rfl) (by decide) ?_
    refine ze_aload_n X dc_E_attempt_273 rfl rfl ?_
    refine ze_aload_n X dc_E_attempt_274 rfl rfl ?_
    refine ze_iload_n X dc_E_attempt_275 rfl rfl ?_
    refine ze_callVv (As := [.inr a1, .inl a2]) (st := []) X dc_E_attempt_276 zc_E_236 sh_0 (fun zr zv zh => c_E_endIfDuplicate X.2.2.2.2.2.2.1  a1 a2 ha1 v zh) rfl (by omega) (by omega) (Nat.le_of_ble_eq_true rfl) (fun r31 v32 => ?_)
    refine ze_goto (tgt := 329) X dc_E_attempt_279 (by decide) ?_
    refine ze_iconst (x := 0) X dc_E_attempt_329 (by decide) ?_
    exact ze_iret X Y (vp_nar_int _) dc_E_attempt_330
  refine ze_if (c := (v 10 (Int32.toNatClampNeg a2)) = 107) (fun hq => ?_) (fun hn33 => ?_)
  · refine ze_lookup (off := 174) (tgt := 194) X dc_E_attempt_20 rfl (by rw [hq]; rfl) (by decide) ?_
    refine ze_aload_n X dc_E_attempt_194 rfl rfl ?_
    refine ze_aload_n X dc_E_attempt_195 rfl rfl ?_
    refine ze_geti X dc_E_attempt_196 zf_E_183 ha1 rfl ?_
    refine ze_puti X dc_E_attempt_199 zp_E_186 ha1 rfl (fun v34 => ?_)
    refine ze_goto (tgt := 329) X dc_E_attempt_202 (by decide) ?_
    refine ze_iconst (x := 0) X dc_E_attempt_329 (by decide) ?_
    exact ze_iret X Y (vp_nar_int _) dc_E_attempt_330
  refine ze_if (c := (v 10 (Int32.toNatClampNeg a2)) = 113) (fun hq => ?_) (fun hn35 => ?_)
  · refine ze_lookup (off := 262) (tgt := 282) X dc_E_attempt_20 rfl (by rw [hq]; rfl) (by decide) ?_
    refine ze_aload_n X dc_E_attempt_282 rfl rfl ?_
    refine ze_aload_n X dc_E_attempt_283 rfl rfl ?_
    refine ze_iload_n X dc_E_attempt_284 rfl rfl ?_
    refine ze_callVv (As := [.inr a1, .inl a2]) (st := []) X dc_E_attempt_285 zc_E_239 sh_0 (fun zr zv zh => c_E_hold X.2.2.2.2.2.2.1  a1 a2 ha1 v zh) rfl (by omega) (by omega) (Nat.le_of_ble_eq_true rfl) (fun r36 v37 => ?_)
    refine ze_goto (tgt := 329) X dc_E_attempt_288 (by decide) ?_
    refine ze_iconst (x := 0) X dc_E_attempt_329 (by decide) ?_
    exact ze_iret X Y (vp_nar_int _) dc_E_attempt_330
  refine ze_if (c := (v 10 (Int32.toNatClampNeg a2)) = 114) (fun hq => ?_) (fun hn38 => ?_)
  · refine ze_lookup (off := 296) (tgt := 316) X dc_E_attempt_20 rfl (by rw [hq]; rfl) (by decide) ?_
    refine ze_aload_n X dc_E_attempt_316 rfl rfl ?_
    refine ze_aload_n X dc_E_attempt_317 rfl rfl ?_
    refine ze_aload_n X dc_E_attempt_318 rfl rfl ?_
    refine ze_geti X dc_E_attempt_319 zf_E_186 ha1 rfl ?_
    refine ze_bipush (x := 15) X dc_E_attempt_322 (by decide) ?_
    refine ze_iand X dc_E_attempt_324 ?_
    refine ze_callVi (As := [.inr a1, .inl ((v a1 1) &&& 15)]) (st := []) X dc_E_attempt_325 zc_E_248 sh_0 (fun zr zv zh => c_E_deliver X.2.2.2.2.2.2.1  a1 ((v a1 1) &&& 15) ha1 v zh) rfl (by omega) (by omega) (Nat.le_of_ble_eq_true rfl) (fun r39 v40 => ?_)
    exact ze_iret X Y (vp_nar_int _) dc_E_attempt_328
  refine ze_if (c := (v 10 (Int32.toNatClampNeg a2)) = 115) (fun hq => ?_) (fun hn41 => ?_)
  · refine ze_lookup (off := 232) (tgt := 252) X dc_E_attempt_20 rfl (by rw [hq]; rfl) (by decide) ?_
    refine ze_aload_n X dc_E_attempt_252 rfl rfl ?_
    refine ze_aload_n X dc_E_attempt_253 rfl rfl ?_
    refine ze_iload_n X dc_E_attempt_254 rfl rfl ?_
    refine ze_iload_n X dc_E_attempt_255 rfl rfl ?_
    refine ze_iconst (x := 1) X dc_E_attempt_256 (by decide) ?_
    refine ze_iadd X dc_E_attempt_257 ?_
    refine ze_callVv (As := [.inr a1, .inl a2, .inl (a3 + 1)]) (st := []) X dc_E_attempt_258 zc_E_230 sh_0 (fun zr zv zh => c_E_runParts X.2.2.2.2.2.2.1 hfr hlo RC hRC a1 a2 (a3 + 1) ha1 v zh) rfl (by omega) (by omega) (Nat.le_of_ble_eq_true rfl) (fun r42 v43 => ?_)
    refine ze_goto (tgt := 329) X dc_E_attempt_261 (by decide) ?_
    refine ze_iconst (x := 0) X dc_E_attempt_329 (by decide) ?_
    exact ze_iret X Y (vp_nar_int _) dc_E_attempt_330
  refine ze_lookup (off := 309) (tgt := 329) X dc_E_attempt_20 rfl (by show Op.lookupswitch.offset [(33, 286), (38, 278), (42, 160), (43, 132), (45, 146), (62, 216), (63, 196), (97, 271), (98, 185), (102, 244), (105, 253), (107, 174), (113, 262), (114, 296), (115, 232)] 309 _ = _; rw [lv_osw (a := 33) hn2 (by decide), lv_osw (a := 38) hn5 (by decide), lv_osw (a := 42) hn8 (by decide), lv_osw (a := 43) hn10 (by decide), lv_osw (a := 45) hn12 (by decide), lv_osw (a := 62) hn14 (by decide), lv_osw (a := 63) hn17 (by decide), lv_osw (a := 97) hn22 (by decide), lv_osw (a := 98) hn25 (by decide), lv_osw (a := 102) hn27 (by decide), lv_osw (a := 105) hn30 (by decide), lv_osw (a := 107) hn33 (by decide), lv_osw (a := 113) hn35 (by decide), lv_osw (a := 114) hn38 (by decide), lv_osw (a := 115) hn41 (by decide)]; rfl) (by decide) ?_
  refine ze_iconst (x := 0) X dc_E_attempt_329 (by decide) ?_
  exact ze_iret X Y (vp_nar_int _) dc_E_attempt_330
set_option maxHeartbeats 4000000 in
set_option maxRecDepth 100000 in
theorem c_E_attempt {l : Launch} {D : va_G} {ad : Nat → Nat} {ca : Nat → ClassId} (hD : va_D (ze_A ad) (ze_ws ze_sh ad ca (fun _ _ => 0))) {fr1 lo1 : Nat} (hfr : 12 ≤ fr1) (hlo : 300 ≤ lo1) (RC : Nat → Int32 → Int32 → ze_H → Option (Int32 × ze_H)) (hRC : ∀ (e : Nat) (a : Int32) (b : Int32), ze_isExchange e → ∀ (v : ze_H) (r : Int32) (v1 : ze_H), RC e a b v = some (r, v1) → ze_Mv l D ad ca my_E_runList bc_E_runList 6 fr1 lo1 [.inr 0, .inr e, .inl a, .inl b] v v1) (a1 : Nat) (a2 : Int32) (a3 : Int32) (ha1 : ze_isExchange a1) (v : ze_H) {r : Int32} {v1 : ze_H} (h : f_E_attempt RC a1 a2 a3 v = some (r, v1)) : ze_Mi l D ad ca my_E_attempt bc_E_attempt 5 .int (fr1 + 2) (lo1 + 120) [.inr 0, .inr a1, .inl a2, .inl a3] v r v1 := ze_Mi_of (plainFor_of_name (by decide)) hD (Nat.le_of_ble_eq_true rfl) (fun G e1 e2 e3 e4 X Y => by subst e1 e2 e3 e4; exact w_E_attempt X Y hfr hlo RC hRC a1 a2 a3 ha1 v) h
def f_E_runStep_L3 (RC : Nat → Int32 → Int32 → ze_H → Option (Int32 × ze_H)) (k1 : Nat) (b2 : Int32) (b3 : Int32) (kk : ze_H → Option (Int32 × ze_H)) : Nat → Int32 → ze_H → Option (Int32 × ze_H)
  | 0, _, _ => none
  | n + 1, l4, v =>
    (if 6 < l4 then (kk  v) else (if (v 0 12) < 100 then ze_lev (ze_u v 0 12 ((v 0 12) + 1)) (fun v2 => ze_call (f_E_attempt RC k1 b2 b3 v2) (fun r3 v4 => ze_let r3 (fun x5 => (if x5 = 0 then some (0, v4) else ze_call (f_E_isRedelivered  k1 x5 l4 v4) (fun r6 v7 => (if r6 = 0 then some (0, v7) else ze_let (l4 + 1) (fun x8 => (f_E_runStep_L3 RC k1 b2 b3 kk n x8 v7)))))))) else ze_call (f_E_end  k1 7 v) (fun r9 v10 => some (0, v10))))
def f_E_runStep (RC : Nat → Int32 → Int32 → ze_H → Option (Int32 × ze_H)) (a1 : Nat) (a2 : Int32) (a3 : Int32) (v : ze_H) : Option (Int32 × ze_H) :=
  ze_let 1 (fun x1 => (f_E_runStep_L3 RC a1 a2 a3 (fun  v11 => some (0, v11)) 200000 x1 v))
set_option maxHeartbeats 4000000 in
set_option maxRecDepth 100000 in
theorem w_E_runStep_L3 {G : ze_G} {fr1 lo1 : Nat} (X : ze_X G bc_E_runStep cn_E 6 (fr1 + 3) (lo1 + 180)) (Y : ze_Rv G) (hfr : 12 ≤ fr1) (hlo : 300 ≤ lo1) (RC : Nat → Int32 → Int32 → ze_H → Option (Int32 × ze_H)) (hRC : ∀ (e : Nat) (a : Int32) (b : Int32), ze_isExchange e → ∀ (v : ze_H) (r : Int32) (v1 : ze_H), RC e a b v = some (r, v1) → ze_Mv (ze_l G) (ze_D G) (ze_ad G) (ze_ca G) my_E_runList bc_E_runList 6 fr1 lo1 [.inr 0, .inr e, .inl a, .inl b] v v1) (k1 : Nat) (b2 : Int32) (b3 : Int32) (hk1 : ze_isExchange k1) {kk : ze_H → Option (Int32 × ze_H)} (hkk : ∀ (v : ze_H), ze_T G (kk  v) v 70 [none, none, none, none, none, none] []) : ∀ (n : Nat) (l4 : Int32) (v : ze_H), ze_T G (f_E_runStep_L3 RC k1 b2 b3 kk n l4 v) v 3 [some (.inr 0), some (.inr k1), some (.inl b2), some (.inl b3), some (.inl l4), none] [] := by
  intro n
  induction n with
  | zero => intro l4 v; exact ze_none
  | succ n ih =>
    intro l4 v
    refine ze_iload X dc_E_runStep_3 rfl ?_
    refine ze_bipush (x := 6) X dc_E_runStep_5 (by decide) ?_
    refine ze_icmp_gt (tgt := 70) X dc_E_runStep_7 (by decide) (fun _ => ?_) (fun _ => ?_)
    · refine ze_weak [false, false, false, false, false, false] ?_
      exact hkk  v
    · refine ze_aload_n X dc_E_runStep_10 rfl rfl ?_
      refine ze_geti X dc_E_runStep_11 zf_E_122 sh_0 rfl ?_
      refine ze_bipush (x := 100) X dc_E_runStep_14 (by decide) ?_
      refine ze_icmp_lt (tgt := 27) X dc_E_runStep_16 (by decide) (fun _ => ?_) (fun _ => ?_)
      · refine ze_aload_n X dc_E_runStep_27 rfl rfl ?_
        refine ze_dup X dc_E_runStep_28 ?_
        refine ze_geti X dc_E_runStep_29 zf_E_122 sh_0 rfl ?_
        refine ze_iconst (x := 1) X dc_E_runStep_32 (by decide) ?_
        refine ze_iadd X dc_E_runStep_33 ?_
        refine ze_puti X dc_E_runStep_34 zp_E_122 sh_0 rfl (fun v2 => ?_)
        refine ze_aload_n X dc_E_runStep_37 rfl rfl ?_
        refine ze_aload_n X dc_E_runStep_38 rfl rfl ?_
        refine ze_iload_n X dc_E_runStep_39 rfl rfl ?_
        refine ze_iload_n X dc_E_runStep_40 rfl rfl ?_
        refine ze_callVi (As := [.inr k1, .inl b2, .inl b3]) (st := []) X dc_E_runStep_41 zc_E_215 sh_0 (fun zr zv zh => c_E_attempt X.2.2.2.2.2.2.1 hfr hlo RC hRC k1 b2 b3 hk1 v2 zh) rfl (by omega) (by omega) (Nat.le_of_ble_eq_true rfl) (fun r3 v4 => ?_)
        refine ze_istore X dc_E_runStep_44 (by decide) (fun x5 => ?_)
        refine ze_iload X dc_E_runStep_46 rfl ?_
        refine ze_if_eq (tgt := 63) X dc_E_runStep_48 (by decide) (fun _ => ?_) (fun _ => ?_)
        · exact ze_vret X Y dc_E_runStep_63
        · refine ze_aload_n X dc_E_runStep_51 rfl rfl ?_
          refine ze_aload_n X dc_E_runStep_52 rfl rfl ?_
          refine ze_iload X dc_E_runStep_53 rfl ?_
          refine ze_iload X dc_E_runStep_55 rfl ?_
          refine ze_callVi (As := [.inr k1, .inl x5, .inl l4]) (st := []) X dc_E_runStep_57 zc_E_219 sh_0 (fun zr zv zh => c_E_isRedelivered X.2.2.2.2.2.2.1  k1 x5 l4 hk1 v4 zh) rfl (by omega) (by omega) (Nat.le_of_ble_eq_true rfl) (fun r6 v7 => ?_)
          refine ze_if_ne (tgt := 64) X dc_E_runStep_60 (by decide) (fun _ => ?_) (fun _ => ?_)
          · exact ze_vret X Y dc_E_runStep_63
          · refine ze_iinc (y := 1) X dc_E_runStep_64 rfl (by decide) (by decide) (fun x8 => ?_)
            refine ze_goto (tgt := 3) X dc_E_runStep_67 (by decide) ?_
            refine ze_weak [true, true, true, true, true, false] ?_
            exact ih x8 v7
      · refine ze_aload_n X dc_E_runStep_19 rfl rfl ?_
        refine ze_aload_n X dc_E_runStep_20 rfl rfl ?_
        refine ze_bipush (x := 7) X dc_E_runStep_21 (by decide) ?_
        refine ze_callVv (As := [.inr k1, .inl 7]) (st := []) X dc_E_runStep_23 zc_E_202 sh_0 (fun zr zv zh => c_E_end X.2.2.2.2.2.2.1  k1 7 hk1 v zh) rfl (by omega) (by omega) (Nat.le_of_ble_eq_true rfl) (fun r9 v10 => ?_)
        exact ze_vret X Y dc_E_runStep_26
set_option maxHeartbeats 4000000 in
set_option maxRecDepth 100000 in
theorem w_E_runStep {G : ze_G} {fr1 lo1 : Nat} (X : ze_X G bc_E_runStep cn_E 6 (fr1 + 3) (lo1 + 180)) (Y : ze_Rv G) (hfr : 12 ≤ fr1) (hlo : 300 ≤ lo1) (RC : Nat → Int32 → Int32 → ze_H → Option (Int32 × ze_H)) (hRC : ∀ (e : Nat) (a : Int32) (b : Int32), ze_isExchange e → ∀ (v : ze_H) (r : Int32) (v1 : ze_H), RC e a b v = some (r, v1) → ze_Mv (ze_l G) (ze_D G) (ze_ad G) (ze_ca G) my_E_runList bc_E_runList 6 fr1 lo1 [.inr 0, .inr e, .inl a, .inl b] v v1) (a1 : Nat) (a2 : Int32) (a3 : Int32) (ha1 : ze_isExchange a1) (v : ze_H) : ze_T G (f_E_runStep RC a1 a2 a3 v) v 0 [some (.inr 0), some (.inr a1), some (.inl a2), some (.inl a3), none, none] [] := by
  refine ze_iconst (x := 1) X dc_E_runStep_0 (by decide) ?_
  refine ze_istore X dc_E_runStep_1 (by decide) (fun x1 => ?_)
  refine ze_weak [true, true, true, true, true, false] ?_
  refine w_E_runStep_L3 X Y hfr hlo RC hRC a1 a2 a3 ha1 (fun  v11 => ?_) 200000 x1 v
  exact ze_vret X Y dc_E_runStep_70
set_option maxHeartbeats 4000000 in
set_option maxRecDepth 100000 in
theorem c_E_runStep {l : Launch} {D : va_G} {ad : Nat → Nat} {ca : Nat → ClassId} (hD : va_D (ze_A ad) (ze_ws ze_sh ad ca (fun _ _ => 0))) {fr1 lo1 : Nat} (hfr : 12 ≤ fr1) (hlo : 300 ≤ lo1) (RC : Nat → Int32 → Int32 → ze_H → Option (Int32 × ze_H)) (hRC : ∀ (e : Nat) (a : Int32) (b : Int32), ze_isExchange e → ∀ (v : ze_H) (r : Int32) (v1 : ze_H), RC e a b v = some (r, v1) → ze_Mv l D ad ca my_E_runList bc_E_runList 6 fr1 lo1 [.inr 0, .inr e, .inl a, .inl b] v v1) (a1 : Nat) (a2 : Int32) (a3 : Int32) (ha1 : ze_isExchange a1) (v : ze_H) {r : Int32} {v1 : ze_H} (h : f_E_runStep RC a1 a2 a3 v = some (r, v1)) : ze_Mv l D ad ca my_E_runStep bc_E_runStep 6 (fr1 + 3) (lo1 + 180) [.inr 0, .inr a1, .inl a2, .inl a3] v v1 := ze_Mv_of (plainFor_of_name (by decide)) hD (Nat.le_of_ble_eq_true rfl) (fun G e1 e2 e3 e4 X Y => by subst e1 e2 e3 e4; exact w_E_runStep X Y hfr hlo RC hRC a1 a2 a3 ha1 v) h
def f_E_runList_L20 (RC : Nat → Int32 → Int32 → ze_H → Option (Int32 × ze_H)) (k1 : Nat) (b3 : Int32) (kk : ze_H → Option (Int32 × ze_H)) : Nat → Int32 → Int32 → ze_H → Option (Int32 × ze_H)
  | 0, _, _, _ => none
  | n + 1, l4, l5, v =>
    (if 40 ≤ l5 then (kk  v) else (if (v k1 3) = 0 then ze_call (f_P_isStep  9 l4 v) (fun r3 v4 => (if r3 = 0 then (kk  v4) else ze_call (f_E_runStep RC k1 l4 b3 v4) (fun r5 v6 => ze_in l4 164 (ze_let (v6 15 (Int32.toNatClampNeg l4)) (fun x7 => ze_let (l5 + 1) (fun x8 => (f_E_runList_L20 RC k1 b3 kk n x7 x8 v6))))))) else (kk  v)))
def f_E_runList (RC : Nat → Int32 → Int32 → ze_H → Option (Int32 × ze_H)) (a1 : Nat) (a2 : Int32) (a3 : Int32) (v : ze_H) : Option (Int32 × ze_H) :=
  (if a3 < 16 then ze_let a2 (fun x1 => ze_let 0 (fun x2 => (f_E_runList_L20 RC a1 a3 (fun  v9 => some (0, v9)) 200000 x1 x2 v))) else ze_call (f_E_end  a1 6 v) (fun r10 v11 => some (0, v11)))
set_option maxHeartbeats 4000000 in
set_option maxRecDepth 100000 in
theorem w_E_runList_L20 {G : ze_G} {fr1 lo1 : Nat} (X : ze_X G bc_E_runList cn_E 6 (fr1 + 4) (lo1 + 240)) (Y : ze_Rv G) (hfr : 12 ≤ fr1) (hlo : 300 ≤ lo1) (RC : Nat → Int32 → Int32 → ze_H → Option (Int32 × ze_H)) (hRC : ∀ (e : Nat) (a : Int32) (b : Int32), ze_isExchange e → ∀ (v : ze_H) (r : Int32) (v1 : ze_H), RC e a b v = some (r, v1) → ze_Mv (ze_l G) (ze_D G) (ze_ad G) (ze_ca G) my_E_runList bc_E_runList 6 fr1 lo1 [.inr 0, .inr e, .inl a, .inl b] v v1) (k1 : Nat) (b3 : Int32) (hk1 : ze_isExchange k1) {kk : ze_H → Option (Int32 × ze_H)} (hkk : ∀ (v : ze_H), ze_T G (kk  v) v 72 [none, none, none, none, none, none] []) : ∀ (n : Nat) (l4 : Int32) (l5 : Int32) (v : ze_H), ze_T G (f_E_runList_L20 RC k1 b3 kk n l4 l5 v) v 20 [some (.inr 0), some (.inr k1), none, some (.inl b3), some (.inl l4), some (.inl l5)] [] := by
  intro n
  induction n with
  | zero => intro l4 l5 v; exact ze_none
  | succ n ih =>
    intro l4 l5 v
    refine ze_iload X dc_E_runList_20 rfl ?_
    refine ze_bipush (x := 40) X dc_E_runList_22 (by decide) ?_
    refine ze_icmp_ge (tgt := 72) X dc_E_runList_24 (by decide) (fun _ => ?_) (fun _ => ?_)
    · refine ze_weak [false, false, false, false, false, false] ?_
      exact hkk  v
    · refine ze_aload_n X dc_E_runList_27 rfl rfl ?_
      refine ze_geti X dc_E_runList_28 zf_E_192 hk1 rfl ?_
      refine ze_if_ne (tgt := 72) X dc_E_runList_31 (by decide) (fun _ => ?_) (fun _ => ?_)
      · refine ze_aload_n X dc_E_runList_34 rfl rfl ?_
        refine ze_getr X dc_E_runList_35 zf_E_20 sh_0 rfl ?_
        refine ze_iload X dc_E_runList_38 rfl ?_
        refine ze_callVi (As := [.inl l4]) (st := []) X dc_E_runList_40 zc_E_206 is_Program_9.1 (fun zr zv zh => c_P_isStep X.2.2.2.2.2.2.1  9 l4 is_Program_9 v zh) rfl (by omega) (by omega) (Nat.le_of_ble_eq_true rfl) (fun r3 v4 => ?_)
        refine ze_if_eq (tgt := 72) X dc_E_runList_43 (by decide) (fun _ => ?_) (fun _ => ?_)
        · refine ze_weak [false, false, false, false, false, false] ?_
          exact hkk  v4
        · refine ze_aload_n X dc_E_runList_46 rfl rfl ?_
          refine ze_aload_n X dc_E_runList_47 rfl rfl ?_
          refine ze_iload X dc_E_runList_48 rfl ?_
          refine ze_iload_n X dc_E_runList_50 rfl rfl ?_
          refine ze_callVv (As := [.inr k1, .inl l4, .inl b3]) (st := []) X dc_E_runList_51 zc_E_209 sh_0 (fun zr zv zh => c_E_runStep X.2.2.2.2.2.2.1 hfr hlo RC hRC k1 l4 b3 hk1 v4 zh) rfl (by omega) (by omega) (Nat.le_of_ble_eq_true rfl) (fun r5 v6 => ?_)
          refine ze_aload_n X dc_E_runList_54 rfl rfl ?_
          refine ze_getr X dc_E_runList_55 zf_E_20 sh_0 rfl ?_
          refine ze_getr X dc_E_runList_58 zf_E_212 is_Program_9.1 rfl ?_
          refine ze_iload X dc_E_runList_61 rfl ?_
          refine ze_iald X dc_E_runList_63 sh_15 rfl (fun _ => ?_)
          refine ze_istore X dc_E_runList_64 (by decide) (fun x7 => ?_)
          refine ze_iinc (y := 1) X dc_E_runList_66 rfl (by decide) (by decide) (fun x8 => ?_)
          refine ze_goto (tgt := 20) X dc_E_runList_69 (by decide) ?_
          refine ze_weak [true, true, false, true, true, true] ?_
          exact ih x7 x8 v6
      · refine ze_weak [false, false, false, false, false, false] ?_
        exact hkk  v
set_option maxHeartbeats 4000000 in
set_option maxRecDepth 100000 in
theorem w_E_runList {G : ze_G} {fr1 lo1 : Nat} (X : ze_X G bc_E_runList cn_E 6 (fr1 + 4) (lo1 + 240)) (Y : ze_Rv G) (hfr : 12 ≤ fr1) (hlo : 300 ≤ lo1) (RC : Nat → Int32 → Int32 → ze_H → Option (Int32 × ze_H)) (hRC : ∀ (e : Nat) (a : Int32) (b : Int32), ze_isExchange e → ∀ (v : ze_H) (r : Int32) (v1 : ze_H), RC e a b v = some (r, v1) → ze_Mv (ze_l G) (ze_D G) (ze_ad G) (ze_ca G) my_E_runList bc_E_runList 6 fr1 lo1 [.inr 0, .inr e, .inl a, .inl b] v v1) (a1 : Nat) (a2 : Int32) (a3 : Int32) (ha1 : ze_isExchange a1) (v : ze_H) : ze_T G (f_E_runList RC a1 a2 a3 v) v 0 [some (.inr 0), some (.inr a1), some (.inl a2), some (.inl a3), none, none] [] := by
  refine ze_iload_n X dc_E_runList_0 rfl rfl ?_
  refine ze_bipush (x := 16) X dc_E_runList_1 (by decide) ?_
  refine ze_icmp_lt (tgt := 14) X dc_E_runList_3 (by decide) (fun _ => ?_) (fun _ => ?_)
  · refine ze_iload_n X dc_E_runList_14 rfl rfl ?_
    refine ze_istore X dc_E_runList_15 (by decide) (fun x1 => ?_)
    refine ze_iconst (x := 0) X dc_E_runList_17 (by decide) ?_
    refine ze_istore X dc_E_runList_18 (by decide) (fun x2 => ?_)
    refine ze_weak [true, true, false, true, true, true] ?_
    refine w_E_runList_L20 X Y hfr hlo RC hRC a1 a3 ha1 (fun  v9 => ?_) 200000 x1 x2 v
    exact ze_vret X Y dc_E_runList_72
  · refine ze_aload_n X dc_E_runList_6 rfl rfl ?_
    refine ze_aload_n X dc_E_runList_7 rfl rfl ?_
    refine ze_bipush (x := 6) X dc_E_runList_8 (by decide) ?_
    refine ze_callVv (As := [.inr a1, .inl 6]) (st := []) X dc_E_runList_10 zc_E_202 sh_0 (fun zr zv zh => c_E_end X.2.2.2.2.2.2.1  a1 6 ha1 v zh) rfl (by omega) (by omega) (Nat.le_of_ble_eq_true rfl) (fun r10 v11 => ?_)
    exact ze_vret X Y dc_E_runList_13
set_option maxHeartbeats 4000000 in
set_option maxRecDepth 100000 in
theorem c_E_runList {l : Launch} {D : va_G} {ad : Nat → Nat} {ca : Nat → ClassId} (hD : va_D (ze_A ad) (ze_ws ze_sh ad ca (fun _ _ => 0))) {fr1 lo1 : Nat} (hfr : 12 ≤ fr1) (hlo : 300 ≤ lo1) (RC : Nat → Int32 → Int32 → ze_H → Option (Int32 × ze_H)) (hRC : ∀ (e : Nat) (a : Int32) (b : Int32), ze_isExchange e → ∀ (v : ze_H) (r : Int32) (v1 : ze_H), RC e a b v = some (r, v1) → ze_Mv l D ad ca my_E_runList bc_E_runList 6 fr1 lo1 [.inr 0, .inr e, .inl a, .inl b] v v1) (a1 : Nat) (a2 : Int32) (a3 : Int32) (ha1 : ze_isExchange a1) (v : ze_H) {r : Int32} {v1 : ze_H} (h : f_E_runList RC a1 a2 a3 v = some (r, v1)) : ze_Mv l D ad ca my_E_runList bc_E_runList 6 (fr1 + 4) (lo1 + 240) [.inr 0, .inr a1, .inl a2, .inl a3] v v1 := ze_Mv_of (plainFor_of_name (by decide)) hD (Nat.le_of_ble_eq_true rfl) (fun G e1 e2 e3 e4 X Y => by subst e1 e2 e3 e4; exact w_E_runList X Y hfr hlo RC hRC a1 a2 a3 ha1 v) h
/-- the run's recursion, by its depth -/
def f_xRL : Nat → Nat → Int32 → Int32 → ze_H → Option (Int32 × ze_H)
  | 0, _, _, _, _ => none
  | d + 1, e, a, b, v => f_E_runList (f_xRL d) e a b v
theorem c_xRL {l : Launch} {D : va_G} {ad : Nat → Nat} {ca : Nat → ClassId} (hD : va_D (ze_A ad) (ze_ws ze_sh ad ca (fun _ _ => 0))) : ∀ (d e : Nat) (a b : Int32), ze_isExchange e → ∀ (v : ze_H) {r : Int32} {v1 : ze_H}, f_xRL d e a b v = some (r, v1) → ze_Mv l D ad ca my_E_runList bc_E_runList 6 (12 + 4 * d) (300 + 240 * d) [.inr 0, .inr e, .inl a, .inl b] v v1 := by
  intro d
  induction d with
  | zero => intro e a b he v r v1 h; simp [f_xRL] at h
  | succ d ih =>
    intro e a b he v r v1 h
    have e1 : 12 + 4 * (d + 1) = 12 + 4 * d + 4 := by omega
    have e2 : 300 + 240 * (d + 1) = 300 + 240 * d + 240 := by omega
    rw [e1, e2]
    exact c_E_runList hD (by omega) (by omega) (f_xRL d) (fun e a b he v r v1 h => ih e a b he v h) e a b he v h
def f_E_runReady_L11  (k2 : Nat) (kk : Int32 → ze_H → Option (Int32 × ze_H)) : Nat → Int32 → Int32 → ze_H → Option (Int32 × ze_H)
  | 0, _, _, _ => none
  | n + 1, l1, l3, v =>
    (if 100000 ≤ l3 then (kk l1 v) else (if (v 43 5) ≤ 0 then (kk l1 v) else ze_let (v 43 4) (fun x4 => ze_in x4 401 (ze_let (v 44 (Int32.toNatClampNeg x4)) (fun x5 => ze_in x4 401 (ze_in x4 401 (ze_call (f_E_begin  k2 (v 45 (Int32.toNatClampNeg x4)) (v 46 (Int32.toNatClampNeg x4)) v) (fun r6 v7 => ze_call (f_L_dropFirst  43 401 v7) (fun r8 v9 => ze_call (f_xRL 17  k2 x5 0 v9) (fun r10 v11 => (if (v11 k2 3) = 0 then ze_call (f_E_end  k2 1 v11) (fun r12 v13 => (if l3 = 0 then ze_let (v13 k2 3) (fun x14 => ze_let (l3 + 1) (fun x15 => (f_E_runReady_L11  k2 kk n x14 x15 v13))) else ze_let (l3 + 1) (fun x16 => (f_E_runReady_L11  k2 kk n l1 x16 v13)))) else (if l3 = 0 then ze_let (v11 k2 3) (fun x17 => ze_let (l3 + 1) (fun x18 => (f_E_runReady_L11  k2 kk n x17 x18 v11))) else ze_let (l3 + 1) (fun x19 => (f_E_runReady_L11  k2 kk n l1 x19 v11))))))))))))))
def f_E_runReady   (v : ze_H) : Option (Int32 × ze_H) :=
  ze_let (-1) (fun x1 => ze_in 0 16 (ze_let 0 (fun x3 => (f_E_runReady_L11  (58 + 1 * (Int32.toNatClampNeg 0)) (fun x20 v21 => some (x20, v21)) 200000 x1 x3 v))))
set_option maxHeartbeats 4000000 in
set_option maxRecDepth 100000 in
theorem w_E_runReady_L11 {G : ze_G}  (X : ze_X G bc_E_runReady cn_E 6 81 4405) (Y : ze_Ri G .int)    (k2 : Nat) (hk2 : ze_isExchange k2) {kk : Int32 → ze_H → Option (Int32 × ze_H)} (hkk : ∀ (l1 : Int32) (v : ze_H), ze_T G (kk l1 v) v 116 [none, some (.inl l1), none, none, none, none] []) : ∀ (n : Nat) (l1 : Int32) (l3 : Int32) (v : ze_H), ze_T G (f_E_runReady_L11  k2 kk n l1 l3 v) v 11 [some (.inr 0), some (.inl l1), some (.inr k2), some (.inl l3), none, none] [] := by
  intro n
  induction n with
  | zero => intro l1 l3 v; exact ze_none
  | succ n ih =>
    intro l1 l3 v
    refine ze_iload_n X dc_E_runReady_11 rfl rfl ?_
    refine ze_ldc (x := 100000) X dc_E_runReady_12 (by decide +kernel) ?_
    refine ze_icmp_ge (tgt := 116) X dc_E_runReady_14 (by decide) (fun _ => ?_) (fun _ => ?_)
    · refine ze_weak [false, true, false, false, false, false] ?_
      exact hkk l1 v
    · refine ze_aload_n X dc_E_runReady_17 rfl rfl ?_
      refine ze_getr X dc_E_runReady_18 zf_E_55 sh_0 rfl ?_
      refine ze_geti X dc_E_runReady_21 zf_E_132 is_Line_43.1 rfl ?_
      refine ze_if_le (tgt := 116) X dc_E_runReady_24 (by decide) (fun _ => ?_) (fun _ => ?_)
      · refine ze_weak [false, true, false, false, false, false] ?_
        exact hkk l1 v
      · refine ze_aload_n X dc_E_runReady_27 rfl rfl ?_
        refine ze_getr X dc_E_runReady_28 zf_E_55 sh_0 rfl ?_
        refine ze_geti X dc_E_runReady_31 zf_E_133 is_Line_43.1 rfl ?_
        refine ze_istore X dc_E_runReady_34 (by decide) (fun x4 => ?_)
        refine ze_aload_n X dc_E_runReady_36 rfl rfl ?_
        refine ze_getr X dc_E_runReady_37 zf_E_55 sh_0 rfl ?_
        refine ze_getr X dc_E_runReady_40 zf_E_136 is_Line_43.1 rfl ?_
        refine ze_iload X dc_E_runReady_43 rfl ?_
        refine ze_iald X dc_E_runReady_45 sh_44 rfl (fun _ => ?_)
        refine ze_istore X dc_E_runReady_46 (by decide) (fun x5 => ?_)
        refine ze_aload_n X dc_E_runReady_48 rfl rfl ?_
        refine ze_aload_n X dc_E_runReady_49 rfl rfl ?_
        refine ze_aload_n X dc_E_runReady_50 rfl rfl ?_
        refine ze_getr X dc_E_runReady_51 zf_E_55 sh_0 rfl ?_
        refine ze_getr X dc_E_runReady_54 zf_E_139 is_Line_43.1 rfl ?_
        refine ze_iload X dc_E_runReady_57 rfl ?_
        refine ze_iald X dc_E_runReady_59 sh_45 rfl (fun _ => ?_)
        refine ze_aload_n X dc_E_runReady_60 rfl rfl ?_
        refine ze_getr X dc_E_runReady_61 zf_E_55 sh_0 rfl ?_
        refine ze_getr X dc_E_runReady_64 zf_E_142 is_Line_43.1 rfl ?_
        refine ze_iload X dc_E_runReady_67 rfl ?_
        refine ze_iald X dc_E_runReady_69 sh_46 rfl (fun _ => ?_)
        refine ze_callVv (As := [.inr k2, .inl (v 45 (Int32.toNatClampNeg x4)), .inl (v 46 (Int32.toNatClampNeg x4))]) (st := []) X dc_E_runReady_70 zc_E_195 sh_0 (fun zr zv zh => c_E_begin X.2.2.2.2.2.2.1  k2 (v 45 (Int32.toNatClampNeg x4)) (v 46 (Int32.toNatClampNeg x4)) hk2 v zh) rfl (by decide) (by decide) (Nat.le_of_ble_eq_true rfl) (fun r6 v7 => ?_)
        refine ze_aload_n X dc_E_runReady_73 rfl rfl ?_
        refine ze_getr X dc_E_runReady_74 zf_E_55 sh_0 rfl ?_
        refine ze_callVv (As := []) (st := []) X dc_E_runReady_77 zc_E_145 is_Line_43.1 (fun zr zv zh => c_L_dropFirst X.2.2.2.2.2.2.1  43 401 is_Line_43 v7 zh) rfl (by decide) (by decide) (Nat.le_of_ble_eq_true rfl) (fun r8 v9 => ?_)
        refine ze_aload_n X dc_E_runReady_80 rfl rfl ?_
        refine ze_aload_n X dc_E_runReady_81 rfl rfl ?_
        refine ze_iload X dc_E_runReady_82 rfl ?_
        refine ze_iconst (x := 0) X dc_E_runReady_84 (by decide) ?_
        refine ze_callVv (As := [.inr k2, .inl x5, .inl 0]) (st := []) X dc_E_runReady_85 zc_E_199 sh_0 (fun zr zv zh => c_xRL X.2.2.2.2.2.2.1 17 k2 x5 0 hk2 v9 zh) rfl (by decide) (by decide) (Nat.le_of_ble_eq_true rfl) (fun r10 v11 => ?_)
        refine ze_aload_n X dc_E_runReady_88 rfl rfl ?_
        refine ze_geti X dc_E_runReady_89 zf_E_192 hk2 rfl ?_
        refine ze_if_ne (tgt := 101) X dc_E_runReady_92 (by decide) (fun _ => ?_) (fun _ => ?_)
        · refine ze_aload_n X dc_E_runReady_95 rfl rfl ?_
          refine ze_aload_n X dc_E_runReady_96 rfl rfl ?_
          refine ze_iconst (x := 1) X dc_E_runReady_97 (by decide) ?_
          refine ze_callVv (As := [.inr k2, .inl 1]) (st := []) X dc_E_runReady_98 zc_E_202 sh_0 (fun zr zv zh => c_E_end X.2.2.2.2.2.2.1  k2 1 hk2 v11 zh) rfl (by decide) (by decide) (Nat.le_of_ble_eq_true rfl) (fun r12 v13 => ?_)
          refine ze_iload_n X dc_E_runReady_101 rfl rfl ?_
          refine ze_if_ne (tgt := 110) X dc_E_runReady_102 (by decide) (fun _ => ?_) (fun _ => ?_)
          · refine ze_aload_n X dc_E_runReady_105 rfl rfl ?_
            refine ze_geti X dc_E_runReady_106 zf_E_192 hk2 rfl ?_
            refine ze_istore_n X dc_E_runReady_109 rfl (by decide) (fun x14 => ?_)
            refine ze_iinc (y := 1) X dc_E_runReady_110 rfl (by decide) (by decide) (fun x15 => ?_)
            refine ze_goto (tgt := 11) X dc_E_runReady_113 (by decide) ?_
            refine ze_weak [true, true, true, true, false, false] ?_
            exact ih x14 x15 v13
          · refine ze_iinc (y := 1) X dc_E_runReady_110 rfl (by decide) (by decide) (fun x16 => ?_)
            refine ze_goto (tgt := 11) X dc_E_runReady_113 (by decide) ?_
            refine ze_weak [true, true, true, true, false, false] ?_
            exact ih l1 x16 v13
        · refine ze_iload_n X dc_E_runReady_101 rfl rfl ?_
          refine ze_if_ne (tgt := 110) X dc_E_runReady_102 (by decide) (fun _ => ?_) (fun _ => ?_)
          · refine ze_aload_n X dc_E_runReady_105 rfl rfl ?_
            refine ze_geti X dc_E_runReady_106 zf_E_192 hk2 rfl ?_
            refine ze_istore_n X dc_E_runReady_109 rfl (by decide) (fun x17 => ?_)
            refine ze_iinc (y := 1) X dc_E_runReady_110 rfl (by decide) (by decide) (fun x18 => ?_)
            refine ze_goto (tgt := 11) X dc_E_runReady_113 (by decide) ?_
            refine ze_weak [true, true, true, true, false, false] ?_
            exact ih x17 x18 v11
          · refine ze_iinc (y := 1) X dc_E_runReady_110 rfl (by decide) (by decide) (fun x19 => ?_)
            refine ze_goto (tgt := 11) X dc_E_runReady_113 (by decide) ?_
            refine ze_weak [true, true, true, true, false, false] ?_
            exact ih l1 x19 v11
set_option maxHeartbeats 4000000 in
set_option maxRecDepth 100000 in
theorem w_E_runReady {G : ze_G}  (X : ze_X G bc_E_runReady cn_E 6 81 4405) (Y : ze_Ri G .int)      (v : ze_H) : ze_T G (f_E_runReady   v) v 0 [some (.inr 0), none, none, none, none, none] [] := by
  refine ze_iconst (x := (-1)) X dc_E_runReady_0 (by decide) ?_
  refine ze_istore_n X dc_E_runReady_1 rfl (by decide) (fun x1 => ?_)
  refine ze_aload_n X dc_E_runReady_2 rfl rfl ?_
  refine ze_getr X dc_E_runReady_3 zf_E_74 sh_0 rfl ?_
  refine ze_iconst (x := 0) X dc_E_runReady_6 (by decide) ?_
  refine ze_aald X dc_E_runReady_7 sh_57 rfl (fun hi2 => ?_)
  refine ze_astore_n X dc_E_runReady_8 rfl (by decide) ?_
  refine ze_iconst (x := 0) X dc_E_runReady_9 (by decide) ?_
  refine ze_istore_n X dc_E_runReady_10 rfl (by decide) (fun x3 => ?_)
  refine ze_weak [true, true, true, true, false, false] ?_
  refine w_E_runReady_L11 X Y    (58 + 1 * (Int32.toNatClampNeg 0)) (is_Exchange_at hi2) (fun x20 v21 => ?_) 200000 x1 x3 v
  refine ze_iload_n X dc_E_runReady_116 rfl rfl ?_
  exact ze_iret X Y (vp_nar_int _) dc_E_runReady_117
set_option maxHeartbeats 4000000 in
set_option maxRecDepth 100000 in
theorem c_E_runReady {l : Launch} {D : va_G} {ad : Nat → Nat} {ca : Nat → ClassId} (hD : va_D (ze_A ad) (ze_ws ze_sh ad ca (fun _ _ => 0)))       (v : ze_H) {r : Int32} {v1 : ze_H} (h : f_E_runReady   v = some (r, v1)) : ze_Mi l D ad ca my_E_runReady bc_E_runReady 6 .int 81 4405 [.inr 0] v r v1 := ze_Mi_of (plainFor_of_name (by decide)) hD (Nat.le_of_ble_eq_true rfl) (fun G e1 e2 e3 e4 X Y => w_E_runReady X Y      v) h
def f_E_send  (a1 : Int32) (a2 : Int32) (a3 : Int32) (v : ze_H) : Option (Int32 × ze_H) :=
  ze_call (f_E_isRoute  a1 v) (fun r1 v2 => (if r1 = 0 then some ((-1), v2) else ze_lev (ze_u v2 0 12 0) (fun v3 => ze_call (f_L_add  43 401 (a1 * 41) a2 a3 v3) (fun r4 v5 => ze_call (f_E_runReady   v5) (fun r6 v7 => some (r6, v7))))))
set_option maxHeartbeats 4000000 in
set_option maxRecDepth 100000 in
theorem w_E_send {G : ze_G}  (X : ze_X G bc_E_send cn_E 4 82 4430) (Y : ze_Ri G .int)    (a1 : Int32) (a2 : Int32) (a3 : Int32)  (v : ze_H) : ze_T G (f_E_send  a1 a2 a3 v) v 0 [some (.inr 0), some (.inl a1), some (.inl a2), some (.inl a3)] [] := by
  refine ze_iload_n X dc_E_send_0 rfl rfl ?_
  refine ze_callSi (As := [.inl a1]) (st := []) X dc_E_send_1 zc_E_82 (fun zr zv zh => c_E_isRoute X.2.2.2.2.2.2.1  a1  v zh) rfl (by decide) (by decide) (Nat.le_of_ble_eq_true rfl) (fun r1 v2 => ?_)
  refine ze_if_ne (tgt := 9) X dc_E_send_4 (by decide) (fun _ => ?_) (fun _ => ?_)
  · refine ze_iconst (x := (-1)) X dc_E_send_7 (by decide) ?_
    exact ze_iret X Y (vp_nar_int _) dc_E_send_8
  · refine ze_aload_n X dc_E_send_9 rfl rfl ?_
    refine ze_iconst (x := 0) X dc_E_send_10 (by decide) ?_
    refine ze_puti X dc_E_send_11 zp_E_122 sh_0 rfl (fun v3 => ?_)
    refine ze_aload_n X dc_E_send_14 rfl rfl ?_
    refine ze_getr X dc_E_send_15 zf_E_55 sh_0 rfl ?_
    refine ze_iload_n X dc_E_send_18 rfl rfl ?_
    refine ze_bipush (x := 41) X dc_E_send_19 (by decide) ?_
    refine ze_imul X dc_E_send_21 ?_
    refine ze_iload_n X dc_E_send_22 rfl rfl ?_
    refine ze_iload_n X dc_E_send_23 rfl rfl ?_
    refine ze_callVi (As := [.inl (a1 * 41), .inl a2, .inl a3]) (st := []) X dc_E_send_24 zc_E_125 is_Line_43.1 (fun zr zv zh => c_L_add X.2.2.2.2.2.2.1  43 401 (a1 * 41) a2 a3 is_Line_43 v3 zh) rfl (by decide) (by decide) (Nat.le_of_ble_eq_true rfl) (fun r4 v5 => ?_)
    refine ze_pop X dc_E_send_27 ?_
    refine ze_aload_n X dc_E_send_28 rfl rfl ?_
    refine ze_callVi (As := []) (st := []) X dc_E_send_29 zc_E_128 sh_0 (fun zr zv zh => c_E_runReady X.2.2.2.2.2.2.1    v5 zh) rfl (by decide) (by decide) (Nat.le_of_ble_eq_true rfl) (fun r6 v7 => ?_)
    exact ze_iret X Y (vp_nar_int _) dc_E_send_32
set_option maxHeartbeats 4000000 in
set_option maxRecDepth 100000 in
theorem c_E_send {l : Launch} {D : va_G} {ad : Nat → Nat} {ca : Nat → ClassId} (hD : va_D (ze_A ad) (ze_ws ze_sh ad ca (fun _ _ => 0)))     (a1 : Int32) (a2 : Int32) (a3 : Int32)  (v : ze_H) {r : Int32} {v1 : ze_H} (h : f_E_send  a1 a2 a3 v = some (r, v1)) : ze_Mi l D ad ca my_E_send bc_E_send 4 .int 82 4430 [.inr 0, .inl a1, .inl a2, .inl a3] v r v1 := ze_Mi_of (plainFor_of_name (by decide)) hD (Nat.le_of_ble_eq_true rfl) (fun G e1 e2 e3 e4 X Y => w_E_send X Y    a1 a2 a3  v) h
def f_E_work   (v : ze_H) : Option (Int32 × ze_H) :=
  (if (v 39 5) = 0 then some ((-1), v) else ze_lev (ze_u v 0 12 0) (fun v1 => ze_let (v1 39 4) (fun x2 => ze_in x2 8 (ze_in x2 8 (ze_in x2 8 (ze_call (f_L_add  43 401 (v1 40 (Int32.toNatClampNeg x2)) (v1 41 (Int32.toNatClampNeg x2)) (v1 42 (Int32.toNatClampNeg x2)) v1) (fun r3 v4 => ze_call (f_L_dropFirst  39 8 v4) (fun r5 v6 => ze_call (f_E_runReady   v6) (fun r7 v8 => some (r7, v8))))))))))
set_option maxHeartbeats 4000000 in
set_option maxRecDepth 100000 in
theorem w_E_work {G : ze_G}  (X : ze_X G bc_E_work cn_E 2 82 4430) (Y : ze_Ri G .int)      (v : ze_H) : ze_T G (f_E_work   v) v 0 [some (.inr 0), none] [] := by
  refine ze_aload_n X dc_E_work_0 rfl rfl ?_
  refine ze_getr X dc_E_work_1 zf_E_51 sh_0 rfl ?_
  refine ze_geti X dc_E_work_4 zf_E_132 is_Line_39.1 rfl ?_
  refine ze_if_ne (tgt := 12) X dc_E_work_7 (by decide) (fun _ => ?_) (fun _ => ?_)
  · refine ze_iconst (x := (-1)) X dc_E_work_10 (by decide) ?_
    exact ze_iret X Y (vp_nar_int _) dc_E_work_11
  · refine ze_aload_n X dc_E_work_12 rfl rfl ?_
    refine ze_iconst (x := 0) X dc_E_work_13 (by decide) ?_
    refine ze_puti X dc_E_work_14 zp_E_122 sh_0 rfl (fun v1 => ?_)
    refine ze_aload_n X dc_E_work_17 rfl rfl ?_
    refine ze_getr X dc_E_work_18 zf_E_51 sh_0 rfl ?_
    refine ze_geti X dc_E_work_21 zf_E_133 is_Line_39.1 rfl ?_
    refine ze_istore_n X dc_E_work_24 rfl (by decide) (fun x2 => ?_)
    refine ze_aload_n X dc_E_work_25 rfl rfl ?_
    refine ze_getr X dc_E_work_26 zf_E_55 sh_0 rfl ?_
    refine ze_aload_n X dc_E_work_29 rfl rfl ?_
    refine ze_getr X dc_E_work_30 zf_E_51 sh_0 rfl ?_
    refine ze_getr X dc_E_work_33 zf_E_136 is_Line_39.1 rfl ?_
    refine ze_iload_n X dc_E_work_36 rfl rfl ?_
    refine ze_iald X dc_E_work_37 sh_40 rfl (fun _ => ?_)
    refine ze_aload_n X dc_E_work_38 rfl rfl ?_
    refine ze_getr X dc_E_work_39 zf_E_51 sh_0 rfl ?_
    refine ze_getr X dc_E_work_42 zf_E_139 is_Line_39.1 rfl ?_
    refine ze_iload_n X dc_E_work_45 rfl rfl ?_
    refine ze_iald X dc_E_work_46 sh_41 rfl (fun _ => ?_)
    refine ze_aload_n X dc_E_work_47 rfl rfl ?_
    refine ze_getr X dc_E_work_48 zf_E_51 sh_0 rfl ?_
    refine ze_getr X dc_E_work_51 zf_E_142 is_Line_39.1 rfl ?_
    refine ze_iload_n X dc_E_work_54 rfl rfl ?_
    refine ze_iald X dc_E_work_55 sh_42 rfl (fun _ => ?_)
    refine ze_callVi (As := [.inl (v1 40 (Int32.toNatClampNeg x2)), .inl (v1 41 (Int32.toNatClampNeg x2)), .inl (v1 42 (Int32.toNatClampNeg x2))]) (st := []) X dc_E_work_56 zc_E_125 is_Line_43.1 (fun zr zv zh => c_L_add X.2.2.2.2.2.2.1  43 401 (v1 40 (Int32.toNatClampNeg x2)) (v1 41 (Int32.toNatClampNeg x2)) (v1 42 (Int32.toNatClampNeg x2)) is_Line_43 v1 zh) rfl (by decide) (by decide) (Nat.le_of_ble_eq_true rfl) (fun r3 v4 => ?_)
    refine ze_pop X dc_E_work_59 ?_
    refine ze_aload_n X dc_E_work_60 rfl rfl ?_
    refine ze_getr X dc_E_work_61 zf_E_51 sh_0 rfl ?_
    refine ze_callVv (As := []) (st := []) X dc_E_work_64 zc_E_145 is_Line_39.1 (fun zr zv zh => c_L_dropFirst X.2.2.2.2.2.2.1  39 8 is_Line_39 v4 zh) rfl (by decide) (by decide) (Nat.le_of_ble_eq_true rfl) (fun r5 v6 => ?_)
    refine ze_aload_n X dc_E_work_67 rfl rfl ?_
    refine ze_callVi (As := []) (st := []) X dc_E_work_68 zc_E_128 sh_0 (fun zr zv zh => c_E_runReady X.2.2.2.2.2.2.1    v6 zh) rfl (by decide) (by decide) (Nat.le_of_ble_eq_true rfl) (fun r7 v8 => ?_)
    exact ze_iret X Y (vp_nar_int _) dc_E_work_71
set_option maxHeartbeats 4000000 in
set_option maxRecDepth 100000 in
theorem c_E_work {l : Launch} {D : va_G} {ad : Nat → Nat} {ca : Nat → ClassId} (hD : va_D (ze_A ad) (ze_ws ze_sh ad ca (fun _ _ => 0)))       (v : ze_H) {r : Int32} {v1 : ze_H} (h : f_E_work   v = some (r, v1)) : ze_Mi l D ad ca my_E_work bc_E_work 2 .int 82 4430 [.inr 0] v r v1 := ze_Mi_of (plainFor_of_name (by decide)) hD (Nat.le_of_ble_eq_true rfl) (fun G e1 e2 e3 e4 X Y => w_E_work X Y      v) h
def f_E_pass_L53  (b1 : Int32) (b3 : Int32) (kk : Int32 → ze_H → Option (Int32 × ze_H)) : Nat → Int32 → Int32 → Int32 → ze_H → Option (Int32 × ze_H)
  | 0, _, _, _, _ => none
  | n + 1, l2, l4, l5, v =>
    (if 100000 ≤ l5 then (kk l2 v) else (if l4 = (-1) then (kk l2 v) else ze_call (f_E_release  l4 v) (fun r9 v10 => ze_let (l2 + 1) (fun x11 => ze_call (f_E_runReady   v10) (fun r12 v13 => ze_call (f_G_firstDue  (v13 0 13) v13) (fun r14 v15 => ze_let r14 (fun x16 => ze_let (l5 + 1) (fun x17 => (f_E_pass_L53  b1 b3 kk n x11 x16 x17 v15)))))))))
def f_E_pass_L22  (b1 : Int32) (kk : Int32 → ze_H → Option (Int32 × ze_H)) : Nat → Int32 → Int32 → ze_H → Option (Int32 × ze_H)
  | 0, _, _, _ => none
  | n + 1, l2, l3, v =>
    (if b1 ≤ l3 then (kk l2 v) else ze_lev (ze_u v 0 13 ((v 0 13) + 1)) (fun v4 => ze_call (f_G_firstDue  (v4 0 13) v4) (fun r5 v6 => ze_let r5 (fun x7 => ze_let 0 (fun x8 => (f_E_pass_L53  b1 l3 (fun x18 v19 => ze_let (l3 + 1) (fun x20 => (f_E_pass_L22  b1 kk n x18 x20 v19))) 200000 l2 x7 x8 v6))))))
def f_E_pass  (a1 : Int32) (v : ze_H) : Option (Int32 × ze_H) :=
  (if a1 < 1 then some ((-1), v) else (if a1 ≤ 100 then ze_lev (ze_u v 0 12 0) (fun v1 => ze_let 0 (fun x2 => ze_let 0 (fun x3 => (f_E_pass_L22  a1 (fun x21 v22 => some (x21, v22)) 200000 x2 x3 v1)))) else some ((-1), v)))
set_option maxHeartbeats 4000000 in
set_option maxRecDepth 100000 in
theorem w_E_pass_L53 {G : ze_G}  (X : ze_X G bc_E_pass cn_E 6 82 4430) (Y : ze_Ri G .int)    (b1 : Int32) (b3 : Int32)  {kk : Int32 → ze_H → Option (Int32 × ze_H)} (hkk : ∀ (l2 : Int32) (v : ze_H), ze_T G (kk l2 v) v 99 [some (.inr 0), some (.inl b1), some (.inl l2), some (.inl b3), none, none] []) : ∀ (n : Nat) (l2 : Int32) (l4 : Int32) (l5 : Int32) (v : ze_H), ze_T G (f_E_pass_L53  b1 b3 kk n l2 l4 l5 v) v 53 [some (.inr 0), some (.inl b1), some (.inl l2), some (.inl b3), some (.inl l4), some (.inl l5)] [] := by
  intro n
  induction n with
  | zero => intro l2 l4 l5 v; exact ze_none
  | succ n ih =>
    intro l2 l4 l5 v
    refine ze_iload X dc_E_pass_53 rfl ?_
    refine ze_ldc (x := 100000) X dc_E_pass_55 (by decide +kernel) ?_
    refine ze_icmp_ge (tgt := 99) X dc_E_pass_57 (by decide) (fun _ => ?_) (fun _ => ?_)
    · refine ze_weak [true, true, true, true, false, false] ?_
      exact hkk l2 v
    · refine ze_iload X dc_E_pass_60 rfl ?_
      refine ze_iconst (x := (-1)) X dc_E_pass_62 (by decide) ?_
      refine ze_icmp_eq (tgt := 99) X dc_E_pass_63 (by decide) (fun _ => ?_) (fun _ => ?_)
      · refine ze_weak [true, true, true, true, false, false] ?_
        exact hkk l2 v
      · refine ze_aload_n X dc_E_pass_66 rfl rfl ?_
        refine ze_iload X dc_E_pass_67 rfl ?_
        refine ze_callVv (As := [.inl l4]) (st := []) X dc_E_pass_69 zc_E_155 sh_0 (fun zr zv zh => c_E_release X.2.2.2.2.2.2.1  l4  v zh) rfl (by decide) (by decide) (Nat.le_of_ble_eq_true rfl) (fun r9 v10 => ?_)
        refine ze_iinc (y := 1) X dc_E_pass_72 rfl (by decide) (by decide) (fun x11 => ?_)
        refine ze_aload_n X dc_E_pass_75 rfl rfl ?_
        refine ze_callVi (As := []) (st := []) X dc_E_pass_76 zc_E_128 sh_0 (fun zr zv zh => c_E_runReady X.2.2.2.2.2.2.1    v10 zh) rfl (by decide) (by decide) (Nat.le_of_ble_eq_true rfl) (fun r12 v13 => ?_)
        refine ze_pop X dc_E_pass_79 ?_
        refine ze_aload_n X dc_E_pass_80 rfl rfl ?_
        refine ze_getr X dc_E_pass_81 zf_E_61 sh_0 rfl ?_
        refine ze_aload_n X dc_E_pass_84 rfl rfl ?_
        refine ze_geti X dc_E_pass_85 zf_E_148 sh_0 rfl ?_
        refine ze_callVi (As := [.inl (v13 0 13)]) (st := []) X dc_E_pass_88 zc_E_151 sh_47 (fun zr zv zh => c_G_firstDue X.2.2.2.2.2.2.1  (v13 0 13)  v13 zh) rfl (by decide) (by decide) (Nat.le_of_ble_eq_true rfl) (fun r14 v15 => ?_)
        refine ze_istore X dc_E_pass_91 (by decide) (fun x16 => ?_)
        refine ze_iinc (y := 1) X dc_E_pass_93 rfl (by decide) (by decide) (fun x17 => ?_)
        refine ze_goto (tgt := 53) X dc_E_pass_96 (by decide) ?_
        refine ze_weak [true, true, true, true, true, true] ?_
        exact ih x11 x16 x17 v15
set_option maxHeartbeats 4000000 in
set_option maxRecDepth 100000 in
theorem w_E_pass_L22 {G : ze_G}  (X : ze_X G bc_E_pass cn_E 6 82 4430) (Y : ze_Ri G .int)    (b1 : Int32)  {kk : Int32 → ze_H → Option (Int32 × ze_H)} (hkk : ∀ (l2 : Int32) (v : ze_H), ze_T G (kk l2 v) v 105 [none, none, some (.inl l2), none, none, none] []) : ∀ (n : Nat) (l2 : Int32) (l3 : Int32) (v : ze_H), ze_T G (f_E_pass_L22  b1 kk n l2 l3 v) v 22 [some (.inr 0), some (.inl b1), some (.inl l2), some (.inl l3), none, none] [] := by
  intro n
  induction n with
  | zero => intro l2 l3 v; exact ze_none
  | succ n ih =>
    intro l2 l3 v
    refine ze_iload_n X dc_E_pass_22 rfl rfl ?_
    refine ze_iload_n X dc_E_pass_23 rfl rfl ?_
    refine ze_icmp_ge (tgt := 105) X dc_E_pass_24 (by decide) (fun _ => ?_) (fun _ => ?_)
    · refine ze_weak [false, false, true, false, false, false] ?_
      exact hkk l2 v
    · refine ze_aload_n X dc_E_pass_27 rfl rfl ?_
      refine ze_dup X dc_E_pass_28 ?_
      refine ze_geti X dc_E_pass_29 zf_E_148 sh_0 rfl ?_
      refine ze_iconst (x := 1) X dc_E_pass_32 (by decide) ?_
      refine ze_iadd X dc_E_pass_33 ?_
      refine ze_puti X dc_E_pass_34 zp_E_148 sh_0 rfl (fun v4 => ?_)
      refine ze_aload_n X dc_E_pass_37 rfl rfl ?_
      refine ze_getr X dc_E_pass_38 zf_E_61 sh_0 rfl ?_
      refine ze_aload_n X dc_E_pass_41 rfl rfl ?_
      refine ze_geti X dc_E_pass_42 zf_E_148 sh_0 rfl ?_
      refine ze_callVi (As := [.inl (v4 0 13)]) (st := []) X dc_E_pass_45 zc_E_151 sh_47 (fun zr zv zh => c_G_firstDue X.2.2.2.2.2.2.1  (v4 0 13)  v4 zh) rfl (by decide) (by decide) (Nat.le_of_ble_eq_true rfl) (fun r5 v6 => ?_)
      refine ze_istore X dc_E_pass_48 (by decide) (fun x7 => ?_)
      refine ze_iconst (x := 0) X dc_E_pass_50 (by decide) ?_
      refine ze_istore X dc_E_pass_51 (by decide) (fun x8 => ?_)
      refine ze_weak [true, true, true, true, true, true] ?_
      refine w_E_pass_L53 X Y    b1 l3  (fun x18 v19 => ?_) 200000 l2 x7 x8 v6
      refine ze_iinc (y := 1) X dc_E_pass_99 rfl (by decide) (by decide) (fun x20 => ?_)
      refine ze_goto (tgt := 22) X dc_E_pass_102 (by decide) ?_
      refine ze_weak [true, true, true, true, false, false] ?_
      exact ih x18 x20 v19
set_option maxHeartbeats 4000000 in
set_option maxRecDepth 100000 in
theorem w_E_pass {G : ze_G}  (X : ze_X G bc_E_pass cn_E 6 82 4430) (Y : ze_Ri G .int)    (a1 : Int32)  (v : ze_H) : ze_T G (f_E_pass  a1 v) v 0 [some (.inr 0), some (.inl a1), none, none, none, none] [] := by
  refine ze_iload_n X dc_E_pass_0 rfl rfl ?_
  refine ze_iconst (x := 1) X dc_E_pass_1 (by decide) ?_
  refine ze_icmp_lt (tgt := 11) X dc_E_pass_2 (by decide) (fun _ => ?_) (fun _ => ?_)
  · refine ze_iconst (x := (-1)) X dc_E_pass_11 (by decide) ?_
    exact ze_iret X Y (vp_nar_int _) dc_E_pass_12
  · refine ze_iload_n X dc_E_pass_5 rfl rfl ?_
    refine ze_bipush (x := 100) X dc_E_pass_6 (by decide) ?_
    refine ze_icmp_le (tgt := 13) X dc_E_pass_8 (by decide) (fun _ => ?_) (fun _ => ?_)
    · refine ze_aload_n X dc_E_pass_13 rfl rfl ?_
      refine ze_iconst (x := 0) X dc_E_pass_14 (by decide) ?_
      refine ze_puti X dc_E_pass_15 zp_E_122 sh_0 rfl (fun v1 => ?_)
      refine ze_iconst (x := 0) X dc_E_pass_18 (by decide) ?_
      refine ze_istore_n X dc_E_pass_19 rfl (by decide) (fun x2 => ?_)
      refine ze_iconst (x := 0) X dc_E_pass_20 (by decide) ?_
      refine ze_istore_n X dc_E_pass_21 rfl (by decide) (fun x3 => ?_)
      refine ze_weak [true, true, true, true, false, false] ?_
      refine w_E_pass_L22 X Y    a1  (fun x21 v22 => ?_) 200000 x2 x3 v1
      refine ze_iload_n X dc_E_pass_105 rfl rfl ?_
      exact ze_iret X Y (vp_nar_int _) dc_E_pass_106
    · refine ze_iconst (x := (-1)) X dc_E_pass_11 (by decide) ?_
      exact ze_iret X Y (vp_nar_int _) dc_E_pass_12
set_option maxHeartbeats 4000000 in
set_option maxRecDepth 100000 in
theorem c_E_pass {l : Launch} {D : va_G} {ad : Nat → Nat} {ca : Nat → ClassId} (hD : va_D (ze_A ad) (ze_ws ze_sh ad ca (fun _ _ => 0)))     (a1 : Int32)  (v : ze_H) {r : Int32} {v1 : ze_H} (h : f_E_pass  a1 v = some (r, v1)) : ze_Mi l D ad ca my_E_pass bc_E_pass 6 .int 82 4430 [.inr 0, .inl a1] v r v1 := ze_Mi_of (plainFor_of_name (by decide)) hD (Nat.le_of_ble_eq_true rfl) (fun G e1 e2 e3 e4 X Y => w_E_pass X Y    a1  v) h
