def f_JM_floorMod  (a1 : Int32) (a2 : Int32) (v : ze_H) : Option (Int32 × ze_H) :=
  (if (a2 : Int32) = 0 then none else ze_let (a1 - a1 / a2 * a2) (fun x1 => (if 0 ≤ (a1 ^^^ a2) then some (x1, v) else (if x1 = 0 then some (x1, v) else some ((x1 + a2), v)))))
set_option maxHeartbeats 4000000 in
set_option maxRecDepth 100000 in
theorem w_JM_floorMod {G : ze_G}  (X : ze_X G bc_JM_floorMod cn_JM 3 0 0) (Y : ze_Ri G .int)    (a1 : Int32) (a2 : Int32)  (v : ze_H) : ze_T G (f_JM_floorMod  a1 a2 v) v 0 [some (.inl a1), some (.inl a2), none] [] := by
  refine ze_iload_n X dc_JM_floorMod_0 rfl rfl ?_
  refine ze_iload_n X dc_JM_floorMod_1 rfl rfl ?_
  refine ze_irem X dc_JM_floorMod_2 (fun _ => ?_)
  refine ze_istore_n X dc_JM_floorMod_3 rfl (by decide) (fun x1 => ?_)
  refine ze_iload_n X dc_JM_floorMod_4 rfl rfl ?_
  refine ze_iload_n X dc_JM_floorMod_5 rfl rfl ?_
  refine ze_ixor X dc_JM_floorMod_6 ?_
  refine ze_if_ge (tgt := 18) X dc_JM_floorMod_7 (by decide) (fun _ => ?_) (fun _ => ?_)
  · refine ze_iload_n X dc_JM_floorMod_18 rfl rfl ?_
    exact ze_iret X Y (vp_nar_int _) dc_JM_floorMod_19
  · refine ze_iload_n X dc_JM_floorMod_10 rfl rfl ?_
    refine ze_if_eq (tgt := 18) X dc_JM_floorMod_11 (by decide) (fun _ => ?_) (fun _ => ?_)
    · refine ze_iload_n X dc_JM_floorMod_18 rfl rfl ?_
      exact ze_iret X Y (vp_nar_int _) dc_JM_floorMod_19
    · refine ze_iload_n X dc_JM_floorMod_14 rfl rfl ?_
      refine ze_iload_n X dc_JM_floorMod_15 rfl rfl ?_
      refine ze_iadd X dc_JM_floorMod_16 ?_
      exact ze_iret X Y (vp_nar_int _) dc_JM_floorMod_17
set_option maxHeartbeats 4000000 in
set_option maxRecDepth 100000 in
theorem c_JM_floorMod {l : Launch} {D : va_G} {ad : Nat → Nat} {ca : Nat → ClassId} (hD : va_D (ze_A ad) (ze_ws ze_sh ad ca (fun _ _ => 0)))     (a1 : Int32) (a2 : Int32)  (v : ze_H) {r : Int32} {v1 : ze_H} (h : f_JM_floorMod  a1 a2 v = some (r, v1)) : ze_Mi l D ad ca my_JM_floorMod bc_JM_floorMod 3 .int 0 0 [.inl a1, .inl a2] v r v1 := ze_Mi_of (by decide +kernel) hD (Nat.le_of_ble_eq_true rfl) (fun G e1 e2 e3 e4 X Y => w_JM_floorMod X Y    a1 a2  v) h
def f_JM_floorDiv  (a1 : Int32) (a2 : Int32) (v : ze_H) : Option (Int32 × ze_H) :=
  (if (a2 : Int32) = 0 then none else ze_let (a1 / a2) (fun x1 => (if 0 ≤ (a1 ^^^ a2) then some (x1, v) else (if (x1 * a2) = a1 then some (x1, v) else some ((x1 - 1), v)))))
set_option maxHeartbeats 4000000 in
set_option maxRecDepth 100000 in
theorem w_JM_floorDiv {G : ze_G}  (X : ze_X G bc_JM_floorDiv cn_JM 3 0 0) (Y : ze_Ri G .int)    (a1 : Int32) (a2 : Int32)  (v : ze_H) : ze_T G (f_JM_floorDiv  a1 a2 v) v 0 [some (.inl a1), some (.inl a2), none] [] := by
  refine ze_iload_n X dc_JM_floorDiv_0 rfl rfl ?_
  refine ze_iload_n X dc_JM_floorDiv_1 rfl rfl ?_
  refine ze_idiv X dc_JM_floorDiv_2 (fun _ => ?_)
  refine ze_istore_n X dc_JM_floorDiv_3 rfl (by decide) (fun x1 => ?_)
  refine ze_iload_n X dc_JM_floorDiv_4 rfl rfl ?_
  refine ze_iload_n X dc_JM_floorDiv_5 rfl rfl ?_
  refine ze_ixor X dc_JM_floorDiv_6 ?_
  refine ze_if_ge (tgt := 21) X dc_JM_floorDiv_7 (by decide) (fun _ => ?_) (fun _ => ?_)
  · refine ze_iload_n X dc_JM_floorDiv_21 rfl rfl ?_
    exact ze_iret X Y (vp_nar_int _) dc_JM_floorDiv_22
  · refine ze_iload_n X dc_JM_floorDiv_10 rfl rfl ?_
    refine ze_iload_n X dc_JM_floorDiv_11 rfl rfl ?_
    refine ze_imul X dc_JM_floorDiv_12 ?_
    refine ze_iload_n X dc_JM_floorDiv_13 rfl rfl ?_
    refine ze_icmp_eq (tgt := 21) X dc_JM_floorDiv_14 (by decide) (fun _ => ?_) (fun _ => ?_)
    · refine ze_iload_n X dc_JM_floorDiv_21 rfl rfl ?_
      exact ze_iret X Y (vp_nar_int _) dc_JM_floorDiv_22
    · refine ze_iload_n X dc_JM_floorDiv_17 rfl rfl ?_
      refine ze_iconst (x := 1) X dc_JM_floorDiv_18 (by decide) ?_
      refine ze_isub X dc_JM_floorDiv_19 ?_
      exact ze_iret X Y (vp_nar_int _) dc_JM_floorDiv_20
set_option maxHeartbeats 4000000 in
set_option maxRecDepth 100000 in
theorem c_JM_floorDiv {l : Launch} {D : va_G} {ad : Nat → Nat} {ca : Nat → ClassId} (hD : va_D (ze_A ad) (ze_ws ze_sh ad ca (fun _ _ => 0)))     (a1 : Int32) (a2 : Int32)  (v : ze_H) {r : Int32} {v1 : ze_H} (h : f_JM_floorDiv  a1 a2 v = some (r, v1)) : ze_Mi l D ad ca my_JM_floorDiv bc_JM_floorDiv 3 .int 0 0 [.inl a1, .inl a2] v r v1 := ze_Mi_of (by decide +kernel) hD (Nat.le_of_ble_eq_true rfl) (fun G e1 e2 e3 e4 X Y => w_JM_floorDiv X Y    a1 a2  v) h
def f_JA_fill_L5  (k0 : Nat) (b1 : Int32) (b3 : Int32) (kk : ze_H → Option (Int32 × ze_H)) : Nat → Int32 → ze_H → Option (Int32 × ze_H)
  | 0, _, _ => none
  | n + 1, l2, v =>
    (if b3 ≤ l2 then (kk  v) else ze_in l2 164 (ze_lev (ze_u v k0 (Int32.toNatClampNeg l2) b1) (fun v3 => ze_let (l2 + 1) (fun x4 => (f_JA_fill_L5  k0 b1 b3 kk n x4 v3)))))
def f_JA_fill  (a1 : Nat) (a2 : Int32) (v : ze_H) : Option (Int32 × ze_H) :=
  ze_let 0 (fun x1 => ze_let (Int32.ofNat 164) (fun x2 => (f_JA_fill_L5  a1 a2 x2 (fun  v5 => some (0, v5)) 200000 x1 v)))
set_option maxHeartbeats 4000000 in
set_option maxRecDepth 100000 in
theorem w_JA_fill_L5 {G : ze_G}  (X : ze_X G bc_JA_fill cn_JA 4 0 0) (Y : ze_Rv G)    (k0 : Nat) (b1 : Int32) (b3 : Int32) (hk0 : ze_sh[k0]? = some (.inl (0, 164, none))) {kk : ze_H → Option (Int32 × ze_H)} (hkk : ∀ (v : ze_H), ze_T G (kk  v) v 20 [none, none, none, none] []) : ∀ (n : Nat) (l2 : Int32) (v : ze_H), ze_T G (f_JA_fill_L5  k0 b1 b3 kk n l2 v) v 5 [some (.inr k0), some (.inl b1), some (.inl l2), some (.inl b3)] [] := by
  intro n
  induction n with
  | zero => intro l2 v; exact ze_none
  | succ n ih =>
    intro l2 v
    refine ze_iload_n X dc_JA_fill_5 rfl rfl ?_
    refine ze_iload_n X dc_JA_fill_6 rfl rfl ?_
    refine ze_icmp_ge (tgt := 20) X dc_JA_fill_7 (by decide) (fun _ => ?_) (fun _ => ?_)
    · refine ze_weak [false, false, false, false] ?_
      exact hkk  v
    · refine ze_aload_n X dc_JA_fill_10 rfl rfl ?_
      refine ze_iload_n X dc_JA_fill_11 rfl rfl ?_
      refine ze_iload_n X dc_JA_fill_12 rfl rfl ?_
      refine ze_iast X dc_JA_fill_13 hk0 rfl (fun v3 _ => ?_)
      refine ze_iinc (y := 1) X dc_JA_fill_14 rfl (by decide) (by decide) (fun x4 => ?_)
      refine ze_goto (tgt := 5) X dc_JA_fill_17 (by decide) ?_
      refine ze_weak [true, true, true, true] ?_
      exact ih x4 v3
set_option maxHeartbeats 4000000 in
set_option maxRecDepth 100000 in
theorem w_JA_fill {G : ze_G}  (X : ze_X G bc_JA_fill cn_JA 4 0 0) (Y : ze_Rv G)    (a1 : Nat) (a2 : Int32) (ha1 : ze_sh[a1]? = some (.inl (0, 164, none))) (v : ze_H) : ze_T G (f_JA_fill  a1 a2 v) v 0 [some (.inr a1), some (.inl a2), none, none] [] := by
  refine ze_iconst (x := 0) X dc_JA_fill_0 (by decide) ?_
  refine ze_istore_n X dc_JA_fill_1 rfl (by decide) (fun x1 => ?_)
  refine ze_aload_n X dc_JA_fill_2 rfl rfl ?_
  refine ze_alen X dc_JA_fill_3 ha1 rfl ?_
  refine ze_istore_n X dc_JA_fill_4 rfl (by decide) (fun x2 => ?_)
  refine ze_weak [true, true, true, true] ?_
  refine w_JA_fill_L5 X Y    a1 a2 x2 ha1 (fun  v5 => ?_) 200000 x1 v
  exact ze_vret X Y dc_JA_fill_20
set_option maxHeartbeats 4000000 in
set_option maxRecDepth 100000 in
theorem c_JA_fill {l : Launch} {D : va_G} {ad : Nat → Nat} {ca : Nat → ClassId} (hD : va_D (ze_A ad) (ze_ws ze_sh ad ca (fun _ _ => 0)))     (a1 : Nat) (a2 : Int32) (ha1 : ze_sh[a1]? = some (.inl (0, 164, none))) (v : ze_H) {r : Int32} {v1 : ze_H} (h : f_JA_fill  a1 a2 v = some (r, v1)) : ze_Mv l D ad ca my_JA_fill bc_JA_fill 4 0 0 [.inr a1, .inl a2] v v1 := ze_Mv_of (plainFor_of_name (by decide)) hD (Nat.le_of_ble_eq_true rfl) (fun G e1 e2 e3 e4 X Y => w_JA_fill X Y    a1 a2 ha1 v) h
def f_P_at  (k0 : Nat) (a1 : Int32) (v : ze_H) : Option (Int32 × ze_H) :=
  (if a1 < 0 then ze_rc 0 v else (if 164 ≤ a1 then ze_rc 0 v else ze_in a1 164 (ze_rc (v (k0 + 1) (Int32.toNatClampNeg a1)) v)))
set_option maxHeartbeats 4000000 in
set_option maxRecDepth 100000 in
theorem w_P_at {G : ze_G}  (X : ze_X G bc_P_at cn_P 2 0 0) (Y : ze_Ri G .char)    (k0 : Nat) (a1 : Int32) (hk0 : ze_isProgram k0) (v : ze_H) : ze_T G (f_P_at  k0 a1 v) v 0 [some (.inr k0), some (.inl a1)] [] := by
  refine ze_iload_n X dc_P_at_0 rfl rfl ?_
  refine ze_if_lt (tgt := 20) X dc_P_at_1 (by decide) (fun _ => ?_) (fun _ => ?_)
  · refine ze_iconst (x := 0) X dc_P_at_20 (by decide) ?_
    exact ze_cret X Y dc_P_at_21
  · refine ze_iload_n X dc_P_at_4 rfl rfl ?_
    refine ze_sipush (x := 164) X dc_P_at_5 (by decide) ?_
    refine ze_icmp_ge (tgt := 20) X dc_P_at_8 (by decide) (fun _ => ?_) (fun _ => ?_)
    · refine ze_iconst (x := 0) X dc_P_at_20 (by decide) ?_
      exact ze_cret X Y dc_P_at_21
    · refine ze_aload_n X dc_P_at_11 rfl rfl ?_
      refine ze_getr X dc_P_at_12 zf_P_9 hk0.1 rfl ?_
      refine ze_iload_n X dc_P_at_15 rfl rfl ?_
      refine ze_cald X dc_P_at_16 hk0.2.1 rfl (fun _ => ?_)
      refine ze_goto (tgt := 21) X dc_P_at_17 (by decide) ?_
      exact ze_cret X Y dc_P_at_21
set_option maxHeartbeats 4000000 in
set_option maxRecDepth 100000 in
theorem c_P_at {l : Launch} {D : va_G} {ad : Nat → Nat} {ca : Nat → ClassId} (hD : va_D (ze_A ad) (ze_ws ze_sh ad ca (fun _ _ => 0)))     (k0 : Nat) (a1 : Int32) (hk0 : ze_isProgram k0) (v : ze_H) {r : Int32} {v1 : ze_H} (h : f_P_at  k0 a1 v = some (r, v1)) : ze_Mi l D ad ca my_P_at bc_P_at 2 .char 0 0 [.inr k0, .inl a1] v r v1 := ze_Mi_of (plainFor_of_name (by decide)) hD (Nat.le_of_ble_eq_true rfl) (fun G e1 e2 e3 e4 X Y => w_P_at X Y    k0 a1 hk0 v) h
def f_P_isStep  (k0 : Nat) (a1 : Int32) (v : ze_H) : Option (Int32 × ze_H) :=
  ze_call (f_P_at  k0 a1 v) (fun r1 v2 => (if r1 = 0 then some (0, v2) else ze_call (f_P_at  k0 a1 v2) (fun r3 v4 => (if r3 = 41 then some (0, v4) else some (1, v4)))))
set_option maxHeartbeats 4000000 in
set_option maxRecDepth 100000 in
theorem w_P_isStep {G : ze_G}  (X : ze_X G bc_P_isStep cn_P 2 1 21) (Y : ze_Ri G .boolean)    (k0 : Nat) (a1 : Int32) (hk0 : ze_isProgram k0) (v : ze_H) : ze_T G (f_P_isStep  k0 a1 v) v 0 [some (.inr k0), some (.inl a1)] [] := by
  refine ze_aload_n X dc_P_isStep_0 rfl rfl ?_
  refine ze_iload_n X dc_P_isStep_1 rfl rfl ?_
  refine ze_callVi (As := [.inl a1]) (st := []) X dc_P_isStep_2 zc_P_31 hk0.1 (fun zr zv zh => c_P_at X.2.2.2.2.2.2.1  k0 a1 hk0 v zh) rfl (by decide) (by decide) (Nat.le_of_ble_eq_true rfl) (fun r1 v2 => ?_)
  refine ze_if_eq (tgt := 22) X dc_P_isStep_5 (by decide) (fun _ => ?_) (fun _ => ?_)
  · refine ze_iconst (x := 0) X dc_P_isStep_22 (by decide) ?_
    exact ze_iret X Y rfl dc_P_isStep_23
  · refine ze_aload_n X dc_P_isStep_8 rfl rfl ?_
    refine ze_iload_n X dc_P_isStep_9 rfl rfl ?_
    refine ze_callVi (As := [.inl a1]) (st := []) X dc_P_isStep_10 zc_P_31 hk0.1 (fun zr zv zh => c_P_at X.2.2.2.2.2.2.1  k0 a1 hk0 v2 zh) rfl (by decide) (by decide) (Nat.le_of_ble_eq_true rfl) (fun r3 v4 => ?_)
    refine ze_bipush (x := 41) X dc_P_isStep_13 (by decide) ?_
    refine ze_icmp_eq (tgt := 22) X dc_P_isStep_15 (by decide) (fun _ => ?_) (fun _ => ?_)
    · refine ze_iconst (x := 0) X dc_P_isStep_22 (by decide) ?_
      exact ze_iret X Y rfl dc_P_isStep_23
    · refine ze_iconst (x := 1) X dc_P_isStep_18 (by decide) ?_
      refine ze_goto (tgt := 23) X dc_P_isStep_19 (by decide) ?_
      exact ze_iret X Y rfl dc_P_isStep_23
set_option maxHeartbeats 4000000 in
set_option maxRecDepth 100000 in
theorem c_P_isStep {l : Launch} {D : va_G} {ad : Nat → Nat} {ca : Nat → ClassId} (hD : va_D (ze_A ad) (ze_ws ze_sh ad ca (fun _ _ => 0)))     (k0 : Nat) (a1 : Int32) (hk0 : ze_isProgram k0) (v : ze_H) {r : Int32} {v1 : ze_H} (h : f_P_isStep  k0 a1 v = some (r, v1)) : ze_Mi l D ad ca my_P_isStep bc_P_isStep 2 .boolean 1 21 [.inr k0, .inl a1] v r v1 := ze_Mi_of (plainFor_of_name (by decide)) hD (Nat.le_of_ble_eq_true rfl) (fun G e1 e2 e3 e4 X Y => w_P_isStep X Y    k0 a1 hk0 v) h
def f_P_holds_J23  (k0 : Nat) (b2 : Int32) (s0 : Int32) (v : ze_H) : Option (Int32 × ze_H) :=
  ze_let s0 (fun x3 => ze_in b2 164 (ze_let (v (k0 + 2) (Int32.toNatClampNeg b2)) (fun x4 => ze_call (f_P_at  k0 (b2 + 2) v) (fun r5 v6 => (if r5 = 60 then (if x4 ≤ x3 then some (0, v6) else some (1, v6)) else (if r5 = 61 then (if x3 = x4 then some (1, v6) else some (0, v6)) else (if r5 = 62 then (if x3 ≤ x4 then some (0, v6) else some (1, v6)) else (if x4 = 0 then some (0, v6) else (if (x4 : Int32) = 0 then none else (if (x3 - x3 / x4 * x4) = 0 then some (1, v6) else some (0, v6)))))))))))
def f_P_holds  (k0 : Nat) (a1 : Nat) (a2 : Int32) (v : ze_H) : Option (Int32 × ze_H) :=
  ze_call (f_P_at  k0 (a2 + 1) v) (fun r1 v2 => (if r1 = 98 then (f_P_holds_J23  k0 a2 (v2 a1 0) v2) else (f_P_holds_J23  k0 a2 (v2 a1 1) v2)))
set_option maxHeartbeats 4000000 in
set_option maxRecDepth 100000 in
theorem w_P_holds_J23 {G : ze_G}  (X : ze_X G bc_P_holds cn_P 5 1 21) (Y : ze_Ri G .boolean)    (k0 : Nat) (b2 : Int32) (s0 : Int32) (hk0 : ze_isProgram k0) (v : ze_H) : ze_T G (f_P_holds_J23  k0 b2 s0 v) v 23 [some (.inr k0), none, some (.inl b2), none, none] [.inl s0] := by
  refine ze_istore_n X dc_P_holds_23 rfl (by decide) (fun x3 => ?_)
  refine ze_aload_n X dc_P_holds_24 rfl rfl ?_
  refine ze_getr X dc_P_holds_25 zf_P_15 hk0.1 rfl ?_
  refine ze_iload_n X dc_P_holds_28 rfl rfl ?_
  refine ze_iald X dc_P_holds_29 hk0.2.2.1 rfl (fun _ => ?_)
  refine ze_istore X dc_P_holds_30 (by decide) (fun x4 => ?_)
  refine ze_aload_n X dc_P_holds_32 rfl rfl ?_
  refine ze_iload_n X dc_P_holds_33 rfl rfl ?_
  refine ze_iconst (x := 2) X dc_P_holds_34 (by decide) ?_
  refine ze_iadd X dc_P_holds_35 ?_
  refine ze_callVi (As := [.inl (b2 + 2)]) (st := []) X dc_P_holds_36 zc_P_31 hk0.1 (fun zr zv zh => c_P_at X.2.2.2.2.2.2.1  k0 (b2 + 2) hk0 v zh) rfl (by decide) (by decide) (Nat.le_of_ble_eq_true rfl) (fun r5 v6 => ?_)
  refine ze_if (c := r5 = 60) (fun hq => ?_) (fun hn7 => ?_)
  · refine ze_tabI (off := 25) (tgt := 64) X dc_P_holds_39 (by rw [hq]; decide) (by rw [hq]; decide) (by rw [hq]; rfl) (by decide) ?_
    refine ze_iload_n X dc_P_holds_64 rfl rfl ?_
    refine ze_iload X dc_P_holds_65 rfl ?_
    refine ze_icmp_ge (tgt := 74) X dc_P_holds_67 (by decide) (fun _ => ?_) (fun _ => ?_)
    · refine ze_iconst (x := 0) X dc_P_holds_74 (by decide) ?_
      exact ze_iret X Y rfl dc_P_holds_75
    · refine ze_iconst (x := 1) X dc_P_holds_70 (by decide) ?_
      refine ze_goto (tgt := 75) X dc_P_holds_71 (by decide) ?_
      exact ze_iret X Y rfl dc_P_holds_75
  refine ze_if (c := r5 = 61) (fun hq => ?_) (fun hn8 => ?_)
  · refine ze_tabI (off := 49) (tgt := 88) X dc_P_holds_39 (by rw [hq]; decide) (by rw [hq]; decide) (by rw [hq]; rfl) (by decide) ?_
    refine ze_iload_n X dc_P_holds_88 rfl rfl ?_
    refine ze_iload X dc_P_holds_89 rfl ?_
    refine ze_icmp_ne (tgt := 98) X dc_P_holds_91 (by decide) (fun _ => ?_) (fun _ => ?_)
    · refine ze_iconst (x := 1) X dc_P_holds_94 (by decide) ?_
      refine ze_goto (tgt := 99) X dc_P_holds_95 (by decide) ?_
      exact ze_iret X Y rfl dc_P_holds_99
    · refine ze_iconst (x := 0) X dc_P_holds_98 (by decide) ?_
      exact ze_iret X Y rfl dc_P_holds_99
  refine ze_if (c := r5 = 62) (fun hq => ?_) (fun hn9 => ?_)
  · refine ze_tabI (off := 37) (tgt := 76) X dc_P_holds_39 (by rw [hq]; decide) (by rw [hq]; decide) (by rw [hq]; rfl) (by decide) ?_
    refine ze_iload_n X dc_P_holds_76 rfl rfl ?_
    refine ze_iload X dc_P_holds_77 rfl ?_
    refine ze_icmp_le (tgt := 86) X dc_P_holds_79 (by decide) (fun _ => ?_) (fun _ => ?_)
    · refine ze_iconst (x := 0) X dc_P_holds_86 (by decide) ?_
      exact ze_iret X Y rfl dc_P_holds_87
    · refine ze_iconst (x := 1) X dc_P_holds_82 (by decide) ?_
      refine ze_goto (tgt := 87) X dc_P_holds_83 (by decide) ?_
      exact ze_iret X Y rfl dc_P_holds_87
  refine ze_tabO (tgt := 100) X dc_P_holds_39 (by have q0 := lv_neT (a := 60) hn7 (by decide); have q1 := lv_neT (a := 61) hn8 (by decide); have q2 := lv_neT (a := 62) hn9 (by decide); omega) (by decide) ?_
  refine ze_iload X dc_P_holds_100 rfl ?_
  refine ze_if_eq (tgt := 116) X dc_P_holds_102 (by decide) (fun _ => ?_) (fun _ => ?_)
  · refine ze_iconst (x := 0) X dc_P_holds_116 (by decide) ?_
    exact ze_iret X Y rfl dc_P_holds_117
  · refine ze_iload_n X dc_P_holds_105 rfl rfl ?_
    refine ze_iload X dc_P_holds_106 rfl ?_
    refine ze_irem X dc_P_holds_108 (fun _ => ?_)
    refine ze_if_ne (tgt := 116) X dc_P_holds_109 (by decide) (fun _ => ?_) (fun _ => ?_)
    · refine ze_iconst (x := 1) X dc_P_holds_112 (by decide) ?_
      refine ze_goto (tgt := 117) X dc_P_holds_113 (by decide) ?_
      exact ze_iret X Y rfl dc_P_holds_117
    · refine ze_iconst (x := 0) X dc_P_holds_116 (by decide) ?_
      exact ze_iret X Y rfl dc_P_holds_117
set_option maxHeartbeats 4000000 in
set_option maxRecDepth 100000 in
theorem w_P_holds {G : ze_G}  (X : ze_X G bc_P_holds cn_P 5 1 21) (Y : ze_Ri G .boolean)    (k0 : Nat) (a1 : Nat) (a2 : Int32) (hk0 : ze_isProgram k0) (ha1 : ze_isExchange a1) (v : ze_H) : ze_T G (f_P_holds  k0 a1 a2 v) v 0 [some (.inr k0), some (.inr a1), some (.inl a2), none, none] [] := by
  refine ze_aload_n X dc_P_holds_0 rfl rfl ?_
  refine ze_iload_n X dc_P_holds_1 rfl rfl ?_
  refine ze_iconst (x := 1) X dc_P_holds_2 (by decide) ?_
  refine ze_iadd X dc_P_holds_3 ?_
  refine ze_callVi (As := [.inl (a2 + 1)]) (st := []) X dc_P_holds_4 zc_P_31 hk0.1 (fun zr zv zh => c_P_at X.2.2.2.2.2.2.1  k0 (a2 + 1) hk0 v zh) rfl (by decide) (by decide) (Nat.le_of_ble_eq_true rfl) (fun r1 v2 => ?_)
  refine ze_bipush (x := 98) X dc_P_holds_7 (by decide) ?_
  refine ze_icmp_ne (tgt := 19) X dc_P_holds_9 (by decide) (fun _ => ?_) (fun _ => ?_)
  · refine ze_aload_n X dc_P_holds_12 rfl rfl ?_
    refine ze_geti X dc_P_holds_13 zf_P_35 ha1 rfl ?_
    refine ze_goto (tgt := 23) X dc_P_holds_16 (by decide) ?_
    refine ze_weak [true, false, true, false, false] ?_
    exact w_P_holds_J23 X Y    k0 a2 (v2 a1 0) hk0 v2
  · refine ze_aload_n X dc_P_holds_19 rfl rfl ?_
    refine ze_geti X dc_P_holds_20 zf_P_41 ha1 rfl ?_
    refine ze_weak [true, false, true, false, false] ?_
    exact w_P_holds_J23 X Y    k0 a2 (v2 a1 1) hk0 v2
set_option maxHeartbeats 4000000 in
set_option maxRecDepth 100000 in
theorem c_P_holds {l : Launch} {D : va_G} {ad : Nat → Nat} {ca : Nat → ClassId} (hD : va_D (ze_A ad) (ze_ws ze_sh ad ca (fun _ _ => 0)))     (k0 : Nat) (a1 : Nat) (a2 : Int32) (hk0 : ze_isProgram k0) (ha1 : ze_isExchange a1) (v : ze_H) {r : Int32} {v1 : ze_H} (h : f_P_holds  k0 a1 a2 v = some (r, v1)) : ze_Mi l D ad ca my_P_holds bc_P_holds 5 .boolean 1 21 [.inr k0, .inr a1, .inl a2] v r v1 := ze_Mi_of (plainFor_of_name (by decide)) hD (Nat.le_of_ble_eq_true rfl) (fun G e1 e2 e3 e4 X Y => w_P_holds X Y    k0 a1 a2 hk0 ha1 v) h
def f_P_listFor  (k0 : Nat) (a1 : Nat) (a2 : Int32) (v : ze_H) : Option (Int32 × ze_H) :=
  ze_call (f_P_holds  k0 a1 a2 v) (fun r1 v2 => (if r1 = 0 then ze_in a2 164 (some ((v2 (k0 + 5) (Int32.toNatClampNeg a2)), v2)) else ze_in a2 164 (some ((v2 (k0 + 4) (Int32.toNatClampNeg a2)), v2))))
set_option maxHeartbeats 4000000 in
set_option maxRecDepth 100000 in
theorem w_P_listFor {G : ze_G}  (X : ze_X G bc_P_listFor cn_P 3 2 45) (Y : ze_Ri G .int)    (k0 : Nat) (a1 : Nat) (a2 : Int32) (hk0 : ze_isProgram k0) (ha1 : ze_isExchange a1) (v : ze_H) : ze_T G (f_P_listFor  k0 a1 a2 v) v 0 [some (.inr k0), some (.inr a1), some (.inl a2)] [] := by
  refine ze_aload_n X dc_P_listFor_0 rfl rfl ?_
  refine ze_aload_n X dc_P_listFor_1 rfl rfl ?_
  refine ze_iload_n X dc_P_listFor_2 rfl rfl ?_
  refine ze_callVi (As := [.inr a1, .inl a2]) (st := []) X dc_P_listFor_3 zc_P_44 hk0.1 (fun zr zv zh => c_P_holds X.2.2.2.2.2.2.1  k0 a1 a2 hk0 ha1 v zh) rfl (by decide) (by decide) (Nat.le_of_ble_eq_true rfl) (fun r1 v2 => ?_)
  refine ze_if_eq (tgt := 18) X dc_P_listFor_6 (by decide) (fun _ => ?_) (fun _ => ?_)
  · refine ze_aload_n X dc_P_listFor_18 rfl rfl ?_
    refine ze_getr X dc_P_listFor_19 zf_P_25 hk0.1 rfl ?_
    refine ze_iload_n X dc_P_listFor_22 rfl rfl ?_
    refine ze_iald X dc_P_listFor_23 hk0.2.2.2.2.2.1 rfl (fun _ => ?_)
    exact ze_iret X Y (vp_nar_int _) dc_P_listFor_24
  · refine ze_aload_n X dc_P_listFor_9 rfl rfl ?_
    refine ze_getr X dc_P_listFor_10 zf_P_22 hk0.1 rfl ?_
    refine ze_iload_n X dc_P_listFor_13 rfl rfl ?_
    refine ze_iald X dc_P_listFor_14 hk0.2.2.2.2.1 rfl (fun _ => ?_)
    refine ze_goto (tgt := 24) X dc_P_listFor_15 (by decide) ?_
    exact ze_iret X Y (vp_nar_int _) dc_P_listFor_24
set_option maxHeartbeats 4000000 in
set_option maxRecDepth 100000 in
theorem c_P_listFor {l : Launch} {D : va_G} {ad : Nat → Nat} {ca : Nat → ClassId} (hD : va_D (ze_A ad) (ze_ws ze_sh ad ca (fun _ _ => 0)))     (k0 : Nat) (a1 : Nat) (a2 : Int32) (hk0 : ze_isProgram k0) (ha1 : ze_isExchange a1) (v : ze_H) {r : Int32} {v1 : ze_H} (h : f_P_listFor  k0 a1 a2 v = some (r, v1)) : ze_Mi l D ad ca my_P_listFor bc_P_listFor 3 .int 2 45 [.inr k0, .inr a1, .inl a2] v r v1 := ze_Mi_of (plainFor_of_name (by decide)) hD (Nat.le_of_ble_eq_true rfl) (fun G e1 e2 e3 e4 X Y => w_P_listFor X Y    k0 a1 a2 hk0 ha1 v) h
def f_P_copyFrom  (k0 : Nat) (a1 : Nat) (v : ze_H) : Option (Int32 × ze_H) :=
  ze_cpcT v (a1 + 1) 164 (k0 + 1) 164 0 0 164 (fun v1 => ze_cpyT v1 (a1 + 2) 164 (k0 + 2) 164 0 0 164 (fun v2 => ze_cpyT v2 (a1 + 3) 164 (k0 + 3) 164 0 0 164 (fun v3 => ze_cpyT v3 (a1 + 4) 164 (k0 + 4) 164 0 0 164 (fun v4 => ze_cpyT v4 (a1 + 5) 164 (k0 + 5) 164 0 0 164 (fun v5 => ze_cpyT v5 (a1 + 6) 164 (k0 + 6) 164 0 0 164 (fun v6 => some (0, v6)))))))
set_option maxHeartbeats 4000000 in
set_option maxRecDepth 100000 in
theorem w_P_copyFrom {G : ze_G}  (X : ze_X G bc_P_copyFrom cn_P 2 1 60) (Y : ze_Rv G)    (k0 : Nat) (a1 : Nat) (hk0 : ze_isProgram k0) (ha1 : ze_isProgram a1) (v : ze_H) : ze_T G (f_P_copyFrom  k0 a1 v) v 0 [some (.inr k0), some (.inr a1)] [] := by
  refine ze_aload_n X dc_P_copyFrom_0 rfl rfl ?_
  refine ze_getr X dc_P_copyFrom_1 zf_P_9 ha1.1 rfl ?_
  refine ze_iconst (x := 0) X dc_P_copyFrom_4 (by decide) ?_
  refine ze_aload_n X dc_P_copyFrom_5 rfl rfl ?_
  refine ze_getr X dc_P_copyFrom_6 zf_P_9 hk0.1 rfl ?_
  refine ze_iconst (x := 0) X dc_P_copyFrom_9 (by decide) ?_
  refine ze_sipush (x := 164) X dc_P_copyFrom_10 (by decide) ?_
  refine ze_cpyc X dc_P_copyFrom_13 za_P_48 ha1.2.1 hk0.2.1 rfl rfl (by decide) (by decide) (Nat.le_of_ble_eq_true rfl) (fun v1 => ?_)
  refine ze_aload_n X dc_P_copyFrom_16 rfl rfl ?_
  refine ze_getr X dc_P_copyFrom_17 zf_P_15 ha1.1 rfl ?_
  refine ze_iconst (x := 0) X dc_P_copyFrom_20 (by decide) ?_
  refine ze_aload_n X dc_P_copyFrom_21 rfl rfl ?_
  refine ze_getr X dc_P_copyFrom_22 zf_P_15 hk0.1 rfl ?_
  refine ze_iconst (x := 0) X dc_P_copyFrom_25 (by decide) ?_
  refine ze_sipush (x := 164) X dc_P_copyFrom_26 (by decide) ?_
  refine ze_cpy X dc_P_copyFrom_29 za_P_48 ha1.2.2.1 hk0.2.2.1 rfl rfl (by decide) (by decide) (Nat.le_of_ble_eq_true rfl) (fun v2 => ?_)
  refine ze_aload_n X dc_P_copyFrom_32 rfl rfl ?_
  refine ze_getr X dc_P_copyFrom_33 zf_P_19 ha1.1 rfl ?_
  refine ze_iconst (x := 0) X dc_P_copyFrom_36 (by decide) ?_
  refine ze_aload_n X dc_P_copyFrom_37 rfl rfl ?_
  refine ze_getr X dc_P_copyFrom_38 zf_P_19 hk0.1 rfl ?_
  refine ze_iconst (x := 0) X dc_P_copyFrom_41 (by decide) ?_
  refine ze_sipush (x := 164) X dc_P_copyFrom_42 (by decide) ?_
  refine ze_cpy X dc_P_copyFrom_45 za_P_48 ha1.2.2.2.1 hk0.2.2.2.1 rfl rfl (by decide) (by decide) (Nat.le_of_ble_eq_true rfl) (fun v3 => ?_)
  refine ze_aload_n X dc_P_copyFrom_48 rfl rfl ?_
  refine ze_getr X dc_P_copyFrom_49 zf_P_22 ha1.1 rfl ?_
  refine ze_iconst (x := 0) X dc_P_copyFrom_52 (by decide) ?_
  refine ze_aload_n X dc_P_copyFrom_53 rfl rfl ?_
  refine ze_getr X dc_P_copyFrom_54 zf_P_22 hk0.1 rfl ?_
  refine ze_iconst (x := 0) X dc_P_copyFrom_57 (by decide) ?_
  refine ze_sipush (x := 164) X dc_P_copyFrom_58 (by decide) ?_
  refine ze_cpy X dc_P_copyFrom_61 za_P_48 ha1.2.2.2.2.1 hk0.2.2.2.2.1 rfl rfl (by decide) (by decide) (Nat.le_of_ble_eq_true rfl) (fun v4 => ?_)
  refine ze_aload_n X dc_P_copyFrom_64 rfl rfl ?_
  refine ze_getr X dc_P_copyFrom_65 zf_P_25 ha1.1 rfl ?_
  refine ze_iconst (x := 0) X dc_P_copyFrom_68 (by decide) ?_
  refine ze_aload_n X dc_P_copyFrom_69 rfl rfl ?_
  refine ze_getr X dc_P_copyFrom_70 zf_P_25 hk0.1 rfl ?_
  refine ze_iconst (x := 0) X dc_P_copyFrom_73 (by decide) ?_
  refine ze_sipush (x := 164) X dc_P_copyFrom_74 (by decide) ?_
  refine ze_cpy X dc_P_copyFrom_77 za_P_48 ha1.2.2.2.2.2.1 hk0.2.2.2.2.2.1 rfl rfl (by decide) (by decide) (Nat.le_of_ble_eq_true rfl) (fun v5 => ?_)
  refine ze_aload_n X dc_P_copyFrom_80 rfl rfl ?_
  refine ze_getr X dc_P_copyFrom_81 zf_P_28 ha1.1 rfl ?_
  refine ze_iconst (x := 0) X dc_P_copyFrom_84 (by decide) ?_
  refine ze_aload_n X dc_P_copyFrom_85 rfl rfl ?_
  refine ze_getr X dc_P_copyFrom_86 zf_P_28 hk0.1 rfl ?_
  refine ze_iconst (x := 0) X dc_P_copyFrom_89 (by decide) ?_
  refine ze_sipush (x := 164) X dc_P_copyFrom_90 (by decide) ?_
  refine ze_cpy X dc_P_copyFrom_93 za_P_48 ha1.2.2.2.2.2.2 hk0.2.2.2.2.2.2 rfl rfl (by decide) (by decide) (Nat.le_of_ble_eq_true rfl) (fun v6 => ?_)
  exact ze_vret X Y dc_P_copyFrom_96
set_option maxHeartbeats 4000000 in
set_option maxRecDepth 100000 in
theorem c_P_copyFrom {l : Launch} {D : va_G} {ad : Nat → Nat} {ca : Nat → ClassId} (hD : va_D (ze_A ad) (ze_ws ze_sh ad ca (fun _ _ => 0)))     (k0 : Nat) (a1 : Nat) (hk0 : ze_isProgram k0) (ha1 : ze_isProgram a1) (v : ze_H) {r : Int32} {v1 : ze_H} (h : f_P_copyFrom  k0 a1 v = some (r, v1)) : ze_Mv l D ad ca my_P_copyFrom bc_P_copyFrom 2 1 60 [.inr k0, .inr a1] v v1 := ze_Mv_of (plainFor_of_name (by decide)) hD (Nat.le_of_ble_eq_true rfl) (fun G e1 e2 e3 e4 X Y => w_P_copyFrom X Y    k0 a1 hk0 ha1 v) h
def f_L_add  (k0 : Nat) (n0 : Nat) (a1 : Int32) (a2 : Int32) (a3 : Int32) (v : ze_H) : Option (Int32 × ze_H) :=
  (if (v k0 5) < (v k0 0) then (if ((v k0 0) : Int32) = 0 then none else ze_let (((v k0 4) + (v k0 5)) - ((v k0 4) + (v k0 5)) / (v k0 0) * (v k0 0)) (fun x1 => ze_in x1 n0 (ze_lev (ze_u v (k0 + 1) (Int32.toNatClampNeg x1) a1) (fun v2 => ze_in x1 n0 (ze_lev (ze_u v2 (k0 + 2) (Int32.toNatClampNeg x1) a2) (fun v3 => ze_in x1 n0 (ze_lev (ze_u v3 (k0 + 3) (Int32.toNatClampNeg x1) a3) (fun v4 => ze_lev (ze_u v4 k0 5 ((v4 k0 5) + 1)) (fun v5 => some (1, v5)))))))))) else some (0, v))
set_option maxHeartbeats 4000000 in
set_option maxRecDepth 100000 in
theorem w_L_add {G : ze_G}  (X : ze_X G bc_L_add cn_L 5 0 0) (Y : ze_Ri G .boolean)    (k0 : Nat) (n0 : Nat) (a1 : Int32) (a2 : Int32) (a3 : Int32) (hk0 : ze_isLine k0 n0) (v : ze_H) : ze_T G (f_L_add  k0 n0 a1 a2 a3 v) v 0 [some (.inr k0), some (.inl a1), some (.inl a2), some (.inl a3), none] [] := by
  refine ze_aload_n X dc_L_add_0 rfl rfl ?_
  refine ze_geti X dc_L_add_1 zf_L_29 hk0.1 rfl ?_
  refine ze_aload_n X dc_L_add_4 rfl rfl ?_
  refine ze_geti X dc_L_add_5 zf_L_13 hk0.1 rfl ?_
  refine ze_icmp_lt (tgt := 13) X dc_L_add_8 (by decide) (fun _ => ?_) (fun _ => ?_)
  · refine ze_aload_n X dc_L_add_13 rfl rfl ?_
    refine ze_geti X dc_L_add_14 zf_L_32 hk0.1 rfl ?_
    refine ze_aload_n X dc_L_add_17 rfl rfl ?_
    refine ze_geti X dc_L_add_18 zf_L_29 hk0.1 rfl ?_
    refine ze_iadd X dc_L_add_21 ?_
    refine ze_aload_n X dc_L_add_22 rfl rfl ?_
    refine ze_geti X dc_L_add_23 zf_L_13 hk0.1 rfl ?_
    refine ze_irem X dc_L_add_26 (fun _ => ?_)
    refine ze_istore X dc_L_add_27 (by decide) (fun x1 => ?_)
    refine ze_aload_n X dc_L_add_29 rfl rfl ?_
    refine ze_getr X dc_L_add_30 zf_L_19 hk0.1 rfl ?_
    refine ze_iload X dc_L_add_33 rfl ?_
    refine ze_iload_n X dc_L_add_35 rfl rfl ?_
    refine ze_iast X dc_L_add_36 hk0.2.1 rfl (fun v2 _ => ?_)
    refine ze_aload_n X dc_L_add_37 rfl rfl ?_
    refine ze_getr X dc_L_add_38 zf_L_23 hk0.1 rfl ?_
    refine ze_iload X dc_L_add_41 rfl ?_
    refine ze_iload_n X dc_L_add_43 rfl rfl ?_
    refine ze_iast X dc_L_add_44 hk0.2.2.1 rfl (fun v3 _ => ?_)
    refine ze_aload_n X dc_L_add_45 rfl rfl ?_
    refine ze_getr X dc_L_add_46 zf_L_26 hk0.1 rfl ?_
    refine ze_iload X dc_L_add_49 rfl ?_
    refine ze_iload_n X dc_L_add_51 rfl rfl ?_
    refine ze_iast X dc_L_add_52 hk0.2.2.2 rfl (fun v4 _ => ?_)
    refine ze_aload_n X dc_L_add_53 rfl rfl ?_
    refine ze_dup X dc_L_add_54 ?_
    refine ze_geti X dc_L_add_55 zf_L_29 hk0.1 rfl ?_
    refine ze_iconst (x := 1) X dc_L_add_58 (by decide) ?_
    refine ze_iadd X dc_L_add_59 ?_
    refine ze_puti X dc_L_add_60 zp_L_29 hk0.1 rfl (fun v5 => ?_)
    refine ze_iconst (x := 1) X dc_L_add_63 (by decide) ?_
    exact ze_iret X Y rfl dc_L_add_64
  · refine ze_iconst (x := 0) X dc_L_add_11 (by decide) ?_
    exact ze_iret X Y rfl dc_L_add_12
set_option maxHeartbeats 4000000 in
set_option maxRecDepth 100000 in
theorem c_L_add {l : Launch} {D : va_G} {ad : Nat → Nat} {ca : Nat → ClassId} (hD : va_D (ze_A ad) (ze_ws ze_sh ad ca (fun _ _ => 0)))     (k0 : Nat) (n0 : Nat) (a1 : Int32) (a2 : Int32) (a3 : Int32) (hk0 : ze_isLine k0 n0) (v : ze_H) {r : Int32} {v1 : ze_H} (h : f_L_add  k0 n0 a1 a2 a3 v = some (r, v1)) : ze_Mi l D ad ca my_L_add bc_L_add 5 .boolean 0 0 [.inr k0, .inl a1, .inl a2, .inl a3] v r v1 := ze_Mi_of (plainFor_of_name (by decide)) hD (Nat.le_of_ble_eq_true rfl) (fun G e1 e2 e3 e4 X Y => w_L_add X Y    k0 n0 a1 a2 a3 hk0 v) h
def f_L_dropFirst  (k0 : Nat) (n0 : Nat) (v : ze_H) : Option (Int32 × ze_H) :=
  (if (v k0 5) ≤ 0 then some (0, v) else (if ((v k0 0) : Int32) = 0 then none else ze_lev (ze_u v k0 4 (((v k0 4) + 1) - ((v k0 4) + 1) / (v k0 0) * (v k0 0))) (fun v1 => ze_lev (ze_u v1 k0 5 ((v1 k0 5) - 1)) (fun v2 => some (0, v2)))))
set_option maxHeartbeats 4000000 in
set_option maxRecDepth 100000 in
theorem w_L_dropFirst {G : ze_G}  (X : ze_X G bc_L_dropFirst cn_L 1 0 0) (Y : ze_Rv G)    (k0 : Nat) (n0 : Nat) (hk0 : ze_isLine k0 n0) (v : ze_H) : ze_T G (f_L_dropFirst  k0 n0 v) v 0 [some (.inr k0)] [] := by
  refine ze_aload_n X dc_L_dropFirst_0 rfl rfl ?_
  refine ze_geti X dc_L_dropFirst_1 zf_L_29 hk0.1 rfl ?_
  refine ze_if_le (tgt := 32) X dc_L_dropFirst_4 (by decide) (fun _ => ?_) (fun _ => ?_)
  · exact ze_vret X Y dc_L_dropFirst_32
  · refine ze_aload_n X dc_L_dropFirst_7 rfl rfl ?_
    refine ze_aload_n X dc_L_dropFirst_8 rfl rfl ?_
    refine ze_geti X dc_L_dropFirst_9 zf_L_32 hk0.1 rfl ?_
    refine ze_iconst (x := 1) X dc_L_dropFirst_12 (by decide) ?_
    refine ze_iadd X dc_L_dropFirst_13 ?_
    refine ze_aload_n X dc_L_dropFirst_14 rfl rfl ?_
    refine ze_geti X dc_L_dropFirst_15 zf_L_13 hk0.1 rfl ?_
    refine ze_irem X dc_L_dropFirst_18 (fun _ => ?_)
    refine ze_puti X dc_L_dropFirst_19 zp_L_32 hk0.1 rfl (fun v1 => ?_)
    refine ze_aload_n X dc_L_dropFirst_22 rfl rfl ?_
    refine ze_dup X dc_L_dropFirst_23 ?_
    refine ze_geti X dc_L_dropFirst_24 zf_L_29 hk0.1 rfl ?_
    refine ze_iconst (x := 1) X dc_L_dropFirst_27 (by decide) ?_
    refine ze_isub X dc_L_dropFirst_28 ?_
    refine ze_puti X dc_L_dropFirst_29 zp_L_29 hk0.1 rfl (fun v2 => ?_)
    exact ze_vret X Y dc_L_dropFirst_32
set_option maxHeartbeats 4000000 in
set_option maxRecDepth 100000 in
theorem c_L_dropFirst {l : Launch} {D : va_G} {ad : Nat → Nat} {ca : Nat → ClassId} (hD : va_D (ze_A ad) (ze_ws ze_sh ad ca (fun _ _ => 0)))     (k0 : Nat) (n0 : Nat) (hk0 : ze_isLine k0 n0) (v : ze_H) {r : Int32} {v1 : ze_H} (h : f_L_dropFirst  k0 n0 v = some (r, v1)) : ze_Mv l D ad ca my_L_dropFirst bc_L_dropFirst 1 0 0 [.inr k0] v v1 := ze_Mv_of (plainFor_of_name (by decide)) hD (Nat.le_of_ble_eq_true rfl) (fun G e1 e2 e3 e4 X Y => w_L_dropFirst X Y    k0 n0 hk0 v) h
def f_L_empty  (k0 : Nat) (n0 : Nat) (v : ze_H) : Option (Int32 × ze_H) :=
  ze_lev (ze_u v k0 5 0) (fun v1 => some (0, v1))
set_option maxHeartbeats 4000000 in
set_option maxRecDepth 100000 in
theorem w_L_empty {G : ze_G}  (X : ze_X G bc_L_empty cn_L 1 0 0) (Y : ze_Rv G)    (k0 : Nat) (n0 : Nat) (hk0 : ze_isLine k0 n0) (v : ze_H) : ze_T G (f_L_empty  k0 n0 v) v 0 [some (.inr k0)] [] := by
  refine ze_aload_n X dc_L_empty_0 rfl rfl ?_
  refine ze_iconst (x := 0) X dc_L_empty_1 (by decide) ?_
  refine ze_puti X dc_L_empty_2 zp_L_29 hk0.1 rfl (fun v1 => ?_)
  exact ze_vret X Y dc_L_empty_5
set_option maxHeartbeats 4000000 in
set_option maxRecDepth 100000 in
theorem c_L_empty {l : Launch} {D : va_G} {ad : Nat → Nat} {ca : Nat → ClassId} (hD : va_D (ze_A ad) (ze_ws ze_sh ad ca (fun _ _ => 0)))     (k0 : Nat) (n0 : Nat) (hk0 : ze_isLine k0 n0) (v : ze_H) {r : Int32} {v1 : ze_H} (h : f_L_empty  k0 n0 v = some (r, v1)) : ze_Mv l D ad ca my_L_empty bc_L_empty 1 0 0 [.inr k0] v v1 := ze_Mv_of (plainFor_of_name (by decide)) hD (Nat.le_of_ble_eq_true rfl) (fun G e1 e2 e3 e4 X Y => w_L_empty X Y    k0 n0 hk0 v) h
def f_C_add  (a1 : Int32) (a2 : Int32) (a3 : Int32) (a4 : Int32) (a5 : Int32) (v : ze_H) : Option (Int32 × ze_H) :=
  (if (v 17 5) < 4 then ze_in (v 17 5) 4 (ze_lev (ze_u v 18 (Int32.toNatClampNeg (v 17 5)) a1) (fun v1 => ze_in (v1 17 5) 4 (ze_lev (ze_u v1 19 (Int32.toNatClampNeg (v1 17 5)) a2) (fun v2 => ze_in (v2 17 5) 4 (ze_lev (ze_u v2 20 (Int32.toNatClampNeg (v2 17 5)) a3) (fun v3 => ze_in (v3 17 5) 4 (ze_lev (ze_u v3 21 (Int32.toNatClampNeg (v3 17 5)) (vp_nar .boolean a4)) (fun v4 => ze_in (v4 17 5) 4 (ze_lev (ze_u v4 22 (Int32.toNatClampNeg (v4 17 5)) (vp_nar .boolean a5)) (fun v5 => ze_lev (ze_u v5 17 5 ((v5 17 5) + 1)) (fun v6 => some (1, v6)))))))))))) else some (0, v))
set_option maxHeartbeats 4000000 in
set_option maxRecDepth 100000 in
theorem w_C_add {G : ze_G}  (X : ze_X G bc_C_add cn_C 6 0 0) (Y : ze_Ri G .boolean)    (a1 : Int32) (a2 : Int32) (a3 : Int32) (a4 : Int32) (a5 : Int32)  (v : ze_H) : ze_T G (f_C_add  a1 a2 a3 a4 a5 v) v 0 [some (.inr 17), some (.inl a1), some (.inl a2), some (.inl a3), some (.inl a4), some (.inl a5)] [] := by
  refine ze_aload_n X dc_C_add_0 rfl rfl ?_
  refine ze_geti X dc_C_add_1 zf_C_28 sh_17 rfl ?_
  refine ze_iconst (x := 4) X dc_C_add_4 (by decide) ?_
  refine ze_icmp_lt (tgt := 10) X dc_C_add_5 (by decide) (fun _ => ?_) (fun _ => ?_)
  · refine ze_aload_n X dc_C_add_10 rfl rfl ?_
    refine ze_getr X dc_C_add_11 zf_C_9 sh_17 rfl ?_
    refine ze_aload_n X dc_C_add_14 rfl rfl ?_
    refine ze_geti X dc_C_add_15 zf_C_28 sh_17 rfl ?_
    refine ze_iload_n X dc_C_add_18 rfl rfl ?_
    refine ze_iast X dc_C_add_19 sh_18 rfl (fun v1 _ => ?_)
    refine ze_aload_n X dc_C_add_20 rfl rfl ?_
    refine ze_getr X dc_C_add_21 zf_C_15 sh_17 rfl ?_
    refine ze_aload_n X dc_C_add_24 rfl rfl ?_
    refine ze_geti X dc_C_add_25 zf_C_28 sh_17 rfl ?_
    refine ze_iload_n X dc_C_add_28 rfl rfl ?_
    refine ze_iast X dc_C_add_29 sh_19 rfl (fun v2 _ => ?_)
    refine ze_aload_n X dc_C_add_30 rfl rfl ?_
    refine ze_getr X dc_C_add_31 zf_C_18 sh_17 rfl ?_
    refine ze_aload_n X dc_C_add_34 rfl rfl ?_
    refine ze_geti X dc_C_add_35 zf_C_28 sh_17 rfl ?_
    refine ze_iload_n X dc_C_add_38 rfl rfl ?_
    refine ze_iast X dc_C_add_39 sh_20 rfl (fun v3 _ => ?_)
    refine ze_aload_n X dc_C_add_40 rfl rfl ?_
    refine ze_getr X dc_C_add_41 zf_C_21 sh_17 rfl ?_
    refine ze_aload_n X dc_C_add_44 rfl rfl ?_
    refine ze_geti X dc_C_add_45 zf_C_28 sh_17 rfl ?_
    refine ze_iload X dc_C_add_48 rfl ?_
    refine ze_zast X dc_C_add_50 sh_21 rfl (fun v4 _ => ?_)
    refine ze_aload_n X dc_C_add_51 rfl rfl ?_
    refine ze_getr X dc_C_add_52 zf_C_25 sh_17 rfl ?_
    refine ze_aload_n X dc_C_add_55 rfl rfl ?_
    refine ze_geti X dc_C_add_56 zf_C_28 sh_17 rfl ?_
    refine ze_iload X dc_C_add_59 rfl ?_
    refine ze_zast X dc_C_add_61 sh_22 rfl (fun v5 _ => ?_)
    refine ze_aload_n X dc_C_add_62 rfl rfl ?_
    refine ze_dup X dc_C_add_63 ?_
    refine ze_geti X dc_C_add_64 zf_C_28 sh_17 rfl ?_
    refine ze_iconst (x := 1) X dc_C_add_67 (by decide) ?_
    refine ze_iadd X dc_C_add_68 ?_
    refine ze_puti X dc_C_add_69 zp_C_28 sh_17 rfl (fun v6 => ?_)
    refine ze_iconst (x := 1) X dc_C_add_72 (by decide) ?_
    exact ze_iret X Y rfl dc_C_add_73
  · refine ze_iconst (x := 0) X dc_C_add_8 (by decide) ?_
    exact ze_iret X Y rfl dc_C_add_9
set_option maxHeartbeats 4000000 in
set_option maxRecDepth 100000 in
theorem c_C_add {l : Launch} {D : va_G} {ad : Nat → Nat} {ca : Nat → ClassId} (hD : va_D (ze_A ad) (ze_ws ze_sh ad ca (fun _ _ => 0)))     (a1 : Int32) (a2 : Int32) (a3 : Int32) (a4 : Int32) (a5 : Int32)  (v : ze_H) {r : Int32} {v1 : ze_H} (h : f_C_add  a1 a2 a3 a4 a5 v = some (r, v1)) : ze_Mi l D ad ca my_C_add bc_C_add 6 .boolean 0 0 [.inr 17, .inl a1, .inl a2, .inl a3, .inl a4, .inl a5] v r v1 := ze_Mi_of (plainFor_of_name (by decide)) hD (Nat.le_of_ble_eq_true rfl) (fun G e1 e2 e3 e4 X Y => w_C_add X Y    a1 a2 a3 a4 a5  v) h
def f_C_firstFor_L2  (b1 : Int32) (kk : ze_H → Option (Int32 × ze_H)) : Nat → Int32 → ze_H → Option (Int32 × ze_H)
  | 0, _, _ => none
  | n + 1, l2, v =>
    (if (v 17 5) ≤ l2 then (kk  v) else ze_in l2 4 ((if (v 18 (Int32.toNatClampNeg l2)) = b1 then some (l2, v) else ze_in l2 4 ((if (2 : Int32) = 0 then none else (if (v 18 (Int32.toNatClampNeg l2)) = (b1 / 2) then some (l2, v) else ze_in l2 4 ((if (4 : Int32) = 0 then none else (if (v 18 (Int32.toNatClampNeg l2)) = (b1 / 4) then some (l2, v) else ze_let (l2 + 1) (fun x2 => (f_C_firstFor_L2  b1 kk n x2 v)))))))))))
def f_C_firstFor  (a1 : Int32) (v : ze_H) : Option (Int32 × ze_H) :=
  ze_let 0 (fun x1 => (f_C_firstFor_L2  a1 (fun  v3 => some ((-1), v3)) 200000 x1 v))
set_option maxHeartbeats 4000000 in
set_option maxRecDepth 100000 in
theorem w_C_firstFor_L2 {G : ze_G}  (X : ze_X G bc_C_firstFor cn_C 3 0 0) (Y : ze_Ri G .int)    (b1 : Int32)  {kk : ze_H → Option (Int32 × ze_H)} (hkk : ∀ (v : ze_H), ze_T G (kk  v) v 52 [none, none, none] []) : ∀ (n : Nat) (l2 : Int32) (v : ze_H), ze_T G (f_C_firstFor_L2  b1 kk n l2 v) v 2 [some (.inr 17), some (.inl b1), some (.inl l2)] [] := by
  intro n
  induction n with
  | zero => intro l2 v; exact ze_none
  | succ n ih =>
    intro l2 v
    refine ze_iload_n X dc_C_firstFor_2 rfl rfl ?_
    refine ze_aload_n X dc_C_firstFor_3 rfl rfl ?_
    refine ze_geti X dc_C_firstFor_4 zf_C_28 sh_17 rfl ?_
    refine ze_icmp_ge (tgt := 52) X dc_C_firstFor_7 (by decide) (fun _ => ?_) (fun _ => ?_)
    · refine ze_weak [false, false, false] ?_
      exact hkk  v
    · refine ze_aload_n X dc_C_firstFor_10 rfl rfl ?_
      refine ze_getr X dc_C_firstFor_11 zf_C_9 sh_17 rfl ?_
      refine ze_iload_n X dc_C_firstFor_14 rfl rfl ?_
      refine ze_iald X dc_C_firstFor_15 sh_18 rfl (fun _ => ?_)
      refine ze_iload_n X dc_C_firstFor_16 rfl rfl ?_
      refine ze_icmp_eq (tgt := 44) X dc_C_firstFor_17 (by decide) (fun _ => ?_) (fun _ => ?_)
      · refine ze_iload_n X dc_C_firstFor_44 rfl rfl ?_
        exact ze_iret X Y (vp_nar_int _) dc_C_firstFor_45
      · refine ze_aload_n X dc_C_firstFor_20 rfl rfl ?_
        refine ze_getr X dc_C_firstFor_21 zf_C_9 sh_17 rfl ?_
        refine ze_iload_n X dc_C_firstFor_24 rfl rfl ?_
        refine ze_iald X dc_C_firstFor_25 sh_18 rfl (fun _ => ?_)
        refine ze_iload_n X dc_C_firstFor_26 rfl rfl ?_
        refine ze_iconst (x := 2) X dc_C_firstFor_27 (by decide) ?_
        refine ze_idiv X dc_C_firstFor_28 (fun _ => ?_)
        refine ze_icmp_eq (tgt := 44) X dc_C_firstFor_29 (by decide) (fun _ => ?_) (fun _ => ?_)
        · refine ze_iload_n X dc_C_firstFor_44 rfl rfl ?_
          exact ze_iret X Y (vp_nar_int _) dc_C_firstFor_45
        · refine ze_aload_n X dc_C_firstFor_32 rfl rfl ?_
          refine ze_getr X dc_C_firstFor_33 zf_C_9 sh_17 rfl ?_
          refine ze_iload_n X dc_C_firstFor_36 rfl rfl ?_
          refine ze_iald X dc_C_firstFor_37 sh_18 rfl (fun _ => ?_)
          refine ze_iload_n X dc_C_firstFor_38 rfl rfl ?_
          refine ze_iconst (x := 4) X dc_C_firstFor_39 (by decide) ?_
          refine ze_idiv X dc_C_firstFor_40 (fun _ => ?_)
          refine ze_icmp_ne (tgt := 46) X dc_C_firstFor_41 (by decide) (fun _ => ?_) (fun _ => ?_)
          · refine ze_iload_n X dc_C_firstFor_44 rfl rfl ?_
            exact ze_iret X Y (vp_nar_int _) dc_C_firstFor_45
          · refine ze_iinc (y := 1) X dc_C_firstFor_46 rfl (by decide) (by decide) (fun x2 => ?_)
            refine ze_goto (tgt := 2) X dc_C_firstFor_49 (by decide) ?_
            refine ze_weak [true, true, true] ?_
            exact ih x2 v
set_option maxHeartbeats 4000000 in
set_option maxRecDepth 100000 in
theorem w_C_firstFor {G : ze_G}  (X : ze_X G bc_C_firstFor cn_C 3 0 0) (Y : ze_Ri G .int)    (a1 : Int32)  (v : ze_H) : ze_T G (f_C_firstFor  a1 v) v 0 [some (.inr 17), some (.inl a1), none] [] := by
  refine ze_iconst (x := 0) X dc_C_firstFor_0 (by decide) ?_
  refine ze_istore_n X dc_C_firstFor_1 rfl (by decide) (fun x1 => ?_)
  refine ze_weak [true, true, true] ?_
  refine w_C_firstFor_L2 X Y    a1  (fun  v3 => ?_) 200000 x1 v
  refine ze_iconst (x := (-1)) X dc_C_firstFor_52 (by decide) ?_
  exact ze_iret X Y (vp_nar_int _) dc_C_firstFor_53
set_option maxHeartbeats 4000000 in
set_option maxRecDepth 100000 in
theorem c_C_firstFor {l : Launch} {D : va_G} {ad : Nat → Nat} {ca : Nat → ClassId} (hD : va_D (ze_A ad) (ze_ws ze_sh ad ca (fun _ _ => 0)))     (a1 : Int32)  (v : ze_H) {r : Int32} {v1 : ze_H} (h : f_C_firstFor  a1 v = some (r, v1)) : ze_Mi l D ad ca my_C_firstFor bc_C_firstFor 3 .int 0 0 [.inr 17, .inl a1] v r v1 := ze_Mi_of (plainFor_of_name (by decide)) hD (Nat.le_of_ble_eq_true rfl) (fun G e1 e2 e3 e4 X Y => w_C_firstFor X Y    a1  v) h
def f_G_find_L2  (b1 : Int32) (b2 : Int32) (kk : ze_H → Option (Int32 × ze_H)) : Nat → Int32 → ze_H → Option (Int32 × ze_H)
  | 0, _, _ => none
  | n + 1, l3, v =>
    (if (v 47 5) ≤ l3 then (kk  v) else ze_in l3 120 ((if (v 48 (Int32.toNatClampNeg l3)) = b1 then ze_in l3 120 ((if (v 49 (Int32.toNatClampNeg l3)) = b2 then some (l3, v) else ze_let (l3 + 1) (fun x2 => (f_G_find_L2  b1 b2 kk n x2 v)))) else ze_let (l3 + 1) (fun x3 => (f_G_find_L2  b1 b2 kk n x3 v)))))
def f_G_find  (a1 : Int32) (a2 : Int32) (v : ze_H) : Option (Int32 × ze_H) :=
  ze_let 0 (fun x1 => (f_G_find_L2  a1 a2 (fun  v4 => some ((-1), v4)) 200000 x1 v))
set_option maxHeartbeats 4000000 in
set_option maxRecDepth 100000 in
theorem w_G_find_L2 {G : ze_G}  (X : ze_X G bc_G_find cn_G 4 0 0) (Y : ze_Ri G .int)    (b1 : Int32) (b2 : Int32)  {kk : ze_H → Option (Int32 × ze_H)} (hkk : ∀ (v : ze_H), ze_T G (kk  v) v 38 [none, none, none, none] []) : ∀ (n : Nat) (l3 : Int32) (v : ze_H), ze_T G (f_G_find_L2  b1 b2 kk n l3 v) v 2 [some (.inr 47), some (.inl b1), some (.inl b2), some (.inl l3)] [] := by
  intro n
  induction n with
  | zero => intro l3 v; exact ze_none
  | succ n ih =>
    intro l3 v
    refine ze_iload_n X dc_G_find_2 rfl rfl ?_
    refine ze_aload_n X dc_G_find_3 rfl rfl ?_
    refine ze_geti X dc_G_find_4 zf_G_27 sh_47 rfl ?_
    refine ze_icmp_ge (tgt := 38) X dc_G_find_7 (by decide) (fun _ => ?_) (fun _ => ?_)
    · refine ze_weak [false, false, false, false] ?_
      exact hkk  v
    · refine ze_aload_n X dc_G_find_10 rfl rfl ?_
      refine ze_getr X dc_G_find_11 zf_G_9 sh_47 rfl ?_
      refine ze_iload_n X dc_G_find_14 rfl rfl ?_
      refine ze_iald X dc_G_find_15 sh_48 rfl (fun _ => ?_)
      refine ze_iload_n X dc_G_find_16 rfl rfl ?_
      refine ze_icmp_ne (tgt := 32) X dc_G_find_17 (by decide) (fun _ => ?_) (fun _ => ?_)
      · refine ze_aload_n X dc_G_find_20 rfl rfl ?_
        refine ze_getr X dc_G_find_21 zf_G_15 sh_47 rfl ?_
        refine ze_iload_n X dc_G_find_24 rfl rfl ?_
        refine ze_iald X dc_G_find_25 sh_49 rfl (fun _ => ?_)
        refine ze_iload_n X dc_G_find_26 rfl rfl ?_
        refine ze_icmp_ne (tgt := 32) X dc_G_find_27 (by decide) (fun _ => ?_) (fun _ => ?_)
        · refine ze_iload_n X dc_G_find_30 rfl rfl ?_
          exact ze_iret X Y (vp_nar_int _) dc_G_find_31
        · refine ze_iinc (y := 1) X dc_G_find_32 rfl (by decide) (by decide) (fun x2 => ?_)
          refine ze_goto (tgt := 2) X dc_G_find_35 (by decide) ?_
          refine ze_weak [true, true, true, true] ?_
          exact ih x2 v
      · refine ze_iinc (y := 1) X dc_G_find_32 rfl (by decide) (by decide) (fun x3 => ?_)
        refine ze_goto (tgt := 2) X dc_G_find_35 (by decide) ?_
        refine ze_weak [true, true, true, true] ?_
        exact ih x3 v
set_option maxHeartbeats 4000000 in
set_option maxRecDepth 100000 in
theorem w_G_find {G : ze_G}  (X : ze_X G bc_G_find cn_G 4 0 0) (Y : ze_Ri G .int)    (a1 : Int32) (a2 : Int32)  (v : ze_H) : ze_T G (f_G_find  a1 a2 v) v 0 [some (.inr 47), some (.inl a1), some (.inl a2), none] [] := by
  refine ze_iconst (x := 0) X dc_G_find_0 (by decide) ?_
  refine ze_istore_n X dc_G_find_1 rfl (by decide) (fun x1 => ?_)
  refine ze_weak [true, true, true, true] ?_
  refine w_G_find_L2 X Y    a1 a2  (fun  v4 => ?_) 200000 x1 v
  refine ze_iconst (x := (-1)) X dc_G_find_38 (by decide) ?_
  exact ze_iret X Y (vp_nar_int _) dc_G_find_39
set_option maxHeartbeats 4000000 in
set_option maxRecDepth 100000 in
theorem c_G_find {l : Launch} {D : va_G} {ad : Nat → Nat} {ca : Nat → ClassId} (hD : va_D (ze_A ad) (ze_ws ze_sh ad ca (fun _ _ => 0)))     (a1 : Int32) (a2 : Int32)  (v : ze_H) {r : Int32} {v1 : ze_H} (h : f_G_find  a1 a2 v = some (r, v1)) : ze_Mi l D ad ca my_G_find bc_G_find 4 .int 0 0 [.inr 47, .inl a1, .inl a2] v r v1 := ze_Mi_of (plainFor_of_name (by decide)) hD (Nat.le_of_ble_eq_true rfl) (fun G e1 e2 e3 e4 X Y => w_G_find X Y    a1 a2  v) h
def f_G_firstDue_L2  (b1 : Int32) (kk : ze_H → Option (Int32 × ze_H)) : Nat → Int32 → ze_H → Option (Int32 × ze_H)
  | 0, _, _ => none
  | n + 1, l2, v =>
    (if (v 47 5) ≤ l2 then (kk  v) else ze_in l2 120 ((if b1 < (v 52 (Int32.toNatClampNeg l2)) then ze_let (l2 + 1) (fun x2 => (f_G_firstDue_L2  b1 kk n x2 v)) else some (l2, v))))
def f_G_firstDue  (a1 : Int32) (v : ze_H) : Option (Int32 × ze_H) :=
  ze_let 0 (fun x1 => (f_G_firstDue_L2  a1 (fun  v3 => some ((-1), v3)) 200000 x1 v))
set_option maxHeartbeats 4000000 in
set_option maxRecDepth 100000 in
theorem w_G_firstDue_L2 {G : ze_G}  (X : ze_X G bc_G_firstDue cn_G 3 0 0) (Y : ze_Ri G .int)    (b1 : Int32)  {kk : ze_H → Option (Int32 × ze_H)} (hkk : ∀ (v : ze_H), ze_T G (kk  v) v 28 [none, none, none] []) : ∀ (n : Nat) (l2 : Int32) (v : ze_H), ze_T G (f_G_firstDue_L2  b1 kk n l2 v) v 2 [some (.inr 47), some (.inl b1), some (.inl l2)] [] := by
  intro n
  induction n with
  | zero => intro l2 v; exact ze_none
  | succ n ih =>
    intro l2 v
    refine ze_iload_n X dc_G_firstDue_2 rfl rfl ?_
    refine ze_aload_n X dc_G_firstDue_3 rfl rfl ?_
    refine ze_geti X dc_G_firstDue_4 zf_G_27 sh_47 rfl ?_
    refine ze_icmp_ge (tgt := 28) X dc_G_firstDue_7 (by decide) (fun _ => ?_) (fun _ => ?_)
    · refine ze_weak [false, false, false] ?_
      exact hkk  v
    · refine ze_aload_n X dc_G_firstDue_10 rfl rfl ?_
      refine ze_getr X dc_G_firstDue_11 zf_G_24 sh_47 rfl ?_
      refine ze_iload_n X dc_G_firstDue_14 rfl rfl ?_
      refine ze_iald X dc_G_firstDue_15 sh_52 rfl (fun _ => ?_)
      refine ze_iload_n X dc_G_firstDue_16 rfl rfl ?_
      refine ze_icmp_gt (tgt := 22) X dc_G_firstDue_17 (by decide) (fun _ => ?_) (fun _ => ?_)
      · refine ze_iinc (y := 1) X dc_G_firstDue_22 rfl (by decide) (by decide) (fun x2 => ?_)
        refine ze_goto (tgt := 2) X dc_G_firstDue_25 (by decide) ?_
        refine ze_weak [true, true, true] ?_
        exact ih x2 v
      · refine ze_iload_n X dc_G_firstDue_20 rfl rfl ?_
        exact ze_iret X Y (vp_nar_int _) dc_G_firstDue_21
set_option maxHeartbeats 4000000 in
set_option maxRecDepth 100000 in
theorem w_G_firstDue {G : ze_G}  (X : ze_X G bc_G_firstDue cn_G 3 0 0) (Y : ze_Ri G .int)    (a1 : Int32)  (v : ze_H) : ze_T G (f_G_firstDue  a1 v) v 0 [some (.inr 47), some (.inl a1), none] [] := by
  refine ze_iconst (x := 0) X dc_G_firstDue_0 (by decide) ?_
  refine ze_istore_n X dc_G_firstDue_1 rfl (by decide) (fun x1 => ?_)
  refine ze_weak [true, true, true] ?_
  refine w_G_firstDue_L2 X Y    a1  (fun  v3 => ?_) 200000 x1 v
  refine ze_iconst (x := (-1)) X dc_G_firstDue_28 (by decide) ?_
  exact ze_iret X Y (vp_nar_int _) dc_G_firstDue_29
set_option maxHeartbeats 4000000 in
set_option maxRecDepth 100000 in
theorem c_G_firstDue {l : Launch} {D : va_G} {ad : Nat → Nat} {ca : Nat → ClassId} (hD : va_D (ze_A ad) (ze_ws ze_sh ad ca (fun _ _ => 0)))     (a1 : Int32)  (v : ze_H) {r : Int32} {v1 : ze_H} (h : f_G_firstDue  a1 v = some (r, v1)) : ze_Mi l D ad ca my_G_firstDue bc_G_firstDue 3 .int 0 0 [.inr 47, .inl a1] v r v1 := ze_Mi_of (plainFor_of_name (by decide)) hD (Nat.le_of_ble_eq_true rfl) (fun G e1 e2 e3 e4 X Y => w_G_firstDue X Y    a1  v) h
def f_G_openOf_L4  (b1 : Int32) (kk : Int32 → ze_H → Option (Int32 × ze_H)) : Nat → Int32 → Int32 → ze_H → Option (Int32 × ze_H)
  | 0, _, _, _ => none
  | n + 1, l2, l3, v =>
    (if (v 47 5) ≤ l3 then (kk l2 v) else ze_in l3 120 ((if (v 48 (Int32.toNatClampNeg l3)) = b1 then ze_let (l2 + 1) (fun x3 => ze_let (l3 + 1) (fun x4 => (f_G_openOf_L4  b1 kk n x3 x4 v))) else ze_let (l3 + 1) (fun x5 => (f_G_openOf_L4  b1 kk n l2 x5 v)))))
def f_G_openOf  (a1 : Int32) (v : ze_H) : Option (Int32 × ze_H) :=
  ze_let 0 (fun x1 => ze_let 0 (fun x2 => (f_G_openOf_L4  a1 (fun x6 v7 => some (x6, v7)) 200000 x1 x2 v)))
set_option maxHeartbeats 4000000 in
set_option maxRecDepth 100000 in
theorem w_G_openOf_L4 {G : ze_G}  (X : ze_X G bc_G_openOf cn_G 4 0 0) (Y : ze_Ri G .int)    (b1 : Int32)  {kk : Int32 → ze_H → Option (Int32 × ze_H)} (hkk : ∀ (l2 : Int32) (v : ze_H), ze_T G (kk l2 v) v 31 [none, none, some (.inl l2), none] []) : ∀ (n : Nat) (l2 : Int32) (l3 : Int32) (v : ze_H), ze_T G (f_G_openOf_L4  b1 kk n l2 l3 v) v 4 [some (.inr 47), some (.inl b1), some (.inl l2), some (.inl l3)] [] := by
  intro n
  induction n with
  | zero => intro l2 l3 v; exact ze_none
  | succ n ih =>
    intro l2 l3 v
    refine ze_iload_n X dc_G_openOf_4 rfl rfl ?_
    refine ze_aload_n X dc_G_openOf_5 rfl rfl ?_
    refine ze_geti X dc_G_openOf_6 zf_G_27 sh_47 rfl ?_
    refine ze_icmp_ge (tgt := 31) X dc_G_openOf_9 (by decide) (fun _ => ?_) (fun _ => ?_)
    · refine ze_weak [false, false, true, false] ?_
      exact hkk l2 v
    · refine ze_aload_n X dc_G_openOf_12 rfl rfl ?_
      refine ze_getr X dc_G_openOf_13 zf_G_9 sh_47 rfl ?_
      refine ze_iload_n X dc_G_openOf_16 rfl rfl ?_
      refine ze_iald X dc_G_openOf_17 sh_48 rfl (fun _ => ?_)
      refine ze_iload_n X dc_G_openOf_18 rfl rfl ?_
      refine ze_icmp_ne (tgt := 25) X dc_G_openOf_19 (by decide) (fun _ => ?_) (fun _ => ?_)
      · refine ze_iinc (y := 1) X dc_G_openOf_22 rfl (by decide) (by decide) (fun x3 => ?_)
        refine ze_iinc (y := 1) X dc_G_openOf_25 rfl (by decide) (by decide) (fun x4 => ?_)
        refine ze_goto (tgt := 4) X dc_G_openOf_28 (by decide) ?_
        refine ze_weak [true, true, true, true] ?_
        exact ih x3 x4 v
      · refine ze_iinc (y := 1) X dc_G_openOf_25 rfl (by decide) (by decide) (fun x5 => ?_)
        refine ze_goto (tgt := 4) X dc_G_openOf_28 (by decide) ?_
        refine ze_weak [true, true, true, true] ?_
        exact ih l2 x5 v
set_option maxHeartbeats 4000000 in
set_option maxRecDepth 100000 in
theorem w_G_openOf {G : ze_G}  (X : ze_X G bc_G_openOf cn_G 4 0 0) (Y : ze_Ri G .int)    (a1 : Int32)  (v : ze_H) : ze_T G (f_G_openOf  a1 v) v 0 [some (.inr 47), some (.inl a1), none, none] [] := by
  refine ze_iconst (x := 0) X dc_G_openOf_0 (by decide) ?_
  refine ze_istore_n X dc_G_openOf_1 rfl (by decide) (fun x1 => ?_)
  refine ze_iconst (x := 0) X dc_G_openOf_2 (by decide) ?_
  refine ze_istore_n X dc_G_openOf_3 rfl (by decide) (fun x2 => ?_)
  refine ze_weak [true, true, true, true] ?_
  refine w_G_openOf_L4 X Y    a1  (fun x6 v7 => ?_) 200000 x1 x2 v
  refine ze_iload_n X dc_G_openOf_31 rfl rfl ?_
  exact ze_iret X Y (vp_nar_int _) dc_G_openOf_32
set_option maxHeartbeats 4000000 in
set_option maxRecDepth 100000 in
theorem c_G_openOf {l : Launch} {D : va_G} {ad : Nat → Nat} {ca : Nat → ClassId} (hD : va_D (ze_A ad) (ze_ws ze_sh ad ca (fun _ _ => 0)))     (a1 : Int32)  (v : ze_H) {r : Int32} {v1 : ze_H} (h : f_G_openOf  a1 v = some (r, v1)) : ze_Mi l D ad ca my_G_openOf bc_G_openOf 4 .int 0 0 [.inr 47, .inl a1] v r v1 := ze_Mi_of (plainFor_of_name (by decide)) hD (Nat.le_of_ble_eq_true rfl) (fun G e1 e2 e3 e4 X Y => w_G_openOf X Y    a1  v) h
def f_G_open  (a1 : Int32) (a2 : Int32) (a3 : Int32) (v : ze_H) : Option (Int32 × ze_H) :=
  (if 120 ≤ (v 47 5) then some ((-1), v) else ze_call (f_G_openOf  a1 v) (fun r1 v2 => (if r1 < 3 then ze_in (v2 47 5) 120 (ze_lev (ze_u v2 48 (Int32.toNatClampNeg (v2 47 5)) a1) (fun v3 => ze_in (v3 47 5) 120 (ze_lev (ze_u v3 49 (Int32.toNatClampNeg (v3 47 5)) a2) (fun v4 => ze_in (v4 47 5) 120 (ze_lev (ze_u v4 50 (Int32.toNatClampNeg (v4 47 5)) 0) (fun v5 => ze_in (v5 47 5) 120 (ze_lev (ze_u v5 51 (Int32.toNatClampNeg (v5 47 5)) 0) (fun v6 => ze_in (v6 47 5) 120 (ze_lev (ze_u v6 52 (Int32.toNatClampNeg (v6 47 5)) a3) (fun v7 => ze_lev (ze_u v7 47 5 ((v7 47 5) + 1)) (fun v8 => some (((v8 47 5) - 1), v8)))))))))))) else some ((-1), v2))))
set_option maxHeartbeats 4000000 in
set_option maxRecDepth 100000 in
theorem w_G_open {G : ze_G}  (X : ze_X G bc_G_open cn_G 4 1 23) (Y : ze_Ri G .int)    (a1 : Int32) (a2 : Int32) (a3 : Int32)  (v : ze_H) : ze_T G (f_G_open  a1 a2 a3 v) v 0 [some (.inr 47), some (.inl a1), some (.inl a2), some (.inl a3)] [] := by
  refine ze_aload_n X dc_G_open_0 rfl rfl ?_
  refine ze_geti X dc_G_open_1 zf_G_27 sh_47 rfl ?_
  refine ze_bipush (x := 120) X dc_G_open_4 (by decide) ?_
  refine ze_icmp_ge (tgt := 18) X dc_G_open_6 (by decide) (fun _ => ?_) (fun _ => ?_)
  · refine ze_iconst (x := (-1)) X dc_G_open_18 (by decide) ?_
    exact ze_iret X Y (vp_nar_int _) dc_G_open_19
  · refine ze_aload_n X dc_G_open_9 rfl rfl ?_
    refine ze_iload_n X dc_G_open_10 rfl rfl ?_
    refine ze_callVi (As := [.inl a1]) (st := []) X dc_G_open_11 zc_G_31 sh_47 (fun zr zv zh => c_G_openOf X.2.2.2.2.2.2.1  a1  v zh) rfl (by decide) (by decide) (Nat.le_of_ble_eq_true rfl) (fun r1 v2 => ?_)
    refine ze_iconst (x := 3) X dc_G_open_14 (by decide) ?_
    refine ze_icmp_lt (tgt := 20) X dc_G_open_15 (by decide) (fun _ => ?_) (fun _ => ?_)
    · refine ze_aload_n X dc_G_open_20 rfl rfl ?_
      refine ze_getr X dc_G_open_21 zf_G_9 sh_47 rfl ?_
      refine ze_aload_n X dc_G_open_24 rfl rfl ?_
      refine ze_geti X dc_G_open_25 zf_G_27 sh_47 rfl ?_
      refine ze_iload_n X dc_G_open_28 rfl rfl ?_
      refine ze_iast X dc_G_open_29 sh_48 rfl (fun v3 _ => ?_)
      refine ze_aload_n X dc_G_open_30 rfl rfl ?_
      refine ze_getr X dc_G_open_31 zf_G_15 sh_47 rfl ?_
      refine ze_aload_n X dc_G_open_34 rfl rfl ?_
      refine ze_geti X dc_G_open_35 zf_G_27 sh_47 rfl ?_
      refine ze_iload_n X dc_G_open_38 rfl rfl ?_
      refine ze_iast X dc_G_open_39 sh_49 rfl (fun v4 _ => ?_)
      refine ze_aload_n X dc_G_open_40 rfl rfl ?_
      refine ze_getr X dc_G_open_41 zf_G_18 sh_47 rfl ?_
      refine ze_aload_n X dc_G_open_44 rfl rfl ?_
      refine ze_geti X dc_G_open_45 zf_G_27 sh_47 rfl ?_
      refine ze_iconst (x := 0) X dc_G_open_48 (by decide) ?_
      refine ze_iast X dc_G_open_49 sh_50 rfl (fun v5 _ => ?_)
      refine ze_aload_n X dc_G_open_50 rfl rfl ?_
      refine ze_getr X dc_G_open_51 zf_G_21 sh_47 rfl ?_
      refine ze_aload_n X dc_G_open_54 rfl rfl ?_
      refine ze_geti X dc_G_open_55 zf_G_27 sh_47 rfl ?_
      refine ze_iconst (x := 0) X dc_G_open_58 (by decide) ?_
      refine ze_iast X dc_G_open_59 sh_51 rfl (fun v6 _ => ?_)
      refine ze_aload_n X dc_G_open_60 rfl rfl ?_
      refine ze_getr X dc_G_open_61 zf_G_24 sh_47 rfl ?_
      refine ze_aload_n X dc_G_open_64 rfl rfl ?_
      refine ze_geti X dc_G_open_65 zf_G_27 sh_47 rfl ?_
      refine ze_iload_n X dc_G_open_68 rfl rfl ?_
      refine ze_iast X dc_G_open_69 sh_52 rfl (fun v7 _ => ?_)
      refine ze_aload_n X dc_G_open_70 rfl rfl ?_
      refine ze_dup X dc_G_open_71 ?_
      refine ze_geti X dc_G_open_72 zf_G_27 sh_47 rfl ?_
      refine ze_iconst (x := 1) X dc_G_open_75 (by decide) ?_
      refine ze_iadd X dc_G_open_76 ?_
      refine ze_puti X dc_G_open_77 zp_G_27 sh_47 rfl (fun v8 => ?_)
      refine ze_aload_n X dc_G_open_80 rfl rfl ?_
      refine ze_geti X dc_G_open_81 zf_G_27 sh_47 rfl ?_
      refine ze_iconst (x := 1) X dc_G_open_84 (by decide) ?_
      refine ze_isub X dc_G_open_85 ?_
      exact ze_iret X Y (vp_nar_int _) dc_G_open_86
    · refine ze_iconst (x := (-1)) X dc_G_open_18 (by decide) ?_
      exact ze_iret X Y (vp_nar_int _) dc_G_open_19
set_option maxHeartbeats 4000000 in
set_option maxRecDepth 100000 in
theorem c_G_open {l : Launch} {D : va_G} {ad : Nat → Nat} {ca : Nat → ClassId} (hD : va_D (ze_A ad) (ze_ws ze_sh ad ca (fun _ _ => 0)))     (a1 : Int32) (a2 : Int32) (a3 : Int32)  (v : ze_H) {r : Int32} {v1 : ze_H} (h : f_G_open  a1 a2 a3 v = some (r, v1)) : ze_Mi l D ad ca my_G_open bc_G_open 4 .int 1 23 [.inr 47, .inl a1, .inl a2, .inl a3] v r v1 := ze_Mi_of (plainFor_of_name (by decide)) hD (Nat.le_of_ble_eq_true rfl) (fun G e1 e2 e3 e4 X Y => w_G_open X Y    a1 a2 a3  v) h
def f_G_remove_L15   (kk : ze_H → Option (Int32 × ze_H)) : Nat → Int32 → ze_H → Option (Int32 × ze_H)
  | 0, _, _ => none
  | n + 1, l2, v =>
    (if ((v 47 5) - 1) ≤ l2 then (kk  v) else ze_in (l2 + 1) 120 (ze_in l2 120 (ze_lev (ze_u v 48 (Int32.toNatClampNeg l2) (v 48 (Int32.toNatClampNeg (l2 + 1)))) (fun v2 => ze_in (l2 + 1) 120 (ze_in l2 120 (ze_lev (ze_u v2 49 (Int32.toNatClampNeg l2) (v2 49 (Int32.toNatClampNeg (l2 + 1)))) (fun v3 => ze_in (l2 + 1) 120 (ze_in l2 120 (ze_lev (ze_u v3 50 (Int32.toNatClampNeg l2) (v3 50 (Int32.toNatClampNeg (l2 + 1)))) (fun v4 => ze_in (l2 + 1) 120 (ze_in l2 120 (ze_lev (ze_u v4 51 (Int32.toNatClampNeg l2) (v4 51 (Int32.toNatClampNeg (l2 + 1)))) (fun v5 => ze_in (l2 + 1) 120 (ze_in l2 120 (ze_lev (ze_u v5 52 (Int32.toNatClampNeg l2) (v5 52 (Int32.toNatClampNeg (l2 + 1)))) (fun v6 => ze_let (l2 + 1) (fun x7 => (f_G_remove_L15   kk n x7 v6))))))))))))))))))
def f_G_remove  (a1 : Int32) (v : ze_H) : Option (Int32 × ze_H) :=
  (if a1 < 0 then some (0, v) else (if a1 < (v 47 5) then ze_let a1 (fun x1 => (f_G_remove_L15   (fun  v8 => ze_lev (ze_u v8 47 5 ((v8 47 5) - 1)) (fun v9 => some (0, v9))) 200000 x1 v)) else some (0, v)))
set_option maxHeartbeats 4000000 in
set_option maxRecDepth 100000 in
theorem w_G_remove_L15 {G : ze_G}  (X : ze_X G bc_G_remove cn_G 3 0 0) (Y : ze_Rv G)      {kk : ze_H → Option (Int32 × ze_H)} (hkk : ∀ (v : ze_H), ze_T G (kk  v) v 101 [some (.inr 47), none, none] []) : ∀ (n : Nat) (l2 : Int32) (v : ze_H), ze_T G (f_G_remove_L15   kk n l2 v) v 15 [some (.inr 47), none, some (.inl l2)] [] := by
  intro n
  induction n with
  | zero => intro l2 v; exact ze_none
  | succ n ih =>
    intro l2 v
    refine ze_iload_n X dc_G_remove_15 rfl rfl ?_
    refine ze_aload_n X dc_G_remove_16 rfl rfl ?_
    refine ze_geti X dc_G_remove_17 zf_G_27 sh_47 rfl ?_
    refine ze_iconst (x := 1) X dc_G_remove_20 (by decide) ?_
    refine ze_isub X dc_G_remove_21 ?_
    refine ze_icmp_ge (tgt := 101) X dc_G_remove_22 (by decide) (fun _ => ?_) (fun _ => ?_)
    · refine ze_weak [true, false, false] ?_
      exact hkk  v
    · refine ze_aload_n X dc_G_remove_25 rfl rfl ?_
      refine ze_getr X dc_G_remove_26 zf_G_9 sh_47 rfl ?_
      refine ze_iload_n X dc_G_remove_29 rfl rfl ?_
      refine ze_aload_n X dc_G_remove_30 rfl rfl ?_
      refine ze_getr X dc_G_remove_31 zf_G_9 sh_47 rfl ?_
      refine ze_iload_n X dc_G_remove_34 rfl rfl ?_
      refine ze_iconst (x := 1) X dc_G_remove_35 (by decide) ?_
      refine ze_iadd X dc_G_remove_36 ?_
      refine ze_iald X dc_G_remove_37 sh_48 rfl (fun _ => ?_)
      refine ze_iast X dc_G_remove_38 sh_48 rfl (fun v2 _ => ?_)
      refine ze_aload_n X dc_G_remove_39 rfl rfl ?_
      refine ze_getr X dc_G_remove_40 zf_G_15 sh_47 rfl ?_
      refine ze_iload_n X dc_G_remove_43 rfl rfl ?_
      refine ze_aload_n X dc_G_remove_44 rfl rfl ?_
      refine ze_getr X dc_G_remove_45 zf_G_15 sh_47 rfl ?_
      refine ze_iload_n X dc_G_remove_48 rfl rfl ?_
      refine ze_iconst (x := 1) X dc_G_remove_49 (by decide) ?_
      refine ze_iadd X dc_G_remove_50 ?_
      refine ze_iald X dc_G_remove_51 sh_49 rfl (fun _ => ?_)
      refine ze_iast X dc_G_remove_52 sh_49 rfl (fun v3 _ => ?_)
      refine ze_aload_n X dc_G_remove_53 rfl rfl ?_
      refine ze_getr X dc_G_remove_54 zf_G_18 sh_47 rfl ?_
      refine ze_iload_n X dc_G_remove_57 rfl rfl ?_
      refine ze_aload_n X dc_G_remove_58 rfl rfl ?_
      refine ze_getr X dc_G_remove_59 zf_G_18 sh_47 rfl ?_
      refine ze_iload_n X dc_G_remove_62 rfl rfl ?_
      refine ze_iconst (x := 1) X dc_G_remove_63 (by decide) ?_
      refine ze_iadd X dc_G_remove_64 ?_
      refine ze_iald X dc_G_remove_65 sh_50 rfl (fun _ => ?_)
      refine ze_iast X dc_G_remove_66 sh_50 rfl (fun v4 _ => ?_)
      refine ze_aload_n X dc_G_remove_67 rfl rfl ?_
      refine ze_getr X dc_G_remove_68 zf_G_21 sh_47 rfl ?_
      refine ze_iload_n X dc_G_remove_71 rfl rfl ?_
      refine ze_aload_n X dc_G_remove_72 rfl rfl ?_
      refine ze_getr X dc_G_remove_73 zf_G_21 sh_47 rfl ?_
      refine ze_iload_n X dc_G_remove_76 rfl rfl ?_
      refine ze_iconst (x := 1) X dc_G_remove_77 (by decide) ?_
      refine ze_iadd X dc_G_remove_78 ?_
      refine ze_iald X dc_G_remove_79 sh_51 rfl (fun _ => ?_)
      refine ze_iast X dc_G_remove_80 sh_51 rfl (fun v5 _ => ?_)
      refine ze_aload_n X dc_G_remove_81 rfl rfl ?_
      refine ze_getr X dc_G_remove_82 zf_G_24 sh_47 rfl ?_
      refine ze_iload_n X dc_G_remove_85 rfl rfl ?_
      refine ze_aload_n X dc_G_remove_86 rfl rfl ?_
      refine ze_getr X dc_G_remove_87 zf_G_24 sh_47 rfl ?_
      refine ze_iload_n X dc_G_remove_90 rfl rfl ?_
      refine ze_iconst (x := 1) X dc_G_remove_91 (by decide) ?_
      refine ze_iadd X dc_G_remove_92 ?_
      refine ze_iald X dc_G_remove_93 sh_52 rfl (fun _ => ?_)
      refine ze_iast X dc_G_remove_94 sh_52 rfl (fun v6 _ => ?_)
      refine ze_iinc (y := 1) X dc_G_remove_95 rfl (by decide) (by decide) (fun x7 => ?_)
      refine ze_goto (tgt := 15) X dc_G_remove_98 (by decide) ?_
      refine ze_weak [true, false, true] ?_
      exact ih x7 v6
set_option maxHeartbeats 4000000 in
set_option maxRecDepth 100000 in
theorem w_G_remove {G : ze_G}  (X : ze_X G bc_G_remove cn_G 3 0 0) (Y : ze_Rv G)    (a1 : Int32)  (v : ze_H) : ze_T G (f_G_remove  a1 v) v 0 [some (.inr 47), some (.inl a1), none] [] := by
  refine ze_iload_n X dc_G_remove_0 rfl rfl ?_
  refine ze_if_lt (tgt := 12) X dc_G_remove_1 (by decide) (fun _ => ?_) (fun _ => ?_)
  · exact ze_vret X Y dc_G_remove_12
  · refine ze_iload_n X dc_G_remove_4 rfl rfl ?_
    refine ze_aload_n X dc_G_remove_5 rfl rfl ?_
    refine ze_geti X dc_G_remove_6 zf_G_27 sh_47 rfl ?_
    refine ze_icmp_lt (tgt := 13) X dc_G_remove_9 (by decide) (fun _ => ?_) (fun _ => ?_)
    · refine ze_iload_n X dc_G_remove_13 rfl rfl ?_
      refine ze_istore_n X dc_G_remove_14 rfl (by decide) (fun x1 => ?_)
      refine ze_weak [true, false, true] ?_
      refine w_G_remove_L15 X Y      (fun  v8 => ?_) 200000 x1 v
      refine ze_aload_n X dc_G_remove_101 rfl rfl ?_
      refine ze_dup X dc_G_remove_102 ?_
      refine ze_geti X dc_G_remove_103 zf_G_27 sh_47 rfl ?_
      refine ze_iconst (x := 1) X dc_G_remove_106 (by decide) ?_
      refine ze_isub X dc_G_remove_107 ?_
      refine ze_puti X dc_G_remove_108 zp_G_27 sh_47 rfl (fun v9 => ?_)
      exact ze_vret X Y dc_G_remove_111
    · exact ze_vret X Y dc_G_remove_12
set_option maxHeartbeats 4000000 in
set_option maxRecDepth 100000 in
theorem c_G_remove {l : Launch} {D : va_G} {ad : Nat → Nat} {ca : Nat → ClassId} (hD : va_D (ze_A ad) (ze_ws ze_sh ad ca (fun _ _ => 0)))     (a1 : Int32)  (v : ze_H) {r : Int32} {v1 : ze_H} (h : f_G_remove  a1 v = some (r, v1)) : ze_Mv l D ad ca my_G_remove bc_G_remove 3 0 0 [.inr 47, .inl a1] v v1 := ze_Mv_of (plainFor_of_name (by decide)) hD (Nat.le_of_ble_eq_true rfl) (fun G e1 e2 e3 e4 X Y => w_G_remove X Y    a1  v) h
def f_K_empty   (v : ze_H) : Option (Int32 × ze_H) :=
  ze_call (f_JA_fill  54 0 v) (fun r1 v2 => some (0, v2))
set_option maxHeartbeats 4000000 in
set_option maxRecDepth 100000 in
theorem w_K_empty {G : ze_G}  (X : ze_X G bc_K_empty cn_K 1 1 23) (Y : ze_Rv G)      (v : ze_H) : ze_T G (f_K_empty   v) v 0 [some (.inr 53)] [] := by
  refine ze_aload_n X dc_K_empty_0 rfl rfl ?_
  refine ze_getr X dc_K_empty_1 zf_K_9 sh_53 rfl ?_
  refine ze_iconst (x := 0) X dc_K_empty_4 (by decide) ?_
  refine ze_callSv (As := [.inr 54, .inl 0]) (st := []) X dc_K_empty_5 zc_K_21 (fun zr zv zh => c_JA_fill X.2.2.2.2.2.2.1  54 0 sh_54 v zh) rfl (by decide) (by decide) (Nat.le_of_ble_eq_true rfl) (fun r1 v2 => ?_)
  exact ze_vret X Y dc_K_empty_8
set_option maxHeartbeats 4000000 in
set_option maxRecDepth 100000 in
theorem c_K_empty {l : Launch} {D : va_G} {ad : Nat → Nat} {ca : Nat → ClassId} (hD : va_D (ze_A ad) (ze_ws ze_sh ad ca (fun _ _ => 0)))       (v : ze_H) {r : Int32} {v1 : ze_H} (h : f_K_empty   v = some (r, v1)) : ze_Mv l D ad ca my_K_empty bc_K_empty 1 1 23 [.inr 53] v v1 := ze_Mv_of (plainFor_of_name (by decide)) hD (Nat.le_of_ble_eq_true rfl) (fun G e1 e2 e3 e4 X Y => w_K_empty X Y      v) h
def f_K_has_L7  (b1 : Int32) (b2 : Int32) (b3 : Int32) (kk : ze_H → Option (Int32 × ze_H)) : Nat → Int32 → ze_H → Option (Int32 × ze_H)
  | 0, _, _ => none
  | n + 1, l4, v =>
    ze_in b1 164 ((if (v 54 (Int32.toNatClampNeg b1)) ≤ l4 then (kk  v) else ze_in (b3 + l4) 656 ((if (v 56 (Int32.toNatClampNeg (b3 + l4))) = b2 then some (1, v) else ze_let (l4 + 1) (fun x3 => (f_K_has_L7  b1 b2 b3 kk n x3 v))))))
def f_K_has  (a1 : Int32) (a2 : Int32) (v : ze_H) : Option (Int32 × ze_H) :=
  ze_let (a1 * 4) (fun x1 => ze_let 0 (fun x2 => (f_K_has_L7  a1 a2 x1 (fun  v4 => some (0, v4)) 200000 x2 v)))
set_option maxHeartbeats 4000000 in
set_option maxRecDepth 100000 in
theorem w_K_has_L7 {G : ze_G}  (X : ze_X G bc_K_has cn_K 5 0 0) (Y : ze_Ri G .boolean)    (b1 : Int32) (b2 : Int32) (b3 : Int32)  {kk : ze_H → Option (Int32 × ze_H)} (hkk : ∀ (v : ze_H), ze_T G (kk  v) v 39 [none, none, none, none, none] []) : ∀ (n : Nat) (l4 : Int32) (v : ze_H), ze_T G (f_K_has_L7  b1 b2 b3 kk n l4 v) v 7 [some (.inr 53), some (.inl b1), some (.inl b2), some (.inl b3), some (.inl l4)] [] := by
  intro n
  induction n with
  | zero => intro l4 v; exact ze_none
  | succ n ih =>
    intro l4 v
    refine ze_iload X dc_K_has_7 rfl ?_
    refine ze_aload_n X dc_K_has_9 rfl rfl ?_
    refine ze_getr X dc_K_has_10 zf_K_9 sh_53 rfl ?_
    refine ze_iload_n X dc_K_has_13 rfl rfl ?_
    refine ze_iald X dc_K_has_14 sh_54 rfl (fun _ => ?_)
    refine ze_icmp_ge (tgt := 39) X dc_K_has_15 (by decide) (fun _ => ?_) (fun _ => ?_)
    · refine ze_weak [false, false, false, false, false] ?_
      exact hkk  v
    · refine ze_aload_n X dc_K_has_18 rfl rfl ?_
      refine ze_getr X dc_K_has_19 zf_K_18 sh_53 rfl ?_
      refine ze_iload_n X dc_K_has_22 rfl rfl ?_
      refine ze_iload X dc_K_has_23 rfl ?_
      refine ze_iadd X dc_K_has_25 ?_
      refine ze_iald X dc_K_has_26 sh_56 rfl (fun _ => ?_)
      refine ze_iload_n X dc_K_has_27 rfl rfl ?_
      refine ze_icmp_ne (tgt := 33) X dc_K_has_28 (by decide) (fun _ => ?_) (fun _ => ?_)
      · refine ze_iconst (x := 1) X dc_K_has_31 (by decide) ?_
        exact ze_iret X Y rfl dc_K_has_32
      · refine ze_iinc (y := 1) X dc_K_has_33 rfl (by decide) (by decide) (fun x3 => ?_)
        refine ze_goto (tgt := 7) X dc_K_has_36 (by decide) ?_
        refine ze_weak [true, true, true, true, true] ?_
        exact ih x3 v
set_option maxHeartbeats 4000000 in
set_option maxRecDepth 100000 in
theorem w_K_has {G : ze_G}  (X : ze_X G bc_K_has cn_K 5 0 0) (Y : ze_Ri G .boolean)    (a1 : Int32) (a2 : Int32)  (v : ze_H) : ze_T G (f_K_has  a1 a2 v) v 0 [some (.inr 53), some (.inl a1), some (.inl a2), none, none] [] := by
  refine ze_iload_n X dc_K_has_0 rfl rfl ?_
  refine ze_iconst (x := 4) X dc_K_has_1 (by decide) ?_
  refine ze_imul X dc_K_has_2 ?_
  refine ze_istore_n X dc_K_has_3 rfl (by decide) (fun x1 => ?_)
  refine ze_iconst (x := 0) X dc_K_has_4 (by decide) ?_
  refine ze_istore X dc_K_has_5 (by decide) (fun x2 => ?_)
  refine ze_weak [true, true, true, true, true] ?_
  refine w_K_has_L7 X Y    a1 a2 x1  (fun  v4 => ?_) 200000 x2 v
  refine ze_iconst (x := 0) X dc_K_has_39 (by decide) ?_
  exact ze_iret X Y rfl dc_K_has_40
set_option maxHeartbeats 4000000 in
set_option maxRecDepth 100000 in
theorem c_K_has {l : Launch} {D : va_G} {ad : Nat → Nat} {ca : Nat → ClassId} (hD : va_D (ze_A ad) (ze_ws ze_sh ad ca (fun _ _ => 0)))     (a1 : Int32) (a2 : Int32)  (v : ze_H) {r : Int32} {v1 : ze_H} (h : f_K_has  a1 a2 v = some (r, v1)) : ze_Mi l D ad ca my_K_has bc_K_has 5 .boolean 0 0 [.inr 53, .inl a1, .inl a2] v r v1 := ze_Mi_of (plainFor_of_name (by decide)) hD (Nat.le_of_ble_eq_true rfl) (fun G e1 e2 e3 e4 X Y => w_K_has X Y    a1 a2  v) h
def f_K_addLatest_J37  (b1 : Int32) (b2 : Int32) (b3 : Int32) (v : ze_H) : Option (Int32 × ze_H) :=
  ze_in b1 164 (ze_in (b3 + (v 54 (Int32.toNatClampNeg b1))) 656 (ze_lev (ze_u v 56 (Int32.toNatClampNeg (b3 + (v 54 (Int32.toNatClampNeg b1)))) b2) (fun v2 => ze_in b1 164 (ze_in b1 164 (ze_lev (ze_u v2 54 (Int32.toNatClampNeg b1) ((v2 54 (Int32.toNatClampNeg b1)) + 1)) (fun v3 => some (0, v3)))))))
def f_K_addLatest  (a1 : Int32) (a2 : Int32) (v : ze_H) : Option (Int32 × ze_H) :=
  ze_let (a1 * 4) (fun x1 => ze_in a1 164 ((if (v 54 (Int32.toNatClampNeg a1)) < 4 then (f_K_addLatest_J37  a1 a2 x1 v) else ze_cpyT v 56 656 56 656 (x1 + 1) x1 3 (fun v4 => ze_in a1 164 (ze_lev (ze_u v4 54 (Int32.toNatClampNeg a1) 3) (fun v5 => (f_K_addLatest_J37  a1 a2 x1 v5)))))))
set_option maxHeartbeats 4000000 in
set_option maxRecDepth 100000 in
theorem w_K_addLatest_J37 {G : ze_G}  (X : ze_X G bc_K_addLatest cn_K 4 1 60) (Y : ze_Rv G)    (b1 : Int32) (b2 : Int32) (b3 : Int32)  (v : ze_H) : ze_T G (f_K_addLatest_J37  b1 b2 b3 v) v 37 [some (.inr 53), some (.inl b1), some (.inl b2), some (.inl b3)] [] := by
  refine ze_aload_n X dc_K_addLatest_37 rfl rfl ?_
  refine ze_getr X dc_K_addLatest_38 zf_K_18 sh_53 rfl ?_
  refine ze_iload_n X dc_K_addLatest_41 rfl rfl ?_
  refine ze_aload_n X dc_K_addLatest_42 rfl rfl ?_
  refine ze_getr X dc_K_addLatest_43 zf_K_9 sh_53 rfl ?_
  refine ze_iload_n X dc_K_addLatest_46 rfl rfl ?_
  refine ze_iald X dc_K_addLatest_47 sh_54 rfl (fun _ => ?_)
  refine ze_iadd X dc_K_addLatest_48 ?_
  refine ze_iload_n X dc_K_addLatest_49 rfl rfl ?_
  refine ze_iast X dc_K_addLatest_50 sh_56 rfl (fun v2 _ => ?_)
  refine ze_aload_n X dc_K_addLatest_51 rfl rfl ?_
  refine ze_getr X dc_K_addLatest_52 zf_K_9 sh_53 rfl ?_
  refine ze_iload_n X dc_K_addLatest_55 rfl rfl ?_
  refine ze_dup2 X dc_K_addLatest_56 ?_
  refine ze_iald X dc_K_addLatest_57 sh_54 rfl (fun _ => ?_)
  refine ze_iconst (x := 1) X dc_K_addLatest_58 (by decide) ?_
  refine ze_iadd X dc_K_addLatest_59 ?_
  refine ze_iast X dc_K_addLatest_60 sh_54 rfl (fun v3 _ => ?_)
  exact ze_vret X Y dc_K_addLatest_61
set_option maxHeartbeats 4000000 in
set_option maxRecDepth 100000 in
theorem w_K_addLatest {G : ze_G}  (X : ze_X G bc_K_addLatest cn_K 4 1 60) (Y : ze_Rv G)    (a1 : Int32) (a2 : Int32)  (v : ze_H) : ze_T G (f_K_addLatest  a1 a2 v) v 0 [some (.inr 53), some (.inl a1), some (.inl a2), none] [] := by
  refine ze_iload_n X dc_K_addLatest_0 rfl rfl ?_
  refine ze_iconst (x := 4) X dc_K_addLatest_1 (by decide) ?_
  refine ze_imul X dc_K_addLatest_2 ?_
  refine ze_istore_n X dc_K_addLatest_3 rfl (by decide) (fun x1 => ?_)
  refine ze_aload_n X dc_K_addLatest_4 rfl rfl ?_
  refine ze_getr X dc_K_addLatest_5 zf_K_9 sh_53 rfl ?_
  refine ze_iload_n X dc_K_addLatest_8 rfl rfl ?_
  refine ze_iald X dc_K_addLatest_9 sh_54 rfl (fun _ => ?_)
  refine ze_iconst (x := 4) X dc_K_addLatest_10 (by decide) ?_
  refine ze_icmp_lt (tgt := 37) X dc_K_addLatest_11 (by decide) (fun _ => ?_) (fun _ => ?_)
  · refine ze_weak [true, true, true, true] ?_
    exact w_K_addLatest_J37 X Y    a1 a2 x1  v
  · refine ze_aload_n X dc_K_addLatest_14 rfl rfl ?_
    refine ze_getr X dc_K_addLatest_15 zf_K_18 sh_53 rfl ?_
    refine ze_iload_n X dc_K_addLatest_18 rfl rfl ?_
    refine ze_iconst (x := 1) X dc_K_addLatest_19 (by decide) ?_
    refine ze_iadd X dc_K_addLatest_20 ?_
    refine ze_aload_n X dc_K_addLatest_21 rfl rfl ?_
    refine ze_getr X dc_K_addLatest_22 zf_K_18 sh_53 rfl ?_
    refine ze_iload_n X dc_K_addLatest_25 rfl rfl ?_
    refine ze_iconst (x := 3) X dc_K_addLatest_26 (by decide) ?_
    refine ze_cpy X dc_K_addLatest_27 za_K_27 sh_56 sh_56 rfl rfl (by decide) (by decide) (Nat.le_of_ble_eq_true rfl) (fun v4 => ?_)
    refine ze_aload_n X dc_K_addLatest_30 rfl rfl ?_
    refine ze_getr X dc_K_addLatest_31 zf_K_9 sh_53 rfl ?_
    refine ze_iload_n X dc_K_addLatest_34 rfl rfl ?_
    refine ze_iconst (x := 3) X dc_K_addLatest_35 (by decide) ?_
    refine ze_iast X dc_K_addLatest_36 sh_54 rfl (fun v5 _ => ?_)
    refine ze_weak [true, true, true, true] ?_
    exact w_K_addLatest_J37 X Y    a1 a2 x1  v5
set_option maxHeartbeats 4000000 in
set_option maxRecDepth 100000 in
theorem c_K_addLatest {l : Launch} {D : va_G} {ad : Nat → Nat} {ca : Nat → ClassId} (hD : va_D (ze_A ad) (ze_ws ze_sh ad ca (fun _ _ => 0)))     (a1 : Int32) (a2 : Int32)  (v : ze_H) {r : Int32} {v1 : ze_H} (h : f_K_addLatest  a1 a2 v = some (r, v1)) : ze_Mv l D ad ca my_K_addLatest bc_K_addLatest 4 1 60 [.inr 53, .inl a1, .inl a2] v v1 := ze_Mv_of (plainFor_of_name (by decide)) hD (Nat.le_of_ble_eq_true rfl) (fun G e1 e2 e3 e4 X Y => w_K_addLatest X Y    a1 a2  v) h
def f_K_addInOrder_L27  (b1 : Int32) (b2 : Int32) (b3 : Int32) (b4 : Int32) (kk : Int32 → ze_H → Option (Int32 × ze_H)) : Nat → Int32 → ze_H → Option (Int32 × ze_H)
  | 0, _, _ => none
  | n + 1, l5, v =>
    (if l5 ≤ b4 then (kk l5 v) else ze_in (l5 - 1) 656 ((if (v 56 (Int32.toNatClampNeg (l5 - 1))) ≤ b3 then (kk l5 v) else ze_in (l5 - 1) 656 (ze_in l5 656 (ze_lev (ze_u v 55 (Int32.toNatClampNeg l5) (v 55 (Int32.toNatClampNeg (l5 - 1)))) (fun v3 => ze_in (l5 - 1) 656 (ze_in l5 656 (ze_lev (ze_u v3 56 (Int32.toNatClampNeg l5) (v3 56 (Int32.toNatClampNeg (l5 - 1)))) (fun v4 => ze_let (l5 + (-1)) (fun x5 => (f_K_addInOrder_L27  b1 b2 b3 b4 kk n x5 v4)))))))))))
def f_K_addInOrder_J85  (b1 : Int32) (b2 : Int32) (b3 : Int32) (b5 : Int32) (v : ze_H) : Option (Int32 × ze_H) :=
  ze_in b5 656 (ze_lev (ze_u v 55 (Int32.toNatClampNeg b5) b2) (fun v8 => ze_in b5 656 (ze_lev (ze_u v8 56 (Int32.toNatClampNeg b5) b3) (fun v9 => ze_in b1 164 (ze_in b1 164 (ze_lev (ze_u v9 54 (Int32.toNatClampNeg b1) ((v9 54 (Int32.toNatClampNeg b1)) + 1)) (fun v10 => some (0, v10))))))))
def f_K_addInOrder  (a1 : Int32) (a2 : Int32) (a3 : Int32) (v : ze_H) : Option (Int32 × ze_H) :=
  ze_in a1 164 ((if (v 54 (Int32.toNatClampNeg a1)) < 4 then ze_let (a1 * 4) (fun x1 => ze_in a1 164 (ze_let (x1 + (v 54 (Int32.toNatClampNeg a1))) (fun x2 => (f_K_addInOrder_L27  a1 a2 a3 x1 (fun x6 v7 => (f_K_addInOrder_J85  a1 a2 a3 x6 v7)) 200000 x2 v)))) else some (0, v)))
set_option maxHeartbeats 4000000 in
set_option maxRecDepth 100000 in
theorem w_K_addInOrder_L27 {G : ze_G}  (X : ze_X G bc_K_addInOrder cn_K 6 0 0) (Y : ze_Rv G)    (b1 : Int32) (b2 : Int32) (b3 : Int32) (b4 : Int32)  {kk : Int32 → ze_H → Option (Int32 × ze_H)} (hkk : ∀ (l5 : Int32) (v : ze_H), ze_T G (kk l5 v) v 85 [some (.inr 53), some (.inl b1), some (.inl b2), some (.inl b3), none, some (.inl l5)] []) : ∀ (n : Nat) (l5 : Int32) (v : ze_H), ze_T G (f_K_addInOrder_L27  b1 b2 b3 b4 kk n l5 v) v 27 [some (.inr 53), some (.inl b1), some (.inl b2), some (.inl b3), some (.inl b4), some (.inl l5)] [] := by
  intro n
  induction n with
  | zero => intro l5 v; exact ze_none
  | succ n ih =>
    intro l5 v
    refine ze_iload X dc_K_addInOrder_27 rfl ?_
    refine ze_iload X dc_K_addInOrder_29 rfl ?_
    refine ze_icmp_le (tgt := 85) X dc_K_addInOrder_31 (by decide) (fun _ => ?_) (fun _ => ?_)
    · refine ze_weak [true, true, true, true, false, true] ?_
      exact hkk l5 v
    · refine ze_aload_n X dc_K_addInOrder_34 rfl rfl ?_
      refine ze_getr X dc_K_addInOrder_35 zf_K_18 sh_53 rfl ?_
      refine ze_iload X dc_K_addInOrder_38 rfl ?_
      refine ze_iconst (x := 1) X dc_K_addInOrder_40 (by decide) ?_
      refine ze_isub X dc_K_addInOrder_41 ?_
      refine ze_iald X dc_K_addInOrder_42 sh_56 rfl (fun _ => ?_)
      refine ze_iload_n X dc_K_addInOrder_43 rfl rfl ?_
      refine ze_icmp_le (tgt := 85) X dc_K_addInOrder_44 (by decide) (fun _ => ?_) (fun _ => ?_)
      · refine ze_weak [true, true, true, true, false, true] ?_
        exact hkk l5 v
      · refine ze_aload_n X dc_K_addInOrder_47 rfl rfl ?_
        refine ze_getr X dc_K_addInOrder_48 zf_K_15 sh_53 rfl ?_
        refine ze_iload X dc_K_addInOrder_51 rfl ?_
        refine ze_aload_n X dc_K_addInOrder_53 rfl rfl ?_
        refine ze_getr X dc_K_addInOrder_54 zf_K_15 sh_53 rfl ?_
        refine ze_iload X dc_K_addInOrder_57 rfl ?_
        refine ze_iconst (x := 1) X dc_K_addInOrder_59 (by decide) ?_
        refine ze_isub X dc_K_addInOrder_60 ?_
        refine ze_iald X dc_K_addInOrder_61 sh_55 rfl (fun _ => ?_)
        refine ze_iast X dc_K_addInOrder_62 sh_55 rfl (fun v3 _ => ?_)
        refine ze_aload_n X dc_K_addInOrder_63 rfl rfl ?_
        refine ze_getr X dc_K_addInOrder_64 zf_K_18 sh_53 rfl ?_
        refine ze_iload X dc_K_addInOrder_67 rfl ?_
        refine ze_aload_n X dc_K_addInOrder_69 rfl rfl ?_
        refine ze_getr X dc_K_addInOrder_70 zf_K_18 sh_53 rfl ?_
        refine ze_iload X dc_K_addInOrder_73 rfl ?_
        refine ze_iconst (x := 1) X dc_K_addInOrder_75 (by decide) ?_
        refine ze_isub X dc_K_addInOrder_76 ?_
        refine ze_iald X dc_K_addInOrder_77 sh_56 rfl (fun _ => ?_)
        refine ze_iast X dc_K_addInOrder_78 sh_56 rfl (fun v4 _ => ?_)
        refine ze_iinc (y := (-1)) X dc_K_addInOrder_79 rfl (by decide) (by decide) (fun x5 => ?_)
        refine ze_goto (tgt := 27) X dc_K_addInOrder_82 (by decide) ?_
        refine ze_weak [true, true, true, true, true, true] ?_
        exact ih x5 v4
set_option maxHeartbeats 4000000 in
set_option maxRecDepth 100000 in
theorem w_K_addInOrder_J85 {G : ze_G}  (X : ze_X G bc_K_addInOrder cn_K 6 0 0) (Y : ze_Rv G)    (b1 : Int32) (b2 : Int32) (b3 : Int32) (b5 : Int32)  (v : ze_H) : ze_T G (f_K_addInOrder_J85  b1 b2 b3 b5 v) v 85 [some (.inr 53), some (.inl b1), some (.inl b2), some (.inl b3), none, some (.inl b5)] [] := by
  refine ze_aload_n X dc_K_addInOrder_85 rfl rfl ?_
  refine ze_getr X dc_K_addInOrder_86 zf_K_15 sh_53 rfl ?_
  refine ze_iload X dc_K_addInOrder_89 rfl ?_
  refine ze_iload_n X dc_K_addInOrder_91 rfl rfl ?_
  refine ze_iast X dc_K_addInOrder_92 sh_55 rfl (fun v8 _ => ?_)
  refine ze_aload_n X dc_K_addInOrder_93 rfl rfl ?_
  refine ze_getr X dc_K_addInOrder_94 zf_K_18 sh_53 rfl ?_
  refine ze_iload X dc_K_addInOrder_97 rfl ?_
  refine ze_iload_n X dc_K_addInOrder_99 rfl rfl ?_
  refine ze_iast X dc_K_addInOrder_100 sh_56 rfl (fun v9 _ => ?_)
  refine ze_aload_n X dc_K_addInOrder_101 rfl rfl ?_
  refine ze_getr X dc_K_addInOrder_102 zf_K_9 sh_53 rfl ?_
  refine ze_iload_n X dc_K_addInOrder_105 rfl rfl ?_
  refine ze_dup2 X dc_K_addInOrder_106 ?_
  refine ze_iald X dc_K_addInOrder_107 sh_54 rfl (fun _ => ?_)
  refine ze_iconst (x := 1) X dc_K_addInOrder_108 (by decide) ?_
  refine ze_iadd X dc_K_addInOrder_109 ?_
  refine ze_iast X dc_K_addInOrder_110 sh_54 rfl (fun v10 _ => ?_)
  exact ze_vret X Y dc_K_addInOrder_111
set_option maxHeartbeats 4000000 in
set_option maxRecDepth 100000 in
theorem w_K_addInOrder {G : ze_G}  (X : ze_X G bc_K_addInOrder cn_K 6 0 0) (Y : ze_Rv G)    (a1 : Int32) (a2 : Int32) (a3 : Int32)  (v : ze_H) : ze_T G (f_K_addInOrder  a1 a2 a3 v) v 0 [some (.inr 53), some (.inl a1), some (.inl a2), some (.inl a3), none, none] [] := by
  refine ze_aload_n X dc_K_addInOrder_0 rfl rfl ?_
  refine ze_getr X dc_K_addInOrder_1 zf_K_9 sh_53 rfl ?_
  refine ze_iload_n X dc_K_addInOrder_4 rfl rfl ?_
  refine ze_iald X dc_K_addInOrder_5 sh_54 rfl (fun _ => ?_)
  refine ze_iconst (x := 4) X dc_K_addInOrder_6 (by decide) ?_
  refine ze_icmp_lt (tgt := 11) X dc_K_addInOrder_7 (by decide) (fun _ => ?_) (fun _ => ?_)
  · refine ze_iload_n X dc_K_addInOrder_11 rfl rfl ?_
    refine ze_iconst (x := 4) X dc_K_addInOrder_12 (by decide) ?_
    refine ze_imul X dc_K_addInOrder_13 ?_
    refine ze_istore X dc_K_addInOrder_14 (by decide) (fun x1 => ?_)
    refine ze_iload X dc_K_addInOrder_16 rfl ?_
    refine ze_aload_n X dc_K_addInOrder_18 rfl rfl ?_
    refine ze_getr X dc_K_addInOrder_19 zf_K_9 sh_53 rfl ?_
    refine ze_iload_n X dc_K_addInOrder_22 rfl rfl ?_
    refine ze_iald X dc_K_addInOrder_23 sh_54 rfl (fun _ => ?_)
    refine ze_iadd X dc_K_addInOrder_24 ?_
    refine ze_istore X dc_K_addInOrder_25 (by decide) (fun x2 => ?_)
    refine ze_weak [true, true, true, true, true, true] ?_
    refine w_K_addInOrder_L27 X Y    a1 a2 a3 x1  (fun x6 v7 => ?_) 200000 x2 v
    refine ze_weak [true, true, true, true, false, true] ?_
    exact w_K_addInOrder_J85 X Y    a1 a2 a3 x6  v7
  · exact ze_vret X Y dc_K_addInOrder_10
set_option maxHeartbeats 4000000 in
set_option maxRecDepth 100000 in
theorem c_K_addInOrder {l : Launch} {D : va_G} {ad : Nat → Nat} {ca : Nat → ClassId} (hD : va_D (ze_A ad) (ze_ws ze_sh ad ca (fun _ _ => 0)))     (a1 : Int32) (a2 : Int32) (a3 : Int32)  (v : ze_H) {r : Int32} {v1 : ze_H} (h : f_K_addInOrder  a1 a2 a3 v = some (r, v1)) : ze_Mv l D ad ca my_K_addInOrder bc_K_addInOrder 6 0 0 [.inr 53, .inl a1, .inl a2, .inl a3] v v1 := ze_Mv_of (plainFor_of_name (by decide)) hD (Nat.le_of_ble_eq_true rfl) (fun G e1 e2 e3 e4 X Y => w_K_addInOrder X Y    a1 a2 a3  v) h
def f_N_accept  (k0 : Nat) (a1 : Int32) (a2 : Int32) (v : ze_H) : Option (Int32 × ze_H) :=
  ze_call (f_JM_floorMod  (v k0 2) 8 v) (fun r1 v2 => ze_let r1 (fun x3 => ze_in x3 8 (ze_lev (ze_u v2 (k0 + 1) (Int32.toNatClampNeg x3) a1) (fun v4 => ze_in x3 8 (ze_lev (ze_u v4 (k0 + 2) (Int32.toNatClampNeg x3) a2) (fun v5 => ze_lev (ze_u v5 k0 2 ((v5 k0 2) + 1)) (fun v6 => some (0, v6))))))))
set_option maxHeartbeats 4000000 in
set_option maxRecDepth 100000 in
theorem w_N_accept {G : ze_G}  (X : ze_X G bc_N_accept cn_N 4 1 22) (Y : ze_Rv G)    (k0 : Nat) (a1 : Int32) (a2 : Int32) (hk0 : ze_isEndpoint k0) (v : ze_H) : ze_T G (f_N_accept  k0 a1 a2 v) v 0 [some (.inr k0), some (.inl a1), some (.inl a2), none] [] := by
  refine ze_aload_n X dc_N_accept_0 rfl rfl ?_
  refine ze_geti X dc_N_accept_1 zf_N_18 hk0.1 rfl ?_
  refine ze_bipush (x := 8) X dc_N_accept_4 (by decide) ?_
  refine ze_callSi (As := [.inl (v k0 2), .inl 8]) (st := []) X dc_N_accept_6 zc_N_22 (fun zr zv zh => c_JM_floorMod X.2.2.2.2.2.2.1  (v k0 2) 8  v zh) rfl (by decide) (by decide) (Nat.le_of_ble_eq_true rfl) (fun r1 v2 => ?_)
  refine ze_istore_n X dc_N_accept_9 rfl (by decide) (fun x3 => ?_)
  refine ze_aload_n X dc_N_accept_10 rfl rfl ?_
  refine ze_getr X dc_N_accept_11 zf_N_9 hk0.1 rfl ?_
  refine ze_iload_n X dc_N_accept_14 rfl rfl ?_
  refine ze_iload_n X dc_N_accept_15 rfl rfl ?_
  refine ze_iast X dc_N_accept_16 hk0.2.1 rfl (fun v4 _ => ?_)
  refine ze_aload_n X dc_N_accept_17 rfl rfl ?_
  refine ze_getr X dc_N_accept_18 zf_N_15 hk0.1 rfl ?_
  refine ze_iload_n X dc_N_accept_21 rfl rfl ?_
  refine ze_iload_n X dc_N_accept_22 rfl rfl ?_
  refine ze_iast X dc_N_accept_23 hk0.2.2 rfl (fun v5 _ => ?_)
  refine ze_aload_n X dc_N_accept_24 rfl rfl ?_
  refine ze_dup X dc_N_accept_25 ?_
  refine ze_geti X dc_N_accept_26 zf_N_18 hk0.1 rfl ?_
  refine ze_iconst (x := 1) X dc_N_accept_29 (by decide) ?_
  refine ze_iadd X dc_N_accept_30 ?_
  refine ze_puti X dc_N_accept_31 zp_N_18 hk0.1 rfl (fun v6 => ?_)
  exact ze_vret X Y dc_N_accept_34
set_option maxHeartbeats 4000000 in
set_option maxRecDepth 100000 in
theorem c_N_accept {l : Launch} {D : va_G} {ad : Nat → Nat} {ca : Nat → ClassId} (hD : va_D (ze_A ad) (ze_ws ze_sh ad ca (fun _ _ => 0)))     (k0 : Nat) (a1 : Int32) (a2 : Int32) (hk0 : ze_isEndpoint k0) (v : ze_H) {r : Int32} {v1 : ze_H} (h : f_N_accept  k0 a1 a2 v = some (r, v1)) : ze_Mv l D ad ca my_N_accept bc_N_accept 4 1 22 [.inr k0, .inl a1, .inl a2] v v1 := ze_Mv_of (plainFor_of_name (by decide)) hD (Nat.le_of_ble_eq_true rfl) (fun G e1 e2 e3 e4 X Y => w_N_accept X Y    k0 a1 a2 hk0 v) h
def f_N_slotBefore  (k0 : Nat) (a1 : Int32) (v : ze_H) : Option (Int32 × ze_H) :=
  ze_call (f_JM_floorMod  (((v k0 2) - 1) - a1) 8 v) (fun r1 v2 => some (r1, v2))
set_option maxHeartbeats 4000000 in
set_option maxRecDepth 100000 in
theorem w_N_slotBefore {G : ze_G}  (X : ze_X G bc_N_slotBefore cn_N 2 1 22) (Y : ze_Ri G .int)    (k0 : Nat) (a1 : Int32) (hk0 : ze_isEndpoint k0) (v : ze_H) : ze_T G (f_N_slotBefore  k0 a1 v) v 0 [some (.inr k0), some (.inl a1)] [] := by
  refine ze_aload_n X dc_N_slotBefore_0 rfl rfl ?_
  refine ze_geti X dc_N_slotBefore_1 zf_N_18 hk0.1 rfl ?_
  refine ze_iconst (x := 1) X dc_N_slotBefore_4 (by decide) ?_
  refine ze_isub X dc_N_slotBefore_5 ?_
  refine ze_iload_n X dc_N_slotBefore_6 rfl rfl ?_
  refine ze_isub X dc_N_slotBefore_7 ?_
  refine ze_bipush (x := 8) X dc_N_slotBefore_8 (by decide) ?_
  refine ze_callSi (As := [.inl (((v k0 2) - 1) - a1), .inl 8]) (st := []) X dc_N_slotBefore_10 zc_N_22 (fun zr zv zh => c_JM_floorMod X.2.2.2.2.2.2.1  (((v k0 2) - 1) - a1) 8  v zh) rfl (by decide) (by decide) (Nat.le_of_ble_eq_true rfl) (fun r1 v2 => ?_)
  exact ze_iret X Y (vp_nar_int _) dc_N_slotBefore_13
set_option maxHeartbeats 4000000 in
set_option maxRecDepth 100000 in
theorem c_N_slotBefore {l : Launch} {D : va_G} {ad : Nat → Nat} {ca : Nat → ClassId} (hD : va_D (ze_A ad) (ze_ws ze_sh ad ca (fun _ _ => 0)))     (k0 : Nat) (a1 : Int32) (hk0 : ze_isEndpoint k0) (v : ze_H) {r : Int32} {v1 : ze_H} (h : f_N_slotBefore  k0 a1 v = some (r, v1)) : ze_Mi l D ad ca my_N_slotBefore bc_N_slotBefore 2 .int 1 22 [.inr k0, .inl a1] v r v1 := ze_Mi_of (plainFor_of_name (by decide)) hD (Nat.le_of_ble_eq_true rfl) (fun G e1 e2 e3 e4 X Y => w_N_slotBefore X Y    k0 a1 hk0 v) h
