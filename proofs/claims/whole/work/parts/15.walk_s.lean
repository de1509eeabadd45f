def f_JS_isLatin1  (k0 : Nat) (v : ze_H) : Option (Int32 × ze_H) :=
  (if (1 : Int32) = 0 then some (0, v) else (if (0 : Int32) = 0 then some (1, v) else some (0, v)))
set_option maxHeartbeats 4000000 in
set_option maxRecDepth 100000 in
theorem w_JS_isLatin1 {G : ze_G}  (X : ze_X G bc_JS_isLatin1 cn_JS 1 0 0) (Y : ze_Ri G .boolean)    (k0 : Nat) (hk0 : k0 < ze_sn) (v : ze_H) : ze_T G (f_JS_isLatin1  k0 v) v 0 [some (.inr (1000 + k0))] [] := by
  refine ze_gcs X dc_JS_isLatin1_0 zs_JS_38 ?_
  refine ze_if_eq (tgt := 17) X dc_JS_isLatin1_3 (by decide) (fun _ => ?_) (fun _ => ?_)
  · refine ze_iconst (x := 0) X dc_JS_isLatin1_17 (by decide) ?_
    exact ze_iret X Y rfl dc_JS_isLatin1_18
  · refine ze_aload_n X dc_JS_isLatin1_6 rfl rfl ?_
    refine ze_gcod X dc_JS_isLatin1_7 zs_JS_15 hk0 ?_
    refine ze_if_ne (tgt := 17) X dc_JS_isLatin1_10 (by decide) (fun _ => ?_) (fun _ => ?_)
    · refine ze_iconst (x := 1) X dc_JS_isLatin1_13 (by decide) ?_
      refine ze_goto (tgt := 18) X dc_JS_isLatin1_14 (by decide) ?_
      exact ze_iret X Y rfl dc_JS_isLatin1_18
    · refine ze_iconst (x := 0) X dc_JS_isLatin1_17 (by decide) ?_
      exact ze_iret X Y rfl dc_JS_isLatin1_18
set_option maxHeartbeats 4000000 in
set_option maxRecDepth 100000 in
theorem c_JS_isLatin1 {l : Launch} {D : va_G} {ad : Nat → Nat} {ca : Nat → ClassId} (hD : va_D (ze_A ad) (ze_ws ze_sh ad ca (fun _ _ => 0)))     (k0 : Nat) (hk0 : k0 < ze_sn) (v : ze_H) {r : Int32} {v1 : ze_H} (h : f_JS_isLatin1  k0 v = some (r, v1)) : ze_Mi l D ad ca my_JS_isLatin1 bc_JS_isLatin1 1 .boolean 0 0 [.inr (1000 + k0)] v r v1 := ze_Mi_of (plainFor_of_name (by decide)) hD (Nat.le_of_ble_eq_true rfl) (fun G e1 e2 e3 e4 X Y => w_JS_isLatin1 X Y    k0 hk0 v) h
def f_JS_coder  (k0 : Nat) (v : ze_H) : Option (Int32 × ze_H) :=
  (if (1 : Int32) = 0 then ze_rt 1 v else ze_rt 0 v)
set_option maxHeartbeats 4000000 in
set_option maxRecDepth 100000 in
theorem w_JS_coder {G : ze_G}  (X : ze_X G bc_JS_coder cn_JS 1 0 0) (Y : ze_Ri G .byte)    (k0 : Nat) (hk0 : k0 < ze_sn) (v : ze_H) : ze_T G (f_JS_coder  k0 v) v 0 [some (.inr (1000 + k0))] [] := by
  refine ze_gcs X dc_JS_coder_0 zs_JS_38 ?_
  refine ze_if_eq (tgt := 13) X dc_JS_coder_3 (by decide) (fun _ => ?_) (fun _ => ?_)
  · refine ze_iconst (x := 1) X dc_JS_coder_13 (by decide) ?_
    exact ze_bret X Y dc_JS_coder_14
  · refine ze_aload_n X dc_JS_coder_6 rfl rfl ?_
    refine ze_gcod X dc_JS_coder_7 zs_JS_15 hk0 ?_
    refine ze_goto (tgt := 14) X dc_JS_coder_10 (by decide) ?_
    exact ze_bret X Y dc_JS_coder_14
set_option maxHeartbeats 4000000 in
set_option maxRecDepth 100000 in
theorem c_JS_coder {l : Launch} {D : va_G} {ad : Nat → Nat} {ca : Nat → ClassId} (hD : va_D (ze_A ad) (ze_ws ze_sh ad ca (fun _ _ => 0)))     (k0 : Nat) (hk0 : k0 < ze_sn) (v : ze_H) {r : Int32} {v1 : ze_H} (h : f_JS_coder  k0 v = some (r, v1)) : ze_Mi l D ad ca my_JS_coder bc_JS_coder 1 .byte 0 0 [.inr (1000 + k0)] v r v1 := ze_Mi_of (plainFor_of_name (by decide)) hD (Nat.le_of_ble_eq_true rfl) (fun G e1 e2 e3 e4 X Y => w_JS_coder X Y    k0 hk0 v) h
def f_JS_length  (k0 : Nat) (v : ze_H) : Option (Int32 × ze_H) :=
  ze_call (f_JS_coder  k0 v) (fun r1 v2 => some (((Int32.ofNat (ze_sl.getD k0 0)) >>> (r1 &&& 31)), v2))
set_option maxHeartbeats 4000000 in
set_option maxRecDepth 100000 in
theorem w_JS_length {G : ze_G}  (X : ze_X G bc_JS_length cn_JS 1 1 20) (Y : ze_Ri G .int)    (k0 : Nat) (hk0 : k0 < ze_sn) (v : ze_H) : ze_T G (f_JS_length  k0 v) v 0 [some (.inr (1000 + k0))] [] := by
  refine ze_aload_n X dc_JS_length_0 rfl rfl ?_
  refine ze_gval X dc_JS_length_1 zs_JS_9 hk0 ?_
  refine ze_blen X dc_JS_length_4 hk0 ?_
  refine ze_aload_n X dc_JS_length_5 rfl rfl ?_
  refine ze_callKi (As := []) (st := [.inl (Int32.ofNat (ze_sl.getD k0 0))]) X dc_JS_length_6 zc_JS_335 hk0 (fun zr zv zh => c_JS_coder X.2.2.2.2.2.2.1  k0 hk0 v zh) rfl (by decide) (by decide) (Nat.le_of_ble_eq_true rfl) rfl (fun r1 v2 => ?_)
  refine ze_ishr X dc_JS_length_9 ?_
  exact ze_iret X Y (vp_nar_int _) dc_JS_length_10
set_option maxHeartbeats 4000000 in
set_option maxRecDepth 100000 in
theorem c_JS_length {l : Launch} {D : va_G} {ad : Nat → Nat} {ca : Nat → ClassId} (hD : va_D (ze_A ad) (ze_ws ze_sh ad ca (fun _ _ => 0)))     (k0 : Nat) (hk0 : k0 < ze_sn) (v : ze_H) {r : Int32} {v1 : ze_H} (h : f_JS_length  k0 v = some (r, v1)) : ze_Mi l D ad ca my_JS_length bc_JS_length 1 .int 1 20 [.inr (1000 + k0)] v r v1 := ze_Mi_of (plainFor_of_name (by decide)) hD (Nat.le_of_ble_eq_true rfl) (fun G e1 e2 e3 e4 X Y => w_JS_length X Y    k0 hk0 v) h
def f_JL_canEncode  (a1 : Int32) (v : ze_H) : Option (Int32 × ze_H) :=
  (if a1 < 0 then some (0, v) else (if 255 < a1 then some (0, v) else some (1, v)))
set_option maxHeartbeats 4000000 in
set_option maxRecDepth 100000 in
theorem w_JL_canEncode {G : ze_G}  (X : ze_X G bc_JL_canEncode cn_JL 1 0 0) (Y : ze_Ri G .boolean)    (a1 : Int32)  (v : ze_H) : ze_T G (f_JL_canEncode  a1 v) v 0 [some (.inl a1)] [] := by
  refine ze_iload_n X dc_JL_canEncode_0 rfl rfl ?_
  refine ze_if_lt (tgt := 15) X dc_JL_canEncode_1 (by decide) (fun _ => ?_) (fun _ => ?_)
  · refine ze_iconst (x := 0) X dc_JL_canEncode_15 (by decide) ?_
    exact ze_iret X Y rfl dc_JL_canEncode_16
  · refine ze_iload_n X dc_JL_canEncode_4 rfl rfl ?_
    refine ze_sipush (x := 255) X dc_JL_canEncode_5 (by decide) ?_
    refine ze_icmp_gt (tgt := 15) X dc_JL_canEncode_8 (by decide) (fun _ => ?_) (fun _ => ?_)
    · refine ze_iconst (x := 0) X dc_JL_canEncode_15 (by decide) ?_
      exact ze_iret X Y rfl dc_JL_canEncode_16
    · refine ze_iconst (x := 1) X dc_JL_canEncode_11 (by decide) ?_
      refine ze_goto (tgt := 16) X dc_JL_canEncode_12 (by decide) ?_
      exact ze_iret X Y rfl dc_JL_canEncode_16
set_option maxHeartbeats 4000000 in
set_option maxRecDepth 100000 in
theorem c_JL_canEncode {l : Launch} {D : va_G} {ad : Nat → Nat} {ca : Nat → ClassId} (hD : va_D (ze_A ad) (ze_ws ze_sh ad ca (fun _ _ => 0)))     (a1 : Int32)  (v : ze_H) {r : Int32} {v1 : ze_H} (h : f_JL_canEncode  a1 v = some (r, v1)) : ze_Mi l D ad ca my_JL_canEncode bc_JL_canEncode 1 .boolean 0 0 [.inl a1] v r v1 := ze_Mi_of (plainFor_of_name (by decide)) hD (Nat.le_of_ble_eq_true rfl) (fun G e1 e2 e3 e4 X Y => w_JL_canEncode X Y    a1  v) h
def f_JL_indexOfChar_L7  (k0 : Nat) (b3 : Int32) (b4 : Int32) (kk : ze_H → Option (Int32 × ze_H)) : Nat → Int32 → ze_H → Option (Int32 × ze_H)
  | 0, _, _ => none
  | n + 1, l5, v =>
    (if b3 ≤ l5 then (kk  v) else ze_in l5 (ze_sl.getD k0 0) ((if ((ze_sb.getD k0 []).getD (Int32.toNatClampNeg l5) 0) = b4 then some (l5, v) else ze_let (l5 + 1) (fun x3 => (f_JL_indexOfChar_L7  k0 b3 b4 kk n x3 v)))))
def f_JL_indexOfChar  (a1 : Nat) (a2 : Int32) (a3 : Int32) (a4 : Int32) (v : ze_H) : Option (Int32 × ze_H) :=
  ze_let ((a2).toInt8.toInt32) (fun x1 => ze_let a3 (fun x2 => (f_JL_indexOfChar_L7  a1 a4 x1 (fun  v4 => some ((-1), v4)) 200000 x2 v)))
set_option maxHeartbeats 4000000 in
set_option maxRecDepth 100000 in
theorem w_JL_indexOfChar_L7 {G : ze_G}  (X : ze_X G bc_JL_indexOfChar cn_JL 6 0 0) (Y : ze_Ri G .int)    (k0 : Nat) (b3 : Int32) (b4 : Int32) (hk0 : k0 < ze_sn) {kk : ze_H → Option (Int32 × ze_H)} (hkk : ∀ (v : ze_H), ze_T G (kk  v) v 31 [none, none, none, none, none, none] []) : ∀ (n : Nat) (l5 : Int32) (v : ze_H), ze_T G (f_JL_indexOfChar_L7  k0 b3 b4 kk n l5 v) v 7 [some (.inr (1100 + k0)), none, none, some (.inl b3), some (.inl b4), some (.inl l5)] [] := by
  intro n
  induction n with
  | zero => intro l5 v; exact ze_none
  | succ n ih =>
    intro l5 v
    refine ze_iload X dc_JL_indexOfChar_7 rfl ?_
    refine ze_iload_n X dc_JL_indexOfChar_9 rfl rfl ?_
    refine ze_icmp_ge (tgt := 31) X dc_JL_indexOfChar_10 (by decide) (fun _ => ?_) (fun _ => ?_)
    · refine ze_weak [false, false, false, false, false, false] ?_
      exact hkk  v
    · refine ze_aload_n X dc_JL_indexOfChar_13 rfl rfl ?_
      refine ze_iload X dc_JL_indexOfChar_14 rfl ?_
      refine ze_bald X dc_JL_indexOfChar_16 hk0 (fun _ => ?_)
      refine ze_iload X dc_JL_indexOfChar_17 rfl ?_
      refine ze_icmp_ne (tgt := 25) X dc_JL_indexOfChar_19 (by decide) (fun _ => ?_) (fun _ => ?_)
      · refine ze_iload X dc_JL_indexOfChar_22 rfl ?_
        exact ze_iret X Y (vp_nar_int _) dc_JL_indexOfChar_24
      · refine ze_iinc (y := 1) X dc_JL_indexOfChar_25 rfl (by decide) (by decide) (fun x3 => ?_)
        refine ze_goto (tgt := 7) X dc_JL_indexOfChar_28 (by decide) ?_
        refine ze_weak [true, false, false, true, true, true] ?_
        exact ih x3 v
set_option maxHeartbeats 4000000 in
set_option maxRecDepth 100000 in
theorem w_JL_indexOfChar {G : ze_G}  (X : ze_X G bc_JL_indexOfChar cn_JL 6 0 0) (Y : ze_Ri G .int)    (a1 : Nat) (a2 : Int32) (a3 : Int32) (a4 : Int32) (ha1 : a1 < ze_sn) (v : ze_H) : ze_T G (f_JL_indexOfChar  a1 a2 a3 a4 v) v 0 [some (.inr (1100 + a1)), some (.inl a2), some (.inl a3), some (.inl a4), none, none] [] := by
  refine ze_iload_n X dc_JL_indexOfChar_0 rfl rfl ?_
  refine ze_i2b X dc_JL_indexOfChar_1 ?_
  refine ze_istore X dc_JL_indexOfChar_2 (by decide) (fun x1 => ?_)
  refine ze_iload_n X dc_JL_indexOfChar_4 rfl rfl ?_
  refine ze_istore X dc_JL_indexOfChar_5 (by decide) (fun x2 => ?_)
  refine ze_weak [true, false, false, true, true, true] ?_
  refine w_JL_indexOfChar_L7 X Y    a1 a4 x1 ha1 (fun  v4 => ?_) 200000 x2 v
  refine ze_iconst (x := (-1)) X dc_JL_indexOfChar_31 (by decide) ?_
  exact ze_iret X Y (vp_nar_int _) dc_JL_indexOfChar_32
set_option maxHeartbeats 4000000 in
set_option maxRecDepth 100000 in
theorem c_JL_indexOfChar {l : Launch} {D : va_G} {ad : Nat → Nat} {ca : Nat → ClassId} (hD : va_D (ze_A ad) (ze_ws ze_sh ad ca (fun _ _ => 0)))     (a1 : Nat) (a2 : Int32) (a3 : Int32) (a4 : Int32) (ha1 : a1 < ze_sn) (v : ze_H) {r : Int32} {v1 : ze_H} (h : f_JL_indexOfChar  a1 a2 a3 a4 v = some (r, v1)) : ze_Mi l D ad ca my_JL_indexOfChar bc_JL_indexOfChar 6 .int 0 0 [.inr (1100 + a1), .inl a2, .inl a3, .inl a4] v r v1 := ze_Mi_of (plainFor_of_name (by decide)) hD (Nat.le_of_ble_eq_true rfl) (fun G e1 e2 e3 e4 X Y => w_JL_indexOfChar X Y    a1 a2 a3 a4 ha1 v) h
def f_JL_indexOf  (a1 : Nat) (a2 : Int32) (a3 : Int32) (a4 : Int32) (v : ze_H) : Option (Int32 × ze_H) :=
  ze_call (f_JL_canEncode  a2 v) (fun r1 v2 => (if r1 = 0 then some ((-1), v2) else ze_let (if a3 < 0 then 0 else a3) (fun x3 => ze_let (if (Int32.ofNat (ze_sl.getD a1 0)) < a4 then (Int32.ofNat (ze_sl.getD a1 0)) else a4) (fun x4 => (if x3 < x4 then ze_call (f_JL_indexOfChar  a1 a2 x3 x4 v2) (fun r5 v6 => some (r5, v6)) else some ((-1), v2))))))
set_option maxHeartbeats 4000000 in
set_option maxRecDepth 100000 in
theorem w_JL_indexOf {G : ze_G}  (X : ze_X G bc_JL_indexOf cn_JL 4 1 25) (Y : ze_Ri G .int)    (a1 : Nat) (a2 : Int32) (a3 : Int32) (a4 : Int32) (ha1 : a1 < ze_sn) (v : ze_H) : ze_T G (f_JL_indexOf  a1 a2 a3 a4 v) v 0 [some (.inr (1100 + a1)), some (.inl a2), some (.inl a3), some (.inl a4)] [] := by
  refine ze_iload_n X dc_JL_indexOf_0 rfl rfl ?_
  refine ze_callSi (As := [.inl a2]) (st := []) X dc_JL_indexOf_1 zc_JL_88 (fun zr zv zh => c_JL_canEncode X.2.2.2.2.2.2.1  a2  v zh) rfl (by decide) (by decide) (Nat.le_of_ble_eq_true rfl) (fun r1 v2 => ?_)
  refine ze_if_ne (tgt := 9) X dc_JL_indexOf_4 (by decide) (fun _ => ?_) (fun _ => ?_)
  · refine ze_iconst (x := (-1)) X dc_JL_indexOf_7 (by decide) ?_
    exact ze_iret X Y (vp_nar_int _) dc_JL_indexOf_8
  · refine ze_iload_n X dc_JL_indexOf_9 rfl rfl ?_
    refine ze_iconst (x := 0) X dc_JL_indexOf_10 (by decide) ?_
    refine ze_mmax X dc_JL_indexOf_11 zm_JL_92 (by decide) (by decide) (Nat.le_of_ble_eq_true rfl) ?_
    refine ze_istore_n X dc_JL_indexOf_14 rfl (by decide) (fun x3 => ?_)
    refine ze_iload_n X dc_JL_indexOf_15 rfl rfl ?_
    refine ze_aload_n X dc_JL_indexOf_16 rfl rfl ?_
    refine ze_blen X dc_JL_indexOf_17 ha1 ?_
    refine ze_mmin X dc_JL_indexOf_18 zm_JL_38 (by decide) (by decide) (Nat.le_of_ble_eq_true rfl) ?_
    refine ze_istore_n X dc_JL_indexOf_21 rfl (by decide) (fun x4 => ?_)
    refine ze_iload_n X dc_JL_indexOf_22 rfl rfl ?_
    refine ze_iload_n X dc_JL_indexOf_23 rfl rfl ?_
    refine ze_icmp_lt (tgt := 29) X dc_JL_indexOf_24 (by decide) (fun _ => ?_) (fun _ => ?_)
    · refine ze_aload_n X dc_JL_indexOf_29 rfl rfl ?_
      refine ze_iload_n X dc_JL_indexOf_30 rfl rfl ?_
      refine ze_iload_n X dc_JL_indexOf_31 rfl rfl ?_
      refine ze_iload_n X dc_JL_indexOf_32 rfl rfl ?_
      refine ze_callSi (As := [.inr (1100 + a1), .inl a2, .inl x3, .inl x4]) (st := []) X dc_JL_indexOf_33 zc_JL_95 (fun zr zv zh => c_JL_indexOfChar X.2.2.2.2.2.2.1  a1 a2 x3 x4 ha1 v2 zh) rfl (by decide) (by decide) (Nat.le_of_ble_eq_true rfl) (fun r5 v6 => ?_)
      exact ze_iret X Y (vp_nar_int _) dc_JL_indexOf_36
    · refine ze_iconst (x := (-1)) X dc_JL_indexOf_27 (by decide) ?_
      exact ze_iret X Y (vp_nar_int _) dc_JL_indexOf_28
set_option maxHeartbeats 4000000 in
set_option maxRecDepth 100000 in
theorem c_JL_indexOf {l : Launch} {D : va_G} {ad : Nat → Nat} {ca : Nat → ClassId} (hD : va_D (ze_A ad) (ze_ws ze_sh ad ca (fun _ _ => 0)))     (a1 : Nat) (a2 : Int32) (a3 : Int32) (a4 : Int32) (ha1 : a1 < ze_sn) (v : ze_H) {r : Int32} {v1 : ze_H} (h : f_JL_indexOf  a1 a2 a3 a4 v = some (r, v1)) : ze_Mi l D ad ca my_JL_indexOf bc_JL_indexOf 4 .int 1 25 [.inr (1100 + a1), .inl a2, .inl a3, .inl a4] v r v1 := ze_Mi_of (plainFor_of_name (by decide)) hD (Nat.le_of_ble_eq_true rfl) (fun G e1 e2 e3 e4 X Y => w_JL_indexOf X Y    a1 a2 a3 a4 ha1 v) h
def f_JS_indexOf1  (k0 : Nat) (a1 : Int32) (a2 : Int32) (v : ze_H) : Option (Int32 × ze_H) :=
  ze_call (f_JS_isLatin1  k0 v) (fun r1 v2 => (if r1 = 0 then ze_call (f_JS_length  k0 v2) (fun r3 v4 => none) else ze_call (f_JS_length  k0 v2) (fun r5 v6 => ze_call (f_JL_indexOf  k0 a1 a2 r5 v6) (fun r7 v8 => some (r7, v8)))))
set_option maxHeartbeats 4000000 in
set_option maxRecDepth 100000 in
theorem w_JS_indexOf1 {G : ze_G}  (X : ze_X G bc_JS_indexOf1 cn_JS 3 2 48) (Y : ze_Ri G .int)    (k0 : Nat) (a1 : Int32) (a2 : Int32) (hk0 : k0 < ze_sn) (v : ze_H) : ze_T G (f_JS_indexOf1  k0 a1 a2 v) v 0 [some (.inr (1000 + k0)), some (.inl a1), some (.inl a2)] [] := by
  refine ze_aload_n X dc_JS_indexOf1_0 rfl rfl ?_
  refine ze_callKi (As := []) (st := []) X dc_JS_indexOf1_1 zc_JS_492 hk0 (fun zr zv zh => c_JS_isLatin1 X.2.2.2.2.2.2.1  k0 hk0 v zh) rfl (by decide) (by decide) (Nat.le_of_ble_eq_true rfl) rfl (fun r1 v2 => ?_)
  refine ze_if_eq (tgt := 23) X dc_JS_indexOf1_4 (by decide) (fun _ => ?_) (fun _ => ?_)
  · refine ze_aload_n X dc_JS_indexOf1_23 rfl rfl ?_
    refine ze_gval X dc_JS_indexOf1_24 zs_JS_9 hk0 ?_
    refine ze_iload_n X dc_JS_indexOf1_27 rfl rfl ?_
    refine ze_iload_n X dc_JS_indexOf1_28 rfl rfl ?_
    refine ze_aload_n X dc_JS_indexOf1_29 rfl rfl ?_
    refine ze_callKi (As := []) (st := [.inl a2, .inl a1, .inr (1100 + k0)]) X dc_JS_indexOf1_30 zc_JS_505 hk0 (fun zr zv zh => c_JS_length X.2.2.2.2.2.2.1  k0 hk0 v2 zh) rfl (by decide) (by decide) (Nat.le_of_ble_eq_true rfl) rfl (fun r3 v4 => ?_)
    exact ze_none
  · refine ze_aload_n X dc_JS_indexOf1_7 rfl rfl ?_
    refine ze_gval X dc_JS_indexOf1_8 zs_JS_9 hk0 ?_
    refine ze_iload_n X dc_JS_indexOf1_11 rfl rfl ?_
    refine ze_iload_n X dc_JS_indexOf1_12 rfl rfl ?_
    refine ze_aload_n X dc_JS_indexOf1_13 rfl rfl ?_
    refine ze_callKi (As := []) (st := [.inl a2, .inl a1, .inr (1100 + k0)]) X dc_JS_indexOf1_14 zc_JS_505 hk0 (fun zr zv zh => c_JS_length X.2.2.2.2.2.2.1  k0 hk0 v2 zh) rfl (by decide) (by decide) (Nat.le_of_ble_eq_true rfl) rfl (fun r5 v6 => ?_)
    refine ze_callSi (As := [.inr (1100 + k0), .inl a1, .inl a2, .inl r5]) (st := []) X dc_JS_indexOf1_17 zc_JS_637 (fun zr zv zh => c_JL_indexOf X.2.2.2.2.2.2.1  k0 a1 a2 r5 hk0 v6 zh) rfl (by decide) (by decide) (Nat.le_of_ble_eq_true rfl) (fun r7 v8 => ?_)
    refine ze_goto (tgt := 36) X dc_JS_indexOf1_20 (by decide) ?_
    exact ze_iret X Y (vp_nar_int _) dc_JS_indexOf1_36
set_option maxHeartbeats 4000000 in
set_option maxRecDepth 100000 in
theorem c_JS_indexOf1 {l : Launch} {D : va_G} {ad : Nat → Nat} {ca : Nat → ClassId} (hD : va_D (ze_A ad) (ze_ws ze_sh ad ca (fun _ _ => 0)))     (k0 : Nat) (a1 : Int32) (a2 : Int32) (hk0 : k0 < ze_sn) (v : ze_H) {r : Int32} {v1 : ze_H} (h : f_JS_indexOf1  k0 a1 a2 v = some (r, v1)) : ze_Mi l D ad ca my_JS_indexOf1 bc_JS_indexOf1 3 .int 2 48 [.inr (1000 + k0), .inl a1, .inl a2] v r v1 := ze_Mi_of (plainFor_of_name (by decide)) hD (Nat.le_of_ble_eq_true rfl) (fun G e1 e2 e3 e4 X Y => w_JS_indexOf1 X Y    k0 a1 a2 hk0 v) h
def f_JS_indexOf0  (k0 : Nat) (a1 : Int32) (v : ze_H) : Option (Int32 × ze_H) :=
  ze_call (f_JS_indexOf1  k0 a1 0 v) (fun r1 v2 => some (r1, v2))
set_option maxHeartbeats 4000000 in
set_option maxRecDepth 100000 in
theorem w_JS_indexOf0 {G : ze_G}  (X : ze_X G bc_JS_indexOf0 cn_JS 2 3 70) (Y : ze_Ri G .int)    (k0 : Nat) (a1 : Int32) (hk0 : k0 < ze_sn) (v : ze_H) : ze_T G (f_JS_indexOf0  k0 a1 v) v 0 [some (.inr (1000 + k0)), some (.inl a1)] [] := by
  refine ze_aload_n X dc_JS_indexOf0_0 rfl rfl ?_
  refine ze_iload_n X dc_JS_indexOf0_1 rfl rfl ?_
  refine ze_iconst (x := 0) X dc_JS_indexOf0_2 (by decide) ?_
  refine ze_callKi (As := [.inl a1, .inl 0]) (st := []) X dc_JS_indexOf0_3 zc_JS_633 hk0 (fun zr zv zh => c_JS_indexOf1 X.2.2.2.2.2.2.1  k0 a1 0 hk0 v zh) rfl (by decide) (by decide) (Nat.le_of_ble_eq_true rfl) rfl (fun r1 v2 => ?_)
  exact ze_iret X Y (vp_nar_int _) dc_JS_indexOf0_6
set_option maxHeartbeats 4000000 in
set_option maxRecDepth 100000 in
theorem c_JS_indexOf0 {l : Launch} {D : va_G} {ad : Nat → Nat} {ca : Nat → ClassId} (hD : va_D (ze_A ad) (ze_ws ze_sh ad ca (fun _ _ => 0)))     (k0 : Nat) (a1 : Int32) (hk0 : k0 < ze_sn) (v : ze_H) {r : Int32} {v1 : ze_H} (h : f_JS_indexOf0  k0 a1 v = some (r, v1)) : ze_Mi l D ad ca my_JS_indexOf0 bc_JS_indexOf0 2 .int 3 70 [.inr (1000 + k0), .inl a1] v r v1 := ze_Mi_of (plainFor_of_name (by decide)) hD (Nat.le_of_ble_eq_true rfl) (fun G e1 e2 e3 e4 X Y => w_JS_indexOf0 X Y    k0 a1 hk0 v) h
