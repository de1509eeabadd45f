def f_JS_isLatin1  (k0 : Nat) (v : ze_H) : Option (Int32 × ze_H) :=
  (if 1 = 0 then some (0, v) else (if 0 = 0 then some (1, v) else some (0, v)))
set_option maxHeartbeats 4000000 in
set_option maxRecDepth 100000 in
theorem w_JS_isLatin1 {G : ze_G}  (X : ze_X G bc_JS_isLatin1 cn_JS 1 0 0) (Y : ze_Ri G .boolean)    (k0 : Nat) (hk0 : k0 < ze_sn) (v : ze_H) : ze_T G (f_JS_isLatin1  k0 v) v 0 [some (.inr (1000 + k0))] [] := by
  refine ze_gcs X dc_JS_isLatin1_0 zs_JS_38 ?_
  refine ze_if_eq (tgt := 17) X dc_JS_isLatin1_3 (by decide) (fun _ => ?_) (fun _ => ?_)
  · refine ze_iconst (x := 0) X dc_JS_isLatin1_17 (by decide) ?_
    exact ze_iret X Y rfl dc_JS_isLatin1_18
  · refine ze_aload_n X dc_JS_isLatin1_6 rfl rfl ?_
    refine ze_gcod X dc_JS_isLatin1_7 zs_JS_15 hk0 ?_
    refine ze_if_ne (tgt := 17) X dc_JS_isLatin1_10 (by decide) (fun _ => ?_) (fun _ => ?_)
    · refine ze_iconst (x := 1) X dc_JS_isLatin1_13 (by decide) ?_
      refine ze_goto (tgt := 18) X dc_JS_isLatin1_14 (by decide) ?_
      exact ze_iret X Y rfl dc_JS_isLatin1_18
    · refine ze_iconst (x := 0) X dc_JS_isLatin1_17 (by decide) ?_
      exact ze_iret X Y rfl dc_JS_isLatin1_18
set_option maxHeartbeats 4000000 in
set_option maxRecDepth 100000 in
theorem c_JS_isLatin1 {l : Launch} {D : va_G} {ad : Nat → Nat} {ca : Nat → ClassId} (hD : va_D (ze_A ad) (ze_ws ze_sh ad ca (fun _ _ => 0)))     (k0 : Nat) (hk0 : k0 < ze_sn) (v : ze_H) {r : Int32} {v1 : ze_H} (h : f_JS_isLatin1  k0 v = some (r, v1)) : ze_Mi l D ad ca my_JS_isLatin1 bc_JS_isLatin1 1 .boolean 0 0 [.inr (1000 + k0)] v r v1 := ze_Mi_of (plainFor_of_name (by decide)) hD (Nat.le_of_ble_eq_true rfl) (fun G e1 e2 e3 e4 X Y => w_JS_isLatin1 X Y    k0 hk0 v) h
def f_JS_coder  (k0 : Nat) (v : ze_H) : Option (Int32 × ze_H) :=
  (if 1 = 0 then ze_rt 1 v else ze_rt 0 v)
set_option maxHeartbeats 4000000 in
set_option maxRecDepth 100000 in
theorem w_JS_coder {G : ze_G}  (X : ze_X G bc_JS_coder cn_JS 1 0 0) (Y : ze_Ri G .byte)    (k0 : Nat) (hk0 : k0 < ze_sn) (v : ze_H) : ze_T G (f_JS_coder  k0 v) v 0 [some (.inr (1000 + k0))] [] := by
  refine ze_gcs X dc_JS_coder_0 zs_JS_38 ?_
  refine ze_if_eq (tgt := 13) X dc_JS_coder_3 (by decide) (fun _ => ?_) (fun _ => ?_)
  · refine ze_iconst (x := 1) X dc_JS_coder_13 (by decide) ?_
    exact ze_bret X Y dc_JS_coder_14
  · refine ze_aload_n X dc_JS_coder_6 rfl rfl ?_
    refine ze_gcod X dc_JS_coder_7 zs_JS_15 hk0 ?_
    refine ze_goto (tgt := 14) X dc_JS_coder_10 (by decide) ?_
    exact ze_bret X Y dc_JS_coder_14
set_option maxHeartbeats 4000000 in
set_option maxRecDepth 100000 in
theorem c_JS_coder {l : Launch} {D : va_G} {ad : Nat → Nat} {ca : Nat → ClassId} (hD : va_D (ze_A ad) (ze_ws ze_sh ad ca (fun _ _ => 0)))     (k0 : Nat) (hk0 : k0 < ze_sn) (v : ze_H) {r : Int32} {v1 : ze_H} (h : f_JS_coder  k0 v = some (r, v1)) : ze_Mi l D ad ca my_JS_coder bc_JS_coder 1 .byte 0 0 [.inr (1000 + k0)] v r v1 := ze_Mi_of (plainFor_of_name (by decide)) hD (Nat.le_of_ble_eq_true rfl) (fun G e1 e2 e3 e4 X Y => w_JS_coder X Y    k0 hk0 v) h
def f_JS_length  (k0 : Nat) (v : ze_H) : Option (Int32 × ze_H) :=
  ze_call (f_JS_coder  k0 v) (fun r1 v2 => some (((Int32.ofNat (ze_sl.getD k0 0)) >>> (r1 &&& 31)), v2))
set_option maxHeartbeats 4000000 in
set_option maxRecDepth 100000 in
theorem w_JS_length {G : ze_G}  (X : ze_X G bc_JS_length cn_JS 1 1 20) (Y : ze_Ri G .int)    (k0 : Nat) (hk0 : k0 < ze_sn) (v : ze_H) : ze_T G (f_JS_length  k0 v) v 0 [some (.inr (1000 + k0))] [] := by
  refine ze_aload_n X dc_JS_length_0 rfl rfl ?_
  refine ze_gval X dc_JS_length_1 zs_JS_9 hk0 ?_
  refine ze_blen X dc_JS_length_4 hk0 ?_
  refine ze_aload_n X dc_JS_length_5 rfl rfl ?_
  refine ze_callKi (As := []) (st := [.inl (Int32.ofNat (ze_sl.getD k0 0))]) X dc_JS_length_6 zc_JS_335 hk0 (fun zr zv zh => c_JS_coder X.2.2.2.2.2.2.1  k0 hk0 v zh) rfl (by decide) (by decide) (Nat.le_of_ble_eq_true rfl) rfl (fun r1 v2 => ?_)
  refine ze_ishr X dc_JS_length_9 ?_
  exact ze_iret X Y (vp_nar_int _) dc_JS_length_10
set_option maxHeartbeats 4000000 in
set_option maxRecDepth 100000 in
theorem c_JS_length {l : Launch} {D : va_G} {ad : Nat → Nat} {ca : Nat → ClassId} (hD : va_D (ze_A ad) (ze_ws ze_sh ad ca (fun _ _ => 0)))     (k0 : Nat) (hk0 : k0 < ze_sn) (v : ze_H) {r : Int32} {v1 : ze_H} (h : f_JS_length  k0 v = some (r, v1)) : ze_Mi l D ad ca my_JS_length bc_JS_length 1 .int 1 20 [.inr (1000 + k0)] v r v1 := ze_Mi_of (plainFor_of_name (by decide)) hD (Nat.le_of_ble_eq_true rfl) (fun G e1 e2 e3 e4 X Y => w_JS_length X Y    k0 hk0 v) h
def f_JL_canEncode  (a1 : Int32) (v : ze_H) : Option (Int32 × ze_H) :=
  (if a1 < 0 then some (0, v) else (if 255 < a1 then some (0, v) else some (1, v)))
set_option maxHeartbeats 4000000 in
set_option maxRecDepth 100000 in
theorem w_JL_canEncode {G : ze_G}  (X : ze_X G bc_JL_canEncode cn_JL 1 0 0) (Y : ze_Ri G .boolean)    (a1 : Int32)  (v : ze_H) : ze_T G (f_JL_canEncode  a1 v) v 0 [some (.inl a1)] [] := by
  refine ze_iload_n X dc_JL_canEncode_0 rfl rfl ?_
  refine ze_if_lt (tgt := 15) X dc_JL_canEncode_1 (by decide) (fun _ => ?_) (fun _ => ?_)
  · refine ze_iconst (x := 0) X dc_JL_canEncode_15 (by decide) ?_
    exact ze_iret X Y rfl dc_JL_canEncode_16
  · refine ze_iload_n X dc_JL_canEncode_4 rfl rfl ?_
    refine ze_sipush (x := 255) X dc_JL_canEncode_5 (by decide) ?_
    refine ze_icmp_gt (tgt := 15) X dc_JL_canEncode_8 (by decide) (fun _ => ?_) (fun _ => ?_)
    · refine ze_iconst (x := 0) X dc_JL_canEncode_15 (by decide) ?_
      exact ze_iret X Y rfl dc_JL_canEncode_16
    · refine ze_iconst (x := 1) X dc_JL_canEncode_11 (by decide) ?_
      refine ze_goto (tgt := 16) X dc_JL_canEncode_12 (by decide) ?_
      exact ze_iret X Y rfl dc_JL_canEncode_16
set_option maxHeartbeats 4000000 in
set_option maxRecDepth 100000 in
theorem c_JL_canEncode {l : Launch} {D : va_G} {ad : Nat → Nat} {ca : Nat → ClassId} (hD : va_D (ze_A ad) (ze_ws ze_sh ad ca (fun _ _ => 0)))     (a1 : Int32)  (v : ze_H) {r : Int32} {v1 : ze_H} (h : f_JL_canEncode  a1 v = some (r, v1)) : ze_Mi l D ad ca my_JL_canEncode bc_JL_canEncode 1 .boolean 0 0 [.inl a1] v r v1 := ze_Mi_of (plainFor_of_name (by decide)) hD (Nat.le_of_ble_eq_true rfl) (fun G e1 e2 e3 e4 X Y => w_JL_canEncode X Y    a1  v) h
def f_JL_indexOfChar_L7  (k0 : Nat) (b3 : Int32) (b4 : Int32) (kk : ze_H → Option (Int32 × ze_H)) : Nat → Int32 → ze_H → Option (Int32 × ze_H)
  | 0, _, _ => none
  | n + 1, l5, v =>
    (if b3 ≤ l5 then (kk  v) else ze_in l5 (ze_sl.getD k0 0) ((if ((ze_sb.getD k0 []).getD (Int32.toNatClampNeg l5) 0) = b4 then some (l5, v) else ze_let (l5 + 1) (fun x3 => (f_JL_indexOfChar_L7  k0 b3 b4 kk n x3 v)))))
def f_JL_indexOfChar  (a1 : Nat) (a2 : Int32) (a3 : Int32) (a4 : Int32) (v : ze_H) : Option (Int32 × ze_H) :=
  ze_let ((a2).toInt8.toInt32) (fun x1 => ze_let a3 (fun x2 => (f_JL_indexOfChar_L7  a1 a4 x1 (fun  v4 => some ((-1), v4)) 200000 x2 v)))
set_option maxHeartbeats 4000000 in
set_option maxRecDepth 100000 in
theorem w_JL_indexOfChar_L7 {G : ze_G}  (X : ze_X G bc_JL_indexOfChar cn_JL 6 0 0) (Y : ze_Ri G .int)    (k0 : Nat) (b3 : Int32) (b4 : Int32) (hk0 : k0 < ze_sn) {kk : ze_H → Option (Int32 × ze_H)} (hkk : ∀ (v : ze_H), ze_T G (kk  v) v 31 [none, none, none, none, none, none] []) : ∀ (n : Nat) (l5 : Int32) (v : ze_H), ze_T G (f_JL_indexOfChar_L7  k0 b3 b4 kk n l5 v) v 7 [some (.inr (1100 + k0)), none, none, some (.inl b3), some (.inl b4), some (.inl l5)] [] := by
  intro n
  induction n with
  | zero => intro l5 v; exact ze_none
  | succ n ih =>
    intro l5 v
    refine ze_iload X dc_JL_indexOfChar_7 rfl ?_
    refine ze_iload_n X dc_JL_indexOfChar_9 rfl rfl ?_
    refine ze_icmp_ge (tgt := 31) X dc_JL_indexOfChar_10 (by decide) (fun _ => ?_) (fun _ => ?_)
    · refine ze_weak [false, false, false, false, false, false] ?_
      exact hkk  v
    · refine ze_aload_n X dc_JL_indexOfChar_13 rfl rfl ?_
      refine ze_iload X dc_JL_indexOfChar_14 rfl ?_
      refine ze_bald X dc_JL_indexOfChar_16 hk0 (fun _ => ?_)
      refine ze_iload X dc_JL_indexOfChar_17 rfl ?_
      refine ze_icmp_ne (tgt := 25) X dc_JL_indexOfChar_19 (by decide) (fun _ => ?_) (fun _ => ?_)
      · refine ze_iload X dc_JL_indexOfChar_22 rfl ?_
        exact ze_iret X Y (vp_nar_int _) dc_JL_indexOfChar_24
      · refine ze_iinc (y := 1) X dc_JL_indexOfChar_25 rfl (by decide) (by decide) (fun x3 => ?_)
        refine ze_goto (tgt := 7) X dc_JL_indexOfChar_28 (by decide) ?_
        refine ze_weak [true, false, false, true, true, true] ?_
        exact ih x3 v
set_option maxHeartbeats 4000000 in
set_option maxRecDepth 100000 in
theorem w_JL_indexOfChar {G : ze_G}  (X : ze_X G bc_JL_indexOfChar cn_JL 6 0 0) (Y : ze_Ri G .int)    (a1 : Nat) (a2 : Int32) (a3 : Int32) (a4 : Int32) (ha1 : a1 < ze_sn) (v : ze_H) : ze_T G (f_JL_indexOfChar  a1 a2 a3 a4 v) v 0 [some (.inr (1100 + a1)), some (.inl a2), some (.inl a3), some (.inl a4), none, none] [] := by
  refine ze_iload_n X dc_JL_indexOfChar_0 rfl rfl ?_
  refine ze_i2b X dc_JL_indexOfChar_1 ?_
  refine ze_istore X dc_JL_indexOfChar_2 (by decide) (fun x1 => ?_)
  refine ze_iload_n X dc_JL_indexOfChar_4 rfl rfl ?_
  refine ze_istore X dc_JL_indexOfChar_5 (by decide) (fun x2 => ?_)
  refine ze_weak [true, false, false, true, true, true] ?_
  refine w_JL_indexOfChar_L7 X Y    a1 a4 x1 ha1 (fun  v4 => ?_) 200000 x2 v
  refine ze_iconst (x := (-1)) X dc_JL_indexOfChar_31 (by decide) ?_
  exact ze_iret X Y (vp_nar_int _) dc_JL_indexOfChar_32
set_option maxHeartbeats 4000000 in
set_option maxRecDepth 100000 in
theorem c_JL_indexOfChar {l : Launch} {D : va_G} {ad : Nat → Nat} {ca : Nat → ClassId} (hD : va_D (ze_A ad) (ze_ws ze_sh ad ca (fun _ _ => 0)))     (a1 : Nat) (a2 : Int32) (a3 : Int32) (a4 : Int32) (ha1 : a1 < ze_sn) (v : ze_H) {r : Int32} {v1 : ze_H} (h : f_JL_indexOfChar  a1 a2 a3 a4 v = some (r, v1)) : ze_Mi l D ad ca my_JL_indexOfChar bc_JL_indexOfChar 6 .int 0 0 [.inr (1100 + a1), .inl a2, .inl a3, .inl a4] v r v1 := ze_Mi_of (plainFor_of_name (by decide)) hD (Nat.le_of_ble_eq_true rfl) (fun G e1 e2 e3 e4 X Y => w_JL_indexOfChar X Y    a1 a2 a3 a4 ha1 v) h
def f_JL_indexOf  (a1 : Nat) (a2 : Int32) (a3 : Int32) (a4 : Int32) (v : ze_H) : Option (Int32 × ze_H) :=
  ze_call (f_JL_canEncode  a2 v) (fun r1 v2 => (if r1 = 0 then some ((-1), v2) else ze_let (if a3 < 0 then 0 else a3) (fun x3 => ze_let (if (Int32.ofNat (ze_sl.getD a1 0)) < a4 then (Int32.ofNat (ze_sl.getD a1 0)) else a4) (fun x4 => (if x3 < x4 then ze_call (f_JL_indexOfChar  a1 a2 x3 x4 v2) (fun r5 v6 => some (r5, v6)) else some ((-1), v2))))))
set_option maxHeartbeats 4000000 in
set_option maxRecDepth 100000 in
theorem w_JL_indexOf {G : ze_G}  (X : ze_X G bc_JL_indexOf cn_JL 4 1 25) (Y : ze_Ri G .int)    (a1 : Nat) (a2 : Int32) (a3 : Int32) (a4 : Int32) (ha1 : a1 < ze_sn) (v : ze_H) : ze_T G (f_JL_indexOf  a1 a2 a3 a4 v) v 0 [some (.inr (1100 + a1)), some (.inl a2), some (.inl a3), some (.inl a4)] [] := by
  refine ze_iload_n X dc_JL_indexOf_0 rfl rfl ?_
  refine ze_callSi (As := [.inl a2]) (st := []) X dc_JL_indexOf_1 zc_JL_88 (fun zr zv zh => c_JL_canEncode X.2.2.2.2.2.2.1  a2  v zh) rfl (by decide) (by decide) (Nat.le_of_ble_eq_true rfl) (fun r1 v2 => ?_)
  refine ze_if_ne (tgt := 9) X dc_JL_indexOf_4 (by decide) (fun _ => ?_) (fun _ => ?_)
  · refine ze_iconst (x := (-1)) X dc_JL_indexOf_7 (by decide) ?_
    exact ze_iret X Y (vp_nar_int _) dc_JL_indexOf_8
  · refine ze_iload_n X dc_JL_indexOf_9 rfl rfl ?_
    refine ze_iconst (x := 0) X dc_JL_indexOf_10 (by decide) ?_
    refine ze_mmax X dc_JL_indexOf_11 zm_JL_92 (by decide) (by decide) (Nat.le_of_ble_eq_true rfl) ?_
    refine ze_istore_n X dc_JL_indexOf_14 rfl (by decide) (fun x3 => ?_)
    refine ze_iload_n X dc_JL_indexOf_15 rfl rfl ?_
    refine ze_aload_n X dc_JL_indexOf_16 rfl rfl ?_
    refine ze_blen X dc_JL_indexOf_17 ha1 ?_
    refine ze_mmin X dc_JL_indexOf_18 zm_JL_38 (by decide) (by decide) (Nat.le_of_ble_eq_true rfl) ?_
    refine ze_istore_n X dc_JL_indexOf_21 rfl (by decide) (fun x4 => ?_)
    refine ze_iload_n X dc_JL_indexOf_22 rfl rfl ?_
    refine ze_iload_n X dc_JL_indexOf_23 rfl rfl ?_
    refine ze_icmp_lt (tgt := 29) X dc_JL_indexOf_24 (by decide) (fun _ => ?_) (fun _ => ?_)
    · refine ze_aload_n X dc_JL_indexOf_29 rfl rfl ?_
      refine ze_iload_n X dc_JL_indexOf_30 rfl rfl ?_
      refine ze_iload_n X dc_JL_indexOf_31 rfl rfl ?_
      refine ze_iload_n X dc_JL_indexOf_32 rfl rfl ?_
      refine ze_callSi (As := [.inr (1100 + a1), .inl a2, .inl x3, .inl x4]) (st := []) X dc_JL_indexOf_33 zc_JL_95 (fun zr zv zh => c_JL_indexOfChar X.2.2.2.2.2.2.1  a1 a2 x3 x4 ha1 v2 zh) rfl (by decide) (by decide) (Nat.le_of_ble_eq_true rfl) (fun r5 v6 => ?_)
      exact ze_iret X Y (vp_nar_int _) dc_JL_indexOf_36
    · refine ze_iconst (x := (-1)) X dc_JL_indexOf_27 (by decide) ?_
      exact ze_iret X Y (vp_nar_int _) dc_JL_indexOf_28
set_option maxHeartbeats 4000000 in
set_option maxRecDepth 100000 in
theorem c_JL_indexOf {l : Launch} {D : va_G} {ad : Nat → Nat} {ca : Nat → ClassId} (hD : va_D (ze_A ad) (ze_ws ze_sh ad ca (fun _ _ => 0)))     (a1 : Nat) (a2 : Int32) (a3 : Int32) (a4 : Int32) (ha1 : a1 < ze_sn) (v : ze_H) {r : Int32} {v1 : ze_H} (h : f_JL_indexOf  a1 a2 a3 a4 v = some (r, v1)) : ze_Mi l D ad ca my_JL_indexOf bc_JL_indexOf 4 .int 1 25 [.inr (1100 + a1), .inl a2, .inl a3, .inl a4] v r v1 := ze_Mi_of (plainFor_of_name (by decide)) hD (Nat.le_of_ble_eq_true rfl) (fun G e1 e2 e3 e4 X Y => w_JL_indexOf X Y    a1 a2 a3 a4 ha1 v) h
def f_JS_indexOf1  (k0 : Nat) (a1 : Int32) (a2 : Int32) (v : ze_H) : Option (Int32 × ze_H) :=
  ze_call (f_JS_isLatin1  k0 v) (fun r1 v2 => (if r1 = 0 then ze_call (f_JS_length  k0 v2) (fun r3 v4 => none) else ze_call (f_JS_length  k0 v2) (fun r5 v6 => ze_call (f_JL_indexOf  k0 a1 a2 r5 v6) (fun r7 v8 => some (r7, v8)))))
set_option maxHeartbeats 4000000 in
set_option maxRecDepth 100000 in
theorem w_JS_indexOf1 {G : ze_G}  (X : ze_X G bc_JS_indexOf1 cn_JS 3 2 48) (Y : ze_Ri G .int)    (k0 : Nat) (a1 : Int32) (a2 : Int32) (hk0 : k0 < ze_sn) (v : ze_H) : ze_T G (f_JS_indexOf1  k0 a1 a2 v) v 0 [some (.inr (1000 + k0)), some (.inl a1), some (.inl a2)] [] := by
  refine ze_aload_n X dc_JS_indexOf1_0 rfl rfl ?_
  refine ze_callKi (As := []) (st := []) X dc_JS_indexOf1_1 zc_JS_492 hk0 (fun zr zv zh => c_JS_isLatin1 X.2.2.2.2.2.2.1  k0 hk0 v zh) rfl (by decide) (by decide) (Nat.le_of_ble_eq_true rfl) rfl (fun r1 v2 => ?_)
  refine ze_if_eq (tgt := 23) X dc_JS_indexOf1_4 (by decide) (fun _ => ?_) (fun _ => ?_)
  · refine ze_aload_n X dc_JS_indexOf1_23 rfl rfl ?_
    refine ze_gval X dc_JS_indexOf1_24 zs_JS_9 hk0 ?_
    refine ze_iload_n X dc_JS_indexOf1_27 rfl rfl ?_
    refine ze_iload_n X dc_JS_indexOf1_28 rfl rfl ?_
    refine ze_aload_n X dc_JS_indexOf1_29 rfl rfl ?_
    refine ze_callKi (As := []) (st := [.inl a2, .inl a1, .inr (1100 + k0)]) X dc_JS_indexOf1_30 zc_JS_505 hk0 (fun zr zv zh => c_JS_length X.2.2.2.2.2.2.1  k0 hk0 v2 zh) rfl (by decide) (by decide) (Nat.le_of_ble_eq_true rfl) rfl (fun r3 v4 => ?_)
    exact ze_none
  · refine ze_aload_n X dc_JS_indexOf1_7 rfl rfl ?_
    refine ze_gval X dc_JS_indexOf1_8 zs_JS_9 hk0 ?_
    refine ze_iload_n X dc_JS_indexOf1_11 rfl rfl ?_
    refine ze_iload_n X dc_JS_indexOf1_12 rfl rfl ?_
    refine ze_aload_n X dc_JS_indexOf1_13 rfl rfl ?_
    refine ze_callKi (As := []) (st := [.inl a2, .inl a1, .inr (1100 + k0)]) X dc_JS_indexOf1_14 zc_JS_505 hk0 (fun zr zv zh => c_JS_length X.2.2.2.2.2.2.1  k0 hk0 v2 zh) rfl (by decide) (by decide) (Nat.le_of_ble_eq_true rfl) rfl (fun r5 v6 => ?_)
    refine ze_callSi (As := [.inr (1100 + k0), .inl a1, .inl a2, .inl r5]) (st := []) X dc_JS_indexOf1_17 zc_JS_637 (fun zr zv zh => c_JL_indexOf X.2.2.2.2.2.2.1  k0 a1 a2 r5 hk0 v6 zh) rfl (by decide) (by decide) (Nat.le_of_ble_eq_true rfl) (fun r7 v8 => ?_)
    refine ze_goto (tgt := 36) X dc_JS_indexOf1_20 (by decide) ?_
    exact ze_iret X Y (vp_nar_int _) dc_JS_indexOf1_36
set_option maxHeartbeats 4000000 in
set_option maxRecDepth 100000 in
theorem c_JS_indexOf1 {l : Launch} {D : va_G} {ad : Nat → Nat} {ca : Nat → ClassId} (hD : va_D (ze_A ad) (ze_ws ze_sh ad ca (fun _ _ => 0)))     (k0 : Nat) (a1 : Int32) (a2 : Int32) (hk0 : k0 < ze_sn) (v : ze_H) {r : Int32} {v1 : ze_H} (h : f_JS_indexOf1  k0 a1 a2 v = some (r, v1)) : ze_Mi l D ad ca my_JS_indexOf1 bc_JS_indexOf1 3 .int 2 48 [.inr (1000 + k0), .inl a1, .inl a2] v r v1 := ze_Mi_of (plainFor_of_name (by decide)) hD (Nat.le_of_ble_eq_true rfl) (fun G e1 e2 e3 e4 X Y => w_JS_indexOf1 X Y    k0 a1 a2 hk0 v) h
def f_JS_indexOf0  (k0 : Nat) (a1 : Int32) (v : ze_H) : Option (Int32 × ze_H) :=
  ze_call (f_JS_indexOf1  k0 a1 0 v) (fun r1 v2 => some (r1, v2))
set_option maxHeartbeats 4000000 in
set_option maxRecDepth 100000 in
theorem w_JS_indexOf0 {G : ze_G}  (X : ze_X G bc_JS_indexOf0 cn_JS 2 3 70) (Y : ze_Ri G .int)    (k0 : Nat) (a1 : Int32) (hk0 : k0 < ze_sn) (v : ze_H) : ze_T G (f_JS_indexOf0  k0 a1 v) v 0 [some (.inr (1000 + k0)), some (.inl a1)] [] := by
  refine ze_aload_n X dc_JS_indexOf0_0 rfl rfl ?_
  refine ze_iload_n X dc_JS_indexOf0_1 rfl rfl ?_
  refine ze_iconst (x := 0) X dc_JS_indexOf0_2 (by decide) ?_
  refine ze_callKi (As := [.inl a1, .inl 0]) (st := []) X dc_JS_indexOf0_3 zc_JS_633 hk0 (fun zr zv zh => c_JS_indexOf1 X.2.2.2.2.2.2.1  k0 a1 0 hk0 v zh) rfl (by decide) (by decide) (Nat.le_of_ble_eq_true rfl) rfl (fun r1 v2 => ?_)
  exact ze_iret X Y (vp_nar_int _) dc_JS_indexOf0_6
set_option maxHeartbeats 4000000 in
set_option maxRecDepth 100000 in
theorem c_JS_indexOf0 {l : Launch} {D : va_G} {ad : Nat → Nat} {ca : Nat → ClassId} (hD : va_D (ze_A ad) (ze_ws ze_sh ad ca (fun _ _ => 0)))     (k0 : Nat) (a1 : Int32) (hk0 : k0 < ze_sn) (v : ze_H) {r : Int32} {v1 : ze_H} (h : f_JS_indexOf0  k0 a1 v = some (r, v1)) : ze_Mi l D ad ca my_JS_indexOf0 bc_JS_indexOf0 2 .int 3 70 [.inr (1000 + k0), .inl a1] v r v1 := ze_Mi_of (plainFor_of_name (by decide)) hD (Nat.le_of_ble_eq_true rfl) (fun G e1 e2 e3 e4 X Y => w_JS_indexOf0 X Y    k0 a1 hk0 v) h
def f_R_refuseInner  (a1 : Int32) (a2 : Int32) (v : ze_H) : Option (Int32 × ze_H) :=
  (if a2 ≤ 0 then some (0, v) else ze_lev (ze_u v 16 3 a1) (fun v1 => some (0, v1)))
set_option maxHeartbeats 4000000 in
set_option maxRecDepth 100000 in
theorem w_R_refuseInner {G : ze_G}  (X : ze_X G bc_R_refuseInner cn_R 3 0 0) (Y : ze_Rv G)    (a1 : Int32) (a2 : Int32)  (v : ze_H) : ze_T G (f_R_refuseInner  a1 a2 v) v 0 [some (.inr 16), some (.inl a1), some (.inl a2)] [] := by
  refine ze_iload_n X dc_R_refuseInner_0 rfl rfl ?_
  refine ze_if_le (tgt := 9) X dc_R_refuseInner_1 (by decide) (fun _ => ?_) (fun _ => ?_)
  · exact ze_vret X Y dc_R_refuseInner_9
  · refine ze_aload_n X dc_R_refuseInner_4 rfl rfl ?_
    refine ze_iload_n X dc_R_refuseInner_5 rfl rfl ?_
    refine ze_puti X dc_R_refuseInner_6 zp_R_15 sh_16 rfl (fun v1 => ?_)
    exact ze_vret X Y dc_R_refuseInner_9
set_option maxHeartbeats 4000000 in
set_option maxRecDepth 100000 in
theorem c_R_refuseInner {l : Launch} {D : va_G} {ad : Nat → Nat} {ca : Nat → ClassId} (hD : va_D (ze_A ad) (ze_ws ze_sh ad ca (fun _ _ => 0)))     (a1 : Int32) (a2 : Int32)  (v : ze_H) {r : Int32} {v1 : ze_H} (h : f_R_refuseInner  a1 a2 v = some (r, v1)) : ze_Mv l D ad ca my_R_refuseInner bc_R_refuseInner 3 0 0 [.inr 16, .inl a1, .inl a2] v v1 := ze_Mv_of (plainFor_of_name (by decide)) hD (Nat.le_of_ble_eq_true rfl) (fun G e1 e2 e3 e4 X Y => w_R_refuseInner X Y    a1 a2  v) h
def f_R_readNumber_L21  (k1 : Nat) (b2 : Int32) (b3 : Int32) (b4 : Int32) (b5 : Int32) (kk : Int32 → ze_H → Option (Int32 × ze_H)) : Nat → Int32 → Int32 → ze_H → Option (Int32 × ze_H)
  | 0, _, _, _ => none
  | n + 1, l6, l7, v =>
    (if 4 ≤ l7 then (kk l6 v) else ze_call (f_P_at  2 (v 16 2) v) (fun r4 v5 => ze_let r4 (fun x6 => (if x6 < 48 then (kk l6 v5) else (if x6 ≤ 57 then ze_let ((l6 * 10) + (x6 - 48)) (fun x7 => ze_lev (ze_u v5 16 2 ((v5 16 2) + 1)) (fun v8 => ze_let (l7 + 1) (fun x9 => (f_R_readNumber_L21  k1 b2 b3 b4 b5 kk n x7 x9 v8)))) else (kk l6 v5))))))
def f_R_readNumber_J86  (k1 : Nat) (b2 : Int32) (b3 : Int32) (b4 : Int32) (b5 : Int32) (b6 : Int32) (v : ze_H) : Option (Int32 × ze_H) :=
  (if (v 16 2) = b5 then ze_lev (ze_u v 16 3 b5) (fun v12 => ze_in b2 164 (ze_lev (ze_u v12 k1 (Int32.toNatClampNeg b2) b6) (fun v13 => some (0, v13)))) else (if b6 < b3 then ze_lev (ze_u v 16 3 b5) (fun v14 => ze_in b2 164 (ze_lev (ze_u v14 k1 (Int32.toNatClampNeg b2) b6) (fun v15 => some (0, v15)))) else (if b6 ≤ b4 then ze_in b2 164 (ze_lev (ze_u v k1 (Int32.toNatClampNeg b2) b6) (fun v16 => some (0, v16))) else ze_lev (ze_u v 16 3 b5) (fun v17 => ze_in b2 164 (ze_lev (ze_u v17 k1 (Int32.toNatClampNeg b2) b6) (fun v18 => some (0, v18)))))))
def f_R_readNumber  (a1 : Nat) (a2 : Int32) (a3 : Int32) (a4 : Int32) (v : ze_H) : Option (Int32 × ze_H) :=
  (if (v 16 3) = (-1) then ze_let (v 16 2) (fun x1 => ze_let 0 (fun x2 => ze_let 0 (fun x3 => (f_R_readNumber_L21  a1 a2 a3 a4 x1 (fun x10 v11 => (f_R_readNumber_J86  a1 a2 a3 a4 x1 x10 v11)) 200000 x2 x3 v)))) else some (0, v))
set_option maxHeartbeats 4000000 in
set_option maxRecDepth 100000 in
theorem w_R_readNumber_L21 {G : ze_G}  (X : ze_X G bc_R_readNumber cn_R 9 1 21) (Y : ze_Rv G)    (k1 : Nat) (b2 : Int32) (b3 : Int32) (b4 : Int32) (b5 : Int32) (hk1 : ze_sh[k1]? = some (.inl (0, 164, none))) {kk : Int32 → ze_H → Option (Int32 × ze_H)} (hkk : ∀ (l6 : Int32) (v : ze_H), ze_T G (kk l6 v) v 86 [some (.inr 16), some (.inr k1), some (.inl b2), some (.inl b3), some (.inl b4), some (.inl b5), some (.inl l6), none, none] []) : ∀ (n : Nat) (l6 : Int32) (l7 : Int32) (v : ze_H), ze_T G (f_R_readNumber_L21  k1 b2 b3 b4 b5 kk n l6 l7 v) v 21 [some (.inr 16), some (.inr k1), some (.inl b2), some (.inl b3), some (.inl b4), some (.inl b5), some (.inl l6), some (.inl l7), none] [] := by
  intro n
  induction n with
  | zero => intro l6 l7 v; exact ze_none
  | succ n ih =>
    intro l6 l7 v
    refine ze_iload X dc_R_readNumber_21 rfl ?_
    refine ze_iconst (x := 4) X dc_R_readNumber_23 (by decide) ?_
    refine ze_icmp_ge (tgt := 86) X dc_R_readNumber_24 (by decide) (fun _ => ?_) (fun _ => ?_)
    · refine ze_weak [true, true, true, true, true, true, true, false, false] ?_
      exact hkk l6 v
    · refine ze_aload_n X dc_R_readNumber_27 rfl rfl ?_
      refine ze_getr X dc_R_readNumber_28 zf_R_9 sh_16 rfl ?_
      refine ze_aload_n X dc_R_readNumber_31 rfl rfl ?_
      refine ze_geti X dc_R_readNumber_32 zf_R_22 sh_16 rfl ?_
      refine ze_callVi (As := [.inl (v 16 2)]) (st := []) X dc_R_readNumber_35 zc_R_29 is_Program_2.1 (fun zr zv zh => c_P_at X.2.2.2.2.2.2.1  2 (v 16 2) is_Program_2 v zh) rfl (by decide) (by decide) (Nat.le_of_ble_eq_true rfl) (fun r4 v5 => ?_)
      refine ze_istore X dc_R_readNumber_38 (by decide) (fun x6 => ?_)
      refine ze_iload X dc_R_readNumber_40 rfl ?_
      refine ze_bipush (x := 48) X dc_R_readNumber_42 (by decide) ?_
      refine ze_icmp_lt (tgt := 86) X dc_R_readNumber_44 (by decide) (fun _ => ?_) (fun _ => ?_)
      · refine ze_weak [true, true, true, true, true, true, true, false, false] ?_
        exact hkk l6 v5
      · refine ze_iload X dc_R_readNumber_47 rfl ?_
        refine ze_bipush (x := 57) X dc_R_readNumber_49 (by decide) ?_
        refine ze_icmp_le (tgt := 57) X dc_R_readNumber_51 (by decide) (fun _ => ?_) (fun _ => ?_)
        · refine ze_iload X dc_R_readNumber_57 rfl ?_
          refine ze_bipush (x := 10) X dc_R_readNumber_59 (by decide) ?_
          refine ze_imul X dc_R_readNumber_61 ?_
          refine ze_iload X dc_R_readNumber_62 rfl ?_
          refine ze_bipush (x := 48) X dc_R_readNumber_64 (by decide) ?_
          refine ze_isub X dc_R_readNumber_66 ?_
          refine ze_iadd X dc_R_readNumber_67 ?_
          refine ze_istore X dc_R_readNumber_68 (by decide) (fun x7 => ?_)
          refine ze_aload_n X dc_R_readNumber_70 rfl rfl ?_
          refine ze_dup X dc_R_readNumber_71 ?_
          refine ze_geti X dc_R_readNumber_72 zf_R_22 sh_16 rfl ?_
          refine ze_iconst (x := 1) X dc_R_readNumber_75 (by decide) ?_
          refine ze_iadd X dc_R_readNumber_76 ?_
          refine ze_puti X dc_R_readNumber_77 zp_R_22 sh_16 rfl (fun v8 => ?_)
          refine ze_iinc (y := 1) X dc_R_readNumber_80 rfl (by decide) (by decide) (fun x9 => ?_)
          refine ze_goto (tgt := 21) X dc_R_readNumber_83 (by decide) ?_
          refine ze_weak [true, true, true, true, true, true, true, true, false] ?_
          exact ih x7 x9 v8
        · refine ze_goto (tgt := 86) X dc_R_readNumber_54 (by decide) ?_
          refine ze_weak [true, true, true, true, true, true, true, false, false] ?_
          exact hkk l6 v5
set_option maxHeartbeats 4000000 in
set_option maxRecDepth 100000 in
theorem w_R_readNumber_J86 {G : ze_G}  (X : ze_X G bc_R_readNumber cn_R 9 1 21) (Y : ze_Rv G)    (k1 : Nat) (b2 : Int32) (b3 : Int32) (b4 : Int32) (b5 : Int32) (b6 : Int32) (hk1 : ze_sh[k1]? = some (.inl (0, 164, none))) (v : ze_H) : ze_T G (f_R_readNumber_J86  k1 b2 b3 b4 b5 b6 v) v 86 [some (.inr 16), some (.inr k1), some (.inl b2), some (.inl b3), some (.inl b4), some (.inl b5), some (.inl b6), none, none] [] := by
  refine ze_aload_n X dc_R_readNumber_86 rfl rfl ?_
  refine ze_geti X dc_R_readNumber_87 zf_R_22 sh_16 rfl ?_
  refine ze_iload X dc_R_readNumber_90 rfl ?_
  refine ze_icmp_eq (tgt := 108) X dc_R_readNumber_92 (by decide) (fun _ => ?_) (fun _ => ?_)
  · refine ze_aload_n X dc_R_readNumber_108 rfl rfl ?_
    refine ze_iload X dc_R_readNumber_109 rfl ?_
    refine ze_puti X dc_R_readNumber_111 zp_R_15 sh_16 rfl (fun v12 => ?_)
    refine ze_aload_n X dc_R_readNumber_114 rfl rfl ?_
    refine ze_iload_n X dc_R_readNumber_115 rfl rfl ?_
    refine ze_iload X dc_R_readNumber_116 rfl ?_
    refine ze_iast X dc_R_readNumber_118 hk1 rfl (fun v13 _ => ?_)
    exact ze_vret X Y dc_R_readNumber_119
  · refine ze_iload X dc_R_readNumber_95 rfl ?_
    refine ze_iload_n X dc_R_readNumber_97 rfl rfl ?_
    refine ze_icmp_lt (tgt := 108) X dc_R_readNumber_98 (by decide) (fun _ => ?_) (fun _ => ?_)
    · refine ze_aload_n X dc_R_readNumber_108 rfl rfl ?_
      refine ze_iload X dc_R_readNumber_109 rfl ?_
      refine ze_puti X dc_R_readNumber_111 zp_R_15 sh_16 rfl (fun v14 => ?_)
      refine ze_aload_n X dc_R_readNumber_114 rfl rfl ?_
      refine ze_iload_n X dc_R_readNumber_115 rfl rfl ?_
      refine ze_iload X dc_R_readNumber_116 rfl ?_
      refine ze_iast X dc_R_readNumber_118 hk1 rfl (fun v15 _ => ?_)
      exact ze_vret X Y dc_R_readNumber_119
    · refine ze_iload X dc_R_readNumber_101 rfl ?_
      refine ze_iload X dc_R_readNumber_103 rfl ?_
      refine ze_icmp_le (tgt := 114) X dc_R_readNumber_105 (by decide) (fun _ => ?_) (fun _ => ?_)
      · refine ze_aload_n X dc_R_readNumber_114 rfl rfl ?_
        refine ze_iload_n X dc_R_readNumber_115 rfl rfl ?_
        refine ze_iload X dc_R_readNumber_116 rfl ?_
        refine ze_iast X dc_R_readNumber_118 hk1 rfl (fun v16 _ => ?_)
        exact ze_vret X Y dc_R_readNumber_119
      · refine ze_aload_n X dc_R_readNumber_108 rfl rfl ?_
        refine ze_iload X dc_R_readNumber_109 rfl ?_
        refine ze_puti X dc_R_readNumber_111 zp_R_15 sh_16 rfl (fun v17 => ?_)
        refine ze_aload_n X dc_R_readNumber_114 rfl rfl ?_
        refine ze_iload_n X dc_R_readNumber_115 rfl rfl ?_
        refine ze_iload X dc_R_readNumber_116 rfl ?_
        refine ze_iast X dc_R_readNumber_118 hk1 rfl (fun v18 _ => ?_)
        exact ze_vret X Y dc_R_readNumber_119
set_option maxHeartbeats 4000000 in
set_option maxRecDepth 100000 in
theorem w_R_readNumber {G : ze_G}  (X : ze_X G bc_R_readNumber cn_R 9 1 21) (Y : ze_Rv G)    (a1 : Nat) (a2 : Int32) (a3 : Int32) (a4 : Int32) (ha1 : ze_sh[a1]? = some (.inl (0, 164, none))) (v : ze_H) : ze_T G (f_R_readNumber  a1 a2 a3 a4 v) v 0 [some (.inr 16), some (.inr a1), some (.inl a2), some (.inl a3), some (.inl a4), none, none, none, none] [] := by
  refine ze_aload_n X dc_R_readNumber_0 rfl rfl ?_
  refine ze_geti X dc_R_readNumber_1 zf_R_15 sh_16 rfl ?_
  refine ze_iconst (x := (-1)) X dc_R_readNumber_4 (by decide) ?_
  refine ze_icmp_eq (tgt := 9) X dc_R_readNumber_5 (by decide) (fun _ => ?_) (fun _ => ?_)
  · refine ze_aload_n X dc_R_readNumber_9 rfl rfl ?_
    refine ze_geti X dc_R_readNumber_10 zf_R_22 sh_16 rfl ?_
    refine ze_istore X dc_R_readNumber_13 (by decide) (fun x1 => ?_)
    refine ze_iconst (x := 0) X dc_R_readNumber_15 (by decide) ?_
    refine ze_istore X dc_R_readNumber_16 (by decide) (fun x2 => ?_)
    refine ze_iconst (x := 0) X dc_R_readNumber_18 (by decide) ?_
    refine ze_istore X dc_R_readNumber_19 (by decide) (fun x3 => ?_)
    refine ze_weak [true, true, true, true, true, true, true, true, false] ?_
    refine w_R_readNumber_L21 X Y    a1 a2 a3 a4 x1 ha1 (fun x10 v11 => ?_) 200000 x2 x3 v
    refine ze_weak [true, true, true, true, true, true, true, false, false] ?_
    exact w_R_readNumber_J86 X Y    a1 a2 a3 a4 x1 x10 ha1 v11
  · exact ze_vret X Y dc_R_readNumber_8
set_option maxHeartbeats 4000000 in
set_option maxRecDepth 100000 in
theorem c_R_readNumber {l : Launch} {D : va_G} {ad : Nat → Nat} {ca : Nat → ClassId} (hD : va_D (ze_A ad) (ze_ws ze_sh ad ca (fun _ _ => 0)))     (a1 : Nat) (a2 : Int32) (a3 : Int32) (a4 : Int32) (ha1 : ze_sh[a1]? = some (.inl (0, 164, none))) (v : ze_H) {r : Int32} {v1 : ze_H} (h : f_R_readNumber  a1 a2 a3 a4 v = some (r, v1)) : ze_Mv l D ad ca my_R_readNumber bc_R_readNumber 9 1 21 [.inr 16, .inr a1, .inl a2, .inl a3, .inl a4] v v1 := ze_Mv_of (plainFor_of_name (by decide)) hD (Nat.le_of_ble_eq_true rfl) (fun G e1 e2 e3 e4 X Y => w_R_readNumber X Y    a1 a2 a3 a4 ha1 v) h
def f_R_readOneOf  (a1 : Nat) (v : ze_H) : Option (Int32 × ze_H) :=
  (if (v 16 3) = (-1) then ze_call (f_P_at  2 (v 16 2) v) (fun r1 v2 => ze_call (f_JS_indexOf0  a1 r1 v2) (fun r3 v4 => (if r3 < 0 then ze_lev (ze_u v4 16 3 (v4 16 2)) (fun v5 => some (0, v5)) else ze_lev (ze_u v4 16 2 ((v4 16 2) + 1)) (fun v6 => some (0, v6))))) else some (0, v))
set_option maxHeartbeats 4000000 in
set_option maxRecDepth 100000 in
theorem w_R_readOneOf {G : ze_G}  (X : ze_X G bc_R_readOneOf cn_R 2 4 91) (Y : ze_Rv G)    (a1 : Nat) (ha1 : None a1) (v : ze_H) : ze_T G (f_R_readOneOf  a1 v) v 0 [some (.inr 16), some (.inr a1)] [] := by
  refine ze_aload_n X dc_R_readOneOf_0 rfl rfl ?_
  refine ze_geti X dc_R_readOneOf_1 zf_R_15 sh_16 rfl ?_
  refine ze_iconst (x := (-1)) X dc_R_readOneOf_4 (by decide) ?_
  refine ze_icmp_eq (tgt := 9) X dc_R_readOneOf_5 (by decide) (fun _ => ?_) (fun _ => ?_)
  · refine ze_aload_n X dc_R_readOneOf_9 rfl rfl ?_
    refine ze_aload_n X dc_R_readOneOf_10 rfl rfl ?_
    refine ze_getr X dc_R_readOneOf_11 zf_R_9 sh_16 rfl ?_
    refine ze_aload_n X dc_R_readOneOf_14 rfl rfl ?_
    refine ze_geti X dc_R_readOneOf_15 zf_R_22 sh_16 rfl ?_
    refine ze_callVi (As := [.inl (v 16 2)]) (st := [.inr a1]) X dc_R_readOneOf_18 zc_R_29 is_Program_2.1 (fun zr zv zh => c_P_at X.2.2.2.2.2.2.1  2 (v 16 2) is_Program_2 v zh) rfl (by decide) (by decide) (Nat.le_of_ble_eq_true rfl) (fun r1 v2 => ?_)
    refine ze_callVi (As := [.inl r1]) (st := []) X dc_R_readOneOf_21 zc_R_66 ha1 (fun zr zv zh => c_JS_indexOf0 X.2.2.2.2.2.2.1  a1 r1 ha1 v2 zh) rfl (by decide) (by decide) (Nat.le_of_ble_eq_true rfl) (fun r3 v4 => ?_)
    refine ze_if_lt (tgt := 40) X dc_R_readOneOf_24 (by decide) (fun _ => ?_) (fun _ => ?_)
    · refine ze_aload_n X dc_R_readOneOf_40 rfl rfl ?_
      refine ze_aload_n X dc_R_readOneOf_41 rfl rfl ?_
      refine ze_geti X dc_R_readOneOf_42 zf_R_22 sh_16 rfl ?_
      refine ze_puti X dc_R_readOneOf_45 zp_R_15 sh_16 rfl (fun v5 => ?_)
      exact ze_vret X Y dc_R_readOneOf_48
    · refine ze_aload_n X dc_R_readOneOf_27 rfl rfl ?_
      refine ze_dup X dc_R_readOneOf_28 ?_
      refine ze_geti X dc_R_readOneOf_29 zf_R_22 sh_16 rfl ?_
      refine ze_iconst (x := 1) X dc_R_readOneOf_32 (by decide) ?_
      refine ze_iadd X dc_R_readOneOf_33 ?_
      refine ze_puti X dc_R_readOneOf_34 zp_R_22 sh_16 rfl (fun v6 => ?_)
      refine ze_goto (tgt := 48) X dc_R_readOneOf_37 (by decide) ?_
      exact ze_vret X Y dc_R_readOneOf_48
  · exact ze_vret X Y dc_R_readOneOf_8
set_option maxHeartbeats 4000000 in
set_option maxRecDepth 100000 in
theorem c_R_readOneOf {l : Launch} {D : va_G} {ad : Nat → Nat} {ca : Nat → ClassId} (hD : va_D (ze_A ad) (ze_ws ze_sh ad ca (fun _ _ => 0)))     (a1 : Nat) (ha1 : None a1) (v : ze_H) {r : Int32} {v1 : ze_H} (h : f_R_readOneOf  a1 v = some (r, v1)) : ze_Mv l D ad ca my_R_readOneOf bc_R_readOneOf 2 4 91 [.inr 16, .inr a1] v v1 := ze_Mv_of (plainFor_of_name (by decide)) hD (Nat.le_of_ble_eq_true rfl) (fun G e1 e2 e3 e4 X Y => w_R_readOneOf X Y    a1 ha1 v) h
def f_R_readTest_J27  (b1 : Int32) (s0 : Int32) (v : ze_H) : Option (Int32 × ze_H) :=
  ze_let s0 (fun x5 => ze_call (f_R_readOneOf  1 v) (fun r6 v7 => (if x5 = 0 then ze_call (f_R_readNumber  4 b1 0 9999 v7) (fun r8 v9 => some (0, v9)) else ze_call (f_R_readNumber  4 b1 1 9999 v7) (fun r10 v11 => some (0, v11)))))
def f_R_readTest  (a1 : Int32) (v : ze_H) : Option (Int32 × ze_H) :=
  ze_call (f_R_readOneOf  0 v) (fun r1 v2 => ze_call (f_P_at  2 (v2 16 2) v2) (fun r3 v4 => (if r3 = 37 then (f_R_readTest_J27  a1 1 v4) else (f_R_readTest_J27  a1 0 v4))))
set_option maxHeartbeats 4000000 in
set_option maxRecDepth 100000 in
theorem w_R_readTest_J27 {G : ze_G}  (X : ze_X G bc_R_readTest cn_R 3 5 112) (Y : ze_Rv G)    (b1 : Int32) (s0 : Int32)  (v : ze_H) : ze_T G (f_R_readTest_J27  b1 s0 v) v 27 [some (.inr 16), some (.inl b1), none] [.inl s0] := by
  refine ze_istore_n X dc_R_readTest_27 rfl (by decide) (fun x5 => ?_)
  refine ze_aload_n X dc_R_readTest_28 rfl rfl ?_
  refine ze_ldcs (i := 1) X dc_R_readTest_29 (q := (cn_R, 78, "<>=%", 1)) zt_R_78 rfl ?_
  refine ze_callVv (As := [.inr (1000 + 1)]) (st := []) X dc_R_readTest_31 zc_R_74 sh_16 (fun zr zv zh => c_R_readOneOf X.2.2.2.2.2.2.1  1 (by decide) v zh) rfl (by decide) (by decide) (Nat.le_of_ble_eq_true rfl) (fun r6 v7 => ?_)
  refine ze_aload_n X dc_R_readTest_34 rfl rfl ?_
  refine ze_aload_n X dc_R_readTest_35 rfl rfl ?_
  refine ze_getr X dc_R_readTest_36 zf_R_9 sh_16 rfl ?_
  refine ze_getr X dc_R_readTest_39 zf_R_39 is_Program_2.1 rfl ?_
  refine ze_iload_n X dc_R_readTest_42 rfl rfl ?_
  refine ze_iload_n X dc_R_readTest_43 rfl rfl ?_
  refine ze_if_eq (tgt := 51) X dc_R_readTest_44 (by decide) (fun _ => ?_) (fun _ => ?_)
  · refine ze_iconst (x := 0) X dc_R_readTest_51 (by decide) ?_
    refine ze_sipush (x := 9999) X dc_R_readTest_52 (by decide) ?_
    refine ze_callVv (As := [.inr 4, .inl b1, .inl 0, .inl 9999]) (st := []) X dc_R_readTest_55 zc_R_43 sh_16 (fun zr zv zh => c_R_readNumber X.2.2.2.2.2.2.1  4 b1 0 9999 sh_4 v7 zh) rfl (by decide) (by decide) (Nat.le_of_ble_eq_true rfl) (fun r8 v9 => ?_)
    exact ze_vret X Y dc_R_readTest_58
  · refine ze_iconst (x := 1) X dc_R_readTest_47 (by decide) ?_
    refine ze_goto (tgt := 52) X dc_R_readTest_48 (by decide) ?_
    refine ze_sipush (x := 9999) X dc_R_readTest_52 (by decide) ?_
    refine ze_callVv (As := [.inr 4, .inl b1, .inl 1, .inl 9999]) (st := []) X dc_R_readTest_55 zc_R_43 sh_16 (fun zr zv zh => c_R_readNumber X.2.2.2.2.2.2.1  4 b1 1 9999 sh_4 v7 zh) rfl (by decide) (by decide) (Nat.le_of_ble_eq_true rfl) (fun r10 v11 => ?_)
    exact ze_vret X Y dc_R_readTest_58
set_option maxHeartbeats 4000000 in
set_option maxRecDepth 100000 in
theorem w_R_readTest {G : ze_G}  (X : ze_X G bc_R_readTest cn_R 3 5 112) (Y : ze_Rv G)    (a1 : Int32)  (v : ze_H) : ze_T G (f_R_readTest  a1 v) v 0 [some (.inr 16), some (.inl a1), none] [] := by
  refine ze_aload_n X dc_R_readTest_0 rfl rfl ?_
  refine ze_ldcs (i := 0) X dc_R_readTest_1 (q := (cn_R, 72, "bk", 0)) zt_R_72 rfl ?_
  refine ze_callVv (As := [.inr (1000 + 0)]) (st := []) X dc_R_readTest_3 zc_R_74 sh_16 (fun zr zv zh => c_R_readOneOf X.2.2.2.2.2.2.1  0 (by decide) v zh) rfl (by decide) (by decide) (Nat.le_of_ble_eq_true rfl) (fun r1 v2 => ?_)
  refine ze_aload_n X dc_R_readTest_6 rfl rfl ?_
  refine ze_getr X dc_R_readTest_7 zf_R_9 sh_16 rfl ?_
  refine ze_aload_n X dc_R_readTest_10 rfl rfl ?_
  refine ze_geti X dc_R_readTest_11 zf_R_22 sh_16 rfl ?_
  refine ze_callVi (As := [.inl (v2 16 2)]) (st := []) X dc_R_readTest_14 zc_R_29 is_Program_2.1 (fun zr zv zh => c_P_at X.2.2.2.2.2.2.1  2 (v2 16 2) is_Program_2 v2 zh) rfl (by decide) (by decide) (Nat.le_of_ble_eq_true rfl) (fun r3 v4 => ?_)
  refine ze_bipush (x := 37) X dc_R_readTest_17 (by decide) ?_
  refine ze_icmp_ne (tgt := 26) X dc_R_readTest_19 (by decide) (fun _ => ?_) (fun _ => ?_)
  · refine ze_iconst (x := 1) X dc_R_readTest_22 (by decide) ?_
    refine ze_goto (tgt := 27) X dc_R_readTest_23 (by decide) ?_
    refine ze_weak [true, true, false] ?_
    exact w_R_readTest_J27 X Y    a1 1  v4
  · refine ze_iconst (x := 0) X dc_R_readTest_26 (by decide) ?_
    refine ze_weak [true, true, false] ?_
    exact w_R_readTest_J27 X Y    a1 0  v4
set_option maxHeartbeats 4000000 in
set_option maxRecDepth 100000 in
theorem c_R_readTest {l : Launch} {D : va_G} {ad : Nat → Nat} {ca : Nat → ClassId} (hD : va_D (ze_A ad) (ze_ws ze_sh ad ca (fun _ _ => 0)))     (a1 : Int32)  (v : ze_H) {r : Int32} {v1 : ze_H} (h : f_R_readTest  a1 v = some (r, v1)) : ze_Mv l D ad ca my_R_readTest bc_R_readTest 3 5 112 [.inr 16, .inl a1] v v1 := ze_Mv_of (plainFor_of_name (by decide)) hD (Nat.le_of_ble_eq_true rfl) (fun G e1 e2 e3 e4 X Y => w_R_readTest X Y    a1  v) h
def f_R_readGathering  (a1 : Int32) (a2 : Int32) (v : ze_H) : Option (Int32 × ze_H) :=
  ze_call (f_R_refuseInner  a1 a2 v) (fun r1 v2 => ze_call (f_R_readNumber  4 a1 2 4 v2) (fun r3 v4 => ze_call (f_R_readOneOf  2 v4) (fun r5 v6 => ze_call (f_R_readNumber  5 a1 1 99 v6) (fun r7 v8 => some (0, v8)))))
set_option maxHeartbeats 4000000 in
set_option maxRecDepth 100000 in
theorem w_R_readGathering {G : ze_G}  (X : ze_X G bc_R_readGathering cn_R 3 5 112) (Y : ze_Rv G)    (a1 : Int32) (a2 : Int32)  (v : ze_H) : ze_T G (f_R_readGathering  a1 a2 v) v 0 [some (.inr 16), some (.inl a1), some (.inl a2)] [] := by
  refine ze_aload_n X dc_R_readGathering_0 rfl rfl ?_
  refine ze_iload_n X dc_R_readGathering_1 rfl rfl ?_
  refine ze_iload_n X dc_R_readGathering_2 rfl rfl ?_
  refine ze_callVv (As := [.inl a1, .inl a2]) (st := []) X dc_R_readGathering_3 zc_R_91 sh_16 (fun zr zv zh => c_R_refuseInner X.2.2.2.2.2.2.1  a1 a2  v zh) rfl (by decide) (by decide) (Nat.le_of_ble_eq_true rfl) (fun r1 v2 => ?_)
  refine ze_aload_n X dc_R_readGathering_6 rfl rfl ?_
  refine ze_aload_n X dc_R_readGathering_7 rfl rfl ?_
  refine ze_getr X dc_R_readGathering_8 zf_R_9 sh_16 rfl ?_
  refine ze_getr X dc_R_readGathering_11 zf_R_39 is_Program_2.1 rfl ?_
  refine ze_iload_n X dc_R_readGathering_14 rfl rfl ?_
  refine ze_iconst (x := 2) X dc_R_readGathering_15 (by decide) ?_
  refine ze_iconst (x := 4) X dc_R_readGathering_16 (by decide) ?_
  refine ze_callVv (As := [.inr 4, .inl a1, .inl 2, .inl 4]) (st := []) X dc_R_readGathering_17 zc_R_43 sh_16 (fun zr zv zh => c_R_readNumber X.2.2.2.2.2.2.1  4 a1 2 4 sh_4 v2 zh) rfl (by decide) (by decide) (Nat.le_of_ble_eq_true rfl) (fun r3 v4 => ?_)
  refine ze_aload_n X dc_R_readGathering_20 rfl rfl ?_
  refine ze_ldcs (i := 2) X dc_R_readGathering_21 (q := (cn_R, 94, ",", 2)) zt_R_94 rfl ?_
  refine ze_callVv (As := [.inr (1000 + 2)]) (st := []) X dc_R_readGathering_23 zc_R_74 sh_16 (fun zr zv zh => c_R_readOneOf X.2.2.2.2.2.2.1  2 (by decide) v4 zh) rfl (by decide) (by decide) (Nat.le_of_ble_eq_true rfl) (fun r5 v6 => ?_)
  refine ze_aload_n X dc_R_readGathering_26 rfl rfl ?_
  refine ze_aload_n X dc_R_readGathering_27 rfl rfl ?_
  refine ze_getr X dc_R_readGathering_28 zf_R_9 sh_16 rfl ?_
  refine ze_getr X dc_R_readGathering_31 zf_R_96 is_Program_2.1 rfl ?_
  refine ze_iload_n X dc_R_readGathering_34 rfl rfl ?_
  refine ze_iconst (x := 1) X dc_R_readGathering_35 (by decide) ?_
  refine ze_bipush (x := 99) X dc_R_readGathering_36 (by decide) ?_
  refine ze_callVv (As := [.inr 5, .inl a1, .inl 1, .inl 99]) (st := []) X dc_R_readGathering_38 zc_R_43 sh_16 (fun zr zv zh => c_R_readNumber X.2.2.2.2.2.2.1  5 a1 1 99 sh_5 v6 zh) rfl (by decide) (by decide) (Nat.le_of_ble_eq_true rfl) (fun r7 v8 => ?_)
  exact ze_vret X Y dc_R_readGathering_41
set_option maxHeartbeats 4000000 in
set_option maxRecDepth 100000 in
theorem c_R_readGathering {l : Launch} {D : va_G} {ad : Nat → Nat} {ca : Nat → ClassId} (hD : va_D (ze_A ad) (ze_ws ze_sh ad ca (fun _ _ => 0)))     (a1 : Int32) (a2 : Int32)  (v : ze_H) {r : Int32} {v1 : ze_H} (h : f_R_readGathering  a1 a2 v = some (r, v1)) : ze_Mv l D ad ca my_R_readGathering bc_R_readGathering 3 5 112 [.inr 16, .inl a1, .inl a2] v v1 := ze_Mv_of (plainFor_of_name (by decide)) hD (Nat.le_of_ble_eq_true rfl) (fun G e1 e2 e3 e4 X Y => w_R_readGathering X Y    a1 a2  v) h
def f_R_readOrdering  (a1 : Int32) (a2 : Int32) (v : ze_H) : Option (Int32 × ze_H) :=
  ze_call (f_R_refuseInner  a1 a2 v) (fun r1 v2 => ze_call (f_R_readNumber  4 a1 2 4 v2) (fun r3 v4 => some (0, v4)))
set_option maxHeartbeats 4000000 in
set_option maxRecDepth 100000 in
theorem w_R_readOrdering {G : ze_G}  (X : ze_X G bc_R_readOrdering cn_R 3 2 49) (Y : ze_Rv G)    (a1 : Int32) (a2 : Int32)  (v : ze_H) : ze_T G (f_R_readOrdering  a1 a2 v) v 0 [some (.inr 16), some (.inl a1), some (.inl a2)] [] := by
  refine ze_aload_n X dc_R_readOrdering_0 rfl rfl ?_
  refine ze_iload_n X dc_R_readOrdering_1 rfl rfl ?_
  refine ze_iload_n X dc_R_readOrdering_2 rfl rfl ?_
  refine ze_callVv (As := [.inl a1, .inl a2]) (st := []) X dc_R_readOrdering_3 zc_R_91 sh_16 (fun zr zv zh => c_R_refuseInner X.2.2.2.2.2.2.1  a1 a2  v zh) rfl (by decide) (by decide) (Nat.le_of_ble_eq_true rfl) (fun r1 v2 => ?_)
  refine ze_aload_n X dc_R_readOrdering_6 rfl rfl ?_
  refine ze_aload_n X dc_R_readOrdering_7 rfl rfl ?_
  refine ze_getr X dc_R_readOrdering_8 zf_R_9 sh_16 rfl ?_
  refine ze_getr X dc_R_readOrdering_11 zf_R_39 is_Program_2.1 rfl ?_
  refine ze_iload_n X dc_R_readOrdering_14 rfl rfl ?_
  refine ze_iconst (x := 2) X dc_R_readOrdering_15 (by decide) ?_
  refine ze_iconst (x := 4) X dc_R_readOrdering_16 (by decide) ?_
  refine ze_callVv (As := [.inr 4, .inl a1, .inl 2, .inl 4]) (st := []) X dc_R_readOrdering_17 zc_R_43 sh_16 (fun zr zv zh => c_R_readNumber X.2.2.2.2.2.2.1  4 a1 2 4 sh_4 v2 zh) rfl (by decide) (by decide) (Nat.le_of_ble_eq_true rfl) (fun r3 v4 => ?_)
  exact ze_vret X Y dc_R_readOrdering_20
set_option maxHeartbeats 4000000 in
set_option maxRecDepth 100000 in
theorem c_R_readOrdering {l : Launch} {D : va_G} {ad : Nat → Nat} {ca : Nat → ClassId} (hD : va_D (ze_A ad) (ze_ws ze_sh ad ca (fun _ _ => 0)))     (a1 : Int32) (a2 : Int32)  (v : ze_H) {r : Int32} {v1 : ze_H} (h : f_R_readOrdering  a1 a2 v = some (r, v1)) : ze_Mv l D ad ca my_R_readOrdering bc_R_readOrdering 3 2 49 [.inr 16, .inl a1, .inl a2] v v1 := ze_Mv_of (plainFor_of_name (by decide)) hD (Nat.le_of_ble_eq_true rfl) (fun G e1 e2 e3 e4 X Y => w_R_readOrdering X Y    a1 a2  v) h
def f_R_readInner_J21 (RC : Int32 → ze_H → Option (Int32 × ze_H)) (b1 : Int32) (v : ze_H) : Option (Int32 × ze_H) :=
  ze_call (f_R_readOneOf  3 v) (fun r1 v2 => ze_let (v2 16 2) (fun x3 => ze_call (RC  (b1 + 1) v2) (fun r4 v5 => some (x3, v5))))
def f_R_readInner (RC : Int32 → ze_H → Option (Int32 × ze_H)) (a1 : Int32) (v : ze_H) : Option (Int32 × ze_H) :=
  (if a1 < 3 then (f_R_readInner_J21 RC a1 v) else (if (v 16 3) = (-1) then ze_lev (ze_u v 16 3 (v 16 2)) (fun v6 => (f_R_readInner_J21 RC a1 v6)) else (f_R_readInner_J21 RC a1 v)))
set_option maxHeartbeats 4000000 in
set_option maxRecDepth 100000 in
theorem w_R_readInner_J21 {G : ze_G} {fr1 lo1 : Nat} (X : ze_X G bc_R_readInner cn_R 3 (fr1 + 1) (lo1 + 60)) (Y : ze_Ri G .int) (hfr : 12 ≤ fr1) (hlo : 300 ≤ lo1) (RC : Int32 → ze_H → Option (Int32 × ze_H)) (hRC : ∀ (a : Int32), ∀ (v : ze_H) (r : Int32) (v1 : ze_H), RC a v = some (r, v1) → ze_Mv (ze_l G) (ze_D G) (ze_ad G) (ze_ca G) my_R_readList bc_R_readList 4 fr1 lo1 [.inr 16, .inl a] v v1) (b1 : Int32)  (v : ze_H) : ze_T G (f_R_readInner_J21 RC b1 v) v 21 [some (.inr 16), some (.inl b1), none] [] := by
  refine ze_aload_n X dc_R_readInner_21 rfl rfl ?_
  refine ze_ldcs (i := 3) X dc_R_readInner_22 (q := (cn_R, 80, "(", 3)) zt_R_80 rfl ?_
  refine ze_callVv (As := [.inr (1000 + 3)]) (st := []) X dc_R_readInner_24 zc_R_74 sh_16 (fun zr zv zh => c_R_readOneOf X.2.2.2.2.2.2.1  3 (by decide) v zh) rfl (by omega) (by omega) (Nat.le_of_ble_eq_true rfl) (fun r1 v2 => ?_)
  refine ze_aload_n X dc_R_readInner_27 rfl rfl ?_
  refine ze_geti X dc_R_readInner_28 zf_R_22 sh_16 rfl ?_
  refine ze_istore_n X dc_R_readInner_31 rfl (by decide) (fun x3 => ?_)
  refine ze_aload_n X dc_R_readInner_32 rfl rfl ?_
  refine ze_iload_n X dc_R_readInner_33 rfl rfl ?_
  refine ze_iconst (x := 1) X dc_R_readInner_34 (by decide) ?_
  refine ze_iadd X dc_R_readInner_35 ?_
  refine ze_callVv (As := [.inl (b1 + 1)]) (st := []) X dc_R_readInner_36 zc_R_25 sh_16 (fun zr zv zh => hRC (b1 + 1)  v2 zr zv zh) rfl (by omega) (by omega) (Nat.le_of_ble_eq_true rfl) (fun r4 v5 => ?_)
  refine ze_iload_n X dc_R_readInner_39 rfl rfl ?_
  exact ze_iret X Y (vp_nar_int _) dc_R_readInner_40
set_option maxHeartbeats 4000000 in
set_option maxRecDepth 100000 in
theorem w_R_readInner {G : ze_G} {fr1 lo1 : Nat} (X : ze_X G bc_R_readInner cn_R 3 (fr1 + 1) (lo1 + 60)) (Y : ze_Ri G .int) (hfr : 12 ≤ fr1) (hlo : 300 ≤ lo1) (RC : Int32 → ze_H → Option (Int32 × ze_H)) (hRC : ∀ (a : Int32), ∀ (v : ze_H) (r : Int32) (v1 : ze_H), RC a v = some (r, v1) → ze_Mv (ze_l G) (ze_D G) (ze_ad G) (ze_ca G) my_R_readList bc_R_readList 4 fr1 lo1 [.inr 16, .inl a] v v1) (a1 : Int32)  (v : ze_H) : ze_T G (f_R_readInner RC a1 v) v 0 [some (.inr 16), some (.inl a1), none] [] := by
  refine ze_iload_n X dc_R_readInner_0 rfl rfl ?_
  refine ze_iconst (x := 3) X dc_R_readInner_1 (by decide) ?_
  refine ze_icmp_lt (tgt := 21) X dc_R_readInner_2 (by decide) (fun _ => ?_) (fun _ => ?_)
  · refine ze_weak [true, true, false] ?_
    exact w_R_readInner_J21 X Y hfr hlo RC hRC a1  v
  · refine ze_aload_n X dc_R_readInner_5 rfl rfl ?_
    refine ze_geti X dc_R_readInner_6 zf_R_15 sh_16 rfl ?_
    refine ze_iconst (x := (-1)) X dc_R_readInner_9 (by decide) ?_
    refine ze_icmp_ne (tgt := 21) X dc_R_readInner_10 (by decide) (fun _ => ?_) (fun _ => ?_)
    · refine ze_aload_n X dc_R_readInner_13 rfl rfl ?_
      refine ze_aload_n X dc_R_readInner_14 rfl rfl ?_
      refine ze_geti X dc_R_readInner_15 zf_R_22 sh_16 rfl ?_
      refine ze_puti X dc_R_readInner_18 zp_R_15 sh_16 rfl (fun v6 => ?_)
      refine ze_weak [true, true, false] ?_
      exact w_R_readInner_J21 X Y hfr hlo RC hRC a1  v6
    · refine ze_weak [true, true, false] ?_
      exact w_R_readInner_J21 X Y hfr hlo RC hRC a1  v
set_option maxHeartbeats 4000000 in
set_option maxRecDepth 100000 in
theorem c_R_readInner {l : Launch} {D : va_G} {ad : Nat → Nat} {ca : Nat → ClassId} (hD : va_D (ze_A ad) (ze_ws ze_sh ad ca (fun _ _ => 0))) {fr1 lo1 : Nat} (hfr : 12 ≤ fr1) (hlo : 300 ≤ lo1) (RC : Int32 → ze_H → Option (Int32 × ze_H)) (hRC : ∀ (a : Int32), ∀ (v : ze_H) (r : Int32) (v1 : ze_H), RC a v = some (r, v1) → ze_Mv l D ad ca my_R_readList bc_R_readList 4 fr1 lo1 [.inr 16, .inl a] v v1) (a1 : Int32)  (v : ze_H) {r : Int32} {v1 : ze_H} (h : f_R_readInner RC a1 v = some (r, v1)) : ze_Mi l D ad ca my_R_readInner bc_R_readInner 3 .int (fr1 + 1) (lo1 + 60) [.inr 16, .inl a1] v r v1 := ze_Mi_of (plainFor_of_name (by decide)) hD (Nat.le_of_ble_eq_true rfl) (fun G e1 e2 e3 e4 X Y => by subst e1 e2 e3 e4; exact w_R_readInner X Y hfr hlo RC hRC a1  v) h
def f_R_readChoice (RC : Int32 → ze_H → Option (Int32 × ze_H)) (a1 : Int32) (a2 : Int32) (v : ze_H) : Option (Int32 × ze_H) :=
  ze_call (f_R_readTest  a1 v) (fun r1 v2 => ze_call (f_R_readInner RC a2 v2) (fun r3 v4 => ze_in a1 164 (ze_lev (ze_u v4 6 (Int32.toNatClampNeg a1) r3) (fun v5 => ze_in a1 164 (ze_lev (ze_u v5 7 (Int32.toNatClampNeg a1) (-1)) (fun v6 => (if (v6 16 3) = (-1) then ze_call (f_P_at  2 (v6 16 2) v6) (fun r7 v8 => (if r7 = 58 then ze_lev (ze_u v8 16 2 ((v8 16 2) + 1)) (fun v9 => ze_call (f_R_readInner RC a2 v9) (fun r10 v11 => ze_in a1 164 (ze_lev (ze_u v11 7 (Int32.toNatClampNeg a1) r10) (fun v12 => some (0, v12))))) else some (0, v8))) else some (0, v6))))))))
set_option maxHeartbeats 4000000 in
set_option maxRecDepth 100000 in
theorem w_R_readChoice {G : ze_G} {fr1 lo1 : Nat} (X : ze_X G bc_R_readChoice cn_R 3 (fr1 + 2) (lo1 + 120)) (Y : ze_Rv G) (hfr : 12 ≤ fr1) (hlo : 300 ≤ lo1) (RC : Int32 → ze_H → Option (Int32 × ze_H)) (hRC : ∀ (a : Int32), ∀ (v : ze_H) (r : Int32) (v1 : ze_H), RC a v = some (r, v1) → ze_Mv (ze_l G) (ze_D G) (ze_ad G) (ze_ca G) my_R_readList bc_R_readList 4 fr1 lo1 [.inr 16, .inl a] v v1) (a1 : Int32) (a2 : Int32)  (v : ze_H) : ze_T G (f_R_readChoice RC a1 a2 v) v 0 [some (.inr 16), some (.inl a1), some (.inl a2)] [] := by
  refine ze_aload_n X dc_R_readChoice_0 rfl rfl ?_
  refine ze_iload_n X dc_R_readChoice_1 rfl rfl ?_
  refine ze_callVv (As := [.inl a1]) (st := []) X dc_R_readChoice_2 zc_R_47 sh_16 (fun zr zv zh => c_R_readTest X.2.2.2.2.2.2.1  a1  v zh) rfl (by omega) (by omega) (Nat.le_of_ble_eq_true rfl) (fun r1 v2 => ?_)
  refine ze_aload_n X dc_R_readChoice_5 rfl rfl ?_
  refine ze_getr X dc_R_readChoice_6 zf_R_9 sh_16 rfl ?_
  refine ze_getr X dc_R_readChoice_9 zf_R_82 is_Program_2.1 rfl ?_
  refine ze_iload_n X dc_R_readChoice_12 rfl rfl ?_
  refine ze_aload_n X dc_R_readChoice_13 rfl rfl ?_
  refine ze_iload_n X dc_R_readChoice_14 rfl rfl ?_
  refine ze_callVi (As := [.inl a2]) (st := [.inl a1, .inr 6]) X dc_R_readChoice_15 zc_R_85 sh_16 (fun zr zv zh => c_R_readInner X.2.2.2.2.2.2.1 hfr hlo RC hRC a2  v2 zh) rfl (by omega) (by omega) (Nat.le_of_ble_eq_true rfl) (fun r3 v4 => ?_)
  refine ze_iast X dc_R_readChoice_18 sh_6 rfl (fun v5 _ => ?_)
  refine ze_aload_n X dc_R_readChoice_19 rfl rfl ?_
  refine ze_getr X dc_R_readChoice_20 zf_R_9 sh_16 rfl ?_
  refine ze_getr X dc_R_readChoice_23 zf_R_88 is_Program_2.1 rfl ?_
  refine ze_iload_n X dc_R_readChoice_26 rfl rfl ?_
  refine ze_iconst (x := (-1)) X dc_R_readChoice_27 (by decide) ?_
  refine ze_iast X dc_R_readChoice_28 sh_7 rfl (fun v6 _ => ?_)
  refine ze_aload_n X dc_R_readChoice_29 rfl rfl ?_
  refine ze_geti X dc_R_readChoice_30 zf_R_15 sh_16 rfl ?_
  refine ze_iconst (x := (-1)) X dc_R_readChoice_33 (by decide) ?_
  refine ze_icmp_ne (tgt := 77) X dc_R_readChoice_34 (by decide) (fun _ => ?_) (fun _ => ?_)
  · refine ze_aload_n X dc_R_readChoice_37 rfl rfl ?_
    refine ze_getr X dc_R_readChoice_38 zf_R_9 sh_16 rfl ?_
    refine ze_aload_n X dc_R_readChoice_41 rfl rfl ?_
    refine ze_geti X dc_R_readChoice_42 zf_R_22 sh_16 rfl ?_
    refine ze_callVi (As := [.inl (v6 16 2)]) (st := []) X dc_R_readChoice_45 zc_R_29 is_Program_2.1 (fun zr zv zh => c_P_at X.2.2.2.2.2.2.1  2 (v6 16 2) is_Program_2 v6 zh) rfl (by omega) (by omega) (Nat.le_of_ble_eq_true rfl) (fun r7 v8 => ?_)
    refine ze_bipush (x := 58) X dc_R_readChoice_48 (by decide) ?_
    refine ze_icmp_ne (tgt := 77) X dc_R_readChoice_50 (by decide) (fun _ => ?_) (fun _ => ?_)
    · refine ze_aload_n X dc_R_readChoice_53 rfl rfl ?_
      refine ze_dup X dc_R_readChoice_54 ?_
      refine ze_geti X dc_R_readChoice_55 zf_R_22 sh_16 rfl ?_
      refine ze_iconst (x := 1) X dc_R_readChoice_58 (by decide) ?_
      refine ze_iadd X dc_R_readChoice_59 ?_
      refine ze_puti X dc_R_readChoice_60 zp_R_22 sh_16 rfl (fun v9 => ?_)
      refine ze_aload_n X dc_R_readChoice_63 rfl rfl ?_
      refine ze_getr X dc_R_readChoice_64 zf_R_9 sh_16 rfl ?_
      refine ze_getr X dc_R_readChoice_67 zf_R_88 is_Program_2.1 rfl ?_
      refine ze_iload_n X dc_R_readChoice_70 rfl rfl ?_
      refine ze_aload_n X dc_R_readChoice_71 rfl rfl ?_
      refine ze_iload_n X dc_R_readChoice_72 rfl rfl ?_
      refine ze_callVi (As := [.inl a2]) (st := [.inl a1, .inr 7]) X dc_R_readChoice_73 zc_R_85 sh_16 (fun zr zv zh => c_R_readInner X.2.2.2.2.2.2.1 hfr hlo RC hRC a2  v9 zh) rfl (by omega) (by omega) (Nat.le_of_ble_eq_true rfl) (fun r10 v11 => ?_)
      refine ze_iast X dc_R_readChoice_76 sh_7 rfl (fun v12 _ => ?_)
      exact ze_vret X Y dc_R_readChoice_77
    · exact ze_vret X Y dc_R_readChoice_77
  · exact ze_vret X Y dc_R_readChoice_77
set_option maxHeartbeats 4000000 in
set_option maxRecDepth 100000 in
theorem c_R_readChoice {l : Launch} {D : va_G} {ad : Nat → Nat} {ca : Nat → ClassId} (hD : va_D (ze_A ad) (ze_ws ze_sh ad ca (fun _ _ => 0))) {fr1 lo1 : Nat} (hfr : 12 ≤ fr1) (hlo : 300 ≤ lo1) (RC : Int32 → ze_H → Option (Int32 × ze_H)) (hRC : ∀ (a : Int32), ∀ (v : ze_H) (r : Int32) (v1 : ze_H), RC a v = some (r, v1) → ze_Mv l D ad ca my_R_readList bc_R_readList 4 fr1 lo1 [.inr 16, .inl a] v v1) (a1 : Int32) (a2 : Int32)  (v : ze_H) {r : Int32} {v1 : ze_H} (h : f_R_readChoice RC a1 a2 v = some (r, v1)) : ze_Mv l D ad ca my_R_readChoice bc_R_readChoice 3 (fr1 + 2) (lo1 + 120) [.inr 16, .inl a1, .inl a2] v v1 := ze_Mv_of (plainFor_of_name (by decide)) hD (Nat.le_of_ble_eq_true rfl) (fun G e1 e2 e3 e4 X Y => by subst e1 e2 e3 e4; exact w_R_readChoice X Y hfr hlo RC hRC a1 a2  v) h
def f_R_readSplit (RC : Int32 → ze_H → Option (Int32 × ze_H)) (a1 : Int32) (a2 : Int32) (v : ze_H) : Option (Int32 × ze_H) :=
  ze_call (f_R_readNumber  4 a1 1 4 v) (fun r1 v2 => ze_call (f_R_readInner RC a2 v2) (fun r3 v4 => ze_in a1 164 (ze_lev (ze_u v4 6 (Int32.toNatClampNeg a1) r3) (fun v5 => some (0, v5)))))
set_option maxHeartbeats 4000000 in
set_option maxRecDepth 100000 in
theorem w_R_readSplit {G : ze_G} {fr1 lo1 : Nat} (X : ze_X G bc_R_readSplit cn_R 3 (fr1 + 2) (lo1 + 120)) (Y : ze_Rv G) (hfr : 12 ≤ fr1) (hlo : 300 ≤ lo1) (RC : Int32 → ze_H → Option (Int32 × ze_H)) (hRC : ∀ (a : Int32), ∀ (v : ze_H) (r : Int32) (v1 : ze_H), RC a v = some (r, v1) → ze_Mv (ze_l G) (ze_D G) (ze_ad G) (ze_ca G) my_R_readList bc_R_readList 4 fr1 lo1 [.inr 16, .inl a] v v1) (a1 : Int32) (a2 : Int32)  (v : ze_H) : ze_T G (f_R_readSplit RC a1 a2 v) v 0 [some (.inr 16), some (.inl a1), some (.inl a2)] [] := by
  refine ze_aload_n X dc_R_readSplit_0 rfl rfl ?_
  refine ze_aload_n X dc_R_readSplit_1 rfl rfl ?_
  refine ze_getr X dc_R_readSplit_2 zf_R_9 sh_16 rfl ?_
  refine ze_getr X dc_R_readSplit_5 zf_R_39 is_Program_2.1 rfl ?_
  refine ze_iload_n X dc_R_readSplit_8 rfl rfl ?_
  refine ze_iconst (x := 1) X dc_R_readSplit_9 (by decide) ?_
  refine ze_iconst (x := 4) X dc_R_readSplit_10 (by decide) ?_
  refine ze_callVv (As := [.inr 4, .inl a1, .inl 1, .inl 4]) (st := []) X dc_R_readSplit_11 zc_R_43 sh_16 (fun zr zv zh => c_R_readNumber X.2.2.2.2.2.2.1  4 a1 1 4 sh_4 v zh) rfl (by omega) (by omega) (Nat.le_of_ble_eq_true rfl) (fun r1 v2 => ?_)
  refine ze_aload_n X dc_R_readSplit_14 rfl rfl ?_
  refine ze_getr X dc_R_readSplit_15 zf_R_9 sh_16 rfl ?_
  refine ze_getr X dc_R_readSplit_18 zf_R_82 is_Program_2.1 rfl ?_
  refine ze_iload_n X dc_R_readSplit_21 rfl rfl ?_
  refine ze_aload_n X dc_R_readSplit_22 rfl rfl ?_
  refine ze_iload_n X dc_R_readSplit_23 rfl rfl ?_
  refine ze_callVi (As := [.inl a2]) (st := [.inl a1, .inr 6]) X dc_R_readSplit_24 zc_R_85 sh_16 (fun zr zv zh => c_R_readInner X.2.2.2.2.2.2.1 hfr hlo RC hRC a2  v2 zh) rfl (by omega) (by omega) (Nat.le_of_ble_eq_true rfl) (fun r3 v4 => ?_)
  refine ze_iast X dc_R_readSplit_27 sh_6 rfl (fun v5 _ => ?_)
  exact ze_vret X Y dc_R_readSplit_28
set_option maxHeartbeats 4000000 in
set_option maxRecDepth 100000 in
theorem c_R_readSplit {l : Launch} {D : va_G} {ad : Nat → Nat} {ca : Nat → ClassId} (hD : va_D (ze_A ad) (ze_ws ze_sh ad ca (fun _ _ => 0))) {fr1 lo1 : Nat} (hfr : 12 ≤ fr1) (hlo : 300 ≤ lo1) (RC : Int32 → ze_H → Option (Int32 × ze_H)) (hRC : ∀ (a : Int32), ∀ (v : ze_H) (r : Int32) (v1 : ze_H), RC a v = some (r, v1) → ze_Mv l D ad ca my_R_readList bc_R_readList 4 fr1 lo1 [.inr 16, .inl a] v v1) (a1 : Int32) (a2 : Int32)  (v : ze_H) {r : Int32} {v1 : ze_H} (h : f_R_readSplit RC a1 a2 v = some (r, v1)) : ze_Mv l D ad ca my_R_readSplit bc_R_readSplit 3 (fr1 + 2) (lo1 + 120) [.inr 16, .inl a1, .inl a2] v v1 := ze_Mv_of (plainFor_of_name (by decide)) hD (Nat.le_of_ble_eq_true rfl) (fun G e1 e2 e3 e4 X Y => by subst e1 e2 e3 e4; exact w_R_readSplit X Y hfr hlo RC hRC a1 a2  v) h
def f_R_readStep (RC : Int32 → ze_H → Option (Int32 × ze_H)) (a1 : Int32) (a2 : Int32) (v : ze_H) : Option (Int32 × ze_H) :=
  ze_let (v 16 2) (fun x1 => ze_lev (ze_u v 16 2 ((v 16 2) + 1)) (fun v2 => (if a1 = 33 then ze_call (f_R_readNumber  4 x1 0 3 v2) (fun r4 v5 => ze_in x1 164 (ze_lev (ze_u v5 8 (Int32.toNatClampNeg x1) (v5 16 2)) (fun v6 => some (0, v6)))) else (if a1 = 38 then ze_call (f_R_readNumber  4 x1 0 3 v2) (fun r8 v9 => ze_in x1 164 (ze_lev (ze_u v9 8 (Int32.toNatClampNeg x1) (v9 16 2)) (fun v10 => some (0, v10)))) else (if a1 = 42 then ze_call (f_R_readNumber  4 x1 0 9999 v2) (fun r12 v13 => ze_in x1 164 (ze_lev (ze_u v13 8 (Int32.toNatClampNeg x1) (v13 16 2)) (fun v14 => some (0, v14)))) else (if a1 = 43 then ze_call (f_R_readNumber  4 x1 0 9999 v2) (fun r16 v17 => ze_in x1 164 (ze_lev (ze_u v17 8 (Int32.toNatClampNeg x1) (v17 16 2)) (fun v18 => some (0, v18)))) else (if a1 = 45 then ze_call (f_R_readNumber  4 x1 0 9999 v2) (fun r20 v21 => ze_in x1 164 (ze_lev (ze_u v21 8 (Int32.toNatClampNeg x1) (v21 16 2)) (fun v22 => some (0, v22)))) else (if a1 = 62 then ze_call (f_R_readNumber  4 x1 ((v2 16 1) + 1) 3 v2) (fun r24 v25 => ze_in x1 164 (ze_lev (ze_u v25 8 (Int32.toNatClampNeg x1) (v25 16 2)) (fun v26 => some (0, v26)))) else (if a1 = 63 then ze_call (f_R_readChoice RC x1 a2 v2) (fun r28 v29 => ze_in x1 164 (ze_lev (ze_u v29 8 (Int32.toNatClampNeg x1) (v29 16 2)) (fun v30 => some (0, v30)))) else (if a1 = 97 then ze_call (f_R_readGathering  x1 a2 v2) (fun r32 v33 => ze_in x1 164 (ze_lev (ze_u v33 8 (Int32.toNatClampNeg x1) (v33 16 2)) (fun v34 => some (0, v34)))) else (if a1 = 98 then ze_in x1 164 (ze_lev (ze_u v2 8 (Int32.toNatClampNeg x1) (v2 16 2)) (fun v36 => some (0, v36))) else (if a1 = 102 then ze_call (f_R_readTest  x1 v2) (fun r38 v39 => ze_in x1 164 (ze_lev (ze_u v39 8 (Int32.toNatClampNeg x1) (v39 16 2)) (fun v40 => some (0, v40)))) else (if a1 = 105 then ze_in x1 164 (ze_lev (ze_u v2 8 (Int32.toNatClampNeg x1) (v2 16 2)) (fun v42 => some (0, v42))) else (if a1 = 107 then ze_in x1 164 (ze_lev (ze_u v2 8 (Int32.toNatClampNeg x1) (v2 16 2)) (fun v44 => some (0, v44))) else (if a1 = 113 then ze_call (f_R_readOrdering  x1 a2 v2) (fun r46 v47 => ze_in x1 164 (ze_lev (ze_u v47 8 (Int32.toNatClampNeg x1) (v47 16 2)) (fun v48 => some (0, v48)))) else (if a1 = 114 then ze_in x1 164 (ze_lev (ze_u v2 8 (Int32.toNatClampNeg x1) (v2 16 2)) (fun v50 => some (0, v50))) else (if a1 = 115 then ze_call (f_R_readSplit RC x1 a2 v2) (fun r52 v53 => ze_in x1 164 (ze_lev (ze_u v53 8 (Int32.toNatClampNeg x1) (v53 16 2)) (fun v54 => some (0, v54)))) else ze_lev (ze_u v2 16 3 x1) (fun v55 => ze_in x1 164 (ze_lev (ze_u v55 8 (Int32.toNatClampNeg x1) (v55 16 2)) (fun v56 => some (0, v56)))))))))))))))))))))
set_option maxHeartbeats 4000000 in
set_option maxRecDepth 100000 in
theorem w_R_readStep {G : ze_G} {fr1 lo1 : Nat} (X : ze_X G bc_R_readStep cn_R 4 (fr1 + 3) (lo1 + 180)) (Y : ze_Rv G) (hfr : 12 ≤ fr1) (hlo : 300 ≤ lo1) (RC : Int32 → ze_H → Option (Int32 × ze_H)) (hRC : ∀ (a : Int32), ∀ (v : ze_H) (r : Int32) (v1 : ze_H), RC a v = some (r, v1) → ze_Mv (ze_l G) (ze_D G) (ze_ad G) (ze_ca G) my_R_readList bc_R_readList 4 fr1 lo1 [.inr 16, .inl a] v v1) (a1 : Int32) (a2 : Int32)  (v : ze_H) : ze_T G (f_R_readStep RC a1 a2 v) v 0 [some (.inr 16), some (.inl a1), some (.inl a2), none] [] := by
  refine ze_aload_n X dc_R_readStep_0 rfl rfl ?_
  refine ze_geti X dc_R_readStep_1 zf_R_22 sh_16 rfl ?_
  refine ze_istore_n X dc_R_readStep_4 rfl (by decide) (fun x1 => ?_)
  refine ze_aload_n X dc_R_readStep_5 rfl rfl ?_
  refine ze_dup X dc_R_readStep_6 ?_
  refine ze_geti X dc_R_readStep_7 zf_R_22 sh_16 rfl ?_
  refine ze_iconst (x := 1) X dc_R_readStep_10 (by decide) ?_
  refine ze_iadd X dc_R_readStep_11 ?_
  refine ze_puti X dc_R_readStep_12 zp_R_22 sh_16 rfl (fun v2 => ?_)
  refine ze_iload_n X dc_R_readStep_15 rfl rfl ?_
  refine ze_if (c := a1 = 33) (fun hq => ?_) (fun hn3 => ?_)
  · refine ze_lookup (off := 154) (tgt := 170) X dc_R_readStep_16 rfl (by rw [hq]; rfl) (by decide) ?_
    refine ze_aload_n X dc_R_readStep_170 rfl rfl ?_
    refine ze_aload_n X dc_R_readStep_171 rfl rfl ?_
    refine ze_getr X dc_R_readStep_172 zf_R_9 sh_16 rfl ?_
    refine ze_getr X dc_R_readStep_175 zf_R_39 is_Program_2.1 rfl ?_
    refine ze_iload_n X dc_R_readStep_178 rfl rfl ?_
    refine ze_iconst (x := 0) X dc_R_readStep_179 (by decide) ?_
    refine ze_iconst (x := 3) X dc_R_readStep_180 (by decide) ?_
    refine ze_callVv (As := [.inr 4, .inl x1, .inl 0, .inl 3]) (st := []) X dc_R_readStep_181 zc_R_43 sh_16 (fun zr zv zh => c_R_readNumber X.2.2.2.2.2.2.1  4 x1 0 3 sh_4 v2 zh) rfl (by omega) (by omega) (Nat.le_of_ble_eq_true rfl) (fun r4 v5 => ?_)
    refine ze_goto (tgt := 275) X dc_R_readStep_184 (by decide) ?_
    refine ze_aload_n X dc_R_readStep_275 rfl rfl ?_
    refine ze_getr X dc_R_readStep_276 zf_R_9 sh_16 rfl ?_
    refine ze_getr X dc_R_readStep_279 zf_R_63 is_Program_2.1 rfl ?_
    refine ze_iload_n X dc_R_readStep_282 rfl rfl ?_
    refine ze_aload_n X dc_R_readStep_283 rfl rfl ?_
    refine ze_geti X dc_R_readStep_284 zf_R_22 sh_16 rfl ?_
    refine ze_iast X dc_R_readStep_287 sh_8 rfl (fun v6 _ => ?_)
    exact ze_vret X Y dc_R_readStep_288
  refine ze_if (c := a1 = 38) (fun hq => ?_) (fun hn7 => ?_)
  · refine ze_lookup (off := 171) (tgt := 187) X dc_R_readStep_16 rfl (by rw [hq]; rfl) (by decide) ?_
    refine ze_aload_n X dc_R_readStep_187 rfl rfl ?_
    refine ze_aload_n X dc_R_readStep_188 rfl rfl ?_
    refine ze_getr X dc_R_readStep_189 zf_R_9 sh_16 rfl ?_
    refine ze_getr X dc_R_readStep_192 zf_R_39 is_Program_2.1 rfl ?_
    refine ze_iload_n X dc_R_readStep_195 rfl rfl ?_
    refine ze_iconst (x := 0) X dc_R_readStep_196 (by decide) ?_
    refine ze_iconst (x := 3) X dc_R_readStep_197 (by decide) ?_
    refine ze_callVv (As := [.inr 4, .inl x1, .inl 0, .inl 3]) (st := []) X dc_R_readStep_198 zc_R_43 sh_16 (fun zr zv zh => c_R_readNumber X.2.2.2.2.2.2.1  4 x1 0 3 sh_4 v2 zh) rfl (by omega) (by omega) (Nat.le_of_ble_eq_true rfl) (fun r8 v9 => ?_)
    refine ze_goto (tgt := 275) X dc_R_readStep_201 (by decide) ?_
    refine ze_aload_n X dc_R_readStep_275 rfl rfl ?_
    refine ze_getr X dc_R_readStep_276 zf_R_9 sh_16 rfl ?_
    refine ze_getr X dc_R_readStep_279 zf_R_63 is_Program_2.1 rfl ?_
    refine ze_iload_n X dc_R_readStep_282 rfl rfl ?_
    refine ze_aload_n X dc_R_readStep_283 rfl rfl ?_
    refine ze_geti X dc_R_readStep_284 zf_R_22 sh_16 rfl ?_
    refine ze_iast X dc_R_readStep_287 sh_8 rfl (fun v10 _ => ?_)
    exact ze_vret X Y dc_R_readStep_288
  refine ze_if (c := a1 = 42) (fun hq => ?_) (fun hn11 => ?_)
  · refine ze_lookup (off := 135) (tgt := 151) X dc_R_readStep_16 rfl (by rw [hq]; rfl) (by decide) ?_
    refine ze_aload_n X dc_R_readStep_151 rfl rfl ?_
    refine ze_aload_n X dc_R_readStep_152 rfl rfl ?_
    refine ze_getr X dc_R_readStep_153 zf_R_9 sh_16 rfl ?_
    refine ze_getr X dc_R_readStep_156 zf_R_39 is_Program_2.1 rfl ?_
    refine ze_iload_n X dc_R_readStep_159 rfl rfl ?_
    refine ze_iconst (x := 0) X dc_R_readStep_160 (by decide) ?_
    refine ze_sipush (x := 9999) X dc_R_readStep_161 (by decide) ?_
    refine ze_callVv (As := [.inr 4, .inl x1, .inl 0, .inl 9999]) (st := []) X dc_R_readStep_164 zc_R_43 sh_16 (fun zr zv zh => c_R_readNumber X.2.2.2.2.2.2.1  4 x1 0 9999 sh_4 v2 zh) rfl (by omega) (by omega) (Nat.le_of_ble_eq_true rfl) (fun r12 v13 => ?_)
    refine ze_goto (tgt := 275) X dc_R_readStep_167 (by decide) ?_
    refine ze_aload_n X dc_R_readStep_275 rfl rfl ?_
    refine ze_getr X dc_R_readStep_276 zf_R_9 sh_16 rfl ?_
    refine ze_getr X dc_R_readStep_279 zf_R_63 is_Program_2.1 rfl ?_
    refine ze_iload_n X dc_R_readStep_282 rfl rfl ?_
    refine ze_aload_n X dc_R_readStep_283 rfl rfl ?_
    refine ze_geti X dc_R_readStep_284 zf_R_22 sh_16 rfl ?_
    refine ze_iast X dc_R_readStep_287 sh_8 rfl (fun v14 _ => ?_)
    exact ze_vret X Y dc_R_readStep_288
  refine ze_if (c := a1 = 43) (fun hq => ?_) (fun hn15 => ?_)
  · refine ze_lookup (off := 135) (tgt := 151) X dc_R_readStep_16 rfl (by rw [hq]; rfl) (by decide) ?_
    refine ze_aload_n X dc_R_readStep_151 rfl rfl ?_
    refine ze_aload_n X dc_R_readStep_152 rfl rfl ?_
    refine ze_getr X dc_R_readStep_153 zf_R_9 sh_16 rfl ?_
    refine ze_getr X dc_R_readStep_156 zf_R_39 is_Program_2.1 rfl ?_
    refine ze_iload_n X dc_R_readStep_159 rfl rfl ?_
    refine ze_iconst (x := 0) X dc_R_readStep_160 (by decide) ?_
    refine ze_sipush (x := 9999) X dc_R_readStep_161 (by decide) ?_
    refine ze_callVv (As := [.inr 4, .inl x1, .inl 0, .inl 9999]) (st := []) X dc_R_readStep_164 zc_R_43 sh_16 (fun zr zv zh => c_R_readNumber X.2.2.2.2.2.2.1  4 x1 0 9999 sh_4 v2 zh) rfl (by omega) (by omega) (Nat.le_of_ble_eq_true rfl) (fun r16 v17 => ?_)
    refine ze_goto (tgt := 275) X dc_R_readStep_167 (by decide) ?_
    refine ze_aload_n X dc_R_readStep_275 rfl rfl ?_
    refine ze_getr X dc_R_readStep_276 zf_R_9 sh_16 rfl ?_
    refine ze_getr X dc_R_readStep_279 zf_R_63 is_Program_2.1 rfl ?_
    refine ze_iload_n X dc_R_readStep_282 rfl rfl ?_
    refine ze_aload_n X dc_R_readStep_283 rfl rfl ?_
    refine ze_geti X dc_R_readStep_284 zf_R_22 sh_16 rfl ?_
    refine ze_iast X dc_R_readStep_287 sh_8 rfl (fun v18 _ => ?_)
    exact ze_vret X Y dc_R_readStep_288
  refine ze_if (c := a1 = 45) (fun hq => ?_) (fun hn19 => ?_)
  · refine ze_lookup (off := 135) (tgt := 151) X dc_R_readStep_16 rfl (by rw [hq]; rfl) (by decide) ?_
    refine ze_aload_n X dc_R_readStep_151 rfl rfl ?_
    refine ze_aload_n X dc_R_readStep_152 rfl rfl ?_
    refine ze_getr X dc_R_readStep_153 zf_R_9 sh_16 rfl ?_
    refine ze_getr X dc_R_readStep_156 zf_R_39 is_Program_2.1 rfl ?_
    refine ze_iload_n X dc_R_readStep_159 rfl rfl ?_
    refine ze_iconst (x := 0) X dc_R_readStep_160 (by decide) ?_
    refine ze_sipush (x := 9999) X dc_R_readStep_161 (by decide) ?_
    refine ze_callVv (As := [.inr 4, .inl x1, .inl 0, .inl 9999]) (st := []) X dc_R_readStep_164 zc_R_43 sh_16 (fun zr zv zh => c_R_readNumber X.2.2.2.2.2.2.1  4 x1 0 9999 sh_4 v2 zh) rfl (by omega) (by omega) (Nat.le_of_ble_eq_true rfl) (fun r20 v21 => ?_)
    refine ze_goto (tgt := 275) X dc_R_readStep_167 (by decide) ?_
    refine ze_aload_n X dc_R_readStep_275 rfl rfl ?_
    refine ze_getr X dc_R_readStep_276 zf_R_9 sh_16 rfl ?_
    refine ze_getr X dc_R_readStep_279 zf_R_63 is_Program_2.1 rfl ?_
    refine ze_iload_n X dc_R_readStep_282 rfl rfl ?_
    refine ze_aload_n X dc_R_readStep_283 rfl rfl ?_
    refine ze_geti X dc_R_readStep_284 zf_R_22 sh_16 rfl ?_
    refine ze_iast X dc_R_readStep_287 sh_8 rfl (fun v22 _ => ?_)
    exact ze_vret X Y dc_R_readStep_288
  refine ze_if (c := a1 = 62) (fun hq => ?_) (fun hn23 => ?_)
  · refine ze_lookup (off := 188) (tgt := 204) X dc_R_readStep_16 rfl (by rw [hq]; rfl) (by decide) ?_
    refine ze_aload_n X dc_R_readStep_204 rfl rfl ?_
    refine ze_aload_n X dc_R_readStep_205 rfl rfl ?_
    refine ze_getr X dc_R_readStep_206 zf_R_9 sh_16 rfl ?_
    refine ze_getr X dc_R_readStep_209 zf_R_39 is_Program_2.1 rfl ?_
    refine ze_iload_n X dc_R_readStep_212 rfl rfl ?_
    refine ze_aload_n X dc_R_readStep_213 rfl rfl ?_
    refine ze_geti X dc_R_readStep_214 zf_R_19 sh_16 rfl ?_
    refine ze_iconst (x := 1) X dc_R_readStep_217 (by decide) ?_
    refine ze_iadd X dc_R_readStep_218 ?_
    refine ze_iconst (x := 3) X dc_R_readStep_219 (by decide) ?_
    refine ze_callVv (As := [.inr 4, .inl x1, .inl ((v2 16 1) + 1), .inl 3]) (st := []) X dc_R_readStep_220 zc_R_43 sh_16 (fun zr zv zh => c_R_readNumber X.2.2.2.2.2.2.1  4 x1 ((v2 16 1) + 1) 3 sh_4 v2 zh) rfl (by omega) (by omega) (Nat.le_of_ble_eq_true rfl) (fun r24 v25 => ?_)
    refine ze_goto (tgt := 275) X dc_R_readStep_223 (by decide) ?_
    refine ze_aload_n X dc_R_readStep_275 rfl rfl ?_
    refine ze_getr X dc_R_readStep_276 zf_R_9 sh_16 rfl ?_
    refine ze_getr X dc_R_readStep_279 zf_R_63 is_Program_2.1 rfl ?_
    refine ze_iload_n X dc_R_readStep_282 rfl rfl ?_
    refine ze_aload_n X dc_R_readStep_283 rfl rfl ?_
    refine ze_geti X dc_R_readStep_284 zf_R_22 sh_16 rfl ?_
    refine ze_iast X dc_R_readStep_287 sh_8 rfl (fun v26 _ => ?_)
    exact ze_vret X Y dc_R_readStep_288
  refine ze_if (c := a1 = 63) (fun hq => ?_) (fun hn27 => ?_)
  · refine ze_lookup (off := 218) (tgt := 234) X dc_R_readStep_16 rfl (by rw [hq]; rfl) (by decide) ?_
    refine ze_aload_n X dc_R_readStep_234 rfl rfl ?_
    refine ze_iload_n X dc_R_readStep_235 rfl rfl ?_
    refine ze_iload_n X dc_R_readStep_236 rfl rfl ?_
    refine ze_callVv (As := [.inl x1, .inl a2]) (st := []) X dc_R_readStep_237 zc_R_50 sh_16 (fun zr zv zh => c_R_readChoice X.2.2.2.2.2.2.1 hfr hlo RC hRC x1 a2  v2 zh) rfl (by omega) (by omega) (Nat.le_of_ble_eq_true rfl) (fun r28 v29 => ?_)
    refine ze_goto (tgt := 275) X dc_R_readStep_240 (by decide) ?_
    refine ze_aload_n X dc_R_readStep_275 rfl rfl ?_
    refine ze_getr X dc_R_readStep_276 zf_R_9 sh_16 rfl ?_
    refine ze_getr X dc_R_readStep_279 zf_R_63 is_Program_2.1 rfl ?_
    refine ze_iload_n X dc_R_readStep_282 rfl rfl ?_
    refine ze_aload_n X dc_R_readStep_283 rfl rfl ?_
    refine ze_geti X dc_R_readStep_284 zf_R_22 sh_16 rfl ?_
    refine ze_iast X dc_R_readStep_287 sh_8 rfl (fun v30 _ => ?_)
    exact ze_vret X Y dc_R_readStep_288
  refine ze_if (c := a1 = 97) (fun hq => ?_) (fun hn31 => ?_)
  · refine ze_lookup (off := 236) (tgt := 252) X dc_R_readStep_16 rfl (by rw [hq]; rfl) (by decide) ?_
    refine ze_aload_n X dc_R_readStep_252 rfl rfl ?_
    refine ze_iload_n X dc_R_readStep_253 rfl rfl ?_
    refine ze_iload_n X dc_R_readStep_254 rfl rfl ?_
    refine ze_callVv (As := [.inl x1, .inl a2]) (st := []) X dc_R_readStep_255 zc_R_57 sh_16 (fun zr zv zh => c_R_readGathering X.2.2.2.2.2.2.1  x1 a2  v2 zh) rfl (by omega) (by omega) (Nat.le_of_ble_eq_true rfl) (fun r32 v33 => ?_)
    refine ze_goto (tgt := 275) X dc_R_readStep_258 (by decide) ?_
    refine ze_aload_n X dc_R_readStep_275 rfl rfl ?_
    refine ze_getr X dc_R_readStep_276 zf_R_9 sh_16 rfl ?_
    refine ze_getr X dc_R_readStep_279 zf_R_63 is_Program_2.1 rfl ?_
    refine ze_iload_n X dc_R_readStep_282 rfl rfl ?_
    refine ze_aload_n X dc_R_readStep_283 rfl rfl ?_
    refine ze_geti X dc_R_readStep_284 zf_R_22 sh_16 rfl ?_
    refine ze_iast X dc_R_readStep_287 sh_8 rfl (fun v34 _ => ?_)
    exact ze_vret X Y dc_R_readStep_288
  refine ze_if (c := a1 = 98) (fun hq => ?_) (fun hn35 => ?_)
  · refine ze_lookup (off := 132) (tgt := 148) X dc_R_readStep_16 rfl (by rw [hq]; rfl) (by decide) ?_
    refine ze_goto (tgt := 275) X dc_R_readStep_148 (by decide) ?_
    refine ze_aload_n X dc_R_readStep_275 rfl rfl ?_
    refine ze_getr X dc_R_readStep_276 zf_R_9 sh_16 rfl ?_
    refine ze_getr X dc_R_readStep_279 zf_R_63 is_Program_2.1 rfl ?_
    refine ze_iload_n X dc_R_readStep_282 rfl rfl ?_
    refine ze_aload_n X dc_R_readStep_283 rfl rfl ?_
    refine ze_geti X dc_R_readStep_284 zf_R_22 sh_16 rfl ?_
    refine ze_iast X dc_R_readStep_287 sh_8 rfl (fun v36 _ => ?_)
    exact ze_vret X Y dc_R_readStep_288
  refine ze_if (c := a1 = 102) (fun hq => ?_) (fun hn37 => ?_)
  · refine ze_lookup (off := 210) (tgt := 226) X dc_R_readStep_16 rfl (by rw [hq]; rfl) (by decide) ?_
    refine ze_aload_n X dc_R_readStep_226 rfl rfl ?_
    refine ze_iload_n X dc_R_readStep_227 rfl rfl ?_
    refine ze_callVv (As := [.inl x1]) (st := []) X dc_R_readStep_228 zc_R_47 sh_16 (fun zr zv zh => c_R_readTest X.2.2.2.2.2.2.1  x1  v2 zh) rfl (by omega) (by omega) (Nat.le_of_ble_eq_true rfl) (fun r38 v39 => ?_)
    refine ze_goto (tgt := 275) X dc_R_readStep_231 (by decide) ?_
    refine ze_aload_n X dc_R_readStep_275 rfl rfl ?_
    refine ze_getr X dc_R_readStep_276 zf_R_9 sh_16 rfl ?_
    refine ze_getr X dc_R_readStep_279 zf_R_63 is_Program_2.1 rfl ?_
    refine ze_iload_n X dc_R_readStep_282 rfl rfl ?_
    refine ze_aload_n X dc_R_readStep_283 rfl rfl ?_
    refine ze_geti X dc_R_readStep_284 zf_R_22 sh_16 rfl ?_
    refine ze_iast X dc_R_readStep_287 sh_8 rfl (fun v40 _ => ?_)
    exact ze_vret X Y dc_R_readStep_288
  refine ze_if (c := a1 = 105) (fun hq => ?_) (fun hn41 => ?_)
  · refine ze_lookup (off := 132) (tgt := 148) X dc_R_readStep_16 rfl (by rw [hq]; rfl) (by decide) ?_
    refine ze_goto (tgt := 275) X dc_R_readStep_148 (by decide) ?_
    refine ze_aload_n X dc_R_readStep_275 rfl rfl ?_
    refine ze_getr X dc_R_readStep_276 zf_R_9 sh_16 rfl ?_
    refine ze_getr X dc_R_readStep_279 zf_R_63 is_Program_2.1 rfl ?_
    refine ze_iload_n X dc_R_readStep_282 rfl rfl ?_
    refine ze_aload_n X dc_R_readStep_283 rfl rfl ?_
    refine ze_geti X dc_R_readStep_284 zf_R_22 sh_16 rfl ?_
    refine ze_iast X dc_R_readStep_287 sh_8 rfl (fun v42 _ => ?_)
    exact ze_vret X Y dc_R_readStep_288
  refine ze_if (c := a1 = 107) (fun hq => ?_) (fun hn43 => ?_)
  · refine ze_lookup (off := 132) (tgt := 148) X dc_R_readStep_16 rfl (by rw [hq]; rfl) (by decide) ?_
    refine ze_goto (tgt := 275) X dc_R_readStep_148 (by decide) ?_
    refine ze_aload_n X dc_R_readStep_275 rfl rfl ?_
    refine ze_getr X dc_R_readStep_276 zf_R_9 sh_16 rfl ?_
    refine ze_getr X dc_R_readStep_279 zf_R_63 is_Program_2.1 rfl ?_
    refine ze_iload_n X dc_R_readStep_282 rfl rfl ?_
    refine ze_aload_n X dc_R_readStep_283 rfl rfl ?_
    refine ze_geti X dc_R_readStep_284 zf_R_22 sh_16 rfl ?_
    refine ze_iast X dc_R_readStep_287 sh_8 rfl (fun v44 _ => ?_)
    exact ze_vret X Y dc_R_readStep_288
  refine ze_if (c := a1 = 113) (fun hq => ?_) (fun hn45 => ?_)
  · refine ze_lookup (off := 245) (tgt := 261) X dc_R_readStep_16 rfl (by rw [hq]; rfl) (by decide) ?_
    refine ze_aload_n X dc_R_readStep_261 rfl rfl ?_
    refine ze_iload_n X dc_R_readStep_262 rfl rfl ?_
    refine ze_iload_n X dc_R_readStep_263 rfl rfl ?_
    refine ze_callVv (As := [.inl x1, .inl a2]) (st := []) X dc_R_readStep_264 zc_R_60 sh_16 (fun zr zv zh => c_R_readOrdering X.2.2.2.2.2.2.1  x1 a2  v2 zh) rfl (by omega) (by omega) (Nat.le_of_ble_eq_true rfl) (fun r46 v47 => ?_)
    refine ze_goto (tgt := 275) X dc_R_readStep_267 (by decide) ?_
    refine ze_aload_n X dc_R_readStep_275 rfl rfl ?_
    refine ze_getr X dc_R_readStep_276 zf_R_9 sh_16 rfl ?_
    refine ze_getr X dc_R_readStep_279 zf_R_63 is_Program_2.1 rfl ?_
    refine ze_iload_n X dc_R_readStep_282 rfl rfl ?_
    refine ze_aload_n X dc_R_readStep_283 rfl rfl ?_
    refine ze_geti X dc_R_readStep_284 zf_R_22 sh_16 rfl ?_
    refine ze_iast X dc_R_readStep_287 sh_8 rfl (fun v48 _ => ?_)
    exact ze_vret X Y dc_R_readStep_288
  refine ze_if (c := a1 = 114) (fun hq => ?_) (fun hn49 => ?_)
  · refine ze_lookup (off := 132) (tgt := 148) X dc_R_readStep_16 rfl (by rw [hq]; rfl) (by decide) ?_
    refine ze_goto (tgt := 275) X dc_R_readStep_148 (by decide) ?_
    refine ze_aload_n X dc_R_readStep_275 rfl rfl ?_
    refine ze_getr X dc_R_readStep_276 zf_R_9 sh_16 rfl ?_
    refine ze_getr X dc_R_readStep_279 zf_R_63 is_Program_2.1 rfl ?_
    refine ze_iload_n X dc_R_readStep_282 rfl rfl ?_
    refine ze_aload_n X dc_R_readStep_283 rfl rfl ?_
    refine ze_geti X dc_R_readStep_284 zf_R_22 sh_16 rfl ?_
    refine ze_iast X dc_R_readStep_287 sh_8 rfl (fun v50 _ => ?_)
    exact ze_vret X Y dc_R_readStep_288
  refine ze_if (c := a1 = 115) (fun hq => ?_) (fun hn51 => ?_)
  · refine ze_lookup (off := 227) (tgt := 243) X dc_R_readStep_16 rfl (by rw [hq]; rfl) (by decide) ?_
    refine ze_aload_n X dc_R_readStep_243 rfl rfl ?_
    refine ze_iload_n X dc_R_readStep_244 rfl rfl ?_
    refine ze_iload_n X dc_R_readStep_245 rfl rfl ?_
    refine ze_callVv (As := [.inl x1, .inl a2]) (st := []) X dc_R_readStep_246 zc_R_54 sh_16 (fun zr zv zh => c_R_readSplit X.2.2.2.2.2.2.1 hfr hlo RC hRC x1 a2  v2 zh) rfl (by omega) (by omega) (Nat.le_of_ble_eq_true rfl) (fun r52 v53 => ?_)
    refine ze_goto (tgt := 275) X dc_R_readStep_249 (by decide) ?_
    refine ze_aload_n X dc_R_readStep_275 rfl rfl ?_
    refine ze_getr X dc_R_readStep_276 zf_R_9 sh_16 rfl ?_
    refine ze_getr X dc_R_readStep_279 zf_R_63 is_Program_2.1 rfl ?_
    refine ze_iload_n X dc_R_readStep_282 rfl rfl ?_
    refine ze_aload_n X dc_R_readStep_283 rfl rfl ?_
    refine ze_geti X dc_R_readStep_284 zf_R_22 sh_16 rfl ?_
    refine ze_iast X dc_R_readStep_287 sh_8 rfl (fun v54 _ => ?_)
    exact ze_vret X Y dc_R_readStep_288
  refine ze_lookup (off := 254) (tgt := 270) X dc_R_readStep_16 rfl (by show Op.lookupswitch.offset [(33, 154), (38, 171), (42, 135), (43, 135), (45, 135), (62, 188), (63, 218), (97, 236), (98, 132), (102, 210), (105, 132), (107, 132), (113, 245), (114, 132), (115, 227)] 254 _ = _; rw [lv_osw (a := 33) hn3 (by decide), lv_osw (a := 38) hn7 (by decide), lv_osw (a := 42) hn11 (by decide), lv_osw (a := 43) hn15 (by decide), lv_osw (a := 45) hn19 (by decide), lv_osw (a := 62) hn23 (by decide), lv_osw (a := 63) hn27 (by decide), lv_osw (a := 97) hn31 (by decide), lv_osw (a := 98) hn35 (by decide), lv_osw (a := 102) hn37 (by decide), lv_osw (a := 105) hn41 (by decide), lv_osw (a := 107) hn43 (by decide), lv_osw (a := 113) hn45 (by decide), lv_osw (a := 114) hn49 (by decide), lv_osw (a := 115) hn51 (by decide)]; rfl) (by decide) ?_
  refine ze_aload_n X dc_R_readStep_270 rfl rfl ?_
  refine ze_iload_n X dc_R_readStep_271 rfl rfl ?_
  refine ze_puti X dc_R_readStep_272 zp_R_15 sh_16 rfl (fun v55 => ?_)
  refine ze_aload_n X dc_R_readStep_275 rfl rfl ?_
  refine ze_getr X dc_R_readStep_276 zf_R_9 sh_16 rfl ?_
  refine ze_getr X dc_R_readStep_279 zf_R_63 is_Program_2.1 rfl ?_
  refine ze_iload_n X dc_R_readStep_282 rfl rfl ?_
  refine ze_aload_n X dc_R_readStep_283 rfl rfl ?_
  refine ze_geti X dc_R_readStep_284 zf_R_22 sh_16 rfl ?_
  refine ze_iast X dc_R_readStep_287 sh_8 rfl (fun v56 _ => ?_)
  exact ze_vret X Y dc_R_readStep_288
set_option maxHeartbeats 4000000 in
set_option maxRecDepth 100000 in
theorem c_R_readStep {l : Launch} {D : va_G} {ad : Nat → Nat} {ca : Nat → ClassId} (hD : va_D (ze_A ad) (ze_ws ze_sh ad ca (fun _ _ => 0))) {fr1 lo1 : Nat} (hfr : 12 ≤ fr1) (hlo : 300 ≤ lo1) (RC : Int32 → ze_H → Option (Int32 × ze_H)) (hRC : ∀ (a : Int32), ∀ (v : ze_H) (r : Int32) (v1 : ze_H), RC a v = some (r, v1) → ze_Mv l D ad ca my_R_readList bc_R_readList 4 fr1 lo1 [.inr 16, .inl a] v v1) (a1 : Int32) (a2 : Int32)  (v : ze_H) {r : Int32} {v1 : ze_H} (h : f_R_readStep RC a1 a2 v = some (r, v1)) : ze_Mv l D ad ca my_R_readStep bc_R_readStep 4 (fr1 + 3) (lo1 + 180) [.inr 16, .inl a1, .inl a2] v v1 := ze_Mv_of (plainFor_of_name (by decide)) hD (Nat.le_of_ble_eq_true rfl) (fun G e1 e2 e3 e4 X Y => by subst e1 e2 e3 e4; exact w_R_readStep X Y hfr hlo RC hRC a1 a2  v) h
def f_R_readList_L2 (RC : Int32 → ze_H → Option (Int32 × ze_H)) (b1 : Int32) (kk : ze_H → Option (Int32 × ze_H)) : Nat → Int32 → ze_H → Option (Int32 × ze_H)
  | 0, _, _ => none
  | n + 1, l2, v =>
    (if 40 < l2 then (kk  v) else (if (v 16 3) = (-1) then ze_call (f_P_at  2 (v 16 2) v) (fun r2 v3 => ze_let r2 (fun x4 => (if x4 = 0 then (if b1 ≤ 0 then some (0, v3) else ze_lev (ze_u v3 16 3 (v3 16 2)) (fun v5 => some (0, v5))) else (if x4 = 41 then (if b1 ≤ 0 then ze_call (f_R_readStep RC x4 b1 v3) (fun r6 v7 => ze_let (l2 + 1) (fun x8 => (f_R_readList_L2 RC b1 kk n x8 v7))) else ze_lev (ze_u v3 16 2 ((v3 16 2) + 1)) (fun v9 => some (0, v9))) else ze_call (f_R_readStep RC x4 b1 v3) (fun r10 v11 => ze_let (l2 + 1) (fun x12 => (f_R_readList_L2 RC b1 kk n x12 v11))))))) else (kk  v)))
def f_R_readList (RC : Int32 → ze_H → Option (Int32 × ze_H)) (a1 : Int32) (v : ze_H) : Option (Int32 × ze_H) :=
  ze_let 0 (fun x1 => (f_R_readList_L2 RC a1 (fun  v13 => some (0, v13)) 200000 x1 v))
set_option maxHeartbeats 4000000 in
set_option maxRecDepth 100000 in
theorem w_R_readList_L2 {G : ze_G} {fr1 lo1 : Nat} (X : ze_X G bc_R_readList cn_R 4 (fr1 + 4) (lo1 + 240)) (Y : ze_Rv G) (hfr : 12 ≤ fr1) (hlo : 300 ≤ lo1) (RC : Int32 → ze_H → Option (Int32 × ze_H)) (hRC : ∀ (a : Int32), ∀ (v : ze_H) (r : Int32) (v1 : ze_H), RC a v = some (r, v1) → ze_Mv (ze_l G) (ze_D G) (ze_ad G) (ze_ca G) my_R_readList bc_R_readList 4 fr1 lo1 [.inr 16, .inl a] v v1) (b1 : Int32)  {kk : ze_H → Option (Int32 × ze_H)} (hkk : ∀ (v : ze_H), ze_T G (kk  v) v 78 [none, none, none, none] []) : ∀ (n : Nat) (l2 : Int32) (v : ze_H), ze_T G (f_R_readList_L2 RC b1 kk n l2 v) v 2 [some (.inr 16), some (.inl b1), some (.inl l2), none] [] := by
  intro n
  induction n with
  | zero => intro l2 v; exact ze_none
  | succ n ih =>
    intro l2 v
    refine ze_iload_n X dc_R_readList_2 rfl rfl ?_
    refine ze_bipush (x := 40) X dc_R_readList_3 (by decide) ?_
    refine ze_icmp_gt (tgt := 78) X dc_R_readList_5 (by decide) (fun _ => ?_) (fun _ => ?_)
    · refine ze_weak [false, false, false, false] ?_
      exact hkk  v
    · refine ze_aload_n X dc_R_readList_8 rfl rfl ?_
      refine ze_geti X dc_R_readList_9 zf_R_15 sh_16 rfl ?_
      refine ze_iconst (x := (-1)) X dc_R_readList_12 (by decide) ?_
      refine ze_icmp_ne (tgt := 78) X dc_R_readList_13 (by decide) (fun _ => ?_) (fun _ => ?_)
      · refine ze_aload_n X dc_R_readList_16 rfl rfl ?_
        refine ze_getr X dc_R_readList_17 zf_R_9 sh_16 rfl ?_
        refine ze_aload_n X dc_R_readList_20 rfl rfl ?_
        refine ze_geti X dc_R_readList_21 zf_R_22 sh_16 rfl ?_
        refine ze_callVi (As := [.inl (v 16 2)]) (st := []) X dc_R_readList_24 zc_R_29 is_Program_2.1 (fun zr zv zh => c_P_at X.2.2.2.2.2.2.1  2 (v 16 2) is_Program_2 v zh) rfl (by omega) (by omega) (Nat.le_of_ble_eq_true rfl) (fun r2 v3 => ?_)
        refine ze_istore_n X dc_R_readList_27 rfl (by decide) (fun x4 => ?_)
        refine ze_iload_n X dc_R_readList_28 rfl rfl ?_
        refine ze_if_ne (tgt := 45) X dc_R_readList_29 (by decide) (fun _ => ?_) (fun _ => ?_)
        · refine ze_iload_n X dc_R_readList_32 rfl rfl ?_
          refine ze_if_le (tgt := 44) X dc_R_readList_33 (by decide) (fun _ => ?_) (fun _ => ?_)
          · exact ze_vret X Y dc_R_readList_44
          · refine ze_aload_n X dc_R_readList_36 rfl rfl ?_
            refine ze_aload_n X dc_R_readList_37 rfl rfl ?_
            refine ze_geti X dc_R_readList_38 zf_R_22 sh_16 rfl ?_
            refine ze_puti X dc_R_readList_41 zp_R_15 sh_16 rfl (fun v5 => ?_)
            exact ze_vret X Y dc_R_readList_44
        · refine ze_iload_n X dc_R_readList_45 rfl rfl ?_
          refine ze_bipush (x := 41) X dc_R_readList_46 (by decide) ?_
          refine ze_icmp_ne (tgt := 66) X dc_R_readList_48 (by decide) (fun _ => ?_) (fun _ => ?_)
          · refine ze_iload_n X dc_R_readList_51 rfl rfl ?_
            refine ze_if_le (tgt := 66) X dc_R_readList_52 (by decide) (fun _ => ?_) (fun _ => ?_)
            · refine ze_aload_n X dc_R_readList_66 rfl rfl ?_
              refine ze_iload_n X dc_R_readList_67 rfl rfl ?_
              refine ze_iload_n X dc_R_readList_68 rfl rfl ?_
              refine ze_callVv (As := [.inl x4, .inl b1]) (st := []) X dc_R_readList_69 zc_R_35 sh_16 (fun zr zv zh => c_R_readStep X.2.2.2.2.2.2.1 hfr hlo RC hRC x4 b1  v3 zh) rfl (by omega) (by omega) (Nat.le_of_ble_eq_true rfl) (fun r6 v7 => ?_)
              refine ze_iinc (y := 1) X dc_R_readList_72 rfl (by decide) (by decide) (fun x8 => ?_)
              refine ze_goto (tgt := 2) X dc_R_readList_75 (by decide) ?_
              refine ze_weak [true, true, true, false] ?_
              exact ih x8 v7
            · refine ze_aload_n X dc_R_readList_55 rfl rfl ?_
              refine ze_dup X dc_R_readList_56 ?_
              refine ze_geti X dc_R_readList_57 zf_R_22 sh_16 rfl ?_
              refine ze_iconst (x := 1) X dc_R_readList_60 (by decide) ?_
              refine ze_iadd X dc_R_readList_61 ?_
              refine ze_puti X dc_R_readList_62 zp_R_22 sh_16 rfl (fun v9 => ?_)
              exact ze_vret X Y dc_R_readList_65
          · refine ze_aload_n X dc_R_readList_66 rfl rfl ?_
            refine ze_iload_n X dc_R_readList_67 rfl rfl ?_
            refine ze_iload_n X dc_R_readList_68 rfl rfl ?_
            refine ze_callVv (As := [.inl x4, .inl b1]) (st := []) X dc_R_readList_69 zc_R_35 sh_16 (fun zr zv zh => c_R_readStep X.2.2.2.2.2.2.1 hfr hlo RC hRC x4 b1  v3 zh) rfl (by omega) (by omega) (Nat.le_of_ble_eq_true rfl) (fun r10 v11 => ?_)
            refine ze_iinc (y := 1) X dc_R_readList_72 rfl (by decide) (by decide) (fun x12 => ?_)
            refine ze_goto (tgt := 2) X dc_R_readList_75 (by decide) ?_
            refine ze_weak [true, true, true, false] ?_
            exact ih x12 v11
      · refine ze_weak [false, false, false, false] ?_
        exact hkk  v
set_option maxHeartbeats 4000000 in
set_option maxRecDepth 100000 in
theorem w_R_readList {G : ze_G} {fr1 lo1 : Nat} (X : ze_X G bc_R_readList cn_R 4 (fr1 + 4) (lo1 + 240)) (Y : ze_Rv G) (hfr : 12 ≤ fr1) (hlo : 300 ≤ lo1) (RC : Int32 → ze_H → Option (Int32 × ze_H)) (hRC : ∀ (a : Int32), ∀ (v : ze_H) (r : Int32) (v1 : ze_H), RC a v = some (r, v1) → ze_Mv (ze_l G) (ze_D G) (ze_ad G) (ze_ca G) my_R_readList bc_R_readList 4 fr1 lo1 [.inr 16, .inl a] v v1) (a1 : Int32)  (v : ze_H) : ze_T G (f_R_readList RC a1 v) v 0 [some (.inr 16), some (.inl a1), none, none] [] := by
  refine ze_iconst (x := 0) X dc_R_readList_0 (by decide) ?_
  refine ze_istore_n X dc_R_readList_1 rfl (by decide) (fun x1 => ?_)
  refine ze_weak [true, true, true, false] ?_
  refine w_R_readList_L2 X Y hfr hlo RC hRC a1  (fun  v13 => ?_) 200000 x1 v
  exact ze_vret X Y dc_R_readList_78
set_option maxHeartbeats 4000000 in
set_option maxRecDepth 100000 in
theorem c_R_readList {l : Launch} {D : va_G} {ad : Nat → Nat} {ca : Nat → ClassId} (hD : va_D (ze_A ad) (ze_ws ze_sh ad ca (fun _ _ => 0))) {fr1 lo1 : Nat} (hfr : 12 ≤ fr1) (hlo : 300 ≤ lo1) (RC : Int32 → ze_H → Option (Int32 × ze_H)) (hRC : ∀ (a : Int32), ∀ (v : ze_H) (r : Int32) (v1 : ze_H), RC a v = some (r, v1) → ze_Mv l D ad ca my_R_readList bc_R_readList 4 fr1 lo1 [.inr 16, .inl a] v v1) (a1 : Int32)  (v : ze_H) {r : Int32} {v1 : ze_H} (h : f_R_readList RC a1 v = some (r, v1)) : ze_Mv l D ad ca my_R_readList bc_R_readList 4 (fr1 + 4) (lo1 + 240) [.inr 16, .inl a1] v v1 := ze_Mv_of (plainFor_of_name (by decide)) hD (Nat.le_of_ble_eq_true rfl) (fun G e1 e2 e3 e4 X Y => by subst e1 e2 e3 e4; exact w_R_readList X Y hfr hlo RC hRC a1  v) h
/-- the reader's recursion, by its depth -/
def f_xRD : Nat → Int32 → ze_H → Option (Int32 × ze_H)
  | 0, _, _ => none
  | d + 1, a, v => f_R_readList (f_xRD d) a v
theorem c_xRD {l : Launch} {D : va_G} {ad : Nat → Nat} {ca : Nat → ClassId} (hD : va_D (ze_A ad) (ze_ws ze_sh ad ca (fun _ _ => 0))) : ∀ (d : Nat) (a : Int32) (v : ze_H) {r : Int32} {v1 : ze_H}, f_xRD d a v = some (r, v1) → ze_Mv l D ad ca my_R_readList bc_R_readList 4 (12 + 4 * d) (300 + 240 * d) [.inr 16, .inl a] v v1 := by
  intro d
  induction d with
  | zero => intro a v r v1 h; simp [f_xRD] at h
  | succ d ih =>
    intro a v r v1 h
    have e1 : 12 + 4 * (d + 1) = 12 + 4 * d + 4 := by omega
    have e2 : 300 + 240 * (d + 1) = 300 + 240 * d + 240 := by omega
    rw [e1, e2]
    exact c_R_readList hD (by omega) (by omega) (f_xRD d) (fun a v r v1 h => ih a v h) a v h
def f_R_firstError  (a1 : Int32) (v : ze_H) : Option (Int32 × ze_H) :=
  ze_lev (ze_u v 16 1 a1) (fun v1 => ze_lev (ze_u v1 16 2 (a1 * 41)) (fun v2 => ze_lev (ze_u v2 16 3 (-1)) (fun v3 => ze_call (f_xRD 6  0 v3) (fun r4 v5 => (if (v5 16 3) = (-1) then some ((-1), v5) else some (((v5 16 3) - (a1 * 41)), v5))))))
set_option maxHeartbeats 4000000 in
set_option maxRecDepth 100000 in
theorem w_R_firstError {G : ze_G}  (X : ze_X G bc_R_firstError cn_R 2 37 1763) (Y : ze_Ri G .int)    (a1 : Int32)  (v : ze_H) : ze_T G (f_R_firstError  a1 v) v 0 [some (.inr 16), some (.inl a1)] [] := by
  refine ze_aload_n X dc_R_firstError_0 rfl rfl ?_
  refine ze_iload_n X dc_R_firstError_1 rfl rfl ?_
  refine ze_puti X dc_R_firstError_2 zp_R_19 sh_16 rfl (fun v1 => ?_)
  refine ze_aload_n X dc_R_firstError_5 rfl rfl ?_
  refine ze_iload_n X dc_R_firstError_6 rfl rfl ?_
  refine ze_bipush (x := 41) X dc_R_firstError_7 (by decide) ?_
  refine ze_imul X dc_R_firstError_9 ?_
  refine ze_puti X dc_R_firstError_10 zp_R_22 sh_16 rfl (fun v2 => ?_)
  refine ze_aload_n X dc_R_firstError_13 rfl rfl ?_
  refine ze_iconst (x := (-1)) X dc_R_firstError_14 (by decide) ?_
  refine ze_puti X dc_R_firstError_15 zp_R_15 sh_16 rfl (fun v3 => ?_)
  refine ze_aload_n X dc_R_firstError_18 rfl rfl ?_
  refine ze_iconst (x := 0) X dc_R_firstError_19 (by decide) ?_
  refine ze_callVv (As := [.inl 0]) (st := []) X dc_R_firstError_20 zc_R_25 sh_16 (fun zr zv zh => c_xRD X.2.2.2.2.2.2.1 6 0  v3 zh) rfl (by decide) (by decide) (Nat.le_of_ble_eq_true rfl) (fun r4 v5 => ?_)
  refine ze_aload_n X dc_R_firstError_23 rfl rfl ?_
  refine ze_geti X dc_R_firstError_24 zf_R_15 sh_16 rfl ?_
  refine ze_iconst (x := (-1)) X dc_R_firstError_27 (by decide) ?_
  refine ze_icmp_ne (tgt := 35) X dc_R_firstError_28 (by decide) (fun _ => ?_) (fun _ => ?_)
  · refine ze_iconst (x := (-1)) X dc_R_firstError_31 (by decide) ?_
    refine ze_goto (tgt := 44) X dc_R_firstError_32 (by decide) ?_
    exact ze_iret X Y (vp_nar_int _) dc_R_firstError_44
  · refine ze_aload_n X dc_R_firstError_35 rfl rfl ?_
    refine ze_geti X dc_R_firstError_36 zf_R_15 sh_16 rfl ?_
    refine ze_iload_n X dc_R_firstError_39 rfl rfl ?_
    refine ze_bipush (x := 41) X dc_R_firstError_40 (by decide) ?_
    refine ze_imul X dc_R_firstError_42 ?_
    refine ze_isub X dc_R_firstError_43 ?_
    exact ze_iret X Y (vp_nar_int _) dc_R_firstError_44
set_option maxHeartbeats 4000000 in
set_option maxRecDepth 100000 in
theorem c_R_firstError {l : Launch} {D : va_G} {ad : Nat → Nat} {ca : Nat → ClassId} (hD : va_D (ze_A ad) (ze_ws ze_sh ad ca (fun _ _ => 0)))     (a1 : Int32)  (v : ze_H) {r : Int32} {v1 : ze_H} (h : f_R_firstError  a1 v = some (r, v1)) : ze_Mi l D ad ca my_R_firstError bc_R_firstError 2 .int 37 1763 [.inr 16, .inl a1] v r v1 := ze_Mi_of (plainFor_of_name (by decide)) hD (Nat.le_of_ble_eq_true rfl) (fun G e1 e2 e3 e4 X Y => w_R_firstError X Y    a1  v) h
def f_E_read_L2   (kk : ze_H → Option (Int32 × ze_H)) : Nat → Int32 → ze_H → Option (Int32 × ze_H)
  | 0, _, _ => none
  | n + 1, l1, v =>
    (if 4 ≤ l1 then (kk  v) else ze_call (f_R_firstError  l1 v) (fun r2 v3 => ze_let r2 (fun x4 => (if x4 = (-1) then ze_let (l1 + 1) (fun x5 => (f_E_read_L2   kk n x5 v3)) else some (((100 * (l1 + 1)) + x4), v3)))))
def f_E_read   (v : ze_H) : Option (Int32 × ze_H) :=
  ze_let 0 (fun x1 => (f_E_read_L2   (fun  v6 => ze_call (f_P_copyFrom  9 2 v6) (fun r7 v8 => ze_call (f_L_empty  39 8 v8) (fun r9 v10 => ze_lev (ze_u v10 47 5 0) (fun v11 => ze_call (f_K_empty   v11) (fun r12 v13 => ze_lev (ze_u v13 0 14 0) (fun v14 => some (0, v14))))))) 200000 x1 v))
set_option maxHeartbeats 4000000 in
set_option maxRecDepth 100000 in
theorem w_E_read_L2 {G : ze_G}  (X : ze_X G bc_E_read cn_E 3 38 1784) (Y : ze_Ri G .int)      {kk : ze_H → Option (Int32 × ze_H)} (hkk : ∀ (v : ze_H), ze_T G (kk  v) v 36 [some (.inr 0), none, none] []) : ∀ (n : Nat) (l1 : Int32) (v : ze_H), ze_T G (f_E_read_L2   kk n l1 v) v 2 [some (.inr 0), some (.inl l1), none] [] := by
  intro n
  induction n with
  | zero => intro l1 v; exact ze_none
  | succ n ih =>
    intro l1 v
    refine ze_iload_n X dc_E_read_2 rfl rfl ?_
    refine ze_iconst (x := 4) X dc_E_read_3 (by decide) ?_
    refine ze_icmp_ge (tgt := 36) X dc_E_read_4 (by decide) (fun _ => ?_) (fun _ => ?_)
    · refine ze_weak [true, false, false] ?_
      exact hkk  v
    · refine ze_aload_n X dc_E_read_7 rfl rfl ?_
      refine ze_getr X dc_E_read_8 zf_E_28 sh_0 rfl ?_
      refine ze_iload_n X dc_E_read_11 rfl rfl ?_
      refine ze_callVi (As := [.inl l1]) (st := []) X dc_E_read_12 zc_E_90 sh_16 (fun zr zv zh => c_R_firstError X.2.2.2.2.2.2.1  l1  v zh) rfl (by decide) (by decide) (Nat.le_of_ble_eq_true rfl) (fun r2 v3 => ?_)
      refine ze_istore_n X dc_E_read_15 rfl (by decide) (fun x4 => ?_)
      refine ze_iload_n X dc_E_read_16 rfl rfl ?_
      refine ze_iconst (x := (-1)) X dc_E_read_17 (by decide) ?_
      refine ze_icmp_eq (tgt := 30) X dc_E_read_18 (by decide) (fun _ => ?_) (fun _ => ?_)
      · refine ze_iinc (y := 1) X dc_E_read_30 rfl (by decide) (by decide) (fun x5 => ?_)
        refine ze_goto (tgt := 2) X dc_E_read_33 (by decide) ?_
        refine ze_weak [true, true, false] ?_
        exact ih x5 v3
      · refine ze_bipush (x := 100) X dc_E_read_21 (by decide) ?_
        refine ze_iload_n X dc_E_read_23 rfl rfl ?_
        refine ze_iconst (x := 1) X dc_E_read_24 (by decide) ?_
        refine ze_iadd X dc_E_read_25 ?_
        refine ze_imul X dc_E_read_26 ?_
        refine ze_iload_n X dc_E_read_27 rfl rfl ?_
        refine ze_iadd X dc_E_read_28 ?_
        exact ze_iret X Y (vp_nar_int _) dc_E_read_29
set_option maxHeartbeats 4000000 in
set_option maxRecDepth 100000 in
theorem w_E_read {G : ze_G}  (X : ze_X G bc_E_read cn_E 3 38 1784) (Y : ze_Ri G .int)      (v : ze_H) : ze_T G (f_E_read   v) v 0 [some (.inr 0), none, none] [] := by
  refine ze_iconst (x := 0) X dc_E_read_0 (by decide) ?_
  refine ze_istore_n X dc_E_read_1 rfl (by decide) (fun x1 => ?_)
  refine ze_weak [true, true, false] ?_
  refine w_E_read_L2 X Y      (fun  v6 => ?_) 200000 x1 v
  refine ze_aload_n X dc_E_read_36 rfl rfl ?_
  refine ze_getr X dc_E_read_37 zf_E_20 sh_0 rfl ?_
  refine ze_aload_n X dc_E_read_40 rfl rfl ?_
  refine ze_getr X dc_E_read_41 zf_E_16 sh_0 rfl ?_
  refine ze_callVv (As := [.inr 2]) (st := []) X dc_E_read_44 zc_E_94 is_Program_9.1 (fun zr zv zh => c_P_copyFrom X.2.2.2.2.2.2.1  9 2 is_Program_9 is_Program_2 v6 zh) rfl (by decide) (by decide) (Nat.le_of_ble_eq_true rfl) (fun r7 v8 => ?_)
  refine ze_aload_n X dc_E_read_47 rfl rfl ?_
  refine ze_getr X dc_E_read_48 zf_E_51 sh_0 rfl ?_
  refine ze_callVv (As := []) (st := []) X dc_E_read_51 zc_E_97 is_Line_39.1 (fun zr zv zh => c_L_empty X.2.2.2.2.2.2.1  39 8 is_Line_39 v8 zh) rfl (by decide) (by decide) (Nat.le_of_ble_eq_true rfl) (fun r9 v10 => ?_)
  refine ze_aload_n X dc_E_read_54 rfl rfl ?_
  refine ze_getr X dc_E_read_55 zf_E_61 sh_0 rfl ?_
  refine ze_iconst (x := 0) X dc_E_read_58 (by decide) ?_
  refine ze_puti X dc_E_read_59 zp_E_100 sh_47 rfl (fun v11 => ?_)
  refine ze_aload_n X dc_E_read_62 rfl rfl ?_
  refine ze_getr X dc_E_read_63 zf_E_68 sh_0 rfl ?_
  refine ze_callVv (As := []) (st := []) X dc_E_read_66 zc_E_104 sh_53 (fun zr zv zh => c_K_empty X.2.2.2.2.2.2.1    v11 zh) rfl (by decide) (by decide) (Nat.le_of_ble_eq_true rfl) (fun r12 v13 => ?_)
  refine ze_aload_n X dc_E_read_69 rfl rfl ?_
  refine ze_iconst (x := 0) X dc_E_read_70 (by decide) ?_
  refine ze_puti X dc_E_read_71 zp_E_105 sh_0 rfl (fun v14 => ?_)
  refine ze_iconst (x := 0) X dc_E_read_74 (by decide) ?_
  exact ze_iret X Y (vp_nar_int _) dc_E_read_75
set_option maxHeartbeats 4000000 in
set_option maxRecDepth 100000 in
theorem c_E_read {l : Launch} {D : va_G} {ad : Nat → Nat} {ca : Nat → ClassId} (hD : va_D (ze_A ad) (ze_ws ze_sh ad ca (fun _ _ => 0)))       (v : ze_H) {r : Int32} {v1 : ze_H} (h : f_E_read   v = some (r, v1)) : ze_Mi l D ad ca my_E_read bc_E_read 3 .int 38 1784 [.inr 0] v r v1 := ze_Mi_of (plainFor_of_name (by decide)) hD (Nat.le_of_ble_eq_true rfl) (fun G e1 e2 e3 e4 X Y => w_E_read X Y      v) h
