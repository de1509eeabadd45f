def f_R_readList_L2 (RC : Int32 → ze_H → Option (Int32 × ze_H)) (b1 : Int32) (kk : ze_H → Option (Int32 × ze_H)) : Nat → Int32 → ze_H → Option (Int32 × ze_H)
  | 0, _, _ => none
  | n + 1, l2, v =>
    (if 40 < l2 then (kk  v) else (if (v 16 3) = (-1) then ze_call (f_P_at  2 (v 16 2) v) (fun r2 v3 => ze_let r2 (fun x4 => (if x4 = 0 then (if b1 ≤ 0 then some (0, v3) else ze_lev (ze_u v3 16 3 (v3 16 2)) (fun v5 => some (0, v5))) else (if x4 = 41 then (if b1 ≤ 0 then ze_call (f_R_readStep RC x4 b1 v3) (fun r6 v7 => ze_let (l2 + 1) (fun x8 => (f_R_readList_L2 RC b1 kk n x8 v7))) else ze_lev (ze_u v3 16 2 ((v3 16 2) + 1)) (fun v9 => some (0, v9))) else ze_call (f_R_readStep RC x4 b1 v3) (fun r10 v11 => ze_let (l2 + 1) (fun x12 => (f_R_readList_L2 RC b1 kk n x12 v11))))))) else (kk  v)))
def f_R_readList (RC : Int32 → ze_H → Option (Int32 × ze_H)) (a1 : Int32) (v : ze_H) : Option (Int32 × ze_H) :=
  ze_let 0 (fun x1 => (f_R_readList_L2 RC a1 (fun  v13 => some (0, v13)) 200000 x1 v))
set_option maxHeartbeats 4000000 in
set_option maxRecDepth 100000 in
theorem w_R_readList_L2 {G : ze_G} {fr1 lo1 : Nat} (X : ze_X G bc_R_readList cn_R 4 (fr1 + 4) (lo1 + 240)) (Y : ze_Rv G) (hfr : 12 ≤ fr1) (hlo : 300 ≤ lo1) (RC : Int32 → ze_H → Option (Int32 × ze_H)) (hRC : ∀ (a : Int32), ∀ (v : ze_H) (r : Int32) (v1 : ze_H), RC a v = some (r, v1) → ze_Mv (ze_l G) (ze_D G) (ze_ad G) (ze_ca G) my_R_readList bc_R_readList 4 fr1 lo1 [.inr 16, .inl a] v v1) (b1 : Int32)  {kk : ze_H → Option (Int32 × ze_H)} (hkk : ∀ (v : ze_H), ze_T G (kk  v) v 78 [none, none, none, none] []) : ∀ (n : Nat) (l2 : Int32) (v : ze_H), ze_T G (f_R_readList_L2 RC b1 kk n l2 v) v 2 [some (.inr 16), some (.inl b1), some (.inl l2), none] [] := by
  intro n
  induction n with
  | zero => intro l2 v; exact ze_none
  | succ n ih =>
    intro l2 v
    refine ze_iload_n X dc_R_readList_2 rfl rfl ?_
    refine ze_bipush (x := 40) X dc_R_readList_3 (by decide) ?_
    refine ze_icmp_gt (tgt := 78) X dc_R_readList_5 (by decide) (fun _ => ?_) (fun _ => ?_)
    · refine ze_weak [false, false, false, false] ?_
      exact hkk  v
    · refine ze_aload_n X dc_R_readList_8 rfl rfl ?_
      refine ze_geti X dc_R_readList_9 zf_R_15 sh_16 rfl ?_
      refine ze_iconst (x := (-1)) X dc_R_readList_12 (by decide) ?_
      refine ze_icmp_ne (tgt := 78) X dc_R_readList_13 (by decide) (fun _ => ?_) (fun _ => ?_)
      · refine ze_aload_n X dc_R_readList_16 rfl rfl ?_
        refine ze_getr X dc_R_readList_17 zf_R_9 sh_16 rfl ?_
        refine ze_aload_n X dc_R_readList_20 rfl rfl ?_
        refine ze_geti X dc_R_readList_21 zf_R_22 sh_16 rfl ?_
        refine ze_callVi (As := [.inl (v 16 2)]) (st := []) X dc_R_readList_24 zc_R_29 is_Program_2.1 (fun zr zv zh => c_P_at X.2.2.2.2.2.2.1  2 (v 16 2) is_Program_2 v zh) rfl (by omega) (by omega) (Nat.le_of_ble_eq_true rfl) (fun r2 v3 => ?_)
        refine ze_istore_n X dc_R_readList_27 rfl (by decide) (fun x4 => ?_)
        refine ze_iload_n X dc_R_readList_28 rfl rfl ?_
        refine ze_if_ne (tgt := 45) X dc_R_readList_29 (by decide) (fun _ => ?_) (fun _ => ?_)
        · refine ze_iload_n X dc_R_readList_32 rfl rfl ?_
          refine ze_if_le (tgt := 44) X dc_R_readList_33 (by decide) (fun _ => ?_) (fun _ => ?_)
          · exact ze_vret X Y dc_R_readList_44
          · refine ze_aload_n X dc_R_readList_36 rfl rfl ?_
            refine ze_aload_n X dc_R_readList_37 rfl rfl ?_
            refine ze_geti X dc_R_readList_38 zf_R_22 sh_16 rfl ?_
            refine ze_puti X dc_R_readList_41 zp_R_15 sh_16 rfl (fun v5 => ?_)
            exact ze_vret X Y dc_R_readList_44
        · refine ze_iload_n X dc_R_readList_45 rfl rfl ?_
          refine ze_bipush (x := 41) X dc_R_readList_46 (by decide) ?_
          refine ze_icmp_ne (tgt := 66) X dc_R_readList_48 (by decide) (fun _ => ?_) (fun _ => ?_)
          · refine ze_iload_n X dc_R_readList_51 rfl rfl ?_
            refine ze_if_le (tgt := 66) X dc_R_readList_52 (by decide) (fun _ => ?_) (fun _ => ?_)
            · refine ze_aload_n X dc_R_readList_66 rfl rfl ?_
              refine ze_iload_n X dc_R_readList_67 rfl rfl ?_
              refine ze_iload_n X dc_R_readList_68 rfl rfl ?_
              refine ze_callVv (As := [.inl x4, .inl b1]) (st := []) X dc_R_readList_69 zc_R_35 sh_16 (fun zr zv zh => c_R_readStep X.2.2.2.2.2.2.1 hfr hlo RC hRC x4 b1  v3 zh) rfl (by omega) (by omega) (Nat.le_of_ble_eq_true rfl) (fun r6 v7 => ?_)
              refine ze_iinc (y := 1) X dc_R_readList_72 rfl (by decide) (by decide) (fun x8 => ?_)
              refine ze_goto (tgt := 2) X dc_R_readList_75 (by decide) ?_
              refine ze_weak [true, true, true, false] ?_
              exact ih x8 v7
            · refine ze_aload_n X dc_R_readList_55 rfl rfl ?_
              refine ze_dup X dc_R_readList_56 ?_
              refine ze_geti X dc_R_readList_57 zf_R_22 sh_16 rfl ?_
              refine ze_iconst (x := 1) X dc_R_readList_60 (by decide) ?_
              refine ze_iadd X dc_R_readList_61 ?_
              refine ze_puti X dc_R_readList_62 zp_R_22 sh_16 rfl (fun v9 => ?_)
              exact ze_vret X Y dc_R_readList_65
          · refine ze_aload_n X dc_R_readList_66 rfl rfl ?_
            refine ze_iload_n X dc_R_readList_67 rfl rfl ?_
            refine ze_iload_n X dc_R_readList_68 rfl rfl ?_
            refine ze_callVv (As := [.inl x4, .inl b1]) (st := []) X dc_R_readList_69 zc_R_35 sh_16 (fun zr zv zh => c_R_readStep X.2.2.2.2.2.2.1 hfr hlo RC hRC x4 b1  v3 zh) rfl (by omega) (by omega) (Nat.le_of_ble_eq_true rfl) (fun r10 v11 => ?_)
            refine ze_iinc (y := 1) X dc_R_readList_72 rfl (by decide) (by decide) (fun x12 => ?_)
            refine ze_goto (tgt := 2) X dc_R_readList_75 (by decide) ?_
            refine ze_weak [true, true, true, false] ?_
            exact ih x12 v11
      · refine ze_weak [false, false, false, false] ?_
        exact hkk  v
set_option maxHeartbeats 4000000 in
set_option maxRecDepth 100000 in
theorem w_R_readList {G : ze_G} {fr1 lo1 : Nat} (X : ze_X G bc_R_readList cn_R 4 (fr1 + 4) (lo1 + 240)) (Y : ze_Rv G) (hfr : 12 ≤ fr1) (hlo : 300 ≤ lo1) (RC : Int32 → ze_H → Option (Int32 × ze_H)) (hRC : ∀ (a : Int32), ∀ (v : ze_H) (r : Int32) (v1 : ze_H), RC a v = some (r, v1) → ze_Mv (ze_l G) (ze_D G) (ze_ad G) (ze_ca G) my_R_readList bc_R_readList 4 fr1 lo1 [.inr 16, .inl a] v v1) (a1 : Int32)  (v : ze_H) : ze_T G (f_R_readList RC a1 v) v 0 [some (.inr 16), some (.inl a1), none, none] [] := by
  refine ze_iconst (x := 0) X dc_R_readList_0 (by decide) ?_
  refine ze_istore_n X dc_R_readList_1 rfl (by decide) (fun x1 => ?_)
  refine ze_weak [true, true, true, false] ?_
  refine w_R_readList_L2 X Y hfr hlo RC hRC a1  (fun  v13 => ?_) 200000 x1 v
  exact ze_vret X Y dc_R_readList_78
set_option maxHeartbeats 4000000 in
set_option maxRecDepth 100000 in
theorem c_R_readList {l : Launch} {D : va_G} {ad : Nat → Nat} {ca : Nat → ClassId} (hD : va_D (ze_A ad) (ze_ws ze_sh ad ca (fun _ _ => 0))) {fr1 lo1 : Nat} (hfr : 12 ≤ fr1) (hlo : 300 ≤ lo1) (RC : Int32 → ze_H → Option (Int32 × ze_H)) (hRC : ∀ (a : Int32), ∀ (v : ze_H) (r : Int32) (v1 : ze_H), RC a v = some (r, v1) → ze_Mv l D ad ca my_R_readList bc_R_readList 4 fr1 lo1 [.inr 16, .inl a] v v1) (a1 : Int32)  (v : ze_H) {r : Int32} {v1 : ze_H} (h : f_R_readList RC a1 v = some (r, v1)) : ze_Mv l D ad ca my_R_readList bc_R_readList 4 (fr1 + 4) (lo1 + 240) [.inr 16, .inl a1] v v1 := ze_Mv_of (plainFor_of_name (by decide)) hD (Nat.le_of_ble_eq_true rfl) (fun G e1 e2 e3 e4 X Y => by subst e1 e2 e3 e4; exact w_R_readList X Y hfr hlo RC hRC a1  v) h
/-- the reader's recursion, by its depth -/
def f_xRD : Nat → Int32 → ze_H → Option (Int32 × ze_H)
  | 0, _, _ => none
  | d + 1, a, v => f_R_readList (f_xRD d) a v
theorem c_xRD {l : Launch} {D : va_G} {ad : Nat → Nat} {ca : Nat → ClassId} (hD : va_D (ze_A ad) (ze_ws ze_sh ad ca (fun _ _ => 0))) : ∀ (d : Nat) (a : Int32) (v : ze_H) {r : Int32} {v1 : ze_H}, f_xRD d a v = some (r, v1) → ze_Mv l D ad ca my_R_readList bc_R_readList 4 (12 + 4 * d) (300 + 240 * d) [.inr 16, .inl a] v v1 := by
  intro d
  induction d with
  | zero => intro a v r v1 h; simp [f_xRD] at h
  | succ d ih =>
    intro a v r v1 h
    have e1 : 12 + 4 * (d + 1) = 12 + 4 * d + 4 := by omega
    have e2 : 300 + 240 * (d + 1) = 300 + 240 * d + 240 := by omega
    rw [e1, e2]
    exact c_R_readList hD (by omega) (by omega) (f_xRD d) (fun a v r v1 h => ih a v h) a v h
def f_R_firstError  (a1 : Int32) (v : ze_H) : Option (Int32 × ze_H) :=
  ze_lev (ze_u v 16 1 a1) (fun v1 => ze_lev (ze_u v1 16 2 (a1 * 41)) (fun v2 => ze_lev (ze_u v2 16 3 (-1)) (fun v3 => ze_call (f_xRD 6  0 v3) (fun r4 v5 => (if (v5 16 3) = (-1) then some ((-1), v5) else some (((v5 16 3) - (a1 * 41)), v5))))))
set_option maxHeartbeats 4000000 in
set_option maxRecDepth 100000 in
theorem w_R_firstError {G : ze_G}  (X : ze_X G bc_R_firstError cn_R 2 37 1763) (Y : ze_Ri G .int)    (a1 : Int32)  (v : ze_H) : ze_T G (f_R_firstError  a1 v) v 0 [some (.inr 16), some (.inl a1)] [] := by
  refine ze_aload_n X dc_R_firstError_0 rfl rfl ?_
  refine ze_iload_n X dc_R_firstError_1 rfl rfl ?_
  refine ze_puti X dc_R_firstError_2 zp_R_19 sh_16 rfl (fun v1 => ?_)
  refine ze_aload_n X dc_R_firstError_5 rfl rfl ?_
  refine ze_iload_n X dc_R_firstError_6 rfl rfl ?_
  refine ze_bipush (x := 41) X dc_R_firstError_7 (by decide) ?_
  refine ze_imul X dc_R_firstError_9 ?_
  refine ze_puti X dc_R_firstError_10 zp_R_22 sh_16 rfl (fun v2 => ?_)
  refine ze_aload_n X dc_R_firstError_13 rfl rfl ?_
  refine ze_iconst (x := (-1)) X dc_R_firstError_14 (by decide) ?_
  refine ze_puti X dc_R_firstError_15 zp_R_15 sh_16 rfl (fun v3 => ?_)
  refine ze_aload_n X dc_R_firstError_18 rfl rfl ?_
  refine ze_iconst (x := 0) X dc_R_firstError_19 (by decide) ?_
  refine ze_callVv (As := [.inl 0]) (st := []) X dc_R_firstError_20 zc_R_25 sh_16 (fun zr zv zh => c_xRD X.2.2.2.2.2.2.1 6 0  v3 zh) rfl (by decide) (by decide) (Nat.le_of_ble_eq_true rfl) (fun r4 v5 => ?_)
  refine ze_aload_n X dc_R_firstError_23 rfl rfl ?_
  refine ze_geti X dc_R_firstError_24 zf_R_15 sh_16 rfl ?_
  refine ze_iconst (x := (-1)) X dc_R_firstError_27 (by decide) ?_
  refine ze_icmp_ne (tgt := 35) X dc_R_firstError_28 (by decide) (fun _ => ?_) (fun _ => ?_)
  · refine ze_iconst (x := (-1)) X dc_R_firstError_31 (by decide) ?_
    refine ze_goto (tgt := 44) X dc_R_firstError_32 (by decide) ?_
    exact ze_iret X Y (vp_nar_int _) dc_R_firstError_44
  · refine ze_aload_n X dc_R_firstError_35 rfl rfl ?_
    refine ze_geti X dc_R_firstError_36 zf_R_15 sh_16 rfl ?_
    refine ze_iload_n X dc_R_firstError_39 rfl rfl ?_
    refine ze_bipush (x := 41) X dc_R_firstError_40 (by decide) ?_
    refine ze_imul X dc_R_firstError_42 ?_
    refine ze_isub X dc_R_firstError_43 ?_
    exact ze_iret X Y (vp_nar_int _) dc_R_firstError_44
set_option maxHeartbeats 4000000 in
set_option maxRecDepth 100000 in
theorem c_R_firstError {l : Launch} {D : va_G} {ad : Nat → Nat} {ca : Nat → ClassId} (hD : va_D (ze_A ad) (ze_ws ze_sh ad ca (fun _ _ => 0)))     (a1 : Int32)  (v : ze_H) {r : Int32} {v1 : ze_H} (h : f_R_firstError  a1 v = some (r, v1)) : ze_Mi l D ad ca my_R_firstError bc_R_firstError 2 .int 37 1763 [.inr 16, .inl a1] v r v1 := ze_Mi_of (plainFor_of_name (by decide)) hD (Nat.le_of_ble_eq_true rfl) (fun G e1 e2 e3 e4 X Y => w_R_firstError X Y    a1  v) h
def f_E_read_L2   (kk : ze_H → Option (Int32 × ze_H)) : Nat → Int32 → ze_H → Option (Int32 × ze_H)
  | 0, _, _ => none
  | n + 1, l1, v =>
    (if 4 ≤ l1 then (kk  v) else ze_call (f_R_firstError  l1 v) (fun r2 v3 => ze_let r2 (fun x4 => (if x4 = (-1) then ze_let (l1 + 1) (fun x5 => (f_E_read_L2   kk n x5 v3)) else some (((100 * (l1 + 1)) + x4), v3)))))
def f_E_read   (v : ze_H) : Option (Int32 × ze_H) :=
  ze_let 0 (fun x1 => (f_E_read_L2   (fun  v6 => ze_call (f_P_copyFrom  9 2 v6) (fun r7 v8 => ze_call (f_L_empty  39 8 v8) (fun r9 v10 => ze_lev (ze_u v10 47 5 0) (fun v11 => ze_call (f_K_empty   v11) (fun r12 v13 => ze_lev (ze_u v13 0 14 0) (fun v14 => some (0, v14))))))) 200000 x1 v))
set_option maxHeartbeats 4000000 in
set_option maxRecDepth 100000 in
theorem w_E_read_L2 {G : ze_G}  (X : ze_X G bc_E_read cn_E 3 38 1784) (Y : ze_Ri G .int)      {kk : ze_H → Option (Int32 × ze_H)} (hkk : ∀ (v : ze_H), ze_T G (kk  v) v 36 [some (.inr 0), none, none] []) : ∀ (n : Nat) (l1 : Int32) (v : ze_H), ze_T G (f_E_read_L2   kk n l1 v) v 2 [some (.inr 0), some (.inl l1), none] [] := by
  intro n
  induction n with
  | zero => intro l1 v; exact ze_none
  | succ n ih =>
    intro l1 v
    refine ze_iload_n X dc_E_read_2 rfl rfl ?_
    refine ze_iconst (x := 4) X dc_E_read_3 (by decide) ?_
    refine ze_icmp_ge (tgt := 36) X dc_E_read_4 (by decide) (fun _ => ?_) (fun _ => ?_)
    · refine ze_weak [true, false, false] ?_
      exact hkk  v
    · refine ze_aload_n X dc_E_read_7 rfl rfl ?_
      refine ze_getr X dc_E_read_8 zf_E_28 sh_0 rfl ?_
      refine ze_iload_n X dc_E_read_11 rfl rfl ?_
      refine ze_callVi (As := [.inl l1]) (st := []) X dc_E_read_12 zc_E_90 sh_16 (fun zr zv zh => c_R_firstError X.2.2.2.2.2.2.1  l1  v zh) rfl (by decide) (by decide) (Nat.le_of_ble_eq_true rfl) (fun r2 v3 => ?_)
      refine ze_istore_n X dc_E_read_15 rfl (by decide) (fun x4 => ?_)
      refine ze_iload_n X dc_E_read_16 rfl rfl ?_
      refine ze_iconst (x := (-1)) X dc_E_read_17 (by decide) ?_
      refine ze_icmp_eq (tgt := 30) X dc_E_read_18 (by decide) (fun _ => ?_) (fun _ => ?_)
      · refine ze_iinc (y := 1) X dc_E_read_30 rfl (by decide) (by decide) (fun x5 => ?_)
        refine ze_goto (tgt := 2) X dc_E_read_33 (by decide) ?_
        refine ze_weak [true, true, false] ?_
        exact ih x5 v3
      · refine ze_bipush (x := 100) X dc_E_read_21 (by decide) ?_
        refine ze_iload_n X dc_E_read_23 rfl rfl ?_
        refine ze_iconst (x := 1) X dc_E_read_24 (by decide) ?_
        refine ze_iadd X dc_E_read_25 ?_
        refine ze_imul X dc_E_read_26 ?_
        refine ze_iload_n X dc_E_read_27 rfl rfl ?_
        refine ze_iadd X dc_E_read_28 ?_
        exact ze_iret X Y (vp_nar_int _) dc_E_read_29
set_option maxHeartbeats 4000000 in
set_option maxRecDepth 100000 in
theorem w_E_read {G : ze_G}  (X : ze_X G bc_E_read cn_E 3 38 1784) (Y : ze_Ri G .int)      (v : ze_H) : ze_T G (f_E_read   v) v 0 [some (.inr 0), none, none] [] := by
  refine ze_iconst (x := 0) X dc_E_read_0 (by decide) ?_
  refine ze_istore_n X dc_E_read_1 rfl (by decide) (fun x1 => ?_)
  refine ze_weak [true, true, false] ?_
  refine w_E_read_L2 X Y      (fun  v6 => ?_) 200000 x1 v
  refine ze_aload_n X dc_E_read_36 rfl rfl ?_
  refine ze_getr X dc_E_read_37 zf_E_20 sh_0 rfl ?_
  refine ze_aload_n X dc_E_read_40 rfl rfl ?_
  refine ze_getr X dc_E_read_41 zf_E_16 sh_0 rfl ?_
  refine ze_callVv (As := [.inr 2]) (st := []) X dc_E_read_44 zc_E_94 is_Program_9.1 (fun zr zv zh => c_P_copyFrom X.2.2.2.2.2.2.1  9 2 is_Program_9 is_Program_2 v6 zh) rfl (by decide) (by decide) (Nat.le_of_ble_eq_true rfl) (fun r7 v8 => ?_)
  refine ze_aload_n X dc_E_read_47 rfl rfl ?_
  refine ze_getr X dc_E_read_48 zf_E_51 sh_0 rfl ?_
  refine ze_callVv (As := []) (st := []) X dc_E_read_51 zc_E_97 is_Line_39.1 (fun zr zv zh => c_L_empty X.2.2.2.2.2.2.1  39 8 is_Line_39 v8 zh) rfl (by decide) (by decide) (Nat.le_of_ble_eq_true rfl) (fun r9 v10 => ?_)
  refine ze_aload_n X dc_E_read_54 rfl rfl ?_
  refine ze_getr X dc_E_read_55 zf_E_61 sh_0 rfl ?_
  refine ze_iconst (x := 0) X dc_E_read_58 (by decide) ?_
  refine ze_puti X dc_E_read_59 zp_E_100 sh_47 rfl (fun v11 => ?_)
  refine ze_aload_n X dc_E_read_62 rfl rfl ?_
  refine ze_getr X dc_E_read_63 zf_E_68 sh_0 rfl ?_
  refine ze_callVv (As := []) (st := []) X dc_E_read_66 zc_E_104 sh_53 (fun zr zv zh => c_K_empty X.2.2.2.2.2.2.1    v11 zh) rfl (by decide) (by decide) (Nat.le_of_ble_eq_true rfl) (fun r12 v13 => ?_)
  refine ze_aload_n X dc_E_read_69 rfl rfl ?_
  refine ze_iconst (x := 0) X dc_E_read_70 (by decide) ?_
  refine ze_puti X dc_E_read_71 zp_E_105 sh_0 rfl (fun v14 => ?_)
  refine ze_iconst (x := 0) X dc_E_read_74 (by decide) ?_
  exact ze_iret X Y (vp_nar_int _) dc_E_read_75
set_option maxHeartbeats 4000000 in
set_option maxRecDepth 100000 in
theorem c_E_read {l : Launch} {D : va_G} {ad : Nat → Nat} {ca : Nat → ClassId} (hD : va_D (ze_A ad) (ze_ws ze_sh ad ca (fun _ _ => 0)))       (v : ze_H) {r : Int32} {v1 : ze_H} (h : f_E_read   v = some (r, v1)) : ze_Mi l D ad ca my_E_read bc_E_read 3 .int 38 1784 [.inr 0] v r v1 := ze_Mi_of (plainFor_of_name (by decide)) hD (Nat.le_of_ble_eq_true rfl) (fun G e1 e2 e3 e4 X Y => w_E_read X Y      v) h
