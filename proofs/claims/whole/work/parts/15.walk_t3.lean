def f_R_readStep (RC : Int32 → ze_H → Option (Int32 × ze_H)) (a1 : Int32) (a2 : Int32) (v : ze_H) : Option (Int32 × ze_H) :=
  ze_let (v 16 2) (fun x1 => ze_lev (ze_u v 16 2 ((v 16 2) + 1)) (fun v2 => (if a1 = 33 then ze_call (f_R_readNumber  4 x1 0 3 v2) (fun r4 v5 => ze_in x1 164 (ze_lev (ze_u v5 8 (Int32.toNatClampNeg x1) (v5 16 2)) (fun v6 => some (0, v6)))) else (if a1 = 38 then ze_call (f_R_readNumber  4 x1 0 3 v2) (fun r8 v9 => ze_in x1 164 (ze_lev (ze_u v9 8 (Int32.toNatClampNeg x1) (v9 16 2)) (fun v10 => some (0, v10)))) else (if a1 = 42 then ze_call (f_R_readNumber  4 x1 0 9999 v2) (fun r12 v13 => ze_in x1 164 (ze_lev (ze_u v13 8 (Int32.toNatClampNeg x1) (v13 16 2)) (fun v14 => some (0, v14)))) else (if a1 = 43 then ze_call (f_R_readNumber  4 x1 0 9999 v2) (fun r16 v17 => ze_in x1 164 (ze_lev (ze_u v17 8 (Int32.toNatClampNeg x1) (v17 16 2)) (fun v18 => some (0, v18)))) else (if a1 = 45 then ze_call (f_R_readNumber  4 x1 0 9999 v2) (fun r20 v21 => ze_in x1 164 (ze_lev (ze_u v21 8 (Int32.toNatClampNeg x1) (v21 16 2)) (fun v22 => some (0, v22)))) else (if a1 = 62 then ze_call (f_R_readNumber  4 x1 ((v2 16 1) + 1) 3 v2) (fun r24 v25 => ze_in x1 164 (ze_lev (ze_u v25 8 (Int32.toNatClampNeg x1) (v25 16 2)) (fun v26 => some (0, v26)))) else (if a1 = 63 then ze_call (f_R_readChoice RC x1 a2 v2) (fun r28 v29 => ze_in x1 164 (ze_lev (ze_u v29 8 (Int32.toNatClampNeg x1) (v29 16 2)) (fun v30 => some (0, v30)))) else (if a1 = 97 then ze_call (f_R_readGathering  x1 a2 v2) (fun r32 v33 => ze_in x1 164 (ze_lev (ze_u v33 8 (Int32.toNatClampNeg x1) (v33 16 2)) (fun v34 => some (0, v34)))) else (if a1 = 98 then ze_in x1 164 (ze_lev (ze_u v2 8 (Int32.toNatClampNeg x1) (v2 16 2)) (fun v36 => some (0, v36))) else (if a1 = 102 then ze_call (f_R_readTest  x1 v2) (fun r38 v39 => ze_in x1 164 (ze_lev (ze_u v39 8 (Int32.toNatClampNeg x1) (v39 16 2)) (fun v40 => some (0, v40)))) else (if a1 = 105 then ze_in x1 164 (ze_lev (ze_u v2 8 (Int32.toNatClampNeg x1) (v2 16 2)) (fun v42 => some (0, v42))) else (if a1 = 107 then ze_in x1 164 (ze_lev (ze_u v2 8 (Int32.toNatClampNeg x1) (v2 16 2)) (fun v44 => some (0, v44))) else (if a1 = 113 then ze_call (f_R_readOrdering  x1 a2 v2) (fun r46 v47 => ze_in x1 164 (ze_lev (ze_u v47 8 (Int32.toNatClampNeg x1) (v47 16 2)) (fun v48 => some (0, v48)))) else (if a1 = 114 then ze_in x1 164 (ze_lev (ze_u v2 8 (Int32.toNatClampNeg x1) (v2 16 2)) (fun v50 => some (0, v50))) else (if a1 = 115 then ze_call (f_R_readSplit RC x1 a2 v2) (fun r52 v53 => ze_in x1 164 (ze_lev (ze_u v53 8 (Int32.toNatClampNeg x1) (v53 16 2)) (fun v54 => some (0, v54)))) else ze_lev (ze_u v2 16 3 x1) (fun v55 => ze_in x1 164 (ze_lev (ze_u v55 8 (Int32.toNatClampNeg x1) (v55 16 2)) (fun v56 => some (0, v56)))))))))))))))))))))
set_option maxHeartbeats 4000000 in
set_option maxRecDepth 100000 in
theorem w_R_readStep {G : ze_G} {fr1 lo1 : Nat} (X : ze_X G bc_R_readStep cn_R 4 (fr1 + 3) (lo1 + 180)) (Y : ze_Rv G) (hfr : 12 ≤ fr1) (hlo : 300 ≤ lo1) (RC : Int32 → ze_H → Option (Int32 × ze_H)) (hRC : ∀ (a : Int32), ∀ (v : ze_H) (r : Int32) (v1 : ze_H), RC a v = some (r, v1) → ze_Mv (ze_l G) (ze_D G) (ze_ad G) (ze_ca G) my_R_readList bc_R_readList 4 fr1 lo1 [.inr 16, .inl a] v v1) (a1 : Int32) (a2 : Int32)  (v : ze_H) : ze_T G (f_R_readStep RC a1 a2 v) v 0 [some (.inr 16), some (.inl a1), some (.inl a2), none] [] := by
  refine ze_aload_n X dc_R_readStep_0 rfl rfl ?_
  refine ze_geti X dc_R_readStep_1 zf_R_22 sh_16 rfl ?_
  refine ze_istore_n X dc_R_readStep_4 rfl (by decide) (fun x1 => ?_)
  refine ze_aload_n X dc_R_readStep_5 rfl rfl ?_
  refine ze_dup X dc_R_readStep_6 ?_
  refine ze_geti X dc_R_readStep_7 zf_R_22 sh_16 rfl ?_
  refine ze_iconst (x := 1) X dc_R_readStep_10 (by decide) ?_
  refine ze_iadd X dc_R_readStep_11 ?_
  refine ze_puti X dc_R_readStep_12 zp_R_22 sh_16 rfl (fun v2 => ?_)
  refine ze_iload_n X dc_R_readStep_15 rfl rfl ?_
  refine ze_if (c := a1 = 33) (fun hq => ?_) (fun hn3 => ?_)
  · refine ze_lookup (off := 154) (tgt := 170) X dc_R_readStep_16 rfl (by rw [hq]; rfl) (by decide) ?_
    refine ze_aload_n X dc_R_readStep_170 rfl rfl ?_
    refine ze_aload_n X dc_R_readStep_171 rfl rfl ?_
    refine ze_getr X dc_R_readStep_172 zf_R_9 sh_16 rfl ?_
    refine ze_getr X dc_R_readStep_175 zf_R_39 is_Program_2.1 rfl ?_
    refine ze_iload_n X dc_R_readStep_178 rfl rfl ?_
    refine ze_iconst (x := 0) X dc_R_readStep_179 (by decide) ?_
    refine ze_iconst (x := 3) X dc_R_readStep_180 (by decide) ?_
    refine ze_callVv (As := [.inr 4, .inl x1, .inl 0, .inl 3]) (st := []) X dc_R_readStep_181 zc_R_43 sh_16 (fun zr zv zh => c_R_readNumber X.2.2.2.2.2.2.1  4 x1 0 3 sh_4 v2 zh) rfl (by omega) (by omega) (Nat.le_of_ble_eq_true rfl) (fun r4 v5 => ?_)
    refine ze_goto (tgt := 275) X dc_R_readStep_184 (by decide) ?_
    refine ze_aload_n X dc_R_readStep_275 rfl rfl ?_
    refine ze_getr X dc_R_readStep_276 zf_R_9 sh_16 rfl ?_
    refine ze_getr X dc_R_readStep_279 zf_R_63 is_Program_2.1 rfl ?_
    refine ze_iload_n X dc_R_readStep_282 rfl rfl ?_
    refine ze_aload_n X dc_R_readStep_283 rfl rfl ?_
    refine ze_geti X dc_R_readStep_284 zf_R_22 sh_16 rfl ?_
    refine ze_iast X dc_R_readStep_287 sh_8 rfl (fun v6 _ => ?_)
    exact ze_vret X Y dc_R_readStep_288
  refine ze_if (c := a1 = 38) (fun hq => ?_) (fun hn7 => ?_)
  · refine ze_lookup (off := 171) (tgt := 187) X dc_R_readStep_16 rfl (by rw [hq]; rfl) (by decide) ?_
    refine ze_aload_n X dc_R_readStep_187 rfl rfl ?_
    refine ze_aload_n X dc_R_readStep_188 rfl rfl ?_
    refine ze_getr X dc_R_readStep_189 zf_R_9 sh_16 rfl ?_
    refine ze_getr X dc_R_readStep_192 zf_R_39 is_Program_2.1 rfl ?_
    refine ze_iload_n X dc_R_readStep_195 rfl rfl ?_
    refine ze_iconst (x := 0) X dc_R_readStep_196 (by decide) ?_
    refine ze_iconst (x := 3) X dc_R_readStep_197 (by decide) ?_
    refine ze_callVv (As := [.inr 4, .inl x1, .inl 0, .inl 3]) (st := []) X dc_R_readStep_198 zc_R_43 sh_16 (fun zr zv zh => c_R_readNumber X.2.2.2.2.2.2.1  4 x1 0 3 sh_4 v2 zh) rfl (by omega) (by omega) (Nat.le_of_ble_eq_true rfl) (fun r8 v9 => ?_)
    refine ze_goto (tgt := 275) X dc_R_readStep_201 (by decide) ?_
    refine ze_aload_n X dc_R_readStep_275 rfl rfl ?_
    refine ze_getr X dc_R_readStep_276 zf_R_9 sh_16 rfl ?_
    refine ze_getr X dc_R_readStep_279 zf_R_63 is_Program_2.1 rfl ?_
    refine ze_iload_n X dc_R_readStep_282 rfl rfl ?_
    refine ze_aload_n X dc_R_readStep_283 rfl rfl ?_
    refine ze_geti X dc_R_readStep_284 zf_R_22 sh_16 rfl ?_
    refine ze_iast X dc_R_readStep_287 sh_8 rfl (fun v10 _ => ?_)
    exact ze_vret X Y dc_R_readStep_288
  refine ze_if (c := a1 = 42) (fun hq => ?_) (fun hn11 => ?_)
  · refine ze_lookup (off := 135) (tgt := 151) X dc_R_readStep_16 rfl (by rw [hq]; rfl) (by decide) ?_
    refine ze_aload_n X dc_R_readStep_151 rfl rfl ?_
    refine ze_aload_n X dc_R_readStep_152 rfl rfl ?_
    refine ze_getr X dc_R_readStep_153 zf_R_9 sh_16 rfl ?_
    refine ze_getr X dc_R_readStep_156 zf_R_39 is_Program_2.1 rfl ?_
    refine ze_iload_n X dc_R_readStep_159 rfl rfl ?_
    refine ze_iconst (x := 0) X dc_R_readStep_160 (by decide) ?_
    refine ze_sipush (x := 9999) X dc_R_readStep_161 (by decide) ?_
    refine ze_callVv (As := [.inr 4, .inl x1, .inl 0, .inl 9999]) (st := []) X dc_R_readStep_164 zc_R_43 sh_16 (fun zr zv zh => c_R_readNumber X.2.2.2.2.2.2.1  4 x1 0 9999 sh_4 v2 zh) rfl (by omega) (by omega) (Nat.le_of_ble_eq_true rfl) (fun r12 v13 => ?_)
    refine ze_goto (tgt := 275) X dc_R_readStep_167 (by decide) ?_
    refine ze_aload_n X dc_R_readStep_275 rfl rfl ?_
    refine ze_getr X dc_R_readStep_276 zf_R_9 sh_16 rfl ?_
    refine ze_getr X dc_R_readStep_279 zf_R_63 is_Program_2.1 rfl ?_
    refine ze_iload_n X dc_R_readStep_282 rfl rfl ?_
    refine ze_aload_n X dc_R_readStep_283 rfl rfl ?_
    refine ze_geti X dc_R_readStep_284 zf_R_22 sh_16 rfl ?_
    refine ze_iast X dc_R_readStep_287 sh_8 rfl (fun v14 _ => ?_)
    exact ze_vret X Y dc_R_readStep_288
  refine ze_if (c := a1 = 43) (fun hq => ?_) (fun hn15 => ?_)
  · refine ze_lookup (off := 135) (tgt := 151) X dc_R_readStep_16 rfl (by rw [hq]; rfl) (by decide) ?_
    refine ze_aload_n X dc_R_readStep_151 rfl rfl ?_
    refine ze_aload_n X dc_R_readStep_152 rfl rfl ?_
    refine ze_getr X dc_R_readStep_153 zf_R_9 sh_16 rfl ?_
    refine ze_getr X dc_R_readStep_156 zf_R_39 is_Program_2.1 rfl ?_
    refine ze_iload_n X dc_R_readStep_159 rfl rfl ?_
    refine ze_iconst (x := 0) X dc_R_readStep_160 (by decide) ?_
    refine ze_sipush (x := 9999) X dc_R_readStep_161 (by decide) ?_
    refine ze_callVv (As := [.inr 4, .inl x1, .inl 0, .inl 9999]) (st := []) X dc_R_readStep_164 zc_R_43 sh_16 (fun zr zv zh => c_R_readNumber X.2.2.2.2.2.2.1  4 x1 0 9999 sh_4 v2 zh) rfl (by omega) (by omega) (Nat.le_of_ble_eq_true rfl) (fun r16 v17 => ?_)
    refine ze_goto (tgt := 275) X dc_R_readStep_167 (by decide) ?_
    refine ze_aload_n X dc_R_readStep_275 rfl rfl ?_
    refine ze_getr X dc_R_readStep_276 zf_R_9 sh_16 rfl ?_
    refine ze_getr X dc_R_readStep_279 zf_R_63 is_Program_2.1 rfl ?_
    refine ze_iload_n X dc_R_readStep_282 rfl rfl ?_
    refine ze_aload_n X dc_R_readStep_283 rfl rfl ?_
    refine ze_geti X dc_R_readStep_284 zf_R_22 sh_16 rfl ?_
    refine ze_iast X dc_R_readStep_287 sh_8 rfl (fun v18 _ => ?_)
    exact ze_vret X Y dc_R_readStep_288
  refine ze_if (c := a1 = 45) (fun hq => ?_) (fun hn19 => ?_)
  · refine ze_lookup (off := 135) (tgt := 151) X dc_R_readStep_16 rfl (by rw [hq]; rfl) (by decide) ?_
    refine ze_aload_n X dc_R_readStep_151 rfl rfl ?_
    refine ze_aload_n X dc_R_readStep_152 rfl rfl ?_
    refine ze_getr X dc_R_readStep_153 zf_R_9 sh_16 rfl ?_
    refine ze_getr X dc_R_readStep_156 zf_R_39 is_Program_2.1 rfl ?_
    refine ze_iload_n X dc_R_readStep_159 rfl rfl ?_
    refine ze_iconst (x := 0) X dc_R_readStep_160 (by decide) ?_
    refine ze_sipush (x := 9999) X dc_R_readStep_161 (by decide) ?_
    refine ze_callVv (As := [.inr 4, .inl x1, .inl 0, .inl 9999]) (st := []) X dc_R_readStep_164 zc_R_43 sh_16 (fun zr zv zh => c_R_readNumber X.2.2.2.2.2.2.1  4 x1 0 9999 sh_4 v2 zh) rfl (by omega) (by omega) (Nat.le_of_ble_eq_true rfl) (fun r20 v21 => ?_)
    refine ze_goto (tgt := 275) X dc_R_readStep_167 (by decide) ?_
    refine ze_aload_n X dc_R_readStep_275 rfl rfl ?_
    refine ze_getr X dc_R_readStep_276 zf_R_9 sh_16 rfl ?_
    refine ze_getr X dc_R_readStep_279 zf_R_63 is_Program_2.1 rfl ?_
    refine ze_iload_n X dc_R_readStep_282 rfl rfl ?_
    refine ze_aload_n X dc_R_readStep_283 rfl rfl ?_
    refine ze_geti X dc_R_readStep_284 zf_R_22 sh_16 rfl ?_
    refine ze_iast X dc_R_readStep_287 sh_8 rfl (fun v22 _ => ?_)
    exact ze_vret X Y dc_R_readStep_288
  refine ze_if (c := a1 = 62) (fun hq => ?_) (fun hn23 => ?_)
  · refine ze_lookup (off := 188) (tgt := 204) X dc_R_readStep_16 rfl (by rw [hq]; rfl) (by decide) ?_
    refine ze_aload_n X dc_R_readStep_204 rfl rfl ?_
    refine ze_aload_n X dc_R_readStep_205 rfl rfl ?_
    refine ze_getr X dc_R_readStep_206 zf_R_9 sh_16 rfl ?_
    refine ze_getr X dc_R_readStep_209 zf_R_39 is_Program_2.1 rfl ?_
    refine ze_iload_n X dc_R_readStep_212 rfl rfl ?_
    refine ze_aload_n X dc_R_readStep_213 rfl rfl ?_
    refine ze_geti X dc_R_readStep_214 zf_R_19 sh_16 rfl ?_
    refine ze_iconst (x := 1) X dc_R_readStep_217 (by decide) ?_
    refine ze_iadd X dc_R_readStep_218 ?_
    refine ze_iconst (x := 3) X dc_R_readStep_219 (by decide) ?_
    refine ze_callVv (As := [.inr 4, .inl x1, .inl ((v2 16 1) + 1), .inl 3]) (st := []) X dc_R_readStep_220 zc_R_43 sh_16 (fun zr zv zh => c_R_readNumber X.2.2.2.2.2.2.1  4 x1 ((v2 16 1) + 1) 3 sh_4 v2 zh) rfl (by omega) (by omega) (Nat.le_of_ble_eq_true rfl) (fun r24 v25 => ?_)
    refine ze_goto (tgt := 275) X dc_R_readStep_223 (by decide) ?_
    refine ze_aload_n X dc_R_readStep_275 rfl rfl ?_
    refine ze_getr X dc_R_readStep_276 zf_R_9 sh_16 rfl ?_
    refine ze_getr X dc_R_readStep_279 zf_R_63 is_Program_2.1 rfl ?_
    refine ze_iload_n X dc_R_readStep_282 rfl rfl ?_
    refine ze_aload_n X dc_R_readStep_283 rfl rfl ?_
    refine ze_geti X dc_R_readStep_284 zf_R_22 sh_16 rfl ?_
    refine ze_iast X dc_R_readStep_287 sh_8 rfl (fun v26 _ => ?_)
    exact ze_vret X Y dc_R_readStep_288
  refine ze_if (c := a1 = 63) (fun hq => ?_) (fun hn27 => ?_)
  · refine ze_lookup (off := 218) (tgt := 234) X dc_R_readStep_16 rfl (by rw [hq]; rfl) (by decide) ?_
    refine ze_aload_n X dc_R_readStep_234 rfl rfl ?_
    refine ze_iload_n X dc_R_readStep_235 rfl rfl ?_
    refine ze_iload_n X dc_R_readStep_236 rfl rfl ?_
    refine ze_callVv (As := [.inl x1, .inl a2]) (st := []) X dc_R_readStep_237 zc_R_50 sh_16 (fun zr zv zh => c_R_readChoice X.2.2.2.2.2.2.1 hfr hlo RC hRC x1 a2  v2 zh) rfl (by omega) (by omega) (Nat.le_of_ble_eq_true rfl) (fun r28 v29 => ?_)
    refine ze_goto (tgt := 275) X dc_R_readStep_240 (by decide) ?_
    refine ze_aload_n X dc_R_readStep_275 rfl rfl ?_
    refine ze_getr X dc_R_readStep_276 zf_R_9 sh_16 rfl ?_
    refine ze_getr X dc_R_readStep_279 zf_R_63 is_Program_2.1 rfl ?_
    refine ze_iload_n X dc_R_readStep_282 rfl rfl ?_
    refine ze_aload_n X dc_R_readStep_283 rfl rfl ?_
    refine ze_geti X dc_R_readStep_284 zf_R_22 sh_16 rfl ?_
    refine ze_iast X dc_R_readStep_287 sh_8 rfl (fun v30 _ => ?_)
    exact ze_vret X Y dc_R_readStep_288
  refine ze_if (c := a1 = 97) (fun hq => ?_) (fun hn31 => ?_)
  · refine ze_lookup (off := 236) (tgt := 252) X dc_R_readStep_16 rfl (by rw [hq]; rfl) (by decide) ?_
    refine ze_aload_n X dc_R_readStep_252 rfl rfl ?_
    refine ze_iload_n X dc_R_readStep_253 rfl rfl ?_
    refine ze_iload_n X dc_R_readStep_254 rfl rfl ?_
    refine ze_callVv (As := [.inl x1, .inl a2]) (st := []) X dc_R_readStep_255 zc_R_57 sh_16 (fun zr zv zh => c_R_readGathering X.2.2.2.2.2.2.1  x1 a2  v2 zh) rfl (by omega) (by omega) (Nat.le_of_ble_eq_true rfl) (fun r32 v33 => ?_)
    refine ze_goto (tgt := 275) X dc_R_readStep_258 (by decide) ?_
    refine ze_aload_n X dc_R_readStep_275 rfl rfl ?_
    refine ze_getr X dc_R_readStep_276 zf_R_9 sh_16 rfl ?_
    refine ze_getr X dc_R_readStep_279 zf_R_63 is_Program_2.1 rfl ?_
    refine ze_iload_n X dc_R_readStep_282 rfl rfl ?_
    refine ze_aload_n X dc_R_readStep_283 rfl rfl ?_
    refine ze_geti X dc_R_readStep_284 zf_R_22 sh_16 rfl ?_
    refine ze_iast X dc_R_readStep_287 sh_8 rfl (fun v34 _ => ?_)
    exact ze_vret X Y dc_R_readStep_288
  refine ze_if (c := a1 = 98) (fun hq => ?_) (fun hn35 => ?_)
  · refine ze_lookup (off := 132) (tgt := 148) X dc_R_readStep_16 rfl (by rw [hq]; rfl) (by decide) ?_
    refine ze_goto (tgt := 275) X dc_R_readStep_148 (by decide) ?_
    refine ze_aload_n X dc_R_readStep_275 rfl rfl ?_
    refine ze_getr X dc_R_readStep_276 zf_R_9 sh_16 rfl ?_
    refine ze_getr X dc_R_readStep_279 zf_R_63 is_Program_2.1 rfl ?_
    refine ze_iload_n X dc_R_readStep_282 rfl rfl ?_
    refine ze_aload_n X dc_R_readStep_283 rfl rfl ?_
    refine ze_geti X dc_R_readStep_284 zf_R_22 sh_16 rfl ?_
    refine ze_iast X dc_R_readStep_287 sh_8 rfl (fun v36 _ => ?_)
    exact ze_vret X Y dc_R_readStep_288
  refine ze_if (c := a1 = 102) (fun hq => ?_) (fun hn37 => ?_)
  · refine ze_lookup (off := 210) (tgt := 226) X dc_R_readStep_16 rfl (by rw [hq]; rfl) (by decide) ?_
    refine ze_aload_n X dc_R_readStep_226 rfl rfl ?_
    refine ze_iload_n X dc_R_readStep_227 rfl rfl ?_
    refine ze_callVv (As := [.inl x1]) (st := []) X dc_R_readStep_228 zc_R_47 sh_16 (fun zr zv zh => c_R_readTest X.2.2.2.2.2.2.1  x1  v2 zh) rfl (by omega) (by omega) (Nat.le_of_ble_eq_true rfl) (fun r38 v39 => ?_)
    refine ze_goto (tgt := 275) X dc_R_readStep_231 (by decide) ?_
    refine ze_aload_n X dc_R_readStep_275 rfl rfl ?_
    refine ze_getr X dc_R_readStep_276 zf_R_9 sh_16 rfl ?_
    refine ze_getr X dc_R_readStep_279 zf_R_63 is_Program_2.1 rfl ?_
    refine ze_iload_n X dc_R_readStep_282 rfl rfl ?_
    refine ze_aload_n X dc_R_readStep_283 rfl rfl ?_
    refine ze_geti X dc_R_readStep_284 zf_R_22 sh_16 rfl ?_
    refine ze_iast X dc_R_readStep_287 sh_8 rfl (fun v40 _ => ?_)
    exact ze_vret X Y dc_R_readStep_288
  refine ze_if (c := a1 = 105) (fun hq => ?_) (fun hn41 => ?_)
  · refine ze_lookup (off := 132) (tgt := 148) X dc_R_readStep_16 rfl (by rw [hq]; rfl) (by decide) ?_
    refine ze_goto (tgt := 275) X dc_R_readStep_148 (by decide) ?_
    refine ze_aload_n X dc_R_readStep_275 rfl rfl ?_
    refine ze_getr X dc_R_readStep_276 zf_R_9 sh_16 rfl ?_
    refine ze_getr X dc_R_readStep_279 zf_R_63 is_Program_2.1 rfl ?_
    refine ze_iload_n X dc_R_readStep_282 rfl rfl ?_
    refine ze_aload_n X dc_R_readStep_283 rfl rfl ?_
    refine ze_geti X dc_R_readStep_284 zf_R_22 sh_16 rfl ?_
    refine ze_iast X dc_R_readStep_287 sh_8 rfl (fun v42 _ => ?_)
    exact ze_vret X Y dc_R_readStep_288
  refine ze_if (c := a1 = 107) (fun hq => ?_) (fun hn43 => ?_)
  · refine ze_lookup (off := 132) (tgt := 148) X dc_R_readStep_16 rfl (by rw [hq]; rfl) (by decide) ?_
    refine ze_goto (tgt := 275) X dc_R_readStep_148 (by decide) ?_
    refine ze_aload_n X dc_R_readStep_275 rfl rfl ?_
    refine ze_getr X dc_R_readStep_276 zf_R_9 sh_16 rfl ?_
    refine ze_getr X dc_R_readStep_279 zf_R_63 is_Program_2.1 rfl ?_
    refine ze_iload_n X dc_R_readStep_282 rfl rfl ?_
    refine ze_aload_n X dc_R_readStep_283 rfl rfl ?_
    refine ze_geti X dc_R_readStep_284 zf_R_22 sh_16 rfl ?_
    refine ze_iast X dc_R_readStep_287 sh_8 rfl (fun v44 _ => ?_)
    exact ze_vret X Y dc_R_readStep_288
  refine ze_if (c := a1 = 113) (fun hq => ?_) (fun hn45 => ?_)
  · refine ze_lookup (off := 245) (tgt := 261) X dc_R_readStep_16 rfl (by rw [hq]; rfl) (by decide) ?_
    refine ze_aload_n X dc_R_readStep_261 rfl rfl ?_
    refine ze_iload_n X dc_R_readStep_262 rfl rfl ?_
    refine ze_iload_n X dc_R_readStep_263 rfl rfl ?_
    refine ze_callVv (As := [.inl x1, .inl a2]) (st := []) X dc_R_readStep_264 zc_R_60 sh_16 (fun zr zv zh => c_R_readOrdering X.2.2.2.2.2.2.1  x1 a2  v2 zh) rfl (by omega) (by omega) (Nat.le_of_ble_eq_true rfl) (fun r46 v47 => ?_)
    refine ze_goto (tgt := 275) X dc_R_readStep_267 (by decide) ?_
    refine ze_aload_n X dc_R_readStep_275 rfl rfl ?_
    refine ze_getr X dc_R_readStep_276 zf_R_9 sh_16 rfl ?_
    refine ze_getr X dc_R_readStep_279 zf_R_63 is_Program_2.1 rfl ?_
    refine ze_iload_n X dc_R_readStep_282 rfl rfl ?_
    refine ze_aload_n X dc_R_readStep_283 rfl rfl ?_
    refine ze_geti X dc_R_readStep_284 zf_R_22 sh_16 rfl ?_
    refine ze_iast X dc_R_readStep_287 sh_8 rfl (fun v48 _ => ?_)
    exact ze_vret X Y dc_R_readStep_288
  refine ze_if (c := a1 = 114) (fun hq => ?_) (fun hn49 => ?_)
  · refine ze_lookup (off := 132) (tgt := 148) X dc_R_readStep_16 rfl (by rw [hq]; rfl) (by decide) ?_
    refine ze_goto (tgt := 275) X dc_R_readStep_148 (by decide) ?_
    refine ze_aload_n X dc_R_readStep_275 rfl rfl ?_
    refine ze_getr X dc_R_readStep_276 zf_R_9 sh_16 rfl ?_
    refine ze_getr X dc_R_readStep_279 zf_R_63 is_Program_2.1 rfl ?_
    refine ze_iload_n X dc_R_readStep_282 rfl rfl ?_
    refine ze_aload_n X dc_R_readStep_283 rfl rfl ?_
    refine ze_geti X dc_R_readStep_284 zf_R_22 sh_16 rfl ?_
    refine ze_iast X dc_R_readStep_287 sh_8 rfl (fun v50 _ => ?_)
    exact ze_vret X Y dc_R_readStep_288
  refine ze_if (c := a1 = 115) (fun hq => ?_) (fun hn51 => ?_)
  · refine ze_lookup (off := 227) (tgt := 243) X dc_R_readStep_16 rfl (by rw [hq]; rfl) (by decide) ?_
    refine ze_aload_n X dc_R_readStep_243 rfl rfl ?_
    refine ze_iload_n X dc_R_readStep_244 rfl rfl ?_
    refine ze_iload_n X dc_R_readStep_245 rfl rfl ?_
    refine ze_callVv (As := [.inl x1, .inl a2]) (st := []) X dc_R_readStep_246 zc_R_54 sh_16 (fun zr zv zh => c_R_readSplit X.2.2.2.2.2.2.1 hfr hlo RC hRC x1 a2  v2 zh) rfl (by omega) (by omega) (Nat.le_of_ble_eq_true rfl) (fun r52 v53 => ?_)
    refine ze_goto (tgt := 275) X dc_R_readStep_249 (by decide) ?_
    refine ze_aload_n X dc_R_readStep_275 rfl rfl ?_
    refine ze_getr X dc_R_readStep_276 zf_R_9 sh_16 rfl ?_
    refine ze_getr X dc_R_readStep_279 zf_R_63 is_Program_2.1 rfl ?_
    refine ze_iload_n X dc_R_readStep_282 rfl rfl ?_
    refine ze_aload_n X dc_R_readStep_283 rfl rfl ?_
    refine ze_geti X dc_R_readStep_284 zf_R_22 sh_16 rfl ?_
    refine ze_iast X dc_R_readStep_287 sh_8 rfl (fun v54 _ => ?_)
    exact ze_vret X Y dc_R_readStep_288
  refine ze_lookup (off := 254) (tgt := 270) X dc_R_readStep_16 rfl (by show Op.lookupswitch.offset [(33, 154), (38, 171), (42, 135), (43, 135), (45, 135), (62, 188), (63, 218), (97, 236), (98, 132), (102, 210), (105, 132), (107, 132), (113, 245), (114, 132), (115, 227)] 254 _ = _; rw [lv_osw (a := 33) hn3 (by decide), lv_osw (a := 38) hn7 (by decide), lv_osw (a := 42) hn11 (by decide), lv_osw (a := 43) hn15 (by decide), lv_osw (a := 45) hn19 (by decide), lv_osw (a := 62) hn23 (by decide), lv_osw (a := 63) hn27 (by decide), lv_osw (a := 97) hn31 (by decide), lv_osw (a := 98) hn35 (by decide), lv_osw (a := 102) hn37 (by decide), lv_osw (a := 105) hn41 (by decide), lv_osw (a := 107) hn43 (by decide), lv_osw (a := 113) hn45 (by decide), lv_osw (a := 114) hn49 (by decide), lv_osw (a := 115) hn51 (by decide)]; rfl) (by decide) ?_
  refine ze_aload_n X dc_R_readStep_270 rfl rfl ?_
  refine ze_iload_n X dc_R_readStep_271 rfl rfl ?_
  refine ze_puti X dc_R_readStep_272 zp_R_15 sh_16 rfl (fun v55 => ?_)
  refine ze_aload_n X dc_R_readStep_275 rfl rfl ?_
  refine ze_getr X dc_R_readStep_276 zf_R_9 sh_16 rfl ?_
  refine ze_getr X dc_R_readStep_279 zf_R_63 is_Program_2.1 rfl ?_
  refine ze_iload_n X dc_R_readStep_282 rfl rfl ?_
  refine ze_aload_n X dc_R_readStep_283 rfl rfl ?_
  refine ze_geti X dc_R_readStep_284 zf_R_22 sh_16 rfl ?_
  refine ze_iast X dc_R_readStep_287 sh_8 rfl (fun v56 _ => ?_)
  exact ze_vret X Y dc_R_readStep_288
set_option maxHeartbeats 4000000 in
set_option maxRecDepth 100000 in
theorem c_R_readStep {l : Launch} {D : va_G} {ad : Nat → Nat} {ca : Nat → ClassId} (hD : va_D (ze_A ad) (ze_ws ze_sh ad ca (fun _ _ => 0))) {fr1 lo1 : Nat} (hfr : 12 ≤ fr1) (hlo : 300 ≤ lo1) (RC : Int32 → ze_H → Option (Int32 × ze_H)) (hRC : ∀ (a : Int32), ∀ (v : ze_H) (r : Int32) (v1 : ze_H), RC a v = some (r, v1) → ze_Mv l D ad ca my_R_readList bc_R_readList 4 fr1 lo1 [.inr 16, .inl a] v v1) (a1 : Int32) (a2 : Int32)  (v : ze_H) {r : Int32} {v1 : ze_H} (h : f_R_readStep RC a1 a2 v = some (r, v1)) : ze_Mv l D ad ca my_R_readStep bc_R_readStep 4 (fr1 + 3) (lo1 + 180) [.inr 16, .inl a1, .inl a2] v v1 := ze_Mv_of (plainFor_of_name (by decide)) hD (Nat.le_of_ble_eq_true rfl) (fun G e1 e2 e3 e4 X Y => by subst e1 e2 e3 e4; exact w_R_readStep X Y hfr hlo RC hRC a1 a2  v) h
