set_option maxRecDepth 100000 in
theorem zf_P_9 : ze_F cn_P 9 1 0 := ⟨cn_P, ct_P, 6, rfl, ci_P, by decide, (ze_mem (List.mem_of_getElem? (i := 100) (by decide +kernel)) rfl)⟩
set_option maxRecDepth 100000 in
theorem zc_P_31 : ze_CV cn_P 31 my_P_at bc_P_at 2 (some .char) 1 1 := ⟨⟨(ze_mem (List.mem_of_getElem? (i := 587) (by decide +kernel)) rfl), (ze_mem (List.mem_of_getElem? (i := 385) (by decide +kernel)) rfl), (ze_mem (List.mem_of_getElem? (i := 386) (by decide +kernel)) rfl), (ze_mem (List.mem_of_getElem? (i := 69) (by decide +kernel)) rfl), (ze_mem (List.mem_of_getElem? (i := 387) rfl) rfl)⟩, by decide +kernel, ct_P, 6, rfl⟩
set_option maxRecDepth 100000 in
theorem zf_P_35 : ze_F cn_P 35 8 0 := ⟨cn_H, ct_H, 4, rfl, ci_H, by decide, (ze_mem (List.mem_of_getElem? (i := 297) (by decide +kernel)) rfl)⟩
set_option maxRecDepth 100000 in
theorem zf_P_15 : ze_F cn_P 15 1 1 := ⟨cn_P, ct_P, 6, rfl, ci_P, by decide, (ze_mem (List.mem_of_getElem? (i := 102) (by decide +kernel)) rfl)⟩
set_option maxRecDepth 100000 in
theorem zf_P_41 : ze_F cn_P 41 8 1 := ⟨cn_H, ct_H, 4, rfl, ci_H, by decide, (ze_mem (List.mem_of_getElem? (i := 299) (by decide +kernel)) rfl)⟩
set_option maxRecDepth 100000 in
theorem zc_P_44 : ze_CV cn_P 44 my_P_holds bc_P_holds 5 (some .boolean) 2 1 := ⟨⟨(ze_mem (List.mem_of_getElem? (i := 600) (by decide +kernel)) rfl), (ze_mem (List.mem_of_getElem? (i := 601) (by decide +kernel)) rfl), (ze_mem (List.mem_of_getElem? (i := 602) (by decide +kernel)) rfl), (ze_mem (List.mem_of_getElem? (i := 69) (by decide +kernel)) rfl), (ze_mem (List.mem_of_getElem? (i := 603) rfl) rfl)⟩, by decide +kernel, ct_P, 6, rfl⟩
set_option maxRecDepth 100000 in
theorem zf_P_25 : ze_F cn_P 25 1 4 := ⟨cn_P, ct_P, 6, rfl, ci_P, by decide, (ze_mem (List.mem_of_getElem? (i := 111) (by decide +kernel)) rfl)⟩
set_option maxRecDepth 100000 in
theorem zf_P_22 : ze_F cn_P 22 1 3 := ⟨cn_P, ct_P, 6, rfl, ci_P, by decide, (ze_mem (List.mem_of_getElem? (i := 108) (by decide +kernel)) rfl)⟩
set_option maxRecDepth 100000 in
theorem za_P_48 : ze_CA cn_P 48 := ⟨(ze_mem (List.mem_of_getElem? (i := 520) (by decide +kernel)) rfl), (ze_mem (List.mem_of_getElem? (i := 522) (by decide +kernel)) rfl), (ze_mem (List.mem_of_getElem? (i := 521) (by decide +kernel)) rfl), (ze_mem (List.mem_of_getElem? (i := 84) (by decide +kernel)) rfl)⟩
set_option maxRecDepth 100000 in
theorem zf_P_19 : ze_F cn_P 19 1 2 := ⟨cn_P, ct_P, 6, rfl, ci_P, by decide, (ze_mem (List.mem_of_getElem? (i := 105) (by decide +kernel)) rfl)⟩
set_option maxRecDepth 100000 in
theorem zf_P_28 : ze_F cn_P 28 1 5 := ⟨cn_P, ct_P, 6, rfl, ci_P, by decide, (ze_mem (List.mem_of_getElem? (i := 113) (by decide +kernel)) rfl)⟩
set_option maxRecDepth 100000 in
theorem zf_L_29 : ze_F cn_L 29 5 5 := ⟨cn_L, ct_L, 6, rfl, ci_L, by decide, (ze_mem (List.mem_of_getElem? (i := 225) (by decide +kernel)) rfl)⟩
set_option maxRecDepth 100000 in
theorem zf_L_13 : ze_F cn_L 13 5 0 := ⟨cn_L, ct_L, 6, rfl, ci_L, by decide, (ze_mem (List.mem_of_getElem? (i := 216) (by decide +kernel)) rfl)⟩
set_option maxRecDepth 100000 in
theorem zf_L_32 : ze_F cn_L 32 5 4 := ⟨cn_L, ct_L, 6, rfl, ci_L, by decide, (ze_mem (List.mem_of_getElem? (i := 223) (by decide +kernel)) rfl)⟩
set_option maxRecDepth 100000 in
theorem zf_L_19 : ze_F cn_L 19 5 1 := ⟨cn_L, ct_L, 6, rfl, ci_L, by decide, (ze_mem (List.mem_of_getElem? (i := 217) (by decide +kernel)) rfl)⟩
set_option maxRecDepth 100000 in
theorem zf_L_23 : ze_F cn_L 23 5 2 := ⟨cn_L, ct_L, 6, rfl, ci_L, by decide, (ze_mem (List.mem_of_getElem? (i := 219) (by decide +kernel)) rfl)⟩
set_option maxRecDepth 100000 in
theorem zf_L_26 : ze_F cn_L 26 5 3 := ⟨cn_L, ct_L, 6, rfl, ci_L, by decide, (ze_mem (List.mem_of_getElem? (i := 221) (by decide +kernel)) rfl)⟩
set_option maxRecDepth 100000 in
theorem zp_L_29 : ze_Fp cn_L 29 5 5 := ⟨cn_L, ct_L, 6, cy_L, rfl, ci_L, by decide, (ze_mem (List.mem_of_getElem? (i := 225) (by decide +kernel)) rfl), co_L, ce_L, rfl, rfl⟩
set_option maxRecDepth 100000 in
theorem zp_L_32 : ze_Fp cn_L 32 5 4 := ⟨cn_L, ct_L, 6, cy_L, rfl, ci_L, by decide, (ze_mem (List.mem_of_getElem? (i := 223) (by decide +kernel)) rfl), co_L, ce_L, rfl, rfl⟩
set_option maxRecDepth 100000 in
theorem zf_C_28 : ze_F cn_C 28 3 5 := ⟨cn_C, ct_C, 6, rfl, ci_C, by decide, (ze_mem (List.mem_of_getElem? (i := 165) (by decide +kernel)) rfl)⟩
set_option maxRecDepth 100000 in
theorem zf_C_9 : ze_F cn_C 9 3 0 := ⟨cn_C, ct_C, 6, rfl, ci_C, by decide, (ze_mem (List.mem_of_getElem? (i := 156) (by decide +kernel)) rfl)⟩
set_option maxRecDepth 100000 in
theorem zf_C_15 : ze_F cn_C 15 3 1 := ⟨cn_C, ct_C, 6, rfl, ci_C, by decide, (ze_mem (List.mem_of_getElem? (i := 157) (by decide +kernel)) rfl)⟩
set_option maxRecDepth 100000 in
theorem zf_C_18 : ze_F cn_C 18 3 2 := ⟨cn_C, ct_C, 6, rfl, ci_C, by decide, (ze_mem (List.mem_of_getElem? (i := 159) (by decide +kernel)) rfl)⟩
set_option maxRecDepth 100000 in
theorem zf_C_21 : ze_F cn_C 21 3 3 := ⟨cn_C, ct_C, 6, rfl, ci_C, by decide, (ze_mem (List.mem_of_getElem? (i := 161) (by decide +kernel)) rfl)⟩
set_option maxRecDepth 100000 in
theorem zf_C_25 : ze_F cn_C 25 3 4 := ⟨cn_C, ct_C, 6, rfl, ci_C, by decide, (ze_mem (List.mem_of_getElem? (i := 163) (by decide +kernel)) rfl)⟩
set_option maxRecDepth 100000 in
theorem zp_C_28 : ze_Fp cn_C 28 3 5 := ⟨cn_C, ct_C, 6, cy_C, rfl, ci_C, by decide, (ze_mem (List.mem_of_getElem? (i := 165) (by decide +kernel)) rfl), co_C, ce_C, rfl, rfl⟩
set_option maxRecDepth 100000 in
theorem zf_G_27 : ze_F cn_G 27 6 5 := ⟨cn_G, ct_G, 6, rfl, ci_G, by decide, (ze_mem (List.mem_of_getElem? (i := 256) (by decide +kernel)) rfl)⟩
set_option maxRecDepth 100000 in
theorem zf_G_9 : ze_F cn_G 9 6 0 := ⟨cn_G, ct_G, 6, rfl, ci_G, by decide, (ze_mem (List.mem_of_getElem? (i := 246) (by decide +kernel)) rfl)⟩
set_option maxRecDepth 100000 in
theorem zf_G_15 : ze_F cn_G 15 6 1 := ⟨cn_G, ct_G, 6, rfl, ci_G, by decide, (ze_mem (List.mem_of_getElem? (i := 248) (by decide +kernel)) rfl)⟩
set_option maxRecDepth 100000 in
theorem zf_G_24 : ze_F cn_G 24 6 4 := ⟨cn_G, ct_G, 6, rfl, ci_G, by decide, (ze_mem (List.mem_of_getElem? (i := 254) (by decide +kernel)) rfl)⟩
set_option maxRecDepth 100000 in
theorem zc_G_31 : ze_CV cn_G 31 my_G_openOf bc_G_openOf 4 (some .int) 1 6 := ⟨⟨(ze_mem (List.mem_of_getElem? (i := 649) (by decide +kernel)) rfl), (ze_mem (List.mem_of_getElem? (i := 651) (by decide +kernel)) rfl), (ze_mem (List.mem_of_getElem? (i := 22) (by decide +kernel)) rfl), (ze_mem (List.mem_of_getElem? (i := 75) (by decide +kernel)) rfl), (ze_mem (List.mem_of_getElem? (i := 652) rfl) rfl)⟩, by decide +kernel, ct_G, 6, rfl⟩
set_option maxRecDepth 100000 in
theorem zf_G_18 : ze_F cn_G 18 6 2 := ⟨cn_G, ct_G, 6, rfl, ci_G, by decide, (ze_mem (List.mem_of_getElem? (i := 250) (by decide +kernel)) rfl)⟩
set_option maxRecDepth 100000 in
theorem zf_G_21 : ze_F cn_G 21 6 3 := ⟨cn_G, ct_G, 6, rfl, ci_G, by decide, (ze_mem (List.mem_of_getElem? (i := 252) (by decide +kernel)) rfl)⟩
set_option maxRecDepth 100000 in
theorem zp_G_27 : ze_Fp cn_G 27 6 5 := ⟨cn_G, ct_G, 6, cy_G, rfl, ci_G, by decide, (ze_mem (List.mem_of_getElem? (i := 256) (by decide +kernel)) rfl), co_G, ce_G, rfl, rfl⟩
set_option maxRecDepth 100000 in
theorem zf_K_9 : ze_F cn_K 9 7 0 := ⟨cn_K, ct_K, 3, rfl, ci_K, by decide, (ze_mem (List.mem_of_getElem? (i := 277) (by decide +kernel)) rfl)⟩
set_option maxRecDepth 100000 in
theorem zc_K_21 : ze_CS cn_K 21 my_JA_fill bc_JA_fill 4 none 2 := ⟨⟨(ze_mem (List.mem_of_getElem? (i := 531) (by decide +kernel)) rfl), (ze_mem (List.mem_of_getElem? (i := 532) (by decide +kernel)) rfl), (ze_mem (List.mem_of_getElem? (i := 85) (by decide +kernel)) rfl), (ze_mem (List.mem_of_getElem? (i := 533) rfl) rfl)⟩, by decide +kernel⟩
set_option maxRecDepth 100000 in
theorem zf_K_18 : ze_F cn_K 18 7 2 := ⟨cn_K, ct_K, 3, rfl, ci_K, by decide, (ze_mem (List.mem_of_getElem? (i := 281) (by decide +kernel)) rfl)⟩
set_option maxRecDepth 100000 in
theorem za_K_27 : ze_CA cn_K 27 := ⟨(ze_mem (List.mem_of_getElem? (i := 628) (by decide +kernel)) rfl), (ze_mem (List.mem_of_getElem? (i := 522) (by decide +kernel)) rfl), (ze_mem (List.mem_of_getElem? (i := 521) (by decide +kernel)) rfl), (ze_mem (List.mem_of_getElem? (i := 84) (by decide +kernel)) rfl)⟩
set_option maxRecDepth 100000 in
theorem zf_K_15 : ze_F cn_K 15 7 1 := ⟨cn_K, ct_K, 3, rfl, ci_K, by decide, (ze_mem (List.mem_of_getElem? (i := 279) (by decide +kernel)) rfl)⟩
set_option maxRecDepth 100000 in
theorem zf_N_18 : ze_F cn_N 18 4 2 := ⟨cn_N, ct_N, 5, rfl, ci_N, by decide, (ze_mem (List.mem_of_getElem? (i := 192) (by decide +kernel)) rfl)⟩
set_option maxRecDepth 100000 in
theorem zc_N_22 : ze_CS cn_N 22 my_JM_floorMod bc_JM_floorMod 3 (some .int) 2 := ⟨⟨(ze_mem (List.mem_of_getElem? (i := 673) (by decide +kernel)) rfl), (ze_mem (List.mem_of_getElem? (i := 674) (by decide +kernel)) rfl), (ze_mem (List.mem_of_getElem? (i := 74) (by decide +kernel)) rfl), (ze_mem (List.mem_of_getElem? (i := 675) rfl) rfl)⟩, by decide +kernel⟩
set_option maxRecDepth 100000 in
theorem zf_N_9 : ze_F cn_N 9 4 0 := ⟨cn_N, ct_N, 5, rfl, ci_N, by decide, (ze_mem (List.mem_of_getElem? (i := 188) (by decide +kernel)) rfl)⟩
set_option maxRecDepth 100000 in
theorem zf_N_15 : ze_F cn_N 15 4 1 := ⟨cn_N, ct_N, 5, rfl, ci_N, by decide, (ze_mem (List.mem_of_getElem? (i := 190) (by decide +kernel)) rfl)⟩
set_option maxRecDepth 100000 in
theorem zp_N_18 : ze_Fp cn_N 18 4 2 := ⟨cn_N, ct_N, 5, cy_N, rfl, ci_N, by decide, (ze_mem (List.mem_of_getElem? (i := 192) (by decide +kernel)) rfl), co_N, ce_N, rfl, rfl⟩
set_option maxRecDepth 100000 in
theorem zc_E_82 : ze_CS cn_E 82 my_E_isRoute bc_E_isRoute 1 (some .boolean) 1 := ⟨⟨(ze_mem (List.mem_of_getElem? (i := 365) (by decide +kernel)) rfl), (ze_mem (List.mem_of_getElem? (i := 366) (by decide +kernel)) rfl), (ze_mem (List.mem_of_getElem? (i := 68) (by decide +kernel)) rfl), (ze_mem (List.mem_of_getElem? (i := 367) rfl) rfl)⟩, by decide +kernel⟩
set_option maxRecDepth 100000 in
theorem zf_E_9 : ze_F cn_E 9 0 0 := ⟨cn_E, ct_E, 16, rfl, ci_E, by decide, (ze_mem (List.mem_of_getElem? (i := 312) (by decide +kernel)) rfl)⟩
set_option maxRecDepth 100000 in
theorem zf_E_16 : ze_F cn_E 16 0 1 := ⟨cn_E, ct_E, 16, rfl, ci_E, by decide, (ze_mem (List.mem_of_getElem? (i := 313) (by decide +kernel)) rfl)⟩
set_option maxRecDepth 100000 in
theorem zf_E_86 : ze_F cn_E 86 1 0 := ⟨cn_P, ct_P, 6, rfl, ci_P, by decide, (ze_mem (List.mem_of_getElem? (i := 101) (by decide +kernel)) rfl)⟩
set_option maxRecDepth 100000 in
theorem zc_E_108 : ze_CS cn_E 108 my_E_isThrown bc_E_isThrown 1 (some .boolean) 1 := ⟨⟨(ze_mem (List.mem_of_getElem? (i := 539) (by decide +kernel)) rfl), (ze_mem (List.mem_of_getElem? (i := 540) (by decide +kernel)) rfl), (ze_mem (List.mem_of_getElem? (i := 68) (by decide +kernel)) rfl), (ze_mem (List.mem_of_getElem? (i := 541) rfl) rfl)⟩, by decide +kernel⟩
set_option maxRecDepth 100000 in
theorem zf_E_35 : ze_F cn_E 35 0 4 := ⟨cn_E, ct_E, 16, rfl, ci_E, by decide, (ze_mem (List.mem_of_getElem? (i := 316) (by decide +kernel)) rfl)⟩
set_option maxRecDepth 100000 in
theorem zc_E_111 : ze_CV cn_E 111 my_C_add bc_C_add 6 (some .boolean) 5 3 := ⟨⟨(ze_mem (List.mem_of_getElem? (i := 542) (by decide +kernel)) rfl), (ze_mem (List.mem_of_getElem? (i := 543) (by decide +kernel)) rfl), (ze_mem (List.mem_of_getElem? (i := 544) (by decide +kernel)) rfl), (ze_mem (List.mem_of_getElem? (i := 71) (by decide +kernel)) rfl), (ze_mem (List.mem_of_getElem? (i := 545) rfl) rfl)⟩, by decide +kernel, ct_C, 6, rfl⟩
set_option maxRecDepth 100000 in
theorem zp_E_115 : ze_Fp cn_E 115 3 5 := ⟨cn_C, ct_C, 6, cy_C, rfl, ci_C, by decide, (ze_mem (List.mem_of_getElem? (i := 166) (by decide +kernel)) rfl), co_C, ce_C, rfl, rfl⟩
set_option maxRecDepth 100000 in
theorem zf_E_41 : ze_F cn_E 41 0 5 := ⟨cn_E, ct_E, 16, rfl, ci_E, by decide, (ze_mem (List.mem_of_getElem? (i := 317) (by decide +kernel)) rfl)⟩
set_option maxRecDepth 100000 in
theorem zp_E_116 : ze_Fp cn_E 116 4 3 := ⟨cn_N, ct_N, 5, cy_N, rfl, ci_N, by decide, (ze_mem (List.mem_of_getElem? (i := 194) (by decide +kernel)) rfl), co_N, ce_N, rfl, rfl⟩
set_option maxRecDepth 100000 in
theorem zp_E_119 : ze_Fp cn_E 119 4 4 := ⟨cn_N, ct_N, 5, cy_N, rfl, ci_N, by decide, (ze_mem (List.mem_of_getElem? (i := 195) (by decide +kernel)) rfl), co_N, ce_N, rfl, rfl⟩
set_option maxRecDepth 100000 in
theorem zf_E_158 : ze_F cn_E 158 4 2 := ⟨cn_N, ct_N, 5, rfl, ci_N, by decide, (ze_mem (List.mem_of_getElem? (i := 193) (by decide +kernel)) rfl)⟩
set_option maxRecDepth 100000 in
theorem zc_E_161 : ze_CV cn_E 161 my_E_isDelivery bc_E_isDelivery 3 (some .boolean) 2 0 := ⟨⟨(ze_mem (List.mem_of_getElem? (i := 705) (by decide +kernel)) rfl), (ze_mem (List.mem_of_getElem? (i := 707) (by decide +kernel)) rfl), (ze_mem (List.mem_of_getElem? (i := 27) (by decide +kernel)) rfl), (ze_mem (List.mem_of_getElem? (i := 68) (by decide +kernel)) rfl), (ze_mem (List.mem_of_getElem? (i := 708) rfl) rfl)⟩, by decide +kernel, ct_E, 16, rfl⟩
set_option maxRecDepth 100000 in
theorem zf_E_165 : ze_F cn_E 165 4 0 := ⟨cn_N, ct_N, 5, rfl, ci_N, by decide, (ze_mem (List.mem_of_getElem? (i := 189) (by decide +kernel)) rfl)⟩
set_option maxRecDepth 100000 in
theorem zc_E_166 : ze_CV cn_E 166 my_N_slotBefore bc_N_slotBefore 2 (some .int) 1 4 := ⟨⟨(ze_mem (List.mem_of_getElem? (i := 709) (by decide +kernel)) rfl), (ze_mem (List.mem_of_getElem? (i := 710) (by decide +kernel)) rfl), (ze_mem (List.mem_of_getElem? (i := 711) (by decide +kernel)) rfl), (ze_mem (List.mem_of_getElem? (i := 72) (by decide +kernel)) rfl), (ze_mem (List.mem_of_getElem? (i := 712) rfl) rfl)⟩, by decide +kernel, ct_N, 5, rfl⟩
set_option maxRecDepth 100000 in
theorem zf_E_169 : ze_F cn_E 169 4 1 := ⟨cn_N, ct_N, 5, rfl, ci_N, by decide, (ze_mem (List.mem_of_getElem? (i := 191) (by decide +kernel)) rfl)⟩
set_option maxRecDepth 100000 in
theorem zf_E_61 : ze_F cn_E 61 0 8 := ⟨cn_E, ct_E, 16, rfl, ci_E, by decide, (ze_mem (List.mem_of_getElem? (i := 320) (by decide +kernel)) rfl)⟩
set_option maxRecDepth 100000 in
theorem zf_E_100 : ze_F cn_E 100 6 5 := ⟨cn_G, ct_G, 6, rfl, ci_G, by decide, (ze_mem (List.mem_of_getElem? (i := 257) (by decide +kernel)) rfl)⟩
set_option maxRecDepth 100000 in
theorem zf_E_170 : ze_F cn_E 170 6 1 := ⟨cn_G, ct_G, 6, rfl, ci_G, by decide, (ze_mem (List.mem_of_getElem? (i := 249) (by decide +kernel)) rfl)⟩
set_option maxRecDepth 100000 in
theorem zf_E_171 : ze_F cn_E 171 6 2 := ⟨cn_G, ct_G, 6, rfl, ci_G, by decide, (ze_mem (List.mem_of_getElem? (i := 251) (by decide +kernel)) rfl)⟩
set_option maxRecDepth 100000 in
theorem zf_E_174 : ze_F cn_E 174 6 3 := ⟨cn_G, ct_G, 6, rfl, ci_G, by decide, (ze_mem (List.mem_of_getElem? (i := 253) (by decide +kernel)) rfl)⟩
set_option maxRecDepth 100000 in
theorem zf_E_177 : ze_F cn_E 177 6 4 := ⟨cn_G, ct_G, 6, rfl, ci_G, by decide, (ze_mem (List.mem_of_getElem? (i := 255) (by decide +kernel)) rfl)⟩
set_option maxRecDepth 100000 in
theorem zf_E_148 : ze_F cn_E 148 0 13 := ⟨cn_E, ct_E, 16, rfl, ci_E, by decide, (ze_mem (List.mem_of_getElem? (i := 325) (by decide +kernel)) rfl)⟩
set_option maxRecDepth 100000 in
theorem zf_E_51 : ze_F cn_E 51 0 6 := ⟨cn_E, ct_E, 16, rfl, ci_E, by decide, (ze_mem (List.mem_of_getElem? (i := 318) (by decide +kernel)) rfl)⟩
set_option maxRecDepth 100000 in
theorem zf_E_132 : ze_F cn_E 132 5 5 := ⟨cn_L, ct_L, 6, rfl, ci_L, by decide, (ze_mem (List.mem_of_getElem? (i := 226) (by decide +kernel)) rfl)⟩
set_option maxRecDepth 100000 in
theorem zf_E_105 : ze_F cn_E 105 0 14 := ⟨cn_E, ct_E, 16, rfl, ci_E, by decide, (ze_mem (List.mem_of_getElem? (i := 326) (by decide +kernel)) rfl)⟩
set_option maxRecDepth 100000 in
theorem zf_E_180 : ze_F cn_E 180 0 15 := ⟨cn_E, ct_E, 16, rfl, ci_E, by decide, (ze_mem (List.mem_of_getElem? (i := 327) (by decide +kernel)) rfl)⟩
set_option maxRecDepth 100000 in
theorem zf_E_79 : ze_F cn_E 79 0 11 := ⟨cn_E, ct_E, 16, rfl, ci_E, by decide, (ze_mem (List.mem_of_getElem? (i := 323) (by decide +kernel)) rfl)⟩
set_option maxRecDepth 100000 in
theorem zp_E_183 : ze_Fp cn_E 183 8 0 := ⟨cn_H, ct_H, 4, cy_H, rfl, ci_H, by decide, (ze_mem (List.mem_of_getElem? (i := 298) (by decide +kernel)) rfl), co_H, ce_H, rfl, rfl⟩
set_option maxRecDepth 100000 in
theorem zp_E_186 : ze_Fp cn_E 186 8 1 := ⟨cn_H, ct_H, 4, cy_H, rfl, ci_H, by decide, (ze_mem (List.mem_of_getElem? (i := 300) (by decide +kernel)) rfl), co_H, ce_H, rfl, rfl⟩
set_option maxRecDepth 100000 in
theorem zp_E_189 : ze_Fp cn_E 189 8 2 := ⟨cn_H, ct_H, 4, cy_H, rfl, ci_H, by decide, (ze_mem (List.mem_of_getElem? (i := 301) (by decide +kernel)) rfl), co_H, ce_H, rfl, rfl⟩
set_option maxRecDepth 100000 in
theorem zp_E_192 : ze_Fp cn_E 192 8 3 := ⟨cn_H, ct_H, 4, cy_H, rfl, ci_H, by decide, (ze_mem (List.mem_of_getElem? (i := 302) (by decide +kernel)) rfl), co_H, ce_H, rfl, rfl⟩
set_option maxRecDepth 100000 in
theorem zc_E_251 : ze_CV cn_E 251 my_C_firstFor bc_C_firstFor 3 (some .int) 1 3 := ⟨⟨(ze_mem (List.mem_of_getElem? (i := 680) (by decide +kernel)) rfl), (ze_mem (List.mem_of_getElem? (i := 681) (by decide +kernel)) rfl), (ze_mem (List.mem_of_getElem? (i := 682) (by decide +kernel)) rfl), (ze_mem (List.mem_of_getElem? (i := 71) (by decide +kernel)) rfl), (ze_mem (List.mem_of_getElem? (i := 683) rfl) rfl)⟩, by decide +kernel, ct_C, 6, rfl⟩
set_option maxRecDepth 100000 in
theorem zc_E_202 : ze_CV cn_E 202 my_E_end bc_E_end 3 none 2 0 := ⟨⟨(ze_mem (List.mem_of_getElem? (i := 579) (by decide +kernel)) rfl), (ze_mem (List.mem_of_getElem? (i := 581) (by decide +kernel)) rfl), (ze_mem (List.mem_of_getElem? (i := 14) (by decide +kernel)) rfl), (ze_mem (List.mem_of_getElem? (i := 68) (by decide +kernel)) rfl), (ze_mem (List.mem_of_getElem? (i := 582) rfl) rfl)⟩, by decide +kernel, ct_E, 16, rfl⟩
set_option maxRecDepth 100000 in
theorem zf_E_254 : ze_F cn_E 254 3 1 := ⟨cn_C, ct_C, 6, rfl, ci_C, by decide, (ze_mem (List.mem_of_getElem? (i := 158) (by decide +kernel)) rfl)⟩
set_option maxRecDepth 100000 in
theorem zf_E_266 : ze_F cn_E 266 3 3 := ⟨cn_C, ct_C, 6, rfl, ci_C, by decide, (ze_mem (List.mem_of_getElem? (i := 162) (by decide +kernel)) rfl)⟩
set_option maxRecDepth 100000 in
theorem zf_E_270 : ze_F cn_E 270 3 4 := ⟨cn_C, ct_C, 6, rfl, ci_C, by decide, (ze_mem (List.mem_of_getElem? (i := 164) (by decide +kernel)) rfl)⟩
set_option maxRecDepth 100000 in
theorem zf_E_183 : ze_F cn_E 183 8 0 := ⟨cn_H, ct_H, 4, rfl, ci_H, by decide, (ze_mem (List.mem_of_getElem? (i := 298) (by decide +kernel)) rfl)⟩
set_option maxRecDepth 100000 in
theorem zf_E_186 : ze_F cn_E 186 8 1 := ⟨cn_H, ct_H, 4, rfl, ci_H, by decide, (ze_mem (List.mem_of_getElem? (i := 300) (by decide +kernel)) rfl)⟩
set_option maxRecDepth 100000 in
theorem zc_E_272 : ze_CV cn_E 272 my_N_accept bc_N_accept 4 none 2 4 := ⟨⟨(ze_mem (List.mem_of_getElem? (i := 669) (by decide +kernel)) rfl), (ze_mem (List.mem_of_getElem? (i := 670) (by decide +kernel)) rfl), (ze_mem (List.mem_of_getElem? (i := 671) (by decide +kernel)) rfl), (ze_mem (List.mem_of_getElem? (i := 72) (by decide +kernel)) rfl), (ze_mem (List.mem_of_getElem? (i := 672) rfl) rfl)⟩, by decide +kernel, ct_N, 5, rfl⟩
set_option maxRecDepth 100000 in
theorem zf_E_189 : ze_F cn_E 189 8 2 := ⟨cn_H, ct_H, 4, rfl, ci_H, by decide, (ze_mem (List.mem_of_getElem? (i := 301) (by decide +kernel)) rfl)⟩
set_option maxRecDepth 100000 in
theorem zp_E_180 : ze_Fp cn_E 180 0 15 := ⟨cn_E, ct_E, 16, cy_E, rfl, ci_E, by decide, (ze_mem (List.mem_of_getElem? (i := 327) (by decide +kernel)) rfl), co_E, ce_E, rfl, rfl⟩
set_option maxRecDepth 100000 in
theorem zf_E_257 : ze_F cn_E 257 3 2 := ⟨cn_C, ct_C, 6, rfl, ci_C, by decide, (ze_mem (List.mem_of_getElem? (i := 160) (by decide +kernel)) rfl)⟩
set_option maxRecDepth 100000 in
theorem zm_E_260 : ze_CM cn_E 260 Lib.Math.min.name Lib.Math.min.code := ⟨(ze_mem (List.mem_of_getElem? (i := 684) (by decide +kernel)) rfl), (ze_mem (List.mem_of_getElem? (i := 435) (by decide +kernel)) rfl), (ze_mem (List.mem_of_getElem? (i := 74) (by decide +kernel)) rfl), ze_mem (List.mem_of_getElem? (i := 436) rfl) rfl⟩
set_option maxRecDepth 100000 in
theorem zp_E_148 : ze_Fp cn_E 148 0 13 := ⟨cn_E, ct_E, 16, cy_E, rfl, ci_E, by decide, (ze_mem (List.mem_of_getElem? (i := 325) (by decide +kernel)) rfl), co_E, ce_E, rfl, rfl⟩
set_option maxRecDepth 100000 in
theorem zf_E_20 : ze_F cn_E 20 0 2 := ⟨cn_E, ct_E, 16, rfl, ci_E, by decide, (ze_mem (List.mem_of_getElem? (i := 314) (by decide +kernel)) rfl)⟩
set_option maxRecDepth 100000 in
theorem zc_E_282 : ze_CV cn_E 282 my_P_holds bc_P_holds 5 (some .boolean) 2 1 := ⟨⟨(ze_mem (List.mem_of_getElem? (i := 615) (by decide +kernel)) rfl), (ze_mem (List.mem_of_getElem? (i := 601) (by decide +kernel)) rfl), (ze_mem (List.mem_of_getElem? (i := 602) (by decide +kernel)) rfl), (ze_mem (List.mem_of_getElem? (i := 69) (by decide +kernel)) rfl), (ze_mem (List.mem_of_getElem? (i := 603) rfl) rfl)⟩, by decide +kernel, ct_P, 6, rfl⟩
set_option maxRecDepth 100000 in
theorem zf_E_68 : ze_F cn_E 68 0 9 := ⟨cn_E, ct_E, 16, rfl, ci_E, by decide, (ze_mem (List.mem_of_getElem? (i := 321) (by decide +kernel)) rfl)⟩
set_option maxRecDepth 100000 in
theorem zc_E_286 : ze_CV cn_E 286 my_K_has bc_K_has 5 (some .boolean) 2 7 := ⟨⟨(ze_mem (List.mem_of_getElem? (i := 620) (by decide +kernel)) rfl), (ze_mem (List.mem_of_getElem? (i := 621) (by decide +kernel)) rfl), (ze_mem (List.mem_of_getElem? (i := 622) (by decide +kernel)) rfl), (ze_mem (List.mem_of_getElem? (i := 76) (by decide +kernel)) rfl), (ze_mem (List.mem_of_getElem? (i := 623) rfl) rfl)⟩, by decide +kernel, ct_K, 3, rfl⟩
set_option maxRecDepth 100000 in
theorem zc_E_289 : ze_CV cn_E 289 my_K_addLatest bc_K_addLatest 4 none 2 7 := ⟨⟨(ze_mem (List.mem_of_getElem? (i := 624) (by decide +kernel)) rfl), (ze_mem (List.mem_of_getElem? (i := 625) (by decide +kernel)) rfl), (ze_mem (List.mem_of_getElem? (i := 626) (by decide +kernel)) rfl), (ze_mem (List.mem_of_getElem? (i := 76) (by decide +kernel)) rfl), (ze_mem (List.mem_of_getElem? (i := 627) rfl) rfl)⟩, by decide +kernel, ct_K, 3, rfl⟩
set_option maxRecDepth 100000 in
theorem zc_E_292 : ze_CV cn_E 292 my_K_addInOrder bc_K_addInOrder 6 none 3 7 := ⟨⟨(ze_mem (List.mem_of_getElem? (i := 633) (by decide +kernel)) rfl), (ze_mem (List.mem_of_getElem? (i := 634) (by decide +kernel)) rfl), (ze_mem (List.mem_of_getElem? (i := 635) (by decide +kernel)) rfl), (ze_mem (List.mem_of_getElem? (i := 76) (by decide +kernel)) rfl), (ze_mem (List.mem_of_getElem? (i := 636) rfl) rfl)⟩, by decide +kernel, ct_K, 3, rfl⟩
set_option maxRecDepth 100000 in
theorem zp_E_105 : ze_Fp cn_E 105 0 14 := ⟨cn_E, ct_E, 16, cy_E, rfl, ci_E, by decide, (ze_mem (List.mem_of_getElem? (i := 326) (by decide +kernel)) rfl), co_E, ce_E, rfl, rfl⟩
set_option maxRecDepth 100000 in
theorem zf_E_296 : ze_F cn_E 296 7 0 := ⟨cn_K, ct_K, 3, rfl, ci_K, by decide, (ze_mem (List.mem_of_getElem? (i := 278) (by decide +kernel)) rfl)⟩
set_option maxRecDepth 100000 in
theorem zf_E_223 : ze_F cn_E 223 1 1 := ⟨cn_P, ct_P, 6, rfl, ci_P, by decide, (ze_mem (List.mem_of_getElem? (i := 104) (by decide +kernel)) rfl)⟩
set_option maxRecDepth 100000 in
theorem zf_E_55 : ze_F cn_E 55 0 7 := ⟨cn_E, ct_E, 16, rfl, ci_E, by decide, (ze_mem (List.mem_of_getElem? (i := 319) (by decide +kernel)) rfl)⟩
set_option maxRecDepth 100000 in
theorem zf_E_212 : ze_F cn_E 212 1 5 := ⟨cn_P, ct_P, 6, rfl, ci_P, by decide, (ze_mem (List.mem_of_getElem? (i := 115) (by decide +kernel)) rfl)⟩
set_option maxRecDepth 100000 in
theorem zf_E_299 : ze_F cn_E 299 7 1 := ⟨cn_K, ct_K, 3, rfl, ci_K, by decide, (ze_mem (List.mem_of_getElem? (i := 280) (by decide +kernel)) rfl)⟩
set_option maxRecDepth 100000 in
theorem zf_E_300 : ze_F cn_E 300 7 2 := ⟨cn_K, ct_K, 3, rfl, ci_K, by decide, (ze_mem (List.mem_of_getElem? (i := 282) (by decide +kernel)) rfl)⟩
set_option maxRecDepth 100000 in
theorem zc_E_125 : ze_CV cn_E 125 my_L_add bc_L_add 5 (some .boolean) 3 5 := ⟨⟨(ze_mem (List.mem_of_getElem? (i := 558) (by decide +kernel)) rfl), (ze_mem (List.mem_of_getElem? (i := 559) (by decide +kernel)) rfl), (ze_mem (List.mem_of_getElem? (i := 560) (by decide +kernel)) rfl), (ze_mem (List.mem_of_getElem? (i := 73) (by decide +kernel)) rfl), (ze_mem (List.mem_of_getElem? (i := 561) rfl) rfl)⟩, by decide +kernel, ct_L, 6, rfl⟩
set_option maxRecDepth 100000 in
theorem zf_E_311 : ze_F cn_E 311 6 0 := ⟨cn_G, ct_G, 6, rfl, ci_G, by decide, (ze_mem (List.mem_of_getElem? (i := 247) (by decide +kernel)) rfl)⟩
set_option maxRecDepth 100000 in
theorem zc_E_312 : ze_CV cn_E 312 my_G_remove bc_G_remove 3 none 1 6 := ⟨⟨(ze_mem (List.mem_of_getElem? (i := 657) (by decide +kernel)) rfl), (ze_mem (List.mem_of_getElem? (i := 658) (by decide +kernel)) rfl), (ze_mem (List.mem_of_getElem? (i := 659) (by decide +kernel)) rfl), (ze_mem (List.mem_of_getElem? (i := 75) (by decide +kernel)) rfl), (ze_mem (List.mem_of_getElem? (i := 660) rfl) rfl)⟩, by decide +kernel, ct_G, 6, rfl⟩
set_option maxRecDepth 100000 in
theorem zc_E_301 : ze_CV cn_E 301 my_G_find bc_G_find 4 (some .int) 2 6 := ⟨⟨(ze_mem (List.mem_of_getElem? (i := 641) (by decide +kernel)) rfl), (ze_mem (List.mem_of_getElem? (i := 642) (by decide +kernel)) rfl), (ze_mem (List.mem_of_getElem? (i := 643) (by decide +kernel)) rfl), (ze_mem (List.mem_of_getElem? (i := 75) (by decide +kernel)) rfl), (ze_mem (List.mem_of_getElem? (i := 644) rfl) rfl)⟩, by decide +kernel, ct_G, 6, rfl⟩
set_option maxRecDepth 100000 in
theorem zf_E_304 : ze_F cn_E 304 1 2 := ⟨cn_P, ct_P, 6, rfl, ci_P, by decide, (ze_mem (List.mem_of_getElem? (i := 107) (by decide +kernel)) rfl)⟩
set_option maxRecDepth 100000 in
theorem zc_E_307 : ze_CV cn_E 307 my_G_open bc_G_open 4 (some .int) 3 6 := ⟨⟨(ze_mem (List.mem_of_getElem? (i := 645) (by decide +kernel)) rfl), (ze_mem (List.mem_of_getElem? (i := 646) (by decide +kernel)) rfl), (ze_mem (List.mem_of_getElem? (i := 647) (by decide +kernel)) rfl), (ze_mem (List.mem_of_getElem? (i := 75) (by decide +kernel)) rfl), (ze_mem (List.mem_of_getElem? (i := 648) rfl) rfl)⟩, by decide +kernel, ct_G, 6, rfl⟩
set_option maxRecDepth 100000 in
theorem zc_E_155 : ze_CV cn_E 155 my_E_release bc_E_release 2 none 1 0 := ⟨⟨(ze_mem (List.mem_of_getElem? (i := 653) (by decide +kernel)) rfl), (ze_mem (List.mem_of_getElem? (i := 655) (by decide +kernel)) rfl), (ze_mem (List.mem_of_getElem? (i := 23) (by decide +kernel)) rfl), (ze_mem (List.mem_of_getElem? (i := 68) (by decide +kernel)) rfl), (ze_mem (List.mem_of_getElem? (i := 656) rfl) rfl)⟩, by decide +kernel, ct_E, 16, rfl⟩
set_option maxRecDepth 100000 in
theorem zf_E_116 : ze_F cn_E 116 4 3 := ⟨cn_N, ct_N, 5, rfl, ci_N, by decide, (ze_mem (List.mem_of_getElem? (i := 194) (by decide +kernel)) rfl)⟩
set_option maxRecDepth 100000 in
theorem zf_E_119 : ze_F cn_E 119 4 4 := ⟨cn_N, ct_N, 5, rfl, ci_N, by decide, (ze_mem (List.mem_of_getElem? (i := 195) (by decide +kernel)) rfl)⟩
set_option maxRecDepth 100000 in
theorem zf_E_74 : ze_F cn_E 74 0 10 := ⟨cn_E, ct_E, 16, rfl, ci_E, by decide, (ze_mem (List.mem_of_getElem? (i := 322) (by decide +kernel)) rfl)⟩
set_option maxRecDepth 100000 in
theorem zc_E_276 : ze_CS cn_E 276 my_JM_floorDiv bc_JM_floorDiv 3 (some .int) 2 := ⟨⟨(ze_mem (List.mem_of_getElem? (i := 608) (by decide +kernel)) rfl), (ze_mem (List.mem_of_getElem? (i := 609) (by decide +kernel)) rfl), (ze_mem (List.mem_of_getElem? (i := 74) (by decide +kernel)) rfl), (ze_mem (List.mem_of_getElem? (i := 610) rfl) rfl)⟩, by decide +kernel⟩
set_option maxRecDepth 100000 in
theorem zc_E_195 : ze_CV cn_E 195 my_E_begin bc_E_begin 4 none 3 0 := ⟨⟨(ze_mem (List.mem_of_getElem? (i := 567) (by decide +kernel)) rfl), (ze_mem (List.mem_of_getElem? (i := 569) (by decide +kernel)) rfl), (ze_mem (List.mem_of_getElem? (i := 12) (by decide +kernel)) rfl), (ze_mem (List.mem_of_getElem? (i := 68) (by decide +kernel)) rfl), (ze_mem (List.mem_of_getElem? (i := 570) rfl) rfl)⟩, by decide +kernel, ct_E, 16, rfl⟩
set_option maxRecDepth 100000 in
theorem zf_E_279 : ze_F cn_E 279 1 3 := ⟨cn_P, ct_P, 6, rfl, ci_P, by decide, (ze_mem (List.mem_of_getElem? (i := 110) (by decide +kernel)) rfl)⟩
set_option maxRecDepth 100000 in
theorem zc_E_199 : ze_CV cn_E 199 my_E_runList bc_E_runList 6 none 3 0 := ⟨⟨(ze_mem (List.mem_of_getElem? (i := 575) (by decide +kernel)) rfl), (ze_mem (List.mem_of_getElem? (i := 577) (by decide +kernel)) rfl), (ze_mem (List.mem_of_getElem? (i := 13) (by decide +kernel)) rfl), (ze_mem (List.mem_of_getElem? (i := 68) (by decide +kernel)) rfl), (ze_mem (List.mem_of_getElem? (i := 578) rfl) rfl)⟩, by decide +kernel, ct_E, 16, rfl⟩
set_option maxRecDepth 100000 in
theorem zf_E_192 : ze_F cn_E 192 8 3 := ⟨cn_H, ct_H, 4, rfl, ci_H, by decide, (ze_mem (List.mem_of_getElem? (i := 302) (by decide +kernel)) rfl)⟩
set_option maxRecDepth 100000 in
theorem zc_E_248 : ze_CV cn_E 248 my_E_deliver bc_E_deliver 4 (some .int) 2 0 := ⟨⟨(ze_mem (List.mem_of_getElem? (i := 665) (by decide +kernel)) rfl), (ze_mem (List.mem_of_getElem? (i := 667) (by decide +kernel)) rfl), (ze_mem (List.mem_of_getElem? (i := 25) (by decide +kernel)) rfl), (ze_mem (List.mem_of_getElem? (i := 68) (by decide +kernel)) rfl), (ze_mem (List.mem_of_getElem? (i := 668) rfl) rfl)⟩, by decide +kernel, ct_E, 16, rfl⟩
set_option maxRecDepth 100000 in
theorem zc_E_245 : ze_CV cn_E 245 my_E_copyToQueue bc_E_copyToQueue 4 (some .int) 2 0 := ⟨⟨(ze_mem (List.mem_of_getElem? (i := 661) (by decide +kernel)) rfl), (ze_mem (List.mem_of_getElem? (i := 663) (by decide +kernel)) rfl), (ze_mem (List.mem_of_getElem? (i := 24) (by decide +kernel)) rfl), (ze_mem (List.mem_of_getElem? (i := 68) (by decide +kernel)) rfl), (ze_mem (List.mem_of_getElem? (i := 664) rfl) rfl)⟩, by decide +kernel, ct_E, 16, rfl⟩
set_option maxRecDepth 100000 in
theorem zc_E_226 : ze_CV cn_E 226 my_P_listFor bc_P_listFor 3 (some .int) 2 1 := ⟨⟨(ze_mem (List.mem_of_getElem? (i := 596) (by decide +kernel)) rfl), (ze_mem (List.mem_of_getElem? (i := 597) (by decide +kernel)) rfl), (ze_mem (List.mem_of_getElem? (i := 598) (by decide +kernel)) rfl), (ze_mem (List.mem_of_getElem? (i := 69) (by decide +kernel)) rfl), (ze_mem (List.mem_of_getElem? (i := 599) rfl) rfl)⟩, by decide +kernel, ct_P, 6, rfl⟩
set_option maxRecDepth 100000 in
theorem zc_E_242 : ze_CV cn_E 242 my_E_gather bc_E_gather 4 (some .int) 2 0 := ⟨⟨(ze_mem (List.mem_of_getElem? (i := 637) (by decide +kernel)) rfl), (ze_mem (List.mem_of_getElem? (i := 639) (by decide +kernel)) rfl), (ze_mem (List.mem_of_getElem? (i := 21) (by decide +kernel)) rfl), (ze_mem (List.mem_of_getElem? (i := 68) (by decide +kernel)) rfl), (ze_mem (List.mem_of_getElem? (i := 640) rfl) rfl)⟩, by decide +kernel, ct_E, 16, rfl⟩
set_option maxRecDepth 100000 in
theorem zc_E_233 : ze_CV cn_E 233 my_E_filter bc_E_filter 3 none 2 0 := ⟨⟨(ze_mem (List.mem_of_getElem? (i := 611) (by decide +kernel)) rfl), (ze_mem (List.mem_of_getElem? (i := 613) (by decide +kernel)) rfl), (ze_mem (List.mem_of_getElem? (i := 18) (by decide +kernel)) rfl), (ze_mem (List.mem_of_getElem? (i := 68) (by decide +kernel)) rfl), (ze_mem (List.mem_of_getElem? (i := 614) rfl) rfl)⟩, by decide +kernel, ct_E, 16, rfl⟩
set_option maxRecDepth 100000 in
theorem zc_E_236 : ze_CV cn_E 236 my_E_endIfDuplicate bc_E_endIfDuplicate 3 none 2 0 := ⟨⟨(ze_mem (List.mem_of_getElem? (i := 616) (by decide +kernel)) rfl), (ze_mem (List.mem_of_getElem? (i := 618) (by decide +kernel)) rfl), (ze_mem (List.mem_of_getElem? (i := 19) (by decide +kernel)) rfl), (ze_mem (List.mem_of_getElem? (i := 68) (by decide +kernel)) rfl), (ze_mem (List.mem_of_getElem? (i := 619) rfl) rfl)⟩, by decide +kernel, ct_E, 16, rfl⟩
set_option maxRecDepth 100000 in
theorem zc_E_239 : ze_CV cn_E 239 my_E_hold bc_E_hold 6 none 2 0 := ⟨⟨(ze_mem (List.mem_of_getElem? (i := 629) (by decide +kernel)) rfl), (ze_mem (List.mem_of_getElem? (i := 631) (by decide +kernel)) rfl), (ze_mem (List.mem_of_getElem? (i := 20) (by decide +kernel)) rfl), (ze_mem (List.mem_of_getElem? (i := 68) (by decide +kernel)) rfl), (ze_mem (List.mem_of_getElem? (i := 632) rfl) rfl)⟩, by decide +kernel, ct_E, 16, rfl⟩
set_option maxRecDepth 100000 in
theorem zc_E_230 : ze_CV cn_E 230 my_E_runParts bc_E_runParts 8 none 3 0 := ⟨⟨(ze_mem (List.mem_of_getElem? (i := 604) (by decide +kernel)) rfl), (ze_mem (List.mem_of_getElem? (i := 606) (by decide +kernel)) rfl), (ze_mem (List.mem_of_getElem? (i := 17) (by decide +kernel)) rfl), (ze_mem (List.mem_of_getElem? (i := 68) (by decide +kernel)) rfl), (ze_mem (List.mem_of_getElem? (i := 607) rfl) rfl)⟩, by decide +kernel, ct_E, 16, rfl⟩
set_option maxRecDepth 100000 in
theorem zf_E_122 : ze_F cn_E 122 0 12 := ⟨cn_E, ct_E, 16, rfl, ci_E, by decide, (ze_mem (List.mem_of_getElem? (i := 324) (by decide +kernel)) rfl)⟩
set_option maxRecDepth 100000 in
theorem zp_E_122 : ze_Fp cn_E 122 0 12 := ⟨cn_E, ct_E, 16, cy_E, rfl, ci_E, by decide, (ze_mem (List.mem_of_getElem? (i := 324) (by decide +kernel)) rfl), co_E, ce_E, rfl, rfl⟩
set_option maxRecDepth 100000 in
theorem zc_E_215 : ze_CV cn_E 215 my_E_attempt bc_E_attempt 5 (some .int) 3 0 := ⟨⟨(ze_mem (List.mem_of_getElem? (i := 592) (by decide +kernel)) rfl), (ze_mem (List.mem_of_getElem? (i := 594) (by decide +kernel)) rfl), (ze_mem (List.mem_of_getElem? (i := 16) (by decide +kernel)) rfl), (ze_mem (List.mem_of_getElem? (i := 68) (by decide +kernel)) rfl), (ze_mem (List.mem_of_getElem? (i := 595) rfl) rfl)⟩, by decide +kernel, ct_E, 16, rfl⟩
set_option maxRecDepth 100000 in
theorem zc_E_219 : ze_CV cn_E 219 my_E_isRedelivered bc_E_isRedelivered 6 (some .boolean) 3 0 := ⟨⟨(ze_mem (List.mem_of_getElem? (i := 676) (by decide +kernel)) rfl), (ze_mem (List.mem_of_getElem? (i := 678) (by decide +kernel)) rfl), (ze_mem (List.mem_of_getElem? (i := 26) (by decide +kernel)) rfl), (ze_mem (List.mem_of_getElem? (i := 68) (by decide +kernel)) rfl), (ze_mem (List.mem_of_getElem? (i := 679) rfl) rfl)⟩, by decide +kernel, ct_E, 16, rfl⟩
set_option maxRecDepth 100000 in
theorem zc_E_206 : ze_CV cn_E 206 my_P_isStep bc_P_isStep 2 (some .boolean) 1 1 := ⟨⟨(ze_mem (List.mem_of_getElem? (i := 583) (by decide +kernel)) rfl), (ze_mem (List.mem_of_getElem? (i := 584) (by decide +kernel)) rfl), (ze_mem (List.mem_of_getElem? (i := 585) (by decide +kernel)) rfl), (ze_mem (List.mem_of_getElem? (i := 69) (by decide +kernel)) rfl), (ze_mem (List.mem_of_getElem? (i := 586) rfl) rfl)⟩, by decide +kernel, ct_P, 6, rfl⟩
set_option maxRecDepth 100000 in
theorem zc_E_209 : ze_CV cn_E 209 my_E_runStep bc_E_runStep 6 none 3 0 := ⟨⟨(ze_mem (List.mem_of_getElem? (i := 588) (by decide +kernel)) rfl), (ze_mem (List.mem_of_getElem? (i := 590) (by decide +kernel)) rfl), (ze_mem (List.mem_of_getElem? (i := 15) (by decide +kernel)) rfl), (ze_mem (List.mem_of_getElem? (i := 68) (by decide +kernel)) rfl), (ze_mem (List.mem_of_getElem? (i := 591) rfl) rfl)⟩, by decide +kernel, ct_E, 16, rfl⟩
set_option maxRecDepth 100000 in
theorem zs_JS_38 : Cond.fieldLink cn_JS 38 "java/lang/String" "COMPACT_STRINGS" "Z" ∈ ze_tbl := (ze_mem (List.mem_of_getElem? (i := 417) (by decide +kernel)) rfl)
set_option maxRecDepth 100000 in
theorem zs_JS_15 : Cond.fieldLink cn_JS 15 "java/lang/String" "coder" "B" ∈ ze_tbl := (ze_mem (List.mem_of_getElem? (i := 1138) (by decide +kernel)) rfl)
set_option maxRecDepth 100000 in
theorem zs_JS_9 : Cond.fieldLink cn_JS 9 "java/lang/String" "value" "[B" ∈ ze_tbl := (ze_mem (List.mem_of_getElem? (i := 1139) (by decide +kernel)) rfl)
set_option maxRecDepth 100000 in
theorem zc_JS_335 : ze_CK cn_JS 335 my_JS_coder bc_JS_coder 1 (some .byte) 0 := ⟨⟨(ze_mem (List.mem_of_getElem? (i := 423) (by decide +kernel)) rfl), (ze_mem (List.mem_of_getElem? (i := 424) (by decide +kernel)) rfl), (ze_mem (List.mem_of_getElem? (i := 425) (by decide +kernel)) rfl), (ze_mem (List.mem_of_getElem? (i := 79) (by decide +kernel)) rfl), (ze_mem (List.mem_of_getElem? (i := 426) rfl) rfl)⟩, by decide +kernel⟩
set_option maxRecDepth 100000 in
theorem zc_JL_88 : ze_CS cn_JL 88 my_JL_canEncode bc_JL_canEncode 1 (some .boolean) 1 := ⟨⟨(ze_mem (List.mem_of_getElem? (i := 430) (by decide +kernel)) rfl), (ze_mem (List.mem_of_getElem? (i := 431) (by decide +kernel)) rfl), (ze_mem (List.mem_of_getElem? (i := 80) (by decide +kernel)) rfl), (ze_mem (List.mem_of_getElem? (i := 432) rfl) rfl)⟩, by decide +kernel⟩
set_option maxRecDepth 100000 in
theorem zm_JL_92 : ze_CM cn_JL 92 Lib.Math.max.name Lib.Math.max.code := ⟨(ze_mem (List.mem_of_getElem? (i := 433) (by decide +kernel)) rfl), (ze_mem (List.mem_of_getElem? (i := 214) (by decide +kernel)) rfl), (ze_mem (List.mem_of_getElem? (i := 74) (by decide +kernel)) rfl), ze_mem (List.mem_of_getElem? (i := 215) rfl) rfl⟩
set_option maxRecDepth 100000 in
theorem zm_JL_38 : ze_CM cn_JL 38 Lib.Math.min.name Lib.Math.min.code := ⟨(ze_mem (List.mem_of_getElem? (i := 434) (by decide +kernel)) rfl), (ze_mem (List.mem_of_getElem? (i := 435) (by decide +kernel)) rfl), (ze_mem (List.mem_of_getElem? (i := 74) (by decide +kernel)) rfl), ze_mem (List.mem_of_getElem? (i := 436) rfl) rfl⟩
set_option maxRecDepth 100000 in
theorem zc_JL_95 : ze_CS cn_JL 95 my_JL_indexOfChar bc_JL_indexOfChar 6 (some .int) 4 := ⟨⟨(ze_mem (List.mem_of_getElem? (i := 437) (by decide +kernel)) rfl), (ze_mem (List.mem_of_getElem? (i := 438) (by decide +kernel)) rfl), (ze_mem (List.mem_of_getElem? (i := 80) (by decide +kernel)) rfl), (ze_mem (List.mem_of_getElem? (i := 439) rfl) rfl)⟩, by decide +kernel⟩
set_option maxRecDepth 100000 in
theorem zc_JS_492 : ze_CK cn_JS 492 my_JS_isLatin1 bc_JS_isLatin1 1 (some .boolean) 0 := ⟨⟨(ze_mem (List.mem_of_getElem? (i := 413) (by decide +kernel)) rfl), (ze_mem (List.mem_of_getElem? (i := 414) (by decide +kernel)) rfl), (ze_mem (List.mem_of_getElem? (i := 415) (by decide +kernel)) rfl), (ze_mem (List.mem_of_getElem? (i := 79) (by decide +kernel)) rfl), (ze_mem (List.mem_of_getElem? (i := 416) rfl) rfl)⟩, by decide +kernel⟩
set_option maxRecDepth 100000 in
theorem zc_JS_505 : ze_CK cn_JS 505 my_JS_length bc_JS_length 1 (some .int) 0 := ⟨⟨(ze_mem (List.mem_of_getElem? (i := 419) (by decide +kernel)) rfl), (ze_mem (List.mem_of_getElem? (i := 420) (by decide +kernel)) rfl), (ze_mem (List.mem_of_getElem? (i := 421) (by decide +kernel)) rfl), (ze_mem (List.mem_of_getElem? (i := 79) (by decide +kernel)) rfl), (ze_mem (List.mem_of_getElem? (i := 422) rfl) rfl)⟩, by decide +kernel⟩
set_option maxRecDepth 100000 in
theorem zc_JS_637 : ze_CS cn_JS 637 my_JL_indexOf bc_JL_indexOf 4 (some .int) 4 := ⟨⟨(ze_mem (List.mem_of_getElem? (i := 427) (by decide +kernel)) rfl), (ze_mem (List.mem_of_getElem? (i := 428) (by decide +kernel)) rfl), (ze_mem (List.mem_of_getElem? (i := 80) (by decide +kernel)) rfl), (ze_mem (List.mem_of_getElem? (i := 429) rfl) rfl)⟩, by decide +kernel⟩
set_option maxRecDepth 100000 in
theorem zc_JS_633 : ze_CK cn_JS 633 my_JS_indexOf1 bc_JS_indexOf1 3 (some .int) 2 := ⟨⟨(ze_mem (List.mem_of_getElem? (i := 409) (by decide +kernel)) rfl), (ze_mem (List.mem_of_getElem? (i := 410) (by decide +kernel)) rfl), (ze_mem (List.mem_of_getElem? (i := 411) (by decide +kernel)) rfl), (ze_mem (List.mem_of_getElem? (i := 79) (by decide +kernel)) rfl), (ze_mem (List.mem_of_getElem? (i := 412) rfl) rfl)⟩, by decide +kernel⟩
set_option maxRecDepth 100000 in
theorem zp_R_15 : ze_Fp cn_R 15 2 3 := ⟨cn_R, ct_R, 4, cy_R, rfl, ci_R, by decide, (ze_mem (List.mem_of_getElem? (i := 140) (by decide +kernel)) rfl), co_R, ce_R, rfl, rfl⟩
set_option maxRecDepth 100000 in
theorem zf_R_15 : ze_F cn_R 15 2 3 := ⟨cn_R, ct_R, 4, rfl, ci_R, by decide, (ze_mem (List.mem_of_getElem? (i := 140) (by decide +kernel)) rfl)⟩
set_option maxRecDepth 100000 in
theorem zf_R_22 : ze_F cn_R 22 2 2 := ⟨cn_R, ct_R, 4, rfl, ci_R, by decide, (ze_mem (List.mem_of_getElem? (i := 139) (by decide +kernel)) rfl)⟩
set_option maxRecDepth 100000 in
theorem zf_R_9 : ze_F cn_R 9 2 0 := ⟨cn_R, ct_R, 4, rfl, ci_R, by decide, (ze_mem (List.mem_of_getElem? (i := 137) (by decide +kernel)) rfl)⟩
set_option maxRecDepth 100000 in
theorem zc_R_29 : ze_CV cn_R 29 my_P_at bc_P_at 2 (some .char) 1 1 := ⟨⟨(ze_mem (List.mem_of_getElem? (i := 384) (by decide +kernel)) rfl), (ze_mem (List.mem_of_getElem? (i := 385) (by decide +kernel)) rfl), (ze_mem (List.mem_of_getElem? (i := 386) (by decide +kernel)) rfl), (ze_mem (List.mem_of_getElem? (i := 69) (by decide +kernel)) rfl), (ze_mem (List.mem_of_getElem? (i := 387) rfl) rfl)⟩, by decide +kernel, ct_P, 6, rfl⟩
set_option maxRecDepth 100000 in
theorem zp_R_22 : ze_Fp cn_R 22 2 2 := ⟨cn_R, ct_R, 4, cy_R, rfl, ci_R, by decide, (ze_mem (List.mem_of_getElem? (i := 139) (by decide +kernel)) rfl), co_R, ce_R, rfl, rfl⟩
set_option maxRecDepth 100000 in
theorem zc_R_66 : ze_CK cn_R 66 my_JS_indexOf0 bc_JS_indexOf0 2 (some .int) 1 := ⟨⟨(ze_mem (List.mem_of_getElem? (i := 405) (by decide +kernel)) rfl), (ze_mem (List.mem_of_getElem? (i := 406) (by decide +kernel)) rfl), (ze_mem (List.mem_of_getElem? (i := 407) (by decide +kernel)) rfl), (ze_mem (List.mem_of_getElem? (i := 79) (by decide +kernel)) rfl), (ze_mem (List.mem_of_getElem? (i := 408) rfl) rfl)⟩, by decide +kernel⟩
set_option maxRecDepth 100000 in
theorem zc_R_74 : ze_CV cn_R 74 my_R_readOneOf bc_R_readOneOf 2 none 1 2 := ⟨⟨(ze_mem (List.mem_of_getElem? (i := 401) (by decide +kernel)) rfl), (ze_mem (List.mem_of_getElem? (i := 403) (by decide +kernel)) rfl), (ze_mem (List.mem_of_getElem? (i := 4) (by decide +kernel)) rfl), (ze_mem (List.mem_of_getElem? (i := 70) (by decide +kernel)) rfl), (ze_mem (List.mem_of_getElem? (i := 404) rfl) rfl)⟩, by decide +kernel, ct_R, 4, rfl⟩
set_option maxRecDepth 100000 in
theorem zf_R_39 : ze_F cn_R 39 1 1 := ⟨cn_P, ct_P, 6, rfl, ci_P, by decide, (ze_mem (List.mem_of_getElem? (i := 103) (by decide +kernel)) rfl)⟩
set_option maxRecDepth 100000 in
theorem zc_R_43 : ze_CV cn_R 43 my_R_readNumber bc_R_readNumber 9 none 4 2 := ⟨⟨(ze_mem (List.mem_of_getElem? (i := 392) (by decide +kernel)) rfl), (ze_mem (List.mem_of_getElem? (i := 394) (by decide +kernel)) rfl), (ze_mem (List.mem_of_getElem? (i := 2) (by decide +kernel)) rfl), (ze_mem (List.mem_of_getElem? (i := 70) (by decide +kernel)) rfl), (ze_mem (List.mem_of_getElem? (i := 395) rfl) rfl)⟩, by decide +kernel, ct_R, 4, rfl⟩
set_option maxRecDepth 100000 in
theorem zc_R_91 : ze_CV cn_R 91 my_R_refuseInner bc_R_refuseInner 3 none 2 2 := ⟨⟨(ze_mem (List.mem_of_getElem? (i := 507) (by decide +kernel)) rfl), (ze_mem (List.mem_of_getElem? (i := 509) (by decide +kernel)) rfl), (ze_mem (List.mem_of_getElem? (i := 9) (by decide +kernel)) rfl), (ze_mem (List.mem_of_getElem? (i := 70) (by decide +kernel)) rfl), (ze_mem (List.mem_of_getElem? (i := 510) rfl) rfl)⟩, by decide +kernel, ct_R, 4, rfl⟩
set_option maxRecDepth 100000 in
theorem zf_R_96 : ze_F cn_R 96 1 2 := ⟨cn_P, ct_P, 6, rfl, ci_P, by decide, (ze_mem (List.mem_of_getElem? (i := 106) (by decide +kernel)) rfl)⟩
set_option maxRecDepth 100000 in
theorem zc_R_25 : ze_CV cn_R 25 my_R_readList bc_R_readList 4 none 1 2 := ⟨⟨(ze_mem (List.mem_of_getElem? (i := 380) (by decide +kernel)) rfl), (ze_mem (List.mem_of_getElem? (i := 382) (by decide +kernel)) rfl), (ze_mem (List.mem_of_getElem? (i := 0) (by decide +kernel)) rfl), (ze_mem (List.mem_of_getElem? (i := 70) (by decide +kernel)) rfl), (ze_mem (List.mem_of_getElem? (i := 383) rfl) rfl)⟩, by decide +kernel, ct_R, 4, rfl⟩
set_option maxRecDepth 100000 in
theorem zc_R_47 : ze_CV cn_R 47 my_R_readTest bc_R_readTest 3 none 1 2 := ⟨⟨(ze_mem (List.mem_of_getElem? (i := 396) (by decide +kernel)) rfl), (ze_mem (List.mem_of_getElem? (i := 398) (by decide +kernel)) rfl), (ze_mem (List.mem_of_getElem? (i := 3) (by decide +kernel)) rfl), (ze_mem (List.mem_of_getElem? (i := 70) (by decide +kernel)) rfl), (ze_mem (List.mem_of_getElem? (i := 399) rfl) rfl)⟩, by decide +kernel, ct_R, 4, rfl⟩
set_option maxRecDepth 100000 in
theorem zf_R_82 : ze_F cn_R 82 1 3 := ⟨cn_P, ct_P, 6, rfl, ci_P, by decide, (ze_mem (List.mem_of_getElem? (i := 109) (by decide +kernel)) rfl)⟩
set_option maxRecDepth 100000 in
theorem zc_R_85 : ze_CV cn_R 85 my_R_readInner bc_R_readInner 3 (some .int) 1 2 := ⟨⟨(ze_mem (List.mem_of_getElem? (i := 494) (by decide +kernel)) rfl), (ze_mem (List.mem_of_getElem? (i := 496) (by decide +kernel)) rfl), (ze_mem (List.mem_of_getElem? (i := 6) (by decide +kernel)) rfl), (ze_mem (List.mem_of_getElem? (i := 70) (by decide +kernel)) rfl), (ze_mem (List.mem_of_getElem? (i := 497) rfl) rfl)⟩, by decide +kernel, ct_R, 4, rfl⟩
set_option maxRecDepth 100000 in
theorem zf_R_88 : ze_F cn_R 88 1 4 := ⟨cn_P, ct_P, 6, rfl, ci_P, by decide, (ze_mem (List.mem_of_getElem? (i := 112) (by decide +kernel)) rfl)⟩
set_option maxRecDepth 100000 in
theorem zf_R_63 : ze_F cn_R 63 1 5 := ⟨cn_P, ct_P, 6, rfl, ci_P, by decide, (ze_mem (List.mem_of_getElem? (i := 114) (by decide +kernel)) rfl)⟩
set_option maxRecDepth 100000 in
theorem zf_R_19 : ze_F cn_R 19 2 1 := ⟨cn_R, ct_R, 4, rfl, ci_R, by decide, (ze_mem (List.mem_of_getElem? (i := 138) (by decide +kernel)) rfl)⟩
set_option maxRecDepth 100000 in
theorem zc_R_50 : ze_CV cn_R 50 my_R_readChoice bc_R_readChoice 3 none 2 2 := ⟨⟨(ze_mem (List.mem_of_getElem? (i := 490) (by decide +kernel)) rfl), (ze_mem (List.mem_of_getElem? (i := 492) (by decide +kernel)) rfl), (ze_mem (List.mem_of_getElem? (i := 5) (by decide +kernel)) rfl), (ze_mem (List.mem_of_getElem? (i := 70) (by decide +kernel)) rfl), (ze_mem (List.mem_of_getElem? (i := 493) rfl) rfl)⟩, by decide +kernel, ct_R, 4, rfl⟩
set_option maxRecDepth 100000 in
theorem zc_R_57 : ze_CV cn_R 57 my_R_readGathering bc_R_readGathering 3 none 2 2 := ⟨⟨(ze_mem (List.mem_of_getElem? (i := 503) (by decide +kernel)) rfl), (ze_mem (List.mem_of_getElem? (i := 505) (by decide +kernel)) rfl), (ze_mem (List.mem_of_getElem? (i := 8) (by decide +kernel)) rfl), (ze_mem (List.mem_of_getElem? (i := 70) (by decide +kernel)) rfl), (ze_mem (List.mem_of_getElem? (i := 506) rfl) rfl)⟩, by decide +kernel, ct_R, 4, rfl⟩
set_option maxRecDepth 100000 in
theorem zc_R_60 : ze_CV cn_R 60 my_R_readOrdering bc_R_readOrdering 3 none 2 2 := ⟨⟨(ze_mem (List.mem_of_getElem? (i := 512) (by decide +kernel)) rfl), (ze_mem (List.mem_of_getElem? (i := 514) (by decide +kernel)) rfl), (ze_mem (List.mem_of_getElem? (i := 10) (by decide +kernel)) rfl), (ze_mem (List.mem_of_getElem? (i := 70) (by decide +kernel)) rfl), (ze_mem (List.mem_of_getElem? (i := 515) rfl) rfl)⟩, by decide +kernel, ct_R, 4, rfl⟩
set_option maxRecDepth 100000 in
theorem zc_R_54 : ze_CV cn_R 54 my_R_readSplit bc_R_readSplit 3 none 2 2 := ⟨⟨(ze_mem (List.mem_of_getElem? (i := 499) (by decide +kernel)) rfl), (ze_mem (List.mem_of_getElem? (i := 501) (by decide +kernel)) rfl), (ze_mem (List.mem_of_getElem? (i := 7) (by decide +kernel)) rfl), (ze_mem (List.mem_of_getElem? (i := 70) (by decide +kernel)) rfl), (ze_mem (List.mem_of_getElem? (i := 502) rfl) rfl)⟩, by decide +kernel, ct_R, 4, rfl⟩
set_option maxRecDepth 100000 in
theorem zc_R_35 : ze_CV cn_R 35 my_R_readStep bc_R_readStep 4 none 2 2 := ⟨⟨(ze_mem (List.mem_of_getElem? (i := 388) (by decide +kernel)) rfl), (ze_mem (List.mem_of_getElem? (i := 390) (by decide +kernel)) rfl), (ze_mem (List.mem_of_getElem? (i := 1) (by decide +kernel)) rfl), (ze_mem (List.mem_of_getElem? (i := 70) (by decide +kernel)) rfl), (ze_mem (List.mem_of_getElem? (i := 391) rfl) rfl)⟩, by decide +kernel, ct_R, 4, rfl⟩
set_option maxRecDepth 100000 in
theorem zp_R_19 : ze_Fp cn_R 19 2 1 := ⟨cn_R, ct_R, 4, cy_R, rfl, ci_R, by decide, (ze_mem (List.mem_of_getElem? (i := 138) (by decide +kernel)) rfl), co_R, ce_R, rfl, rfl⟩
set_option maxRecDepth 100000 in
theorem zf_E_28 : ze_F cn_E 28 0 3 := ⟨cn_E, ct_E, 16, rfl, ci_E, by decide, (ze_mem (List.mem_of_getElem? (i := 315) (by decide +kernel)) rfl)⟩
set_option maxRecDepth 100000 in
theorem zc_E_90 : ze_CV cn_E 90 my_R_firstError bc_R_firstError 2 (some .int) 1 2 := ⟨⟨(ze_mem (List.mem_of_getElem? (i := 376) (by decide +kernel)) rfl), (ze_mem (List.mem_of_getElem? (i := 377) (by decide +kernel)) rfl), (ze_mem (List.mem_of_getElem? (i := 378) (by decide +kernel)) rfl), (ze_mem (List.mem_of_getElem? (i := 70) (by decide +kernel)) rfl), (ze_mem (List.mem_of_getElem? (i := 379) rfl) rfl)⟩, by decide +kernel, ct_R, 4, rfl⟩
set_option maxRecDepth 100000 in
theorem zc_E_94 : ze_CV cn_E 94 my_P_copyFrom bc_P_copyFrom 2 none 1 1 := ⟨⟨(ze_mem (List.mem_of_getElem? (i := 516) (by decide +kernel)) rfl), (ze_mem (List.mem_of_getElem? (i := 517) (by decide +kernel)) rfl), (ze_mem (List.mem_of_getElem? (i := 518) (by decide +kernel)) rfl), (ze_mem (List.mem_of_getElem? (i := 69) (by decide +kernel)) rfl), (ze_mem (List.mem_of_getElem? (i := 519) rfl) rfl)⟩, by decide +kernel, ct_P, 6, rfl⟩
set_option maxRecDepth 100000 in
theorem zc_E_97 : ze_CV cn_E 97 my_L_empty bc_L_empty 1 none 0 5 := ⟨⟨(ze_mem (List.mem_of_getElem? (i := 523) (by decide +kernel)) rfl), (ze_mem (List.mem_of_getElem? (i := 524) (by decide +kernel)) rfl), (ze_mem (List.mem_of_getElem? (i := 525) (by decide +kernel)) rfl), (ze_mem (List.mem_of_getElem? (i := 73) (by decide +kernel)) rfl), (ze_mem (List.mem_of_getElem? (i := 526) rfl) rfl)⟩, by decide +kernel, ct_L, 6, rfl⟩
set_option maxRecDepth 100000 in
theorem zp_E_100 : ze_Fp cn_E 100 6 5 := ⟨cn_G, ct_G, 6, cy_G, rfl, ci_G, by decide, (ze_mem (List.mem_of_getElem? (i := 257) (by decide +kernel)) rfl), co_G, ce_G, rfl, rfl⟩
set_option maxRecDepth 100000 in
theorem zc_E_104 : ze_CV cn_E 104 my_K_empty bc_K_empty 1 none 0 7 := ⟨⟨(ze_mem (List.mem_of_getElem? (i := 527) (by decide +kernel)) rfl), (ze_mem (List.mem_of_getElem? (i := 528) (by decide +kernel)) rfl), (ze_mem (List.mem_of_getElem? (i := 529) (by decide +kernel)) rfl), (ze_mem (List.mem_of_getElem? (i := 76) (by decide +kernel)) rfl), (ze_mem (List.mem_of_getElem? (i := 530) rfl) rfl)⟩, by decide +kernel, ct_K, 3, rfl⟩
set_option maxRecDepth 100000 in
theorem zf_E_133 : ze_F cn_E 133 5 4 := ⟨cn_L, ct_L, 6, rfl, ci_L, by decide, (ze_mem (List.mem_of_getElem? (i := 224) (by decide +kernel)) rfl)⟩
set_option maxRecDepth 100000 in
theorem zf_E_136 : ze_F cn_E 136 5 1 := ⟨cn_L, ct_L, 6, rfl, ci_L, by decide, (ze_mem (List.mem_of_getElem? (i := 218) (by decide +kernel)) rfl)⟩
set_option maxRecDepth 100000 in
theorem zf_E_139 : ze_F cn_E 139 5 2 := ⟨cn_L, ct_L, 6, rfl, ci_L, by decide, (ze_mem (List.mem_of_getElem? (i := 220) (by decide +kernel)) rfl)⟩
set_option maxRecDepth 100000 in
theorem zf_E_142 : ze_F cn_E 142 5 3 := ⟨cn_L, ct_L, 6, rfl, ci_L, by decide, (ze_mem (List.mem_of_getElem? (i := 222) (by decide +kernel)) rfl)⟩
set_option maxRecDepth 100000 in
theorem zc_E_145 : ze_CV cn_E 145 my_L_dropFirst bc_L_dropFirst 1 none 0 5 := ⟨⟨(ze_mem (List.mem_of_getElem? (i := 571) (by decide +kernel)) rfl), (ze_mem (List.mem_of_getElem? (i := 572) (by decide +kernel)) rfl), (ze_mem (List.mem_of_getElem? (i := 573) (by decide +kernel)) rfl), (ze_mem (List.mem_of_getElem? (i := 73) (by decide +kernel)) rfl), (ze_mem (List.mem_of_getElem? (i := 574) rfl) rfl)⟩, by decide +kernel, ct_L, 6, rfl⟩
set_option maxRecDepth 100000 in
theorem zc_E_128 : ze_CV cn_E 128 my_E_runReady bc_E_runReady 6 (some .int) 0 0 := ⟨⟨(ze_mem (List.mem_of_getElem? (i := 562) (by decide +kernel)) rfl), (ze_mem (List.mem_of_getElem? (i := 564) (by decide +kernel)) rfl), (ze_mem (List.mem_of_getElem? (i := 11) (by decide +kernel)) rfl), (ze_mem (List.mem_of_getElem? (i := 68) (by decide +kernel)) rfl), (ze_mem (List.mem_of_getElem? (i := 565) rfl) rfl)⟩, by decide +kernel, ct_E, 16, rfl⟩
set_option maxRecDepth 100000 in
theorem zc_E_151 : ze_CV cn_E 151 my_G_firstDue bc_G_firstDue 3 (some .int) 1 6 := ⟨⟨(ze_mem (List.mem_of_getElem? (i := 693) (by decide +kernel)) rfl), (ze_mem (List.mem_of_getElem? (i := 694) (by decide +kernel)) rfl), (ze_mem (List.mem_of_getElem? (i := 695) (by decide +kernel)) rfl), (ze_mem (List.mem_of_getElem? (i := 75) (by decide +kernel)) rfl), (ze_mem (List.mem_of_getElem? (i := 696) rfl) rfl)⟩, by decide +kernel, ct_G, 6, rfl⟩
set_option maxRecDepth 100000 in
theorem zc_M_144 : ze_CS cn_M 144 my_M_outside bc_M_outside 3 (some .boolean) 3 := ⟨⟨(ze_mem (List.mem_of_getElem? (i := 919) (by decide +kernel)) rfl), (ze_mem (List.mem_of_getElem? (i := 920) (by decide +kernel)) rfl), (ze_mem (List.mem_of_getElem? (i := 78) (by decide +kernel)) rfl), (ze_mem (List.mem_of_getElem? (i := 921) rfl) rfl)⟩, by decide +kernel⟩
set_option maxRecDepth 100000 in
theorem zf_M_13 : ze_F cn_M 13 9 1 := ⟨cn_M, ct_M, 61, rfl, ci_M, by decide, (ze_mem (List.mem_of_getElem? (i := 732) (by decide +kernel)) rfl)⟩
set_option maxRecDepth 100000 in
theorem zf_M_7 : ze_F cn_M 7 9 0 := ⟨cn_M, ct_M, 61, rfl, ci_M, by decide, (ze_mem (List.mem_of_getElem? (i := 731) (by decide +kernel)) rfl)⟩
set_option maxRecDepth 100000 in
theorem zf_M_148 : ze_F cn_M 148 9 6 := ⟨cn_M, ct_M, 61, rfl, ci_M, by decide, (ze_mem (List.mem_of_getElem? (i := 737) (by decide +kernel)) rfl)⟩
set_option maxRecDepth 100000 in
theorem zp_M_148 : ze_Fp cn_M 148 9 6 := ⟨cn_M, ct_M, 61, cy_M, rfl, ci_M, by decide, (ze_mem (List.mem_of_getElem? (i := 737) (by decide +kernel)) rfl), co_M, ce_M, rfl, rfl⟩
set_option maxRecDepth 100000 in
theorem zc_M_152 : ze_CV cn_M 152 my_M_look bc_M_look 3 (some .char) 2 9 := ⟨⟨(ze_mem (List.mem_of_getElem? (i := 934) (by decide +kernel)) rfl), (ze_mem (List.mem_of_getElem? (i := 936) (by decide +kernel)) rfl), (ze_mem (List.mem_of_getElem? (i := 29) (by decide +kernel)) rfl), (ze_mem (List.mem_of_getElem? (i := 78) (by decide +kernel)) rfl), (ze_mem (List.mem_of_getElem? (i := 937) rfl) rfl)⟩, by decide +kernel, ct_M, 61, rfl⟩
set_option maxRecDepth 100000 in
theorem zc_M_156 : ze_CS cn_M 156 my_M_digit bc_M_digit 1 (some .boolean) 1 := ⟨⟨(ze_mem (List.mem_of_getElem? (i := 958) (by decide +kernel)) rfl), (ze_mem (List.mem_of_getElem? (i := 959) (by decide +kernel)) rfl), (ze_mem (List.mem_of_getElem? (i := 78) (by decide +kernel)) rfl), (ze_mem (List.mem_of_getElem? (i := 960) rfl) rfl)⟩, by decide +kernel⟩
set_option maxRecDepth 100000 in
theorem zc_M_160 : ze_CV cn_M 160 my_M_must bc_M_must 4 (some .boolean) 3 9 := ⟨⟨(ze_mem (List.mem_of_getElem? (i := 942) (by decide +kernel)) rfl), (ze_mem (List.mem_of_getElem? (i := 944) (by decide +kernel)) rfl), (ze_mem (List.mem_of_getElem? (i := 31) (by decide +kernel)) rfl), (ze_mem (List.mem_of_getElem? (i := 78) (by decide +kernel)) rfl), (ze_mem (List.mem_of_getElem? (i := 945) rfl) rfl)⟩, by decide +kernel, ct_M, 61, rfl⟩
set_option maxRecDepth 100000 in
theorem zc_M_164 : ze_CV cn_M 164 my_M_number bc_M_number 7 (some .int) 4 9 := ⟨⟨(ze_mem (List.mem_of_getElem? (i := 954) (by decide +kernel)) rfl), (ze_mem (List.mem_of_getElem? (i := 956) (by decide +kernel)) rfl), (ze_mem (List.mem_of_getElem? (i := 34) (by decide +kernel)) rfl), (ze_mem (List.mem_of_getElem? (i := 78) (by decide +kernel)) rfl), (ze_mem (List.mem_of_getElem? (i := 957) rfl) rfl)⟩, by decide +kernel, ct_M, 61, rfl⟩
set_option maxRecDepth 100000 in
theorem zf_M_168 : ze_F cn_M 168 9 5 := ⟨cn_M, ct_M, 61, rfl, ci_M, by decide, (ze_mem (List.mem_of_getElem? (i := 736) (by decide +kernel)) rfl)⟩
set_option maxRecDepth 100000 in
theorem zf_M_23 : ze_F cn_M 23 9 4 := ⟨cn_M, ct_M, 61, rfl, ci_M, by decide, (ze_mem (List.mem_of_getElem? (i := 735) (by decide +kernel)) rfl)⟩
set_option maxRecDepth 100000 in
theorem zp_M_168 : ze_Fp cn_M 168 9 5 := ⟨cn_M, ct_M, 61, cy_M, rfl, ci_M, by decide, (ze_mem (List.mem_of_getElem? (i := 736) (by decide +kernel)) rfl), co_M, ce_M, rfl, rfl⟩
set_option maxRecDepth 100000 in
theorem zc_M_171 : ze_CV cn_M 171 my_M_enter bc_M_enter 4 (some .int) 3 9 := ⟨⟨(ze_mem (List.mem_of_getElem? (i := 946) (by decide +kernel)) rfl), (ze_mem (List.mem_of_getElem? (i := 948) (by decide +kernel)) rfl), (ze_mem (List.mem_of_getElem? (i := 32) (by decide +kernel)) rfl), (ze_mem (List.mem_of_getElem? (i := 78) (by decide +kernel)) rfl), (ze_mem (List.mem_of_getElem? (i := 949) rfl) rfl)⟩, by decide +kernel, ct_M, 61, rfl⟩
set_option maxRecDepth 100000 in
theorem zc_M_175 : ze_CV cn_M 175 my_M_test bc_M_test 5 (some .int) 2 9 := ⟨⟨(ze_mem (List.mem_of_getElem? (i := 961) (by decide +kernel)) rfl), (ze_mem (List.mem_of_getElem? (i := 963) (by decide +kernel)) rfl), (ze_mem (List.mem_of_getElem? (i := 35) (by decide +kernel)) rfl), (ze_mem (List.mem_of_getElem? (i := 78) (by decide +kernel)) rfl), (ze_mem (List.mem_of_getElem? (i := 964) rfl) rfl)⟩, by decide +kernel, ct_M, 61, rfl⟩
set_option maxRecDepth 100000 in
theorem zc_M_179 : ze_CV cn_M 179 my_M_leave bc_M_leave 4 (some .int) 2 9 := ⟨⟨(ze_mem (List.mem_of_getElem? (i := 938) (by decide +kernel)) rfl), (ze_mem (List.mem_of_getElem? (i := 940) (by decide +kernel)) rfl), (ze_mem (List.mem_of_getElem? (i := 30) (by decide +kernel)) rfl), (ze_mem (List.mem_of_getElem? (i := 78) (by decide +kernel)) rfl), (ze_mem (List.mem_of_getElem? (i := 941) rfl) rfl)⟩, by decide +kernel, ct_M, 61, rfl⟩
set_option maxRecDepth 100000 in
theorem zc_M_182 : ze_CV cn_M 182 my_M_stepAt bc_M_stepAt 5 (some .int) 2 9 := ⟨⟨(ze_mem (List.mem_of_getElem? (i := 950) (by decide +kernel)) rfl), (ze_mem (List.mem_of_getElem? (i := 952) (by decide +kernel)) rfl), (ze_mem (List.mem_of_getElem? (i := 33) (by decide +kernel)) rfl), (ze_mem (List.mem_of_getElem? (i := 78) (by decide +kernel)) rfl), (ze_mem (List.mem_of_getElem? (i := 953) rfl) rfl)⟩, by decide +kernel, ct_M, 61, rfl⟩
set_option maxRecDepth 100000 in
theorem zc_M_185 : ze_CV cn_M 185 my_M_errorOf bc_M_errorOf 3 (some .int) 1 9 := ⟨⟨(ze_mem (List.mem_of_getElem? (i := 930) (by decide +kernel)) rfl), (ze_mem (List.mem_of_getElem? (i := 932) (by decide +kernel)) rfl), (ze_mem (List.mem_of_getElem? (i := 28) (by decide +kernel)) rfl), (ze_mem (List.mem_of_getElem? (i := 78) (by decide +kernel)) rfl), (ze_mem (List.mem_of_getElem? (i := 933) rfl) rfl)⟩, by decide +kernel, ct_M, 61, rfl⟩
set_option maxRecDepth 100000 in
theorem zf_M_17 : ze_F cn_M 17 9 2 := ⟨cn_M, ct_M, 61, rfl, ci_M, by decide, (ze_mem (List.mem_of_getElem? (i := 733) (by decide +kernel)) rfl)⟩
set_option maxRecDepth 100000 in
theorem zf_M_96 : ze_F cn_M 96 9 34 := ⟨cn_M, ct_M, 61, rfl, ci_M, by decide, (ze_mem (List.mem_of_getElem? (i := 765) (by decide +kernel)) rfl)⟩
set_option maxRecDepth 100000 in
theorem zf_M_20 : ze_F cn_M 20 9 3 := ⟨cn_M, ct_M, 61, rfl, ci_M, by decide, (ze_mem (List.mem_of_getElem? (i := 734) (by decide +kernel)) rfl)⟩
set_option maxRecDepth 100000 in
theorem zp_M_189 : ze_Fp cn_M 189 9 18 := ⟨cn_M, ct_M, 61, cy_M, rfl, ci_M, by decide, (ze_mem (List.mem_of_getElem? (i := 749) (by decide +kernel)) rfl), co_M, ce_M, rfl, rfl⟩
set_option maxRecDepth 100000 in
theorem zp_M_192 : ze_Fp cn_M 192 9 22 := ⟨cn_M, ct_M, 61, cy_M, rfl, ci_M, by decide, (ze_mem (List.mem_of_getElem? (i := 753) (by decide +kernel)) rfl), co_M, ce_M, rfl, rfl⟩
set_option maxRecDepth 100000 in
theorem zp_M_195 : ze_Fp cn_M 195 9 29 := ⟨cn_M, ct_M, 61, cy_M, rfl, ci_M, by decide, (ze_mem (List.mem_of_getElem? (i := 760) (by decide +kernel)) rfl), co_M, ce_M, rfl, rfl⟩
set_option maxRecDepth 100000 in
theorem zf_M_198 : ze_F cn_M 198 9 7 := ⟨cn_M, ct_M, 61, rfl, ci_M, by decide, (ze_mem (List.mem_of_getElem? (i := 738) (by decide +kernel)) rfl)⟩
set_option maxRecDepth 100000 in
theorem zf_M_26 : ze_F cn_M 26 9 8 := ⟨cn_M, ct_M, 61, rfl, ci_M, by decide, (ze_mem (List.mem_of_getElem? (i := 739) (by decide +kernel)) rfl)⟩
set_option maxRecDepth 100000 in
theorem zf_M_29 : ze_F cn_M 29 9 9 := ⟨cn_M, ct_M, 61, rfl, ci_M, by decide, (ze_mem (List.mem_of_getElem? (i := 740) (by decide +kernel)) rfl)⟩
set_option maxRecDepth 100000 in
theorem zf_M_32 : ze_F cn_M 32 9 10 := ⟨cn_M, ct_M, 61, rfl, ci_M, by decide, (ze_mem (List.mem_of_getElem? (i := 741) (by decide +kernel)) rfl)⟩
set_option maxRecDepth 100000 in
theorem zf_M_35 : ze_F cn_M 35 9 11 := ⟨cn_M, ct_M, 61, rfl, ci_M, by decide, (ze_mem (List.mem_of_getElem? (i := 742) (by decide +kernel)) rfl)⟩
set_option maxRecDepth 100000 in
theorem zf_M_39 : ze_F cn_M 39 9 12 := ⟨cn_M, ct_M, 61, rfl, ci_M, by decide, (ze_mem (List.mem_of_getElem? (i := 743) (by decide +kernel)) rfl)⟩
set_option maxRecDepth 100000 in
theorem zp_M_198 : ze_Fp cn_M 198 9 7 := ⟨cn_M, ct_M, 61, cy_M, rfl, ci_M, by decide, (ze_mem (List.mem_of_getElem? (i := 738) (by decide +kernel)) rfl), co_M, ce_M, rfl, rfl⟩
set_option maxRecDepth 100000 in
theorem zf_M_42 : ze_F cn_M 42 9 13 := ⟨cn_M, ct_M, 61, rfl, ci_M, by decide, (ze_mem (List.mem_of_getElem? (i := 744) (by decide +kernel)) rfl)⟩
set_option maxRecDepth 100000 in
theorem zf_M_45 : ze_F cn_M 45 9 14 := ⟨cn_M, ct_M, 61, rfl, ci_M, by decide, (ze_mem (List.mem_of_getElem? (i := 745) (by decide +kernel)) rfl)⟩
set_option maxRecDepth 100000 in
theorem zf_M_201 : ze_F cn_M 201 9 53 := ⟨cn_M, ct_M, 61, rfl, ci_M, by decide, (ze_mem (List.mem_of_getElem? (i := 784) (by decide +kernel)) rfl)⟩
set_option maxRecDepth 100000 in
theorem zp_M_204 : ze_Fp cn_M 204 9 55 := ⟨cn_M, ct_M, 61, cy_M, rfl, ci_M, by decide, (ze_mem (List.mem_of_getElem? (i := 786) (by decide +kernel)) rfl), co_M, ce_M, rfl, rfl⟩
set_option maxRecDepth 100000 in
theorem zf_M_204 : ze_F cn_M 204 9 55 := ⟨cn_M, ct_M, 61, rfl, ci_M, by decide, (ze_mem (List.mem_of_getElem? (i := 786) (by decide +kernel)) rfl)⟩
set_option maxRecDepth 100000 in
theorem zc_M_207 : ze_CV cn_M 207 my_M_here bc_M_here 2 (some .char) 1 9 := ⟨⟨(ze_mem (List.mem_of_getElem? (i := 990) (by decide +kernel)) rfl), (ze_mem (List.mem_of_getElem? (i := 992) (by decide +kernel)) rfl), (ze_mem (List.mem_of_getElem? (i := 38) (by decide +kernel)) rfl), (ze_mem (List.mem_of_getElem? (i := 78) (by decide +kernel)) rfl), (ze_mem (List.mem_of_getElem? (i := 993) rfl) rfl)⟩, by decide +kernel, ct_M, 61, rfl⟩
set_option maxRecDepth 100000 in
theorem zf_M_108 : ze_F cn_M 108 9 41 := ⟨cn_M, ct_M, 61, rfl, ci_M, by decide, (ze_mem (List.mem_of_getElem? (i := 772) (by decide +kernel)) rfl)⟩
set_option maxRecDepth 100000 in
theorem zf_M_211 : ze_F cn_M 211 9 40 := ⟨cn_M, ct_M, 61, rfl, ci_M, by decide, (ze_mem (List.mem_of_getElem? (i := 771) (by decide +kernel)) rfl)⟩
set_option maxRecDepth 100000 in
theorem zc_M_214 : ze_CV cn_M 214 my_M_value bc_M_value 3 (some .int) 1 9 := ⟨⟨(ze_mem (List.mem_of_getElem? (i := 1017) (by decide +kernel)) rfl), (ze_mem (List.mem_of_getElem? (i := 1019) (by decide +kernel)) rfl), (ze_mem (List.mem_of_getElem? (i := 44) (by decide +kernel)) rfl), (ze_mem (List.mem_of_getElem? (i := 78) (by decide +kernel)) rfl), (ze_mem (List.mem_of_getElem? (i := 1020) rfl) rfl)⟩, by decide +kernel, ct_M, 61, rfl⟩
set_option maxRecDepth 100000 in
theorem zf_M_111 : ze_F cn_M 111 9 42 := ⟨cn_M, ct_M, 61, rfl, ci_M, by decide, (ze_mem (List.mem_of_getElem? (i := 773) (by decide +kernel)) rfl)⟩
set_option maxRecDepth 100000 in
theorem zf_M_114 : ze_F cn_M 114 9 43 := ⟨cn_M, ct_M, 61, rfl, ci_M, by decide, (ze_mem (List.mem_of_getElem? (i := 774) (by decide +kernel)) rfl)⟩
set_option maxRecDepth 100000 in
theorem zf_M_141 : ze_F cn_M 141 9 60 := ⟨cn_M, ct_M, 61, rfl, ci_M, by decide, (ze_mem (List.mem_of_getElem? (i := 791) (by decide +kernel)) rfl)⟩
set_option maxRecDepth 100000 in
theorem zf_M_117 : ze_F cn_M 117 9 45 := ⟨cn_M, ct_M, 61, rfl, ci_M, by decide, (ze_mem (List.mem_of_getElem? (i := 776) (by decide +kernel)) rfl)⟩
set_option maxRecDepth 100000 in
theorem zf_M_217 : ze_F cn_M 217 9 44 := ⟨cn_M, ct_M, 61, rfl, ci_M, by decide, (ze_mem (List.mem_of_getElem? (i := 775) (by decide +kernel)) rfl)⟩
set_option maxRecDepth 100000 in
theorem zf_M_120 : ze_F cn_M 120 9 46 := ⟨cn_M, ct_M, 61, rfl, ci_M, by decide, (ze_mem (List.mem_of_getElem? (i := 777) (by decide +kernel)) rfl)⟩
set_option maxRecDepth 100000 in
theorem zf_M_123 : ze_F cn_M 123 9 47 := ⟨cn_M, ct_M, 61, rfl, ci_M, by decide, (ze_mem (List.mem_of_getElem? (i := 778) (by decide +kernel)) rfl)⟩
set_option maxRecDepth 100000 in
theorem zp_M_217 : ze_Fp cn_M 217 9 44 := ⟨cn_M, ct_M, 61, cy_M, rfl, ci_M, by decide, (ze_mem (List.mem_of_getElem? (i := 775) (by decide +kernel)) rfl), co_M, ce_M, rfl, rfl⟩
set_option maxRecDepth 100000 in
theorem zp_M_201 : ze_Fp cn_M 201 9 53 := ⟨cn_M, ct_M, 61, cy_M, rfl, ci_M, by decide, (ze_mem (List.mem_of_getElem? (i := 784) (by decide +kernel)) rfl), co_M, ce_M, rfl, rfl⟩
set_option maxRecDepth 100000 in
theorem zf_M_132 : ze_F cn_M 132 9 50 := ⟨cn_M, ct_M, 61, rfl, ci_M, by decide, (ze_mem (List.mem_of_getElem? (i := 781) (by decide +kernel)) rfl)⟩
set_option maxRecDepth 100000 in
theorem zf_M_129 : ze_F cn_M 129 9 49 := ⟨cn_M, ct_M, 61, rfl, ci_M, by decide, (ze_mem (List.mem_of_getElem? (i := 780) (by decide +kernel)) rfl)⟩
set_option maxRecDepth 100000 in
theorem zf_M_135 : ze_F cn_M 135 9 51 := ⟨cn_M, ct_M, 61, rfl, ci_M, by decide, (ze_mem (List.mem_of_getElem? (i := 782) (by decide +kernel)) rfl)⟩
set_option maxRecDepth 100000 in
theorem zp_M_227 : ze_Fp cn_M 227 9 54 := ⟨cn_M, ct_M, 61, cy_M, rfl, ci_M, by decide, (ze_mem (List.mem_of_getElem? (i := 785) (by decide +kernel)) rfl), co_M, ce_M, rfl, rfl⟩
set_option maxRecDepth 100000 in
theorem zp_M_211 : ze_Fp cn_M 211 9 40 := ⟨cn_M, ct_M, 61, cy_M, rfl, ci_M, by decide, (ze_mem (List.mem_of_getElem? (i := 771) (by decide +kernel)) rfl), co_M, ce_M, rfl, rfl⟩
set_option maxRecDepth 100000 in
theorem zf_M_138 : ze_F cn_M 138 9 52 := ⟨cn_M, ct_M, 61, rfl, ci_M, by decide, (ze_mem (List.mem_of_getElem? (i := 783) (by decide +kernel)) rfl)⟩
set_option maxRecDepth 100000 in
theorem zc_M_220 : ze_CS cn_M 220 my_M_down bc_M_down 3 (some .int) 2 := ⟨⟨(ze_mem (List.mem_of_getElem? (i := 1006) (by decide +kernel)) rfl), (ze_mem (List.mem_of_getElem? (i := 1007) (by decide +kernel)) rfl), (ze_mem (List.mem_of_getElem? (i := 78) (by decide +kernel)) rfl), (ze_mem (List.mem_of_getElem? (i := 1008) rfl) rfl)⟩, by decide +kernel⟩
set_option maxRecDepth 100000 in
theorem zc_M_223 : ze_CV cn_M 223 my_M_begin bc_M_begin 3 none 2 9 := ⟨⟨(ze_mem (List.mem_of_getElem? (i := 985) (by decide +kernel)) rfl), (ze_mem (List.mem_of_getElem? (i := 987) (by decide +kernel)) rfl), (ze_mem (List.mem_of_getElem? (i := 37) (by decide +kernel)) rfl), (ze_mem (List.mem_of_getElem? (i := 78) (by decide +kernel)) rfl), (ze_mem (List.mem_of_getElem? (i := 988) rfl) rfl)⟩, by decide +kernel, ct_M, 61, rfl⟩
set_option maxRecDepth 100000 in
theorem zf_M_126 : ze_F cn_M 126 9 48 := ⟨cn_M, ct_M, 61, rfl, ci_M, by decide, (ze_mem (List.mem_of_getElem? (i := 779) (by decide +kernel)) rfl)⟩
set_option maxRecDepth 100000 in
theorem zc_M_230 : ze_CV cn_M 230 my_M_part bc_M_part 3 none 0 9 := ⟨⟨(ze_mem (List.mem_of_getElem? (i := 1002) (by decide +kernel)) rfl), (ze_mem (List.mem_of_getElem? (i := 1004) (by decide +kernel)) rfl), (ze_mem (List.mem_of_getElem? (i := 41) (by decide +kernel)) rfl), (ze_mem (List.mem_of_getElem? (i := 78) (by decide +kernel)) rfl), (ze_mem (List.mem_of_getElem? (i := 1005) rfl) rfl)⟩, by decide +kernel, ct_M, 61, rfl⟩
set_option maxRecDepth 100000 in
theorem zc_M_233 : ze_CV cn_M 233 my_M_finish bc_M_finish 2 (some .int) 1 9 := ⟨⟨(ze_mem (List.mem_of_getElem? (i := 998) (by decide +kernel)) rfl), (ze_mem (List.mem_of_getElem? (i := 1000) (by decide +kernel)) rfl), (ze_mem (List.mem_of_getElem? (i := 40) (by decide +kernel)) rfl), (ze_mem (List.mem_of_getElem? (i := 78) (by decide +kernel)) rfl), (ze_mem (List.mem_of_getElem? (i := 1001) rfl) rfl)⟩, by decide +kernel, ct_M, 61, rfl⟩
set_option maxRecDepth 100000 in
theorem zc_M_304 : ze_CV cn_M 304 my_M_behind bc_M_behind 5 (some .int) 1 9 := ⟨⟨(ze_mem (List.mem_of_getElem? (i := 1033) (by decide +kernel)) rfl), (ze_mem (List.mem_of_getElem? (i := 1035) (by decide +kernel)) rfl), (ze_mem (List.mem_of_getElem? (i := 48) (by decide +kernel)) rfl), (ze_mem (List.mem_of_getElem? (i := 78) (by decide +kernel)) rfl), (ze_mem (List.mem_of_getElem? (i := 1036) rfl) rfl)⟩, by decide +kernel, ct_M, 61, rfl⟩
set_option maxRecDepth 100000 in
theorem zc_M_307 : ze_CV cn_M 307 my_M_push bc_M_push 3 none 2 9 := ⟨⟨(ze_mem (List.mem_of_getElem? (i := 1037) (by decide +kernel)) rfl), (ze_mem (List.mem_of_getElem? (i := 1039) (by decide +kernel)) rfl), (ze_mem (List.mem_of_getElem? (i := 49) (by decide +kernel)) rfl), (ze_mem (List.mem_of_getElem? (i := 78) (by decide +kernel)) rfl), (ze_mem (List.mem_of_getElem? (i := 1040) rfl) rfl)⟩, by decide +kernel, ct_M, 61, rfl⟩
set_option maxRecDepth 100000 in
theorem zf_M_189 : ze_F cn_M 189 9 18 := ⟨cn_M, ct_M, 61, rfl, ci_M, by decide, (ze_mem (List.mem_of_getElem? (i := 749) (by decide +kernel)) rfl)⟩
set_option maxRecDepth 100000 in
theorem zf_M_57 : ze_F cn_M 57 9 19 := ⟨cn_M, ct_M, 61, rfl, ci_M, by decide, (ze_mem (List.mem_of_getElem? (i := 750) (by decide +kernel)) rfl)⟩
set_option maxRecDepth 100000 in
theorem zf_M_60 : ze_F cn_M 60 9 20 := ⟨cn_M, ct_M, 61, rfl, ci_M, by decide, (ze_mem (List.mem_of_getElem? (i := 751) (by decide +kernel)) rfl)⟩
set_option maxRecDepth 100000 in
theorem zf_M_63 : ze_F cn_M 63 9 21 := ⟨cn_M, ct_M, 61, rfl, ci_M, by decide, (ze_mem (List.mem_of_getElem? (i := 752) (by decide +kernel)) rfl)⟩
set_option maxRecDepth 100000 in
theorem zf_M_51 : ze_F cn_M 51 9 16 := ⟨cn_M, ct_M, 61, rfl, ci_M, by decide, (ze_mem (List.mem_of_getElem? (i := 747) (by decide +kernel)) rfl)⟩
set_option maxRecDepth 100000 in
theorem zf_M_48 : ze_F cn_M 48 9 15 := ⟨cn_M, ct_M, 61, rfl, ci_M, by decide, (ze_mem (List.mem_of_getElem? (i := 746) (by decide +kernel)) rfl)⟩
set_option maxRecDepth 100000 in
theorem zf_M_54 : ze_F cn_M 54 9 17 := ⟨cn_M, ct_M, 61, rfl, ci_M, by decide, (ze_mem (List.mem_of_getElem? (i := 748) (by decide +kernel)) rfl)⟩
set_option maxRecDepth 100000 in
theorem zc_M_257 : ze_CV cn_M 257 my_M_deliver bc_M_deliver 4 none 3 9 := ⟨⟨(ze_mem (List.mem_of_getElem? (i := 1061) (by decide +kernel)) rfl), (ze_mem (List.mem_of_getElem? (i := 1063) (by decide +kernel)) rfl), (ze_mem (List.mem_of_getElem? (i := 55) (by decide +kernel)) rfl), (ze_mem (List.mem_of_getElem? (i := 78) (by decide +kernel)) rfl), (ze_mem (List.mem_of_getElem? (i := 1064) rfl) rfl)⟩, by decide +kernel, ct_M, 61, rfl⟩
set_option maxRecDepth 100000 in
theorem zc_M_310 : ze_CV cn_M 310 my_M_to bc_M_to 2 (some .int) 1 9 := ⟨⟨(ze_mem (List.mem_of_getElem? (i := 1057) (by decide +kernel)) rfl), (ze_mem (List.mem_of_getElem? (i := 1059) (by decide +kernel)) rfl), (ze_mem (List.mem_of_getElem? (i := 54) (by decide +kernel)) rfl), (ze_mem (List.mem_of_getElem? (i := 78) (by decide +kernel)) rfl), (ze_mem (List.mem_of_getElem? (i := 1060) rfl) rfl)⟩, by decide +kernel, ct_M, 61, rfl⟩
set_option maxRecDepth 100000 in
theorem zf_M_227 : ze_F cn_M 227 9 54 := ⟨cn_M, ct_M, 61, rfl, ci_M, by decide, (ze_mem (List.mem_of_getElem? (i := 785) (by decide +kernel)) rfl)⟩
set_option maxRecDepth 100000 in
theorem zf_M_93 : ze_F cn_M 93 9 33 := ⟨cn_M, ct_M, 61, rfl, ci_M, by decide, (ze_mem (List.mem_of_getElem? (i := 764) (by decide +kernel)) rfl)⟩
set_option maxRecDepth 100000 in
theorem zp_M_247 : ze_Fp cn_M 247 9 56 := ⟨cn_M, ct_M, 61, cy_M, rfl, ci_M, by decide, (ze_mem (List.mem_of_getElem? (i := 787) (by decide +kernel)) rfl), co_M, ce_M, rfl, rfl⟩
set_option maxRecDepth 100000 in
theorem zf_M_247 : ze_F cn_M 247 9 56 := ⟨cn_M, ct_M, 61, rfl, ci_M, by decide, (ze_mem (List.mem_of_getElem? (i := 787) (by decide +kernel)) rfl)⟩
set_option maxRecDepth 100000 in
theorem zf_M_99 : ze_F cn_M 99 9 37 := ⟨cn_M, ct_M, 61, rfl, ci_M, by decide, (ze_mem (List.mem_of_getElem? (i := 768) (by decide +kernel)) rfl)⟩
set_option maxRecDepth 100000 in
theorem zf_M_313 : ze_F cn_M 313 9 36 := ⟨cn_M, ct_M, 61, rfl, ci_M, by decide, (ze_mem (List.mem_of_getElem? (i := 767) (by decide +kernel)) rfl)⟩
set_option maxRecDepth 100000 in
theorem zf_M_102 : ze_F cn_M 102 9 38 := ⟨cn_M, ct_M, 61, rfl, ci_M, by decide, (ze_mem (List.mem_of_getElem? (i := 769) (by decide +kernel)) rfl)⟩
set_option maxRecDepth 100000 in
theorem zf_M_105 : ze_F cn_M 105 9 39 := ⟨cn_M, ct_M, 61, rfl, ci_M, by decide, (ze_mem (List.mem_of_getElem? (i := 770) (by decide +kernel)) rfl)⟩
set_option maxRecDepth 100000 in
theorem zp_M_313 : ze_Fp cn_M 313 9 36 := ⟨cn_M, ct_M, 61, cy_M, rfl, ci_M, by decide, (ze_mem (List.mem_of_getElem? (i := 767) (by decide +kernel)) rfl), co_M, ce_M, rfl, rfl⟩
set_option maxRecDepth 100000 in
theorem zf_M_81 : ze_F cn_M 81 9 28 := ⟨cn_M, ct_M, 61, rfl, ci_M, by decide, (ze_mem (List.mem_of_getElem? (i := 759) (by decide +kernel)) rfl)⟩
set_option maxRecDepth 100000 in
theorem zf_M_72 : ze_F cn_M 72 9 25 := ⟨cn_M, ct_M, 61, rfl, ci_M, by decide, (ze_mem (List.mem_of_getElem? (i := 756) (by decide +kernel)) rfl)⟩
set_option maxRecDepth 100000 in
theorem zf_M_69 : ze_F cn_M 69 9 24 := ⟨cn_M, ct_M, 61, rfl, ci_M, by decide, (ze_mem (List.mem_of_getElem? (i := 755) (by decide +kernel)) rfl)⟩
set_option maxRecDepth 100000 in
theorem zc_M_316 : ze_CV cn_M 316 my_M_makeReady bc_M_makeReady 4 none 3 9 := ⟨⟨(ze_mem (List.mem_of_getElem? (i := 1081) (by decide +kernel)) rfl), (ze_mem (List.mem_of_getElem? (i := 1083) (by decide +kernel)) rfl), (ze_mem (List.mem_of_getElem? (i := 60) (by decide +kernel)) rfl), (ze_mem (List.mem_of_getElem? (i := 78) (by decide +kernel)) rfl), (ze_mem (List.mem_of_getElem? (i := 1084) rfl) rfl)⟩, by decide +kernel, ct_M, 61, rfl⟩
set_option maxRecDepth 100000 in
theorem zf_M_192 : ze_F cn_M 192 9 22 := ⟨cn_M, ct_M, 61, rfl, ci_M, by decide, (ze_mem (List.mem_of_getElem? (i := 753) (by decide +kernel)) rfl)⟩
set_option maxRecDepth 100000 in
theorem zf_M_66 : ze_F cn_M 66 9 23 := ⟨cn_M, ct_M, 61, rfl, ci_M, by decide, (ze_mem (List.mem_of_getElem? (i := 754) (by decide +kernel)) rfl)⟩
set_option maxRecDepth 100000 in
theorem zf_M_75 : ze_F cn_M 75 9 26 := ⟨cn_M, ct_M, 61, rfl, ci_M, by decide, (ze_mem (List.mem_of_getElem? (i := 757) (by decide +kernel)) rfl)⟩
set_option maxRecDepth 100000 in
theorem zf_M_78 : ze_F cn_M 78 9 27 := ⟨cn_M, ct_M, 61, rfl, ci_M, by decide, (ze_mem (List.mem_of_getElem? (i := 758) (by decide +kernel)) rfl)⟩
set_option maxRecDepth 100000 in
theorem zc_M_319 : ze_CV cn_M 319 my_M_release bc_M_release 3 none 1 9 := ⟨⟨(ze_mem (List.mem_of_getElem? (i := 1077) (by decide +kernel)) rfl), (ze_mem (List.mem_of_getElem? (i := 1079) (by decide +kernel)) rfl), (ze_mem (List.mem_of_getElem? (i := 59) (by decide +kernel)) rfl), (ze_mem (List.mem_of_getElem? (i := 78) (by decide +kernel)) rfl), (ze_mem (List.mem_of_getElem? (i := 1080) rfl) rfl)⟩, by decide +kernel, ct_M, 61, rfl⟩
set_option maxRecDepth 100000 in
theorem zf_M_261 : ze_F cn_M 261 9 58 := ⟨cn_M, ct_M, 61, rfl, ci_M, by decide, (ze_mem (List.mem_of_getElem? (i := 789) (by decide +kernel)) rfl)⟩
set_option maxRecDepth 100000 in
theorem zf_M_195 : ze_F cn_M 195 9 29 := ⟨cn_M, ct_M, 61, rfl, ci_M, by decide, (ze_mem (List.mem_of_getElem? (i := 760) (by decide +kernel)) rfl)⟩
set_option maxRecDepth 100000 in
theorem zf_M_84 : ze_F cn_M 84 9 30 := ⟨cn_M, ct_M, 61, rfl, ci_M, by decide, (ze_mem (List.mem_of_getElem? (i := 761) (by decide +kernel)) rfl)⟩
set_option maxRecDepth 100000 in
theorem zf_M_90 : ze_F cn_M 90 9 32 := ⟨cn_M, ct_M, 61, rfl, ci_M, by decide, (ze_mem (List.mem_of_getElem? (i := 763) (by decide +kernel)) rfl)⟩
set_option maxRecDepth 100000 in
theorem zf_M_87 : ze_F cn_M 87 9 31 := ⟨cn_M, ct_M, 61, rfl, ci_M, by decide, (ze_mem (List.mem_of_getElem? (i := 762) (by decide +kernel)) rfl)⟩
set_option maxRecDepth 100000 in
theorem zc_M_322 : ze_CV cn_M 322 my_M_takeLeast bc_M_takeLeast 5 none 2 9 := ⟨⟨(ze_mem (List.mem_of_getElem? (i := 1089) (by decide +kernel)) rfl), (ze_mem (List.mem_of_getElem? (i := 1091) (by decide +kernel)) rfl), (ze_mem (List.mem_of_getElem? (i := 62) (by decide +kernel)) rfl), (ze_mem (List.mem_of_getElem? (i := 78) (by decide +kernel)) rfl), (ze_mem (List.mem_of_getElem? (i := 1092) rfl) rfl)⟩, by decide +kernel, ct_M, 61, rfl⟩
set_option maxRecDepth 100000 in
theorem zc_M_289 : ze_CV cn_M 289 my_M_one bc_M_one 4 (some .int) 1 9 := ⟨⟨(ze_mem (List.mem_of_getElem? (i := 1053) (by decide +kernel)) rfl), (ze_mem (List.mem_of_getElem? (i := 1055) (by decide +kernel)) rfl), (ze_mem (List.mem_of_getElem? (i := 53) (by decide +kernel)) rfl), (ze_mem (List.mem_of_getElem? (i := 78) (by decide +kernel)) rfl), (ze_mem (List.mem_of_getElem? (i := 1056) rfl) rfl)⟩, by decide +kernel, ct_M, 61, rfl⟩
set_option maxRecDepth 100000 in
theorem zc_M_286 : ze_CV cn_M 286 my_M_copy bc_M_copy 2 (some .int) 1 9 := ⟨⟨(ze_mem (List.mem_of_getElem? (i := 1049) (by decide +kernel)) rfl), (ze_mem (List.mem_of_getElem? (i := 1051) (by decide +kernel)) rfl), (ze_mem (List.mem_of_getElem? (i := 52) (by decide +kernel)) rfl), (ze_mem (List.mem_of_getElem? (i := 78) (by decide +kernel)) rfl), (ze_mem (List.mem_of_getElem? (i := 1052) rfl) rfl)⟩, by decide +kernel, ct_M, 61, rfl⟩
set_option maxRecDepth 100000 in
theorem zc_M_267 : ze_CV cn_M 267 my_M_change bc_M_change 4 none 2 9 := ⟨⟨(ze_mem (List.mem_of_getElem? (i := 1021) (by decide +kernel)) rfl), (ze_mem (List.mem_of_getElem? (i := 1023) (by decide +kernel)) rfl), (ze_mem (List.mem_of_getElem? (i := 45) (by decide +kernel)) rfl), (ze_mem (List.mem_of_getElem? (i := 78) (by decide +kernel)) rfl), (ze_mem (List.mem_of_getElem? (i := 1024) rfl) rfl)⟩, by decide +kernel, ct_M, 61, rfl⟩
set_option maxRecDepth 100000 in
theorem zc_M_283 : ze_CV cn_M 283 my_M_visit bc_M_visit 2 none 1 9 := ⟨⟨(ze_mem (List.mem_of_getElem? (i := 1045) (by decide +kernel)) rfl), (ze_mem (List.mem_of_getElem? (i := 1047) (by decide +kernel)) rfl), (ze_mem (List.mem_of_getElem? (i := 51) (by decide +kernel)) rfl), (ze_mem (List.mem_of_getElem? (i := 78) (by decide +kernel)) rfl), (ze_mem (List.mem_of_getElem? (i := 1048) rfl) rfl)⟩, by decide +kernel, ct_M, 61, rfl⟩
set_option maxRecDepth 100000 in
theorem zc_M_271 : ze_CV cn_M 271 my_M_holds bc_M_holds 5 (some .boolean) 1 9 := ⟨⟨(ze_mem (List.mem_of_getElem? (i := 1025) (by decide +kernel)) rfl), (ze_mem (List.mem_of_getElem? (i := 1027) (by decide +kernel)) rfl), (ze_mem (List.mem_of_getElem? (i := 46) (by decide +kernel)) rfl), (ze_mem (List.mem_of_getElem? (i := 78) (by decide +kernel)) rfl), (ze_mem (List.mem_of_getElem? (i := 1028) rfl) rfl)⟩, by decide +kernel, ct_M, 61, rfl⟩
set_option maxRecDepth 100000 in
theorem zc_M_275 : ze_CV cn_M 275 my_M_choose bc_M_choose 6 none 1 9 := ⟨⟨(ze_mem (List.mem_of_getElem? (i := 1029) (by decide +kernel)) rfl), (ze_mem (List.mem_of_getElem? (i := 1031) (by decide +kernel)) rfl), (ze_mem (List.mem_of_getElem? (i := 47) (by decide +kernel)) rfl), (ze_mem (List.mem_of_getElem? (i := 78) (by decide +kernel)) rfl), (ze_mem (List.mem_of_getElem? (i := 1032) rfl) rfl)⟩, by decide +kernel, ct_M, 61, rfl⟩
set_option maxRecDepth 100000 in
theorem zc_M_298 : ze_CV cn_M 298 my_M_gather bc_M_gather 7 (some .int) 1 9 := ⟨⟨(ze_mem (List.mem_of_getElem? (i := 1073) (by decide +kernel)) rfl), (ze_mem (List.mem_of_getElem? (i := 1075) (by decide +kernel)) rfl), (ze_mem (List.mem_of_getElem? (i := 58) (by decide +kernel)) rfl), (ze_mem (List.mem_of_getElem? (i := 78) (by decide +kernel)) rfl), (ze_mem (List.mem_of_getElem? (i := 1076) rfl) rfl)⟩, by decide +kernel, ct_M, 61, rfl⟩
set_option maxRecDepth 100000 in
theorem zc_M_295 : ze_CV cn_M 295 my_M_once bc_M_once 5 none 1 9 := ⟨⟨(ze_mem (List.mem_of_getElem? (i := 1069) (by decide +kernel)) rfl), (ze_mem (List.mem_of_getElem? (i := 1071) (by decide +kernel)) rfl), (ze_mem (List.mem_of_getElem? (i := 57) (by decide +kernel)) rfl), (ze_mem (List.mem_of_getElem? (i := 78) (by decide +kernel)) rfl), (ze_mem (List.mem_of_getElem? (i := 1072) rfl) rfl)⟩, by decide +kernel, ct_M, 61, rfl⟩
set_option maxRecDepth 100000 in
theorem zc_M_292 : ze_CV cn_M 292 my_M_several bc_M_several 3 (some .int) 0 9 := ⟨⟨(ze_mem (List.mem_of_getElem? (i := 1065) (by decide +kernel)) rfl), (ze_mem (List.mem_of_getElem? (i := 1067) (by decide +kernel)) rfl), (ze_mem (List.mem_of_getElem? (i := 56) (by decide +kernel)) rfl), (ze_mem (List.mem_of_getElem? (i := 78) (by decide +kernel)) rfl), (ze_mem (List.mem_of_getElem? (i := 1068) rfl) rfl)⟩, by decide +kernel, ct_M, 61, rfl⟩
set_option maxRecDepth 100000 in
theorem zc_M_279 : ze_CV cn_M 279 my_M_split bc_M_split 2 none 1 9 := ⟨⟨(ze_mem (List.mem_of_getElem? (i := 1041) (by decide +kernel)) rfl), (ze_mem (List.mem_of_getElem? (i := 1043) (by decide +kernel)) rfl), (ze_mem (List.mem_of_getElem? (i := 50) (by decide +kernel)) rfl), (ze_mem (List.mem_of_getElem? (i := 78) (by decide +kernel)) rfl), (ze_mem (List.mem_of_getElem? (i := 1044) rfl) rfl)⟩, by decide +kernel, ct_M, 61, rfl⟩
set_option maxRecDepth 100000 in
theorem zc_M_301 : ze_CV cn_M 301 my_M_order bc_M_order 5 none 1 9 := ⟨⟨(ze_mem (List.mem_of_getElem? (i := 1085) (by decide +kernel)) rfl), (ze_mem (List.mem_of_getElem? (i := 1087) (by decide +kernel)) rfl), (ze_mem (List.mem_of_getElem? (i := 61) (by decide +kernel)) rfl), (ze_mem (List.mem_of_getElem? (i := 78) (by decide +kernel)) rfl), (ze_mem (List.mem_of_getElem? (i := 1088) rfl) rfl)⟩, by decide +kernel, ct_M, 61, rfl⟩
set_option maxRecDepth 100000 in
theorem zf_M_244 : ze_F cn_M 244 9 57 := ⟨cn_M, ct_M, 61, rfl, ci_M, by decide, (ze_mem (List.mem_of_getElem? (i := 788) (by decide +kernel)) rfl)⟩
set_option maxRecDepth 100000 in
theorem zp_M_244 : ze_Fp cn_M 244 9 57 := ⟨cn_M, ct_M, 61, cy_M, rfl, ci_M, by decide, (ze_mem (List.mem_of_getElem? (i := 788) (by decide +kernel)) rfl), co_M, ce_M, rfl, rfl⟩
set_option maxRecDepth 100000 in
theorem zc_M_250 : ze_CV cn_M 250 my_M_act bc_M_act 2 (some .int) 1 9 := ⟨⟨(ze_mem (List.mem_of_getElem? (i := 1013) (by decide +kernel)) rfl), (ze_mem (List.mem_of_getElem? (i := 1015) (by decide +kernel)) rfl), (ze_mem (List.mem_of_getElem? (i := 43) (by decide +kernel)) rfl), (ze_mem (List.mem_of_getElem? (i := 78) (by decide +kernel)) rfl), (ze_mem (List.mem_of_getElem? (i := 1016) rfl) rfl)⟩, by decide +kernel, ct_M, 61, rfl⟩
set_option maxRecDepth 100000 in
theorem zc_M_254 : ze_CV cn_M 254 my_M_clauseFor bc_M_clauseFor 4 (some .int) 1 9 := ⟨⟨(ze_mem (List.mem_of_getElem? (i := 1093) (by decide +kernel)) rfl), (ze_mem (List.mem_of_getElem? (i := 1095) (by decide +kernel)) rfl), (ze_mem (List.mem_of_getElem? (i := 63) (by decide +kernel)) rfl), (ze_mem (List.mem_of_getElem? (i := 78) (by decide +kernel)) rfl), (ze_mem (List.mem_of_getElem? (i := 1096) rfl) rfl)⟩, by decide +kernel, ct_M, 61, rfl⟩
set_option maxRecDepth 100000 in
theorem zp_M_261 : ze_Fp cn_M 261 9 58 := ⟨cn_M, ct_M, 61, cy_M, rfl, ci_M, by decide, (ze_mem (List.mem_of_getElem? (i := 789) (by decide +kernel)) rfl), co_M, ce_M, rfl, rfl⟩
set_option maxRecDepth 100000 in
theorem zf_M_264 : ze_F cn_M 264 9 59 := ⟨cn_M, ct_M, 61, rfl, ci_M, by decide, (ze_mem (List.mem_of_getElem? (i := 790) (by decide +kernel)) rfl)⟩
set_option maxRecDepth 100000 in
theorem zp_M_264 : ze_Fp cn_M 264 9 59 := ⟨cn_M, ct_M, 61, cy_M, rfl, ci_M, by decide, (ze_mem (List.mem_of_getElem? (i := 790) (by decide +kernel)) rfl), co_M, ce_M, rfl, rfl⟩
set_option maxRecDepth 100000 in
theorem zc_M_237 : ze_CV cn_M 237 my_M_close bc_M_close 1 (some .int) 0 9 := ⟨⟨(ze_mem (List.mem_of_getElem? (i := 994) (by decide +kernel)) rfl), (ze_mem (List.mem_of_getElem? (i := 996) (by decide +kernel)) rfl), (ze_mem (List.mem_of_getElem? (i := 39) (by decide +kernel)) rfl), (ze_mem (List.mem_of_getElem? (i := 78) (by decide +kernel)) rfl), (ze_mem (List.mem_of_getElem? (i := 997) rfl) rfl)⟩, by decide +kernel, ct_M, 61, rfl⟩
set_option maxRecDepth 100000 in
theorem zc_M_241 : ze_CV cn_M 241 my_M_step bc_M_step 6 (some .int) 0 9 := ⟨⟨(ze_mem (List.mem_of_getElem? (i := 1009) (by decide +kernel)) rfl), (ze_mem (List.mem_of_getElem? (i := 1011) (by decide +kernel)) rfl), (ze_mem (List.mem_of_getElem? (i := 42) (by decide +kernel)) rfl), (ze_mem (List.mem_of_getElem? (i := 78) (by decide +kernel)) rfl), (ze_mem (List.mem_of_getElem? (i := 1012) rfl) rfl)⟩, by decide +kernel, ct_M, 61, rfl⟩
set_option maxRecDepth 100000 in
theorem zf_M_325 : ze_F cn_M 325 9 35 := ⟨cn_M, ct_M, 61, rfl, ci_M, by decide, (ze_mem (List.mem_of_getElem? (i := 766) (by decide +kernel)) rfl)⟩
set_option maxRecDepth 100000 in
theorem zp_M_325 : ze_Fp cn_M 325 9 35 := ⟨cn_M, ct_M, 61, cy_M, rfl, ci_M, by decide, (ze_mem (List.mem_of_getElem? (i := 766) (by decide +kernel)) rfl), co_M, ce_M, rfl, rfl⟩
set_option maxRecDepth 100000 in
theorem zc_M_328 : ze_CV cn_M 328 my_M_run bc_M_run 8 (some .int) 4 9 := ⟨⟨(ze_mem (List.mem_of_getElem? (i := 981) (by decide +kernel)) rfl), (ze_mem (List.mem_of_getElem? (i := 983) (by decide +kernel)) rfl), (ze_mem (List.mem_of_getElem? (i := 36) (by decide +kernel)) rfl), (ze_mem (List.mem_of_getElem? (i := 78) (by decide +kernel)) rfl), (ze_mem (List.mem_of_getElem? (i := 984) rfl) rfl)⟩, by decide +kernel, ct_M, 61, rfl⟩
set_option maxRecDepth 100000 in
theorem zc_M_331 : ze_CV cn_M 331 my_M_runReady bc_M_runReady 2 none 0 9 := ⟨⟨(ze_mem (List.mem_of_getElem? (i := 1097) (by decide +kernel)) rfl), (ze_mem (List.mem_of_getElem? (i := 1099) (by decide +kernel)) rfl), (ze_mem (List.mem_of_getElem? (i := 64) (by decide +kernel)) rfl), (ze_mem (List.mem_of_getElem? (i := 78) (by decide +kernel)) rfl), (ze_mem (List.mem_of_getElem? (i := 1100) rfl) rfl)⟩, by decide +kernel, ct_M, 61, rfl⟩
set_option maxRecDepth 100000 in
theorem zc_M_334 : ze_CV cn_M 334 my_M_send bc_M_send 5 (some .int) 3 9 := ⟨⟨(ze_mem (List.mem_of_getElem? (i := 1105) (by decide +kernel)) rfl), (ze_mem (List.mem_of_getElem? (i := 978) (by decide +kernel)) rfl), (ze_mem (List.mem_of_getElem? (i := 979) (by decide +kernel)) rfl), (ze_mem (List.mem_of_getElem? (i := 78) (by decide +kernel)) rfl), (ze_mem (List.mem_of_getElem? (i := 980) rfl) rfl)⟩, by decide +kernel, ct_M, 61, rfl⟩
set_option maxRecDepth 100000 in
theorem zc_M_337 : ze_CV cn_M 337 my_M_dueGroup bc_M_dueGroup 2 (some .int) 0 9 := ⟨⟨(ze_mem (List.mem_of_getElem? (i := 1110) (by decide +kernel)) rfl), (ze_mem (List.mem_of_getElem? (i := 1112) (by decide +kernel)) rfl), (ze_mem (List.mem_of_getElem? (i := 65) (by decide +kernel)) rfl), (ze_mem (List.mem_of_getElem? (i := 78) (by decide +kernel)) rfl), (ze_mem (List.mem_of_getElem? (i := 1113) rfl) rfl)⟩, by decide +kernel, ct_M, 61, rfl⟩
set_option maxRecDepth 100000 in
theorem zc_M_340 : ze_CV cn_M 340 my_M_slot bc_M_slot 3 (some .int) 2 9 := ⟨⟨(ze_mem (List.mem_of_getElem? (i := 1122) (by decide +kernel)) rfl), (ze_mem (List.mem_of_getElem? (i := 1124) (by decide +kernel)) rfl), (ze_mem (List.mem_of_getElem? (i := 66) (by decide +kernel)) rfl), (ze_mem (List.mem_of_getElem? (i := 78) (by decide +kernel)) rfl), (ze_mem (List.mem_of_getElem? (i := 1125) rfl) rfl)⟩, by decide +kernel, ct_M, 61, rfl⟩
set_option maxRecDepth 100000 in
theorem zm_L_7 : ze_CM cn_L 7 Lib.Math.max.name Lib.Math.max.code := ⟨(ze_mem (List.mem_of_getElem? (i := 213) (by decide +kernel)) rfl), (ze_mem (List.mem_of_getElem? (i := 214) (by decide +kernel)) rfl), (ze_mem (List.mem_of_getElem? (i := 74) (by decide +kernel)) rfl), ze_mem (List.mem_of_getElem? (i := 215) rfl) rfl⟩
set_option maxRecDepth 100000 in
theorem zc_W_13 : ze_CV cn_W 13 my_E_put bc_E_put 3 (some .boolean) 2 0 := ⟨⟨(ze_mem (List.mem_of_getElem? (i := 361) (by decide +kernel)) rfl), (ze_mem (List.mem_of_getElem? (i := 362) (by decide +kernel)) rfl), (ze_mem (List.mem_of_getElem? (i := 363) (by decide +kernel)) rfl), (ze_mem (List.mem_of_getElem? (i := 68) (by decide +kernel)) rfl), (ze_mem (List.mem_of_getElem? (i := 364) rfl) rfl)⟩, by decide +kernel, ct_E, 16, rfl⟩
set_option maxRecDepth 100000 in
theorem zc_W_17 : ze_CV cn_W 17 my_M_put bc_M_put 3 (some .boolean) 2 9 := ⟨⟨(ze_mem (List.mem_of_getElem? (i := 915) (by decide +kernel)) rfl), (ze_mem (List.mem_of_getElem? (i := 916) (by decide +kernel)) rfl), (ze_mem (List.mem_of_getElem? (i := 917) (by decide +kernel)) rfl), (ze_mem (List.mem_of_getElem? (i := 78) (by decide +kernel)) rfl), (ze_mem (List.mem_of_getElem? (i := 918) rfl) rfl)⟩, by decide +kernel, ct_M, 61, rfl⟩
set_option maxRecDepth 100000 in
theorem zc_W_18 : ze_CV cn_W 18 my_E_clear bc_E_clear 3 (some .boolean) 1 0 := ⟨⟨(ze_mem (List.mem_of_getElem? (i := 368) (by decide +kernel)) rfl), (ze_mem (List.mem_of_getElem? (i := 369) (by decide +kernel)) rfl), (ze_mem (List.mem_of_getElem? (i := 370) (by decide +kernel)) rfl), (ze_mem (List.mem_of_getElem? (i := 68) (by decide +kernel)) rfl), (ze_mem (List.mem_of_getElem? (i := 371) rfl) rfl)⟩, by decide +kernel, ct_E, 16, rfl⟩
set_option maxRecDepth 100000 in
theorem zc_W_22 : ze_CV cn_W 22 my_M_clear bc_M_clear 2 (some .boolean) 1 9 := ⟨⟨(ze_mem (List.mem_of_getElem? (i := 922) (by decide +kernel)) rfl), (ze_mem (List.mem_of_getElem? (i := 923) (by decide +kernel)) rfl), (ze_mem (List.mem_of_getElem? (i := 924) (by decide +kernel)) rfl), (ze_mem (List.mem_of_getElem? (i := 78) (by decide +kernel)) rfl), (ze_mem (List.mem_of_getElem? (i := 925) rfl) rfl)⟩, by decide +kernel, ct_M, 61, rfl⟩
set_option maxRecDepth 100000 in
theorem zc_W_23 : ze_CV cn_W 23 my_E_read bc_E_read 3 (some .int) 0 0 := ⟨⟨(ze_mem (List.mem_of_getElem? (i := 372) (by decide +kernel)) rfl), (ze_mem (List.mem_of_getElem? (i := 373) (by decide +kernel)) rfl), (ze_mem (List.mem_of_getElem? (i := 374) (by decide +kernel)) rfl), (ze_mem (List.mem_of_getElem? (i := 68) (by decide +kernel)) rfl), (ze_mem (List.mem_of_getElem? (i := 375) rfl) rfl)⟩, by decide +kernel, ct_E, 16, rfl⟩
set_option maxRecDepth 100000 in
theorem zc_W_27 : ze_CV cn_W 27 my_M_read bc_M_read 3 (some .int) 0 9 := ⟨⟨(ze_mem (List.mem_of_getElem? (i := 926) (by decide +kernel)) rfl), (ze_mem (List.mem_of_getElem? (i := 927) (by decide +kernel)) rfl), (ze_mem (List.mem_of_getElem? (i := 928) (by decide +kernel)) rfl), (ze_mem (List.mem_of_getElem? (i := 78) (by decide +kernel)) rfl), (ze_mem (List.mem_of_getElem? (i := 929) rfl) rfl)⟩, by decide +kernel, ct_M, 61, rfl⟩
set_option maxRecDepth 100000 in
theorem zc_W_28 : ze_CV cn_W 28 my_E_clause bc_E_clause 6 (some .boolean) 5 0 := ⟨⟨(ze_mem (List.mem_of_getElem? (i := 535) (by decide +kernel)) rfl), (ze_mem (List.mem_of_getElem? (i := 536) (by decide +kernel)) rfl), (ze_mem (List.mem_of_getElem? (i := 537) (by decide +kernel)) rfl), (ze_mem (List.mem_of_getElem? (i := 68) (by decide +kernel)) rfl), (ze_mem (List.mem_of_getElem? (i := 538) rfl) rfl)⟩, by decide +kernel, ct_E, 16, rfl⟩
set_option maxRecDepth 100000 in
theorem zc_W_32 : ze_CV cn_W 32 my_M_clause bc_M_clause 6 (some .boolean) 5 9 := ⟨⟨(ze_mem (List.mem_of_getElem? (i := 965) (by decide +kernel)) rfl), (ze_mem (List.mem_of_getElem? (i := 966) (by decide +kernel)) rfl), (ze_mem (List.mem_of_getElem? (i := 967) (by decide +kernel)) rfl), (ze_mem (List.mem_of_getElem? (i := 78) (by decide +kernel)) rfl), (ze_mem (List.mem_of_getElem? (i := 968) rfl) rfl)⟩, by decide +kernel, ct_M, 61, rfl⟩
set_option maxRecDepth 100000 in
theorem zc_W_33 : ze_CV cn_W 33 my_E_forget bc_E_forget 1 none 0 0 := ⟨⟨(ze_mem (List.mem_of_getElem? (i := 546) (by decide +kernel)) rfl), (ze_mem (List.mem_of_getElem? (i := 547) (by decide +kernel)) rfl), (ze_mem (List.mem_of_getElem? (i := 548) (by decide +kernel)) rfl), (ze_mem (List.mem_of_getElem? (i := 68) (by decide +kernel)) rfl), (ze_mem (List.mem_of_getElem? (i := 549) rfl) rfl)⟩, by decide +kernel, ct_E, 16, rfl⟩
set_option maxRecDepth 100000 in
theorem zc_W_36 : ze_CV cn_W 36 my_M_forget bc_M_forget 1 none 0 9 := ⟨⟨(ze_mem (List.mem_of_getElem? (i := 969) (by decide +kernel)) rfl), (ze_mem (List.mem_of_getElem? (i := 970) (by decide +kernel)) rfl), (ze_mem (List.mem_of_getElem? (i := 971) (by decide +kernel)) rfl), (ze_mem (List.mem_of_getElem? (i := 78) (by decide +kernel)) rfl), (ze_mem (List.mem_of_getElem? (i := 972) rfl) rfl)⟩, by decide +kernel, ct_M, 61, rfl⟩
set_option maxRecDepth 100000 in
theorem zc_W_37 : ze_CV cn_W 37 my_E_fail bc_E_fail 4 (some .boolean) 3 0 := ⟨⟨(ze_mem (List.mem_of_getElem? (i := 550) (by decide +kernel)) rfl), (ze_mem (List.mem_of_getElem? (i := 551) (by decide +kernel)) rfl), (ze_mem (List.mem_of_getElem? (i := 552) (by decide +kernel)) rfl), (ze_mem (List.mem_of_getElem? (i := 68) (by decide +kernel)) rfl), (ze_mem (List.mem_of_getElem? (i := 553) rfl) rfl)⟩, by decide +kernel, ct_E, 16, rfl⟩
set_option maxRecDepth 100000 in
theorem zc_W_41 : ze_CV cn_W 41 my_M_fail bc_M_fail 4 (some .boolean) 3 9 := ⟨⟨(ze_mem (List.mem_of_getElem? (i := 973) (by decide +kernel)) rfl), (ze_mem (List.mem_of_getElem? (i := 974) (by decide +kernel)) rfl), (ze_mem (List.mem_of_getElem? (i := 975) (by decide +kernel)) rfl), (ze_mem (List.mem_of_getElem? (i := 78) (by decide +kernel)) rfl), (ze_mem (List.mem_of_getElem? (i := 976) rfl) rfl)⟩, by decide +kernel, ct_M, 61, rfl⟩
set_option maxRecDepth 100000 in
theorem zc_W_42 : ze_CV cn_W 42 my_E_send bc_E_send 4 (some .int) 3 0 := ⟨⟨(ze_mem (List.mem_of_getElem? (i := 554) (by decide +kernel)) rfl), (ze_mem (List.mem_of_getElem? (i := 555) (by decide +kernel)) rfl), (ze_mem (List.mem_of_getElem? (i := 556) (by decide +kernel)) rfl), (ze_mem (List.mem_of_getElem? (i := 68) (by decide +kernel)) rfl), (ze_mem (List.mem_of_getElem? (i := 557) rfl) rfl)⟩, by decide +kernel, ct_E, 16, rfl⟩
set_option maxRecDepth 100000 in
theorem zc_W_46 : ze_CV cn_W 46 my_M_send bc_M_send 5 (some .int) 3 9 := ⟨⟨(ze_mem (List.mem_of_getElem? (i := 977) (by decide +kernel)) rfl), (ze_mem (List.mem_of_getElem? (i := 978) (by decide +kernel)) rfl), (ze_mem (List.mem_of_getElem? (i := 979) (by decide +kernel)) rfl), (ze_mem (List.mem_of_getElem? (i := 78) (by decide +kernel)) rfl), (ze_mem (List.mem_of_getElem? (i := 980) rfl) rfl)⟩, by decide +kernel, ct_M, 61, rfl⟩
set_option maxRecDepth 100000 in
theorem zc_W_47 : ze_CV cn_W 47 my_E_work bc_E_work 2 (some .int) 0 0 := ⟨⟨(ze_mem (List.mem_of_getElem? (i := 685) (by decide +kernel)) rfl), (ze_mem (List.mem_of_getElem? (i := 686) (by decide +kernel)) rfl), (ze_mem (List.mem_of_getElem? (i := 687) (by decide +kernel)) rfl), (ze_mem (List.mem_of_getElem? (i := 68) (by decide +kernel)) rfl), (ze_mem (List.mem_of_getElem? (i := 688) rfl) rfl)⟩, by decide +kernel, ct_E, 16, rfl⟩
set_option maxRecDepth 100000 in
theorem zc_W_50 : ze_CV cn_W 50 my_M_work bc_M_work 5 (some .int) 0 9 := ⟨⟨(ze_mem (List.mem_of_getElem? (i := 1101) (by decide +kernel)) rfl), (ze_mem (List.mem_of_getElem? (i := 1102) (by decide +kernel)) rfl), (ze_mem (List.mem_of_getElem? (i := 1103) (by decide +kernel)) rfl), (ze_mem (List.mem_of_getElem? (i := 78) (by decide +kernel)) rfl), (ze_mem (List.mem_of_getElem? (i := 1104) rfl) rfl)⟩, by decide +kernel, ct_M, 61, rfl⟩
set_option maxRecDepth 100000 in
theorem zc_W_51 : ze_CV cn_W 51 my_E_pass bc_E_pass 6 (some .int) 1 0 := ⟨⟨(ze_mem (List.mem_of_getElem? (i := 689) (by decide +kernel)) rfl), (ze_mem (List.mem_of_getElem? (i := 690) (by decide +kernel)) rfl), (ze_mem (List.mem_of_getElem? (i := 691) (by decide +kernel)) rfl), (ze_mem (List.mem_of_getElem? (i := 68) (by decide +kernel)) rfl), (ze_mem (List.mem_of_getElem? (i := 692) rfl) rfl)⟩, by decide +kernel, ct_E, 16, rfl⟩
set_option maxRecDepth 100000 in
theorem zc_W_55 : ze_CV cn_W 55 my_M_pass bc_M_pass 6 (some .int) 1 9 := ⟨⟨(ze_mem (List.mem_of_getElem? (i := 1106) (by decide +kernel)) rfl), (ze_mem (List.mem_of_getElem? (i := 1107) (by decide +kernel)) rfl), (ze_mem (List.mem_of_getElem? (i := 1108) (by decide +kernel)) rfl), (ze_mem (List.mem_of_getElem? (i := 78) (by decide +kernel)) rfl), (ze_mem (List.mem_of_getElem? (i := 1109) rfl) rfl)⟩, by decide +kernel, ct_M, 61, rfl⟩
set_option maxRecDepth 100000 in
theorem zc_W_56 : ze_CV cn_W 56 my_E_delivered bc_E_delivered 2 (some .int) 1 0 := ⟨⟨(ze_mem (List.mem_of_getElem? (i := 697) (by decide +kernel)) rfl), (ze_mem (List.mem_of_getElem? (i := 698) (by decide +kernel)) rfl), (ze_mem (List.mem_of_getElem? (i := 699) (by decide +kernel)) rfl), (ze_mem (List.mem_of_getElem? (i := 68) (by decide +kernel)) rfl), (ze_mem (List.mem_of_getElem? (i := 700) rfl) rfl)⟩, by decide +kernel, ct_E, 16, rfl⟩
set_option maxRecDepth 100000 in
theorem zc_W_59 : ze_CV cn_W 59 my_M_delivered bc_M_delivered 2 (some .int) 1 9 := ⟨⟨(ze_mem (List.mem_of_getElem? (i := 1114) (by decide +kernel)) rfl), (ze_mem (List.mem_of_getElem? (i := 1115) (by decide +kernel)) rfl), (ze_mem (List.mem_of_getElem? (i := 1116) (by decide +kernel)) rfl), (ze_mem (List.mem_of_getElem? (i := 78) (by decide +kernel)) rfl), (ze_mem (List.mem_of_getElem? (i := 1117) rfl) rfl)⟩, by decide +kernel, ct_M, 61, rfl⟩
set_option maxRecDepth 100000 in
theorem zc_W_60 : ze_CV cn_W 60 my_E_body bc_E_body 3 (some .int) 2 0 := ⟨⟨(ze_mem (List.mem_of_getElem? (i := 701) (by decide +kernel)) rfl), (ze_mem (List.mem_of_getElem? (i := 702) (by decide +kernel)) rfl), (ze_mem (List.mem_of_getElem? (i := 703) (by decide +kernel)) rfl), (ze_mem (List.mem_of_getElem? (i := 68) (by decide +kernel)) rfl), (ze_mem (List.mem_of_getElem? (i := 704) rfl) rfl)⟩, by decide +kernel, ct_E, 16, rfl⟩
set_option maxRecDepth 100000 in
theorem zc_W_64 : ze_CV cn_W 64 my_M_body bc_M_body 4 (some .int) 2 9 := ⟨⟨(ze_mem (List.mem_of_getElem? (i := 1118) (by decide +kernel)) rfl), (ze_mem (List.mem_of_getElem? (i := 1119) (by decide +kernel)) rfl), (ze_mem (List.mem_of_getElem? (i := 1120) (by decide +kernel)) rfl), (ze_mem (List.mem_of_getElem? (i := 78) (by decide +kernel)) rfl), (ze_mem (List.mem_of_getElem? (i := 1121) rfl) rfl)⟩, by decide +kernel, ct_M, 61, rfl⟩
set_option maxRecDepth 100000 in
theorem zc_W_65 : ze_CV cn_W 65 my_E_key bc_E_key 3 (some .int) 2 0 := ⟨⟨(ze_mem (List.mem_of_getElem? (i := 713) (by decide +kernel)) rfl), (ze_mem (List.mem_of_getElem? (i := 714) (by decide +kernel)) rfl), (ze_mem (List.mem_of_getElem? (i := 715) (by decide +kernel)) rfl), (ze_mem (List.mem_of_getElem? (i := 68) (by decide +kernel)) rfl), (ze_mem (List.mem_of_getElem? (i := 716) rfl) rfl)⟩, by decide +kernel, ct_E, 16, rfl⟩
set_option maxRecDepth 100000 in
theorem zc_W_68 : ze_CV cn_W 68 my_M_key bc_M_key 4 (some .int) 2 9 := ⟨⟨(ze_mem (List.mem_of_getElem? (i := 1126) (by decide +kernel)) rfl), (ze_mem (List.mem_of_getElem? (i := 1127) (by decide +kernel)) rfl), (ze_mem (List.mem_of_getElem? (i := 1128) (by decide +kernel)) rfl), (ze_mem (List.mem_of_getElem? (i := 78) (by decide +kernel)) rfl), (ze_mem (List.mem_of_getElem? (i := 1129) rfl) rfl)⟩, by decide +kernel, ct_M, 61, rfl⟩
set_option maxRecDepth 100000 in
theorem zc_W_69 : ze_CV cn_W 69 my_E_group bc_E_group 3 (some .int) 2 0 := ⟨⟨(ze_mem (List.mem_of_getElem? (i := 717) (by decide +kernel)) rfl), (ze_mem (List.mem_of_getElem? (i := 718) (by decide +kernel)) rfl), (ze_mem (List.mem_of_getElem? (i := 719) (by decide +kernel)) rfl), (ze_mem (List.mem_of_getElem? (i := 68) (by decide +kernel)) rfl), (ze_mem (List.mem_of_getElem? (i := 720) rfl) rfl)⟩, by decide +kernel, ct_E, 16, rfl⟩
set_option maxRecDepth 100000 in
theorem zc_W_72 : ze_CV cn_W 72 my_M_group bc_M_group 3 (some .int) 2 9 := ⟨⟨(ze_mem (List.mem_of_getElem? (i := 1130) (by decide +kernel)) rfl), (ze_mem (List.mem_of_getElem? (i := 1131) (by decide +kernel)) rfl), (ze_mem (List.mem_of_getElem? (i := 1132) (by decide +kernel)) rfl), (ze_mem (List.mem_of_getElem? (i := 78) (by decide +kernel)) rfl), (ze_mem (List.mem_of_getElem? (i := 1133) rfl) rfl)⟩, by decide +kernel, ct_M, 61, rfl⟩
set_option maxRecDepth 100000 in
theorem zc_W_73 : ze_CV cn_W 73 my_E_count bc_E_count 2 (some .int) 1 0 := ⟨⟨(ze_mem (List.mem_of_getElem? (i := 721) (by decide +kernel)) rfl), (ze_mem (List.mem_of_getElem? (i := 722) (by decide +kernel)) rfl), (ze_mem (List.mem_of_getElem? (i := 723) (by decide +kernel)) rfl), (ze_mem (List.mem_of_getElem? (i := 68) (by decide +kernel)) rfl), (ze_mem (List.mem_of_getElem? (i := 724) rfl) rfl)⟩, by decide +kernel, ct_E, 16, rfl⟩
set_option maxRecDepth 100000 in
theorem zc_W_76 : ze_CV cn_W 76 my_M_count bc_M_count 2 (some .int) 1 9 := ⟨⟨(ze_mem (List.mem_of_getElem? (i := 1134) (by decide +kernel)) rfl), (ze_mem (List.mem_of_getElem? (i := 1135) (by decide +kernel)) rfl), (ze_mem (List.mem_of_getElem? (i := 1136) (by decide +kernel)) rfl), (ze_mem (List.mem_of_getElem? (i := 78) (by decide +kernel)) rfl), (ze_mem (List.mem_of_getElem? (i := 1137) rfl) rfl)⟩, by decide +kernel, ct_M, 61, rfl⟩
