/-! THE CLAIM OUT OF ONE WALK OF THE LAW'S BODY. Your part is whole_start (and what it stands on); all else here is the same for every law, but numbers. -/
def R_law : String := "RouteEngineLaw"
def lw_P (b : Addr) (xs : List Int32) (args : Array Value) (s : State) : Prop := args = #[.ref b] ∧ s.IntsAt b xs ∧ xs.length ≤ 3072 ∧ (Jvm.Cond.and given_1 narrow_1).before args s = true
def lw_Q (_ : Array Value) (s : State) (o : Outcome) (t : State) : Prop := o = .returned (some (.int 1)) ∧ Framed s o t [] 600000 7302250
def lw_Z (below : List Frame) (a : Array Value) (s : State) : State → Prop := fun t => ∃ o, t.status = .running ∧ Ended t below o ∧ lw_Q a s o t
/-- the law's own end, with 1 on the stack, nothing written that was there before, its room as the claim has it -/
theorem lw_ret {p : Program} {l : Launch} {e : Env} {s : State} {m : MethodId} {below : List Frame} {meth : Method} {c : Code} {b : Nat} (hx : p.tables.exec = Jvm.exec) (hb : c.code = code) (hr : meth.sig.returnType = ret) (hlocks : meth.locks = false) {pc : Nat} {H : Heap} {ls : Array Slot} (hdg : decode code pc = .ok (.ireturn, 1)) : W p l e room_1 s m #[Value.ref b] below meth c H [] 600000 7302250 (lw_Z below #[Value.ref b] s) (F0 m pc ls [.int 1]) := by
  intro T hT X
  obtain ⟨fs, hret, hrun, hended, hW, hframe⟩ := X.leave (v := some (.int 1)) (hlocks := hlocks) (fun h => by rw [hr] at h; cases h)
  have hmeth' : T.vm.method? m = some meth := X.method'
  refine ⟨T.setFrames fs, ?_, .returned (some (.int 1)), hrun, hended, rfl, ⟨_, rfl⟩, hW, hframe⟩
  jvm_step X.here [X.here.top, hx, hb, hdg, hmeth', hr, ret, narrow_b1]
  (try refine ⟨rfl, ?_⟩); (try refine ⟨rfl, ?_⟩)
  first | (intro acts; rw [hret _ acts rfl rfl rfl]) | rw [hret _ _ rfl rfl rfl]
  exact Steps.refl _
/-- what holds at the law's entry: the machine, the code, the tables' words (any of lw_tbl by 'hts w (by decide +kernel)'), the script of L ints xs at the cell b, what the Statement gives of the start (any of its parts by flat_of_before) -/
def lw_At (p : Program) (s : State) (m : MethodId) (meth : Method) (c : Code) (b L : Nat) (xs : Nat → Int32) : Prop :=
  p.tables.exec = Jvm.exec ∧ c.code = code ∧ meth.sig.returnType = ret ∧ c.maxLocals = 4 ∧ s.vm.findClass R_law = some m.cls ∧ (∀ w ∈ lw_tbl, w.before #[Value.ref b] s = true) ∧ va_X b L xs s s.heap ∧ b < s.heap.size ∧ meth.locks = false ∧ (Jvm.Cond.and given_1 narrow_1).before #[Value.ref b] s = true
/-- the script, where the walk finds it: cell 9999 -/
def ze_Sc (G : ze_G) (b Ln : Nat) (xs : Nat → Int32) : Prop := ze_ad G 9999 = b ∧ va_X b Ln xs (ze_s G) (ze_h0 G) ∧ b < (ze_h0 G).size ∧ ¬ ze_A (ze_ad G) b
/-- the law's end -/
def ze_RL (G : ze_G) (b : Nat) : Prop := (ze_me G).sig.returnType = ret ∧ (ze_me G).locks = false ∧ ze_R G = room_1 ∧ ze_ar G = #[Value.ref b] ∧ G.2.2.2.2.1.2.2 = lw_Z G.2.1.2.2.2 #[Value.ref b] (ze_s G) ∧ (∀ k, k < ze_sh.length → (ze_s G).heap.size ≤ ze_ad G k) ∧ (ze_tg G).1 = 1 ∧ G.2.2.2.2.1.1 ≤ 600000 ∧ G.2.2.2.2.1.2.1 ≤ 7302250
section ZL
variable {G : ze_G} {b Ln : Nat} {xs : Nat → Int32} {cc : ByteArray} {own : String} {nL fr lo : Nat} {t : Option (Int32 × ze_H)} {v : ze_H} {pc : Nat} {L : List (Option ze_V)} {st : List ze_V}
theorem ze_sld (X : ze_X G cc own nL fr lo) (S : ze_Sc G b Ln xs) {i : Int32} (d : decode cc pc = .ok (.iaload, 1)) (k : vp_in i Ln → ze_T G t v (pc + 1) L (.inl (xs i.toNatClampNeg) :: st)) : ze_T G (ze_in i Ln t) v pc L (.inl i :: .inr 9999 :: st) := ze_inT (fun hin => fun ht H locs ls hP hS hl => by
  have e : ze_val (ze_ad G) (.inr 9999) = .ref b := by show Value.ref (ze_ad G 9999) = _; rw [S.1]
  have h := va_sld (rest := st.map (ze_val (ze_ad G))) X.1 X.2.1 S.2.1 S.2.2.1 S.2.2.2 hS hin d (k hin ht H locs ls hP hS hl)
  show W _ _ _ _ _ _ _ _ _ _ _ _ _ _ _ (F0 _ _ _ (.int i :: ze_val (ze_ad G) (.inr 9999) :: st.map (ze_val (ze_ad G))))
  rw [e]
  exact h)
theorem ze_slen (X : ze_X G cc own nL fr lo) (S : ze_Sc G b Ln xs) (d : decode cc pc = .ok (.arraylength, 1)) (k : ze_T G t v (pc + 1) L (.inl (Int32.ofNat Ln) :: st)) : ze_T G t v pc L (.inr 9999 :: st) := fun ht H locs ls hP hS hl => by
  have e : ze_val (ze_ad G) (.inr 9999) = .ref b := by show Value.ref (ze_ad G 9999) = _; rw [S.1]
  have h := va_slen (rest := st.map (ze_val (ze_ad G))) X.1 X.2.1 S.2.1 S.2.2.1 S.2.2.2 hS d (k ht H locs ls hP hS hl)
  show W _ _ _ _ _ _ _ _ _ _ _ _ _ _ _ (F0 _ _ _ (ze_val (ze_ad G) (.inr 9999) :: st.map (ze_val (ze_ad G))))
  rw [e]
  exact h
theorem ze_lret (X : ze_X G code own nL fr lo) (Y : ze_RL G b) {x : Int32} (d : decode code pc = .ok (.ireturn, 1)) : ze_T G (some (x, v)) v pc L [.inl x] := fun ht H locs ls hP hS hl => by
  have ht := Option.some.inj ht
  obtain ⟨Y1, Y2, Y3, Y4, Y5, Y6, Y7, Y8, Y9⟩ := Y
  have hx1 : x = 1 := by rw [← ht] at Y7; exact Y7
  subst hx1
  unfold ze_W
  have Y3' : G.1.2.2.2 = room_1 := Y3
  have Y4' : G.2.1.2.2.1 = #[Value.ref b] := Y4
  rw [Y5, Y3', Y4']
  refine va_forget (fun q hq => ?_) (W.widen Y8 Y9 (lw_ret X.1 X.2.1 Y1 Y2 d))
  obtain ⟨k, hk, e⟩ := hS.2.2 q hq
  rw [e]
  exact Y6 k hk
end ZL
def f_W_law_L18 (xs : Nat → Int32) (Ln : Nat)  (kk : ze_H → Option (Int32 × ze_H)) : Nat → Int32 → ze_H → Option (Int32 × ze_H)
  | 0, _, _ => none
  | n + 1, l3, v =>
    (if ((Int32.ofNat Ln) - 6) < l3 then (kk  v) else ze_in l3 Ln ((if ((xs (Int32.toNatClampNeg l3)) &&& 15) = 0 then ze_in (l3 + 1) Ln (ze_in (l3 + 2) Ln (ze_call (f_E_put  (xs (Int32.toNatClampNeg (l3 + 1))) ((((xs (Int32.toNatClampNeg (l3 + 2)))).toUInt32 % 65536).toInt32) v) (fun r2 v3 => ze_in (l3 + 1) Ln (ze_in (l3 + 2) Ln (ze_call (f_M_put  (xs (Int32.toNatClampNeg (l3 + 1))) ((((xs (Int32.toNatClampNeg (l3 + 2)))).toUInt32 % 65536).toInt32) v3) (fun r4 v5 => (if r2 = r4 then ze_let (l3 + 6) (fun x6 => (f_W_law_L18 xs Ln  kk n x6 v5)) else some (0, v5)))))))) else (if ((xs (Int32.toNatClampNeg l3)) &&& 15) = 1 then ze_in (l3 + 1) Ln (ze_call (f_E_clear  (xs (Int32.toNatClampNeg (l3 + 1))) v) (fun r8 v9 => ze_in (l3 + 1) Ln (ze_call (f_M_clear  (xs (Int32.toNatClampNeg (l3 + 1))) v9) (fun r10 v11 => (if r8 = r10 then ze_let (l3 + 6) (fun x12 => (f_W_law_L18 xs Ln  kk n x12 v11)) else some (0, v11)))))) else (if ((xs (Int32.toNatClampNeg l3)) &&& 15) = 2 then ze_call (f_E_read   v) (fun r14 v15 => ze_call (f_M_read   v15) (fun r16 v17 => (if r14 = r16 then ze_let (l3 + 6) (fun x18 => (f_W_law_L18 xs Ln  kk n x18 v17)) else some (0, v17)))) else (if ((xs (Int32.toNatClampNeg l3)) &&& 15) = 3 then ze_in (l3 + 1) Ln (ze_in (l3 + 2) Ln (ze_in (l3 + 3) Ln (ze_in (l3 + 4) Ln ((if (xs (Int32.toNatClampNeg (l3 + 4))) = 0 then ze_in (l3 + 5) Ln ((if (xs (Int32.toNatClampNeg (l3 + 5))) = 0 then ze_call (f_E_clause  (xs (Int32.toNatClampNeg (l3 + 1))) (xs (Int32.toNatClampNeg (l3 + 2))) (xs (Int32.toNatClampNeg (l3 + 3))) 0 0 v) (fun r20 v21 => ze_in (l3 + 1) Ln (ze_in (l3 + 2) Ln (ze_in (l3 + 3) Ln (ze_in (l3 + 4) Ln ((if (xs (Int32.toNatClampNeg (l3 + 4))) = 0 then ze_in (l3 + 5) Ln ((if (xs (Int32.toNatClampNeg (l3 + 5))) = 0 then ze_call (f_M_clause  (xs (Int32.toNatClampNeg (l3 + 1))) (xs (Int32.toNatClampNeg (l3 + 2))) (xs (Int32.toNatClampNeg (l3 + 3))) 0 0 v21) (fun r22 v23 => (if r20 = r22 then ze_let (l3 + 6) (fun x24 => (f_W_law_L18 xs Ln  kk n x24 v23)) else some (0, v23))) else ze_call (f_M_clause  (xs (Int32.toNatClampNeg (l3 + 1))) (xs (Int32.toNatClampNeg (l3 + 2))) (xs (Int32.toNatClampNeg (l3 + 3))) 0 1 v21) (fun r25 v26 => (if r20 = r25 then ze_let (l3 + 6) (fun x27 => (f_W_law_L18 xs Ln  kk n x27 v26)) else some (0, v26))))) else ze_in (l3 + 5) Ln ((if (xs (Int32.toNatClampNeg (l3 + 5))) = 0 then ze_call (f_M_clause  (xs (Int32.toNatClampNeg (l3 + 1))) (xs (Int32.toNatClampNeg (l3 + 2))) (xs (Int32.toNatClampNeg (l3 + 3))) 1 0 v21) (fun r28 v29 => (if r20 = r28 then ze_let (l3 + 6) (fun x30 => (f_W_law_L18 xs Ln  kk n x30 v29)) else some (0, v29))) else ze_call (f_M_clause  (xs (Int32.toNatClampNeg (l3 + 1))) (xs (Int32.toNatClampNeg (l3 + 2))) (xs (Int32.toNatClampNeg (l3 + 3))) 1 1 v21) (fun r31 v32 => (if r20 = r31 then ze_let (l3 + 6) (fun x33 => (f_W_law_L18 xs Ln  kk n x33 v32)) else some (0, v32))))))))))) else ze_call (f_E_clause  (xs (Int32.toNatClampNeg (l3 + 1))) (xs (Int32.toNatClampNeg (l3 + 2))) (xs (Int32.toNatClampNeg (l3 + 3))) 0 1 v) (fun r34 v35 => ze_in (l3 + 1) Ln (ze_in (l3 + 2) Ln (ze_in (l3 + 3) Ln (ze_in (l3 + 4) Ln ((if (xs (Int32.toNatClampNeg (l3 + 4))) = 0 then ze_in (l3 + 5) Ln ((if (xs (Int32.toNatClampNeg (l3 + 5))) = 0 then ze_call (f_M_clause  (xs (Int32.toNatClampNeg (l3 + 1))) (xs (Int32.toNatClampNeg (l3 + 2))) (xs (Int32.toNatClampNeg (l3 + 3))) 0 0 v35) (fun r36 v37 => (if r34 = r36 then ze_let (l3 + 6) (fun x38 => (f_W_law_L18 xs Ln  kk n x38 v37)) else some (0, v37))) else ze_call (f_M_clause  (xs (Int32.toNatClampNeg (l3 + 1))) (xs (Int32.toNatClampNeg (l3 + 2))) (xs (Int32.toNatClampNeg (l3 + 3))) 0 1 v35) (fun r39 v40 => (if r34 = r39 then ze_let (l3 + 6) (fun x41 => (f_W_law_L18 xs Ln  kk n x41 v40)) else some (0, v40))))) else ze_in (l3 + 5) Ln ((if (xs (Int32.toNatClampNeg (l3 + 5))) = 0 then ze_call (f_M_clause  (xs (Int32.toNatClampNeg (l3 + 1))) (xs (Int32.toNatClampNeg (l3 + 2))) (xs (Int32.toNatClampNeg (l3 + 3))) 1 0 v35) (fun r42 v43 => (if r34 = r42 then ze_let (l3 + 6) (fun x44 => (f_W_law_L18 xs Ln  kk n x44 v43)) else some (0, v43))) else ze_call (f_M_clause  (xs (Int32.toNatClampNeg (l3 + 1))) (xs (Int32.toNatClampNeg (l3 + 2))) (xs (Int32.toNatClampNeg (l3 + 3))) 1 1 v35) (fun r45 v46 => (if r34 = r45 then ze_let (l3 + 6) (fun x47 => (f_W_law_L18 xs Ln  kk n x47 v46)) else some (0, v46))))))))))))) else ze_in (l3 + 5) Ln ((if (xs (Int32.toNatClampNeg (l3 + 5))) = 0 then ze_call (f_E_clause  (xs (Int32.toNatClampNeg (l3 + 1))) (xs (Int32.toNatClampNeg (l3 + 2))) (xs (Int32.toNatClampNeg (l3 + 3))) 1 0 v) (fun r48 v49 => ze_in (l3 + 1) Ln (ze_in (l3 + 2) Ln (ze_in (l3 + 3) Ln (ze_in (l3 + 4) Ln ((if (xs (Int32.toNatClampNeg (l3 + 4))) = 0 then ze_in (l3 + 5) Ln ((if (xs (Int32.toNatClampNeg (l3 + 5))) = 0 then ze_call (f_M_clause  (xs (Int32.toNatClampNeg (l3 + 1))) (xs (Int32.toNatClampNeg (l3 + 2))) (xs (Int32.toNatClampNeg (l3 + 3))) 0 0 v49) (fun r50 v51 => (if r48 = r50 then ze_let (l3 + 6) (fun x52 => (f_W_law_L18 xs Ln  kk n x52 v51)) else some (0, v51))) else ze_call (f_M_clause  (xs (Int32.toNatClampNeg (l3 + 1))) (xs (Int32.toNatClampNeg (l3 + 2))) (xs (Int32.toNatClampNeg (l3 + 3))) 0 1 v49) (fun r53 v54 => (if r48 = r53 then ze_let (l3 + 6) (fun x55 => (f_W_law_L18 xs Ln  kk n x55 v54)) else some (0, v54))))) else ze_in (l3 + 5) Ln ((if (xs (Int32.toNatClampNeg (l3 + 5))) = 0 then ze_call (f_M_clause  (xs (Int32.toNatClampNeg (l3 + 1))) (xs (Int32.toNatClampNeg (l3 + 2))) (xs (Int32.toNatClampNeg (l3 + 3))) 1 0 v49) (fun r56 v57 => (if r48 = r56 then ze_let (l3 + 6) (fun x58 => (f_W_law_L18 xs Ln  kk n x58 v57)) else some (0, v57))) else ze_call (f_M_clause  (xs (Int32.toNatClampNeg (l3 + 1))) (xs (Int32.toNatClampNeg (l3 + 2))) (xs (Int32.toNatClampNeg (l3 + 3))) 1 1 v49) (fun r59 v60 => (if r48 = r59 then ze_let (l3 + 6) (fun x61 => (f_W_law_L18 xs Ln  kk n x61 v60)) else some (0, v60))))))))))) else ze_call (f_E_clause  (xs (Int32.toNatClampNeg (l3 + 1))) (xs (Int32.toNatClampNeg (l3 + 2))) (xs (Int32.toNatClampNeg (l3 + 3))) 1 1 v) (fun r62 v63 => ze_in (l3 + 1) Ln (ze_in (l3 + 2) Ln (ze_in (l3 + 3) Ln (ze_in (l3 + 4) Ln ((if (xs (Int32.toNatClampNeg (l3 + 4))) = 0 then ze_in (l3 + 5) Ln ((if (xs (Int32.toNatClampNeg (l3 + 5))) = 0 then ze_call (f_M_clause  (xs (Int32.toNatClampNeg (l3 + 1))) (xs (Int32.toNatClampNeg (l3 + 2))) (xs (Int32.toNatClampNeg (l3 + 3))) 0 0 v63) (fun r64 v65 => (if r62 = r64 then ze_let (l3 + 6) (fun x66 => (f_W_law_L18 xs Ln  kk n x66 v65)) else some (0, v65))) else ze_call (f_M_clause  (xs (Int32.toNatClampNeg (l3 + 1))) (xs (Int32.toNatClampNeg (l3 + 2))) (xs (Int32.toNatClampNeg (l3 + 3))) 0 1 v63) (fun r67 v68 => (if r62 = r67 then ze_let (l3 + 6) (fun x69 => (f_W_law_L18 xs Ln  kk n x69 v68)) else some (0, v68))))) else ze_in (l3 + 5) Ln ((if (xs (Int32.toNatClampNeg (l3 + 5))) = 0 then ze_call (f_M_clause  (xs (Int32.toNatClampNeg (l3 + 1))) (xs (Int32.toNatClampNeg (l3 + 2))) (xs (Int32.toNatClampNeg (l3 + 3))) 1 0 v63) (fun r70 v71 => (if r62 = r70 then ze_let (l3 + 6) (fun x72 => (f_W_law_L18 xs Ln  kk n x72 v71)) else some (0, v71))) else ze_call (f_M_clause  (xs (Int32.toNatClampNeg (l3 + 1))) (xs (Int32.toNatClampNeg (l3 + 2))) (xs (Int32.toNatClampNeg (l3 + 3))) 1 1 v63) (fun r73 v74 => (if r62 = r73 then ze_let (l3 + 6) (fun x75 => (f_W_law_L18 xs Ln  kk n x75 v74)) else some (0, v74)))))))))))))))))) else (if ((xs (Int32.toNatClampNeg l3)) &&& 15) = 4 then ze_call (f_E_forget   v) (fun r77 v78 => ze_call (f_M_forget   v78) (fun r79 v80 => ze_let (l3 + 6) (fun x81 => (f_W_law_L18 xs Ln  kk n x81 v80)))) else (if ((xs (Int32.toNatClampNeg l3)) &&& 15) = 5 then ze_in (l3 + 1) Ln (ze_in (l3 + 2) Ln (ze_in (l3 + 3) Ln (ze_call (f_E_fail  (xs (Int32.toNatClampNeg (l3 + 1))) (xs (Int32.toNatClampNeg (l3 + 2))) (xs (Int32.toNatClampNeg (l3 + 3))) v) (fun r83 v84 => ze_in (l3 + 1) Ln (ze_in (l3 + 2) Ln (ze_in (l3 + 3) Ln (ze_call (f_M_fail  (xs (Int32.toNatClampNeg (l3 + 1))) (xs (Int32.toNatClampNeg (l3 + 2))) (xs (Int32.toNatClampNeg (l3 + 3))) v84) (fun r85 v86 => (if r83 = r85 then ze_let (l3 + 6) (fun x87 => (f_W_law_L18 xs Ln  kk n x87 v86)) else some (0, v86)))))))))) else (if ((xs (Int32.toNatClampNeg l3)) &&& 15) = 6 then ze_in (l3 + 1) Ln (ze_in (l3 + 2) Ln (ze_in (l3 + 3) Ln (ze_call (f_E_send  (xs (Int32.toNatClampNeg (l3 + 1))) (xs (Int32.toNatClampNeg (l3 + 2))) (xs (Int32.toNatClampNeg (l3 + 3))) v) (fun r89 v90 => ze_in (l3 + 1) Ln (ze_in (l3 + 2) Ln (ze_in (l3 + 3) Ln (ze_call (f_M_send  (xs (Int32.toNatClampNeg (l3 + 1))) (xs (Int32.toNatClampNeg (l3 + 2))) (xs (Int32.toNatClampNeg (l3 + 3))) v90) (fun r91 v92 => (if r89 = r91 then ze_let (l3 + 6) (fun x93 => (f_W_law_L18 xs Ln  kk n x93 v92)) else some (0, v92)))))))))) else (if ((xs (Int32.toNatClampNeg l3)) &&& 15) = 7 then ze_call (f_E_work   v) (fun r95 v96 => ze_call (f_M_work   v96) (fun r97 v98 => (if r95 = r97 then ze_let (l3 + 6) (fun x99 => (f_W_law_L18 xs Ln  kk n x99 v98)) else some (0, v98)))) else (if ((xs (Int32.toNatClampNeg l3)) &&& 15) = 8 then ze_in (l3 + 1) Ln (ze_call (f_E_pass  (xs (Int32.toNatClampNeg (l3 + 1))) v) (fun r101 v102 => ze_in (l3 + 1) Ln (ze_call (f_M_pass  (xs (Int32.toNatClampNeg (l3 + 1))) v102) (fun r103 v104 => (if r101 = r103 then ze_let (l3 + 6) (fun x105 => (f_W_law_L18 xs Ln  kk n x105 v104)) else some (0, v104)))))) else (if ((xs (Int32.toNatClampNeg l3)) &&& 15) = 9 then ze_in (l3 + 1) Ln (ze_call (f_E_delivered  (xs (Int32.toNatClampNeg (l3 + 1))) v) (fun r107 v108 => ze_in (l3 + 1) Ln (ze_call (f_M_delivered  (xs (Int32.toNatClampNeg (l3 + 1))) v108) (fun r109 v110 => (if r107 = r109 then ze_let (l3 + 6) (fun x111 => (f_W_law_L18 xs Ln  kk n x111 v110)) else some (0, v110)))))) else (if ((xs (Int32.toNatClampNeg l3)) &&& 15) = 10 then ze_in (l3 + 1) Ln (ze_in (l3 + 2) Ln (ze_call (f_E_body  (xs (Int32.toNatClampNeg (l3 + 1))) (xs (Int32.toNatClampNeg (l3 + 2))) v) (fun r113 v114 => ze_in (l3 + 1) Ln (ze_in (l3 + 2) Ln (ze_call (f_M_body  (xs (Int32.toNatClampNeg (l3 + 1))) (xs (Int32.toNatClampNeg (l3 + 2))) v114) (fun r115 v116 => (if r113 = r115 then ze_let (l3 + 6) (fun x117 => (f_W_law_L18 xs Ln  kk n x117 v116)) else some (0, v116)))))))) else (if ((xs (Int32.toNatClampNeg l3)) &&& 15) = 11 then ze_in (l3 + 1) Ln (ze_in (l3 + 2) Ln (ze_call (f_E_key  (xs (Int32.toNatClampNeg (l3 + 1))) (xs (Int32.toNatClampNeg (l3 + 2))) v) (fun r119 v120 => ze_in (l3 + 1) Ln (ze_in (l3 + 2) Ln (ze_call (f_M_key  (xs (Int32.toNatClampNeg (l3 + 1))) (xs (Int32.toNatClampNeg (l3 + 2))) v120) (fun r121 v122 => (if r119 = r121 then ze_let (l3 + 6) (fun x123 => (f_W_law_L18 xs Ln  kk n x123 v122)) else some (0, v122)))))))) else (if ((xs (Int32.toNatClampNeg l3)) &&& 15) = 12 then ze_in (l3 + 1) Ln (ze_in (l3 + 2) Ln (ze_call (f_E_group  (xs (Int32.toNatClampNeg (l3 + 1))) (xs (Int32.toNatClampNeg (l3 + 2))) v) (fun r125 v126 => ze_in (l3 + 1) Ln (ze_in (l3 + 2) Ln (ze_call (f_M_group  (xs (Int32.toNatClampNeg (l3 + 1))) (xs (Int32.toNatClampNeg (l3 + 2))) v126) (fun r127 v128 => (if r125 = r127 then ze_let (l3 + 6) (fun x129 => (f_W_law_L18 xs Ln  kk n x129 v128)) else some (0, v128)))))))) else (if ((xs (Int32.toNatClampNeg l3)) &&& 15) = 13 then ze_in (l3 + 1) Ln (ze_call (f_E_count  (xs (Int32.toNatClampNeg (l3 + 1))) v) (fun r131 v132 => ze_in (l3 + 1) Ln (ze_call (f_M_count  (xs (Int32.toNatClampNeg (l3 + 1))) v132) (fun r133 v134 => (if r131 = r133 then ze_let (l3 + 6) (fun x135 => (f_W_law_L18 xs Ln  kk n x135 v134)) else some (0, v134)))))) else ze_let (l3 + 6) (fun x136 => (f_W_law_L18 xs Ln  kk n x136 v))))))))))))))))))
set_option maxHeartbeats 4000000 in
set_option maxRecDepth 100000 in
theorem w_W_law_L18 {G : ze_G} {b : Nat} (X : ze_X G code cn_W 4 83 4455) (Y : ze_RL G b)  (xs : Nat → Int32) (Ln : Nat) (hSc : ze_Sc G b Ln xs)   {kk : ze_H → Option (Int32 × ze_H)} (hkk : ∀ (v : ze_H), ze_T G (kk  v) v 554 [none, none, none, none] []) : ∀ (n : Nat) (l3 : Int32) (v : ze_H), ze_T G (f_W_law_L18 xs Ln  kk n l3 v) v 18 [some (.inr 9999), some (.inr 0), some (.inr 75), some (.inl l3)] [] := by
  intro n
  induction n with
  | zero => intro l3 v; exact ze_none
  | succ n ih =>
    intro l3 v
    refine ze_iload_n X dc_W_law_18 rfl rfl ?_
    refine ze_aload_n X dc_W_law_19 rfl rfl ?_
    refine ze_slen X hSc dc_W_law_20 ?_
    refine ze_bipush (x := 6) X dc_W_law_21 (by decide) ?_
    refine ze_isub X dc_W_law_23 ?_
    refine ze_icmp_gt (tgt := 554) X dc_W_law_24 (by decide) (fun _ => ?_) (fun _ => ?_)
    · refine ze_weak [false, false, false, false] ?_
      exact hkk  v
    · refine ze_aload_n X dc_W_law_27 rfl rfl ?_
      refine ze_iload_n X dc_W_law_28 rfl rfl ?_
      refine ze_sld X hSc dc_W_law_29 (fun _ => ?_)
      refine ze_bipush (x := 15) X dc_W_law_30 (by decide) ?_
      refine ze_iand X dc_W_law_32 ?_
      refine ze_if (c := ((xs (Int32.toNatClampNeg l3)) &&& 15) = 0) (fun hq => ?_) (fun hn1 => ?_)
      · refine ze_tabI (off := 71) (tgt := 104) X dc_W_law_33 (by rw [hq]; decide) (by rw [hq]; decide) (by rw [hq]; rfl) (by decide) ?_
        refine ze_aload_n X dc_W_law_104 rfl rfl ?_
        refine ze_aload_n X dc_W_law_105 rfl rfl ?_
        refine ze_iload_n X dc_W_law_106 rfl rfl ?_
        refine ze_iconst (x := 1) X dc_W_law_107 (by decide) ?_
        refine ze_iadd X dc_W_law_108 ?_
        refine ze_sld X hSc dc_W_law_109 (fun _ => ?_)
        refine ze_aload_n X dc_W_law_110 rfl rfl ?_
        refine ze_iload_n X dc_W_law_111 rfl rfl ?_
        refine ze_iconst (x := 2) X dc_W_law_112 (by decide) ?_
        refine ze_iadd X dc_W_law_113 ?_
        refine ze_sld X hSc dc_W_law_114 (fun _ => ?_)
        refine ze_i2c X dc_W_law_115 ?_
        refine ze_callVi (As := [.inl (xs (Int32.toNatClampNeg (l3 + 1))), .inl ((((xs (Int32.toNatClampNeg (l3 + 2)))).toUInt32 % 65536).toInt32)]) (st := []) X dc_W_law_116 zc_W_13 sh_0 (fun zr zv zh => c_E_put X.2.2.2.2.2.2.1  (xs (Int32.toNatClampNeg (l3 + 1))) ((((xs (Int32.toNatClampNeg (l3 + 2)))).toUInt32 % 65536).toInt32)  v zh) rfl (by decide) (by decide) (Nat.le_of_ble_eq_true rfl) (fun r2 v3 => ?_)
        refine ze_aload_n X dc_W_law_119 rfl rfl ?_
        refine ze_aload_n X dc_W_law_120 rfl rfl ?_
        refine ze_iload_n X dc_W_law_121 rfl rfl ?_
        refine ze_iconst (x := 1) X dc_W_law_122 (by decide) ?_
        refine ze_iadd X dc_W_law_123 ?_
        refine ze_sld X hSc dc_W_law_124 (fun _ => ?_)
        refine ze_aload_n X dc_W_law_125 rfl rfl ?_
        refine ze_iload_n X dc_W_law_126 rfl rfl ?_
        refine ze_iconst (x := 2) X dc_W_law_127 (by decide) ?_
        refine ze_iadd X dc_W_law_128 ?_
        refine ze_sld X hSc dc_W_law_129 (fun _ => ?_)
        refine ze_i2c X dc_W_law_130 ?_
        refine ze_callVi (As := [.inl (xs (Int32.toNatClampNeg (l3 + 1))), .inl ((((xs (Int32.toNatClampNeg (l3 + 2)))).toUInt32 % 65536).toInt32)]) (st := [.inl r2]) X dc_W_law_131 zc_W_17 sh_75 (fun zr zv zh => c_M_put X.2.2.2.2.2.2.1  (xs (Int32.toNatClampNeg (l3 + 1))) ((((xs (Int32.toNatClampNeg (l3 + 2)))).toUInt32 % 65536).toInt32)  v3 zh) rfl (by decide) (by decide) (Nat.le_of_ble_eq_true rfl) (fun r4 v5 => ?_)
        refine ze_icmp_eq (tgt := 548) X dc_W_law_134 (by decide) (fun _ => ?_) (fun _ => ?_)
        · refine ze_iinc (y := 6) X dc_W_law_548 rfl (by decide) (by decide) (fun x6 => ?_)
          refine ze_goto (tgt := 18) X dc_W_law_551 (by decide) ?_
          refine ze_weak [true, true, true, true] ?_
          exact ih x6 v5
        · refine ze_iconst (x := 0) X dc_W_law_137 (by decide) ?_
          exact ze_lret X Y dc_W_law_138
      refine ze_if (c := ((xs (Int32.toNatClampNeg l3)) &&& 15) = 1) (fun hq => ?_) (fun hn7 => ?_)
      · refine ze_tabI (off := 106) (tgt := 139) X dc_W_law_33 (by rw [hq]; decide) (by rw [hq]; decide) (by rw [hq]; rfl) (by decide) ?_
        refine ze_aload_n X dc_W_law_139 rfl rfl ?_
        refine ze_aload_n X dc_W_law_140 rfl rfl ?_
        refine ze_iload_n X dc_W_law_141 rfl rfl ?_
        refine ze_iconst (x := 1) X dc_W_law_142 (by decide) ?_
        refine ze_iadd X dc_W_law_143 ?_
        refine ze_sld X hSc dc_W_law_144 (fun _ => ?_)
        refine ze_callVi (As := [.inl (xs (Int32.toNatClampNeg (l3 + 1)))]) (st := []) X dc_W_law_145 zc_W_18 sh_0 (fun zr zv zh => c_E_clear X.2.2.2.2.2.2.1  (xs (Int32.toNatClampNeg (l3 + 1)))  v zh) rfl (by decide) (by decide) (Nat.le_of_ble_eq_true rfl) (fun r8 v9 => ?_)
        refine ze_aload_n X dc_W_law_148 rfl rfl ?_
        refine ze_aload_n X dc_W_law_149 rfl rfl ?_
        refine ze_iload_n X dc_W_law_150 rfl rfl ?_
        refine ze_iconst (x := 1) X dc_W_law_151 (by decide) ?_
        refine ze_iadd X dc_W_law_152 ?_
        refine ze_sld X hSc dc_W_law_153 (fun _ => ?_)
        refine ze_callVi (As := [.inl (xs (Int32.toNatClampNeg (l3 + 1)))]) (st := [.inl r8]) X dc_W_law_154 zc_W_22 sh_75 (fun zr zv zh => c_M_clear X.2.2.2.2.2.2.1  (xs (Int32.toNatClampNeg (l3 + 1)))  v9 zh) rfl (by decide) (by decide) (Nat.le_of_ble_eq_true rfl) (fun r10 v11 => ?_)
        refine ze_icmp_eq (tgt := 548) X dc_W_law_157 (by decide) (fun _ => ?_) (fun _ => ?_)
        · refine ze_iinc (y := 6) X dc_W_law_548 rfl (by decide) (by decide) (fun x12 => ?_)
          refine ze_goto (tgt := 18) X dc_W_law_551 (by decide) ?_
          refine ze_weak [true, true, true, true] ?_
          exact ih x12 v11
        · refine ze_iconst (x := 0) X dc_W_law_160 (by decide) ?_
          exact ze_lret X Y dc_W_law_161
      refine ze_if (c := ((xs (Int32.toNatClampNeg l3)) &&& 15) = 2) (fun hq => ?_) (fun hn13 => ?_)
      · refine ze_tabI (off := 129) (tgt := 162) X dc_W_law_33 (by rw [hq]; decide) (by rw [hq]; decide) (by rw [hq]; rfl) (by decide) ?_
        refine ze_aload_n X dc_W_law_162 rfl rfl ?_
        refine ze_callVi (As := []) (st := []) X dc_W_law_163 zc_W_23 sh_0 (fun zr zv zh => c_E_read X.2.2.2.2.2.2.1    v zh) rfl (by decide) (by decide) (Nat.le_of_ble_eq_true rfl) (fun r14 v15 => ?_)
        refine ze_aload_n X dc_W_law_166 rfl rfl ?_
        refine ze_callVi (As := []) (st := [.inl r14]) X dc_W_law_167 zc_W_27 sh_75 (fun zr zv zh => c_M_read X.2.2.2.2.2.2.1    v15 zh) rfl (by decide) (by decide) (Nat.le_of_ble_eq_true rfl) (fun r16 v17 => ?_)
        refine ze_icmp_eq (tgt := 548) X dc_W_law_170 (by decide) (fun _ => ?_) (fun _ => ?_)
        · refine ze_iinc (y := 6) X dc_W_law_548 rfl (by decide) (by decide) (fun x18 => ?_)
          refine ze_goto (tgt := 18) X dc_W_law_551 (by decide) ?_
          refine ze_weak [true, true, true, true] ?_
          exact ih x18 v17
        · refine ze_iconst (x := 0) X dc_W_law_173 (by decide) ?_
          exact ze_lret X Y dc_W_law_174
      refine ze_if (c := ((xs (Int32.toNatClampNeg l3)) &&& 15) = 3) (fun hq => ?_) (fun hn19 => ?_)
      · refine ze_tabI (off := 142) (tgt := 175) X dc_W_law_33 (by rw [hq]; decide) (by rw [hq]; decide) (by rw [hq]; rfl) (by decide) ?_
        refine ze_aload_n X dc_W_law_175 rfl rfl ?_
        refine ze_aload_n X dc_W_law_176 rfl rfl ?_
        refine ze_iload_n X dc_W_law_177 rfl rfl ?_
        refine ze_iconst (x := 1) X dc_W_law_178 (by decide) ?_
        refine ze_iadd X dc_W_law_179 ?_
        refine ze_sld X hSc dc_W_law_180 (fun _ => ?_)
        refine ze_aload_n X dc_W_law_181 rfl rfl ?_
        refine ze_iload_n X dc_W_law_182 rfl rfl ?_
        refine ze_iconst (x := 2) X dc_W_law_183 (by decide) ?_
        refine ze_iadd X dc_W_law_184 ?_
        refine ze_sld X hSc dc_W_law_185 (fun _ => ?_)
        refine ze_aload_n X dc_W_law_186 rfl rfl ?_
        refine ze_iload_n X dc_W_law_187 rfl rfl ?_
        refine ze_iconst (x := 3) X dc_W_law_188 (by decide) ?_
        refine ze_iadd X dc_W_law_189 ?_
        refine ze_sld X hSc dc_W_law_190 (fun _ => ?_)
        refine ze_aload_n X dc_W_law_191 rfl rfl ?_
        refine ze_iload_n X dc_W_law_192 rfl rfl ?_
        refine ze_iconst (x := 4) X dc_W_law_193 (by decide) ?_
        refine ze_iadd X dc_W_law_194 ?_
        refine ze_sld X hSc dc_W_law_195 (fun _ => ?_)
        refine ze_if_eq (tgt := 203) X dc_W_law_196 (by decide) (fun _ => ?_) (fun _ => ?_)
        · refine ze_iconst (x := 0) X dc_W_law_203 (by decide) ?_
          refine ze_aload_n X dc_W_law_204 rfl rfl ?_
          refine ze_iload_n X dc_W_law_205 rfl rfl ?_
          refine ze_iconst (x := 5) X dc_W_law_206 (by decide) ?_
          refine ze_iadd X dc_W_law_207 ?_
          refine ze_sld X hSc dc_W_law_208 (fun _ => ?_)
          refine ze_if_eq (tgt := 216) X dc_W_law_209 (by decide) (fun _ => ?_) (fun _ => ?_)
          · refine ze_iconst (x := 0) X dc_W_law_216 (by decide) ?_
            refine ze_callVi (As := [.inl (xs (Int32.toNatClampNeg (l3 + 1))), .inl (xs (Int32.toNatClampNeg (l3 + 2))), .inl (xs (Int32.toNatClampNeg (l3 + 3))), .inl 0, .inl 0]) (st := []) X dc_W_law_217 zc_W_28 sh_0 (fun zr zv zh => c_E_clause X.2.2.2.2.2.2.1  (xs (Int32.toNatClampNeg (l3 + 1))) (xs (Int32.toNatClampNeg (l3 + 2))) (xs (Int32.toNatClampNeg (l3 + 3))) 0 0  v zh) rfl (by decide) (by decide) (Nat.le_of_ble_eq_true rfl) (fun r20 v21 => ?_)
            refine ze_aload_n X dc_W_law_220 rfl rfl ?_
            refine ze_aload_n X dc_W_law_221 rfl rfl ?_
            refine ze_iload_n X dc_W_law_222 rfl rfl ?_
            refine ze_iconst (x := 1) X dc_W_law_223 (by decide) ?_
            refine ze_iadd X dc_W_law_224 ?_
            refine ze_sld X hSc dc_W_law_225 (fun _ => ?_)
            refine ze_aload_n X dc_W_law_226 rfl rfl ?_
            refine ze_iload_n X dc_W_law_227 rfl rfl ?_
            refine ze_iconst (x := 2) X dc_W_law_228 (by decide) ?_
            refine ze_iadd X dc_W_law_229 ?_
            refine ze_sld X hSc dc_W_law_230 (fun _ => ?_)
            refine ze_aload_n X dc_W_law_231 rfl rfl ?_
            refine ze_iload_n X dc_W_law_232 rfl rfl ?_
            refine ze_iconst (x := 3) X dc_W_law_233 (by decide) ?_
            refine ze_iadd X dc_W_law_234 ?_
            refine ze_sld X hSc dc_W_law_235 (fun _ => ?_)
            refine ze_aload_n X dc_W_law_236 rfl rfl ?_
            refine ze_iload_n X dc_W_law_237 rfl rfl ?_
            refine ze_iconst (x := 4) X dc_W_law_238 (by decide) ?_
            refine ze_iadd X dc_W_law_239 ?_
            refine ze_sld X hSc dc_W_law_240 (fun _ => ?_)
            refine ze_if_eq (tgt := 248) X dc_W_law_241 (by decide) (fun _ => ?_) (fun _ => ?_)
            · refine ze_iconst (x := 0) X dc_W_law_248 (by decide) ?_
              refine ze_aload_n X dc_W_law_249 rfl rfl ?_
              refine ze_iload_n X dc_W_law_250 rfl rfl ?_
              refine ze_iconst (x := 5) X dc_W_law_251 (by decide) ?_
              refine ze_iadd X dc_W_law_252 ?_
              refine ze_sld X hSc dc_W_law_253 (fun _ => ?_)
              refine ze_if_eq (tgt := 261) X dc_W_law_254 (by decide) (fun _ => ?_) (fun _ => ?_)
              · refine ze_iconst (x := 0) X dc_W_law_261 (by decide) ?_
                refine ze_callVi (As := [.inl (xs (Int32.toNatClampNeg (l3 + 1))), .inl (xs (Int32.toNatClampNeg (l3 + 2))), .inl (xs (Int32.toNatClampNeg (l3 + 3))), .inl 0, .inl 0]) (st := [.inl r20]) X dc_W_law_262 zc_W_32 sh_75 (fun zr zv zh => c_M_clause X.2.2.2.2.2.2.1  (xs (Int32.toNatClampNeg (l3 + 1))) (xs (Int32.toNatClampNeg (l3 + 2))) (xs (Int32.toNatClampNeg (l3 + 3))) 0 0  v21 zh) rfl (by decide) (by decide) (Nat.le_of_ble_eq_true rfl) (fun r22 v23 => ?_)
                refine ze_icmp_eq (tgt := 548) X dc_W_law_265 (by decide) (fun _ => ?_) (fun _ => ?_)
                · refine ze_iinc (y := 6) X dc_W_law_548 rfl (by decide) (by decide) (fun x24 => ?_)
                  refine ze_goto (tgt := 18) X dc_W_law_551 (by decide) ?_
                  refine ze_weak [true, true, true, true] ?_
                  exact ih x24 v23
                · refine ze_iconst (x := 0) X dc_W_law_268 (by decide) ?_
                  exact ze_lret X Y dc_W_law_269
              · refine ze_iconst (x := 1) X dc_W_law_257 (by decide) ?_
                refine ze_goto (tgt := 262) X dc_W_law_258 (by decide) ?_
                refine ze_callVi (As := [.inl (xs (Int32.toNatClampNeg (l3 + 1))), .inl (xs (Int32.toNatClampNeg (l3 + 2))), .inl (xs (Int32.toNatClampNeg (l3 + 3))), .inl 0, .inl 1]) (st := [.inl r20]) X dc_W_law_262 zc_W_32 sh_75 (fun zr zv zh => c_M_clause X.2.2.2.2.2.2.1  (xs (Int32.toNatClampNeg (l3 + 1))) (xs (Int32.toNatClampNeg (l3 + 2))) (xs (Int32.toNatClampNeg (l3 + 3))) 0 1  v21 zh) rfl (by decide) (by decide) (Nat.le_of_ble_eq_true rfl) (fun r25 v26 => ?_)
                refine ze_icmp_eq (tgt := 548) X dc_W_law_265 (by decide) (fun _ => ?_) (fun _ => ?_)
                · refine ze_iinc (y := 6) X dc_W_law_548 rfl (by decide) (by decide) (fun x27 => ?_)
                  refine ze_goto (tgt := 18) X dc_W_law_551 (by decide) ?_
                  refine ze_weak [true, true, true, true] ?_
                  exact ih x27 v26
                · refine ze_iconst (x := 0) X dc_W_law_268 (by decide) ?_
                  exact ze_lret X Y dc_W_law_269
            · refine ze_iconst (x := 1) X dc_W_law_244 (by decide) ?_
              refine ze_goto (tgt := 249) X dc_W_law_245 (by decide) ?_
              refine ze_aload_n X dc_W_law_249 rfl rfl ?_
              refine ze_iload_n X dc_W_law_250 rfl rfl ?_
              refine ze_iconst (x := 5) X dc_W_law_251 (by decide) ?_
              refine ze_iadd X dc_W_law_252 ?_
              refine ze_sld X hSc dc_W_law_253 (fun _ => ?_)
              refine ze_if_eq (tgt := 261) X dc_W_law_254 (by decide) (fun _ => ?_) (fun _ => ?_)
              · refine ze_iconst (x := 0) X dc_W_law_261 (by decide) ?_
                refine ze_callVi (As := [.inl (xs (Int32.toNatClampNeg (l3 + 1))), .inl (xs (Int32.toNatClampNeg (l3 + 2))), .inl (xs (Int32.toNatClampNeg (l3 + 3))), .inl 1, .inl 0]) (st := [.inl r20]) X dc_W_law_262 zc_W_32 sh_75 (fun zr zv zh => c_M_clause X.2.2.2.2.2.2.1  (xs (Int32.toNatClampNeg (l3 + 1))) (xs (Int32.toNatClampNeg (l3 + 2))) (xs (Int32.toNatClampNeg (l3 + 3))) 1 0  v21 zh) rfl (by decide) (by decide) (Nat.le_of_ble_eq_true rfl) (fun r28 v29 => ?_)
                refine ze_icmp_eq (tgt := 548) X dc_W_law_265 (by decide) (fun _ => ?_) (fun _ => ?_)
                · refine ze_iinc (y := 6) X dc_W_law_548 rfl (by decide) (by decide) (fun x30 => ?_)
                  refine ze_goto (tgt := 18) X dc_W_law_551 (by decide) ?_
                  refine ze_weak [true, true, true, true] ?_
                  exact ih x30 v29
                · refine ze_iconst (x := 0) X dc_W_law_268 (by decide) ?_
                  exact ze_lret X Y dc_W_law_269
              · refine ze_iconst (x := 1) X dc_W_law_257 (by decide) ?_
                refine ze_goto (tgt := 262) X dc_W_law_258 (by decide) ?_
                refine ze_callVi (As := [.inl (xs (Int32.toNatClampNeg (l3 + 1))), .inl (xs (Int32.toNatClampNeg (l3 + 2))), .inl (xs (Int32.toNatClampNeg (l3 + 3))), .inl 1, .inl 1]) (st := [.inl r20]) X dc_W_law_262 zc_W_32 sh_75 (fun zr zv zh => c_M_clause X.2.2.2.2.2.2.1  (xs (Int32.toNatClampNeg (l3 + 1))) (xs (Int32.toNatClampNeg (l3 + 2))) (xs (Int32.toNatClampNeg (l3 + 3))) 1 1  v21 zh) rfl (by decide) (by decide) (Nat.le_of_ble_eq_true rfl) (fun r31 v32 => ?_)
                refine ze_icmp_eq (tgt := 548) X dc_W_law_265 (by decide) (fun _ => ?_) (fun _ => ?_)
                · refine ze_iinc (y := 6) X dc_W_law_548 rfl (by decide) (by decide) (fun x33 => ?_)
                  refine ze_goto (tgt := 18) X dc_W_law_551 (by decide) ?_
                  refine ze_weak [true, true, true, true] ?_
                  exact ih x33 v32
                · refine ze_iconst (x := 0) X dc_W_law_268 (by decide) ?_
                  exact ze_lret X Y dc_W_law_269
          · refine ze_iconst (x := 1) X dc_W_law_212 (by decide) ?_
            refine ze_goto (tgt := 217) X dc_W_law_213 (by decide) ?_
            refine ze_callVi (As := [.inl (xs (Int32.toNatClampNeg (l3 + 1))), .inl (xs (Int32.toNatClampNeg (l3 + 2))), .inl (xs (Int32.toNatClampNeg (l3 + 3))), .inl 0, .inl 1]) (st := []) X dc_W_law_217 zc_W_28 sh_0 (fun zr zv zh => c_E_clause X.2.2.2.2.2.2.1  (xs (Int32.toNatClampNeg (l3 + 1))) (xs (Int32.toNatClampNeg (l3 + 2))) (xs (Int32.toNatClampNeg (l3 + 3))) 0 1  v zh) rfl (by decide) (by decide) (Nat.le_of_ble_eq_true rfl) (fun r34 v35 => ?_)
            refine ze_aload_n X dc_W_law_220 rfl rfl ?_
            refine ze_aload_n X dc_W_law_221 rfl rfl ?_
            refine ze_iload_n X dc_W_law_222 rfl rfl ?_
            refine ze_iconst (x := 1) X dc_W_law_223 (by decide) ?_
            refine ze_iadd X dc_W_law_224 ?_
            refine ze_sld X hSc dc_W_law_225 (fun _ => ?_)
            refine ze_aload_n X dc_W_law_226 rfl rfl ?_
            refine ze_iload_n X dc_W_law_227 rfl rfl ?_
            refine ze_iconst (x := 2) X dc_W_law_228 (by decide) ?_
            refine ze_iadd X dc_W_law_229 ?_
            refine ze_sld X hSc dc_W_law_230 (fun _ => ?_)
            refine ze_aload_n X dc_W_law_231 rfl rfl ?_
            refine ze_iload_n X dc_W_law_232 rfl rfl ?_
            refine ze_iconst (x := 3) X dc_W_law_233 (by decide) ?_
            refine ze_iadd X dc_W_law_234 ?_
            refine ze_sld X hSc dc_W_law_235 (fun _ => ?_)
            refine ze_aload_n X dc_W_law_236 rfl rfl ?_
            refine ze_iload_n X dc_W_law_237 rfl rfl ?_
            refine ze_iconst (x := 4) X dc_W_law_238 (by decide) ?_
            refine ze_iadd X dc_W_law_239 ?_
            refine ze_sld X hSc dc_W_law_240 (fun _ => ?_)
            refine ze_if_eq (tgt := 248) X dc_W_law_241 (by decide) (fun _ => ?_) (fun _ => ?_)
            · refine ze_iconst (x := 0) X dc_W_law_248 (by decide) ?_
              refine ze_aload_n X dc_W_law_249 rfl rfl ?_
              refine ze_iload_n X dc_W_law_250 rfl rfl ?_
              refine ze_iconst (x := 5) X dc_W_law_251 (by decide) ?_
              refine ze_iadd X dc_W_law_252 ?_
              refine ze_sld X hSc dc_W_law_253 (fun _ => ?_)
              refine ze_if_eq (tgt := 261) X dc_W_law_254 (by decide) (fun _ => ?_) (fun _ => ?_)
              · refine ze_iconst (x := 0) X dc_W_law_261 (by decide) ?_
                refine ze_callVi (As := [.inl (xs (Int32.toNatClampNeg (l3 + 1))), .inl (xs (Int32.toNatClampNeg (l3 + 2))), .inl (xs (Int32.toNatClampNeg (l3 + 3))), .inl 0, .inl 0]) (st := [.inl r34]) X dc_W_law_262 zc_W_32 sh_75 (fun zr zv zh => c_M_clause X.2.2.2.2.2.2.1  (xs (Int32.toNatClampNeg (l3 + 1))) (xs (Int32.toNatClampNeg (l3 + 2))) (xs (Int32.toNatClampNeg (l3 + 3))) 0 0  v35 zh) rfl (by decide) (by decide) (Nat.le_of_ble_eq_true rfl) (fun r36 v37 => ?_)
                refine ze_icmp_eq (tgt := 548) X dc_W_law_265 (by decide) (fun _ => ?_) (fun _ => ?_)
                · refine ze_iinc (y := 6) X dc_W_law_548 rfl (by decide) (by decide) (fun x38 => ?_)
                  refine ze_goto (tgt := 18) X dc_W_law_551 (by decide) ?_
                  refine ze_weak [true, true, true, true] ?_
                  exact ih x38 v37
                · refine ze_iconst (x := 0) X dc_W_law_268 (by decide) ?_
                  exact ze_lret X Y dc_W_law_269
              · refine ze_iconst (x := 1) X dc_W_law_257 (by decide) ?_
                refine ze_goto (tgt := 262) X dc_W_law_258 (by decide) ?_
                refine ze_callVi (As := [.inl (xs (Int32.toNatClampNeg (l3 + 1))), .inl (xs (Int32.toNatClampNeg (l3 + 2))), .inl (xs (Int32.toNatClampNeg (l3 + 3))), .inl 0, .inl 1]) (st := [.inl r34]) X dc_W_law_262 zc_W_32 sh_75 (fun zr zv zh => c_M_clause X.2.2.2.2.2.2.1  (xs (Int32.toNatClampNeg (l3 + 1))) (xs (Int32.toNatClampNeg (l3 + 2))) (xs (Int32.toNatClampNeg (l3 + 3))) 0 1  v35 zh) rfl (by decide) (by decide) (Nat.le_of_ble_eq_true rfl) (fun r39 v40 => ?_)
                refine ze_icmp_eq (tgt := 548) X dc_W_law_265 (by decide) (fun _ => ?_) (fun _ => ?_)
                · refine ze_iinc (y := 6) X dc_W_law_548 rfl (by decide) (by decide) (fun x41 => ?_)
                  refine ze_goto (tgt := 18) X dc_W_law_551 (by decide) ?_
                  refine ze_weak [true, true, true, true] ?_
                  exact ih x41 v40
                · refine ze_iconst (x := 0) X dc_W_law_268 (by decide) ?_
                  exact ze_lret X Y dc_W_law_269
            · refine ze_iconst (x := 1) X dc_W_law_244 (by decide) ?_
              refine ze_goto (tgt := 249) X dc_W_law_245 (by decide) ?_
              refine ze_aload_n X dc_W_law_249 rfl rfl ?_
              refine ze_iload_n X dc_W_law_250 rfl rfl ?_
              refine ze_iconst (x := 5) X dc_W_law_251 (by decide) ?_
              refine ze_iadd X dc_W_law_252 ?_
              refine ze_sld X hSc dc_W_law_253 (fun _ => ?_)
              refine ze_if_eq (tgt := 261) X dc_W_law_254 (by decide) (fun _ => ?_) (fun _ => ?_)
              · refine ze_iconst (x := 0) X dc_W_law_261 (by decide) ?_
                refine ze_callVi (As := [.inl (xs (Int32.toNatClampNeg (l3 + 1))), .inl (xs (Int32.toNatClampNeg (l3 + 2))), .inl (xs (Int32.toNatClampNeg (l3 + 3))), .inl 1, .inl 0]) (st := [.inl r34]) X dc_W_law_262 zc_W_32 sh_75 (fun zr zv zh => c_M_clause X.2.2.2.2.2.2.1  (xs (Int32.toNatClampNeg (l3 + 1))) (xs (Int32.toNatClampNeg (l3 + 2))) (xs (Int32.toNatClampNeg (l3 + 3))) 1 0  v35 zh) rfl (by decide) (by decide) (Nat.le_of_ble_eq_true rfl) (fun r42 v43 => ?_)
                refine ze_icmp_eq (tgt := 548) X dc_W_law_265 (by decide) (fun _ => ?_) (fun _ => ?_)
                · refine ze_iinc (y := 6) X dc_W_law_548 rfl (by decide) (by decide) (fun x44 => ?_)
                  refine ze_goto (tgt := 18) X dc_W_law_551 (by decide) ?_
                  refine ze_weak [true, true, true, true] ?_
                  exact ih x44 v43
                · refine ze_iconst (x := 0) X dc_W_law_268 (by decide) ?_
                  exact ze_lret X Y dc_W_law_269
              · refine ze_iconst (x := 1) X dc_W_law_257 (by decide) ?_
                refine ze_goto (tgt := 262) X dc_W_law_258 (by decide) ?_
                refine ze_callVi (As := [.inl (xs (Int32.toNatClampNeg (l3 + 1))), .inl (xs (Int32.toNatClampNeg (l3 + 2))), .inl (xs (Int32.toNatClampNeg (l3 + 3))), .inl 1, .inl 1]) (st := [.inl r34]) X dc_W_law_262 zc_W_32 sh_75 (fun zr zv zh => c_M_clause X.2.2.2.2.2.2.1  (xs (Int32.toNatClampNeg (l3 + 1))) (xs (Int32.toNatClampNeg (l3 + 2))) (xs (Int32.toNatClampNeg (l3 + 3))) 1 1  v35 zh) rfl (by decide) (by decide) (Nat.le_of_ble_eq_true rfl) (fun r45 v46 => ?_)
                refine ze_icmp_eq (tgt := 548) X dc_W_law_265 (by decide) (fun _ => ?_) (fun _ => ?_)
                · refine ze_iinc (y := 6) X dc_W_law_548 rfl (by decide) (by decide) (fun x47 => ?_)
                  refine ze_goto (tgt := 18) X dc_W_law_551 (by decide) ?_
                  refine ze_weak [true, true, true, true] ?_
                  exact ih x47 v46
                · refine ze_iconst (x := 0) X dc_W_law_268 (by decide) ?_
                  exact ze_lret X Y dc_W_law_269
        · refine ze_iconst (x := 1) X dc_W_law_199 (by decide) ?_
          refine ze_goto (tgt := 204) X dc_W_law_200 (by decide) ?_
          refine ze_aload_n X dc_W_law_204 rfl rfl ?_
          refine ze_iload_n X dc_W_law_205 rfl rfl ?_
          refine ze_iconst (x := 5) X dc_W_law_206 (by decide) ?_
          refine ze_iadd X dc_W_law_207 ?_
          refine ze_sld X hSc dc_W_law_208 (fun _ => ?_)
          refine ze_if_eq (tgt := 216) X dc_W_law_209 (by decide) (fun _ => ?_) (fun _ => ?_)
          · refine ze_iconst (x := 0) X dc_W_law_216 (by decide) ?_
            refine ze_callVi (As := [.inl (xs (Int32.toNatClampNeg (l3 + 1))), .inl (xs (Int32.toNatClampNeg (l3 + 2))), .inl (xs (Int32.toNatClampNeg (l3 + 3))), .inl 1, .inl 0]) (st := []) X dc_W_law_217 zc_W_28 sh_0 (fun zr zv zh => c_E_clause X.2.2.2.2.2.2.1  (xs (Int32.toNatClampNeg (l3 + 1))) (xs (Int32.toNatClampNeg (l3 + 2))) (xs (Int32.toNatClampNeg (l3 + 3))) 1 0  v zh) rfl (by decide) (by decide) (Nat.le_of_ble_eq_true rfl) (fun r48 v49 => ?_)
            refine ze_aload_n X dc_W_law_220 rfl rfl ?_
            refine ze_aload_n X dc_W_law_221 rfl rfl ?_
            refine ze_iload_n X dc_W_law_222 rfl rfl ?_
            refine ze_iconst (x := 1) X dc_W_law_223 (by decide) ?_
            refine ze_iadd X dc_W_law_224 ?_
            refine ze_sld X hSc dc_W_law_225 (fun _ => ?_)
            refine ze_aload_n X dc_W_law_226 rfl rfl ?_
            refine ze_iload_n X dc_W_law_227 rfl rfl ?_
            refine ze_iconst (x := 2) X dc_W_law_228 (by decide) ?_
            refine ze_iadd X dc_W_law_229 ?_
            refine ze_sld X hSc dc_W_law_230 (fun _ => ?_)
            refine ze_aload_n X dc_W_law_231 rfl rfl ?_
            refine ze_iload_n X dc_W_law_232 rfl rfl ?_
            refine ze_iconst (x := 3) X dc_W_law_233 (by decide) ?_
            refine ze_iadd X dc_W_law_234 ?_
            refine ze_sld X hSc dc_W_law_235 (fun _ => ?_)
            refine ze_aload_n X dc_W_law_236 rfl rfl ?_
            refine ze_iload_n X dc_W_law_237 rfl rfl ?_
            refine ze_iconst (x := 4) X dc_W_law_238 (by decide) ?_
            refine ze_iadd X dc_W_law_239 ?_
            refine ze_sld X hSc dc_W_law_240 (fun _ => ?_)
            refine ze_if_eq (tgt := 248) X dc_W_law_241 (by decide) (fun _ => ?_) (fun _ => ?_)
            · refine ze_iconst (x := 0) X dc_W_law_248 (by decide) ?_
              refine ze_aload_n X dc_W_law_249 rfl rfl ?_
              refine ze_iload_n X dc_W_law_250 rfl rfl ?_
              refine ze_iconst (x := 5) X dc_W_law_251 (by decide) ?_
              refine ze_iadd X dc_W_law_252 ?_
              refine ze_sld X hSc dc_W_law_253 (fun _ => ?_)
              refine ze_if_eq (tgt := 261) X dc_W_law_254 (by decide) (fun _ => ?_) (fun _ => ?_)
              · refine ze_iconst (x := 0) X dc_W_law_261 (by decide) ?_
                refine ze_callVi (As := [.inl (xs (Int32.toNatClampNeg (l3 + 1))), .inl (xs (Int32.toNatClampNeg (l3 + 2))), .inl (xs (Int32.toNatClampNeg (l3 + 3))), .inl 0, .inl 0]) (st := [.inl r48]) X dc_W_law_262 zc_W_32 sh_75 (fun zr zv zh => c_M_clause X.2.2.2.2.2.2.1  (xs (Int32.toNatClampNeg (l3 + 1))) (xs (Int32.toNatClampNeg (l3 + 2))) (xs (Int32.toNatClampNeg (l3 + 3))) 0 0  v49 zh) rfl (by decide) (by decide) (Nat.le_of_ble_eq_true rfl) (fun r50 v51 => ?_)
                refine ze_icmp_eq (tgt := 548) X dc_W_law_265 (by decide) (fun _ => ?_) (fun _ => ?_)
                · refine ze_iinc (y := 6) X dc_W_law_548 rfl (by decide) (by decide) (fun x52 => ?_)
                  refine ze_goto (tgt := 18) X dc_W_law_551 (by decide) ?_
                  refine ze_weak [true, true, true, true] ?_
                  exact ih x52 v51
                · refine ze_iconst (x := 0) X dc_W_law_268 (by decide) ?_
                  exact ze_lret X Y dc_W_law_269
              · refine ze_iconst (x := 1) X dc_W_law_257 (by decide) ?_
                refine ze_goto (tgt := 262) X dc_W_law_258 (by decide) ?_
                refine ze_callVi (As := [.inl (xs (Int32.toNatClampNeg (l3 + 1))), .inl (xs (Int32.toNatClampNeg (l3 + 2))), .inl (xs (Int32.toNatClampNeg (l3 + 3))), .inl 0, .inl 1]) (st := [.inl r48]) X dc_W_law_262 zc_W_32 sh_75 (fun zr zv zh => c_M_clause X.2.2.2.2.2.2.1  (xs (Int32.toNatClampNeg (l3 + 1))) (xs (Int32.toNatClampNeg (l3 + 2))) (xs (Int32.toNatClampNeg (l3 + 3))) 0 1  v49 zh) rfl (by decide) (by decide) (Nat.le_of_ble_eq_true rfl) (fun r53 v54 => ?_)
                refine ze_icmp_eq (tgt := 548) X dc_W_law_265 (by decide) (fun _ => ?_) (fun _ => ?_)
                · refine ze_iinc (y := 6) X dc_W_law_548 rfl (by decide) (by decide) (fun x55 => ?_)
                  refine ze_goto (tgt := 18) X dc_W_law_551 (by decide) ?_
                  refine ze_weak [true, true, true, true] ?_
                  exact ih x55 v54
                · refine ze_iconst (x := 0) X dc_W_law_268 (by decide) ?_
                  exact ze_lret X Y dc_W_law_269
            · refine ze_iconst (x := 1) X dc_W_law_244 (by decide) ?_
              refine ze_goto (tgt := 249) X dc_W_law_245 (by decide) ?_
              refine ze_aload_n X dc_W_law_249 rfl rfl ?_
              refine ze_iload_n X dc_W_law_250 rfl rfl ?_
              refine ze_iconst (x := 5) X dc_W_law_251 (by decide) ?_
              refine ze_iadd X dc_W_law_252 ?_
              refine ze_sld X hSc dc_W_law_253 (fun _ => ?_)
              refine ze_if_eq (tgt := 261) X dc_W_law_254 (by decide) (fun _ => ?_) (fun _ => ?_)
              · refine ze_iconst (x := 0) X dc_W_law_261 (by decide) ?_
                refine ze_callVi (As := [.inl (xs (Int32.toNatClampNeg (l3 + 1))), .inl (xs (Int32.toNatClampNeg (l3 + 2))), .inl (xs (Int32.toNatClampNeg (l3 + 3))), .inl 1, .inl 0]) (st := [.inl r48]) X dc_W_law_262 zc_W_32 sh_75 (fun zr zv zh => c_M_clause X.2.2.2.2.2.2.1  (xs (Int32.toNatClampNeg (l3 + 1))) (xs (Int32.toNatClampNeg (l3 + 2))) (xs (Int32.toNatClampNeg (l3 + 3))) 1 0  v49 zh) rfl (by decide) (by decide) (Nat.le_of_ble_eq_true rfl) (fun r56 v57 => ?_)
                refine ze_icmp_eq (tgt := 548) X dc_W_law_265 (by decide) (fun _ => ?_) (fun _ => ?_)
                · refine ze_iinc (y := 6) X dc_W_law_548 rfl (by decide) (by decide) (fun x58 => ?_)
                  refine ze_goto (tgt := 18) X dc_W_law_551 (by decide) ?_
                  refine ze_weak [true, true, true, true] ?_
                  exact ih x58 v57
                · refine ze_iconst (x := 0) X dc_W_law_268 (by decide) ?_
                  exact ze_lret X Y dc_W_law_269
              · refine ze_iconst (x := 1) X dc_W_law_257 (by decide) ?_
                refine ze_goto (tgt := 262) X dc_W_law_258 (by decide) ?_
                refine ze_callVi (As := [.inl (xs (Int32.toNatClampNeg (l3 + 1))), .inl (xs (Int32.toNatClampNeg (l3 + 2))), .inl (xs (Int32.toNatClampNeg (l3 + 3))), .inl 1, .inl 1]) (st := [.inl r48]) X dc_W_law_262 zc_W_32 sh_75 (fun zr zv zh => c_M_clause X.2.2.2.2.2.2.1  (xs (Int32.toNatClampNeg (l3 + 1))) (xs (Int32.toNatClampNeg (l3 + 2))) (xs (Int32.toNatClampNeg (l3 + 3))) 1 1  v49 zh) rfl (by decide) (by decide) (Nat.le_of_ble_eq_true rfl) (fun r59 v60 => ?_)
                refine ze_icmp_eq (tgt := 548) X dc_W_law_265 (by decide) (fun _ => ?_) (fun _ => ?_)
                · refine ze_iinc (y := 6) X dc_W_law_548 rfl (by decide) (by decide) (fun x61 => ?_)
                  refine ze_goto (tgt := 18) X dc_W_law_551 (by decide) ?_
                  refine ze_weak [true, true, true, true] ?_
                  exact ih x61 v60
                · refine ze_iconst (x := 0) X dc_W_law_268 (by decide) ?_
                  exact ze_lret X Y dc_W_law_269
          · refine ze_iconst (x := 1) X dc_W_law_212 (by decide) ?_
            refine ze_goto (tgt := 217) X dc_W_law_213 (by decide) ?_
            refine ze_callVi (As := [.inl (xs (Int32.toNatClampNeg (l3 + 1))), .inl (xs (Int32.toNatClampNeg (l3 + 2))), .inl (xs (Int32.toNatClampNeg (l3 + 3))), .inl 1, .inl 1]) (st := []) X dc_W_law_217 zc_W_28 sh_0 (fun zr zv zh => c_E_clause X.2.2.2.2.2.2.1  (xs (Int32.toNatClampNeg (l3 + 1))) (xs (Int32.toNatClampNeg (l3 + 2))) (xs (Int32.toNatClampNeg (l3 + 3))) 1 1  v zh) rfl (by decide) (by decide) (Nat.le_of_ble_eq_true rfl) (fun r62 v63 => ?_)
            refine ze_aload_n X dc_W_law_220 rfl rfl ?_
            refine ze_aload_n X dc_W_law_221 rfl rfl ?_
            refine ze_iload_n X dc_W_law_222 rfl rfl ?_
            refine ze_iconst (x := 1) X dc_W_law_223 (by decide) ?_
            refine ze_iadd X dc_W_law_224 ?_
            refine ze_sld X hSc dc_W_law_225 (fun _ => ?_)
            refine ze_aload_n X dc_W_law_226 rfl rfl ?_
            refine ze_iload_n X dc_W_law_227 rfl rfl ?_
            refine ze_iconst (x := 2) X dc_W_law_228 (by decide) ?_
            refine ze_iadd X dc_W_law_229 ?_
            refine ze_sld X hSc dc_W_law_230 (fun _ => ?_)
            refine ze_aload_n X dc_W_law_231 rfl rfl ?_
            refine ze_iload_n X dc_W_law_232 rfl rfl ?_
            refine ze_iconst (x := 3) X dc_W_law_233 (by decide) ?_
            refine ze_iadd X dc_W_law_234 ?_
            refine ze_sld X hSc dc_W_law_235 (fun _ => ?_)
            refine ze_aload_n X dc_W_law_236 rfl rfl ?_
            refine ze_iload_n X dc_W_law_237 rfl rfl ?_
            refine ze_iconst (x := 4) X dc_W_law_238 (by decide) ?_
            refine ze_iadd X dc_W_law_239 ?_
            refine ze_sld X hSc dc_W_law_240 (fun _ => ?_)
            refine ze_if_eq (tgt := 248) X dc_W_law_241 (by decide) (fun _ => ?_) (fun _ => ?_)
            · refine ze_iconst (x := 0) X dc_W_law_248 (by decide) ?_
              refine ze_aload_n X dc_W_law_249 rfl rfl ?_
              refine ze_iload_n X dc_W_law_250 rfl rfl ?_
              refine ze_iconst (x := 5) X dc_W_law_251 (by decide) ?_
              refine ze_iadd X dc_W_law_252 ?_
              refine ze_sld X hSc dc_W_law_253 (fun _ => ?_)
              refine ze_if_eq (tgt := 261) X dc_W_law_254 (by decide) (fun _ => ?_) (fun _ => ?_)
              · refine ze_iconst (x := 0) X dc_W_law_261 (by decide) ?_
                refine ze_callVi (As := [.inl (xs (Int32.toNatClampNeg (l3 + 1))), .inl (xs (Int32.toNatClampNeg (l3 + 2))), .inl (xs (Int32.toNatClampNeg (l3 + 3))), .inl 0, .inl 0]) (st := [.inl r62]) X dc_W_law_262 zc_W_32 sh_75 (fun zr zv zh => c_M_clause X.2.2.2.2.2.2.1  (xs (Int32.toNatClampNeg (l3 + 1))) (xs (Int32.toNatClampNeg (l3 + 2))) (xs (Int32.toNatClampNeg (l3 + 3))) 0 0  v63 zh) rfl (by decide) (by decide) (Nat.le_of_ble_eq_true rfl) (fun r64 v65 => ?_)
                refine ze_icmp_eq (tgt := 548) X dc_W_law_265 (by decide) (fun _ => ?_) (fun _ => ?_)
                · refine ze_iinc (y := 6) X dc_W_law_548 rfl (by decide) (by decide) (fun x66 => ?_)
                  refine ze_goto (tgt := 18) X dc_W_law_551 (by decide) ?_
                  refine ze_weak [true, true, true, true] ?_
                  exact ih x66 v65
                · refine ze_iconst (x := 0) X dc_W_law_268 (by decide) ?_
                  exact ze_lret X Y dc_W_law_269
              · refine ze_iconst (x := 1) X dc_W_law_257 (by decide) ?_
                refine ze_goto (tgt := 262) X dc_W_law_258 (by decide) ?_
                refine ze_callVi (As := [.inl (xs (Int32.toNatClampNeg (l3 + 1))), .inl (xs (Int32.toNatClampNeg (l3 + 2))), .inl (xs (Int32.toNatClampNeg (l3 + 3))), .inl 0, .inl 1]) (st := [.inl r62]) X dc_W_law_262 zc_W_32 sh_75 (fun zr zv zh => c_M_clause X.2.2.2.2.2.2.1  (xs (Int32.toNatClampNeg (l3 + 1))) (xs (Int32.toNatClampNeg (l3 + 2))) (xs (Int32.toNatClampNeg (l3 + 3))) 0 1  v63 zh) rfl (by decide) (by decide) (Nat.le_of_ble_eq_true rfl) (fun r67 v68 => ?_)
                refine ze_icmp_eq (tgt := 548) X dc_W_law_265 (by decide) (fun _ => ?_) (fun _ => ?_)
                · refine ze_iinc (y := 6) X dc_W_law_548 rfl (by decide) (by decide) (fun x69 => ?_)
                  refine ze_goto (tgt := 18) X dc_W_law_551 (by decide) ?_
                  refine ze_weak [true, true, true, true] ?_
                  exact ih x69 v68
                · refine ze_iconst (x := 0) X dc_W_law_268 (by decide) ?_
                  exact ze_lret X Y dc_W_law_269
            · refine ze_iconst (x := 1) X dc_W_law_244 (by decide) ?_
              refine ze_goto (tgt := 249) X dc_W_law_245 (by decide) ?_
              refine ze_aload_n X dc_W_law_249 rfl rfl ?_
              refine ze_iload_n X dc_W_law_250 rfl rfl ?_
              refine ze_iconst (x := 5) X dc_W_law_251 (by decide) ?_
              refine ze_iadd X dc_W_law_252 ?_
              refine ze_sld X hSc dc_W_law_253 (fun _ => ?_)
              refine ze_if_eq (tgt := 261) X dc_W_law_254 (by decide) (fun _ => ?_) (fun _ => ?_)
              · refine ze_iconst (x := 0) X dc_W_law_261 (by decide) ?_
                refine ze_callVi (As := [.inl (xs (Int32.toNatClampNeg (l3 + 1))), .inl (xs (Int32.toNatClampNeg (l3 + 2))), .inl (xs (Int32.toNatClampNeg (l3 + 3))), .inl 1, .inl 0]) (st := [.inl r62]) X dc_W_law_262 zc_W_32 sh_75 (fun zr zv zh => c_M_clause X.2.2.2.2.2.2.1  (xs (Int32.toNatClampNeg (l3 + 1))) (xs (Int32.toNatClampNeg (l3 + 2))) (xs (Int32.toNatClampNeg (l3 + 3))) 1 0  v63 zh) rfl (by decide) (by decide) (Nat.le_of_ble_eq_true rfl) (fun r70 v71 => ?_)
                refine ze_icmp_eq (tgt := 548) X dc_W_law_265 (by decide) (fun _ => ?_) (fun _ => ?_)
                · refine ze_iinc (y := 6) X dc_W_law_548 rfl (by decide) (by decide) (fun x72 => ?_)
                  refine ze_goto (tgt := 18) X dc_W_law_551 (by decide) ?_
                  refine ze_weak [true, true, true, true] ?_
                  exact ih x72 v71
                · refine ze_iconst (x := 0) X dc_W_law_268 (by decide) ?_
                  exact ze_lret X Y dc_W_law_269
              · refine ze_iconst (x := 1) X dc_W_law_257 (by decide) ?_
                refine ze_goto (tgt := 262) X dc_W_law_258 (by decide) ?_
                refine ze_callVi (As := [.inl (xs (Int32.toNatClampNeg (l3 + 1))), .inl (xs (Int32.toNatClampNeg (l3 + 2))), .inl (xs (Int32.toNatClampNeg (l3 + 3))), .inl 1, .inl 1]) (st := [.inl r62]) X dc_W_law_262 zc_W_32 sh_75 (fun zr zv zh => c_M_clause X.2.2.2.2.2.2.1  (xs (Int32.toNatClampNeg (l3 + 1))) (xs (Int32.toNatClampNeg (l3 + 2))) (xs (Int32.toNatClampNeg (l3 + 3))) 1 1  v63 zh) rfl (by decide) (by decide) (Nat.le_of_ble_eq_true rfl) (fun r73 v74 => ?_)
                refine ze_icmp_eq (tgt := 548) X dc_W_law_265 (by decide) (fun _ => ?_) (fun _ => ?_)
                · refine ze_iinc (y := 6) X dc_W_law_548 rfl (by decide) (by decide) (fun x75 => ?_)
                  refine ze_goto (tgt := 18) X dc_W_law_551 (by decide) ?_
                  refine ze_weak [true, true, true, true] ?_
                  exact ih x75 v74
                · refine ze_iconst (x := 0) X dc_W_law_268 (by decide) ?_
                  exact ze_lret X Y dc_W_law_269
      refine ze_if (c := ((xs (Int32.toNatClampNeg l3)) &&& 15) = 4) (fun hq => ?_) (fun hn76 => ?_)
      · refine ze_tabI (off := 237) (tgt := 270) X dc_W_law_33 (by rw [hq]; decide) (by rw [hq]; decide) (by rw [hq]; rfl) (by decide) ?_
        refine ze_aload_n X dc_W_law_270 rfl rfl ?_
        refine ze_callVv (As := []) (st := []) X dc_W_law_271 zc_W_33 sh_0 (fun zr zv zh => c_E_forget X.2.2.2.2.2.2.1    v zh) rfl (by decide) (by decide) (Nat.le_of_ble_eq_true rfl) (fun r77 v78 => ?_)
        refine ze_aload_n X dc_W_law_274 rfl rfl ?_
        refine ze_callVv (As := []) (st := []) X dc_W_law_275 zc_W_36 sh_75 (fun zr zv zh => c_M_forget X.2.2.2.2.2.2.1    v78 zh) rfl (by decide) (by decide) (Nat.le_of_ble_eq_true rfl) (fun r79 v80 => ?_)
        refine ze_goto (tgt := 548) X dc_W_law_278 (by decide) ?_
        refine ze_iinc (y := 6) X dc_W_law_548 rfl (by decide) (by decide) (fun x81 => ?_)
        refine ze_goto (tgt := 18) X dc_W_law_551 (by decide) ?_
        refine ze_weak [true, true, true, true] ?_
        exact ih x81 v80
      refine ze_if (c := ((xs (Int32.toNatClampNeg l3)) &&& 15) = 5) (fun hq => ?_) (fun hn82 => ?_)
      · refine ze_tabI (off := 248) (tgt := 281) X dc_W_law_33 (by rw [hq]; decide) (by rw [hq]; decide) (by rw [hq]; rfl) (by decide) ?_
        refine ze_aload_n X dc_W_law_281 rfl rfl ?_
        refine ze_aload_n X dc_W_law_282 rfl rfl ?_
        refine ze_iload_n X dc_W_law_283 rfl rfl ?_
        refine ze_iconst (x := 1) X dc_W_law_284 (by decide) ?_
        refine ze_iadd X dc_W_law_285 ?_
        refine ze_sld X hSc dc_W_law_286 (fun _ => ?_)
        refine ze_aload_n X dc_W_law_287 rfl rfl ?_
        refine ze_iload_n X dc_W_law_288 rfl rfl ?_
        refine ze_iconst (x := 2) X dc_W_law_289 (by decide) ?_
        refine ze_iadd X dc_W_law_290 ?_
        refine ze_sld X hSc dc_W_law_291 (fun _ => ?_)
        refine ze_aload_n X dc_W_law_292 rfl rfl ?_
        refine ze_iload_n X dc_W_law_293 rfl rfl ?_
        refine ze_iconst (x := 3) X dc_W_law_294 (by decide) ?_
        refine ze_iadd X dc_W_law_295 ?_
        refine ze_sld X hSc dc_W_law_296 (fun _ => ?_)
        refine ze_callVi (As := [.inl (xs (Int32.toNatClampNeg (l3 + 1))), .inl (xs (Int32.toNatClampNeg (l3 + 2))), .inl (xs (Int32.toNatClampNeg (l3 + 3)))]) (st := []) X dc_W_law_297 zc_W_37 sh_0 (fun zr zv zh => c_E_fail X.2.2.2.2.2.2.1  (xs (Int32.toNatClampNeg (l3 + 1))) (xs (Int32.toNatClampNeg (l3 + 2))) (xs (Int32.toNatClampNeg (l3 + 3)))  v zh) rfl (by decide) (by decide) (Nat.le_of_ble_eq_true rfl) (fun r83 v84 => ?_)
        refine ze_aload_n X dc_W_law_300 rfl rfl ?_
        refine ze_aload_n X dc_W_law_301 rfl rfl ?_
        refine ze_iload_n X dc_W_law_302 rfl rfl ?_
        refine ze_iconst (x := 1) X dc_W_law_303 (by decide) ?_
        refine ze_iadd X dc_W_law_304 ?_
        refine ze_sld X hSc dc_W_law_305 (fun _ => ?_)
        refine ze_aload_n X dc_W_law_306 rfl rfl ?_
        refine ze_iload_n X dc_W_law_307 rfl rfl ?_
        refine ze_iconst (x := 2) X dc_W_law_308 (by decide) ?_
        refine ze_iadd X dc_W_law_309 ?_
        refine ze_sld X hSc dc_W_law_310 (fun _ => ?_)
        refine ze_aload_n X dc_W_law_311 rfl rfl ?_
        refine ze_iload_n X dc_W_law_312 rfl rfl ?_
        refine ze_iconst (x := 3) X dc_W_law_313 (by decide) ?_
        refine ze_iadd X dc_W_law_314 ?_
        refine ze_sld X hSc dc_W_law_315 (fun _ => ?_)
        refine ze_callVi (As := [.inl (xs (Int32.toNatClampNeg (l3 + 1))), .inl (xs (Int32.toNatClampNeg (l3 + 2))), .inl (xs (Int32.toNatClampNeg (l3 + 3)))]) (st := [.inl r83]) X dc_W_law_316 zc_W_41 sh_75 (fun zr zv zh => c_M_fail X.2.2.2.2.2.2.1  (xs (Int32.toNatClampNeg (l3 + 1))) (xs (Int32.toNatClampNeg (l3 + 2))) (xs (Int32.toNatClampNeg (l3 + 3)))  v84 zh) rfl (by decide) (by decide) (Nat.le_of_ble_eq_true rfl) (fun r85 v86 => ?_)
        refine ze_icmp_eq (tgt := 548) X dc_W_law_319 (by decide) (fun _ => ?_) (fun _ => ?_)
        · refine ze_iinc (y := 6) X dc_W_law_548 rfl (by decide) (by decide) (fun x87 => ?_)
          refine ze_goto (tgt := 18) X dc_W_law_551 (by decide) ?_
          refine ze_weak [true, true, true, true] ?_
          exact ih x87 v86
        · refine ze_iconst (x := 0) X dc_W_law_322 (by decide) ?_
          exact ze_lret X Y dc_W_law_323
      refine ze_if (c := ((xs (Int32.toNatClampNeg l3)) &&& 15) = 6) (fun hq => ?_) (fun hn88 => ?_)
      · refine ze_tabI (off := 291) (tgt := 324) X dc_W_law_33 (by rw [hq]; decide) (by rw [hq]; decide) (by rw [hq]; rfl) (by decide) ?_
        refine ze_aload_n X dc_W_law_324 rfl rfl ?_
        refine ze_aload_n X dc_W_law_325 rfl rfl ?_
        refine ze_iload_n X dc_W_law_326 rfl rfl ?_
        refine ze_iconst (x := 1) X dc_W_law_327 (by decide) ?_
        refine ze_iadd X dc_W_law_328 ?_
        refine ze_sld X hSc dc_W_law_329 (fun _ => ?_)
        refine ze_aload_n X dc_W_law_330 rfl rfl ?_
        refine ze_iload_n X dc_W_law_331 rfl rfl ?_
        refine ze_iconst (x := 2) X dc_W_law_332 (by decide) ?_
        refine ze_iadd X dc_W_law_333 ?_
        refine ze_sld X hSc dc_W_law_334 (fun _ => ?_)
        refine ze_aload_n X dc_W_law_335 rfl rfl ?_
        refine ze_iload_n X dc_W_law_336 rfl rfl ?_
        refine ze_iconst (x := 3) X dc_W_law_337 (by decide) ?_
        refine ze_iadd X dc_W_law_338 ?_
        refine ze_sld X hSc dc_W_law_339 (fun _ => ?_)
        refine ze_callVi (As := [.inl (xs (Int32.toNatClampNeg (l3 + 1))), .inl (xs (Int32.toNatClampNeg (l3 + 2))), .inl (xs (Int32.toNatClampNeg (l3 + 3)))]) (st := []) X dc_W_law_340 zc_W_42 sh_0 (fun zr zv zh => c_E_send X.2.2.2.2.2.2.1  (xs (Int32.toNatClampNeg (l3 + 1))) (xs (Int32.toNatClampNeg (l3 + 2))) (xs (Int32.toNatClampNeg (l3 + 3)))  v zh) rfl (by decide) (by decide) (Nat.le_of_ble_eq_true rfl) (fun r89 v90 => ?_)
        refine ze_aload_n X dc_W_law_343 rfl rfl ?_
        refine ze_aload_n X dc_W_law_344 rfl rfl ?_
        refine ze_iload_n X dc_W_law_345 rfl rfl ?_
        refine ze_iconst (x := 1) X dc_W_law_346 (by decide) ?_
        refine ze_iadd X dc_W_law_347 ?_
        refine ze_sld X hSc dc_W_law_348 (fun _ => ?_)
        refine ze_aload_n X dc_W_law_349 rfl rfl ?_
        refine ze_iload_n X dc_W_law_350 rfl rfl ?_
        refine ze_iconst (x := 2) X dc_W_law_351 (by decide) ?_
        refine ze_iadd X dc_W_law_352 ?_
        refine ze_sld X hSc dc_W_law_353 (fun _ => ?_)
        refine ze_aload_n X dc_W_law_354 rfl rfl ?_
        refine ze_iload_n X dc_W_law_355 rfl rfl ?_
        refine ze_iconst (x := 3) X dc_W_law_356 (by decide) ?_
        refine ze_iadd X dc_W_law_357 ?_
        refine ze_sld X hSc dc_W_law_358 (fun _ => ?_)
        refine ze_callVi (As := [.inl (xs (Int32.toNatClampNeg (l3 + 1))), .inl (xs (Int32.toNatClampNeg (l3 + 2))), .inl (xs (Int32.toNatClampNeg (l3 + 3)))]) (st := [.inl r89]) X dc_W_law_359 zc_W_46 sh_75 (fun zr zv zh => c_M_send X.2.2.2.2.2.2.1  (xs (Int32.toNatClampNeg (l3 + 1))) (xs (Int32.toNatClampNeg (l3 + 2))) (xs (Int32.toNatClampNeg (l3 + 3)))  v90 zh) rfl (by decide) (by decide) (Nat.le_of_ble_eq_true rfl) (fun r91 v92 => ?_)
        refine ze_icmp_eq (tgt := 548) X dc_W_law_362 (by decide) (fun _ => ?_) (fun _ => ?_)
        · refine ze_iinc (y := 6) X dc_W_law_548 rfl (by decide) (by decide) (fun x93 => ?_)
          refine ze_goto (tgt := 18) X dc_W_law_551 (by decide) ?_
          refine ze_weak [true, true, true, true] ?_
          exact ih x93 v92
        · refine ze_iconst (x := 0) X dc_W_law_365 (by decide) ?_
          exact ze_lret X Y dc_W_law_366
      refine ze_if (c := ((xs (Int32.toNatClampNeg l3)) &&& 15) = 7) (fun hq => ?_) (fun hn94 => ?_)
      · refine ze_tabI (off := 334) (tgt := 367) X dc_W_law_33 (by rw [hq]; decide) (by rw [hq]; decide) (by rw [hq]; rfl) (by decide) ?_
        refine ze_aload_n X dc_W_law_367 rfl rfl ?_
        refine ze_callVi (As := []) (st := []) X dc_W_law_368 zc_W_47 sh_0 (fun zr zv zh => c_E_work X.2.2.2.2.2.2.1    v zh) rfl (by decide) (by decide) (Nat.le_of_ble_eq_true rfl) (fun r95 v96 => ?_)
        refine ze_aload_n X dc_W_law_371 rfl rfl ?_
        refine ze_callVi (As := []) (st := [.inl r95]) X dc_W_law_372 zc_W_50 sh_75 (fun zr zv zh => c_M_work X.2.2.2.2.2.2.1    v96 zh) rfl (by decide) (by decide) (Nat.le_of_ble_eq_true rfl) (fun r97 v98 => ?_)
        refine ze_icmp_eq (tgt := 548) X dc_W_law_375 (by decide) (fun _ => ?_) (fun _ => ?_)
        · refine ze_iinc (y := 6) X dc_W_law_548 rfl (by decide) (by decide) (fun x99 => ?_)
          refine ze_goto (tgt := 18) X dc_W_law_551 (by decide) ?_
          refine ze_weak [true, true, true, true] ?_
          exact ih x99 v98
        · refine ze_iconst (x := 0) X dc_W_law_378 (by decide) ?_
          exact ze_lret X Y dc_W_law_379
      refine ze_if (c := ((xs (Int32.toNatClampNeg l3)) &&& 15) = 8) (fun hq => ?_) (fun hn100 => ?_)
      · refine ze_tabI (off := 347) (tgt := 380) X dc_W_law_33 (by rw [hq]; decide) (by rw [hq]; decide) (by rw [hq]; rfl) (by decide) ?_
        refine ze_aload_n X dc_W_law_380 rfl rfl ?_
        refine ze_aload_n X dc_W_law_381 rfl rfl ?_
        refine ze_iload_n X dc_W_law_382 rfl rfl ?_
        refine ze_iconst (x := 1) X dc_W_law_383 (by decide) ?_
        refine ze_iadd X dc_W_law_384 ?_
        refine ze_sld X hSc dc_W_law_385 (fun _ => ?_)
        refine ze_callVi (As := [.inl (xs (Int32.toNatClampNeg (l3 + 1)))]) (st := []) X dc_W_law_386 zc_W_51 sh_0 (fun zr zv zh => c_E_pass X.2.2.2.2.2.2.1  (xs (Int32.toNatClampNeg (l3 + 1)))  v zh) rfl (by decide) (by decide) (Nat.le_of_ble_eq_true rfl) (fun r101 v102 => ?_)
        refine ze_aload_n X dc_W_law_389 rfl rfl ?_
        refine ze_aload_n X dc_W_law_390 rfl rfl ?_
        refine ze_iload_n X dc_W_law_391 rfl rfl ?_
        refine ze_iconst (x := 1) X dc_W_law_392 (by decide) ?_
        refine ze_iadd X dc_W_law_393 ?_
        refine ze_sld X hSc dc_W_law_394 (fun _ => ?_)
        refine ze_callVi (As := [.inl (xs (Int32.toNatClampNeg (l3 + 1)))]) (st := [.inl r101]) X dc_W_law_395 zc_W_55 sh_75 (fun zr zv zh => c_M_pass X.2.2.2.2.2.2.1  (xs (Int32.toNatClampNeg (l3 + 1)))  v102 zh) rfl (by decide) (by decide) (Nat.le_of_ble_eq_true rfl) (fun r103 v104 => ?_)
        refine ze_icmp_eq (tgt := 548) X dc_W_law_398 (by decide) (fun _ => ?_) (fun _ => ?_)
        · refine ze_iinc (y := 6) X dc_W_law_548 rfl (by decide) (by decide) (fun x105 => ?_)
          refine ze_goto (tgt := 18) X dc_W_law_551 (by decide) ?_
          refine ze_weak [true, true, true, true] ?_
          exact ih x105 v104
        · refine ze_iconst (x := 0) X dc_W_law_401 (by decide) ?_
          exact ze_lret X Y dc_W_law_402
      refine ze_if (c := ((xs (Int32.toNatClampNeg l3)) &&& 15) = 9) (fun hq => ?_) (fun hn106 => ?_)
      · refine ze_tabI (off := 370) (tgt := 403) X dc_W_law_33 (by rw [hq]; decide) (by rw [hq]; decide) (by rw [hq]; rfl) (by decide) ?_
        refine ze_aload_n X dc_W_law_403 rfl rfl ?_
        refine ze_aload_n X dc_W_law_404 rfl rfl ?_
        refine ze_iload_n X dc_W_law_405 rfl rfl ?_
        refine ze_iconst (x := 1) X dc_W_law_406 (by decide) ?_
        refine ze_iadd X dc_W_law_407 ?_
        refine ze_sld X hSc dc_W_law_408 (fun _ => ?_)
        refine ze_callVi (As := [.inl (xs (Int32.toNatClampNeg (l3 + 1)))]) (st := []) X dc_W_law_409 zc_W_56 sh_0 (fun zr zv zh => c_E_delivered X.2.2.2.2.2.2.1  (xs (Int32.toNatClampNeg (l3 + 1)))  v zh) rfl (by decide) (by decide) (Nat.le_of_ble_eq_true rfl) (fun r107 v108 => ?_)
        refine ze_aload_n X dc_W_law_412 rfl rfl ?_
        refine ze_aload_n X dc_W_law_413 rfl rfl ?_
        refine ze_iload_n X dc_W_law_414 rfl rfl ?_
        refine ze_iconst (x := 1) X dc_W_law_415 (by decide) ?_
        refine ze_iadd X dc_W_law_416 ?_
        refine ze_sld X hSc dc_W_law_417 (fun _ => ?_)
        refine ze_callVi (As := [.inl (xs (Int32.toNatClampNeg (l3 + 1)))]) (st := [.inl r107]) X dc_W_law_418 zc_W_59 sh_75 (fun zr zv zh => c_M_delivered X.2.2.2.2.2.2.1  (xs (Int32.toNatClampNeg (l3 + 1)))  v108 zh) rfl (by decide) (by decide) (Nat.le_of_ble_eq_true rfl) (fun r109 v110 => ?_)
        refine ze_icmp_eq (tgt := 548) X dc_W_law_421 (by decide) (fun _ => ?_) (fun _ => ?_)
        · refine ze_iinc (y := 6) X dc_W_law_548 rfl (by decide) (by decide) (fun x111 => ?_)
          refine ze_goto (tgt := 18) X dc_W_law_551 (by decide) ?_
          refine ze_weak [true, true, true, true] ?_
          exact ih x111 v110
        · refine ze_iconst (x := 0) X dc_W_law_424 (by decide) ?_
          exact ze_lret X Y dc_W_law_425
      refine ze_if (c := ((xs (Int32.toNatClampNeg l3)) &&& 15) = 10) (fun hq => ?_) (fun hn112 => ?_)
      · refine ze_tabI (off := 393) (tgt := 426) X dc_W_law_33 (by rw [hq]; decide) (by rw [hq]; decide) (by rw [hq]; rfl) (by decide) ?_
        refine ze_aload_n X dc_W_law_426 rfl rfl ?_
        refine ze_aload_n X dc_W_law_427 rfl rfl ?_
        refine ze_iload_n X dc_W_law_428 rfl rfl ?_
        refine ze_iconst (x := 1) X dc_W_law_429 (by decide) ?_
        refine ze_iadd X dc_W_law_430 ?_
        refine ze_sld X hSc dc_W_law_431 (fun _ => ?_)
        refine ze_aload_n X dc_W_law_432 rfl rfl ?_
        refine ze_iload_n X dc_W_law_433 rfl rfl ?_
        refine ze_iconst (x := 2) X dc_W_law_434 (by decide) ?_
        refine ze_iadd X dc_W_law_435 ?_
        refine ze_sld X hSc dc_W_law_436 (fun _ => ?_)
        refine ze_callVi (As := [.inl (xs (Int32.toNatClampNeg (l3 + 1))), .inl (xs (Int32.toNatClampNeg (l3 + 2)))]) (st := []) X dc_W_law_437 zc_W_60 sh_0 (fun zr zv zh => c_E_body X.2.2.2.2.2.2.1  (xs (Int32.toNatClampNeg (l3 + 1))) (xs (Int32.toNatClampNeg (l3 + 2)))  v zh) rfl (by decide) (by decide) (Nat.le_of_ble_eq_true rfl) (fun r113 v114 => ?_)
        refine ze_aload_n X dc_W_law_440 rfl rfl ?_
        refine ze_aload_n X dc_W_law_441 rfl rfl ?_
        refine ze_iload_n X dc_W_law_442 rfl rfl ?_
        refine ze_iconst (x := 1) X dc_W_law_443 (by decide) ?_
        refine ze_iadd X dc_W_law_444 ?_
        refine ze_sld X hSc dc_W_law_445 (fun _ => ?_)
        refine ze_aload_n X dc_W_law_446 rfl rfl ?_
        refine ze_iload_n X dc_W_law_447 rfl rfl ?_
        refine ze_iconst (x := 2) X dc_W_law_448 (by decide) ?_
        refine ze_iadd X dc_W_law_449 ?_
        refine ze_sld X hSc dc_W_law_450 (fun _ => ?_)
        refine ze_callVi (As := [.inl (xs (Int32.toNatClampNeg (l3 + 1))), .inl (xs (Int32.toNatClampNeg (l3 + 2)))]) (st := [.inl r113]) X dc_W_law_451 zc_W_64 sh_75 (fun zr zv zh => c_M_body X.2.2.2.2.2.2.1  (xs (Int32.toNatClampNeg (l3 + 1))) (xs (Int32.toNatClampNeg (l3 + 2)))  v114 zh) rfl (by decide) (by decide) (Nat.le_of_ble_eq_true rfl) (fun r115 v116 => ?_)
        refine ze_icmp_eq (tgt := 548) X dc_W_law_454 (by decide) (fun _ => ?_) (fun _ => ?_)
        · refine ze_iinc (y := 6) X dc_W_law_548 rfl (by decide) (by decide) (fun x117 => ?_)
          refine ze_goto (tgt := 18) X dc_W_law_551 (by decide) ?_
          refine ze_weak [true, true, true, true] ?_
          exact ih x117 v116
        · refine ze_iconst (x := 0) X dc_W_law_457 (by decide) ?_
          exact ze_lret X Y dc_W_law_458
      refine ze_if (c := ((xs (Int32.toNatClampNeg l3)) &&& 15) = 11) (fun hq => ?_) (fun hn118 => ?_)
      · refine ze_tabI (off := 426) (tgt := 459) X dc_W_law_33 (by rw [hq]; decide) (by rw [hq]; decide) (by rw [hq]; rfl) (by decide) ?_
        refine ze_aload_n X dc_W_law_459 rfl rfl ?_
        refine ze_aload_n X dc_W_law_460 rfl rfl ?_
        refine ze_iload_n X dc_W_law_461 rfl rfl ?_
        refine ze_iconst (x := 1) X dc_W_law_462 (by decide) ?_
        refine ze_iadd X dc_W_law_463 ?_
        refine ze_sld X hSc dc_W_law_464 (fun _ => ?_)
        refine ze_aload_n X dc_W_law_465 rfl rfl ?_
        refine ze_iload_n X dc_W_law_466 rfl rfl ?_
        refine ze_iconst (x := 2) X dc_W_law_467 (by decide) ?_
        refine ze_iadd X dc_W_law_468 ?_
        refine ze_sld X hSc dc_W_law_469 (fun _ => ?_)
        refine ze_callVi (As := [.inl (xs (Int32.toNatClampNeg (l3 + 1))), .inl (xs (Int32.toNatClampNeg (l3 + 2)))]) (st := []) X dc_W_law_470 zc_W_65 sh_0 (fun zr zv zh => c_E_key X.2.2.2.2.2.2.1  (xs (Int32.toNatClampNeg (l3 + 1))) (xs (Int32.toNatClampNeg (l3 + 2)))  v zh) rfl (by decide) (by decide) (Nat.le_of_ble_eq_true rfl) (fun r119 v120 => ?_)
        refine ze_aload_n X dc_W_law_473 rfl rfl ?_
        refine ze_aload_n X dc_W_law_474 rfl rfl ?_
        refine ze_iload_n X dc_W_law_475 rfl rfl ?_
        refine ze_iconst (x := 1) X dc_W_law_476 (by decide) ?_
        refine ze_iadd X dc_W_law_477 ?_
        refine ze_sld X hSc dc_W_law_478 (fun _ => ?_)
        refine ze_aload_n X dc_W_law_479 rfl rfl ?_
        refine ze_iload_n X dc_W_law_480 rfl rfl ?_
        refine ze_iconst (x := 2) X dc_W_law_481 (by decide) ?_
        refine ze_iadd X dc_W_law_482 ?_
        refine ze_sld X hSc dc_W_law_483 (fun _ => ?_)
        refine ze_callVi (As := [.inl (xs (Int32.toNatClampNeg (l3 + 1))), .inl (xs (Int32.toNatClampNeg (l3 + 2)))]) (st := [.inl r119]) X dc_W_law_484 zc_W_68 sh_75 (fun zr zv zh => c_M_key X.2.2.2.2.2.2.1  (xs (Int32.toNatClampNeg (l3 + 1))) (xs (Int32.toNatClampNeg (l3 + 2)))  v120 zh) rfl (by decide) (by decide) (Nat.le_of_ble_eq_true rfl) (fun r121 v122 => ?_)
        refine ze_icmp_eq (tgt := 548) X dc_W_law_487 (by decide) (fun _ => ?_) (fun _ => ?_)
        · refine ze_iinc (y := 6) X dc_W_law_548 rfl (by decide) (by decide) (fun x123 => ?_)
          refine ze_goto (tgt := 18) X dc_W_law_551 (by decide) ?_
          refine ze_weak [true, true, true, true] ?_
          exact ih x123 v122
        · refine ze_iconst (x := 0) X dc_W_law_490 (by decide) ?_
          exact ze_lret X Y dc_W_law_491
      refine ze_if (c := ((xs (Int32.toNatClampNeg l3)) &&& 15) = 12) (fun hq => ?_) (fun hn124 => ?_)
      · refine ze_tabI (off := 459) (tgt := 492) X dc_W_law_33 (by rw [hq]; decide) (by rw [hq]; decide) (by rw [hq]; rfl) (by decide) ?_
        refine ze_aload_n X dc_W_law_492 rfl rfl ?_
        refine ze_aload_n X dc_W_law_493 rfl rfl ?_
        refine ze_iload_n X dc_W_law_494 rfl rfl ?_
        refine ze_iconst (x := 1) X dc_W_law_495 (by decide) ?_
        refine ze_iadd X dc_W_law_496 ?_
        refine ze_sld X hSc dc_W_law_497 (fun _ => ?_)
        refine ze_aload_n X dc_W_law_498 rfl rfl ?_
        refine ze_iload_n X dc_W_law_499 rfl rfl ?_
        refine ze_iconst (x := 2) X dc_W_law_500 (by decide) ?_
        refine ze_iadd X dc_W_law_501 ?_
        refine ze_sld X hSc dc_W_law_502 (fun _ => ?_)
        refine ze_callVi (As := [.inl (xs (Int32.toNatClampNeg (l3 + 1))), .inl (xs (Int32.toNatClampNeg (l3 + 2)))]) (st := []) X dc_W_law_503 zc_W_69 sh_0 (fun zr zv zh => c_E_group X.2.2.2.2.2.2.1  (xs (Int32.toNatClampNeg (l3 + 1))) (xs (Int32.toNatClampNeg (l3 + 2)))  v zh) rfl (by decide) (by decide) (Nat.le_of_ble_eq_true rfl) (fun r125 v126 => ?_)
        refine ze_aload_n X dc_W_law_506 rfl rfl ?_
        refine ze_aload_n X dc_W_law_507 rfl rfl ?_
        refine ze_iload_n X dc_W_law_508 rfl rfl ?_
        refine ze_iconst (x := 1) X dc_W_law_509 (by decide) ?_
        refine ze_iadd X dc_W_law_510 ?_
        refine ze_sld X hSc dc_W_law_511 (fun _ => ?_)
        refine ze_aload_n X dc_W_law_512 rfl rfl ?_
        refine ze_iload_n X dc_W_law_513 rfl rfl ?_
        refine ze_iconst (x := 2) X dc_W_law_514 (by decide) ?_
        refine ze_iadd X dc_W_law_515 ?_
        refine ze_sld X hSc dc_W_law_516 (fun _ => ?_)
        refine ze_callVi (As := [.inl (xs (Int32.toNatClampNeg (l3 + 1))), .inl (xs (Int32.toNatClampNeg (l3 + 2)))]) (st := [.inl r125]) X dc_W_law_517 zc_W_72 sh_75 (fun zr zv zh => c_M_group X.2.2.2.2.2.2.1  (xs (Int32.toNatClampNeg (l3 + 1))) (xs (Int32.toNatClampNeg (l3 + 2)))  v126 zh) rfl (by decide) (by decide) (Nat.le_of_ble_eq_true rfl) (fun r127 v128 => ?_)
        refine ze_icmp_eq (tgt := 548) X dc_W_law_520 (by decide) (fun _ => ?_) (fun _ => ?_)
        · refine ze_iinc (y := 6) X dc_W_law_548 rfl (by decide) (by decide) (fun x129 => ?_)
          refine ze_goto (tgt := 18) X dc_W_law_551 (by decide) ?_
          refine ze_weak [true, true, true, true] ?_
          exact ih x129 v128
        · refine ze_iconst (x := 0) X dc_W_law_523 (by decide) ?_
          exact ze_lret X Y dc_W_law_524
      refine ze_if (c := ((xs (Int32.toNatClampNeg l3)) &&& 15) = 13) (fun hq => ?_) (fun hn130 => ?_)
      · refine ze_tabI (off := 492) (tgt := 525) X dc_W_law_33 (by rw [hq]; decide) (by rw [hq]; decide) (by rw [hq]; rfl) (by decide) ?_
        refine ze_aload_n X dc_W_law_525 rfl rfl ?_
        refine ze_aload_n X dc_W_law_526 rfl rfl ?_
        refine ze_iload_n X dc_W_law_527 rfl rfl ?_
        refine ze_iconst (x := 1) X dc_W_law_528 (by decide) ?_
        refine ze_iadd X dc_W_law_529 ?_
        refine ze_sld X hSc dc_W_law_530 (fun _ => ?_)
        refine ze_callVi (As := [.inl (xs (Int32.toNatClampNeg (l3 + 1)))]) (st := []) X dc_W_law_531 zc_W_73 sh_0 (fun zr zv zh => c_E_count X.2.2.2.2.2.2.1  (xs (Int32.toNatClampNeg (l3 + 1)))  v zh) rfl (by decide) (by decide) (Nat.le_of_ble_eq_true rfl) (fun r131 v132 => ?_)
        refine ze_aload_n X dc_W_law_534 rfl rfl ?_
        refine ze_aload_n X dc_W_law_535 rfl rfl ?_
        refine ze_iload_n X dc_W_law_536 rfl rfl ?_
        refine ze_iconst (x := 1) X dc_W_law_537 (by decide) ?_
        refine ze_iadd X dc_W_law_538 ?_
        refine ze_sld X hSc dc_W_law_539 (fun _ => ?_)
        refine ze_callVi (As := [.inl (xs (Int32.toNatClampNeg (l3 + 1)))]) (st := [.inl r131]) X dc_W_law_540 zc_W_76 sh_75 (fun zr zv zh => c_M_count X.2.2.2.2.2.2.1  (xs (Int32.toNatClampNeg (l3 + 1)))  v132 zh) rfl (by decide) (by decide) (Nat.le_of_ble_eq_true rfl) (fun r133 v134 => ?_)
        refine ze_icmp_eq (tgt := 548) X dc_W_law_543 (by decide) (fun _ => ?_) (fun _ => ?_)
        · refine ze_iinc (y := 6) X dc_W_law_548 rfl (by decide) (by decide) (fun x135 => ?_)
          refine ze_goto (tgt := 18) X dc_W_law_551 (by decide) ?_
          refine ze_weak [true, true, true, true] ?_
          exact ih x135 v134
        · refine ze_iconst (x := 0) X dc_W_law_546 (by decide) ?_
          exact ze_lret X Y dc_W_law_547
      refine ze_tabO (tgt := 548) X dc_W_law_33 (by have q0 := lv_neT (a := 0) hn1 (by decide); have q1 := lv_neT (a := 1) hn7 (by decide); have q2 := lv_neT (a := 2) hn13 (by decide); have q3 := lv_neT (a := 3) hn19 (by decide); have q4 := lv_neT (a := 4) hn76 (by decide); have q5 := lv_neT (a := 5) hn82 (by decide); have q6 := lv_neT (a := 6) hn88 (by decide); have q7 := lv_neT (a := 7) hn94 (by decide); have q8 := lv_neT (a := 8) hn100 (by decide); have q9 := lv_neT (a := 9) hn106 (by decide); have q10 := lv_neT (a := 10) hn112 (by decide); have q11 := lv_neT (a := 11) hn118 (by decide); have q12 := lv_neT (a := 12) hn124 (by decide); have q13 := lv_neT (a := 13) hn130 (by decide); omega) (by decide) ?_
      refine ze_iinc (y := 6) X dc_W_law_548 rfl (by decide) (by decide) (fun x136 => ?_)
      refine ze_goto (tgt := 18) X dc_W_law_551 (by decide) ?_
      refine ze_weak [true, true, true, true] ?_
      exact ih x136 v
