abbrev zn_nw : List (String × Nat × MethodName × String) := [(cn_E, 15, my_P_init, "RouteEngine"), (cn_E, 34, my_C_init, "RouteEngine"), (cn_E, 45, my_N_init, "RouteEngine"), (cn_E, 60, my_G_init, "RouteEngine"), (cn_E, 67, my_K_init, "RouteEngine"), (cn_E, 78, my_H_init, "RouteEngine")]
/-! CONSTRUCTORS: a world that grows; addresses are names -/
def zn_T (G : ze_G) (A : Nat → Prop) (ws : va_W) (cs sl pc : Nat) (L : List (Option ze_V)) (st : List ze_V) : Prop :=
  ∀ (H : Heap) (locs : List Loc) (ls : Array Slot), va_P (ze_D G) ze_cl ws H → va_D A ws → va_S A (ze_h0 G) H locs → ze_has (fun q => q) (ze_c G).maxLocals L ls →
    W G.1.1 G.1.2.1 G.1.2.2.1 G.1.2.2.2 G.2.1.1 G.2.1.2.1 G.2.1.2.2.1 G.2.1.2.2.2 G.2.2.1.1 G.2.2.1.2.1 H locs cs sl G.2.2.2.2.1.2.2 (F0 (ze_m G) pc ls (st.map (ze_val (fun q => q))))
/-- links to private constructors of nest mates -/
def zn_N (U : State) : Prop := ∀ q ∈ zn_nw, va_Nw (.methodLinkNest q.1 q.2.1 q.2.2.1 q.2.2.2) U
theorem zn_N.warm {s U : State} (hW : s.WarmedH U.vm) (h : zn_N s) : zn_N U := fun q hq => va_Nw.warmM hW (h q hq)
theorem zn_N.blind {U : State} {g : JFrame} {mk : MethodId} {a : Array Value} (h : zn_N U) : zn_N (U.calling g mk a) := fun q hq => va_Nw.same rfl rfl (h q hq)
def zn_X (G : ze_G) (A : Nat → Prop) (cc : ByteArray) (own : String) (nL fr lo mc ms : Nat) : Prop :=
  G.1.1.tables.exec = Jvm.exec ∧ (ze_c G).code = cc ∧ (ze_s G).vm.findClass own = some (ze_m G).cls ∧ (∀ w ∈ ze_tbl, w.before (ze_ar G) (ze_s G) = true) ∧ (ze_c G).maxLocals = nL ∧
  va_K (ze_D G) ze_cl (ze_tys (ze_ca G)) (ze_s G) ∧ (∀ q, (ze_h0 G).size ≤ q → A q) ∧ fr ≤ (ze_R G).frames ∧ lo ≤ (ze_R G).locals ∧ mc ≤ (ze_R G).cells ∧ ms ≤ (ze_R G).slots ∧ zn_N (ze_s G)
theorem zn_rng (ws : va_W) (x : Nat × va_E) : (List.range ws.length).map (fun i => (ws ++ [x])[i]?) = ws.map some := by
  apply List.ext_getElem?
  intro j
  by_cases h : j < ws.length
  · simp [h, List.getElem?_append_left h]
  · have h2 : ws.length ≤ j := by omega
    simp [h2]
theorem zn_ndR : ∀ (l : List Nat), l.Nodup → va_nd l = true
  | [], _ => rfl
  | a :: r, h => by
    have h1 := List.nodup_cons.mp h
    simp only [va_nd, zn_ndR r h1.2]
    simp [h1.1]
theorem zn_nd (n : Nat) : va_nd (List.range n) = true := zn_ndR _ List.nodup_range
section ZN
variable {G : ze_G} {A : Nat → Prop} {cc : ByteArray} {own : String} {nL fr lo mc ms : Nat} {ws : va_W} {cs sl pc : Nat} {L : List (Option ze_V)} {st : List ze_V}
theorem zn_iconst (X : zn_X G A cc own nL fr lo mc ms) {n : Int} {x : Int32} (d : decode cc pc = .ok (.iconst n, 1)) (hv : Int32.ofInt n = x) (k : zn_T G A ws cs sl (pc + 1) L (.inl x :: st)) : zn_T G A ws cs sl pc L (st) := fun H locs ls hP hD hS hl => lv_iconst X.1 X.2.1 d hv (k H locs ls hP hD hS hl)
theorem zn_bipush (X : zn_X G A cc own nL fr lo mc ms) {n : Int} {x : Int32} (d : decode cc pc = .ok (.bipush n, 2)) (hv : (Int8.ofInt n).toInt32 = x) (k : zn_T G A ws cs sl (pc + 2) L (.inl x :: st)) : zn_T G A ws cs sl pc L (st) := fun H locs ls hP hD hS hl => lv_bipush X.1 X.2.1 d hv (k H locs ls hP hD hS hl)
theorem zn_sipush (X : zn_X G A cc own nL fr lo mc ms) {n : Int} {x : Int32} (d : decode cc pc = .ok (.sipush n, 3)) (hv : (Int16.ofInt n).toInt32 = x) (k : zn_T G A ws cs sl (pc + 3) L (.inl x :: st)) : zn_T G A ws cs sl pc L (st) := fun H locs ls hP hD hS hl => lv_sipush X.1 X.2.1 d hv (k H locs ls hP hD hS hl)
theorem zn_iload_n (X : zn_X G A cc own nL fr lo mc ms) {j : Fin 4} {i : Nat} {x : Int32} (d : decode cc pc = .ok (.iload_n j, 1)) (hi : (j : Nat) = i) (hL : L[i]? = some (some (.inl x))) (k : zn_T G A ws cs sl (pc + 1) L (.inl x :: st)) : zn_T G A ws cs sl pc L (st) := fun H locs ls hP hD hS hl => lv_iload_n X.1 X.2.1 d hi (hl.2.2 i _ hL) (k H locs ls hP hD hS hl)
theorem zn_aload_n (X : zn_X G A cc own nL fr lo mc ms) {j : Fin 4} {i x : Nat} (d : decode cc pc = .ok (.aload_n j, 1)) (hi : (j : Nat) = i) (hL : L[i]? = some (some (.inr x))) (k : zn_T G A ws cs sl (pc + 1) L (.inr x :: st)) : zn_T G A ws cs sl pc L (st) := fun H locs ls hP hD hS hl => lv_aload_n X.1 X.2.1 d hi (hl.2.2 i _ hL) (k H locs ls hP hD hS hl)
theorem zn_dup (X : zn_X G A cc own nL fr lo mc ms) {a : ze_V} (d : decode cc pc = .ok (.dup, 1)) (k : zn_T G A ws cs sl (pc + 1) L (a :: a :: st)) : zn_T G A ws cs sl pc L (a :: st) := fun H locs ls hP hD hS hl => lv_dup X.1 X.2.1 d (ze_val_cat _ a) (k H locs ls hP hD hS hl)
theorem zn_goto (X : zn_X G A cc own nL fr lo mc ms) {off : Int} {tgt : Nat} (d : decode cc pc = .ok (.goto off, 3)) (hq : (pc : Int) + off = (tgt : Int)) (k : zn_T G A ws cs sl tgt L (st)) : zn_T G A ws cs sl pc L (st) := fun H locs ls hP hD hS hl => lv_goto X.1 X.2.1 d hq (k H locs ls hP hD hS hl)
theorem zn_imul (X : zn_X G A cc own nL fr lo mc ms) {x y : Int32} (d : decode cc pc = .ok (.imul, 1)) (k : zn_T G A ws cs sl (pc + 1) L (.inl (x * y) :: st)) : zn_T G A ws cs sl pc L (.inl y :: .inl x :: st) := fun H locs ls hP hD hS hl => lv_imul X.1 X.2.1 d (k H locs ls hP hD hS hl)
theorem zn_icmp_geT (X : zn_X G A cc own nL fr lo mc ms) {x y : Int32} {off : Int} {tgt : Nat} (d : decode cc pc = .ok (.if_icmp .ge off, 3)) (hq : (pc : Int) + off = (tgt : Int)) (hc : y ≤ x) (k : zn_T G A ws cs sl tgt L st) : zn_T G A ws cs sl pc L (.inl y :: .inl x :: st) := fun H locs ls hP hD hS hl => lv_icmp_ge X.1 X.2.1 d hq (fun _ => (k H locs ls hP hD hS hl)) (fun h => absurd hc h)
theorem zn_icmp_geF (X : zn_X G A cc own nL fr lo mc ms) {x y : Int32} {off : Int} {tgt : Nat} (d : decode cc pc = .ok (.if_icmp .ge off, 3)) (hq : (pc : Int) + off = (tgt : Int)) (hc : ¬ y ≤ x) (k : zn_T G A ws cs sl (pc + 3) L st) : zn_T G A ws cs sl pc L (.inl y :: .inl x :: st) := fun H locs ls hP hD hS hl => lv_icmp_ge X.1 X.2.1 d hq (fun h => absurd h hc) (fun _ => (k H locs ls hP hD hS hl))
theorem zn_icmp_gtT (X : zn_X G A cc own nL fr lo mc ms) {x y : Int32} {off : Int} {tgt : Nat} (d : decode cc pc = .ok (.if_icmp .gt off, 3)) (hq : (pc : Int) + off = (tgt : Int)) (hc : y < x) (k : zn_T G A ws cs sl tgt L st) : zn_T G A ws cs sl pc L (.inl y :: .inl x :: st) := fun H locs ls hP hD hS hl => lv_icmp_gt X.1 X.2.1 d hq (fun _ => (k H locs ls hP hD hS hl)) (fun h => absurd hc h)
theorem zn_icmp_gtF (X : zn_X G A cc own nL fr lo mc ms) {x y : Int32} {off : Int} {tgt : Nat} (d : decode cc pc = .ok (.if_icmp .gt off, 3)) (hq : (pc : Int) + off = (tgt : Int)) (hc : ¬ y < x) (k : zn_T G A ws cs sl (pc + 3) L st) : zn_T G A ws cs sl pc L (.inl y :: .inl x :: st) := fun H locs ls hP hD hS hl => lv_icmp_gt X.1 X.2.1 d hq (fun h => absurd h hc) (fun _ => (k H locs ls hP hD hS hl))
theorem zn_istore_n (X : zn_X G A cc own nL fr lo mc ms) {j : Fin 4} {i : Nat} {x : Int32} (d : decode cc pc = .ok (.istore_n j, 1)) (hi : (j : Nat) = i) (hn : i < nL) (k : zn_T G A ws cs sl (pc + 1) (L.set i (some (.inl x))) st) : zn_T G A ws cs sl pc L (.inl x :: st) := fun H locs ls hP hD hS hl => lv_istore_n X.1 X.2.1 d hi hl.lv (by rw [X.2.2.2.2.1]; exact hn) rfl (fun ls1 hl1 => k H locs ls1 hP hD hS (ze_has.st hl1))
theorem zn_astore_n (X : zn_X G A cc own nL fr lo mc ms) {j : Fin 4} {i x : Nat} (d : decode cc pc = .ok (.astore_n j, 1)) (hi : (j : Nat) = i) (hn : i < nL) (k : zn_T G A ws cs sl (pc + 1) (L.set i (some (.inr x))) st) : zn_T G A ws cs sl pc L (.inr x :: st) := fun H locs ls hP hD hS hl => lv_astore_n X.1 X.2.1 d hi hl.lv (by rw [X.2.2.2.2.1]; exact hn) rfl (fun ls1 hl1 => k H locs ls1 hP hD hS (ze_has.st (w := .inr x) hl1))
theorem zn_iinc (X : zn_X G A cc own nL fr lo mc ms) {i : Nat} {n : Int} {x y : Int32} (d : decode cc pc = .ok (.iinc i n, 3)) (hL : L[i]? = some (some (.inl x))) (hv : x + Int32.ofInt n = y) (hn : i < nL) (k : zn_T G A ws cs sl (pc + 3) (L.set i (some (.inl y))) st) : zn_T G A ws cs sl pc L st := fun H locs ls hP hD hS hl => by
  obtain ⟨q, hq⟩ := ze_as_get (ad := fun q => q) hL
  exact lv_iinc X.1 X.2.1 d hl.lv hq hv (by rw [X.2.2.2.2.1]; exact hn) rfl (fun ls1 hl1 => k H locs ls1 hP hD hS (ze_has.st hl1))
theorem zn_obj (X : zn_X G A cc own nL fr lo mc ms) {ix x : Nat} (d : decode cc pc = .ok (.invokespecial ix, 3)) (h1 : Cond.methodLink own ix Lib.objectInit ∈ ze_tbl) (h2 : Cond.instanceMethod Lib.objectInit ∈ ze_tbl) (h3 : Cond.code Lib.objectInit ⟨#[0xb1]⟩ 1 none ∈ ze_tbl) (hfr : 1 ≤ fr) (hlo : 20 ≤ lo) (hst : st.length ≤ 8) (k : zn_T G A ws cs sl (pc + 3) L st) : zn_T G A ws cs sl pc L (.inr x :: st) := fun H locs ls hP hD hS hl => by
  refine W.objInit X.1 X.2.1 X.2.2.1 (X.2.2.2.1 _ h1) (X.2.2.2.1 _ h2) (X.2.2.2.1 _ h3) rfl hl.1 rfl d (Nat.le_trans hfr X.2.2.2.2.2.2.2.1) ?_ (k H locs ls hP hD hS hl)
  have h4 := X.2.2.2.2.2.2.2.2.1
  have h5 := ze_cats (fun q => q) st
  have h6 := lv_room (m := ze_m G) (pc := pc) (ls := ls) (rest := (((.inr x : ze_V) :: st).map (ze_val (fun q => q)))) (st := st.map (ze_val (fun q => q))) (by rw [h5]; exact hst)
  omega
/-- a new object -/
theorem zn_new (X : zn_X G A cc own nL fr lo mc ms) {ix ci N : Nat} {C : String} {T : u_T} {fs : List Value} (d : decode cc pc = .ok (.new ix, 3)) (ty : Nat → FieldType) (hc : ze_cl[ci]? = some (C, T, N)) (hin : ∀ w ∈ u_ws C T N, w ∈ ze_tbl) (hty : ∀ k, k < N → parseFieldDescriptor (T k).2.2.1 = some (ty k)) (h1 : Cond.classLink own ix C ∈ ze_tbl) (h2 : Cond.instantiable C N ∈ ze_tbl) (h3 : Cond.initialized C ∈ ze_tbl) (hfs : ∀ j, j < N → defaultValue (ty j) = vp_V fs j) (hmc : cs + 1 ≤ mc) (hms : sl + N ≤ ms)
    (k : ∀ q : Nat, zn_T G A (ws ++ [(q, .inr (ci, fs))]) (cs + 1) (sl + N) (pc + 3) L (.inr q :: st)) : zn_T G A ws cs sl pc L st := fun H locs ls hP hD hS hl =>
  va_new X.1 X.2.1 X.2.2.2.1 hin ty hty X.2.2.1 (X.2.2.2.1 _ h1) (X.2.2.2.1 _ h2) (X.2.2.2.1 _ h3) X.2.2.2.2.2.1 hP hD hS X.2.2.2.2.2.2.1 hc hfs (Nat.le_trans hmc X.2.2.2.2.2.2.2.2.2.1) (Nat.le_trans hms X.2.2.2.2.2.2.2.2.2.2.1) d (fun q H1 hP1 hD1 hS1 => k q H1 locs ls hP1 hD1 hS1 hl)
/-- a new array of numbers -/
theorem zn_newa (X : zn_X G A cc own nL fr lo mc ms) {t N : Nat} {n : Int32} {at0 : ArrayType} {ty : FieldType} (d : decode cc pc = .ok (.newarray at0, 2)) (hty : newarray.typeOf at0 = ty) (hw : Cond.arrayClass ty ∈ ze_tbl) (ht0 : ze_tl[t]? = some ty) (hf : ∀ cA, va_RA (ze_s G) cA ty → (ze_s G).vm.findClass ("[" ++ ty.toString) = some cA) (hdv : ∀ cA : ClassId, vp_cell cA (N, .inl (fun _ => 0)) = arrV cA N (fun _ => defaultValue ty)) (hn : ¬ n < 0) (hN : n.toNatClampNeg = N) (hb : N * componentBytes ty ≤ 536870912) (hmc : cs + 1 ≤ mc) (hms : sl + N ≤ ms)
    (k : ∀ q : Nat, zn_T G A (ws ++ [(q, .inl (ze_ca G t, N, .inl (fun _ => 0)))]) (cs + 1) (sl + N) (pc + 2) L (.inr q :: st)) : zn_T G A ws cs sl pc L (.inl n :: st) := fun H locs ls hP hD hS hl => by
  refine va_newa (a0 := (N, .inl (fun _ => 0))) X.1 X.2.1 (by rw [hty]; exact X.2.2.2.1 _ hw) hty X.2.2.2.2.2.1 hP hD hS X.2.2.2.2.2.2.1 hdv hn hN hb (Nat.le_trans hmc X.2.2.2.2.2.2.2.2.2.1) (Nat.le_trans hms X.2.2.2.2.2.2.2.2.2.2.1) d (fun q cA H1 hK1 hP1 hD1 hS1 => ?_)
  have hcA : cA = ze_ca G t := by
    have a1 := hf _ (X.2.2.2.2.2.1.2 t _ (ze_tys_at ht0)).2
    have a2 := hf _ (hK1.2 (ze_tys (ze_ca G)).length (cA, ty) (by simp)).2
    exact Option.some.inj (a2.symm.trans a1)
  subst hcA
  exact k q H1 locs ls hP1 hD1 hS1 hl
/-- a new array of objects -/
theorem zn_newq (X : zn_X G A cc own nL fr lo mc ms) {t N ix : Nat} {C : String} {n : Int32} (d : decode cc pc = .ok (.anewarray ix, 3)) (h1 : Cond.classLink own ix C ∈ ze_tbl) (h2 : Cond.arrayOver (.object C) ∈ ze_tbl) (ht0 : ze_tl[t]? = some (.object C)) (hn : ¬ n < 0) (hN : n.toNatClampNeg = N) (hb : N * 4 ≤ 536870912) (hmc : cs + 1 ≤ mc) (hms : sl + N ≤ ms)
    (k : ∀ q : Nat, zn_T G A (ws ++ [(q, .inl (ze_ca G t, N, .inr (.inr (.inr (.inr (fun _ => none))))))]) (cs + 1) (sl + N) (pc + 3) L (.inr q :: st)) : zn_T G A ws cs sl pc L (.inl n :: st) := fun H locs ls hP hD hS hl => by
  refine va_newq X.1 X.2.1 X.2.2.1 (X.2.2.2.1 _ h1) (va_AO.of (X.2.2.2.1 _ h2)) X.2.2.2.2.2.1 hP hD hS X.2.2.2.2.2.2.1 hn hN hb (Nat.le_trans hmc X.2.2.2.2.2.2.2.2.2.1) (Nat.le_trans hms X.2.2.2.2.2.2.2.2.2.2.1) d (fun q cA H1 hK1 hP1 hD1 hS1 => ?_)
  have hcA : cA = ze_ca G t := by
    obtain ⟨_, _, _, _, _, a1⟩ := (X.2.2.2.2.2.1.2 t _ (ze_tys_at ht0)).2
    obtain ⟨_, _, _, _, _, a2⟩ := (hK1.2 (ze_tys (ze_ca G)).length (cA, .object C) (by simp)).2
    exact Option.some.inj (a2.symm.trans a1)
  subst hcA
  exact k q H1 locs ls hP1 hD1 hS1 hl
/-- fields: the words of a write -/
def zn_F (own : String) (ix ci f : Nat) (fin : Bool) (ty : FieldType) : Prop := ∃ (C : String) (T : u_T) (N : Nat) (tf : Nat → FieldType), ze_cl[ci]? = some (C, T, N) ∧ (∀ w ∈ u_ws C T N, w ∈ ze_tbl) ∧ f < N ∧ Cond.fieldLink own ix (T f).1 (T f).2.1 (T f).2.2.1 ∈ ze_tbl ∧ (∀ k, k < N → parseFieldDescriptor (T k).2.2.1 = some (tf k)) ∧ (∀ a, a < N → ∀ b, b < N → a ≠ b → (T a).2.1 ≠ (T b).2.1) ∧ (T f).2.2.2 = fin ∧ parseFieldDescriptor (T f).2.2.1 = some ty ∧ (T f).1 = own
theorem zn_putF (X : zn_X G A cc own nL fr lo mc ms) {k0 a ix ci f : Nat} {w : ze_V} {ty : FieldType} {fs : List Value} (d : decode cc pc = .ok (.putfield ix, 3)) (hI : (ze_me G).name = "<init>") (hF : zn_F own ix ci f true ty) (he : ws[k0]? = some (a, .inr (ci, fs))) (hlt : f < fs.length) (hn : narrow ty (ze_val (fun q => q) w) = ze_val (fun q => q) w) (hft : fits ty (ze_val (fun q => q) w) = true) (k : zn_T G A (ws.set k0 (a, .inr (ci, fs.set f (ze_val (fun q => q) w)))) cs sl (pc + 3) L st) : zn_T G A ws cs sl pc L (w :: .inr a :: st) := fun H locs ls hP hD hS hl => by
  obtain ⟨C, T, N, tf, h1, h2, h3, h4, h5, h6, h7, h8, h9⟩ := hF
  exact va_putF X.1 X.2.1 X.2.2.2.1 h2 tf h5 h6 X.2.2.1 X.2.2.2.2.2.1 hP hD hS k0 he h1 f h3 (X.2.2.2.1 _ h4) (fun _ h => h) h7 hI h9 h8 hn hft hlt d (fun H1 locs1 hP1 hD1 hS1 => k H1 locs1 ls hP1 hD1 hS1 hl)
theorem zn_put (X : zn_X G A cc own nL fr lo mc ms) {k0 a ix ci f : Nat} {w : ze_V} {ty : FieldType} {fs : List Value} (d : decode cc pc = .ok (.putfield ix, 3)) (hF : zn_F own ix ci f false ty) (he : ws[k0]? = some (a, .inr (ci, fs))) (hlt : f < fs.length) (hn : narrow ty (ze_val (fun q => q) w) = ze_val (fun q => q) w) (hft : fits ty (ze_val (fun q => q) w) = true) (k : zn_T G A (ws.set k0 (a, .inr (ci, fs.set f (ze_val (fun q => q) w)))) cs sl (pc + 3) L st) : zn_T G A ws cs sl pc L (w :: .inr a :: st) := fun H locs ls hP hD hS hl => by
  obtain ⟨C, T, N, tf, h1, h2, h3, h4, h5, h6, h7, h8, h9⟩ := hF
  exact va_put X.1 X.2.1 X.2.2.2.1 h2 tf h5 h6 X.2.2.1 X.2.2.2.2.2.1 hP hD hS k0 he h1 f h3 (X.2.2.2.1 _ h4) (fun _ h => h) h7 h8 hn hft hlt d (fun H1 locs1 hP1 hD1 hS1 => k H1 locs1 ls hP1 hD1 hS1 hl)
theorem zn_get (X : zn_X G A cc own nL fr lo mc ms) {k0 a ix ci f : Nat} {w : ze_V} {fs : List Value} (d : decode cc pc = .ok (.getfield ix, 3)) (hF : ze_F own ix ci f) (he : ws[k0]? = some (a, .inr (ci, fs))) (hv : fs[f]? = some (ze_val (fun q => q) w)) (k : zn_T G A ws cs sl (pc + 3) L (w :: st)) : zn_T G A ws cs sl pc L (.inr a :: st) := fun H locs ls hP hD hS hl => by
  obtain ⟨C, T, N, h1, h2, h3, h4⟩ := hF
  exact va_get X.1 X.2.1 X.2.2.2.1 h2 X.2.2.1 X.2.2.2.2.2.1 hP k0 he h1 f h3 (X.2.2.2.1 _ h4) (fun _ h => h) hv d (k H locs ls hP hD hS hl)
theorem zn_aast (X : zn_X G A cc own nL fr lo mc ms) {k0 k1 a b t n ci : Nat} {i : Int32} {r : vw_C} {f : Nat → Option Nat} {vs : List Value} (d : decode cc pc = .ok (.aastore, 1)) (he : ws[k0]? = some (a, .inl (ze_ca G t, n, .inr (.inr (.inr (.inr f)))))) (ht0 : ze_tl[t]? = some (.object r.1)) (hv : ws[k1]? = some (b, .inr (ci, vs))) (hc : ze_cl[ci]? = some r) (hin : vp_in i n) (k : zn_T G A (ws.set k0 (a, .inl (ze_ca G t, n, .inr (.inr (.inr (.inr (va_up f i.toNatClampNeg (some b)))))))) cs sl (pc + 1) L st) : zn_T G A ws cs sl pc L (.inr b :: .inl i :: .inr a :: st) := fun H locs ls hP hD hS hl =>
  va_astq X.1 X.2.1 X.2.2.2.2.2.1 hP hD hS k0 t k1 ci he (ze_tys_at ht0) hv hc hin d (fun H1 locs1 hP1 hD1 hS1 => k H1 locs1 ls hP1 hD1 hS1 hl)
theorem zn_mmax (X : zn_X G A cc own nL fr lo mc ms) {ix : Nat} {x y z : Int32} (hz : (if x < y then y else x) = z) (d : decode cc pc = .ok (.invokestatic ix, 3)) (hm : ze_CM own ix Lib.Math.max.name Lib.Math.max.code) (hfr : 1 ≤ fr) (hlo : 21 ≤ lo) (hst : st.length ≤ 8) (hcs : cs ≤ mc) (hsl : sl ≤ ms) (k : zn_T G A ws cs sl (pc + 3) L (.inl z :: st)) : zn_T G A ws cs sl pc L (.inl y :: .inl x :: st) := fun H locs ls hP hD hS hl => by
  subst hz
  exact va_mmax X.1 X.2.1 hl.1.symm X.2.2.1 (X.2.2.2.1 _ hm.1) (X.2.2.2.1 _ hm.2.1) (X.2.2.2.1 _ hm.2.2.1) (X.2.2.2.1 _ hm.2.2.2) (Nat.le_trans hfr X.2.2.2.2.2.2.2.1) (by have h1 := X.2.2.2.2.2.2.2.2.1; rw [ze_cats]; omega) (Nat.le_trans hcs X.2.2.2.2.2.2.2.2.2.1) (Nat.le_trans hsl X.2.2.2.2.2.2.2.2.2.2.1) d (k H locs ls hP hD hS hl)
/-- a constructor's contract: of its own object alone the world before, of it and what it made behind -/
def zn_M (l : Launch) (D : va_G) (ca : Nat → ClassId) (y : MethodName) (cc : ByteArray) (nL fr lo mc ms : Nat) (As : List ze_V) (o : Nat × va_E) (w1 : (Nat → Nat) → va_W) : Prop :=
  ∀ sz : Nat, Met l y (.code y cc nL none :: ze_tbl) { frames := fr, cells := mc, slots := ms, locals := lo } (va_Pc (As.map (ze_val (fun q => q))) (fun U => U.heap.size = sz ∧ va_P D ze_cl [o] U.heap ∧ va_K D ze_cl (ze_tys ca) U ∧ zn_N U)) (va_Qv (fun (_ : Nat → Nat) => True) (fun u t => va_P D ze_cl (w1 u) t.heap ∧ va_K D ze_cl (ze_tys ca) t ∧ va_D (va_A [o] sz) (w1 u)) (va_A [o] sz)) mc ms (va_A [o] sz)
theorem zn_callI (X : zn_X G A cc own nL fr lo mc ms) {ix n a nL1 fr1 lo1 mc1 ms1 : Nat} {y : MethodName} {c1 : ByteArray} {e : va_E} {As : List ze_V} {w1 : (Nat → Nat) → va_W} (d : decode cc pc = .ok (.invokespecial ix, 3)) (hC : Cond.methodLink own ix y ∈ ze_tbl ∧ Cond.instanceMethod y ∈ ze_tbl ∧ Cond.initialized y.cls ∈ ze_tbl ∧ Cond.code y c1 nL1 none ∈ ze_tbl) (hd : y.cls ≠ "java/lang/invoke/MethodHandle" ∧ y.cls ≠ "java/lang/invoke/VarHandle" ∧ (parseMethodDescriptor y.desc).map (fun d => d.parameters.length) = some n) (hy : y.name = "<init>")
    (hM : zn_M (ze_l G) (ze_D G) (ze_ca G) y c1 nL1 fr1 lo1 mc1 ms1 (.inr a :: As) (a, e) w1) (hn : As.length = n) (hfr : fr1 + 1 ≤ fr) (hlo : 8 + (nL1 + 11) + lo1 ≤ lo) (hst : st.length ≤ 8) (hmc : cs + mc1 ≤ mc) (hms : sl + ms1 ≤ ms)
    (k : ∀ u : Nat → Nat, zn_T G A (ws ++ w1 u) (cs + mc1) (sl + ms1) (pc + 3) L st) : zn_T G A (ws ++ [(a, e)]) cs sl pc L (As.reverse ++ .inr a :: st) := fun H locs ls hP hD hS hl => by
  have hts := X.2.2.2.1
  obtain ⟨w1', w2, w4, w5⟩ := hC
  have hl0 : (ws ++ [(a, e)])[ws.length]? = some (a, e) := by simp
  have hFc : ∀ q, va_A [(a, e)] H.size q → A q := va_free (wc := [(a, e)]) hD hS X.2.2.2.2.2.2.1 [ws.length] (by simp)
  have hPc : va_P (ze_D G) ze_cl [(a, e)] H := hP.sub [ws.length] (by simp)
  have hB : CallB (ze_R G) (ze_s G) (ze_ar G) own ix y c1 nL1 none (.code y c1 nL1 none :: ze_tbl) { frames := fr1, cells := mc1, slots := ms1, locals := lo1 } mc1 ms1 n := callB_of n hts (ze_good w5) rfl rfl rfl (hts _ w4) (hts _ w1') hd ⟨Nat.le_trans hfr X.2.2.2.2.2.2.2.1, Nat.le_trans hlo X.2.2.2.2.2.2.2.2.1⟩
  have hr := va_runI (p := G.1.1) (l := ze_l G) (e := G.1.2.2.1) (below := G.2.1.2.2.2) (meth := ze_me G) (H := H) (locs := locs) (cells := cs) (slots := sl) (b := a) (As := As.map (ze_val (fun q => q))) (rest := st.map (ze_val (fun q => q))) (g := F0 (ze_m G) pc ls ((As.reverse ++ .inr a :: st).map (ze_val (fun q => q)))) (nL := nL) (Ts := ze_tbl)
    ⟨X.1, X.2.1, X.2.2.2.2.1, X.2.2.1, hts⟩ (hM H.size) ⟨hB, hy, hts _ w2⟩ ⟨fun a U g mk h => ⟨h.1, h.2.1, h.2.2.1, va_K.moved (u := U) (U := U.calling g mk a) (Vm.Alike.refl U.vm) h.2.2.2.1, h.2.2.2.2.blind⟩, fun U hU hW => ⟨rfl, by rw [hU], by rw [hU]; exact hPc, va_K.moved hW.alike X.2.2.2.2.2.1, X.2.2.2.2.2.2.2.2.2.2.2.warm hW⟩⟩ rfl (by simpa using hn) (hl.1.trans X.2.2.2.2.1) (ze_stk _ _ _)
    (by rw [ze_cats]; simpa [JFrame.monitorRoom] using hst) d ⟨Nat.le_trans hmc X.2.2.2.2.2.2.2.2.2.1, Nat.le_trans hms X.2.2.2.2.2.2.2.2.2.2.1⟩
  refine va_callv hr hS (fun q _ h => hFc q h) hFc (fun u U H1 locs1 hU hvm _ hB1 hz1 hk1 hS1 => ?_)
  obtain ⟨hP1, hK1, hD1⟩ := hB1
  rw [hU] at hP1
  obtain ⟨hP2, hD2⟩ := va_join (wr := ws) (w1 := w1 u) hP hD [ws.length] (List.range ws.length) (by simp) (zn_rng ws (a, e)) (zn_nd ws.length) (fun i h1 h2 => by simp at h1 h2; omega) hk1 hFc hP1 hD1
  exact k u H1 locs1 ls hP2 hD2 hS1 hl
theorem zn_callIN (X : zn_X G A cc own nL fr lo mc ms) {ix n a nL1 fr1 lo1 mc1 ms1 : Nat} {y : MethodName} {c1 : ByteArray} {e : va_E} {As : List ze_V} {w1 : (Nat → Nat) → va_W} (d : decode cc pc = .ok (.invokespecial ix, 3)) {host : String} (hC : (own, ix, y, host) ∈ zn_nw ∧ Cond.instanceMethod y ∈ ze_tbl ∧ Cond.initialized y.cls ∈ ze_tbl ∧ Cond.code y c1 nL1 none ∈ ze_tbl) (hd : y.cls ≠ "java/lang/invoke/MethodHandle" ∧ y.cls ≠ "java/lang/invoke/VarHandle" ∧ (parseMethodDescriptor y.desc).map (fun d => d.parameters.length) = some n) (hy : y.name = "<init>")
    (hM : zn_M (ze_l G) (ze_D G) (ze_ca G) y c1 nL1 fr1 lo1 mc1 ms1 (.inr a :: As) (a, e) w1) (hn : As.length = n) (hfr : fr1 + 1 ≤ fr) (hlo : 8 + (nL1 + 11) + lo1 ≤ lo) (hst : st.length ≤ 8) (hmc : cs + mc1 ≤ mc) (hms : sl + ms1 ≤ ms)
    (k : ∀ u : Nat → Nat, zn_T G A (ws ++ w1 u) (cs + mc1) (sl + ms1) (pc + 3) L st) : zn_T G A (ws ++ [(a, e)]) cs sl pc L (As.reverse ++ .inr a :: st) := fun H locs ls hP hD hS hl => by
  have hts := X.2.2.2.1
  obtain ⟨w1', w2, w4, w5⟩ := hC
  have hl0 : (ws ++ [(a, e)])[ws.length]? = some (a, e) := by simp
  have hFc : ∀ q, va_A [(a, e)] H.size q → A q := va_free (wc := [(a, e)]) hD hS X.2.2.2.2.2.2.1 [ws.length] (by simp)
  have hPc : va_P (ze_D G) ze_cl [(a, e)] H := hP.sub [ws.length] (by simp)
  have hB : va_CN (ze_R G) (ze_s G) (ze_ar G) own ix y host c1 nL1 none (.code y c1 nL1 none :: ze_tbl) { frames := fr1, cells := mc1, slots := ms1, locals := lo1 } mc1 ms1 n := va_cnB n hts (ze_good w5) rfl rfl rfl (X.2.2.2.2.2.2.2.2.2.2.2 _ w1') (hts _ w4) hd ⟨Nat.le_trans hfr X.2.2.2.2.2.2.2.1, Nat.le_trans hlo X.2.2.2.2.2.2.2.2.1⟩
  have hr := va_runIN (p := G.1.1) (l := ze_l G) (e := G.1.2.2.1) (below := G.2.1.2.2.2) (meth := ze_me G) (H := H) (locs := locs) (cells := cs) (slots := sl) (b := a) (As := As.map (ze_val (fun q => q))) (rest := st.map (ze_val (fun q => q))) (g := F0 (ze_m G) pc ls ((As.reverse ++ .inr a :: st).map (ze_val (fun q => q)))) (nL := nL) (Ts := ze_tbl)
    ⟨X.1, X.2.1, X.2.2.2.2.1, X.2.2.1, hts⟩ (hM H.size) ⟨hB, hy, hts _ w2⟩ ⟨fun a U g mk h => ⟨h.1, h.2.1, h.2.2.1, va_K.moved (u := U) (U := U.calling g mk a) (Vm.Alike.refl U.vm) h.2.2.2.1, h.2.2.2.2.blind⟩, fun U hU hW => ⟨rfl, by rw [hU], by rw [hU]; exact hPc, va_K.moved hW.alike X.2.2.2.2.2.1, X.2.2.2.2.2.2.2.2.2.2.2.warm hW⟩⟩ rfl (by simpa using hn) (hl.1.trans X.2.2.2.2.1) (ze_stk _ _ _)
    (by rw [ze_cats]; simpa [JFrame.monitorRoom] using hst) d ⟨Nat.le_trans hmc X.2.2.2.2.2.2.2.2.2.1, Nat.le_trans hms X.2.2.2.2.2.2.2.2.2.2.1⟩
  refine va_callv hr hS (fun q _ h => hFc q h) hFc (fun u U H1 locs1 hU hvm _ hB1 hz1 hk1 hS1 => ?_)
  obtain ⟨hP1, hK1, hD1⟩ := hB1
  rw [hU] at hP1
  obtain ⟨hP2, hD2⟩ := va_join (wr := ws) (w1 := w1 u) hP hD [ws.length] (List.range ws.length) (by simp) (zn_rng ws (a, e)) (zn_nd ws.length) (fun i h1 h2 => by simp at h1 h2; omega) hk1 hFc hP1 hD1
  exact k u H1 locs1 ls hP2 hD2 hS1 hl
/-- a constructor's end -/
def zn_R (G : ze_G) (A : Nat → Prop) (mc ms : Nat) (w1 : (Nat → Nat) → va_W) : Prop := (ze_me G).sig.returnType = none ∧ (ze_me G).locks = false ∧ ze_h0 G = (ze_s G).heap ∧ G.2.2.2.2.1.2.2 = MQ G.2.1.2.2.2 (va_Qv (fun (_ : Nat → Nat) => True) (fun u t => va_P (ze_D G) ze_cl (w1 u) t.heap ∧ va_K (ze_D G) ze_cl (ze_tys (ze_ca G)) t ∧ va_D A (w1 u)) A) (ze_ar G) (ze_s G) mc ms A
theorem zn_vret (X : zn_X G A cc own nL fr lo mc ms) {w1 : (Nat → Nat) → va_W} (Y : zn_R G A cs sl w1) (u : Nat → Nat) (d : decode cc pc = .ok (.return_, 1)) (hw : ws = w1 u) : zn_T G A ws cs sl pc L [] := fun H locs ls hP hD hS hl => by
  obtain ⟨Y1, Y2, Y3, Y4⟩ := Y
  rw [Y4]
  refine W.vret X.1 X.2.1 Y1 (fun U hU hW => ⟨⟨u, rfl, trivial, by rw [hU, ← hw]; exact hP, va_K.moved hW.alike X.2.2.2.2.2.1, by rw [← hw]; exact hD⟩, (Y3 ▸ hS).F hU⟩) hS.2.2 d Y2
end ZN
theorem zn_M_of {l : Launch} {D : va_G} {ca : Nat → ClassId} {y : MethodName} {cc : ByteArray} {nL fr lo mc ms : Nat} {As : List ze_V} {o : Nat × va_E} {w1 : (Nat → Nat) → va_W} (hy : plainFor y = true) (hyn : y.name = "<init>") (hn : As.length ≤ nL)
    (walk : ∀ (G : ze_G) (A : Nat → Prop), ze_l G = l → ze_D G = D → ze_ca G = ca → zn_X G A cc y.cls nL fr lo mc ms → zn_R G A mc ms w1 → (ze_me G).name = "<init>" → zn_T G A [o] 0 0 0 (As.map some ++ List.replicate (nL - As.length) none) []) : zn_M l D ca y cc nL fr lo mc ms As o w1 := by
  intro sz
  refine ze_ofW (cc := cc) (maxL := nL) (ret := none) hy rfl ?_
  intro p e s m args below meth c s₁ B hml hv
  obtain ⟨rfl, hsz, hP, hK, hNw⟩ := hv
  subst hsz
  have hts := atoms_spec (ws := .code y cc nL none :: ze_tbl) B.pre
  have hin : meth.name = "<init>" := by rw [← hyn]; exact (name_of_methodNamed B.named B.method).1
  rw [lg_entry_eq]
  have hX : zn_X ((p, l, e, ({ frames := fr, cells := mc, slots := ms, locals := lo } : Room)), (s, m, (As.map (ze_val (fun q => q))).toArray, below), (meth, c, D), ((fun q => q), ca, s.heap), (0, 0, MQ below (va_Qv (fun (_ : Nat → Nat) => True) (fun u t => va_P D ze_cl (w1 u) t.heap ∧ va_K D ze_cl (ze_tys ca) t ∧ va_D (va_A [o] s.heap.size) (w1 u)) (va_A [o] s.heap.size)) (As.map (ze_val (fun q => q))).toArray s mc ms (va_A [o] s.heap.size)), (0, fun _ _ => 0)) (va_A [o] s.heap.size) cc y.cls nL fr lo mc ms :=
    ⟨B.exec, B.bytes, findClass_of_methodNamed B.named, fun w hw => hts w (List.mem_cons_of_mem _ hw), hml, hK, fun q h => Or.inr h, Nat.le_refl _, Nat.le_refl _, Nat.le_refl _, Nat.le_refl _, hNw⟩
  exact walk _ _ rfl rfl rfl hX ⟨B.returns, B.notSynchronized, rfl, rfl⟩ hin s.heap [] _ hP (va_D.self (A := fun _ => True) ⟨fun i j p q hp hq _ => by
    have h1 : i < 1 := (List.getElem?_eq_some_iff.mp hp).1
    have h2 : j < 1 := (List.getElem?_eq_some_iff.mp hq).1
    omega, fun _ _ _ => trivial⟩) va_S.rf (by rw [hX.2.2.2.2.1]; exact ze_entry (fun q => q) As nL hn)
theorem cf_E : ∀ j, j < 16 → defaultValue (cy_E j) = vp_V [.null, .null, .null, .null, .null, .null, .null, .null, .null, .null, .null, .null, .int 0, .int 0, .int 0, .int 0] j := fun j h => match j, h with
  | 0, _ => rfl
  | 1, _ => rfl
  | 2, _ => rfl
  | 3, _ => rfl
  | 4, _ => rfl
  | 5, _ => rfl
  | 6, _ => rfl
  | 7, _ => rfl
  | 8, _ => rfl
  | 9, _ => rfl
  | 10, _ => rfl
  | 11, _ => rfl
  | 12, _ => rfl
  | 13, _ => rfl
  | 14, _ => rfl
  | 15, _ => rfl
  | k + 16, h => absurd h (by omega)
theorem cf_P : ∀ j, j < 6 → defaultValue (cy_P j) = vp_V [.null, .null, .null, .null, .null, .null] j := fun j h => match j, h with
  | 0, _ => rfl
  | 1, _ => rfl
  | 2, _ => rfl
  | 3, _ => rfl
  | 4, _ => rfl
  | 5, _ => rfl
  | k + 6, h => absurd h (by omega)
theorem cf_R : ∀ j, j < 4 → defaultValue (cy_R j) = vp_V [.null, .int 0, .int 0, .int 0] j := fun j h => match j, h with
  | 0, _ => rfl
  | 1, _ => rfl
  | 2, _ => rfl
  | 3, _ => rfl
  | k + 4, h => absurd h (by omega)
theorem cf_C : ∀ j, j < 6 → defaultValue (cy_C j) = vp_V [.null, .null, .null, .null, .null, .int 0] j := fun j h => match j, h with
  | 0, _ => rfl
  | 1, _ => rfl
  | 2, _ => rfl
  | 3, _ => rfl
  | 4, _ => rfl
  | 5, _ => rfl
  | k + 6, h => absurd h (by omega)
theorem cf_N : ∀ j, j < 5 → defaultValue (cy_N j) = vp_V [.null, .null, .int 0, .int 0, .int 0] j := fun j h => match j, h with
  | 0, _ => rfl
  | 1, _ => rfl
  | 2, _ => rfl
  | 3, _ => rfl
  | 4, _ => rfl
  | k + 5, h => absurd h (by omega)
theorem cf_L : ∀ j, j < 6 → defaultValue (cy_L j) = vp_V [.int 0, .null, .null, .null, .int 0, .int 0] j := fun j h => match j, h with
  | 0, _ => rfl
  | 1, _ => rfl
  | 2, _ => rfl
  | 3, _ => rfl
  | 4, _ => rfl
  | 5, _ => rfl
  | k + 6, h => absurd h (by omega)
theorem cf_G : ∀ j, j < 6 → defaultValue (cy_G j) = vp_V [.null, .null, .null, .null, .null, .int 0] j := fun j h => match j, h with
  | 0, _ => rfl
  | 1, _ => rfl
  | 2, _ => rfl
  | 3, _ => rfl
  | 4, _ => rfl
  | 5, _ => rfl
  | k + 6, h => absurd h (by omega)
theorem cf_K : ∀ j, j < 3 → defaultValue (cy_K j) = vp_V [.null, .null, .null] j := fun j h => match j, h with
  | 0, _ => rfl
  | 1, _ => rfl
  | 2, _ => rfl
  | k + 3, h => absurd h (by omega)
theorem cf_H : ∀ j, j < 4 → defaultValue (cy_H j) = vp_V [.int 0, .int 0, .int 0, .int 0] j := fun j h => match j, h with
  | 0, _ => rfl
  | 1, _ => rfl
  | 2, _ => rfl
  | 3, _ => rfl
  | k + 4, h => absurd h (by omega)
theorem cf_M : ∀ j, j < 61 → defaultValue (cy_M j) = vp_V [.null, .null, .null, .null, .null, .int 0, .int 0, .int 0, .null, .null, .null, .null, .null, .null, .null, .null, .null, .null, .int 0, .null, .null, .null, .int 0, .null, .null, .null, .null, .null, .null, .int 0, .null, .null, .null, .null, .null, .int 0, .int 0, .null, .null, .null, .int 0, .null, .null, .null, .int 0, .null, .null, .null, .null, .null, .null, .null, .null, .int 0, .int 0, .int 0, .int 0, .int 0, .int 0, .int 0, .null] j := fun j h => match j, h with
  | 0, _ => rfl
  | 1, _ => rfl
  | 2, _ => rfl
  | 3, _ => rfl
  | 4, _ => rfl
  | 5, _ => rfl
  | 6, _ => rfl
  | 7, _ => rfl
  | 8, _ => rfl
  | 9, _ => rfl
  | 10, _ => rfl
  | 11, _ => rfl
  | 12, _ => rfl
  | 13, _ => rfl
  | 14, _ => rfl
  | 15, _ => rfl
  | 16, _ => rfl
  | 17, _ => rfl
  | 18, _ => rfl
  | 19, _ => rfl
  | 20, _ => rfl
  | 21, _ => rfl
  | 22, _ => rfl
  | 23, _ => rfl
  | 24, _ => rfl
  | 25, _ => rfl
  | 26, _ => rfl
  | 27, _ => rfl
  | 28, _ => rfl
  | 29, _ => rfl
  | 30, _ => rfl
  | 31, _ => rfl
  | 32, _ => rfl
  | 33, _ => rfl
  | 34, _ => rfl
  | 35, _ => rfl
  | 36, _ => rfl
  | 37, _ => rfl
  | 38, _ => rfl
  | 39, _ => rfl
  | 40, _ => rfl
  | 41, _ => rfl
  | 42, _ => rfl
  | 43, _ => rfl
  | 44, _ => rfl
  | 45, _ => rfl
  | 46, _ => rfl
  | 47, _ => rfl
  | 48, _ => rfl
  | 49, _ => rfl
  | 50, _ => rfl
  | 51, _ => rfl
  | 52, _ => rfl
  | 53, _ => rfl
  | 54, _ => rfl
  | 55, _ => rfl
  | 56, _ => rfl
  | 57, _ => rfl
  | 58, _ => rfl
  | 59, _ => rfl
  | 60, _ => rfl
  | k + 61, h => absurd h (by omega)
set_option maxRecDepth 100000 in
theorem zq_P_9 : zn_F cn_P 9 1 0 true (.array .char) := ⟨cn_P, ct_P, 6, cy_P, rfl, ci_P, by decide, (ze_mem (List.mem_of_getElem? (i := 100) (by decide +kernel)) rfl), co_P, ce_P, rfl, rfl, rfl⟩
set_option maxRecDepth 100000 in
theorem zq_P_15 : zn_F cn_P 15 1 1 true (.array .int) := ⟨cn_P, ct_P, 6, cy_P, rfl, ci_P, by decide, (ze_mem (List.mem_of_getElem? (i := 102) (by decide +kernel)) rfl), co_P, ce_P, rfl, rfl, rfl⟩
set_option maxRecDepth 100000 in
theorem zq_P_19 : zn_F cn_P 19 1 2 true (.array .int) := ⟨cn_P, ct_P, 6, cy_P, rfl, ci_P, by decide, (ze_mem (List.mem_of_getElem? (i := 105) (by decide +kernel)) rfl), co_P, ce_P, rfl, rfl, rfl⟩
set_option maxRecDepth 100000 in
theorem zq_P_22 : zn_F cn_P 22 1 3 true (.array .int) := ⟨cn_P, ct_P, 6, cy_P, rfl, ci_P, by decide, (ze_mem (List.mem_of_getElem? (i := 108) (by decide +kernel)) rfl), co_P, ce_P, rfl, rfl, rfl⟩
set_option maxRecDepth 100000 in
theorem zq_P_25 : zn_F cn_P 25 1 4 true (.array .int) := ⟨cn_P, ct_P, 6, cy_P, rfl, ci_P, by decide, (ze_mem (List.mem_of_getElem? (i := 111) (by decide +kernel)) rfl), co_P, ce_P, rfl, rfl, rfl⟩
set_option maxRecDepth 100000 in
theorem zq_P_28 : zn_F cn_P 28 1 5 true (.array .int) := ⟨cn_P, ct_P, 6, cy_P, rfl, ci_P, by decide, (ze_mem (List.mem_of_getElem? (i := 113) (by decide +kernel)) rfl), co_P, ce_P, rfl, rfl, rfl⟩
set_option maxRecDepth 100000 in
theorem zq_R_9 : zn_F cn_R 9 2 0 true (.object "RouteEngine$Program") := ⟨cn_R, ct_R, 4, cy_R, rfl, ci_R, by decide, (ze_mem (List.mem_of_getElem? (i := 137) (by decide +kernel)) rfl), co_R, ce_R, rfl, rfl, rfl⟩
set_option maxRecDepth 100000 in
theorem zq_R_15 : zn_F cn_R 15 2 3 false .int := ⟨cn_R, ct_R, 4, cy_R, rfl, ci_R, by decide, (ze_mem (List.mem_of_getElem? (i := 140) (by decide +kernel)) rfl), co_R, ce_R, rfl, rfl, rfl⟩
set_option maxRecDepth 100000 in
theorem zq_C_9 : zn_F cn_C 9 3 0 true (.array .int) := ⟨cn_C, ct_C, 6, cy_C, rfl, ci_C, by decide, (ze_mem (List.mem_of_getElem? (i := 156) (by decide +kernel)) rfl), co_C, ce_C, rfl, rfl, rfl⟩
set_option maxRecDepth 100000 in
theorem zq_C_15 : zn_F cn_C 15 3 1 true (.array .int) := ⟨cn_C, ct_C, 6, cy_C, rfl, ci_C, by decide, (ze_mem (List.mem_of_getElem? (i := 157) (by decide +kernel)) rfl), co_C, ce_C, rfl, rfl, rfl⟩
set_option maxRecDepth 100000 in
theorem zq_C_18 : zn_F cn_C 18 3 2 true (.array .int) := ⟨cn_C, ct_C, 6, cy_C, rfl, ci_C, by decide, (ze_mem (List.mem_of_getElem? (i := 159) (by decide +kernel)) rfl), co_C, ce_C, rfl, rfl, rfl⟩
set_option maxRecDepth 100000 in
theorem zq_C_21 : zn_F cn_C 21 3 3 true (.array .boolean) := ⟨cn_C, ct_C, 6, cy_C, rfl, ci_C, by decide, (ze_mem (List.mem_of_getElem? (i := 161) (by decide +kernel)) rfl), co_C, ce_C, rfl, rfl, rfl⟩
set_option maxRecDepth 100000 in
theorem zq_C_25 : zn_F cn_C 25 3 4 true (.array .boolean) := ⟨cn_C, ct_C, 6, cy_C, rfl, ci_C, by decide, (ze_mem (List.mem_of_getElem? (i := 163) (by decide +kernel)) rfl), co_C, ce_C, rfl, rfl, rfl⟩
set_option maxRecDepth 100000 in
theorem zq_N_9 : zn_F cn_N 9 4 0 true (.array .int) := ⟨cn_N, ct_N, 5, cy_N, rfl, ci_N, by decide, (ze_mem (List.mem_of_getElem? (i := 188) (by decide +kernel)) rfl), co_N, ce_N, rfl, rfl, rfl⟩
set_option maxRecDepth 100000 in
theorem zq_N_15 : zn_F cn_N 15 4 1 true (.array .int) := ⟨cn_N, ct_N, 5, cy_N, rfl, ci_N, by decide, (ze_mem (List.mem_of_getElem? (i := 190) (by decide +kernel)) rfl), co_N, ce_N, rfl, rfl, rfl⟩
set_option maxRecDepth 100000 in
theorem zq_L_13 : zn_F cn_L 13 5 0 true .int := ⟨cn_L, ct_L, 6, cy_L, rfl, ci_L, by decide, (ze_mem (List.mem_of_getElem? (i := 216) (by decide +kernel)) rfl), co_L, ce_L, rfl, rfl, rfl⟩
set_option maxRecDepth 100000 in
theorem zq_L_19 : zn_F cn_L 19 5 1 true (.array .int) := ⟨cn_L, ct_L, 6, cy_L, rfl, ci_L, by decide, (ze_mem (List.mem_of_getElem? (i := 217) (by decide +kernel)) rfl), co_L, ce_L, rfl, rfl, rfl⟩
set_option maxRecDepth 100000 in
theorem zq_L_23 : zn_F cn_L 23 5 2 true (.array .int) := ⟨cn_L, ct_L, 6, cy_L, rfl, ci_L, by decide, (ze_mem (List.mem_of_getElem? (i := 219) (by decide +kernel)) rfl), co_L, ce_L, rfl, rfl, rfl⟩
set_option maxRecDepth 100000 in
theorem zq_L_26 : zn_F cn_L 26 5 3 true (.array .int) := ⟨cn_L, ct_L, 6, cy_L, rfl, ci_L, by decide, (ze_mem (List.mem_of_getElem? (i := 221) (by decide +kernel)) rfl), co_L, ce_L, rfl, rfl, rfl⟩
set_option maxRecDepth 100000 in
theorem zq_G_9 : zn_F cn_G 9 6 0 true (.array .int) := ⟨cn_G, ct_G, 6, cy_G, rfl, ci_G, by decide, (ze_mem (List.mem_of_getElem? (i := 246) (by decide +kernel)) rfl), co_G, ce_G, rfl, rfl, rfl⟩
set_option maxRecDepth 100000 in
theorem zq_G_15 : zn_F cn_G 15 6 1 true (.array .int) := ⟨cn_G, ct_G, 6, cy_G, rfl, ci_G, by decide, (ze_mem (List.mem_of_getElem? (i := 248) (by decide +kernel)) rfl), co_G, ce_G, rfl, rfl, rfl⟩
set_option maxRecDepth 100000 in
theorem zq_G_18 : zn_F cn_G 18 6 2 true (.array .int) := ⟨cn_G, ct_G, 6, cy_G, rfl, ci_G, by decide, (ze_mem (List.mem_of_getElem? (i := 250) (by decide +kernel)) rfl), co_G, ce_G, rfl, rfl, rfl⟩
set_option maxRecDepth 100000 in
theorem zq_G_21 : zn_F cn_G 21 6 3 true (.array .int) := ⟨cn_G, ct_G, 6, cy_G, rfl, ci_G, by decide, (ze_mem (List.mem_of_getElem? (i := 252) (by decide +kernel)) rfl), co_G, ce_G, rfl, rfl, rfl⟩
set_option maxRecDepth 100000 in
theorem zq_G_24 : zn_F cn_G 24 6 4 true (.array .int) := ⟨cn_G, ct_G, 6, cy_G, rfl, ci_G, by decide, (ze_mem (List.mem_of_getElem? (i := 254) (by decide +kernel)) rfl), co_G, ce_G, rfl, rfl, rfl⟩
set_option maxRecDepth 100000 in
theorem zq_K_9 : zn_F cn_K 9 7 0 true (.array .int) := ⟨cn_K, ct_K, 3, cy_K, rfl, ci_K, by decide, (ze_mem (List.mem_of_getElem? (i := 277) (by decide +kernel)) rfl), co_K, ce_K, rfl, rfl, rfl⟩
set_option maxRecDepth 100000 in
theorem zq_K_15 : zn_F cn_K 15 7 1 true (.array .int) := ⟨cn_K, ct_K, 3, cy_K, rfl, ci_K, by decide, (ze_mem (List.mem_of_getElem? (i := 279) (by decide +kernel)) rfl), co_K, ce_K, rfl, rfl, rfl⟩
set_option maxRecDepth 100000 in
theorem zq_K_18 : zn_F cn_K 18 7 2 true (.array .int) := ⟨cn_K, ct_K, 3, cy_K, rfl, ci_K, by decide, (ze_mem (List.mem_of_getElem? (i := 281) (by decide +kernel)) rfl), co_K, ce_K, rfl, rfl, rfl⟩
set_option maxRecDepth 100000 in
theorem zq_E_9 : zn_F cn_E 9 0 0 true (.array .int) := ⟨cn_E, ct_E, 16, cy_E, rfl, ci_E, by decide, (ze_mem (List.mem_of_getElem? (i := 312) (by decide +kernel)) rfl), co_E, ce_E, rfl, rfl, rfl⟩
set_option maxRecDepth 100000 in
theorem zq_E_16 : zn_F cn_E 16 0 1 true (.object "RouteEngine$Program") := ⟨cn_E, ct_E, 16, cy_E, rfl, ci_E, by decide, (ze_mem (List.mem_of_getElem? (i := 313) (by decide +kernel)) rfl), co_E, ce_E, rfl, rfl, rfl⟩
set_option maxRecDepth 100000 in
theorem zq_E_20 : zn_F cn_E 20 0 2 true (.object "RouteEngine$Program") := ⟨cn_E, ct_E, 16, cy_E, rfl, ci_E, by decide, (ze_mem (List.mem_of_getElem? (i := 314) (by decide +kernel)) rfl), co_E, ce_E, rfl, rfl, rfl⟩
set_option maxRecDepth 100000 in
theorem zq_E_28 : zn_F cn_E 28 0 3 true (.object "RouteEngine$Reader") := ⟨cn_E, ct_E, 16, cy_E, rfl, ci_E, by decide, (ze_mem (List.mem_of_getElem? (i := 315) (by decide +kernel)) rfl), co_E, ce_E, rfl, rfl, rfl⟩
set_option maxRecDepth 100000 in
theorem zq_E_35 : zn_F cn_E 35 0 4 true (.object "RouteEngine$Clauses") := ⟨cn_E, ct_E, 16, cy_E, rfl, ci_E, by decide, (ze_mem (List.mem_of_getElem? (i := 316) (by decide +kernel)) rfl), co_E, ce_E, rfl, rfl, rfl⟩
set_option maxRecDepth 100000 in
theorem zq_E_41 : zn_F cn_E 41 0 5 true (.array (.object "RouteEngine$Endpoint")) := ⟨cn_E, ct_E, 16, cy_E, rfl, ci_E, by decide, (ze_mem (List.mem_of_getElem? (i := 317) (by decide +kernel)) rfl), co_E, ce_E, rfl, rfl, rfl⟩
set_option maxRecDepth 100000 in
theorem zq_E_51 : zn_F cn_E 51 0 6 true (.object "RouteEngine$Line") := ⟨cn_E, ct_E, 16, cy_E, rfl, ci_E, by decide, (ze_mem (List.mem_of_getElem? (i := 318) (by decide +kernel)) rfl), co_E, ce_E, rfl, rfl, rfl⟩
set_option maxRecDepth 100000 in
theorem zq_E_55 : zn_F cn_E 55 0 7 true (.object "RouteEngine$Line") := ⟨cn_E, ct_E, 16, cy_E, rfl, ci_E, by decide, (ze_mem (List.mem_of_getElem? (i := 319) (by decide +kernel)) rfl), co_E, ce_E, rfl, rfl, rfl⟩
set_option maxRecDepth 100000 in
theorem zq_E_61 : zn_F cn_E 61 0 8 true (.object "RouteEngine$Groups") := ⟨cn_E, ct_E, 16, cy_E, rfl, ci_E, by decide, (ze_mem (List.mem_of_getElem? (i := 320) (by decide +kernel)) rfl), co_E, ce_E, rfl, rfl, rfl⟩
set_option maxRecDepth 100000 in
theorem zq_E_68 : zn_F cn_E 68 0 9 true (.object "RouteEngine$Kept") := ⟨cn_E, ct_E, 16, cy_E, rfl, ci_E, by decide, (ze_mem (List.mem_of_getElem? (i := 321) (by decide +kernel)) rfl), co_E, ce_E, rfl, rfl, rfl⟩
set_option maxRecDepth 100000 in
theorem zq_E_74 : zn_F cn_E 74 0 10 true (.array (.object "RouteEngine$Exchange")) := ⟨cn_E, ct_E, 16, cy_E, rfl, ci_E, by decide, (ze_mem (List.mem_of_getElem? (i := 322) (by decide +kernel)) rfl), co_E, ce_E, rfl, rfl, rfl⟩
set_option maxRecDepth 100000 in
theorem zq_E_79 : zn_F cn_E 79 0 11 true (.array .int) := ⟨cn_E, ct_E, 16, cy_E, rfl, ci_E, by decide, (ze_mem (List.mem_of_getElem? (i := 323) (by decide +kernel)) rfl), co_E, ce_E, rfl, rfl, rfl⟩
set_option maxRecDepth 100000 in
theorem zq_M_7 : zn_F cn_M 7 9 0 true (.array .char) := ⟨cn_M, ct_M, 61, cy_M, rfl, ci_M, by decide, (ze_mem (List.mem_of_getElem? (i := 731) (by decide +kernel)) rfl), co_M, ce_M, rfl, rfl, rfl⟩
set_option maxRecDepth 100000 in
theorem zq_M_13 : zn_F cn_M 13 9 1 true (.array .int) := ⟨cn_M, ct_M, 61, cy_M, rfl, ci_M, by decide, (ze_mem (List.mem_of_getElem? (i := 732) (by decide +kernel)) rfl), co_M, ce_M, rfl, rfl, rfl⟩
set_option maxRecDepth 100000 in
theorem zq_M_17 : zn_F cn_M 17 9 2 true (.array .char) := ⟨cn_M, ct_M, 61, cy_M, rfl, ci_M, by decide, (ze_mem (List.mem_of_getElem? (i := 733) (by decide +kernel)) rfl), co_M, ce_M, rfl, rfl, rfl⟩
set_option maxRecDepth 100000 in
theorem zq_M_20 : zn_F cn_M 20 9 3 true (.array .int) := ⟨cn_M, ct_M, 61, cy_M, rfl, ci_M, by decide, (ze_mem (List.mem_of_getElem? (i := 734) (by decide +kernel)) rfl), co_M, ce_M, rfl, rfl, rfl⟩
set_option maxRecDepth 100000 in
theorem zq_M_23 : zn_F cn_M 23 9 4 true (.array .int) := ⟨cn_M, ct_M, 61, cy_M, rfl, ci_M, by decide, (ze_mem (List.mem_of_getElem? (i := 735) (by decide +kernel)) rfl), co_M, ce_M, rfl, rfl, rfl⟩
set_option maxRecDepth 100000 in
theorem zq_M_26 : zn_F cn_M 26 9 8 true (.array .int) := ⟨cn_M, ct_M, 61, cy_M, rfl, ci_M, by decide, (ze_mem (List.mem_of_getElem? (i := 739) (by decide +kernel)) rfl), co_M, ce_M, rfl, rfl, rfl⟩
set_option maxRecDepth 100000 in
theorem zq_M_29 : zn_F cn_M 29 9 9 true (.array .int) := ⟨cn_M, ct_M, 61, cy_M, rfl, ci_M, by decide, (ze_mem (List.mem_of_getElem? (i := 740) (by decide +kernel)) rfl), co_M, ce_M, rfl, rfl, rfl⟩
set_option maxRecDepth 100000 in
theorem zq_M_32 : zn_F cn_M 32 9 10 true (.array .int) := ⟨cn_M, ct_M, 61, cy_M, rfl, ci_M, by decide, (ze_mem (List.mem_of_getElem? (i := 741) (by decide +kernel)) rfl), co_M, ce_M, rfl, rfl, rfl⟩
set_option maxRecDepth 100000 in
theorem zq_M_35 : zn_F cn_M 35 9 11 true (.array .boolean) := ⟨cn_M, ct_M, 61, cy_M, rfl, ci_M, by decide, (ze_mem (List.mem_of_getElem? (i := 742) (by decide +kernel)) rfl), co_M, ce_M, rfl, rfl, rfl⟩
set_option maxRecDepth 100000 in
theorem zq_M_39 : zn_F cn_M 39 9 12 true (.array .boolean) := ⟨cn_M, ct_M, 61, cy_M, rfl, ci_M, by decide, (ze_mem (List.mem_of_getElem? (i := 743) (by decide +kernel)) rfl), co_M, ce_M, rfl, rfl, rfl⟩
set_option maxRecDepth 100000 in
theorem zq_M_42 : zn_F cn_M 42 9 13 true (.array .int) := ⟨cn_M, ct_M, 61, cy_M, rfl, ci_M, by decide, (ze_mem (List.mem_of_getElem? (i := 744) (by decide +kernel)) rfl), co_M, ce_M, rfl, rfl, rfl⟩
set_option maxRecDepth 100000 in
theorem zq_M_45 : zn_F cn_M 45 9 14 true (.array .int) := ⟨cn_M, ct_M, 61, cy_M, rfl, ci_M, by decide, (ze_mem (List.mem_of_getElem? (i := 745) (by decide +kernel)) rfl), co_M, ce_M, rfl, rfl, rfl⟩
set_option maxRecDepth 100000 in
theorem zq_M_48 : zn_F cn_M 48 9 15 true (.array .int) := ⟨cn_M, ct_M, 61, cy_M, rfl, ci_M, by decide, (ze_mem (List.mem_of_getElem? (i := 746) (by decide +kernel)) rfl), co_M, ce_M, rfl, rfl, rfl⟩
set_option maxRecDepth 100000 in
theorem zq_M_51 : zn_F cn_M 51 9 16 true (.array .int) := ⟨cn_M, ct_M, 61, cy_M, rfl, ci_M, by decide, (ze_mem (List.mem_of_getElem? (i := 747) (by decide +kernel)) rfl), co_M, ce_M, rfl, rfl, rfl⟩
set_option maxRecDepth 100000 in
theorem zq_M_54 : zn_F cn_M 54 9 17 true (.array .int) := ⟨cn_M, ct_M, 61, cy_M, rfl, ci_M, by decide, (ze_mem (List.mem_of_getElem? (i := 748) (by decide +kernel)) rfl), co_M, ce_M, rfl, rfl, rfl⟩
set_option maxRecDepth 100000 in
theorem zq_M_57 : zn_F cn_M 57 9 19 true (.array .int) := ⟨cn_M, ct_M, 61, cy_M, rfl, ci_M, by decide, (ze_mem (List.mem_of_getElem? (i := 750) (by decide +kernel)) rfl), co_M, ce_M, rfl, rfl, rfl⟩
set_option maxRecDepth 100000 in
theorem zq_M_60 : zn_F cn_M 60 9 20 true (.array .int) := ⟨cn_M, ct_M, 61, cy_M, rfl, ci_M, by decide, (ze_mem (List.mem_of_getElem? (i := 751) (by decide +kernel)) rfl), co_M, ce_M, rfl, rfl, rfl⟩
set_option maxRecDepth 100000 in
theorem zq_M_63 : zn_F cn_M 63 9 21 true (.array .int) := ⟨cn_M, ct_M, 61, cy_M, rfl, ci_M, by decide, (ze_mem (List.mem_of_getElem? (i := 752) (by decide +kernel)) rfl), co_M, ce_M, rfl, rfl, rfl⟩
set_option maxRecDepth 100000 in
theorem zq_M_66 : zn_F cn_M 66 9 23 true (.array .int) := ⟨cn_M, ct_M, 61, cy_M, rfl, ci_M, by decide, (ze_mem (List.mem_of_getElem? (i := 754) (by decide +kernel)) rfl), co_M, ce_M, rfl, rfl, rfl⟩
set_option maxRecDepth 100000 in
theorem zq_M_69 : zn_F cn_M 69 9 24 true (.array .int) := ⟨cn_M, ct_M, 61, cy_M, rfl, ci_M, by decide, (ze_mem (List.mem_of_getElem? (i := 755) (by decide +kernel)) rfl), co_M, ce_M, rfl, rfl, rfl⟩
set_option maxRecDepth 100000 in
theorem zq_M_72 : zn_F cn_M 72 9 25 true (.array .int) := ⟨cn_M, ct_M, 61, cy_M, rfl, ci_M, by decide, (ze_mem (List.mem_of_getElem? (i := 756) (by decide +kernel)) rfl), co_M, ce_M, rfl, rfl, rfl⟩
set_option maxRecDepth 100000 in
theorem zq_M_75 : zn_F cn_M 75 9 26 true (.array .int) := ⟨cn_M, ct_M, 61, cy_M, rfl, ci_M, by decide, (ze_mem (List.mem_of_getElem? (i := 757) (by decide +kernel)) rfl), co_M, ce_M, rfl, rfl, rfl⟩
set_option maxRecDepth 100000 in
theorem zq_M_78 : zn_F cn_M 78 9 27 true (.array .int) := ⟨cn_M, ct_M, 61, cy_M, rfl, ci_M, by decide, (ze_mem (List.mem_of_getElem? (i := 758) (by decide +kernel)) rfl), co_M, ce_M, rfl, rfl, rfl⟩
set_option maxRecDepth 100000 in
theorem zq_M_81 : zn_F cn_M 81 9 28 true (.array .int) := ⟨cn_M, ct_M, 61, cy_M, rfl, ci_M, by decide, (ze_mem (List.mem_of_getElem? (i := 759) (by decide +kernel)) rfl), co_M, ce_M, rfl, rfl, rfl⟩
set_option maxRecDepth 100000 in
theorem zq_M_84 : zn_F cn_M 84 9 30 true (.array .int) := ⟨cn_M, ct_M, 61, cy_M, rfl, ci_M, by decide, (ze_mem (List.mem_of_getElem? (i := 761) (by decide +kernel)) rfl), co_M, ce_M, rfl, rfl, rfl⟩
set_option maxRecDepth 100000 in
theorem zq_M_87 : zn_F cn_M 87 9 31 true (.array .int) := ⟨cn_M, ct_M, 61, cy_M, rfl, ci_M, by decide, (ze_mem (List.mem_of_getElem? (i := 762) (by decide +kernel)) rfl), co_M, ce_M, rfl, rfl, rfl⟩
set_option maxRecDepth 100000 in
theorem zq_M_90 : zn_F cn_M 90 9 32 true (.array .int) := ⟨cn_M, ct_M, 61, cy_M, rfl, ci_M, by decide, (ze_mem (List.mem_of_getElem? (i := 763) (by decide +kernel)) rfl), co_M, ce_M, rfl, rfl, rfl⟩
set_option maxRecDepth 100000 in
theorem zq_M_93 : zn_F cn_M 93 9 33 true (.array .int) := ⟨cn_M, ct_M, 61, cy_M, rfl, ci_M, by decide, (ze_mem (List.mem_of_getElem? (i := 764) (by decide +kernel)) rfl), co_M, ce_M, rfl, rfl, rfl⟩
set_option maxRecDepth 100000 in
theorem zq_M_96 : zn_F cn_M 96 9 34 true (.array .int) := ⟨cn_M, ct_M, 61, cy_M, rfl, ci_M, by decide, (ze_mem (List.mem_of_getElem? (i := 765) (by decide +kernel)) rfl), co_M, ce_M, rfl, rfl, rfl⟩
set_option maxRecDepth 100000 in
theorem zq_M_99 : zn_F cn_M 99 9 37 true (.array .int) := ⟨cn_M, ct_M, 61, cy_M, rfl, ci_M, by decide, (ze_mem (List.mem_of_getElem? (i := 768) (by decide +kernel)) rfl), co_M, ce_M, rfl, rfl, rfl⟩
set_option maxRecDepth 100000 in
theorem zq_M_102 : zn_F cn_M 102 9 38 true (.array .int) := ⟨cn_M, ct_M, 61, cy_M, rfl, ci_M, by decide, (ze_mem (List.mem_of_getElem? (i := 769) (by decide +kernel)) rfl), co_M, ce_M, rfl, rfl, rfl⟩
set_option maxRecDepth 100000 in
theorem zq_M_105 : zn_F cn_M 105 9 39 true (.array .int) := ⟨cn_M, ct_M, 61, cy_M, rfl, ci_M, by decide, (ze_mem (List.mem_of_getElem? (i := 770) (by decide +kernel)) rfl), co_M, ce_M, rfl, rfl, rfl⟩
set_option maxRecDepth 100000 in
theorem zq_M_108 : zn_F cn_M 108 9 41 true (.array .int) := ⟨cn_M, ct_M, 61, cy_M, rfl, ci_M, by decide, (ze_mem (List.mem_of_getElem? (i := 772) (by decide +kernel)) rfl), co_M, ce_M, rfl, rfl, rfl⟩
set_option maxRecDepth 100000 in
theorem zq_M_111 : zn_F cn_M 111 9 42 true (.array .int) := ⟨cn_M, ct_M, 61, cy_M, rfl, ci_M, by decide, (ze_mem (List.mem_of_getElem? (i := 773) (by decide +kernel)) rfl), co_M, ce_M, rfl, rfl, rfl⟩
set_option maxRecDepth 100000 in
theorem zq_M_114 : zn_F cn_M 114 9 43 true (.array .int) := ⟨cn_M, ct_M, 61, cy_M, rfl, ci_M, by decide, (ze_mem (List.mem_of_getElem? (i := 774) (by decide +kernel)) rfl), co_M, ce_M, rfl, rfl, rfl⟩
set_option maxRecDepth 100000 in
theorem zq_M_117 : zn_F cn_M 117 9 45 true (.array .int) := ⟨cn_M, ct_M, 61, cy_M, rfl, ci_M, by decide, (ze_mem (List.mem_of_getElem? (i := 776) (by decide +kernel)) rfl), co_M, ce_M, rfl, rfl, rfl⟩
set_option maxRecDepth 100000 in
theorem zq_M_120 : zn_F cn_M 120 9 46 true (.array .int) := ⟨cn_M, ct_M, 61, cy_M, rfl, ci_M, by decide, (ze_mem (List.mem_of_getElem? (i := 777) (by decide +kernel)) rfl), co_M, ce_M, rfl, rfl, rfl⟩
set_option maxRecDepth 100000 in
theorem zq_M_123 : zn_F cn_M 123 9 47 true (.array .int) := ⟨cn_M, ct_M, 61, cy_M, rfl, ci_M, by decide, (ze_mem (List.mem_of_getElem? (i := 778) (by decide +kernel)) rfl), co_M, ce_M, rfl, rfl, rfl⟩
set_option maxRecDepth 100000 in
theorem zq_M_126 : zn_F cn_M 126 9 48 true (.array .int) := ⟨cn_M, ct_M, 61, cy_M, rfl, ci_M, by decide, (ze_mem (List.mem_of_getElem? (i := 779) (by decide +kernel)) rfl), co_M, ce_M, rfl, rfl, rfl⟩
set_option maxRecDepth 100000 in
theorem zq_M_129 : zn_F cn_M 129 9 49 true (.array .int) := ⟨cn_M, ct_M, 61, cy_M, rfl, ci_M, by decide, (ze_mem (List.mem_of_getElem? (i := 780) (by decide +kernel)) rfl), co_M, ce_M, rfl, rfl, rfl⟩
set_option maxRecDepth 100000 in
theorem zq_M_132 : zn_F cn_M 132 9 50 true (.array .int) := ⟨cn_M, ct_M, 61, cy_M, rfl, ci_M, by decide, (ze_mem (List.mem_of_getElem? (i := 781) (by decide +kernel)) rfl), co_M, ce_M, rfl, rfl, rfl⟩
set_option maxRecDepth 100000 in
theorem zq_M_135 : zn_F cn_M 135 9 51 true (.array .int) := ⟨cn_M, ct_M, 61, cy_M, rfl, ci_M, by decide, (ze_mem (List.mem_of_getElem? (i := 782) (by decide +kernel)) rfl), co_M, ce_M, rfl, rfl, rfl⟩
set_option maxRecDepth 100000 in
theorem zq_M_138 : zn_F cn_M 138 9 52 true (.array .int) := ⟨cn_M, ct_M, 61, cy_M, rfl, ci_M, by decide, (ze_mem (List.mem_of_getElem? (i := 783) (by decide +kernel)) rfl), co_M, ce_M, rfl, rfl, rfl⟩
set_option maxRecDepth 100000 in
theorem zq_M_141 : zn_F cn_M 141 9 60 true (.array .int) := ⟨cn_M, ct_M, 61, cy_M, rfl, ci_M, by decide, (ze_mem (List.mem_of_getElem? (i := 791) (by decide +kernel)) rfl), co_M, ce_M, rfl, rfl, rfl⟩
def cw_P (ca : Nat → ClassId) (h0 : Nat)  : (Nat → Nat) → va_W := fun u => [(h0, .inr (1, [.ref (u 1), .ref (u 2), .ref (u 3), .ref (u 4), .ref (u 5), .ref (u 6)])), ((u 1), .inl (ca 1, 164, .inl (fun _ => 0))), ((u 2), .inl (ca 0, 164, .inl (fun _ => 0))), ((u 3), .inl (ca 0, 164, .inl (fun _ => 0))), ((u 4), .inl (ca 0, 164, .inl (fun _ => 0))), ((u 5), .inl (ca 0, 164, .inl (fun _ => 0))), ((u 6), .inl (ca 0, 164, .inl (fun _ => 0)))]
set_option maxHeartbeats 8000000 in
set_option maxRecDepth 100000 in
theorem cj_P {l : Launch} {D : va_G} {ca : Nat → ClassId} (h0 : Nat)  : zn_M l D ca my_P_init bc_P_init 1 1 20 6 984 [.inr h0] (h0, .inr (1, [.null, .null, .null, .null, .null, .null])) (cw_P ca h0 ) := by
  refine zn_M_of (plainFor_of_name (by decide)) rfl (Nat.le_of_ble_eq_true rfl) (fun G A e1 e2 e3 X Y hI => ?_)
  subst e1 e2 e3
  show zn_T G A [(h0, .inr (1, [.null, .null, .null, .null, .null, .null]))] 0 0 0 [some (.inr h0)] []
  refine zn_aload_n X dc_P_init_0 rfl rfl ?_
  refine zn_obj X dc_P_init_1 (ze_mem (List.mem_of_getElem? (i := 99) (by decide +kernel)) rfl) (ze_mem (List.mem_of_getElem? (i := 92) (by decide +kernel)) rfl) (ze_mem (List.mem_of_getElem? (i := 93) rfl) rfl) (by decide) (by decide) (by decide) ?_
  refine zn_aload_n X dc_P_init_4 rfl rfl ?_
  refine zn_sipush (x := 164) X dc_P_init_5 (by decide) ?_
  refine zn_newa (t := 1) (N := 164) (ty := .char) X dc_P_init_8 rfl (ze_mem (List.mem_of_getElem? (i := 130) (by decide +kernel)) rfl) rfl (fun _ h => h) (fun _ => rfl) (by decide) (by decide) (by decide) (by decide) (by decide) (fun q1 => ?_)
  refine zn_putF (k0 := 0) (ty := (.array .char)) (w := .inr q1) X dc_P_init_10 hI zq_P_9 rfl (by decide) rfl rfl ?_
  refine zn_aload_n X dc_P_init_13 rfl rfl ?_
  refine zn_sipush (x := 164) X dc_P_init_14 (by decide) ?_
  refine zn_newa (t := 0) (N := 164) (ty := .int) X dc_P_init_17 rfl (ze_mem (List.mem_of_getElem? (i := 129) (by decide +kernel)) rfl) rfl (fun _ h => h) (fun _ => rfl) (by decide) (by decide) (by decide) (by decide) (by decide) (fun q2 => ?_)
  refine zn_putF (k0 := 0) (ty := (.array .int)) (w := .inr q2) X dc_P_init_19 hI zq_P_15 rfl (by decide) rfl rfl ?_
  refine zn_aload_n X dc_P_init_22 rfl rfl ?_
  refine zn_sipush (x := 164) X dc_P_init_23 (by decide) ?_
  refine zn_newa (t := 0) (N := 164) (ty := .int) X dc_P_init_26 rfl (ze_mem (List.mem_of_getElem? (i := 129) (by decide +kernel)) rfl) rfl (fun _ h => h) (fun _ => rfl) (by decide) (by decide) (by decide) (by decide) (by decide) (fun q3 => ?_)
  refine zn_putF (k0 := 0) (ty := (.array .int)) (w := .inr q3) X dc_P_init_28 hI zq_P_19 rfl (by decide) rfl rfl ?_
  refine zn_aload_n X dc_P_init_31 rfl rfl ?_
  refine zn_sipush (x := 164) X dc_P_init_32 (by decide) ?_
  refine zn_newa (t := 0) (N := 164) (ty := .int) X dc_P_init_35 rfl (ze_mem (List.mem_of_getElem? (i := 129) (by decide +kernel)) rfl) rfl (fun _ h => h) (fun _ => rfl) (by decide) (by decide) (by decide) (by decide) (by decide) (fun q4 => ?_)
  refine zn_putF (k0 := 0) (ty := (.array .int)) (w := .inr q4) X dc_P_init_37 hI zq_P_22 rfl (by decide) rfl rfl ?_
  refine zn_aload_n X dc_P_init_40 rfl rfl ?_
  refine zn_sipush (x := 164) X dc_P_init_41 (by decide) ?_
  refine zn_newa (t := 0) (N := 164) (ty := .int) X dc_P_init_44 rfl (ze_mem (List.mem_of_getElem? (i := 129) (by decide +kernel)) rfl) rfl (fun _ h => h) (fun _ => rfl) (by decide) (by decide) (by decide) (by decide) (by decide) (fun q5 => ?_)
  refine zn_putF (k0 := 0) (ty := (.array .int)) (w := .inr q5) X dc_P_init_46 hI zq_P_25 rfl (by decide) rfl rfl ?_
  refine zn_aload_n X dc_P_init_49 rfl rfl ?_
  refine zn_sipush (x := 164) X dc_P_init_50 (by decide) ?_
  refine zn_newa (t := 0) (N := 164) (ty := .int) X dc_P_init_53 rfl (ze_mem (List.mem_of_getElem? (i := 129) (by decide +kernel)) rfl) rfl (fun _ h => h) (fun _ => rfl) (by decide) (by decide) (by decide) (by decide) (by decide) (fun q6 => ?_)
  refine zn_putF (k0 := 0) (ty := (.array .int)) (w := .inr q6) X dc_P_init_55 hI zq_P_28 rfl (by decide) rfl rfl ?_
  exact zn_vret X Y (fun j => [h0, q1, q2, q3, q4, q5, q6].getD j 0) dc_P_init_58 rfl
def cw_R (ca : Nat → ClassId) (h0 : Nat) (b1 : Nat) : (Nat → Nat) → va_W := fun u => [(h0, .inr (2, [.ref b1, .int 0, .int 0, .int (-1)]))]
set_option maxHeartbeats 8000000 in
set_option maxRecDepth 100000 in
theorem cj_R {l : Launch} {D : va_G} {ca : Nat → ClassId} (h0 : Nat) (b1 : Nat) : zn_M l D ca my_R_init bc_R_init 2 1 20 0 0 [.inr h0, .inr b1] (h0, .inr (2, [.null, .int 0, .int 0, .int 0])) (cw_R ca h0 b1) := by
  refine zn_M_of (plainFor_of_name (by decide)) rfl (Nat.le_of_ble_eq_true rfl) (fun G A e1 e2 e3 X Y hI => ?_)
  subst e1 e2 e3
  show zn_T G A [(h0, .inr (2, [.null, .int 0, .int 0, .int 0]))] 0 0 0 [some (.inr h0), some (.inr b1)] []
  refine zn_aload_n X dc_R_init_0 rfl rfl ?_
  refine zn_obj X dc_R_init_1 (ze_mem (List.mem_of_getElem? (i := 136) (by decide +kernel)) rfl) (ze_mem (List.mem_of_getElem? (i := 92) (by decide +kernel)) rfl) (ze_mem (List.mem_of_getElem? (i := 93) rfl) rfl) (by decide) (by decide) (by decide) ?_
  refine zn_aload_n X dc_R_init_4 rfl rfl ?_
  refine zn_aload_n X dc_R_init_5 rfl rfl ?_
  refine zn_putF (k0 := 0) (ty := (.object "RouteEngine$Program")) (w := .inr b1) X dc_R_init_6 hI zq_R_9 rfl (by decide) rfl rfl ?_
  refine zn_aload_n X dc_R_init_9 rfl rfl ?_
  refine zn_iconst (x := (-1)) X dc_R_init_10 (by decide) ?_
  refine zn_put (k0 := 0) (ty := .int) (w := .inl (-1)) X dc_R_init_11 zq_R_15 rfl (by decide) rfl rfl ?_
  exact zn_vret X Y (fun j => [h0].getD j 0) dc_R_init_14 rfl
def cw_C (ca : Nat → ClassId) (h0 : Nat)  : (Nat → Nat) → va_W := fun u => [(h0, .inr (3, [.ref (u 1), .ref (u 2), .ref (u 3), .ref (u 4), .ref (u 5), .int 0])), ((u 1), .inl (ca 0, 4, .inl (fun _ => 0))), ((u 2), .inl (ca 0, 4, .inl (fun _ => 0))), ((u 3), .inl (ca 0, 4, .inl (fun _ => 0))), ((u 4), .inl (ca 2, 4, .inl (fun _ => 0))), ((u 5), .inl (ca 2, 4, .inl (fun _ => 0)))]
set_option maxHeartbeats 8000000 in
set_option maxRecDepth 100000 in
theorem cj_C {l : Launch} {D : va_G} {ca : Nat → ClassId} (h0 : Nat)  : zn_M l D ca my_C_init bc_C_init 1 1 20 5 20 [.inr h0] (h0, .inr (3, [.null, .null, .null, .null, .null, .int 0])) (cw_C ca h0 ) := by
  refine zn_M_of (plainFor_of_name (by decide)) rfl (Nat.le_of_ble_eq_true rfl) (fun G A e1 e2 e3 X Y hI => ?_)
  subst e1 e2 e3
  show zn_T G A [(h0, .inr (3, [.null, .null, .null, .null, .null, .int 0]))] 0 0 0 [some (.inr h0)] []
  refine zn_aload_n X dc_C_init_0 rfl rfl ?_
  refine zn_obj X dc_C_init_1 (ze_mem (List.mem_of_getElem? (i := 155) (by decide +kernel)) rfl) (ze_mem (List.mem_of_getElem? (i := 92) (by decide +kernel)) rfl) (ze_mem (List.mem_of_getElem? (i := 93) rfl) rfl) (by decide) (by decide) (by decide) ?_
  refine zn_aload_n X dc_C_init_4 rfl rfl ?_
  refine zn_iconst (x := 4) X dc_C_init_5 (by decide) ?_
  refine zn_newa (t := 0) (N := 4) (ty := .int) X dc_C_init_6 rfl (ze_mem (List.mem_of_getElem? (i := 129) (by decide +kernel)) rfl) rfl (fun _ h => h) (fun _ => rfl) (by decide) (by decide) (by decide) (by decide) (by decide) (fun q1 => ?_)
  refine zn_putF (k0 := 0) (ty := (.array .int)) (w := .inr q1) X dc_C_init_8 hI zq_C_9 rfl (by decide) rfl rfl ?_
  refine zn_aload_n X dc_C_init_11 rfl rfl ?_
  refine zn_iconst (x := 4) X dc_C_init_12 (by decide) ?_
  refine zn_newa (t := 0) (N := 4) (ty := .int) X dc_C_init_13 rfl (ze_mem (List.mem_of_getElem? (i := 129) (by decide +kernel)) rfl) rfl (fun _ h => h) (fun _ => rfl) (by decide) (by decide) (by decide) (by decide) (by decide) (fun q2 => ?_)
  refine zn_putF (k0 := 0) (ty := (.array .int)) (w := .inr q2) X dc_C_init_15 hI zq_C_15 rfl (by decide) rfl rfl ?_
  refine zn_aload_n X dc_C_init_18 rfl rfl ?_
  refine zn_iconst (x := 4) X dc_C_init_19 (by decide) ?_
  refine zn_newa (t := 0) (N := 4) (ty := .int) X dc_C_init_20 rfl (ze_mem (List.mem_of_getElem? (i := 129) (by decide +kernel)) rfl) rfl (fun _ h => h) (fun _ => rfl) (by decide) (by decide) (by decide) (by decide) (by decide) (fun q3 => ?_)
  refine zn_putF (k0 := 0) (ty := (.array .int)) (w := .inr q3) X dc_C_init_22 hI zq_C_18 rfl (by decide) rfl rfl ?_
  refine zn_aload_n X dc_C_init_25 rfl rfl ?_
  refine zn_iconst (x := 4) X dc_C_init_26 (by decide) ?_
  refine zn_newa (t := 2) (N := 4) (ty := .boolean) X dc_C_init_27 rfl (ze_mem (List.mem_of_getElem? (i := 180) (by decide +kernel)) rfl) rfl (fun _ h => h) (fun _ => rfl) (by decide) (by decide) (by decide) (by decide) (by decide) (fun q4 => ?_)
  refine zn_putF (k0 := 0) (ty := (.array .boolean)) (w := .inr q4) X dc_C_init_29 hI zq_C_21 rfl (by decide) rfl rfl ?_
  refine zn_aload_n X dc_C_init_32 rfl rfl ?_
  refine zn_iconst (x := 4) X dc_C_init_33 (by decide) ?_
  refine zn_newa (t := 2) (N := 4) (ty := .boolean) X dc_C_init_34 rfl (ze_mem (List.mem_of_getElem? (i := 180) (by decide +kernel)) rfl) rfl (fun _ h => h) (fun _ => rfl) (by decide) (by decide) (by decide) (by decide) (by decide) (fun q5 => ?_)
  refine zn_putF (k0 := 0) (ty := (.array .boolean)) (w := .inr q5) X dc_C_init_36 hI zq_C_25 rfl (by decide) rfl rfl ?_
  exact zn_vret X Y (fun j => [h0, q1, q2, q3, q4, q5].getD j 0) dc_C_init_39 rfl
def cw_N (ca : Nat → ClassId) (h0 : Nat)  : (Nat → Nat) → va_W := fun u => [(h0, .inr (4, [.ref (u 1), .ref (u 2), .int 0, .int 0, .int 0])), ((u 1), .inl (ca 0, 8, .inl (fun _ => 0))), ((u 2), .inl (ca 0, 8, .inl (fun _ => 0)))]
set_option maxHeartbeats 8000000 in
set_option maxRecDepth 100000 in
theorem cj_N {l : Launch} {D : va_G} {ca : Nat → ClassId} (h0 : Nat)  : zn_M l D ca my_N_init bc_N_init 1 1 20 2 16 [.inr h0] (h0, .inr (4, [.null, .null, .int 0, .int 0, .int 0])) (cw_N ca h0 ) := by
  refine zn_M_of (plainFor_of_name (by decide)) rfl (Nat.le_of_ble_eq_true rfl) (fun G A e1 e2 e3 X Y hI => ?_)
  subst e1 e2 e3
  show zn_T G A [(h0, .inr (4, [.null, .null, .int 0, .int 0, .int 0]))] 0 0 0 [some (.inr h0)] []
  refine zn_aload_n X dc_N_init_0 rfl rfl ?_
  refine zn_obj X dc_N_init_1 (ze_mem (List.mem_of_getElem? (i := 187) (by decide +kernel)) rfl) (ze_mem (List.mem_of_getElem? (i := 92) (by decide +kernel)) rfl) (ze_mem (List.mem_of_getElem? (i := 93) rfl) rfl) (by decide) (by decide) (by decide) ?_
  refine zn_aload_n X dc_N_init_4 rfl rfl ?_
  refine zn_bipush (x := 8) X dc_N_init_5 (by decide) ?_
  refine zn_newa (t := 0) (N := 8) (ty := .int) X dc_N_init_7 rfl (ze_mem (List.mem_of_getElem? (i := 129) (by decide +kernel)) rfl) rfl (fun _ h => h) (fun _ => rfl) (by decide) (by decide) (by decide) (by decide) (by decide) (fun q1 => ?_)
  refine zn_putF (k0 := 0) (ty := (.array .int)) (w := .inr q1) X dc_N_init_9 hI zq_N_9 rfl (by decide) rfl rfl ?_
  refine zn_aload_n X dc_N_init_12 rfl rfl ?_
  refine zn_bipush (x := 8) X dc_N_init_13 (by decide) ?_
  refine zn_newa (t := 0) (N := 8) (ty := .int) X dc_N_init_15 rfl (ze_mem (List.mem_of_getElem? (i := 129) (by decide +kernel)) rfl) rfl (fun _ h => h) (fun _ => rfl) (by decide) (by decide) (by decide) (by decide) (by decide) (fun q2 => ?_)
  refine zn_putF (k0 := 0) (ty := (.array .int)) (w := .inr q2) X dc_N_init_17 hI zq_N_15 rfl (by decide) rfl rfl ?_
  exact zn_vret X Y (fun j => [h0, q1, q2].getD j 0) dc_N_init_20 rfl
def cw_L8 (ca : Nat → ClassId) (h0 : Nat)  : (Nat → Nat) → va_W := fun u => [(h0, .inr (5, [.int 8, .ref (u 1), .ref (u 2), .ref (u 3), .int 0, .int 0])), ((u 1), .inl (ca 0, 8, .inl (fun _ => 0))), ((u 2), .inl (ca 0, 8, .inl (fun _ => 0))), ((u 3), .inl (ca 0, 8, .inl (fun _ => 0)))]
set_option maxHeartbeats 8000000 in
set_option maxRecDepth 100000 in
theorem cj_L8 {l : Launch} {D : va_G} {ca : Nat → ClassId} (h0 : Nat)  : zn_M l D ca my_L_init bc_L_init 2 1 21 3 24 [.inr h0, .inl 8] (h0, .inr (5, [.int 0, .null, .null, .null, .int 0, .int 0])) (cw_L8 ca h0 ) := by
  refine zn_M_of (plainFor_of_name (by decide)) rfl (Nat.le_of_ble_eq_true rfl) (fun G A e1 e2 e3 X Y hI => ?_)
  subst e1 e2 e3
  show zn_T G A [(h0, .inr (5, [.int 0, .null, .null, .null, .int 0, .int 0]))] 0 0 0 [some (.inr h0), some (.inl 8)] []
  refine zn_aload_n X dc_L_init_0 rfl rfl ?_
  refine zn_obj X dc_L_init_1 (ze_mem (List.mem_of_getElem? (i := 212) (by decide +kernel)) rfl) (ze_mem (List.mem_of_getElem? (i := 92) (by decide +kernel)) rfl) (ze_mem (List.mem_of_getElem? (i := 93) rfl) rfl) (by decide) (by decide) (by decide) ?_
  refine zn_aload_n X dc_L_init_4 rfl rfl ?_
  refine zn_iload_n X dc_L_init_5 rfl rfl ?_
  refine zn_iconst (x := 1) X dc_L_init_6 (by decide) ?_
  refine zn_mmax (z := 8) X (by decide) dc_L_init_7 zm_L_7 (by decide) (by decide) (by decide) (by decide) (by decide) ?_
  refine zn_putF (k0 := 0) (ty := .int) (w := .inl 8) X dc_L_init_10 hI zq_L_13 rfl (by decide) rfl rfl ?_
  refine zn_aload_n X dc_L_init_13 rfl rfl ?_
  refine zn_aload_n X dc_L_init_14 rfl rfl ?_
  refine zn_get (k0 := 0) (w := .inl 8) X dc_L_init_15 zf_L_13 rfl rfl ?_
  refine zn_newa (t := 0) (N := 8) (ty := .int) X dc_L_init_18 rfl (ze_mem (List.mem_of_getElem? (i := 129) (by decide +kernel)) rfl) rfl (fun _ h => h) (fun _ => rfl) (by decide) (by decide) (by decide) (by decide) (by decide) (fun q1 => ?_)
  refine zn_putF (k0 := 0) (ty := (.array .int)) (w := .inr q1) X dc_L_init_20 hI zq_L_19 rfl (by decide) rfl rfl ?_
  refine zn_aload_n X dc_L_init_23 rfl rfl ?_
  refine zn_aload_n X dc_L_init_24 rfl rfl ?_
  refine zn_get (k0 := 0) (w := .inl 8) X dc_L_init_25 zf_L_13 rfl rfl ?_
  refine zn_newa (t := 0) (N := 8) (ty := .int) X dc_L_init_28 rfl (ze_mem (List.mem_of_getElem? (i := 129) (by decide +kernel)) rfl) rfl (fun _ h => h) (fun _ => rfl) (by decide) (by decide) (by decide) (by decide) (by decide) (fun q2 => ?_)
  refine zn_putF (k0 := 0) (ty := (.array .int)) (w := .inr q2) X dc_L_init_30 hI zq_L_23 rfl (by decide) rfl rfl ?_
  refine zn_aload_n X dc_L_init_33 rfl rfl ?_
  refine zn_aload_n X dc_L_init_34 rfl rfl ?_
  refine zn_get (k0 := 0) (w := .inl 8) X dc_L_init_35 zf_L_13 rfl rfl ?_
  refine zn_newa (t := 0) (N := 8) (ty := .int) X dc_L_init_38 rfl (ze_mem (List.mem_of_getElem? (i := 129) (by decide +kernel)) rfl) rfl (fun _ h => h) (fun _ => rfl) (by decide) (by decide) (by decide) (by decide) (by decide) (fun q3 => ?_)
  refine zn_putF (k0 := 0) (ty := (.array .int)) (w := .inr q3) X dc_L_init_40 hI zq_L_26 rfl (by decide) rfl rfl ?_
  exact zn_vret X Y (fun j => [h0, q1, q2, q3].getD j 0) dc_L_init_43 rfl
def cw_L401 (ca : Nat → ClassId) (h0 : Nat)  : (Nat → Nat) → va_W := fun u => [(h0, .inr (5, [.int 401, .ref (u 1), .ref (u 2), .ref (u 3), .int 0, .int 0])), ((u 1), .inl (ca 0, 401, .inl (fun _ => 0))), ((u 2), .inl (ca 0, 401, .inl (fun _ => 0))), ((u 3), .inl (ca 0, 401, .inl (fun _ => 0)))]
set_option maxHeartbeats 8000000 in
set_option maxRecDepth 100000 in
theorem cj_L401 {l : Launch} {D : va_G} {ca : Nat → ClassId} (h0 : Nat)  : zn_M l D ca my_L_init bc_L_init 2 1 21 3 1203 [.inr h0, .inl 401] (h0, .inr (5, [.int 0, .null, .null, .null, .int 0, .int 0])) (cw_L401 ca h0 ) := by
  refine zn_M_of (plainFor_of_name (by decide)) rfl (Nat.le_of_ble_eq_true rfl) (fun G A e1 e2 e3 X Y hI => ?_)
  subst e1 e2 e3
  show zn_T G A [(h0, .inr (5, [.int 0, .null, .null, .null, .int 0, .int 0]))] 0 0 0 [some (.inr h0), some (.inl 401)] []
  refine zn_aload_n X dc_L_init_0 rfl rfl ?_
  refine zn_obj X dc_L_init_1 (ze_mem (List.mem_of_getElem? (i := 212) (by decide +kernel)) rfl) (ze_mem (List.mem_of_getElem? (i := 92) (by decide +kernel)) rfl) (ze_mem (List.mem_of_getElem? (i := 93) rfl) rfl) (by decide) (by decide) (by decide) ?_
  refine zn_aload_n X dc_L_init_4 rfl rfl ?_
  refine zn_iload_n X dc_L_init_5 rfl rfl ?_
  refine zn_iconst (x := 1) X dc_L_init_6 (by decide) ?_
  refine zn_mmax (z := 401) X (by decide) dc_L_init_7 zm_L_7 (by decide) (by decide) (by decide) (by decide) (by decide) ?_
  refine zn_putF (k0 := 0) (ty := .int) (w := .inl 401) X dc_L_init_10 hI zq_L_13 rfl (by decide) rfl rfl ?_
  refine zn_aload_n X dc_L_init_13 rfl rfl ?_
  refine zn_aload_n X dc_L_init_14 rfl rfl ?_
  refine zn_get (k0 := 0) (w := .inl 401) X dc_L_init_15 zf_L_13 rfl rfl ?_
  refine zn_newa (t := 0) (N := 401) (ty := .int) X dc_L_init_18 rfl (ze_mem (List.mem_of_getElem? (i := 129) (by decide +kernel)) rfl) rfl (fun _ h => h) (fun _ => rfl) (by decide) (by decide) (by decide) (by decide) (by decide) (fun q1 => ?_)
  refine zn_putF (k0 := 0) (ty := (.array .int)) (w := .inr q1) X dc_L_init_20 hI zq_L_19 rfl (by decide) rfl rfl ?_
  refine zn_aload_n X dc_L_init_23 rfl rfl ?_
  refine zn_aload_n X dc_L_init_24 rfl rfl ?_
  refine zn_get (k0 := 0) (w := .inl 401) X dc_L_init_25 zf_L_13 rfl rfl ?_
  refine zn_newa (t := 0) (N := 401) (ty := .int) X dc_L_init_28 rfl (ze_mem (List.mem_of_getElem? (i := 129) (by decide +kernel)) rfl) rfl (fun _ h => h) (fun _ => rfl) (by decide) (by decide) (by decide) (by decide) (by decide) (fun q2 => ?_)
  refine zn_putF (k0 := 0) (ty := (.array .int)) (w := .inr q2) X dc_L_init_30 hI zq_L_23 rfl (by decide) rfl rfl ?_
  refine zn_aload_n X dc_L_init_33 rfl rfl ?_
  refine zn_aload_n X dc_L_init_34 rfl rfl ?_
  refine zn_get (k0 := 0) (w := .inl 401) X dc_L_init_35 zf_L_13 rfl rfl ?_
  refine zn_newa (t := 0) (N := 401) (ty := .int) X dc_L_init_38 rfl (ze_mem (List.mem_of_getElem? (i := 129) (by decide +kernel)) rfl) rfl (fun _ h => h) (fun _ => rfl) (by decide) (by decide) (by decide) (by decide) (by decide) (fun q3 => ?_)
  refine zn_putF (k0 := 0) (ty := (.array .int)) (w := .inr q3) X dc_L_init_40 hI zq_L_26 rfl (by decide) rfl rfl ?_
  exact zn_vret X Y (fun j => [h0, q1, q2, q3].getD j 0) dc_L_init_43 rfl
def cw_G (ca : Nat → ClassId) (h0 : Nat)  : (Nat → Nat) → va_W := fun u => [(h0, .inr (6, [.ref (u 1), .ref (u 2), .ref (u 3), .ref (u 4), .ref (u 5), .int 0])), ((u 1), .inl (ca 0, 120, .inl (fun _ => 0))), ((u 2), .inl (ca 0, 120, .inl (fun _ => 0))), ((u 3), .inl (ca 0, 120, .inl (fun _ => 0))), ((u 4), .inl (ca 0, 120, .inl (fun _ => 0))), ((u 5), .inl (ca 0, 120, .inl (fun _ => 0)))]
set_option maxHeartbeats 8000000 in
set_option maxRecDepth 100000 in
theorem cj_G {l : Launch} {D : va_G} {ca : Nat → ClassId} (h0 : Nat)  : zn_M l D ca my_G_init bc_G_init 1 1 20 5 600 [.inr h0] (h0, .inr (6, [.null, .null, .null, .null, .null, .int 0])) (cw_G ca h0 ) := by
  refine zn_M_of (plainFor_of_name (by decide)) rfl (Nat.le_of_ble_eq_true rfl) (fun G A e1 e2 e3 X Y hI => ?_)
  subst e1 e2 e3
  show zn_T G A [(h0, .inr (6, [.null, .null, .null, .null, .null, .int 0]))] 0 0 0 [some (.inr h0)] []
  refine zn_aload_n X dc_G_init_0 rfl rfl ?_
  refine zn_obj X dc_G_init_1 (ze_mem (List.mem_of_getElem? (i := 245) (by decide +kernel)) rfl) (ze_mem (List.mem_of_getElem? (i := 92) (by decide +kernel)) rfl) (ze_mem (List.mem_of_getElem? (i := 93) rfl) rfl) (by decide) (by decide) (by decide) ?_
  refine zn_aload_n X dc_G_init_4 rfl rfl ?_
  refine zn_bipush (x := 120) X dc_G_init_5 (by decide) ?_
  refine zn_newa (t := 0) (N := 120) (ty := .int) X dc_G_init_7 rfl (ze_mem (List.mem_of_getElem? (i := 129) (by decide +kernel)) rfl) rfl (fun _ h => h) (fun _ => rfl) (by decide) (by decide) (by decide) (by decide) (by decide) (fun q1 => ?_)
  refine zn_putF (k0 := 0) (ty := (.array .int)) (w := .inr q1) X dc_G_init_9 hI zq_G_9 rfl (by decide) rfl rfl ?_
  refine zn_aload_n X dc_G_init_12 rfl rfl ?_
  refine zn_bipush (x := 120) X dc_G_init_13 (by decide) ?_
  refine zn_newa (t := 0) (N := 120) (ty := .int) X dc_G_init_15 rfl (ze_mem (List.mem_of_getElem? (i := 129) (by decide +kernel)) rfl) rfl (fun _ h => h) (fun _ => rfl) (by decide) (by decide) (by decide) (by decide) (by decide) (fun q2 => ?_)
  refine zn_putF (k0 := 0) (ty := (.array .int)) (w := .inr q2) X dc_G_init_17 hI zq_G_15 rfl (by decide) rfl rfl ?_
  refine zn_aload_n X dc_G_init_20 rfl rfl ?_
  refine zn_bipush (x := 120) X dc_G_init_21 (by decide) ?_
  refine zn_newa (t := 0) (N := 120) (ty := .int) X dc_G_init_23 rfl (ze_mem (List.mem_of_getElem? (i := 129) (by decide +kernel)) rfl) rfl (fun _ h => h) (fun _ => rfl) (by decide) (by decide) (by decide) (by decide) (by decide) (fun q3 => ?_)
  refine zn_putF (k0 := 0) (ty := (.array .int)) (w := .inr q3) X dc_G_init_25 hI zq_G_18 rfl (by decide) rfl rfl ?_
  refine zn_aload_n X dc_G_init_28 rfl rfl ?_
  refine zn_bipush (x := 120) X dc_G_init_29 (by decide) ?_
  refine zn_newa (t := 0) (N := 120) (ty := .int) X dc_G_init_31 rfl (ze_mem (List.mem_of_getElem? (i := 129) (by decide +kernel)) rfl) rfl (fun _ h => h) (fun _ => rfl) (by decide) (by decide) (by decide) (by decide) (by decide) (fun q4 => ?_)
  refine zn_putF (k0 := 0) (ty := (.array .int)) (w := .inr q4) X dc_G_init_33 hI zq_G_21 rfl (by decide) rfl rfl ?_
  refine zn_aload_n X dc_G_init_36 rfl rfl ?_
  refine zn_bipush (x := 120) X dc_G_init_37 (by decide) ?_
  refine zn_newa (t := 0) (N := 120) (ty := .int) X dc_G_init_39 rfl (ze_mem (List.mem_of_getElem? (i := 129) (by decide +kernel)) rfl) rfl (fun _ h => h) (fun _ => rfl) (by decide) (by decide) (by decide) (by decide) (by decide) (fun q5 => ?_)
  refine zn_putF (k0 := 0) (ty := (.array .int)) (w := .inr q5) X dc_G_init_41 hI zq_G_24 rfl (by decide) rfl rfl ?_
  exact zn_vret X Y (fun j => [h0, q1, q2, q3, q4, q5].getD j 0) dc_G_init_44 rfl
def cw_K (ca : Nat → ClassId) (h0 : Nat)  : (Nat → Nat) → va_W := fun u => [(h0, .inr (7, [.ref (u 1), .ref (u 2), .ref (u 3)])), ((u 1), .inl (ca 0, 164, .inl (fun _ => 0))), ((u 2), .inl (ca 0, 656, .inl (fun _ => 0))), ((u 3), .inl (ca 0, 656, .inl (fun _ => 0)))]
set_option maxHeartbeats 8000000 in
set_option maxRecDepth 100000 in
theorem cj_K {l : Launch} {D : va_G} {ca : Nat → ClassId} (h0 : Nat)  : zn_M l D ca my_K_init bc_K_init 1 1 20 3 1476 [.inr h0] (h0, .inr (7, [.null, .null, .null])) (cw_K ca h0 ) := by
  refine zn_M_of (plainFor_of_name (by decide)) rfl (Nat.le_of_ble_eq_true rfl) (fun G A e1 e2 e3 X Y hI => ?_)
  subst e1 e2 e3
  show zn_T G A [(h0, .inr (7, [.null, .null, .null]))] 0 0 0 [some (.inr h0)] []
  refine zn_aload_n X dc_K_init_0 rfl rfl ?_
  refine zn_obj X dc_K_init_1 (ze_mem (List.mem_of_getElem? (i := 276) (by decide +kernel)) rfl) (ze_mem (List.mem_of_getElem? (i := 92) (by decide +kernel)) rfl) (ze_mem (List.mem_of_getElem? (i := 93) rfl) rfl) (by decide) (by decide) (by decide) ?_
  refine zn_aload_n X dc_K_init_4 rfl rfl ?_
  refine zn_sipush (x := 164) X dc_K_init_5 (by decide) ?_
  refine zn_newa (t := 0) (N := 164) (ty := .int) X dc_K_init_8 rfl (ze_mem (List.mem_of_getElem? (i := 129) (by decide +kernel)) rfl) rfl (fun _ h => h) (fun _ => rfl) (by decide) (by decide) (by decide) (by decide) (by decide) (fun q1 => ?_)
  refine zn_putF (k0 := 0) (ty := (.array .int)) (w := .inr q1) X dc_K_init_10 hI zq_K_9 rfl (by decide) rfl rfl ?_
  refine zn_aload_n X dc_K_init_13 rfl rfl ?_
  refine zn_sipush (x := 656) X dc_K_init_14 (by decide) ?_
  refine zn_newa (t := 0) (N := 656) (ty := .int) X dc_K_init_17 rfl (ze_mem (List.mem_of_getElem? (i := 129) (by decide +kernel)) rfl) rfl (fun _ h => h) (fun _ => rfl) (by decide) (by decide) (by decide) (by decide) (by decide) (fun q2 => ?_)
  refine zn_putF (k0 := 0) (ty := (.array .int)) (w := .inr q2) X dc_K_init_19 hI zq_K_15 rfl (by decide) rfl rfl ?_
  refine zn_aload_n X dc_K_init_22 rfl rfl ?_
  refine zn_sipush (x := 656) X dc_K_init_23 (by decide) ?_
  refine zn_newa (t := 0) (N := 656) (ty := .int) X dc_K_init_26 rfl (ze_mem (List.mem_of_getElem? (i := 129) (by decide +kernel)) rfl) rfl (fun _ h => h) (fun _ => rfl) (by decide) (by decide) (by decide) (by decide) (by decide) (fun q3 => ?_)
  refine zn_putF (k0 := 0) (ty := (.array .int)) (w := .inr q3) X dc_K_init_28 hI zq_K_18 rfl (by decide) rfl rfl ?_
  exact zn_vret X Y (fun j => [h0, q1, q2, q3].getD j 0) dc_K_init_31 rfl
def cw_H (ca : Nat → ClassId) (h0 : Nat)  : (Nat → Nat) → va_W := fun u => [(h0, .inr (8, [.int 0, .int 0, .int 0, .int 0]))]
set_option maxHeartbeats 8000000 in
set_option maxRecDepth 100000 in
theorem cj_H {l : Launch} {D : va_G} {ca : Nat → ClassId} (h0 : Nat)  : zn_M l D ca my_H_init bc_H_init 1 1 20 0 0 [.inr h0] (h0, .inr (8, [.int 0, .int 0, .int 0, .int 0])) (cw_H ca h0 ) := by
  refine zn_M_of (plainFor_of_name (by decide)) rfl (Nat.le_of_ble_eq_true rfl) (fun G A e1 e2 e3 X Y hI => ?_)
  subst e1 e2 e3
  show zn_T G A [(h0, .inr (8, [.int 0, .int 0, .int 0, .int 0]))] 0 0 0 [some (.inr h0)] []
  refine zn_aload_n X dc_H_init_0 rfl rfl ?_
  refine zn_obj X dc_H_init_1 (ze_mem (List.mem_of_getElem? (i := 296) (by decide +kernel)) rfl) (ze_mem (List.mem_of_getElem? (i := 92) (by decide +kernel)) rfl) (ze_mem (List.mem_of_getElem? (i := 93) rfl) rfl) (by decide) (by decide) (by decide) ?_
  exact zn_vret X Y (fun j => [h0].getD j 0) dc_H_init_4 rfl
def cw_E (ca : Nat → ClassId) (h0 : Nat)  : (Nat → Nat) → va_W := fun u => [(h0, .inr (0, [.ref (u 1), .ref (u 2), .ref (u 9), .ref (u 16), .ref (u 17), .ref (u 23), .ref (u 39), .ref (u 43), .ref (u 47), .ref (u 53), .ref (u 57), .ref (u 74), .int 0, .int 0, .int 0, .int 0])), ((u 1), .inl (ca 0, 4, .inl (fun _ => 0))), ((u 2), .inr (1, [.ref (u 3), .ref (u 4), .ref (u 5), .ref (u 6), .ref (u 7), .ref (u 8)])), ((u 3), .inl (ca 1, 164, .inl (fun _ => 0))), ((u 4), .inl (ca 0, 164, .inl (fun _ => 0))), ((u 5), .inl (ca 0, 164, .inl (fun _ => 0))), ((u 6), .inl (ca 0, 164, .inl (fun _ => 0))), ((u 7), .inl (ca 0, 164, .inl (fun _ => 0))), ((u 8), .inl (ca 0, 164, .inl (fun _ => 0))), ((u 9), .inr (1, [.ref (u 10), .ref (u 11), .ref (u 12), .ref (u 13), .ref (u 14), .ref (u 15)])), ((u 10), .inl (ca 1, 164, .inl (fun _ => 0))), ((u 11), .inl (ca 0, 164, .inl (fun _ => 0))), ((u 12), .inl (ca 0, 164, .inl (fun _ => 0))), ((u 13), .inl (ca 0, 164, .inl (fun _ => 0))), ((u 14), .inl (ca 0, 164, .inl (fun _ => 0))), ((u 15), .inl (ca 0, 164, .inl (fun _ => 0))), ((u 16), .inr (2, [.ref (u 2), .int 0, .int 0, .int (-1)])), ((u 17), .inr (3, [.ref (u 18), .ref (u 19), .ref (u 20), .ref (u 21), .ref (u 22), .int 0])), ((u 18), .inl (ca 0, 4, .inl (fun _ => 0))), ((u 19), .inl (ca 0, 4, .inl (fun _ => 0))), ((u 20), .inl (ca 0, 4, .inl (fun _ => 0))), ((u 21), .inl (ca 2, 4, .inl (fun _ => 0))), ((u 22), .inl (ca 2, 4, .inl (fun _ => 0))), ((u 23), .inl (ca 3, 5, .inr (.inr (.inr (.inr (va_up (va_up (va_up (va_up (va_up (fun _ => none) 0 (some (u 24))) 1 (some (u 27))) 2 (some (u 30))) 3 (some (u 33))) 4 (some (u 36)))))))), ((u 24), .inr (4, [.ref (u 25), .ref (u 26), .int 0, .int 0, .int 0])), ((u 25), .inl (ca 0, 8, .inl (fun _ => 0))), ((u 26), .inl (ca 0, 8, .inl (fun _ => 0))), ((u 27), .inr (4, [.ref (u 28), .ref (u 29), .int 0, .int 0, .int 0])), ((u 28), .inl (ca 0, 8, .inl (fun _ => 0))), ((u 29), .inl (ca 0, 8, .inl (fun _ => 0))), ((u 30), .inr (4, [.ref (u 31), .ref (u 32), .int 0, .int 0, .int 0])), ((u 31), .inl (ca 0, 8, .inl (fun _ => 0))), ((u 32), .inl (ca 0, 8, .inl (fun _ => 0))), ((u 33), .inr (4, [.ref (u 34), .ref (u 35), .int 0, .int 0, .int 0])), ((u 34), .inl (ca 0, 8, .inl (fun _ => 0))), ((u 35), .inl (ca 0, 8, .inl (fun _ => 0))), ((u 36), .inr (4, [.ref (u 37), .ref (u 38), .int 0, .int 0, .int 0])), ((u 37), .inl (ca 0, 8, .inl (fun _ => 0))), ((u 38), .inl (ca 0, 8, .inl (fun _ => 0))), ((u 39), .inr (5, [.int 8, .ref (u 40), .ref (u 41), .ref (u 42), .int 0, .int 0])), ((u 40), .inl (ca 0, 8, .inl (fun _ => 0))), ((u 41), .inl (ca 0, 8, .inl (fun _ => 0))), ((u 42), .inl (ca 0, 8, .inl (fun _ => 0))), ((u 43), .inr (5, [.int 401, .ref (u 44), .ref (u 45), .ref (u 46), .int 0, .int 0])), ((u 44), .inl (ca 0, 401, .inl (fun _ => 0))), ((u 45), .inl (ca 0, 401, .inl (fun _ => 0))), ((u 46), .inl (ca 0, 401, .inl (fun _ => 0))), ((u 47), .inr (6, [.ref (u 48), .ref (u 49), .ref (u 50), .ref (u 51), .ref (u 52), .int 0])), ((u 48), .inl (ca 0, 120, .inl (fun _ => 0))), ((u 49), .inl (ca 0, 120, .inl (fun _ => 0))), ((u 50), .inl (ca 0, 120, .inl (fun _ => 0))), ((u 51), .inl (ca 0, 120, .inl (fun _ => 0))), ((u 52), .inl (ca 0, 120, .inl (fun _ => 0))), ((u 53), .inr (7, [.ref (u 54), .ref (u 55), .ref (u 56)])), ((u 54), .inl (ca 0, 164, .inl (fun _ => 0))), ((u 55), .inl (ca 0, 656, .inl (fun _ => 0))), ((u 56), .inl (ca 0, 656, .inl (fun _ => 0))), ((u 57), .inl (ca 4, 16, .inr (.inr (.inr (.inr (va_up (va_up (va_up (va_up (va_up (va_up (va_up (va_up (va_up (va_up (va_up (va_up (va_up (va_up (va_up (va_up (fun _ => none) 0 (some (u 58))) 1 (some (u 59))) 2 (some (u 60))) 3 (some (u 61))) 4 (some (u 62))) 5 (some (u 63))) 6 (some (u 64))) 7 (some (u 65))) 8 (some (u 66))) 9 (some (u 67))) 10 (some (u 68))) 11 (some (u 69))) 12 (some (u 70))) 13 (some (u 71))) 14 (some (u 72))) 15 (some (u 73)))))))), ((u 58), .inr (8, [.int 0, .int 0, .int 0, .int 0])), ((u 59), .inr (8, [.int 0, .int 0, .int 0, .int 0])), ((u 60), .inr (8, [.int 0, .int 0, .int 0, .int 0])), ((u 61), .inr (8, [.int 0, .int 0, .int 0, .int 0])), ((u 62), .inr (8, [.int 0, .int 0, .int 0, .int 0])), ((u 63), .inr (8, [.int 0, .int 0, .int 0, .int 0])), ((u 64), .inr (8, [.int 0, .int 0, .int 0, .int 0])), ((u 65), .inr (8, [.int 0, .int 0, .int 0, .int 0])), ((u 66), .inr (8, [.int 0, .int 0, .int 0, .int 0])), ((u 67), .inr (8, [.int 0, .int 0, .int 0, .int 0])), ((u 68), .inr (8, [.int 0, .int 0, .int 0, .int 0])), ((u 69), .inr (8, [.int 0, .int 0, .int 0, .int 0])), ((u 70), .inr (8, [.int 0, .int 0, .int 0, .int 0])), ((u 71), .inr (8, [.int 0, .int 0, .int 0, .int 0])), ((u 72), .inr (8, [.int 0, .int 0, .int 0, .int 0])), ((u 73), .inr (8, [.int 0, .int 0, .int 0, .int 0])), ((u 74), .inl (ca 0, 8, .inl (fun _ => 0)))]
set_option maxHeartbeats 8000000 in
set_option maxRecDepth 100000 in
theorem cj_E {l : Launch} {D : va_G} {ca : Nat → ClassId} (h0 : Nat)  : zn_M l D ca my_E_init bc_E_init 2 2 42 74 5536 [.inr h0] (h0, .inr (0, [.null, .null, .null, .null, .null, .null, .null, .null, .null, .null, .null, .null, .int 0, .int 0, .int 0, .int 0])) (cw_E ca h0 ) := by
  refine zn_M_of (plainFor_of_name (by decide)) rfl (Nat.le_of_ble_eq_true rfl) (fun G A e1 e2 e3 X Y hI => ?_)
  subst e1 e2 e3
  show zn_T G A [(h0, .inr (0, [.null, .null, .null, .null, .null, .null, .null, .null, .null, .null, .null, .null, .int 0, .int 0, .int 0, .int 0]))] 0 0 0 [some (.inr h0), none] []
  refine zn_aload_n X dc_E_init_0 rfl rfl ?_
  refine zn_obj X dc_E_init_1 (ze_mem (List.mem_of_getElem? (i := 91) (by decide +kernel)) rfl) (ze_mem (List.mem_of_getElem? (i := 92) (by decide +kernel)) rfl) (ze_mem (List.mem_of_getElem? (i := 93) rfl) rfl) (by decide) (by decide) (by decide) ?_
  refine zn_aload_n X dc_E_init_4 rfl rfl ?_
  refine zn_iconst (x := 4) X dc_E_init_5 (by decide) ?_
  refine zn_newa (t := 0) (N := 4) (ty := .int) X dc_E_init_6 rfl (ze_mem (List.mem_of_getElem? (i := 129) (by decide +kernel)) rfl) rfl (fun _ h => h) (fun _ => rfl) (by decide) (by decide) (by decide) (by decide) (by decide) (fun q1 => ?_)
  refine zn_putF (k0 := 0) (ty := (.array .int)) (w := .inr q1) X dc_E_init_8 hI zq_E_9 rfl (by decide) rfl rfl ?_
  refine zn_aload_n X dc_E_init_11 rfl rfl ?_
  refine zn_new (ci := 1) (C := cn_P) (T := ct_P) (N := 6) (fs := [.null, .null, .null, .null, .null, .null]) X dc_E_init_12 cy_P rfl ci_P co_P (ze_mem (List.mem_of_getElem? (i := 94) (by decide +kernel)) rfl) (ze_mem (List.mem_of_getElem? (i := 95) (by decide +kernel)) rfl) (ze_mem (List.mem_of_getElem? (i := 69) (by decide +kernel)) rfl) cf_P (by decide) (by decide) (fun q2 => ?_)
  refine zn_dup X dc_E_init_15 ?_
  refine zn_callIN (host := "RouteEngine") (As := []) (st := [.inr q2, .inr h0]) (n := 0) X dc_E_init_16 ⟨(by decide), (ze_mem (List.mem_of_getElem? (i := 97) (by decide +kernel)) rfl), (ze_mem (List.mem_of_getElem? (i := 69) (by decide +kernel)) rfl), ze_mem (List.mem_of_getElem? (i := 98) rfl) rfl⟩ (by decide +kernel) rfl (cj_P (l := ze_l G) (D := ze_D G) (ca := ze_ca G) q2 ) rfl (by decide) (by decide) (by decide) (by decide) (by decide) (fun u3 => ?_)
  refine zn_putF (k0 := 0) (ty := (.object "RouteEngine$Program")) (w := .inr q2) X dc_E_init_19 hI zq_E_16 rfl (by decide) rfl rfl ?_
  refine zn_aload_n X dc_E_init_22 rfl rfl ?_
  refine zn_new (ci := 1) (C := cn_P) (T := ct_P) (N := 6) (fs := [.null, .null, .null, .null, .null, .null]) X dc_E_init_23 cy_P rfl ci_P co_P (ze_mem (List.mem_of_getElem? (i := 94) (by decide +kernel)) rfl) (ze_mem (List.mem_of_getElem? (i := 95) (by decide +kernel)) rfl) (ze_mem (List.mem_of_getElem? (i := 69) (by decide +kernel)) rfl) cf_P (by decide) (by decide) (fun q4 => ?_)
  refine zn_dup X dc_E_init_26 ?_
  refine zn_callIN (host := "RouteEngine") (As := []) (st := [.inr q4, .inr h0]) (n := 0) X dc_E_init_27 ⟨(by decide), (ze_mem (List.mem_of_getElem? (i := 97) (by decide +kernel)) rfl), (ze_mem (List.mem_of_getElem? (i := 69) (by decide +kernel)) rfl), ze_mem (List.mem_of_getElem? (i := 98) rfl) rfl⟩ (by decide +kernel) rfl (cj_P (l := ze_l G) (D := ze_D G) (ca := ze_ca G) q4 ) rfl (by decide) (by decide) (by decide) (by decide) (by decide) (fun u5 => ?_)
  refine zn_putF (k0 := 0) (ty := (.object "RouteEngine$Program")) (w := .inr q4) X dc_E_init_30 hI zq_E_20 rfl (by decide) rfl rfl ?_
  refine zn_aload_n X dc_E_init_33 rfl rfl ?_
  refine zn_new (ci := 2) (C := cn_R) (T := ct_R) (N := 4) (fs := [.null, .int 0, .int 0, .int 0]) X dc_E_init_34 cy_R rfl ci_R co_R (ze_mem (List.mem_of_getElem? (i := 131) (by decide +kernel)) rfl) (ze_mem (List.mem_of_getElem? (i := 132) (by decide +kernel)) rfl) (ze_mem (List.mem_of_getElem? (i := 70) (by decide +kernel)) rfl) cf_R (by decide) (by decide) (fun q6 => ?_)
  refine zn_dup X dc_E_init_37 ?_
  refine zn_aload_n X dc_E_init_38 rfl rfl ?_
  refine zn_get (k0 := 0) (w := .inr q2) X dc_E_init_39 zf_E_16 rfl rfl ?_
  refine zn_callI (As := [.inr q2]) (st := [.inr q6, .inr h0]) (n := 1) X dc_E_init_42 ⟨(ze_mem (List.mem_of_getElem? (i := 133) (by decide +kernel)) rfl), (ze_mem (List.mem_of_getElem? (i := 134) (by decide +kernel)) rfl), (ze_mem (List.mem_of_getElem? (i := 70) (by decide +kernel)) rfl), ze_mem (List.mem_of_getElem? (i := 135) rfl) rfl⟩ (by decide +kernel) rfl (cj_R (l := ze_l G) (D := ze_D G) (ca := ze_ca G) q6 q2) rfl (by decide) (by decide) (by decide) (by decide) (by decide) (fun u7 => ?_)
  refine zn_putF (k0 := 0) (ty := (.object "RouteEngine$Reader")) (w := .inr q6) X dc_E_init_45 hI zq_E_28 rfl (by decide) rfl rfl ?_
  refine zn_aload_n X dc_E_init_48 rfl rfl ?_
  refine zn_new (ci := 3) (C := cn_C) (T := ct_C) (N := 6) (fs := [.null, .null, .null, .null, .null, .int 0]) X dc_E_init_49 cy_C rfl ci_C co_C (ze_mem (List.mem_of_getElem? (i := 150) (by decide +kernel)) rfl) (ze_mem (List.mem_of_getElem? (i := 151) (by decide +kernel)) rfl) (ze_mem (List.mem_of_getElem? (i := 71) (by decide +kernel)) rfl) cf_C (by decide) (by decide) (fun q8 => ?_)
  refine zn_dup X dc_E_init_52 ?_
  refine zn_callIN (host := "RouteEngine") (As := []) (st := [.inr q8, .inr h0]) (n := 0) X dc_E_init_53 ⟨(by decide), (ze_mem (List.mem_of_getElem? (i := 153) (by decide +kernel)) rfl), (ze_mem (List.mem_of_getElem? (i := 71) (by decide +kernel)) rfl), ze_mem (List.mem_of_getElem? (i := 154) rfl) rfl⟩ (by decide +kernel) rfl (cj_C (l := ze_l G) (D := ze_D G) (ca := ze_ca G) q8 ) rfl (by decide) (by decide) (by decide) (by decide) (by decide) (fun u9 => ?_)
  refine zn_putF (k0 := 0) (ty := (.object "RouteEngine$Clauses")) (w := .inr q8) X dc_E_init_56 hI zq_E_35 rfl (by decide) rfl rfl ?_
  refine zn_aload_n X dc_E_init_59 rfl rfl ?_
  refine zn_iconst (x := 5) X dc_E_init_60 (by decide) ?_
  refine zn_newq (t := 3) (N := 5) (C := "RouteEngine$Endpoint") X dc_E_init_61 (ze_mem (List.mem_of_getElem? (i := 181) (by decide +kernel)) rfl) (ze_mem (List.mem_of_getElem? (i := 182) (by decide +kernel)) rfl) rfl (by decide) (by decide) (by decide) (by decide) (by decide) (fun q10 => ?_)
  refine zn_putF (k0 := 0) (ty := (.array (.object "RouteEngine$Endpoint"))) (w := .inr q10) X dc_E_init_64 hI zq_E_41 rfl (by decide) rfl rfl ?_
  refine zn_iconst (x := 0) X dc_E_init_67 (by decide) ?_
  refine zn_istore_n X dc_E_init_68 rfl (by decide) ?_
  refine zn_iload_n X dc_E_init_69 rfl rfl ?_
  refine zn_iconst (x := 4) X dc_E_init_70 (by decide) ?_
  refine zn_icmp_gtF (tgt := 93) X dc_E_init_71 (by decide) (by decide) ?_
  refine zn_aload_n X dc_E_init_74 rfl rfl ?_
  refine zn_get (k0 := 0) (w := .inr q10) X dc_E_init_75 zf_E_41 rfl rfl ?_
  refine zn_iload_n X dc_E_init_78 rfl rfl ?_
  refine zn_new (ci := 4) (C := cn_N) (T := ct_N) (N := 5) (fs := [.null, .null, .int 0, .int 0, .int 0]) X dc_E_init_79 cy_N rfl ci_N co_N (ze_mem (List.mem_of_getElem? (i := 181) (by decide +kernel)) rfl) (ze_mem (List.mem_of_getElem? (i := 183) (by decide +kernel)) rfl) (ze_mem (List.mem_of_getElem? (i := 72) (by decide +kernel)) rfl) cf_N (by decide) (by decide) (fun q11 => ?_)
  refine zn_dup X dc_E_init_82 ?_
  refine zn_callIN (host := "RouteEngine") (As := []) (st := [.inr q11, .inl 0, .inr q10]) (n := 0) X dc_E_init_83 ⟨(by decide), (ze_mem (List.mem_of_getElem? (i := 185) (by decide +kernel)) rfl), (ze_mem (List.mem_of_getElem? (i := 72) (by decide +kernel)) rfl), ze_mem (List.mem_of_getElem? (i := 186) rfl) rfl⟩ (by decide +kernel) rfl (cj_N (l := ze_l G) (D := ze_D G) (ca := ze_ca G) q11 ) rfl (by decide) (by decide) (by decide) (by decide) (by decide) (fun u12 => ?_)
  refine zn_aast (k0 := 23) (k1 := 24) (t := 3) (ci := 4) (r := (cn_N, ct_N, 5)) X dc_E_init_86 rfl rfl rfl rfl (by unfold vp_in; decide) ?_
  refine zn_iinc (y := 1) X dc_E_init_87 rfl (by decide) (by decide) ?_
  refine zn_goto (tgt := 69) X dc_E_init_90 (by decide) ?_
  refine zn_iload_n X dc_E_init_69 rfl rfl ?_
  refine zn_iconst (x := 4) X dc_E_init_70 (by decide) ?_
  refine zn_icmp_gtF (tgt := 93) X dc_E_init_71 (by decide) (by decide) ?_
  refine zn_aload_n X dc_E_init_74 rfl rfl ?_
  refine zn_get (k0 := 0) (w := .inr q10) X dc_E_init_75 zf_E_41 rfl rfl ?_
  refine zn_iload_n X dc_E_init_78 rfl rfl ?_
  refine zn_new (ci := 4) (C := cn_N) (T := ct_N) (N := 5) (fs := [.null, .null, .int 0, .int 0, .int 0]) X dc_E_init_79 cy_N rfl ci_N co_N (ze_mem (List.mem_of_getElem? (i := 181) (by decide +kernel)) rfl) (ze_mem (List.mem_of_getElem? (i := 183) (by decide +kernel)) rfl) (ze_mem (List.mem_of_getElem? (i := 72) (by decide +kernel)) rfl) cf_N (by decide) (by decide) (fun q13 => ?_)
  refine zn_dup X dc_E_init_82 ?_
  refine zn_callIN (host := "RouteEngine") (As := []) (st := [.inr q13, .inl 1, .inr q10]) (n := 0) X dc_E_init_83 ⟨(by decide), (ze_mem (List.mem_of_getElem? (i := 185) (by decide +kernel)) rfl), (ze_mem (List.mem_of_getElem? (i := 72) (by decide +kernel)) rfl), ze_mem (List.mem_of_getElem? (i := 186) rfl) rfl⟩ (by decide +kernel) rfl (cj_N (l := ze_l G) (D := ze_D G) (ca := ze_ca G) q13 ) rfl (by decide) (by decide) (by decide) (by decide) (by decide) (fun u14 => ?_)
  refine zn_aast (k0 := 23) (k1 := 27) (t := 3) (ci := 4) (r := (cn_N, ct_N, 5)) X dc_E_init_86 rfl rfl rfl rfl (by unfold vp_in; decide) ?_
  refine zn_iinc (y := 2) X dc_E_init_87 rfl (by decide) (by decide) ?_
  refine zn_goto (tgt := 69) X dc_E_init_90 (by decide) ?_
  refine zn_iload_n X dc_E_init_69 rfl rfl ?_
  refine zn_iconst (x := 4) X dc_E_init_70 (by decide) ?_
  refine zn_icmp_gtF (tgt := 93) X dc_E_init_71 (by decide) (by decide) ?_
  refine zn_aload_n X dc_E_init_74 rfl rfl ?_
  refine zn_get (k0 := 0) (w := .inr q10) X dc_E_init_75 zf_E_41 rfl rfl ?_
  refine zn_iload_n X dc_E_init_78 rfl rfl ?_
  refine zn_new (ci := 4) (C := cn_N) (T := ct_N) (N := 5) (fs := [.null, .null, .int 0, .int 0, .int 0]) X dc_E_init_79 cy_N rfl ci_N co_N (ze_mem (List.mem_of_getElem? (i := 181) (by decide +kernel)) rfl) (ze_mem (List.mem_of_getElem? (i := 183) (by decide +kernel)) rfl) (ze_mem (List.mem_of_getElem? (i := 72) (by decide +kernel)) rfl) cf_N (by decide) (by decide) (fun q15 => ?_)
  refine zn_dup X dc_E_init_82 ?_
  refine zn_callIN (host := "RouteEngine") (As := []) (st := [.inr q15, .inl 2, .inr q10]) (n := 0) X dc_E_init_83 ⟨(by decide), (ze_mem (List.mem_of_getElem? (i := 185) (by decide +kernel)) rfl), (ze_mem (List.mem_of_getElem? (i := 72) (by decide +kernel)) rfl), ze_mem (List.mem_of_getElem? (i := 186) rfl) rfl⟩ (by decide +kernel) rfl (cj_N (l := ze_l G) (D := ze_D G) (ca := ze_ca G) q15 ) rfl (by decide) (by decide) (by decide) (by decide) (by decide) (fun u16 => ?_)
  refine zn_aast (k0 := 23) (k1 := 30) (t := 3) (ci := 4) (r := (cn_N, ct_N, 5)) X dc_E_init_86 rfl rfl rfl rfl (by unfold vp_in; decide) ?_
  refine zn_iinc (y := 3) X dc_E_init_87 rfl (by decide) (by decide) ?_
  refine zn_goto (tgt := 69) X dc_E_init_90 (by decide) ?_
  refine zn_iload_n X dc_E_init_69 rfl rfl ?_
  refine zn_iconst (x := 4) X dc_E_init_70 (by decide) ?_
  refine zn_icmp_gtF (tgt := 93) X dc_E_init_71 (by decide) (by decide) ?_
  refine zn_aload_n X dc_E_init_74 rfl rfl ?_
  refine zn_get (k0 := 0) (w := .inr q10) X dc_E_init_75 zf_E_41 rfl rfl ?_
  refine zn_iload_n X dc_E_init_78 rfl rfl ?_
  refine zn_new (ci := 4) (C := cn_N) (T := ct_N) (N := 5) (fs := [.null, .null, .int 0, .int 0, .int 0]) X dc_E_init_79 cy_N rfl ci_N co_N (ze_mem (List.mem_of_getElem? (i := 181) (by decide +kernel)) rfl) (ze_mem (List.mem_of_getElem? (i := 183) (by decide +kernel)) rfl) (ze_mem (List.mem_of_getElem? (i := 72) (by decide +kernel)) rfl) cf_N (by decide) (by decide) (fun q17 => ?_)
  refine zn_dup X dc_E_init_82 ?_
  refine zn_callIN (host := "RouteEngine") (As := []) (st := [.inr q17, .inl 3, .inr q10]) (n := 0) X dc_E_init_83 ⟨(by decide), (ze_mem (List.mem_of_getElem? (i := 185) (by decide +kernel)) rfl), (ze_mem (List.mem_of_getElem? (i := 72) (by decide +kernel)) rfl), ze_mem (List.mem_of_getElem? (i := 186) rfl) rfl⟩ (by decide +kernel) rfl (cj_N (l := ze_l G) (D := ze_D G) (ca := ze_ca G) q17 ) rfl (by decide) (by decide) (by decide) (by decide) (by decide) (fun u18 => ?_)
  refine zn_aast (k0 := 23) (k1 := 33) (t := 3) (ci := 4) (r := (cn_N, ct_N, 5)) X dc_E_init_86 rfl rfl rfl rfl (by unfold vp_in; decide) ?_
  refine zn_iinc (y := 4) X dc_E_init_87 rfl (by decide) (by decide) ?_
  refine zn_goto (tgt := 69) X dc_E_init_90 (by decide) ?_
  refine zn_iload_n X dc_E_init_69 rfl rfl ?_
  refine zn_iconst (x := 4) X dc_E_init_70 (by decide) ?_
  refine zn_icmp_gtF (tgt := 93) X dc_E_init_71 (by decide) (by decide) ?_
  refine zn_aload_n X dc_E_init_74 rfl rfl ?_
  refine zn_get (k0 := 0) (w := .inr q10) X dc_E_init_75 zf_E_41 rfl rfl ?_
  refine zn_iload_n X dc_E_init_78 rfl rfl ?_
  refine zn_new (ci := 4) (C := cn_N) (T := ct_N) (N := 5) (fs := [.null, .null, .int 0, .int 0, .int 0]) X dc_E_init_79 cy_N rfl ci_N co_N (ze_mem (List.mem_of_getElem? (i := 181) (by decide +kernel)) rfl) (ze_mem (List.mem_of_getElem? (i := 183) (by decide +kernel)) rfl) (ze_mem (List.mem_of_getElem? (i := 72) (by decide +kernel)) rfl) cf_N (by decide) (by decide) (fun q19 => ?_)
  refine zn_dup X dc_E_init_82 ?_
  refine zn_callIN (host := "RouteEngine") (As := []) (st := [.inr q19, .inl 4, .inr q10]) (n := 0) X dc_E_init_83 ⟨(by decide), (ze_mem (List.mem_of_getElem? (i := 185) (by decide +kernel)) rfl), (ze_mem (List.mem_of_getElem? (i := 72) (by decide +kernel)) rfl), ze_mem (List.mem_of_getElem? (i := 186) rfl) rfl⟩ (by decide +kernel) rfl (cj_N (l := ze_l G) (D := ze_D G) (ca := ze_ca G) q19 ) rfl (by decide) (by decide) (by decide) (by decide) (by decide) (fun u20 => ?_)
  refine zn_aast (k0 := 23) (k1 := 36) (t := 3) (ci := 4) (r := (cn_N, ct_N, 5)) X dc_E_init_86 rfl rfl rfl rfl (by unfold vp_in; decide) ?_
  refine zn_iinc (y := 5) X dc_E_init_87 rfl (by decide) (by decide) ?_
  refine zn_goto (tgt := 69) X dc_E_init_90 (by decide) ?_
  refine zn_iload_n X dc_E_init_69 rfl rfl ?_
  refine zn_iconst (x := 4) X dc_E_init_70 (by decide) ?_
  refine zn_icmp_gtT (tgt := 93) X dc_E_init_71 (by decide) (by decide) ?_
  refine zn_aload_n X dc_E_init_93 rfl rfl ?_
  refine zn_new (ci := 5) (C := cn_L) (T := ct_L) (N := 6) (fs := [.int 0, .null, .null, .null, .int 0, .int 0]) X dc_E_init_94 cy_L rfl ci_L co_L (ze_mem (List.mem_of_getElem? (i := 207) (by decide +kernel)) rfl) (ze_mem (List.mem_of_getElem? (i := 208) (by decide +kernel)) rfl) (ze_mem (List.mem_of_getElem? (i := 73) (by decide +kernel)) rfl) cf_L (by decide) (by decide) (fun q21 => ?_)
  refine zn_dup X dc_E_init_97 ?_
  refine zn_bipush (x := 8) X dc_E_init_98 (by decide) ?_
  refine zn_callI (As := [.inl 8]) (st := [.inr q21, .inr h0]) (n := 1) X dc_E_init_100 ⟨(ze_mem (List.mem_of_getElem? (i := 209) (by decide +kernel)) rfl), (ze_mem (List.mem_of_getElem? (i := 210) (by decide +kernel)) rfl), (ze_mem (List.mem_of_getElem? (i := 73) (by decide +kernel)) rfl), ze_mem (List.mem_of_getElem? (i := 211) rfl) rfl⟩ (by decide +kernel) rfl (cj_L8 (l := ze_l G) (D := ze_D G) (ca := ze_ca G) q21 ) rfl (by decide) (by decide) (by decide) (by decide) (by decide) (fun u22 => ?_)
  refine zn_putF (k0 := 0) (ty := (.object "RouteEngine$Line")) (w := .inr q21) X dc_E_init_103 hI zq_E_51 rfl (by decide) rfl rfl ?_
  refine zn_aload_n X dc_E_init_106 rfl rfl ?_
  refine zn_new (ci := 5) (C := cn_L) (T := ct_L) (N := 6) (fs := [.int 0, .null, .null, .null, .int 0, .int 0]) X dc_E_init_107 cy_L rfl ci_L co_L (ze_mem (List.mem_of_getElem? (i := 207) (by decide +kernel)) rfl) (ze_mem (List.mem_of_getElem? (i := 208) (by decide +kernel)) rfl) (ze_mem (List.mem_of_getElem? (i := 73) (by decide +kernel)) rfl) cf_L (by decide) (by decide) (fun q23 => ?_)
  refine zn_dup X dc_E_init_110 ?_
  refine zn_sipush (x := 401) X dc_E_init_111 (by decide) ?_
  refine zn_callI (As := [.inl 401]) (st := [.inr q23, .inr h0]) (n := 1) X dc_E_init_114 ⟨(ze_mem (List.mem_of_getElem? (i := 209) (by decide +kernel)) rfl), (ze_mem (List.mem_of_getElem? (i := 210) (by decide +kernel)) rfl), (ze_mem (List.mem_of_getElem? (i := 73) (by decide +kernel)) rfl), ze_mem (List.mem_of_getElem? (i := 211) rfl) rfl⟩ (by decide +kernel) rfl (cj_L401 (l := ze_l G) (D := ze_D G) (ca := ze_ca G) q23 ) rfl (by decide) (by decide) (by decide) (by decide) (by decide) (fun u24 => ?_)
  refine zn_putF (k0 := 0) (ty := (.object "RouteEngine$Line")) (w := .inr q23) X dc_E_init_117 hI zq_E_55 rfl (by decide) rfl rfl ?_
  refine zn_aload_n X dc_E_init_120 rfl rfl ?_
  refine zn_new (ci := 6) (C := cn_G) (T := ct_G) (N := 6) (fs := [.null, .null, .null, .null, .null, .int 0]) X dc_E_init_121 cy_G rfl ci_G co_G (ze_mem (List.mem_of_getElem? (i := 240) (by decide +kernel)) rfl) (ze_mem (List.mem_of_getElem? (i := 241) (by decide +kernel)) rfl) (ze_mem (List.mem_of_getElem? (i := 75) (by decide +kernel)) rfl) cf_G (by decide) (by decide) (fun q25 => ?_)
  refine zn_dup X dc_E_init_124 ?_
  refine zn_callIN (host := "RouteEngine") (As := []) (st := [.inr q25, .inr h0]) (n := 0) X dc_E_init_125 ⟨(by decide), (ze_mem (List.mem_of_getElem? (i := 243) (by decide +kernel)) rfl), (ze_mem (List.mem_of_getElem? (i := 75) (by decide +kernel)) rfl), ze_mem (List.mem_of_getElem? (i := 244) rfl) rfl⟩ (by decide +kernel) rfl (cj_G (l := ze_l G) (D := ze_D G) (ca := ze_ca G) q25 ) rfl (by decide) (by decide) (by decide) (by decide) (by decide) (fun u26 => ?_)
  refine zn_putF (k0 := 0) (ty := (.object "RouteEngine$Groups")) (w := .inr q25) X dc_E_init_128 hI zq_E_61 rfl (by decide) rfl rfl ?_
  refine zn_aload_n X dc_E_init_131 rfl rfl ?_
  refine zn_new (ci := 7) (C := cn_K) (T := ct_K) (N := 3) (fs := [.null, .null, .null]) X dc_E_init_132 cy_K rfl ci_K co_K (ze_mem (List.mem_of_getElem? (i := 271) (by decide +kernel)) rfl) (ze_mem (List.mem_of_getElem? (i := 272) (by decide +kernel)) rfl) (ze_mem (List.mem_of_getElem? (i := 76) (by decide +kernel)) rfl) cf_K (by decide) (by decide) (fun q27 => ?_)
  refine zn_dup X dc_E_init_135 ?_
  refine zn_callIN (host := "RouteEngine") (As := []) (st := [.inr q27, .inr h0]) (n := 0) X dc_E_init_136 ⟨(by decide), (ze_mem (List.mem_of_getElem? (i := 274) (by decide +kernel)) rfl), (ze_mem (List.mem_of_getElem? (i := 76) (by decide +kernel)) rfl), ze_mem (List.mem_of_getElem? (i := 275) rfl) rfl⟩ (by decide +kernel) rfl (cj_K (l := ze_l G) (D := ze_D G) (ca := ze_ca G) q27 ) rfl (by decide) (by decide) (by decide) (by decide) (by decide) (fun u28 => ?_)
  refine zn_putF (k0 := 0) (ty := (.object "RouteEngine$Kept")) (w := .inr q27) X dc_E_init_139 hI zq_E_68 rfl (by decide) rfl rfl ?_
  refine zn_aload_n X dc_E_init_142 rfl rfl ?_
  refine zn_bipush (x := 16) X dc_E_init_143 (by decide) ?_
  refine zn_newq (t := 4) (N := 16) (C := "RouteEngine$Exchange") X dc_E_init_145 (ze_mem (List.mem_of_getElem? (i := 290) (by decide +kernel)) rfl) (ze_mem (List.mem_of_getElem? (i := 291) (by decide +kernel)) rfl) rfl (by decide) (by decide) (by decide) (by decide) (by decide) (fun q29 => ?_)
  refine zn_putF (k0 := 0) (ty := (.array (.object "RouteEngine$Exchange"))) (w := .inr q29) X dc_E_init_148 hI zq_E_74 rfl (by decide) rfl rfl ?_
  refine zn_iconst (x := 0) X dc_E_init_151 (by decide) ?_
  refine zn_istore_n X dc_E_init_152 rfl (by decide) ?_
  refine zn_iload_n X dc_E_init_153 rfl rfl ?_
  refine zn_bipush (x := 16) X dc_E_init_154 (by decide) ?_
  refine zn_icmp_geF (tgt := 178) X dc_E_init_156 (by decide) (by decide) ?_
  refine zn_aload_n X dc_E_init_159 rfl rfl ?_
  refine zn_get (k0 := 0) (w := .inr q29) X dc_E_init_160 zf_E_74 rfl rfl ?_
  refine zn_iload_n X dc_E_init_163 rfl rfl ?_
  refine zn_new (ci := 8) (C := cn_H) (T := ct_H) (N := 4) (fs := [.int 0, .int 0, .int 0, .int 0]) X dc_E_init_164 cy_H rfl ci_H co_H (ze_mem (List.mem_of_getElem? (i := 290) (by decide +kernel)) rfl) (ze_mem (List.mem_of_getElem? (i := 292) (by decide +kernel)) rfl) (ze_mem (List.mem_of_getElem? (i := 77) (by decide +kernel)) rfl) cf_H (by decide) (by decide) (fun q30 => ?_)
  refine zn_dup X dc_E_init_167 ?_
  refine zn_callIN (host := "RouteEngine") (As := []) (st := [.inr q30, .inl 0, .inr q29]) (n := 0) X dc_E_init_168 ⟨(by decide), (ze_mem (List.mem_of_getElem? (i := 294) (by decide +kernel)) rfl), (ze_mem (List.mem_of_getElem? (i := 77) (by decide +kernel)) rfl), ze_mem (List.mem_of_getElem? (i := 295) rfl) rfl⟩ (by decide +kernel) rfl (cj_H (l := ze_l G) (D := ze_D G) (ca := ze_ca G) q30 ) rfl (by decide) (by decide) (by decide) (by decide) (by decide) (fun u31 => ?_)
  refine zn_aast (k0 := 57) (k1 := 58) (t := 4) (ci := 8) (r := (cn_H, ct_H, 4)) X dc_E_init_171 rfl rfl rfl rfl (by unfold vp_in; decide) ?_
  refine zn_iinc (y := 1) X dc_E_init_172 rfl (by decide) (by decide) ?_
  refine zn_goto (tgt := 153) X dc_E_init_175 (by decide) ?_
  refine zn_iload_n X dc_E_init_153 rfl rfl ?_
  refine zn_bipush (x := 16) X dc_E_init_154 (by decide) ?_
  refine zn_icmp_geF (tgt := 178) X dc_E_init_156 (by decide) (by decide) ?_
  refine zn_aload_n X dc_E_init_159 rfl rfl ?_
  refine zn_get (k0 := 0) (w := .inr q29) X dc_E_init_160 zf_E_74 rfl rfl ?_
  refine zn_iload_n X dc_E_init_163 rfl rfl ?_
  refine zn_new (ci := 8) (C := cn_H) (T := ct_H) (N := 4) (fs := [.int 0, .int 0, .int 0, .int 0]) X dc_E_init_164 cy_H rfl ci_H co_H (ze_mem (List.mem_of_getElem? (i := 290) (by decide +kernel)) rfl) (ze_mem (List.mem_of_getElem? (i := 292) (by decide +kernel)) rfl) (ze_mem (List.mem_of_getElem? (i := 77) (by decide +kernel)) rfl) cf_H (by decide) (by decide) (fun q32 => ?_)
  refine zn_dup X dc_E_init_167 ?_
  refine zn_callIN (host := "RouteEngine") (As := []) (st := [.inr q32, .inl 1, .inr q29]) (n := 0) X dc_E_init_168 ⟨(by decide), (ze_mem (List.mem_of_getElem? (i := 294) (by decide +kernel)) rfl), (ze_mem (List.mem_of_getElem? (i := 77) (by decide +kernel)) rfl), ze_mem (List.mem_of_getElem? (i := 295) rfl) rfl⟩ (by decide +kernel) rfl (cj_H (l := ze_l G) (D := ze_D G) (ca := ze_ca G) q32 ) rfl (by decide) (by decide) (by decide) (by decide) (by decide) (fun u33 => ?_)
  refine zn_aast (k0 := 57) (k1 := 59) (t := 4) (ci := 8) (r := (cn_H, ct_H, 4)) X dc_E_init_171 rfl rfl rfl rfl (by unfold vp_in; decide) ?_
  refine zn_iinc (y := 2) X dc_E_init_172 rfl (by decide) (by decide) ?_
  refine zn_goto (tgt := 153) X dc_E_init_175 (by decide) ?_
  refine zn_iload_n X dc_E_init_153 rfl rfl ?_
  refine zn_bipush (x := 16) X dc_E_init_154 (by decide) ?_
  refine zn_icmp_geF (tgt := 178) X dc_E_init_156 (by decide) (by decide) ?_
  refine zn_aload_n X dc_E_init_159 rfl rfl ?_
  refine zn_get (k0 := 0) (w := .inr q29) X dc_E_init_160 zf_E_74 rfl rfl ?_
  refine zn_iload_n X dc_E_init_163 rfl rfl ?_
  refine zn_new (ci := 8) (C := cn_H) (T := ct_H) (N := 4) (fs := [.int 0, .int 0, .int 0, .int 0]) X dc_E_init_164 cy_H rfl ci_H co_H (ze_mem (List.mem_of_getElem? (i := 290) (by decide +kernel)) rfl) (ze_mem (List.mem_of_getElem? (i := 292) (by decide +kernel)) rfl) (ze_mem (List.mem_of_getElem? (i := 77) (by decide +kernel)) rfl) cf_H (by decide) (by decide) (fun q34 => ?_)
  refine zn_dup X dc_E_init_167 ?_
  refine zn_callIN (host := "RouteEngine") (As := []) (st := [.inr q34, .inl 2, .inr q29]) (n := 0) X dc_E_init_168 ⟨(by decide), (ze_mem (List.mem_of_getElem? (i := 294) (by decide +kernel)) rfl), (ze_mem (List.mem_of_getElem? (i := 77) (by decide +kernel)) rfl), ze_mem (List.mem_of_getElem? (i := 295) rfl) rfl⟩ (by decide +kernel) rfl (cj_H (l := ze_l G) (D := ze_D G) (ca := ze_ca G) q34 ) rfl (by decide) (by decide) (by decide) (by decide) (by decide) (fun u35 => ?_)
  refine zn_aast (k0 := 57) (k1 := 60) (t := 4) (ci := 8) (r := (cn_H, ct_H, 4)) X dc_E_init_171 rfl rfl rfl rfl (by unfold vp_in; decide) ?_
  refine zn_iinc (y := 3) X dc_E_init_172 rfl (by decide) (by decide) ?_
  refine zn_goto (tgt := 153) X dc_E_init_175 (by decide) ?_
  refine zn_iload_n X dc_E_init_153 rfl rfl ?_
  refine zn_bipush (x := 16) X dc_E_init_154 (by decide) ?_
  refine zn_icmp_geF (tgt := 178) X dc_E_init_156 (by decide) (by decide) ?_
  refine zn_aload_n X dc_E_init_159 rfl rfl ?_
  refine zn_get (k0 := 0) (w := .inr q29) X dc_E_init_160 zf_E_74 rfl rfl ?_
  refine zn_iload_n X dc_E_init_163 rfl rfl ?_
  refine zn_new (ci := 8) (C := cn_H) (T := ct_H) (N := 4) (fs := [.int 0, .int 0, .int 0, .int 0]) X dc_E_init_164 cy_H rfl ci_H co_H (ze_mem (List.mem_of_getElem? (i := 290) (by decide +kernel)) rfl) (ze_mem (List.mem_of_getElem? (i := 292) (by decide +kernel)) rfl) (ze_mem (List.mem_of_getElem? (i := 77) (by decide +kernel)) rfl) cf_H (by decide) (by decide) (fun q36 => ?_)
  refine zn_dup X dc_E_init_167 ?_
  refine zn_callIN (host := "RouteEngine") (As := []) (st := [.inr q36, .inl 3, .inr q29]) (n := 0) X dc_E_init_168 ⟨(by decide), (ze_mem (List.mem_of_getElem? (i := 294) (by decide +kernel)) rfl), (ze_mem (List.mem_of_getElem? (i := 77) (by decide +kernel)) rfl), ze_mem (List.mem_of_getElem? (i := 295) rfl) rfl⟩ (by decide +kernel) rfl (cj_H (l := ze_l G) (D := ze_D G) (ca := ze_ca G) q36 ) rfl (by decide) (by decide) (by decide) (by decide) (by decide) (fun u37 => ?_)
  refine zn_aast (k0 := 57) (k1 := 61) (t := 4) (ci := 8) (r := (cn_H, ct_H, 4)) X dc_E_init_171 rfl rfl rfl rfl (by unfold vp_in; decide) ?_
  refine zn_iinc (y := 4) X dc_E_init_172 rfl (by decide) (by decide) ?_
  refine zn_goto (tgt := 153) X dc_E_init_175 (by decide) ?_
  refine zn_iload_n X dc_E_init_153 rfl rfl ?_
  refine zn_bipush (x := 16) X dc_E_init_154 (by decide) ?_
  refine zn_icmp_geF (tgt := 178) X dc_E_init_156 (by decide) (by decide) ?_
  refine zn_aload_n X dc_E_init_159 rfl rfl ?_
  refine zn_get (k0 := 0) (w := .inr q29) X dc_E_init_160 zf_E_74 rfl rfl ?_
  refine zn_iload_n X dc_E_init_163 rfl rfl ?_
  refine zn_new (ci := 8) (C := cn_H) (T := ct_H) (N := 4) (fs := [.int 0, .int 0, .int 0, .int 0]) X dc_E_init_164 cy_H rfl ci_H co_H (ze_mem (List.mem_of_getElem? (i := 290) (by decide +kernel)) rfl) (ze_mem (List.mem_of_getElem? (i := 292) (by decide +kernel)) rfl) (ze_mem (List.mem_of_getElem? (i := 77) (by decide +kernel)) rfl) cf_H (by decide) (by decide) (fun q38 => ?_)
  refine zn_dup X dc_E_init_167 ?_
  refine zn_callIN (host := "RouteEngine") (As := []) (st := [.inr q38, .inl 4, .inr q29]) (n := 0) X dc_E_init_168 ⟨(by decide), (ze_mem (List.mem_of_getElem? (i := 294) (by decide +kernel)) rfl), (ze_mem (List.mem_of_getElem? (i := 77) (by decide +kernel)) rfl), ze_mem (List.mem_of_getElem? (i := 295) rfl) rfl⟩ (by decide +kernel) rfl (cj_H (l := ze_l G) (D := ze_D G) (ca := ze_ca G) q38 ) rfl (by decide) (by decide) (by decide) (by decide) (by decide) (fun u39 => ?_)
  refine zn_aast (k0 := 57) (k1 := 62) (t := 4) (ci := 8) (r := (cn_H, ct_H, 4)) X dc_E_init_171 rfl rfl rfl rfl (by unfold vp_in; decide) ?_
  refine zn_iinc (y := 5) X dc_E_init_172 rfl (by decide) (by decide) ?_
  refine zn_goto (tgt := 153) X dc_E_init_175 (by decide) ?_
  refine zn_iload_n X dc_E_init_153 rfl rfl ?_
  refine zn_bipush (x := 16) X dc_E_init_154 (by decide) ?_
  refine zn_icmp_geF (tgt := 178) X dc_E_init_156 (by decide) (by decide) ?_
  refine zn_aload_n X dc_E_init_159 rfl rfl ?_
  refine zn_get (k0 := 0) (w := .inr q29) X dc_E_init_160 zf_E_74 rfl rfl ?_
  refine zn_iload_n X dc_E_init_163 rfl rfl ?_
  refine zn_new (ci := 8) (C := cn_H) (T := ct_H) (N := 4) (fs := [.int 0, .int 0, .int 0, .int 0]) X dc_E_init_164 cy_H rfl ci_H co_H (ze_mem (List.mem_of_getElem? (i := 290) (by decide +kernel)) rfl) (ze_mem (List.mem_of_getElem? (i := 292) (by decide +kernel)) rfl) (ze_mem (List.mem_of_getElem? (i := 77) (by decide +kernel)) rfl) cf_H (by decide) (by decide) (fun q40 => ?_)
  refine zn_dup X dc_E_init_167 ?_
  refine zn_callIN (host := "RouteEngine") (As := []) (st := [.inr q40, .inl 5, .inr q29]) (n := 0) X dc_E_init_168 ⟨(by decide), (ze_mem (List.mem_of_getElem? (i := 294) (by decide +kernel)) rfl), (ze_mem (List.mem_of_getElem? (i := 77) (by decide +kernel)) rfl), ze_mem (List.mem_of_getElem? (i := 295) rfl) rfl⟩ (by decide +kernel) rfl (cj_H (l := ze_l G) (D := ze_D G) (ca := ze_ca G) q40 ) rfl (by decide) (by decide) (by decide) (by decide) (by decide) (fun u41 => ?_)
  refine zn_aast (k0 := 57) (k1 := 63) (t := 4) (ci := 8) (r := (cn_H, ct_H, 4)) X dc_E_init_171 rfl rfl rfl rfl (by unfold vp_in; decide) ?_
  refine zn_iinc (y := 6) X dc_E_init_172 rfl (by decide) (by decide) ?_
  refine zn_goto (tgt := 153) X dc_E_init_175 (by decide) ?_
  refine zn_iload_n X dc_E_init_153 rfl rfl ?_
  refine zn_bipush (x := 16) X dc_E_init_154 (by decide) ?_
  refine zn_icmp_geF (tgt := 178) X dc_E_init_156 (by decide) (by decide) ?_
  refine zn_aload_n X dc_E_init_159 rfl rfl ?_
  refine zn_get (k0 := 0) (w := .inr q29) X dc_E_init_160 zf_E_74 rfl rfl ?_
  refine zn_iload_n X dc_E_init_163 rfl rfl ?_
  refine zn_new (ci := 8) (C := cn_H) (T := ct_H) (N := 4) (fs := [.int 0, .int 0, .int 0, .int 0]) X dc_E_init_164 cy_H rfl ci_H co_H (ze_mem (List.mem_of_getElem? (i := 290) (by decide +kernel)) rfl) (ze_mem (List.mem_of_getElem? (i := 292) (by decide +kernel)) rfl) (ze_mem (List.mem_of_getElem? (i := 77) (by decide +kernel)) rfl) cf_H (by decide) (by decide) (fun q42 => ?_)
  refine zn_dup X dc_E_init_167 ?_
  refine zn_callIN (host := "RouteEngine") (As := []) (st := [.inr q42, .inl 6, .inr q29]) (n := 0) X dc_E_init_168 ⟨(by decide), (ze_mem (List.mem_of_getElem? (i := 294) (by decide +kernel)) rfl), (ze_mem (List.mem_of_getElem? (i := 77) (by decide +kernel)) rfl), ze_mem (List.mem_of_getElem? (i := 295) rfl) rfl⟩ (by decide +kernel) rfl (cj_H (l := ze_l G) (D := ze_D G) (ca := ze_ca G) q42 ) rfl (by decide) (by decide) (by decide) (by decide) (by decide) (fun u43 => ?_)
  refine zn_aast (k0 := 57) (k1 := 64) (t := 4) (ci := 8) (r := (cn_H, ct_H, 4)) X dc_E_init_171 rfl rfl rfl rfl (by unfold vp_in; decide) ?_
  refine zn_iinc (y := 7) X dc_E_init_172 rfl (by decide) (by decide) ?_
  refine zn_goto (tgt := 153) X dc_E_init_175 (by decide) ?_
  refine zn_iload_n X dc_E_init_153 rfl rfl ?_
  refine zn_bipush (x := 16) X dc_E_init_154 (by decide) ?_
  refine zn_icmp_geF (tgt := 178) X dc_E_init_156 (by decide) (by decide) ?_
  refine zn_aload_n X dc_E_init_159 rfl rfl ?_
  refine zn_get (k0 := 0) (w := .inr q29) X dc_E_init_160 zf_E_74 rfl rfl ?_
  refine zn_iload_n X dc_E_init_163 rfl rfl ?_
  refine zn_new (ci := 8) (C := cn_H) (T := ct_H) (N := 4) (fs := [.int 0, .int 0, .int 0, .int 0]) X dc_E_init_164 cy_H rfl ci_H co_H (ze_mem (List.mem_of_getElem? (i := 290) (by decide +kernel)) rfl) (ze_mem (List.mem_of_getElem? (i := 292) (by decide +kernel)) rfl) (ze_mem (List.mem_of_getElem? (i := 77) (by decide +kernel)) rfl) cf_H (by decide) (by decide) (fun q44 => ?_)
  refine zn_dup X dc_E_init_167 ?_
  refine zn_callIN (host := "RouteEngine") (As := []) (st := [.inr q44, .inl 7, .inr q29]) (n := 0) X dc_E_init_168 ⟨(by decide), (ze_mem (List.mem_of_getElem? (i := 294) (by decide +kernel)) rfl), (ze_mem (List.mem_of_getElem? (i := 77) (by decide +kernel)) rfl), ze_mem (List.mem_of_getElem? (i := 295) rfl) rfl⟩ (by decide +kernel) rfl (cj_H (l := ze_l G) (D := ze_D G) (ca := ze_ca G) q44 ) rfl (by decide) (by decide) (by decide) (by decide) (by decide) (fun u45 => ?_)
  refine zn_aast (k0 := 57) (k1 := 65) (t := 4) (ci := 8) (r := (cn_H, ct_H, 4)) X dc_E_init_171 rfl rfl rfl rfl (by unfold vp_in; decide) ?_
  refine zn_iinc (y := 8) X dc_E_init_172 rfl (by decide) (by decide) ?_
  refine zn_goto (tgt := 153) X dc_E_init_175 (by decide) ?_
  refine zn_iload_n X dc_E_init_153 rfl rfl ?_
  refine zn_bipush (x := 16) X dc_E_init_154 (by decide) ?_
  refine zn_icmp_geF (tgt := 178) X dc_E_init_156 (by decide) (by decide) ?_
  refine zn_aload_n X dc_E_init_159 rfl rfl ?_
  refine zn_get (k0 := 0) (w := .inr q29) X dc_E_init_160 zf_E_74 rfl rfl ?_
  refine zn_iload_n X dc_E_init_163 rfl rfl ?_
  refine zn_new (ci := 8) (C := cn_H) (T := ct_H) (N := 4) (fs := [.int 0, .int 0, .int 0, .int 0]) X dc_E_init_164 cy_H rfl ci_H co_H (ze_mem (List.mem_of_getElem? (i := 290) (by decide +kernel)) rfl) (ze_mem (List.mem_of_getElem? (i := 292) (by decide +kernel)) rfl) (ze_mem (List.mem_of_getElem? (i := 77) (by decide +kernel)) rfl) cf_H (by decide) (by decide) (fun q46 => ?_)
  refine zn_dup X dc_E_init_167 ?_
  refine zn_callIN (host := "RouteEngine") (As := []) (st := [.inr q46, .inl 8, .inr q29]) (n := 0) X dc_E_init_168 ⟨(by decide), (ze_mem (List.mem_of_getElem? (i := 294) (by decide +kernel)) rfl), (ze_mem (List.mem_of_getElem? (i := 77) (by decide +kernel)) rfl), ze_mem (List.mem_of_getElem? (i := 295) rfl) rfl⟩ (by decide +kernel) rfl (cj_H (l := ze_l G) (D := ze_D G) (ca := ze_ca G) q46 ) rfl (by decide) (by decide) (by decide) (by decide) (by decide) (fun u47 => ?_)
  refine zn_aast (k0 := 57) (k1 := 66) (t := 4) (ci := 8) (r := (cn_H, ct_H, 4)) X dc_E_init_171 rfl rfl rfl rfl (by unfold vp_in; decide) ?_
  refine zn_iinc (y := 9) X dc_E_init_172 rfl (by decide) (by decide) ?_
  refine zn_goto (tgt := 153) X dc_E_init_175 (by decide) ?_
  refine zn_iload_n X dc_E_init_153 rfl rfl ?_
  refine zn_bipush (x := 16) X dc_E_init_154 (by decide) ?_
  refine zn_icmp_geF (tgt := 178) X dc_E_init_156 (by decide) (by decide) ?_
  refine zn_aload_n X dc_E_init_159 rfl rfl ?_
  refine zn_get (k0 := 0) (w := .inr q29) X dc_E_init_160 zf_E_74 rfl rfl ?_
  refine zn_iload_n X dc_E_init_163 rfl rfl ?_
  refine zn_new (ci := 8) (C := cn_H) (T := ct_H) (N := 4) (fs := [.int 0, .int 0, .int 0, .int 0]) X dc_E_init_164 cy_H rfl ci_H co_H (ze_mem (List.mem_of_getElem? (i := 290) (by decide +kernel)) rfl) (ze_mem (List.mem_of_getElem? (i := 292) (by decide +kernel)) rfl) (ze_mem (List.mem_of_getElem? (i := 77) (by decide +kernel)) rfl) cf_H (by decide) (by decide) (fun q48 => ?_)
  refine zn_dup X dc_E_init_167 ?_
  refine zn_callIN (host := "RouteEngine") (As := []) (st := [.inr q48, .inl 9, .inr q29]) (n := 0) X dc_E_init_168 ⟨(by decide), (ze_mem (List.mem_of_getElem? (i := 294) (by decide +kernel)) rfl), (ze_mem (List.mem_of_getElem? (i := 77) (by decide +kernel)) rfl), ze_mem (List.mem_of_getElem? (i := 295) rfl) rfl⟩ (by decide +kernel) rfl (cj_H (l := ze_l G) (D := ze_D G) (ca := ze_ca G) q48 ) rfl (by decide) (by decide) (by decide) (by decide) (by decide) (fun u49 => ?_)
  refine zn_aast (k0 := 57) (k1 := 67) (t := 4) (ci := 8) (r := (cn_H, ct_H, 4)) X dc_E_init_171 rfl rfl rfl rfl (by unfold vp_in; decide) ?_
  refine zn_iinc (y := 10) X dc_E_init_172 rfl (by decide) (by decide) ?_
  refine zn_goto (tgt := 153) X dc_E_init_175 (by decide) ?_
  refine zn_iload_n X dc_E_init_153 rfl rfl ?_
  refine zn_bipush (x := 16) X dc_E_init_154 (by decide) ?_
  refine zn_icmp_geF (tgt := 178) X dc_E_init_156 (by decide) (by decide) ?_
  refine zn_aload_n X dc_E_init_159 rfl rfl ?_
  refine zn_get (k0 := 0) (w := .inr q29) X dc_E_init_160 zf_E_74 rfl rfl ?_
  refine zn_iload_n X dc_E_init_163 rfl rfl ?_
  refine zn_new (ci := 8) (C := cn_H) (T := ct_H) (N := 4) (fs := [.int 0, .int 0, .int 0, .int 0]) X dc_E_init_164 cy_H rfl ci_H co_H (ze_mem (List.mem_of_getElem? (i := 290) (by decide +kernel)) rfl) (ze_mem (List.mem_of_getElem? (i := 292) (by decide +kernel)) rfl) (ze_mem (List.mem_of_getElem? (i := 77) (by decide +kernel)) rfl) cf_H (by decide) (by decide) (fun q50 => ?_)
  refine zn_dup X dc_E_init_167 ?_
  refine zn_callIN (host := "RouteEngine") (As := []) (st := [.inr q50, .inl 10, .inr q29]) (n := 0) X dc_E_init_168 ⟨(by decide), (ze_mem (List.mem_of_getElem? (i := 294) (by decide +kernel)) rfl), (ze_mem (List.mem_of_getElem? (i := 77) (by decide +kernel)) rfl), ze_mem (List.mem_of_getElem? (i := 295) rfl) rfl⟩ (by decide +kernel) rfl (cj_H (l := ze_l G) (D := ze_D G) (ca := ze_ca G) q50 ) rfl (by decide) (by decide) (by decide) (by decide) (by decide) (fun u51 => ?_)
  refine zn_aast (k0 := 57) (k1 := 68) (t := 4) (ci := 8) (r := (cn_H, ct_H, 4)) X dc_E_init_171 rfl rfl rfl rfl (by unfold vp_in; decide) ?_
  refine zn_iinc (y := 11) X dc_E_init_172 rfl (by decide) (by decide) ?_
  refine zn_goto (tgt := 153) X dc_E_init_175 (by decide) ?_
  refine zn_iload_n X dc_E_init_153 rfl rfl ?_
  refine zn_bipush (x := 16) X dc_E_init_154 (by decide) ?_
  refine zn_icmp_geF (tgt := 178) X dc_E_init_156 (by decide) (by decide) ?_
  refine zn_aload_n X dc_E_init_159 rfl rfl ?_
  refine zn_get (k0 := 0) (w := .inr q29) X dc_E_init_160 zf_E_74 rfl rfl ?_
  refine zn_iload_n X dc_E_init_163 rfl rfl ?_
  refine zn_new (ci := 8) (C := cn_H) (T := ct_H) (N := 4) (fs := [.int 0, .int 0, .int 0, .int 0]) X dc_E_init_164 cy_H rfl ci_H co_H (ze_mem (List.mem_of_getElem? (i := 290) (by decide +kernel)) rfl) (ze_mem (List.mem_of_getElem? (i := 292) (by decide +kernel)) rfl) (ze_mem (List.mem_of_getElem? (i := 77) (by decide +kernel)) rfl) cf_H (by decide) (by decide) (fun q52 => ?_)
  refine zn_dup X dc_E_init_167 ?_
  refine zn_callIN (host := "RouteEngine") (As := []) (st := [.inr q52, .inl 11, .inr q29]) (n := 0) X dc_E_init_168 ⟨(by decide), (ze_mem (List.mem_of_getElem? (i := 294) (by decide +kernel)) rfl), (ze_mem (List.mem_of_getElem? (i := 77) (by decide +kernel)) rfl), ze_mem (List.mem_of_getElem? (i := 295) rfl) rfl⟩ (by decide +kernel) rfl (cj_H (l := ze_l G) (D := ze_D G) (ca := ze_ca G) q52 ) rfl (by decide) (by decide) (by decide) (by decide) (by decide) (fun u53 => ?_)
  refine zn_aast (k0 := 57) (k1 := 69) (t := 4) (ci := 8) (r := (cn_H, ct_H, 4)) X dc_E_init_171 rfl rfl rfl rfl (by unfold vp_in; decide) ?_
  refine zn_iinc (y := 12) X dc_E_init_172 rfl (by decide) (by decide) ?_
  refine zn_goto (tgt := 153) X dc_E_init_175 (by decide) ?_
  refine zn_iload_n X dc_E_init_153 rfl rfl ?_
  refine zn_bipush (x := 16) X dc_E_init_154 (by decide) ?_
  refine zn_icmp_geF (tgt := 178) X dc_E_init_156 (by decide) (by decide) ?_
  refine zn_aload_n X dc_E_init_159 rfl rfl ?_
  refine zn_get (k0 := 0) (w := .inr q29) X dc_E_init_160 zf_E_74 rfl rfl ?_
  refine zn_iload_n X dc_E_init_163 rfl rfl ?_
  refine zn_new (ci := 8) (C := cn_H) (T := ct_H) (N := 4) (fs := [.int 0, .int 0, .int 0, .int 0]) X dc_E_init_164 cy_H rfl ci_H co_H (ze_mem (List.mem_of_getElem? (i := 290) (by decide +kernel)) rfl) (ze_mem (List.mem_of_getElem? (i := 292) (by decide +kernel)) rfl) (ze_mem (List.mem_of_getElem? (i := 77) (by decide +kernel)) rfl) cf_H (by decide) (by decide) (fun q54 => ?_)
  refine zn_dup X dc_E_init_167 ?_
  refine zn_callIN (host := "RouteEngine") (As := []) (st := [.inr q54, .inl 12, .inr q29]) (n := 0) X dc_E_init_168 ⟨(by decide), (ze_mem (List.mem_of_getElem? (i := 294) (by decide +kernel)) rfl), (ze_mem (List.mem_of_getElem? (i := 77) (by decide +kernel)) rfl), ze_mem (List.mem_of_getElem? (i := 295) rfl) rfl⟩ (by decide +kernel) rfl (cj_H (l := ze_l G) (D := ze_D G) (ca := ze_ca G) q54 ) rfl (by decide) (by decide) (by decide) (by decide) (by decide) (fun u55 => ?_)
  refine zn_aast (k0 := 57) (k1 := 70) (t := 4) (ci := 8) (r := (cn_H, ct_H, 4)) X dc_E_init_171 rfl rfl rfl rfl (by unfold vp_in; decide) ?_
  refine zn_iinc (y := 13) X dc_E_init_172 rfl (by decide) (by decide) ?_
  refine zn_goto (tgt := 153) X dc_E_init_175 (by decide) ?_
  refine zn_iload_n X dc_E_init_153 rfl rfl ?_
  refine zn_bipush (x := 16) X dc_E_init_154 (by decide) ?_
  refine zn_icmp_geF (tgt := 178) X dc_E_init_156 (by decide) (by decide) ?_
  refine zn_aload_n X dc_E_init_159 rfl rfl ?_
  refine zn_get (k0 := 0) (w := .inr q29) X dc_E_init_160 zf_E_74 rfl rfl ?_
  refine zn_iload_n X dc_E_init_163 rfl rfl ?_
  refine zn_new (ci := 8) (C := cn_H) (T := ct_H) (N := 4) (fs := [.int 0, .int 0, .int 0, .int 0]) X dc_E_init_164 cy_H rfl ci_H co_H (ze_mem (List.mem_of_getElem? (i := 290) (by decide +kernel)) rfl) (ze_mem (List.mem_of_getElem? (i := 292) (by decide +kernel)) rfl) (ze_mem (List.mem_of_getElem? (i := 77) (by decide +kernel)) rfl) cf_H (by decide) (by decide) (fun q56 => ?_)
  refine zn_dup X dc_E_init_167 ?_
  refine zn_callIN (host := "RouteEngine") (As := []) (st := [.inr q56, .inl 13, .inr q29]) (n := 0) X dc_E_init_168 ⟨(by decide), (ze_mem (List.mem_of_getElem? (i := 294) (by decide +kernel)) rfl), (ze_mem (List.mem_of_getElem? (i := 77) (by decide +kernel)) rfl), ze_mem (List.mem_of_getElem? (i := 295) rfl) rfl⟩ (by decide +kernel) rfl (cj_H (l := ze_l G) (D := ze_D G) (ca := ze_ca G) q56 ) rfl (by decide) (by decide) (by decide) (by decide) (by decide) (fun u57 => ?_)
  refine zn_aast (k0 := 57) (k1 := 71) (t := 4) (ci := 8) (r := (cn_H, ct_H, 4)) X dc_E_init_171 rfl rfl rfl rfl (by unfold vp_in; decide) ?_
  refine zn_iinc (y := 14) X dc_E_init_172 rfl (by decide) (by decide) ?_
  refine zn_goto (tgt := 153) X dc_E_init_175 (by decide) ?_
  refine zn_iload_n X dc_E_init_153 rfl rfl ?_
  refine zn_bipush (x := 16) X dc_E_init_154 (by decide) ?_
  refine zn_icmp_geF (tgt := 178) X dc_E_init_156 (by decide) (by decide) ?_
  refine zn_aload_n X dc_E_init_159 rfl rfl ?_
  refine zn_get (k0 := 0) (w := .inr q29) X dc_E_init_160 zf_E_74 rfl rfl ?_
  refine zn_iload_n X dc_E_init_163 rfl rfl ?_
  refine zn_new (ci := 8) (C := cn_H) (T := ct_H) (N := 4) (fs := [.int 0, .int 0, .int 0, .int 0]) X dc_E_init_164 cy_H rfl ci_H co_H (ze_mem (List.mem_of_getElem? (i := 290) (by decide +kernel)) rfl) (ze_mem (List.mem_of_getElem? (i := 292) (by decide +kernel)) rfl) (ze_mem (List.mem_of_getElem? (i := 77) (by decide +kernel)) rfl) cf_H (by decide) (by decide) (fun q58 => ?_)
  refine zn_dup X dc_E_init_167 ?_
  refine zn_callIN (host := "RouteEngine") (As := []) (st := [.inr q58, .inl 14, .inr q29]) (n := 0) X dc_E_init_168 ⟨(by decide), (ze_mem (List.mem_of_getElem? (i := 294) (by decide +kernel)) rfl), (ze_mem (List.mem_of_getElem? (i := 77) (by decide +kernel)) rfl), ze_mem (List.mem_of_getElem? (i := 295) rfl) rfl⟩ (by decide +kernel) rfl (cj_H (l := ze_l G) (D := ze_D G) (ca := ze_ca G) q58 ) rfl (by decide) (by decide) (by decide) (by decide) (by decide) (fun u59 => ?_)
  refine zn_aast (k0 := 57) (k1 := 72) (t := 4) (ci := 8) (r := (cn_H, ct_H, 4)) X dc_E_init_171 rfl rfl rfl rfl (by unfold vp_in; decide) ?_
  refine zn_iinc (y := 15) X dc_E_init_172 rfl (by decide) (by decide) ?_
  refine zn_goto (tgt := 153) X dc_E_init_175 (by decide) ?_
  refine zn_iload_n X dc_E_init_153 rfl rfl ?_
  refine zn_bipush (x := 16) X dc_E_init_154 (by decide) ?_
  refine zn_icmp_geF (tgt := 178) X dc_E_init_156 (by decide) (by decide) ?_
  refine zn_aload_n X dc_E_init_159 rfl rfl ?_
  refine zn_get (k0 := 0) (w := .inr q29) X dc_E_init_160 zf_E_74 rfl rfl ?_
  refine zn_iload_n X dc_E_init_163 rfl rfl ?_
  refine zn_new (ci := 8) (C := cn_H) (T := ct_H) (N := 4) (fs := [.int 0, .int 0, .int 0, .int 0]) X dc_E_init_164 cy_H rfl ci_H co_H (ze_mem (List.mem_of_getElem? (i := 290) (by decide +kernel)) rfl) (ze_mem (List.mem_of_getElem? (i := 292) (by decide +kernel)) rfl) (ze_mem (List.mem_of_getElem? (i := 77) (by decide +kernel)) rfl) cf_H (by decide) (by decide) (fun q60 => ?_)
  refine zn_dup X dc_E_init_167 ?_
  refine zn_callIN (host := "RouteEngine") (As := []) (st := [.inr q60, .inl 15, .inr q29]) (n := 0) X dc_E_init_168 ⟨(by decide), (ze_mem (List.mem_of_getElem? (i := 294) (by decide +kernel)) rfl), (ze_mem (List.mem_of_getElem? (i := 77) (by decide +kernel)) rfl), ze_mem (List.mem_of_getElem? (i := 295) rfl) rfl⟩ (by decide +kernel) rfl (cj_H (l := ze_l G) (D := ze_D G) (ca := ze_ca G) q60 ) rfl (by decide) (by decide) (by decide) (by decide) (by decide) (fun u61 => ?_)
  refine zn_aast (k0 := 57) (k1 := 73) (t := 4) (ci := 8) (r := (cn_H, ct_H, 4)) X dc_E_init_171 rfl rfl rfl rfl (by unfold vp_in; decide) ?_
  refine zn_iinc (y := 16) X dc_E_init_172 rfl (by decide) (by decide) ?_
  refine zn_goto (tgt := 153) X dc_E_init_175 (by decide) ?_
  refine zn_iload_n X dc_E_init_153 rfl rfl ?_
  refine zn_bipush (x := 16) X dc_E_init_154 (by decide) ?_
  refine zn_icmp_geT (tgt := 178) X dc_E_init_156 (by decide) (by decide) ?_
  refine zn_aload_n X dc_E_init_178 rfl rfl ?_
  refine zn_bipush (x := 8) X dc_E_init_179 (by decide) ?_
  refine zn_newa (t := 0) (N := 8) (ty := .int) X dc_E_init_181 rfl (ze_mem (List.mem_of_getElem? (i := 129) (by decide +kernel)) rfl) rfl (fun _ h => h) (fun _ => rfl) (by decide) (by decide) (by decide) (by decide) (by decide) (fun q62 => ?_)
  refine zn_putF (k0 := 0) (ty := (.array .int)) (w := .inr q62) X dc_E_init_183 hI zq_E_79 rfl (by decide) rfl rfl ?_
  exact zn_vret X Y (fun j => [h0, q1, q2, (u3 1), (u3 2), (u3 3), (u3 4), (u3 5), (u3 6), q4, (u5 1), (u5 2), (u5 3), (u5 4), (u5 5), (u5 6), q6, q8, (u9 1), (u9 2), (u9 3), (u9 4), (u9 5), q10, q11, (u12 1), (u12 2), q13, (u14 1), (u14 2), q15, (u16 1), (u16 2), q17, (u18 1), (u18 2), q19, (u20 1), (u20 2), q21, (u22 1), (u22 2), (u22 3), q23, (u24 1), (u24 2), (u24 3), q25, (u26 1), (u26 2), (u26 3), (u26 4), (u26 5), q27, (u28 1), (u28 2), (u28 3), q29, q30, q32, q34, q36, q38, q40, q42, q44, q46, q48, q50, q52, q54, q56, q58, q60, q62].getD j 0) dc_E_init_186 rfl
def cw_M (ca : Nat → ClassId) (h0 : Nat)  : (Nat → Nat) → va_W := fun u => [(h0, .inr (9, [.ref (u 1), .ref (u 2), .ref (u 3), .ref (u 4), .ref (u 5), .int 0, .int 0, .int 0, .ref (u 6), .ref (u 7), .ref (u 8), .ref (u 9), .ref (u 10), .ref (u 11), .ref (u 12), .ref (u 13), .ref (u 14), .ref (u 15), .int 0, .ref (u 16), .ref (u 17), .ref (u 18), .int 0, .ref (u 19), .ref (u 20), .ref (u 21), .ref (u 22), .ref (u 23), .ref (u 24), .int 0, .ref (u 25), .ref (u 26), .ref (u 27), .ref (u 28), .ref (u 29), .int 0, .int 0, .ref (u 30), .ref (u 31), .ref (u 32), .int 0, .ref (u 33), .ref (u 34), .ref (u 35), .int 0, .ref (u 36), .ref (u 37), .ref (u 38), .ref (u 39), .ref (u 40), .ref (u 41), .ref (u 42), .ref (u 43), .int 0, .int 0, .int 0, .int 0, .int 0, .int 0, .int 0, .ref (u 44)])), ((u 1), .inl (ca 1, 160, .inl (fun _ => 0))), ((u 2), .inl (ca 0, 4, .inl (fun _ => 0))), ((u 3), .inl (ca 1, 160, .inl (fun _ => 0))), ((u 4), .inl (ca 0, 4, .inl (fun _ => 0))), ((u 5), .inl (ca 0, 4, .inl (fun _ => 0))), ((u 6), .inl (ca 0, 4, .inl (fun _ => 0))), ((u 7), .inl (ca 0, 4, .inl (fun _ => 0))), ((u 8), .inl (ca 0, 4, .inl (fun _ => 0))), ((u 9), .inl (ca 2, 4, .inl (fun _ => 0))), ((u 10), .inl (ca 2, 4, .inl (fun _ => 0))), ((u 11), .inl (ca 0, 4, .inl (fun _ => 0))), ((u 12), .inl (ca 0, 4, .inl (fun _ => 0))), ((u 13), .inl (ca 0, 5, .inl (fun _ => 0))), ((u 14), .inl (ca 0, 40, .inl (fun _ => 0))), ((u 15), .inl (ca 0, 40, .inl (fun _ => 0))), ((u 16), .inl (ca 0, 8, .inl (fun _ => 0))), ((u 17), .inl (ca 0, 8, .inl (fun _ => 0))), ((u 18), .inl (ca 0, 8, .inl (fun _ => 0))), ((u 19), .inl (ca 0, 120, .inl (fun _ => 0))), ((u 20), .inl (ca 0, 120, .inl (fun _ => 0))), ((u 21), .inl (ca 0, 120, .inl (fun _ => 0))), ((u 22), .inl (ca 0, 120, .inl (fun _ => 0))), ((u 23), .inl (ca 0, 120, .inl (fun _ => 0))), ((u 24), .inl (ca 0, 120, .inl (fun _ => 0))), ((u 25), .inl (ca 0, 242, .inl (fun _ => 0))), ((u 26), .inl (ca 0, 242, .inl (fun _ => 0))), ((u 27), .inl (ca 0, 242, .inl (fun _ => 0))), ((u 28), .inl (ca 0, 640, .inl (fun _ => 0))), ((u 29), .inl (ca 0, 160, .inl (fun _ => 0))), ((u 30), .inl (ca 0, 420, .inl (fun _ => 0))), ((u 31), .inl (ca 0, 420, .inl (fun _ => 0))), ((u 32), .inl (ca 0, 420, .inl (fun _ => 0))), ((u 33), .inl (ca 0, 16, .inl (fun _ => 0))), ((u 34), .inl (ca 0, 16, .inl (fun _ => 0))), ((u 35), .inl (ca 0, 16, .inl (fun _ => 0))), ((u 36), .inl (ca 0, 20, .inl (fun _ => 0))), ((u 37), .inl (ca 0, 20, .inl (fun _ => 0))), ((u 38), .inl (ca 0, 20, .inl (fun _ => 0))), ((u 39), .inl (ca 0, 20, .inl (fun _ => 0))), ((u 40), .inl (ca 0, 20, .inl (fun _ => 0))), ((u 41), .inl (ca 0, 20, .inl (fun _ => 0))), ((u 42), .inl (ca 0, 20, .inl (fun _ => 0))), ((u 43), .inl (ca 0, 20, .inl (fun _ => 0))), ((u 44), .inl (ca 0, 8, .inl (fun _ => 0)))]
set_option maxHeartbeats 8000000 in
set_option maxRecDepth 100000 in
theorem cj_M {l : Launch} {D : va_G} {ca : Nat → ClassId} (h0 : Nat)  : zn_M l D ca my_M_init bc_M_init 1 1 20 44 4191 [.inr h0] (h0, .inr (9, [.null, .null, .null, .null, .null, .int 0, .int 0, .int 0, .null, .null, .null, .null, .null, .null, .null, .null, .null, .null, .int 0, .null, .null, .null, .int 0, .null, .null, .null, .null, .null, .null, .int 0, .null, .null, .null, .null, .null, .int 0, .int 0, .null, .null, .null, .int 0, .null, .null, .null, .int 0, .null, .null, .null, .null, .null, .null, .null, .null, .int 0, .int 0, .int 0, .int 0, .int 0, .int 0, .int 0, .null])) (cw_M ca h0 ) := by
  refine zn_M_of (plainFor_of_name (by decide)) rfl (Nat.le_of_ble_eq_true rfl) (fun G A e1 e2 e3 X Y hI => ?_)
  subst e1 e2 e3
  show zn_T G A [(h0, .inr (9, [.null, .null, .null, .null, .null, .int 0, .int 0, .int 0, .null, .null, .null, .null, .null, .null, .null, .null, .null, .null, .int 0, .null, .null, .null, .int 0, .null, .null, .null, .null, .null, .null, .int 0, .null, .null, .null, .null, .null, .int 0, .int 0, .null, .null, .null, .int 0, .null, .null, .null, .int 0, .null, .null, .null, .null, .null, .null, .null, .null, .int 0, .int 0, .int 0, .int 0, .int 0, .int 0, .int 0, .null]))] 0 0 0 [some (.inr h0)] []
  refine zn_aload_n X dc_M_init_0 rfl rfl ?_
  refine zn_obj X dc_M_init_1 (ze_mem (List.mem_of_getElem? (i := 730) (by decide +kernel)) rfl) (ze_mem (List.mem_of_getElem? (i := 92) (by decide +kernel)) rfl) (ze_mem (List.mem_of_getElem? (i := 93) rfl) rfl) (by decide) (by decide) (by decide) ?_
  refine zn_aload_n X dc_M_init_4 rfl rfl ?_
  refine zn_sipush (x := 160) X dc_M_init_5 (by decide) ?_
  refine zn_newa (t := 1) (N := 160) (ty := .char) X dc_M_init_8 rfl (ze_mem (List.mem_of_getElem? (i := 130) (by decide +kernel)) rfl) rfl (fun _ h => h) (fun _ => rfl) (by decide) (by decide) (by decide) (by decide) (by decide) (fun q1 => ?_)
  refine zn_putF (k0 := 0) (ty := (.array .char)) (w := .inr q1) X dc_M_init_10 hI zq_M_7 rfl (by decide) rfl rfl ?_
  refine zn_aload_n X dc_M_init_13 rfl rfl ?_
  refine zn_iconst (x := 4) X dc_M_init_14 (by decide) ?_
  refine zn_newa (t := 0) (N := 4) (ty := .int) X dc_M_init_15 rfl (ze_mem (List.mem_of_getElem? (i := 129) (by decide +kernel)) rfl) rfl (fun _ h => h) (fun _ => rfl) (by decide) (by decide) (by decide) (by decide) (by decide) (fun q2 => ?_)
  refine zn_putF (k0 := 0) (ty := (.array .int)) (w := .inr q2) X dc_M_init_17 hI zq_M_13 rfl (by decide) rfl rfl ?_
  refine zn_aload_n X dc_M_init_20 rfl rfl ?_
  refine zn_sipush (x := 160) X dc_M_init_21 (by decide) ?_
  refine zn_newa (t := 1) (N := 160) (ty := .char) X dc_M_init_24 rfl (ze_mem (List.mem_of_getElem? (i := 130) (by decide +kernel)) rfl) rfl (fun _ h => h) (fun _ => rfl) (by decide) (by decide) (by decide) (by decide) (by decide) (fun q3 => ?_)
  refine zn_putF (k0 := 0) (ty := (.array .char)) (w := .inr q3) X dc_M_init_26 hI zq_M_17 rfl (by decide) rfl rfl ?_
  refine zn_aload_n X dc_M_init_29 rfl rfl ?_
  refine zn_iconst (x := 4) X dc_M_init_30 (by decide) ?_
  refine zn_newa (t := 0) (N := 4) (ty := .int) X dc_M_init_31 rfl (ze_mem (List.mem_of_getElem? (i := 129) (by decide +kernel)) rfl) rfl (fun _ h => h) (fun _ => rfl) (by decide) (by decide) (by decide) (by decide) (by decide) (fun q4 => ?_)
  refine zn_putF (k0 := 0) (ty := (.array .int)) (w := .inr q4) X dc_M_init_33 hI zq_M_20 rfl (by decide) rfl rfl ?_
  refine zn_aload_n X dc_M_init_36 rfl rfl ?_
  refine zn_iconst (x := 4) X dc_M_init_37 (by decide) ?_
  refine zn_newa (t := 0) (N := 4) (ty := .int) X dc_M_init_38 rfl (ze_mem (List.mem_of_getElem? (i := 129) (by decide +kernel)) rfl) rfl (fun _ h => h) (fun _ => rfl) (by decide) (by decide) (by decide) (by decide) (by decide) (fun q5 => ?_)
  refine zn_putF (k0 := 0) (ty := (.array .int)) (w := .inr q5) X dc_M_init_40 hI zq_M_23 rfl (by decide) rfl rfl ?_
  refine zn_aload_n X dc_M_init_43 rfl rfl ?_
  refine zn_iconst (x := 4) X dc_M_init_44 (by decide) ?_
  refine zn_newa (t := 0) (N := 4) (ty := .int) X dc_M_init_45 rfl (ze_mem (List.mem_of_getElem? (i := 129) (by decide +kernel)) rfl) rfl (fun _ h => h) (fun _ => rfl) (by decide) (by decide) (by decide) (by decide) (by decide) (fun q6 => ?_)
  refine zn_putF (k0 := 0) (ty := (.array .int)) (w := .inr q6) X dc_M_init_47 hI zq_M_26 rfl (by decide) rfl rfl ?_
  refine zn_aload_n X dc_M_init_50 rfl rfl ?_
  refine zn_iconst (x := 4) X dc_M_init_51 (by decide) ?_
  refine zn_newa (t := 0) (N := 4) (ty := .int) X dc_M_init_52 rfl (ze_mem (List.mem_of_getElem? (i := 129) (by decide +kernel)) rfl) rfl (fun _ h => h) (fun _ => rfl) (by decide) (by decide) (by decide) (by decide) (by decide) (fun q7 => ?_)
  refine zn_putF (k0 := 0) (ty := (.array .int)) (w := .inr q7) X dc_M_init_54 hI zq_M_29 rfl (by decide) rfl rfl ?_
  refine zn_aload_n X dc_M_init_57 rfl rfl ?_
  refine zn_iconst (x := 4) X dc_M_init_58 (by decide) ?_
  refine zn_newa (t := 0) (N := 4) (ty := .int) X dc_M_init_59 rfl (ze_mem (List.mem_of_getElem? (i := 129) (by decide +kernel)) rfl) rfl (fun _ h => h) (fun _ => rfl) (by decide) (by decide) (by decide) (by decide) (by decide) (fun q8 => ?_)
  refine zn_putF (k0 := 0) (ty := (.array .int)) (w := .inr q8) X dc_M_init_61 hI zq_M_32 rfl (by decide) rfl rfl ?_
  refine zn_aload_n X dc_M_init_64 rfl rfl ?_
  refine zn_iconst (x := 4) X dc_M_init_65 (by decide) ?_
  refine zn_newa (t := 2) (N := 4) (ty := .boolean) X dc_M_init_66 rfl (ze_mem (List.mem_of_getElem? (i := 180) (by decide +kernel)) rfl) rfl (fun _ h => h) (fun _ => rfl) (by decide) (by decide) (by decide) (by decide) (by decide) (fun q9 => ?_)
  refine zn_putF (k0 := 0) (ty := (.array .boolean)) (w := .inr q9) X dc_M_init_68 hI zq_M_35 rfl (by decide) rfl rfl ?_
  refine zn_aload_n X dc_M_init_71 rfl rfl ?_
  refine zn_iconst (x := 4) X dc_M_init_72 (by decide) ?_
  refine zn_newa (t := 2) (N := 4) (ty := .boolean) X dc_M_init_73 rfl (ze_mem (List.mem_of_getElem? (i := 180) (by decide +kernel)) rfl) rfl (fun _ h => h) (fun _ => rfl) (by decide) (by decide) (by decide) (by decide) (by decide) (fun q10 => ?_)
  refine zn_putF (k0 := 0) (ty := (.array .boolean)) (w := .inr q10) X dc_M_init_75 hI zq_M_39 rfl (by decide) rfl rfl ?_
  refine zn_aload_n X dc_M_init_78 rfl rfl ?_
  refine zn_iconst (x := 4) X dc_M_init_79 (by decide) ?_
  refine zn_newa (t := 0) (N := 4) (ty := .int) X dc_M_init_80 rfl (ze_mem (List.mem_of_getElem? (i := 129) (by decide +kernel)) rfl) rfl (fun _ h => h) (fun _ => rfl) (by decide) (by decide) (by decide) (by decide) (by decide) (fun q11 => ?_)
  refine zn_putF (k0 := 0) (ty := (.array .int)) (w := .inr q11) X dc_M_init_82 hI zq_M_42 rfl (by decide) rfl rfl ?_
  refine zn_aload_n X dc_M_init_85 rfl rfl ?_
  refine zn_iconst (x := 4) X dc_M_init_86 (by decide) ?_
  refine zn_newa (t := 0) (N := 4) (ty := .int) X dc_M_init_87 rfl (ze_mem (List.mem_of_getElem? (i := 129) (by decide +kernel)) rfl) rfl (fun _ h => h) (fun _ => rfl) (by decide) (by decide) (by decide) (by decide) (by decide) (fun q12 => ?_)
  refine zn_putF (k0 := 0) (ty := (.array .int)) (w := .inr q12) X dc_M_init_89 hI zq_M_45 rfl (by decide) rfl rfl ?_
  refine zn_aload_n X dc_M_init_92 rfl rfl ?_
  refine zn_iconst (x := 5) X dc_M_init_93 (by decide) ?_
  refine zn_newa (t := 0) (N := 5) (ty := .int) X dc_M_init_94 rfl (ze_mem (List.mem_of_getElem? (i := 129) (by decide +kernel)) rfl) rfl (fun _ h => h) (fun _ => rfl) (by decide) (by decide) (by decide) (by decide) (by decide) (fun q13 => ?_)
  refine zn_putF (k0 := 0) (ty := (.array .int)) (w := .inr q13) X dc_M_init_96 hI zq_M_48 rfl (by decide) rfl rfl ?_
  refine zn_aload_n X dc_M_init_99 rfl rfl ?_
  refine zn_bipush (x := 40) X dc_M_init_100 (by decide) ?_
  refine zn_newa (t := 0) (N := 40) (ty := .int) X dc_M_init_102 rfl (ze_mem (List.mem_of_getElem? (i := 129) (by decide +kernel)) rfl) rfl (fun _ h => h) (fun _ => rfl) (by decide) (by decide) (by decide) (by decide) (by decide) (fun q14 => ?_)
  refine zn_putF (k0 := 0) (ty := (.array .int)) (w := .inr q14) X dc_M_init_104 hI zq_M_51 rfl (by decide) rfl rfl ?_
  refine zn_aload_n X dc_M_init_107 rfl rfl ?_
  refine zn_bipush (x := 40) X dc_M_init_108 (by decide) ?_
  refine zn_newa (t := 0) (N := 40) (ty := .int) X dc_M_init_110 rfl (ze_mem (List.mem_of_getElem? (i := 129) (by decide +kernel)) rfl) rfl (fun _ h => h) (fun _ => rfl) (by decide) (by decide) (by decide) (by decide) (by decide) (fun q15 => ?_)
  refine zn_putF (k0 := 0) (ty := (.array .int)) (w := .inr q15) X dc_M_init_112 hI zq_M_54 rfl (by decide) rfl rfl ?_
  refine zn_aload_n X dc_M_init_115 rfl rfl ?_
  refine zn_bipush (x := 8) X dc_M_init_116 (by decide) ?_
  refine zn_newa (t := 0) (N := 8) (ty := .int) X dc_M_init_118 rfl (ze_mem (List.mem_of_getElem? (i := 129) (by decide +kernel)) rfl) rfl (fun _ h => h) (fun _ => rfl) (by decide) (by decide) (by decide) (by decide) (by decide) (fun q16 => ?_)
  refine zn_putF (k0 := 0) (ty := (.array .int)) (w := .inr q16) X dc_M_init_120 hI zq_M_57 rfl (by decide) rfl rfl ?_
  refine zn_aload_n X dc_M_init_123 rfl rfl ?_
  refine zn_bipush (x := 8) X dc_M_init_124 (by decide) ?_
  refine zn_newa (t := 0) (N := 8) (ty := .int) X dc_M_init_126 rfl (ze_mem (List.mem_of_getElem? (i := 129) (by decide +kernel)) rfl) rfl (fun _ h => h) (fun _ => rfl) (by decide) (by decide) (by decide) (by decide) (by decide) (fun q17 => ?_)
  refine zn_putF (k0 := 0) (ty := (.array .int)) (w := .inr q17) X dc_M_init_128 hI zq_M_60 rfl (by decide) rfl rfl ?_
  refine zn_aload_n X dc_M_init_131 rfl rfl ?_
  refine zn_bipush (x := 8) X dc_M_init_132 (by decide) ?_
  refine zn_newa (t := 0) (N := 8) (ty := .int) X dc_M_init_134 rfl (ze_mem (List.mem_of_getElem? (i := 129) (by decide +kernel)) rfl) rfl (fun _ h => h) (fun _ => rfl) (by decide) (by decide) (by decide) (by decide) (by decide) (fun q18 => ?_)
  refine zn_putF (k0 := 0) (ty := (.array .int)) (w := .inr q18) X dc_M_init_136 hI zq_M_63 rfl (by decide) rfl rfl ?_
  refine zn_aload_n X dc_M_init_139 rfl rfl ?_
  refine zn_bipush (x := 120) X dc_M_init_140 (by decide) ?_
  refine zn_newa (t := 0) (N := 120) (ty := .int) X dc_M_init_142 rfl (ze_mem (List.mem_of_getElem? (i := 129) (by decide +kernel)) rfl) rfl (fun _ h => h) (fun _ => rfl) (by decide) (by decide) (by decide) (by decide) (by decide) (fun q19 => ?_)
  refine zn_putF (k0 := 0) (ty := (.array .int)) (w := .inr q19) X dc_M_init_144 hI zq_M_66 rfl (by decide) rfl rfl ?_
  refine zn_aload_n X dc_M_init_147 rfl rfl ?_
  refine zn_bipush (x := 120) X dc_M_init_148 (by decide) ?_
  refine zn_newa (t := 0) (N := 120) (ty := .int) X dc_M_init_150 rfl (ze_mem (List.mem_of_getElem? (i := 129) (by decide +kernel)) rfl) rfl (fun _ h => h) (fun _ => rfl) (by decide) (by decide) (by decide) (by decide) (by decide) (fun q20 => ?_)
  refine zn_putF (k0 := 0) (ty := (.array .int)) (w := .inr q20) X dc_M_init_152 hI zq_M_69 rfl (by decide) rfl rfl ?_
  refine zn_aload_n X dc_M_init_155 rfl rfl ?_
  refine zn_bipush (x := 120) X dc_M_init_156 (by decide) ?_
  refine zn_newa (t := 0) (N := 120) (ty := .int) X dc_M_init_158 rfl (ze_mem (List.mem_of_getElem? (i := 129) (by decide +kernel)) rfl) rfl (fun _ h => h) (fun _ => rfl) (by decide) (by decide) (by decide) (by decide) (by decide) (fun q21 => ?_)
  refine zn_putF (k0 := 0) (ty := (.array .int)) (w := .inr q21) X dc_M_init_160 hI zq_M_72 rfl (by decide) rfl rfl ?_
  refine zn_aload_n X dc_M_init_163 rfl rfl ?_
  refine zn_bipush (x := 120) X dc_M_init_164 (by decide) ?_
  refine zn_newa (t := 0) (N := 120) (ty := .int) X dc_M_init_166 rfl (ze_mem (List.mem_of_getElem? (i := 129) (by decide +kernel)) rfl) rfl (fun _ h => h) (fun _ => rfl) (by decide) (by decide) (by decide) (by decide) (by decide) (fun q22 => ?_)
  refine zn_putF (k0 := 0) (ty := (.array .int)) (w := .inr q22) X dc_M_init_168 hI zq_M_75 rfl (by decide) rfl rfl ?_
  refine zn_aload_n X dc_M_init_171 rfl rfl ?_
  refine zn_bipush (x := 120) X dc_M_init_172 (by decide) ?_
  refine zn_newa (t := 0) (N := 120) (ty := .int) X dc_M_init_174 rfl (ze_mem (List.mem_of_getElem? (i := 129) (by decide +kernel)) rfl) rfl (fun _ h => h) (fun _ => rfl) (by decide) (by decide) (by decide) (by decide) (by decide) (fun q23 => ?_)
  refine zn_putF (k0 := 0) (ty := (.array .int)) (w := .inr q23) X dc_M_init_176 hI zq_M_78 rfl (by decide) rfl rfl ?_
  refine zn_aload_n X dc_M_init_179 rfl rfl ?_
  refine zn_bipush (x := 120) X dc_M_init_180 (by decide) ?_
  refine zn_newa (t := 0) (N := 120) (ty := .int) X dc_M_init_182 rfl (ze_mem (List.mem_of_getElem? (i := 129) (by decide +kernel)) rfl) rfl (fun _ h => h) (fun _ => rfl) (by decide) (by decide) (by decide) (by decide) (by decide) (fun q24 => ?_)
  refine zn_putF (k0 := 0) (ty := (.array .int)) (w := .inr q24) X dc_M_init_184 hI zq_M_81 rfl (by decide) rfl rfl ?_
  refine zn_aload_n X dc_M_init_187 rfl rfl ?_
  refine zn_sipush (x := 242) X dc_M_init_188 (by decide) ?_
  refine zn_newa (t := 0) (N := 242) (ty := .int) X dc_M_init_191 rfl (ze_mem (List.mem_of_getElem? (i := 129) (by decide +kernel)) rfl) rfl (fun _ h => h) (fun _ => rfl) (by decide) (by decide) (by decide) (by decide) (by decide) (fun q25 => ?_)
  refine zn_putF (k0 := 0) (ty := (.array .int)) (w := .inr q25) X dc_M_init_193 hI zq_M_84 rfl (by decide) rfl rfl ?_
  refine zn_aload_n X dc_M_init_196 rfl rfl ?_
  refine zn_sipush (x := 242) X dc_M_init_197 (by decide) ?_
  refine zn_newa (t := 0) (N := 242) (ty := .int) X dc_M_init_200 rfl (ze_mem (List.mem_of_getElem? (i := 129) (by decide +kernel)) rfl) rfl (fun _ h => h) (fun _ => rfl) (by decide) (by decide) (by decide) (by decide) (by decide) (fun q26 => ?_)
  refine zn_putF (k0 := 0) (ty := (.array .int)) (w := .inr q26) X dc_M_init_202 hI zq_M_87 rfl (by decide) rfl rfl ?_
  refine zn_aload_n X dc_M_init_205 rfl rfl ?_
  refine zn_sipush (x := 242) X dc_M_init_206 (by decide) ?_
  refine zn_newa (t := 0) (N := 242) (ty := .int) X dc_M_init_209 rfl (ze_mem (List.mem_of_getElem? (i := 129) (by decide +kernel)) rfl) rfl (fun _ h => h) (fun _ => rfl) (by decide) (by decide) (by decide) (by decide) (by decide) (fun q27 => ?_)
  refine zn_putF (k0 := 0) (ty := (.array .int)) (w := .inr q27) X dc_M_init_211 hI zq_M_90 rfl (by decide) rfl rfl ?_
  refine zn_aload_n X dc_M_init_214 rfl rfl ?_
  refine zn_sipush (x := 640) X dc_M_init_215 (by decide) ?_
  refine zn_newa (t := 0) (N := 640) (ty := .int) X dc_M_init_218 rfl (ze_mem (List.mem_of_getElem? (i := 129) (by decide +kernel)) rfl) rfl (fun _ h => h) (fun _ => rfl) (by decide) (by decide) (by decide) (by decide) (by decide) (fun q28 => ?_)
  refine zn_putF (k0 := 0) (ty := (.array .int)) (w := .inr q28) X dc_M_init_220 hI zq_M_93 rfl (by decide) rfl rfl ?_
  refine zn_aload_n X dc_M_init_223 rfl rfl ?_
  refine zn_sipush (x := 160) X dc_M_init_224 (by decide) ?_
  refine zn_newa (t := 0) (N := 160) (ty := .int) X dc_M_init_227 rfl (ze_mem (List.mem_of_getElem? (i := 129) (by decide +kernel)) rfl) rfl (fun _ h => h) (fun _ => rfl) (by decide) (by decide) (by decide) (by decide) (by decide) (fun q29 => ?_)
  refine zn_putF (k0 := 0) (ty := (.array .int)) (w := .inr q29) X dc_M_init_229 hI zq_M_96 rfl (by decide) rfl rfl ?_
  refine zn_aload_n X dc_M_init_232 rfl rfl ?_
  refine zn_sipush (x := 420) X dc_M_init_233 (by decide) ?_
  refine zn_newa (t := 0) (N := 420) (ty := .int) X dc_M_init_236 rfl (ze_mem (List.mem_of_getElem? (i := 129) (by decide +kernel)) rfl) rfl (fun _ h => h) (fun _ => rfl) (by decide) (by decide) (by decide) (by decide) (by decide) (fun q30 => ?_)
  refine zn_putF (k0 := 0) (ty := (.array .int)) (w := .inr q30) X dc_M_init_238 hI zq_M_99 rfl (by decide) rfl rfl ?_
  refine zn_aload_n X dc_M_init_241 rfl rfl ?_
  refine zn_sipush (x := 420) X dc_M_init_242 (by decide) ?_
  refine zn_newa (t := 0) (N := 420) (ty := .int) X dc_M_init_245 rfl (ze_mem (List.mem_of_getElem? (i := 129) (by decide +kernel)) rfl) rfl (fun _ h => h) (fun _ => rfl) (by decide) (by decide) (by decide) (by decide) (by decide) (fun q31 => ?_)
  refine zn_putF (k0 := 0) (ty := (.array .int)) (w := .inr q31) X dc_M_init_247 hI zq_M_102 rfl (by decide) rfl rfl ?_
  refine zn_aload_n X dc_M_init_250 rfl rfl ?_
  refine zn_sipush (x := 420) X dc_M_init_251 (by decide) ?_
  refine zn_newa (t := 0) (N := 420) (ty := .int) X dc_M_init_254 rfl (ze_mem (List.mem_of_getElem? (i := 129) (by decide +kernel)) rfl) rfl (fun _ h => h) (fun _ => rfl) (by decide) (by decide) (by decide) (by decide) (by decide) (fun q32 => ?_)
  refine zn_putF (k0 := 0) (ty := (.array .int)) (w := .inr q32) X dc_M_init_256 hI zq_M_105 rfl (by decide) rfl rfl ?_
  refine zn_aload_n X dc_M_init_259 rfl rfl ?_
  refine zn_bipush (x := 16) X dc_M_init_260 (by decide) ?_
  refine zn_newa (t := 0) (N := 16) (ty := .int) X dc_M_init_262 rfl (ze_mem (List.mem_of_getElem? (i := 129) (by decide +kernel)) rfl) rfl (fun _ h => h) (fun _ => rfl) (by decide) (by decide) (by decide) (by decide) (by decide) (fun q33 => ?_)
  refine zn_putF (k0 := 0) (ty := (.array .int)) (w := .inr q33) X dc_M_init_264 hI zq_M_108 rfl (by decide) rfl rfl ?_
  refine zn_aload_n X dc_M_init_267 rfl rfl ?_
  refine zn_bipush (x := 16) X dc_M_init_268 (by decide) ?_
  refine zn_newa (t := 0) (N := 16) (ty := .int) X dc_M_init_270 rfl (ze_mem (List.mem_of_getElem? (i := 129) (by decide +kernel)) rfl) rfl (fun _ h => h) (fun _ => rfl) (by decide) (by decide) (by decide) (by decide) (by decide) (fun q34 => ?_)
  refine zn_putF (k0 := 0) (ty := (.array .int)) (w := .inr q34) X dc_M_init_272 hI zq_M_111 rfl (by decide) rfl rfl ?_
  refine zn_aload_n X dc_M_init_275 rfl rfl ?_
  refine zn_bipush (x := 16) X dc_M_init_276 (by decide) ?_
  refine zn_newa (t := 0) (N := 16) (ty := .int) X dc_M_init_278 rfl (ze_mem (List.mem_of_getElem? (i := 129) (by decide +kernel)) rfl) rfl (fun _ h => h) (fun _ => rfl) (by decide) (by decide) (by decide) (by decide) (by decide) (fun q35 => ?_)
  refine zn_putF (k0 := 0) (ty := (.array .int)) (w := .inr q35) X dc_M_init_280 hI zq_M_114 rfl (by decide) rfl rfl ?_
  refine zn_aload_n X dc_M_init_283 rfl rfl ?_
  refine zn_bipush (x := 20) X dc_M_init_284 (by decide) ?_
  refine zn_newa (t := 0) (N := 20) (ty := .int) X dc_M_init_286 rfl (ze_mem (List.mem_of_getElem? (i := 129) (by decide +kernel)) rfl) rfl (fun _ h => h) (fun _ => rfl) (by decide) (by decide) (by decide) (by decide) (by decide) (fun q36 => ?_)
  refine zn_putF (k0 := 0) (ty := (.array .int)) (w := .inr q36) X dc_M_init_288 hI zq_M_117 rfl (by decide) rfl rfl ?_
  refine zn_aload_n X dc_M_init_291 rfl rfl ?_
  refine zn_bipush (x := 20) X dc_M_init_292 (by decide) ?_
  refine zn_newa (t := 0) (N := 20) (ty := .int) X dc_M_init_294 rfl (ze_mem (List.mem_of_getElem? (i := 129) (by decide +kernel)) rfl) rfl (fun _ h => h) (fun _ => rfl) (by decide) (by decide) (by decide) (by decide) (by decide) (fun q37 => ?_)
  refine zn_putF (k0 := 0) (ty := (.array .int)) (w := .inr q37) X dc_M_init_296 hI zq_M_120 rfl (by decide) rfl rfl ?_
  refine zn_aload_n X dc_M_init_299 rfl rfl ?_
  refine zn_bipush (x := 20) X dc_M_init_300 (by decide) ?_
  refine zn_newa (t := 0) (N := 20) (ty := .int) X dc_M_init_302 rfl (ze_mem (List.mem_of_getElem? (i := 129) (by decide +kernel)) rfl) rfl (fun _ h => h) (fun _ => rfl) (by decide) (by decide) (by decide) (by decide) (by decide) (fun q38 => ?_)
  refine zn_putF (k0 := 0) (ty := (.array .int)) (w := .inr q38) X dc_M_init_304 hI zq_M_123 rfl (by decide) rfl rfl ?_
  refine zn_aload_n X dc_M_init_307 rfl rfl ?_
  refine zn_bipush (x := 20) X dc_M_init_308 (by decide) ?_
  refine zn_newa (t := 0) (N := 20) (ty := .int) X dc_M_init_310 rfl (ze_mem (List.mem_of_getElem? (i := 129) (by decide +kernel)) rfl) rfl (fun _ h => h) (fun _ => rfl) (by decide) (by decide) (by decide) (by decide) (by decide) (fun q39 => ?_)
  refine zn_putF (k0 := 0) (ty := (.array .int)) (w := .inr q39) X dc_M_init_312 hI zq_M_126 rfl (by decide) rfl rfl ?_
  refine zn_aload_n X dc_M_init_315 rfl rfl ?_
  refine zn_bipush (x := 20) X dc_M_init_316 (by decide) ?_
  refine zn_newa (t := 0) (N := 20) (ty := .int) X dc_M_init_318 rfl (ze_mem (List.mem_of_getElem? (i := 129) (by decide +kernel)) rfl) rfl (fun _ h => h) (fun _ => rfl) (by decide) (by decide) (by decide) (by decide) (by decide) (fun q40 => ?_)
  refine zn_putF (k0 := 0) (ty := (.array .int)) (w := .inr q40) X dc_M_init_320 hI zq_M_129 rfl (by decide) rfl rfl ?_
  refine zn_aload_n X dc_M_init_323 rfl rfl ?_
  refine zn_bipush (x := 20) X dc_M_init_324 (by decide) ?_
  refine zn_newa (t := 0) (N := 20) (ty := .int) X dc_M_init_326 rfl (ze_mem (List.mem_of_getElem? (i := 129) (by decide +kernel)) rfl) rfl (fun _ h => h) (fun _ => rfl) (by decide) (by decide) (by decide) (by decide) (by decide) (fun q41 => ?_)
  refine zn_putF (k0 := 0) (ty := (.array .int)) (w := .inr q41) X dc_M_init_328 hI zq_M_132 rfl (by decide) rfl rfl ?_
  refine zn_aload_n X dc_M_init_331 rfl rfl ?_
  refine zn_bipush (x := 20) X dc_M_init_332 (by decide) ?_
  refine zn_newa (t := 0) (N := 20) (ty := .int) X dc_M_init_334 rfl (ze_mem (List.mem_of_getElem? (i := 129) (by decide +kernel)) rfl) rfl (fun _ h => h) (fun _ => rfl) (by decide) (by decide) (by decide) (by decide) (by decide) (fun q42 => ?_)
  refine zn_putF (k0 := 0) (ty := (.array .int)) (w := .inr q42) X dc_M_init_336 hI zq_M_135 rfl (by decide) rfl rfl ?_
  refine zn_aload_n X dc_M_init_339 rfl rfl ?_
  refine zn_bipush (x := 20) X dc_M_init_340 (by decide) ?_
  refine zn_newa (t := 0) (N := 20) (ty := .int) X dc_M_init_342 rfl (ze_mem (List.mem_of_getElem? (i := 129) (by decide +kernel)) rfl) rfl (fun _ h => h) (fun _ => rfl) (by decide) (by decide) (by decide) (by decide) (by decide) (fun q43 => ?_)
  refine zn_putF (k0 := 0) (ty := (.array .int)) (w := .inr q43) X dc_M_init_344 hI zq_M_138 rfl (by decide) rfl rfl ?_
  refine zn_aload_n X dc_M_init_347 rfl rfl ?_
  refine zn_bipush (x := 8) X dc_M_init_348 (by decide) ?_
  refine zn_newa (t := 0) (N := 8) (ty := .int) X dc_M_init_350 rfl (ze_mem (List.mem_of_getElem? (i := 129) (by decide +kernel)) rfl) rfl (fun _ h => h) (fun _ => rfl) (by decide) (by decide) (by decide) (by decide) (by decide) (fun q44 => ?_)
  refine zn_putF (k0 := 0) (ty := (.array .int)) (w := .inr q44) X dc_M_init_352 hI zq_M_141 rfl (by decide) rfl rfl ?_
  exact zn_vret X Y (fun j => [h0, q1, q2, q3, q4, q5, q6, q7, q8, q9, q10, q11, q12, q13, q14, q15, q16, q17, q18, q19, q20, q21, q22, q23, q24, q25, q26, q27, q28, q29, q30, q31, q32, q33, q34, q35, q36, q37, q38, q39, q40, q41, q42, q43, q44].getD j 0) dc_M_init_355 rfl
