abbrev zn_ao : List String := ["RouteEngine$Endpoint", "RouteEngine$Exchange"]
abbrev zn_nw : List (String × Nat × MethodName × String) := [(cn_E, 15, my_P_init, "RouteEngine"), (cn_E, 34, my_C_init, "RouteEngine"), (cn_E, 45, my_N_init, "RouteEngine"), (cn_E, 60, my_G_init, "RouteEngine"), (cn_E, 67, my_K_init, "RouteEngine"), (cn_E, 78, my_H_init, "RouteEngine")]
/-! CONSTRUCTORS: a world that grows; addresses are names -/
def zn_T (G : ze_G) (A : Nat → Prop) (ws : va_W) (cs sl pc : Nat) (L : List (Option ze_V)) (st : List ze_V) : Prop :=
  ∀ (H : Heap) (locs : List Loc) (ls : Array Slot), va_P (ze_D G) ze_cl ws H → va_D A ws → va_S A (ze_h0 G) H locs → ze_has (fun q => q) (ze_c G).maxLocals L ls →
    W G.1.1 G.1.2.1 G.1.2.2.1 G.1.2.2.2 G.2.1.1 G.2.1.2.1 G.2.1.2.2.1 G.2.1.2.2.2 G.2.2.1.1 G.2.2.1.2.1 H locs cs sl G.2.2.2.2.1.2.2 (F0 (ze_m G) pc ls (st.map (ze_val (fun q => q))))
/-- links to private constructors of nest mates -/
def zn_N (U : State) : Prop := (∀ q ∈ zn_nw, va_Nw (.methodLinkNest q.1 q.2.1 q.2.2.1 q.2.2.2) U) ∧ ∀ C ∈ zn_ao, va_AO C U
theorem zn_N.warm {s U : State} (hW : s.WarmedH U.vm) (h : zn_N s) : zn_N U := ⟨fun q hq => va_Nw.warmM hW (h.1 q hq), fun C hC => va_AO.moved hW.alike (h.2 C hC)⟩
theorem zn_N.blind {U : State} {g : JFrame} {mk : MethodId} {a : Array Value} (h : zn_N U) : zn_N (U.calling g mk a) := ⟨fun q hq => va_Nw.same rfl rfl (h.1 q hq), fun C hC => va_AO.moved (u := U) (U := U.calling g mk a) (Vm.Alike.refl U.vm) (h.2 C hC)⟩
def zn_X (G : ze_G) (A : Nat → Prop) (cc : ByteArray) (own : String) (nL fr lo mc ms : Nat) : Prop :=
  G.1.1.tables.exec = Jvm.exec ∧ (ze_c G).code = cc ∧ (ze_s G).vm.findClass own = some (ze_m G).cls ∧ (∀ w ∈ ze_tbl, w.before (ze_ar G) (ze_s G) = true) ∧ (ze_c G).maxLocals = nL ∧
  va_K (ze_D G) ze_cl (ze_tys (ze_ca G)) (ze_s G) ∧ (∀ q, (ze_h0 G).size ≤ q → A q) ∧ fr ≤ (ze_R G).frames ∧ lo ≤ (ze_R G).locals ∧ mc ≤ (ze_R G).cells ∧ ms ≤ (ze_R G).slots ∧ zn_N (ze_s G)
theorem zn_rng (ws : va_W) (x : Nat × va_E) : (List.range ws.length).map (fun i => (ws ++ [x])[i]?) = ws.map some := by
  apply List.ext_getElem?
  intro j
  by_cases h : j < ws.length
  · simp [h, List.getElem?_append_left h]
  · have h2 : ws.length ≤ j := by omega
    simp [h2]
theorem zn_ndR : ∀ (l : List Nat), l.Nodup → va_nd l = true
  | [], _ => rfl
  | a :: r, h => by
    have h1 := List.nodup_cons.mp h
    simp only [va_nd, zn_ndR r h1.2]
    simp [h1.1]
theorem zn_nd (n : Nat) : va_nd (List.range n) = true := zn_ndR _ List.nodup_range
section ZN
variable {G : ze_G} {A : Nat → Prop} {cc : ByteArray} {own : String} {nL fr lo mc ms : Nat} {ws : va_W} {cs sl pc : Nat} {L : List (Option ze_V)} {st : List ze_V}
theorem zn_iconst (X : zn_X G A cc own nL fr lo mc ms) {n : Int} {x : Int32} (d : decode cc pc = .ok (.iconst n, 1)) (hv : Int32.ofInt n = x) (k : zn_T G A ws cs sl (pc + 1) L (.inl x :: st)) : zn_T G A ws cs sl pc L (st) := fun H locs ls hP hD hS hl => lv_iconst X.1 X.2.1 d hv (k H locs ls hP hD hS hl)
theorem zn_bipush (X : zn_X G A cc own nL fr lo mc ms) {n : Int} {x : Int32} (d : decode cc pc = .ok (.bipush n, 2)) (hv : (Int8.ofInt n).toInt32 = x) (k : zn_T G A ws cs sl (pc + 2) L (.inl x :: st)) : zn_T G A ws cs sl pc L (st) := fun H locs ls hP hD hS hl => lv_bipush X.1 X.2.1 d hv (k H locs ls hP hD hS hl)
theorem zn_sipush (X : zn_X G A cc own nL fr lo mc ms) {n : Int} {x : Int32} (d : decode cc pc = .ok (.sipush n, 3)) (hv : (Int16.ofInt n).toInt32 = x) (k : zn_T G A ws cs sl (pc + 3) L (.inl x :: st)) : zn_T G A ws cs sl pc L (st) := fun H locs ls hP hD hS hl => lv_sipush X.1 X.2.1 d hv (k H locs ls hP hD hS hl)
theorem zn_iload_n (X : zn_X G A cc own nL fr lo mc ms) {j : Fin 4} {i : Nat} {x : Int32} (d : decode cc pc = .ok (.iload_n j, 1)) (hi : (j : Nat) = i) (hL : L[i]? = some (some (.inl x))) (k : zn_T G A ws cs sl (pc + 1) L (.inl x :: st)) : zn_T G A ws cs sl pc L (st) := fun H locs ls hP hD hS hl => lv_iload_n X.1 X.2.1 d hi (hl.2.2 i _ hL) (k H locs ls hP hD hS hl)
theorem zn_aload_n (X : zn_X G A cc own nL fr lo mc ms) {j : Fin 4} {i x : Nat} (d : decode cc pc = .ok (.aload_n j, 1)) (hi : (j : Nat) = i) (hL : L[i]? = some (some (.inr x))) (k : zn_T G A ws cs sl (pc + 1) L (.inr x :: st)) : zn_T G A ws cs sl pc L (st) := fun H locs ls hP hD hS hl => lv_aload_n X.1 X.2.1 d hi (hl.2.2 i _ hL) (k H locs ls hP hD hS hl)
theorem zn_dup (X : zn_X G A cc own nL fr lo mc ms) {a : ze_V} (d : decode cc pc = .ok (.dup, 1)) (k : zn_T G A ws cs sl (pc + 1) L (a :: a :: st)) : zn_T G A ws cs sl pc L (a :: st) := fun H locs ls hP hD hS hl => lv_dup X.1 X.2.1 d (ze_val_cat _ a) (k H locs ls hP hD hS hl)
theorem zn_goto (X : zn_X G A cc own nL fr lo mc ms) {off : Int} {tgt : Nat} (d : decode cc pc = .ok (.goto off, 3)) (hq : (pc : Int) + off = (tgt : Int)) (k : zn_T G A ws cs sl tgt L (st)) : zn_T G A ws cs sl pc L (st) := fun H locs ls hP hD hS hl => lv_goto X.1 X.2.1 d hq (k H locs ls hP hD hS hl)
theorem zn_imul (X : zn_X G A cc own nL fr lo mc ms) {x y : Int32} (d : decode cc pc = .ok (.imul, 1)) (k : zn_T G A ws cs sl (pc + 1) L (.inl (x * y) :: st)) : zn_T G A ws cs sl pc L (.inl y :: .inl x :: st) := fun H locs ls hP hD hS hl => lv_imul X.1 X.2.1 d (k H locs ls hP hD hS hl)
theorem zn_icmp_geT (X : zn_X G A cc own nL fr lo mc ms) {x y : Int32} {off : Int} {tgt : Nat} (d : decode cc pc = .ok (.if_icmp .ge off, 3)) (hq : (pc : Int) + off = (tgt : Int)) (hc : y ≤ x) (k : zn_T G A ws cs sl tgt L st) : zn_T G A ws cs sl pc L (.inl y :: .inl x :: st) := fun H locs ls hP hD hS hl => lv_icmp_ge X.1 X.2.1 d hq (fun _ => (k H locs ls hP hD hS hl)) (fun h => absurd hc h)
theorem zn_icmp_geF (X : zn_X G A cc own nL fr lo mc ms) {x y : Int32} {off : Int} {tgt : Nat} (d : decode cc pc = .ok (.if_icmp .ge off, 3)) (hq : (pc : Int) + off = (tgt : Int)) (hc : ¬ y ≤ x) (k : zn_T G A ws cs sl (pc + 3) L st) : zn_T G A ws cs sl pc L (.inl y :: .inl x :: st) := fun H locs ls hP hD hS hl => lv_icmp_ge X.1 X.2.1 d hq (fun h => absurd h hc) (fun _ => (k H locs ls hP hD hS hl))
theorem zn_icmp_gtT (X : zn_X G A cc own nL fr lo mc ms) {x y : Int32} {off : Int} {tgt : Nat} (d : decode cc pc = .ok (.if_icmp .gt off, 3)) (hq : (pc : Int) + off = (tgt : Int)) (hc : y < x) (k : zn_T G A ws cs sl tgt L st) : zn_T G A ws cs sl pc L (.inl y :: .inl x :: st) := fun H locs ls hP hD hS hl => lv_icmp_gt X.1 X.2.1 d hq (fun _ => (k H locs ls hP hD hS hl)) (fun h => absurd hc h)
theorem zn_icmp_gtF (X : zn_X G A cc own nL fr lo mc ms) {x y : Int32} {off : Int} {tgt : Nat} (d : decode cc pc = .ok (.if_icmp .gt off, 3)) (hq : (pc : Int) + off = (tgt : Int)) (hc : ¬ y < x) (k : zn_T G A ws cs sl (pc + 3) L st) : zn_T G A ws cs sl pc L (.inl y :: .inl x :: st) := fun H locs ls hP hD hS hl => lv_icmp_gt X.1 X.2.1 d hq (fun h => absurd h hc) (fun _ => (k H locs ls hP hD hS hl))
theorem zn_istore_n (X : zn_X G A cc own nL fr lo mc ms) {j : Fin 4} {i : Nat} {x : Int32} (d : decode cc pc = .ok (.istore_n j, 1)) (hi : (j : Nat) = i) (hn : i < nL) (k : zn_T G A ws cs sl (pc + 1) (L.set i (some (.inl x))) st) : zn_T G A ws cs sl pc L (.inl x :: st) := fun H locs ls hP hD hS hl => lv_istore_n X.1 X.2.1 d hi hl.lv (by rw [X.2.2.2.2.1]; exact hn) rfl (fun ls1 hl1 => k H locs ls1 hP hD hS (ze_has.st hl1))
theorem zn_astore_n (X : zn_X G A cc own nL fr lo mc ms) {j : Fin 4} {i x : Nat} (d : decode cc pc = .ok (.astore_n j, 1)) (hi : (j : Nat) = i) (hn : i < nL) (k : zn_T G A ws cs sl (pc + 1) (L.set i (some (.inr x))) st) : zn_T G A ws cs sl pc L (.inr x :: st) := fun H locs ls hP hD hS hl => lv_astore_n X.1 X.2.1 d hi hl.lv (by rw [X.2.2.2.2.1]; exact hn) rfl (fun ls1 hl1 => k H locs ls1 hP hD hS (ze_has.st (w := .inr x) hl1))
theorem zn_iinc (X : zn_X G A cc own nL fr lo mc ms) {i : Nat} {n : Int} {x y : Int32} (d : decode cc pc = .ok (.iinc i n, 3)) (hL : L[i]? = some (some (.inl x))) (hv : x + Int32.ofInt n = y) (hn : i < nL) (k : zn_T G A ws cs sl (pc + 3) (L.set i (some (.inl y))) st) : zn_T G A ws cs sl pc L st := fun H locs ls hP hD hS hl => by
  obtain ⟨q, hq⟩ := ze_as_get (ad := fun q => q) hL
  exact lv_iinc X.1 X.2.1 d hl.lv hq hv (by rw [X.2.2.2.2.1]; exact hn) rfl (fun ls1 hl1 => k H locs ls1 hP hD hS (ze_has.st hl1))
theorem zn_eq {ws1 : va_W} (h : ws = ws1) (k : zn_T G A ws1 cs sl pc L st) : zn_T G A ws cs sl pc L st := h ▸ k
theorem zn_num {c1 s1 : Nat} (h1 : cs = c1) (h2 : sl = s1) (k : zn_T G A ws c1 s1 pc L st) : zn_T G A ws cs sl pc L st := h1 ▸ h2 ▸ k
theorem zn_obj (X : zn_X G A cc own nL fr lo mc ms) {ix x : Nat} (d : decode cc pc = .ok (.invokespecial ix, 3)) (h1 : Cond.methodLink own ix Lib.objectInit ∈ ze_tbl) (h2 : Cond.instanceMethod Lib.objectInit ∈ ze_tbl) (h3 : Cond.code Lib.objectInit ⟨#[0xb1]⟩ 1 none ∈ ze_tbl) (hfr : 1 ≤ fr) (hlo : 20 ≤ lo) (hst : st.length ≤ 8) (k : zn_T G A ws cs sl (pc + 3) L st) : zn_T G A ws cs sl pc L (.inr x :: st) := fun H locs ls hP hD hS hl => by
  refine W.objInit X.1 X.2.1 X.2.2.1 (X.2.2.2.1 _ h1) (X.2.2.2.1 _ h2) (X.2.2.2.1 _ h3) rfl hl.1 rfl d (Nat.le_trans hfr X.2.2.2.2.2.2.2.1) ?_ (k H locs ls hP hD hS hl)
  have h4 : lo ≤ G.1.2.2.2.locals := X.2.2.2.2.2.2.2.2.1
  have h5 := ze_cats (fun q => q) st
  have h6 := lv_room (m := ze_m G) (pc := pc) (ls := ls) (rest := (((.inr x : ze_V) :: st).map (ze_val (fun q => q)))) (st := st.map (ze_val (fun q => q))) (by rw [h5]; exact hst)
  omega
/-- a new object -/
theorem zn_new (X : zn_X G A cc own nL fr lo mc ms) {ix ci N : Nat} {C : String} {T : u_T} {fs : List Value} (d : decode cc pc = .ok (.new ix, 3)) (ty : Nat → FieldType) (hc : ze_cl[ci]? = some (C, T, N)) (hin : ∀ w ∈ u_ws C T N, w ∈ ze_tbl) (hty : ∀ k, k < N → parseFieldDescriptor (T k).2.2.1 = some (ty k)) (h1 : Cond.classLink own ix C ∈ ze_tbl) (h2 : Cond.instantiable C N ∈ ze_tbl) (h3 : Cond.initialized C ∈ ze_tbl) (hfs : ∀ j, j < N → defaultValue (ty j) = vp_V fs j) (hmc : cs + 1 ≤ mc) (hms : sl + N ≤ ms)
    (k : ∀ q : Nat, zn_T G A (ws ++ [(q, .inr (ci, fs))]) (cs + 1) (sl + N) (pc + 3) L (.inr q :: st)) : zn_T G A ws cs sl pc L st := fun H locs ls hP hD hS hl =>
  va_new X.1 X.2.1 X.2.2.2.1 hin ty hty X.2.2.1 (X.2.2.2.1 _ h1) (X.2.2.2.1 _ h2) (X.2.2.2.1 _ h3) X.2.2.2.2.2.1 hP hD hS X.2.2.2.2.2.2.1 hc hfs (Nat.le_trans hmc X.2.2.2.2.2.2.2.2.2.1) (Nat.le_trans hms X.2.2.2.2.2.2.2.2.2.2.1) d (fun q H1 hP1 hD1 hS1 => k q H1 locs ls hP1 hD1 hS1 hl)
/-- a new array of numbers -/
theorem zn_newa (X : zn_X G A cc own nL fr lo mc ms) {t N : Nat} {n : Int32} {at0 : ArrayType} {ty : FieldType} (d : decode cc pc = .ok (.newarray at0, 2)) (hty : newarray.typeOf at0 = ty) (hw : Cond.arrayClass ty ∈ ze_tbl) (ht0 : ze_tl[t]? = some ty) (hf : ∀ cA, va_RA (ze_s G) cA ty → (ze_s G).vm.findClass ("[" ++ ty.toString) = some cA) (hdv : ∀ cA : ClassId, vp_cell cA (N, .inl (fun _ => 0)) = arrV cA N (fun _ => defaultValue ty)) (hn : ¬ n < 0) (hN : n.toNatClampNeg = N) (hb : N * componentBytes ty ≤ 536870912) (hmc : cs + 1 ≤ mc) (hms : sl + N ≤ ms)
    (k : ∀ q : Nat, zn_T G A (ws ++ [(q, .inl (ze_ca G t, N, .inl (fun _ => 0)))]) (cs + 1) (sl + N) (pc + 2) L (.inr q :: st)) : zn_T G A ws cs sl pc L (.inl n :: st) := fun H locs ls hP hD hS hl => by
  refine va_newa (a0 := (N, .inl (fun _ => 0))) X.1 X.2.1 (by rw [hty]; exact X.2.2.2.1 _ hw) hty X.2.2.2.2.2.1 hP hD hS X.2.2.2.2.2.2.1 hdv hn hN hb (Nat.le_trans hmc X.2.2.2.2.2.2.2.2.2.1) (Nat.le_trans hms X.2.2.2.2.2.2.2.2.2.2.1) d (fun q cA H1 hK1 hP1 hD1 hS1 => ?_)
  have hcA : cA = ze_ca G t := by
    have a1 := hf _ (X.2.2.2.2.2.1.2 t _ (ze_tys_at ht0)).2
    have a2 := hf _ (hK1.2 (ze_tys (ze_ca G)).length (cA, ty) (by simp)).2
    exact Option.some.inj (a2.symm.trans a1)
  subst hcA
  exact k q H1 locs ls hP1 hD1 hS1 hl
/-- a new array of objects -/
theorem zn_newq (X : zn_X G A cc own nL fr lo mc ms) {t N ix : Nat} {C : String} {n : Int32} (d : decode cc pc = .ok (.anewarray ix, 3)) (h1 : Cond.classLink own ix C ∈ ze_tbl) (h2 : C ∈ zn_ao) (ht0 : ze_tl[t]? = some (.object C)) (hn : ¬ n < 0) (hN : n.toNatClampNeg = N) (hb : N * 4 ≤ 536870912) (hmc : cs + 1 ≤ mc) (hms : sl + N ≤ ms)
    (k : ∀ q : Nat, zn_T G A (ws ++ [(q, .inl (ze_ca G t, N, .inr (.inr (.inr (.inr (fun _ => none))))))]) (cs + 1) (sl + N) (pc + 3) L (.inr q :: st)) : zn_T G A ws cs sl pc L (.inl n :: st) := fun H locs ls hP hD hS hl => by
  refine va_newq X.1 X.2.1 X.2.2.1 (X.2.2.2.1 _ h1) (X.2.2.2.2.2.2.2.2.2.2.2.2 _ h2) X.2.2.2.2.2.1 hP hD hS X.2.2.2.2.2.2.1 hn hN hb (Nat.le_trans hmc X.2.2.2.2.2.2.2.2.2.1) (Nat.le_trans hms X.2.2.2.2.2.2.2.2.2.2.1) d (fun q cA H1 hK1 hP1 hD1 hS1 => ?_)
  have hcA : cA = ze_ca G t := by
    obtain ⟨_, _, _, _, _, a1⟩ := (X.2.2.2.2.2.1.2 t _ (ze_tys_at ht0)).2
    obtain ⟨_, _, _, _, _, a2⟩ := (hK1.2 (ze_tys (ze_ca G)).length (cA, .object C) (by simp)).2
    exact Option.some.inj (a2.symm.trans a1)
  subst hcA
  exact k q H1 locs ls hP1 hD1 hS1 hl
/-- fields: the words of a write -/
def zn_F (own : String) (ix ci f : Nat) (fin : Bool) (ty : FieldType) : Prop := ∃ (C : String) (T : u_T) (N : Nat) (tf : Nat → FieldType), ze_cl[ci]? = some (C, T, N) ∧ (∀ w ∈ u_ws C T N, w ∈ ze_tbl) ∧ f < N ∧ Cond.fieldLink own ix (T f).1 (T f).2.1 (T f).2.2.1 ∈ ze_tbl ∧ (∀ k, k < N → parseFieldDescriptor (T k).2.2.1 = some (tf k)) ∧ (∀ a, a < N → ∀ b, b < N → a ≠ b → (T a).2.1 ≠ (T b).2.1) ∧ (T f).2.2.2 = fin ∧ parseFieldDescriptor (T f).2.2.1 = some ty ∧ (T f).1 = own
theorem zn_putF (X : zn_X G A cc own nL fr lo mc ms) {k0 a ix ci f : Nat} {w : ze_V} {ty : FieldType} {fs : List Value} (d : decode cc pc = .ok (.putfield ix, 3)) (hI : (ze_me G).name = "<init>") (hF : zn_F own ix ci f true ty) (he : ws[k0]? = some (a, .inr (ci, fs))) (hlt : f < fs.length) (hn : narrow ty (ze_val (fun q => q) w) = ze_val (fun q => q) w) (hft : fits ty (ze_val (fun q => q) w) = true) (k : zn_T G A (ws.set k0 (a, .inr (ci, fs.set f (ze_val (fun q => q) w)))) cs sl (pc + 3) L st) : zn_T G A ws cs sl pc L (w :: .inr a :: st) := fun H locs ls hP hD hS hl => by
  obtain ⟨C, T, N, tf, h1, h2, h3, h4, h5, h6, h7, h8, h9⟩ := hF
  exact va_putF X.1 X.2.1 X.2.2.2.1 h2 tf h5 h6 X.2.2.1 X.2.2.2.2.2.1 hP hD hS k0 he h1 f h3 (X.2.2.2.1 _ h4) (fun _ h => h) h7 hI h9 h8 hn hft hlt d (fun H1 locs1 hP1 hD1 hS1 => k H1 locs1 ls hP1 hD1 hS1 hl)
theorem zn_put (X : zn_X G A cc own nL fr lo mc ms) {k0 a ix ci f : Nat} {w : ze_V} {ty : FieldType} {fs : List Value} (d : decode cc pc = .ok (.putfield ix, 3)) (hF : zn_F own ix ci f false ty) (he : ws[k0]? = some (a, .inr (ci, fs))) (hlt : f < fs.length) (hn : narrow ty (ze_val (fun q => q) w) = ze_val (fun q => q) w) (hft : fits ty (ze_val (fun q => q) w) = true) (k : zn_T G A (ws.set k0 (a, .inr (ci, fs.set f (ze_val (fun q => q) w)))) cs sl (pc + 3) L st) : zn_T G A ws cs sl pc L (w :: .inr a :: st) := fun H locs ls hP hD hS hl => by
  obtain ⟨C, T, N, tf, h1, h2, h3, h4, h5, h6, h7, h8, h9⟩ := hF
  exact va_put X.1 X.2.1 X.2.2.2.1 h2 tf h5 h6 X.2.2.1 X.2.2.2.2.2.1 hP hD hS k0 he h1 f h3 (X.2.2.2.1 _ h4) (fun _ h => h) h7 h8 hn hft hlt d (fun H1 locs1 hP1 hD1 hS1 => k H1 locs1 ls hP1 hD1 hS1 hl)
theorem zn_get (X : zn_X G A cc own nL fr lo mc ms) {k0 a ix ci f : Nat} {w : ze_V} {fs : List Value} (d : decode cc pc = .ok (.getfield ix, 3)) (hF : ze_F own ix ci f) (he : ws[k0]? = some (a, .inr (ci, fs))) (hv : fs[f]? = some (ze_val (fun q => q) w)) (k : zn_T G A ws cs sl (pc + 3) L (w :: st)) : zn_T G A ws cs sl pc L (.inr a :: st) := fun H locs ls hP hD hS hl => by
  obtain ⟨C, T, N, h1, h2, h3, h4⟩ := hF
  exact va_get X.1 X.2.1 X.2.2.2.1 h2 X.2.2.1 X.2.2.2.2.2.1 hP k0 he h1 f h3 (X.2.2.2.1 _ h4) (fun _ h => h) hv d (k H locs ls hP hD hS hl)
theorem zn_aast (X : zn_X G A cc own nL fr lo mc ms) {k0 k1 a b t n ci : Nat} {i : Int32} {r : vw_C} {f : Nat → Option Nat} {vs : List Value} (d : decode cc pc = .ok (.aastore, 1)) (he : ws[k0]? = some (a, .inl (ze_ca G t, n, .inr (.inr (.inr (.inr f)))))) (ht0 : ze_tl[t]? = some (.object r.1)) (hv : ws[k1]? = some (b, .inr (ci, vs))) (hc : ze_cl[ci]? = some r) (hin : vp_in i n) (k : zn_T G A (ws.set k0 (a, .inl (ze_ca G t, n, .inr (.inr (.inr (.inr (va_up f i.toNatClampNeg (some b)))))))) cs sl (pc + 1) L st) : zn_T G A ws cs sl pc L (.inr b :: .inl i :: .inr a :: st) := fun H locs ls hP hD hS hl =>
  va_astq X.1 X.2.1 X.2.2.2.2.2.1 hP hD hS k0 t k1 ci he (ze_tys_at ht0) hv hc hin d (fun H1 locs1 hP1 hD1 hS1 => k H1 locs1 ls hP1 hD1 hS1 hl)
theorem zn_mmax (X : zn_X G A cc own nL fr lo mc ms) {ix : Nat} {x y z : Int32} (hz : (if x < y then y else x) = z) (d : decode cc pc = .ok (.invokestatic ix, 3)) (hm : ze_CM own ix Lib.Math.max.name Lib.Math.max.code) (hfr : 1 ≤ fr) (hlo : 21 ≤ lo) (hst : st.length ≤ 8) (hcs : cs ≤ mc) (hsl : sl ≤ ms) (k : zn_T G A ws cs sl (pc + 3) L (.inl z :: st)) : zn_T G A ws cs sl pc L (.inl y :: .inl x :: st) := fun H locs ls hP hD hS hl => by
  subst hz
  exact va_mmax X.1 X.2.1 hl.1.symm X.2.2.1 (X.2.2.2.1 _ hm.1) (X.2.2.2.1 _ hm.2.1) (X.2.2.2.1 _ hm.2.2.1) (X.2.2.2.1 _ hm.2.2.2) (Nat.le_trans hfr X.2.2.2.2.2.2.2.1) (by have h1 := X.2.2.2.2.2.2.2.2.1; rw [ze_cats]; omega) (Nat.le_trans hcs X.2.2.2.2.2.2.2.2.2.1) (Nat.le_trans hsl X.2.2.2.2.2.2.2.2.2.2.1) d (k H locs ls hP hD hS hl)
/-- a constructor's contract: of its own object alone the world before, of it and what it made behind -/
def zn_M (l : Launch) (D : va_G) (ca : Nat → ClassId) (y : MethodName) (cc : ByteArray) (nL fr lo mc ms : Nat) (As : List ze_V) (o : Nat × va_E) (w1 : (Nat → Nat) → va_W) : Prop :=
  ∀ sz : Nat, Met l y (.code y cc nL none :: ze_tbl) { frames := fr, cells := mc, slots := ms, locals := lo } (va_Pc (As.map (ze_val (fun q => q))) (fun U => U.heap.size = sz ∧ va_P D ze_cl [o] U.heap ∧ va_K D ze_cl (ze_tys ca) U ∧ zn_N U)) (va_Qv (fun (_ : Nat → Nat) => True) (fun u t => va_P D ze_cl (w1 u) t.heap ∧ va_K D ze_cl (ze_tys ca) t ∧ va_D (va_A [o] sz) (w1 u)) (va_A [o] sz)) mc ms (va_A [o] sz)
theorem zn_callI (X : zn_X G A cc own nL fr lo mc ms) {ix n a nL1 fr1 lo1 mc1 ms1 : Nat} {y : MethodName} {c1 : ByteArray} {e : va_E} {As : List ze_V} {w1 : (Nat → Nat) → va_W} (d : decode cc pc = .ok (.invokespecial ix, 3)) (hC : Cond.methodLink own ix y ∈ ze_tbl ∧ Cond.instanceMethod y ∈ ze_tbl ∧ Cond.initialized y.cls ∈ ze_tbl ∧ Cond.code y c1 nL1 none ∈ ze_tbl) (hd : y.cls ≠ "java/lang/invoke/MethodHandle" ∧ y.cls ≠ "java/lang/invoke/VarHandle" ∧ (parseMethodDescriptor y.desc).map (fun d => d.parameters.length) = some n) (hy : y.name = "<init>")
    (hM : zn_M (ze_l G) (ze_D G) (ze_ca G) y c1 nL1 fr1 lo1 mc1 ms1 (.inr a :: As) (a, e) w1) (hn : As.length = n) (hfr : fr1 + 1 ≤ fr) (hlo : 8 + (nL1 + 11) + lo1 ≤ lo) (hst : st.length ≤ 8) (hmc : cs + mc1 ≤ mc) (hms : sl + ms1 ≤ ms)
    (k : ∀ u : Nat → Nat, zn_T G A (ws ++ w1 u) (cs + mc1) (sl + ms1) (pc + 3) L st) : zn_T G A (ws ++ [(a, e)]) cs sl pc L (As.reverse ++ .inr a :: st) := fun H locs ls hP hD hS hl => by
  have hts := X.2.2.2.1
  obtain ⟨w1', w2, w4, w5⟩ := hC
  have hl0 : (ws ++ [(a, e)])[ws.length]? = some (a, e) := by simp
  have hFc : ∀ q, va_A [(a, e)] H.size q → A q := va_free (wc := [(a, e)]) hD hS X.2.2.2.2.2.2.1 [ws.length] (by simp)
  have hPc : va_P (ze_D G) ze_cl [(a, e)] H := hP.sub [ws.length] (by simp)
  have hB : CallB (ze_R G) (ze_s G) (ze_ar G) own ix y c1 nL1 none (.code y c1 nL1 none :: ze_tbl) { frames := fr1, cells := mc1, slots := ms1, locals := lo1 } mc1 ms1 n := callB_of n hts (ze_good w5) rfl rfl rfl (hts _ w4) (hts _ w1') hd ⟨Nat.le_trans hfr X.2.2.2.2.2.2.2.1, Nat.le_trans hlo X.2.2.2.2.2.2.2.2.1⟩
  have hr := va_runI (p := G.1.1) (l := ze_l G) (e := G.1.2.2.1) (below := G.2.1.2.2.2) (meth := ze_me G) (H := H) (locs := locs) (cells := cs) (slots := sl) (b := a) (As := As.map (ze_val (fun q => q))) (rest := st.map (ze_val (fun q => q))) (g := F0 (ze_m G) pc ls ((As.reverse ++ .inr a :: st).map (ze_val (fun q => q)))) (nL := nL) (Ts := ze_tbl)
    ⟨X.1, X.2.1, X.2.2.2.2.1, X.2.2.1, hts⟩ (hM H.size) ⟨hB, hy, hts _ w2⟩ ⟨fun a U g mk h => ⟨h.1, h.2.1, h.2.2.1, va_K.moved (u := U) (U := U.calling g mk a) (Vm.Alike.refl U.vm) h.2.2.2.1, h.2.2.2.2.blind⟩, fun U hU hW => ⟨rfl, by rw [hU], by rw [hU]; exact hPc, va_K.moved hW.alike X.2.2.2.2.2.1, X.2.2.2.2.2.2.2.2.2.2.2.warm hW⟩⟩ rfl (by simpa using hn) (hl.1.trans X.2.2.2.2.1) (ze_stk _ _ _)
    (by rw [ze_cats]; simpa [JFrame.monitorRoom] using hst) d ⟨Nat.le_trans hmc X.2.2.2.2.2.2.2.2.2.1, Nat.le_trans hms X.2.2.2.2.2.2.2.2.2.2.1⟩
  refine va_callv hr hS (fun q _ h => hFc q h) hFc (fun u U H1 locs1 hU hvm _ hB1 hz1 hk1 hS1 => ?_)
  obtain ⟨hP1, hK1, hD1⟩ := hB1
  rw [hU] at hP1
  obtain ⟨hP2, hD2⟩ := va_join (wr := ws) (w1 := w1 u) hP hD [ws.length] (List.range ws.length) (by simp) (zn_rng ws (a, e)) (zn_nd ws.length) (fun i h1 h2 => by simp at h1 h2; omega) hk1 hFc hP1 hD1
  exact k u H1 locs1 ls hP2 hD2 hS1 hl
theorem zn_callIN (X : zn_X G A cc own nL fr lo mc ms) {ix n a nL1 fr1 lo1 mc1 ms1 : Nat} {y : MethodName} {c1 : ByteArray} {e : va_E} {As : List ze_V} {w1 : (Nat → Nat) → va_W} (d : decode cc pc = .ok (.invokespecial ix, 3)) {host : String} (hC : (own, ix, y, host) ∈ zn_nw ∧ Cond.instanceMethod y ∈ ze_tbl ∧ Cond.initialized y.cls ∈ ze_tbl ∧ Cond.code y c1 nL1 none ∈ ze_tbl) (hd : y.cls ≠ "java/lang/invoke/MethodHandle" ∧ y.cls ≠ "java/lang/invoke/VarHandle" ∧ (parseMethodDescriptor y.desc).map (fun d => d.parameters.length) = some n) (hy : y.name = "<init>")
    (hM : zn_M (ze_l G) (ze_D G) (ze_ca G) y c1 nL1 fr1 lo1 mc1 ms1 (.inr a :: As) (a, e) w1) (hn : As.length = n) (hfr : fr1 + 1 ≤ fr) (hlo : 8 + (nL1 + 11) + lo1 ≤ lo) (hst : st.length ≤ 8) (hmc : cs + mc1 ≤ mc) (hms : sl + ms1 ≤ ms)
    (k : ∀ u : Nat → Nat, zn_T G A (ws ++ w1 u) (cs + mc1) (sl + ms1) (pc + 3) L st) : zn_T G A (ws ++ [(a, e)]) cs sl pc L (As.reverse ++ .inr a :: st) := fun H locs ls hP hD hS hl => by
  have hts := X.2.2.2.1
  obtain ⟨w1', w2, w4, w5⟩ := hC
  have hl0 : (ws ++ [(a, e)])[ws.length]? = some (a, e) := by simp
  have hFc : ∀ q, va_A [(a, e)] H.size q → A q := va_free (wc := [(a, e)]) hD hS X.2.2.2.2.2.2.1 [ws.length] (by simp)
  have hPc : va_P (ze_D G) ze_cl [(a, e)] H := hP.sub [ws.length] (by simp)
  have hB : va_CN (ze_R G) (ze_s G) (ze_ar G) own ix y host c1 nL1 none (.code y c1 nL1 none :: ze_tbl) { frames := fr1, cells := mc1, slots := ms1, locals := lo1 } mc1 ms1 n := va_cnB n hts (ze_good w5) rfl rfl rfl (X.2.2.2.2.2.2.2.2.2.2.2.1 _ w1') (hts _ w4) hd ⟨Nat.le_trans hfr X.2.2.2.2.2.2.2.1, Nat.le_trans hlo X.2.2.2.2.2.2.2.2.1⟩
  have hr := va_runIN (p := G.1.1) (l := ze_l G) (e := G.1.2.2.1) (below := G.2.1.2.2.2) (meth := ze_me G) (H := H) (locs := locs) (cells := cs) (slots := sl) (b := a) (As := As.map (ze_val (fun q => q))) (rest := st.map (ze_val (fun q => q))) (g := F0 (ze_m G) pc ls ((As.reverse ++ .inr a :: st).map (ze_val (fun q => q)))) (nL := nL) (Ts := ze_tbl)
    ⟨X.1, X.2.1, X.2.2.2.2.1, X.2.2.1, hts⟩ (hM H.size) ⟨hB, hy, hts _ w2⟩ ⟨fun a U g mk h => ⟨h.1, h.2.1, h.2.2.1, va_K.moved (u := U) (U := U.calling g mk a) (Vm.Alike.refl U.vm) h.2.2.2.1, h.2.2.2.2.blind⟩, fun U hU hW => ⟨rfl, by rw [hU], by rw [hU]; exact hPc, va_K.moved hW.alike X.2.2.2.2.2.1, X.2.2.2.2.2.2.2.2.2.2.2.warm hW⟩⟩ rfl (by simpa using hn) (hl.1.trans X.2.2.2.2.1) (ze_stk _ _ _)
    (by rw [ze_cats]; simpa [JFrame.monitorRoom] using hst) d ⟨Nat.le_trans hmc X.2.2.2.2.2.2.2.2.2.1, Nat.le_trans hms X.2.2.2.2.2.2.2.2.2.2.1⟩
  refine va_callv hr hS (fun q _ h => hFc q h) hFc (fun u U H1 locs1 hU hvm _ hB1 hz1 hk1 hS1 => ?_)
  obtain ⟨hP1, hK1, hD1⟩ := hB1
  rw [hU] at hP1
  obtain ⟨hP2, hD2⟩ := va_join (wr := ws) (w1 := w1 u) hP hD [ws.length] (List.range ws.length) (by simp) (zn_rng ws (a, e)) (zn_nd ws.length) (fun i h1 h2 => by simp at h1 h2; omega) hk1 hFc hP1 hD1
  exact k u H1 locs1 ls hP2 hD2 hS1 hl
/-- a constructor's end -/
def zn_R (G : ze_G) (A : Nat → Prop) (mc ms : Nat) (w1 : (Nat → Nat) → va_W) : Prop := (ze_me G).sig.returnType = none ∧ (ze_me G).locks = false ∧ ze_h0 G = (ze_s G).heap ∧ G.2.2.2.2.1.2.2 = MQ G.2.1.2.2.2 (va_Qv (fun (_ : Nat → Nat) => True) (fun u t => va_P (ze_D G) ze_cl (w1 u) t.heap ∧ va_K (ze_D G) ze_cl (ze_tys (ze_ca G)) t ∧ va_D A (w1 u)) A) (ze_ar G) (ze_s G) mc ms A
theorem zn_vret (X : zn_X G A cc own nL fr lo mc ms) {w1 : (Nat → Nat) → va_W} (Y : zn_R G A cs sl w1) (u : Nat → Nat) (d : decode cc pc = .ok (.return_, 1)) (hw : ws = w1 u) : zn_T G A ws cs sl pc L [] := fun H locs ls hP hD hS hl => by
  obtain ⟨Y1, Y2, Y3, Y4⟩ := Y
  rw [Y4]
  refine W.vret X.1 X.2.1 Y1 (fun U hU hW => ⟨⟨u, rfl, trivial, by rw [hU, ← hw]; exact hP, va_K.moved hW.alike X.2.2.2.2.2.1, by rw [← hw]; exact hD⟩, (Y3 ▸ hS).F hU⟩) hS.2.2 d Y2
end ZN
theorem zn_M_of {l : Launch} {D : va_G} {ca : Nat → ClassId} {y : MethodName} {cc : ByteArray} {nL fr lo mc ms : Nat} {As : List ze_V} {o : Nat × va_E} {w1 : (Nat → Nat) → va_W} (hy : plainFor y = true) (hyn : y.name = "<init>") (hn : As.length ≤ nL)
    (walk : ∀ (G : ze_G) (A : Nat → Prop), ze_l G = l → ze_D G = D → ze_ca G = ca → zn_X G A cc y.cls nL fr lo mc ms → zn_R G A mc ms w1 → (ze_me G).name = "<init>" → zn_T G A [o] 0 0 0 (As.map some ++ List.replicate (nL - As.length) none) []) : zn_M l D ca y cc nL fr lo mc ms As o w1 := by
  intro sz
  refine ze_ofW (cc := cc) (maxL := nL) (ret := none) hy rfl ?_
  intro p e s m args below meth c s₁ B hml hv
  obtain ⟨rfl, hsz, hP, hK, hNw⟩ := hv
  subst hsz
  have hts := atoms_spec (ws := .code y cc nL none :: ze_tbl) B.pre
  have hin : meth.name = "<init>" := by rw [← hyn]; exact (name_of_methodNamed B.named B.method).1
  rw [lg_entry_eq]
  have hX : zn_X ((p, l, e, ({ frames := fr, cells := mc, slots := ms, locals := lo } : Room)), (s, m, (As.map (ze_val (fun q => q))).toArray, below), (meth, c, D), ((fun q => q), ca, s.heap), (0, 0, MQ below (va_Qv (fun (_ : Nat → Nat) => True) (fun u t => va_P D ze_cl (w1 u) t.heap ∧ va_K D ze_cl (ze_tys ca) t ∧ va_D (va_A [o] s.heap.size) (w1 u)) (va_A [o] s.heap.size)) (As.map (ze_val (fun q => q))).toArray s mc ms (va_A [o] s.heap.size)), (0, fun _ _ => 0)) (va_A [o] s.heap.size) cc y.cls nL fr lo mc ms :=
    ⟨B.exec, B.bytes, findClass_of_methodNamed B.named, fun w hw => hts w (List.mem_cons_of_mem _ hw), hml, hK, fun q h => Or.inr h, Nat.le_refl _, Nat.le_refl _, Nat.le_refl _, Nat.le_refl _, hNw⟩
  exact walk _ _ rfl rfl rfl hX ⟨B.returns, B.notSynchronized, rfl, rfl⟩ hin s.heap [] _ hP (va_D.self (A := fun _ => True) ⟨fun i j p q hp hq _ => by
    have h1 : i < 1 := (List.getElem?_eq_some_iff.mp hp).1
    have h2 : j < 1 := (List.getElem?_eq_some_iff.mp hq).1
    omega, fun _ _ _ => trivial⟩) va_S.rf (by rw [hX.2.2.2.2.1]; exact ze_entry (fun q => q) As nL hn)
theorem cf_E : ∀ j, j < 16 → defaultValue (cy_E j) = vp_V [.null, .null, .null, .null, .null, .null, .null, .null, .null, .null, .null, .null, .int 0, .int 0, .int 0, .int 0] j := fun j h => match j, h with
  | 0, _ => rfl
  | 1, _ => rfl
  | 2, _ => rfl
  | 3, _ => rfl
  | 4, _ => rfl
  | 5, _ => rfl
  | 6, _ => rfl
  | 7, _ => rfl
  | 8, _ => rfl
  | 9, _ => rfl
  | 10, _ => rfl
  | 11, _ => rfl
  | 12, _ => rfl
  | 13, _ => rfl
  | 14, _ => rfl
  | 15, _ => rfl
  | k + 16, h => absurd h (by omega)
theorem cf_P : ∀ j, j < 6 → defaultValue (cy_P j) = vp_V [.null, .null, .null, .null, .null, .null] j := fun j h => match j, h with
  | 0, _ => rfl
  | 1, _ => rfl
  | 2, _ => rfl
  | 3, _ => rfl
  | 4, _ => rfl
  | 5, _ => rfl
  | k + 6, h => absurd h (by omega)
theorem cf_R : ∀ j, j < 4 → defaultValue (cy_R j) = vp_V [.null, .int 0, .int 0, .int 0] j := fun j h => match j, h with
  | 0, _ => rfl
  | 1, _ => rfl
  | 2, _ => rfl
  | 3, _ => rfl
  | k + 4, h => absurd h (by omega)
theorem cf_C : ∀ j, j < 6 → defaultValue (cy_C j) = vp_V [.null, .null, .null, .null, .null, .int 0] j := fun j h => match j, h with
  | 0, _ => rfl
  | 1, _ => rfl
  | 2, _ => rfl
  | 3, _ => rfl
  | 4, _ => rfl
  | 5, _ => rfl
  | k + 6, h => absurd h (by omega)
theorem cf_N : ∀ j, j < 5 → defaultValue (cy_N j) = vp_V [.null, .null, .int 0, .int 0, .int 0] j := fun j h => match j, h with
  | 0, _ => rfl
  | 1, _ => rfl
  | 2, _ => rfl
  | 3, _ => rfl
  | 4, _ => rfl
  | k + 5, h => absurd h (by omega)
theorem cf_L : ∀ j, j < 6 → defaultValue (cy_L j) = vp_V [.int 0, .null, .null, .null, .int 0, .int 0] j := fun j h => match j, h with
  | 0, _ => rfl
  | 1, _ => rfl
  | 2, _ => rfl
  | 3, _ => rfl
  | 4, _ => rfl
  | 5, _ => rfl
  | k + 6, h => absurd h (by omega)
theorem cf_G : ∀ j, j < 6 → defaultValue (cy_G j) = vp_V [.null, .null, .null, .null, .null, .int 0] j := fun j h => match j, h with
  | 0, _ => rfl
  | 1, _ => rfl
  | 2, _ => rfl
  | 3, _ => rfl
  | 4, _ => rfl
  | 5, _ => rfl
  | k + 6, h => absurd h (by omega)
theorem cf_K : ∀ j, j < 3 → defaultValue (cy_K j) = vp_V [.null, .null, .null] j := fun j h => match j, h with
  | 0, _ => rfl
  | 1, _ => rfl
  | 2, _ => rfl
  | k + 3, h => absurd h (by omega)
theorem cf_H : ∀ j, j < 4 → defaultValue (cy_H j) = vp_V [.int 0, .int 0, .int 0, .int 0] j := fun j h => match j, h with
  | 0, _ => rfl
  | 1, _ => rfl
  | 2, _ => rfl
  | 3, _ => rfl
  | k + 4, h => absurd h (by omega)
theorem cf_M : ∀ j, j < 61 → defaultValue (cy_M j) = vp_V [.null, .null, .null, .null, .null, .int 0, .int 0, .int 0, .null, .null, .null, .null, .null, .null, .null, .null, .null, .null, .int 0, .null, .null, .null, .int 0, .null, .null, .null, .null, .null, .null, .int 0, .null, .null, .null, .null, .null, .int 0, .int 0, .null, .null, .null, .int 0, .null, .null, .null, .int 0, .null, .null, .null, .null, .null, .null, .null, .null, .int 0, .int 0, .int 0, .int 0, .int 0, .int 0, .int 0, .null] j := fun j h => match j, h with
  | 0, _ => rfl
  | 1, _ => rfl
  | 2, _ => rfl
  | 3, _ => rfl
  | 4, _ => rfl
  | 5, _ => rfl
  | 6, _ => rfl
  | 7, _ => rfl
  | 8, _ => rfl
  | 9, _ => rfl
  | 10, _ => rfl
  | 11, _ => rfl
  | 12, _ => rfl
  | 13, _ => rfl
  | 14, _ => rfl
  | 15, _ => rfl
  | 16, _ => rfl
  | 17, _ => rfl
  | 18, _ => rfl
  | 19, _ => rfl
  | 20, _ => rfl
  | 21, _ => rfl
  | 22, _ => rfl
  | 23, _ => rfl
  | 24, _ => rfl
  | 25, _ => rfl
  | 26, _ => rfl
  | 27, _ => rfl
  | 28, _ => rfl
  | 29, _ => rfl
  | 30, _ => rfl
  | 31, _ => rfl
  | 32, _ => rfl
  | 33, _ => rfl
  | 34, _ => rfl
  | 35, _ => rfl
  | 36, _ => rfl
  | 37, _ => rfl
  | 38, _ => rfl
  | 39, _ => rfl
  | 40, _ => rfl
  | 41, _ => rfl
  | 42, _ => rfl
  | 43, _ => rfl
  | 44, _ => rfl
  | 45, _ => rfl
  | 46, _ => rfl
  | 47, _ => rfl
  | 48, _ => rfl
  | 49, _ => rfl
  | 50, _ => rfl
  | 51, _ => rfl
  | 52, _ => rfl
  | 53, _ => rfl
  | 54, _ => rfl
  | 55, _ => rfl
  | 56, _ => rfl
  | 57, _ => rfl
  | 58, _ => rfl
  | 59, _ => rfl
  | 60, _ => rfl
  | k + 61, h => absurd h (by omega)
set_option maxRecDepth 100000 in
theorem zq_P_9 : zn_F cn_P 9 1 0 true (.array .char) := ⟨cn_P, ct_P, 6, cy_P, rfl, ci_P, by decide, (ze_mem (List.mem_of_getElem? (i := 100) (by decide +kernel)) rfl), co_P, ce_P, rfl, rfl, rfl⟩
set_option maxRecDepth 100000 in
theorem zq_P_15 : zn_F cn_P 15 1 1 true (.array .int) := ⟨cn_P, ct_P, 6, cy_P, rfl, ci_P, by decide, (ze_mem (List.mem_of_getElem? (i := 102) (by decide +kernel)) rfl), co_P, ce_P, rfl, rfl, rfl⟩
set_option maxRecDepth 100000 in
theorem zq_P_19 : zn_F cn_P 19 1 2 true (.array .int) := ⟨cn_P, ct_P, 6, cy_P, rfl, ci_P, by decide, (ze_mem (List.mem_of_getElem? (i := 105) (by decide +kernel)) rfl), co_P, ce_P, rfl, rfl, rfl⟩
set_option maxRecDepth 100000 in
theorem zq_P_22 : zn_F cn_P 22 1 3 true (.array .int) := ⟨cn_P, ct_P, 6, cy_P, rfl, ci_P, by decide, (ze_mem (List.mem_of_getElem? (i := 108) (by decide +kernel)) rfl), co_P, ce_P, rfl, rfl, rfl⟩
set_option maxRecDepth 100000 in
theorem zq_P_25 : zn_F cn_P 25 1 4 true (.array .int) := ⟨cn_P, ct_P, 6, cy_P, rfl, ci_P, by decide, (ze_mem (List.mem_of_getElem? (i := 111) (by decide +kernel)) rfl), co_P, ce_P, rfl, rfl, rfl⟩
set_option maxRecDepth 100000 in
theorem zq_P_28 : zn_F cn_P 28 1 5 true (.array .int) := ⟨cn_P, ct_P, 6, cy_P, rfl, ci_P, by decide, (ze_mem (List.mem_of_getElem? (i := 113) (by decide +kernel)) rfl), co_P, ce_P, rfl, rfl, rfl⟩
set_option maxRecDepth 100000 in
theorem zq_R_9 : zn_F cn_R 9 2 0 true (.object "RouteEngine$Program") := ⟨cn_R, ct_R, 4, cy_R, rfl, ci_R, by decide, (ze_mem (List.mem_of_getElem? (i := 137) (by decide +kernel)) rfl), co_R, ce_R, rfl, rfl, rfl⟩
set_option maxRecDepth 100000 in
theorem zq_R_15 : zn_F cn_R 15 2 3 false .int := ⟨cn_R, ct_R, 4, cy_R, rfl, ci_R, by decide, (ze_mem (List.mem_of_getElem? (i := 140) (by decide +kernel)) rfl), co_R, ce_R, rfl, rfl, rfl⟩
set_option maxRecDepth 100000 in
theorem zq_C_9 : zn_F cn_C 9 3 0 true (.array .int) := ⟨cn_C, ct_C, 6, cy_C, rfl, ci_C, by decide, (ze_mem (List.mem_of_getElem? (i := 156) (by decide +kernel)) rfl), co_C, ce_C, rfl, rfl, rfl⟩
set_option maxRecDepth 100000 in
theorem zq_C_15 : zn_F cn_C 15 3 1 true (.array .int) := ⟨cn_C, ct_C, 6, cy_C, rfl, ci_C, by decide, (ze_mem (List.mem_of_getElem? (i := 157) (by decide +kernel)) rfl), co_C, ce_C, rfl, rfl, rfl⟩
set_option maxRecDepth 100000 in
theorem zq_C_18 : zn_F cn_C 18 3 2 true (.array .int) := ⟨cn_C, ct_C, 6, cy_C, rfl, ci_C, by decide, (ze_mem (List.mem_of_getElem? (i := 159) (by decide +kernel)) rfl), co_C, ce_C, rfl, rfl, rfl⟩
set_option maxRecDepth 100000 in
theorem zq_C_21 : zn_F cn_C 21 3 3 true (.array .boolean) := ⟨cn_C, ct_C, 6, cy_C, rfl, ci_C, by decide, (ze_mem (List.mem_of_getElem? (i := 161) (by decide +kernel)) rfl), co_C, ce_C, rfl, rfl, rfl⟩
set_option maxRecDepth 100000 in
theorem zq_C_25 : zn_F cn_C 25 3 4 true (.array .boolean) := ⟨cn_C, ct_C, 6, cy_C, rfl, ci_C, by decide, (ze_mem (List.mem_of_getElem? (i := 163) (by decide +kernel)) rfl), co_C, ce_C, rfl, rfl, rfl⟩
set_option maxRecDepth 100000 in
theorem zq_N_9 : zn_F cn_N 9 4 0 true (.array .int) := ⟨cn_N, ct_N, 5, cy_N, rfl, ci_N, by decide, (ze_mem (List.mem_of_getElem? (i := 188) (by decide +kernel)) rfl), co_N, ce_N, rfl, rfl, rfl⟩
set_option maxRecDepth 100000 in
theorem zq_N_15 : zn_F cn_N 15 4 1 true (.array .int) := ⟨cn_N, ct_N, 5, cy_N, rfl, ci_N, by decide, (ze_mem (List.mem_of_getElem? (i := 190) (by decide +kernel)) rfl), co_N, ce_N, rfl, rfl, rfl⟩
set_option maxRecDepth 100000 in
theorem zq_L_13 : zn_F cn_L 13 5 0 true .int := ⟨cn_L, ct_L, 6, cy_L, rfl, ci_L, by decide, (ze_mem (List.mem_of_getElem? (i := 216) (by decide +kernel)) rfl), co_L, ce_L, rfl, rfl, rfl⟩
set_option maxRecDepth 100000 in
theorem zq_L_19 : zn_F cn_L 19 5 1 true (.array .int) := ⟨cn_L, ct_L, 6, cy_L, rfl, ci_L, by decide, (ze_mem (List.mem_of_getElem? (i := 217) (by decide +kernel)) rfl), co_L, ce_L, rfl, rfl, rfl⟩
set_option maxRecDepth 100000 in
theorem zq_L_23 : zn_F cn_L 23 5 2 true (.array .int) := ⟨cn_L, ct_L, 6, cy_L, rfl, ci_L, by decide, (ze_mem (List.mem_of_getElem? (i := 219) (by decide +kernel)) rfl), co_L, ce_L, rfl, rfl, rfl⟩
set_option maxRecDepth 100000 in
theorem zq_L_26 : zn_F cn_L 26 5 3 true (.array .int) := ⟨cn_L, ct_L, 6, cy_L, rfl, ci_L, by decide, (ze_mem (List.mem_of_getElem? (i := 221) (by decide +kernel)) rfl), co_L, ce_L, rfl, rfl, rfl⟩
set_option maxRecDepth 100000 in
theorem zq_G_9 : zn_F cn_G 9 6 0 true (.array .int) := ⟨cn_G, ct_G, 6, cy_G, rfl, ci_G, by decide, (ze_mem (List.mem_of_getElem? (i := 246) (by decide +kernel)) rfl), co_G, ce_G, rfl, rfl, rfl⟩
set_option maxRecDepth 100000 in
theorem zq_G_15 : zn_F cn_G 15 6 1 true (.array .int) := ⟨cn_G, ct_G, 6, cy_G, rfl, ci_G, by decide, (ze_mem (List.mem_of_getElem? (i := 248) (by decide +kernel)) rfl), co_G, ce_G, rfl, rfl, rfl⟩
set_option maxRecDepth 100000 in
theorem zq_G_18 : zn_F cn_G 18 6 2 true (.array .int) := ⟨cn_G, ct_G, 6, cy_G, rfl, ci_G, by decide, (ze_mem (List.mem_of_getElem? (i := 250) (by decide +kernel)) rfl), co_G, ce_G, rfl, rfl, rfl⟩
set_option maxRecDepth 100000 in
theorem zq_G_21 : zn_F cn_G 21 6 3 true (.array .int) := ⟨cn_G, ct_G, 6, cy_G, rfl, ci_G, by decide, (ze_mem (List.mem_of_getElem? (i := 252) (by decide +kernel)) rfl), co_G, ce_G, rfl, rfl, rfl⟩
set_option maxRecDepth 100000 in
theorem zq_G_24 : zn_F cn_G 24 6 4 true (.array .int) := ⟨cn_G, ct_G, 6, cy_G, rfl, ci_G, by decide, (ze_mem (List.mem_of_getElem? (i := 254) (by decide +kernel)) rfl), co_G, ce_G, rfl, rfl, rfl⟩
set_option maxRecDepth 100000 in
theorem zq_K_9 : zn_F cn_K 9 7 0 true (.array .int) := ⟨cn_K, ct_K, 3, cy_K, rfl, ci_K, by decide, (ze_mem (List.mem_of_getElem? (i := 277) (by decide +kernel)) rfl), co_K, ce_K, rfl, rfl, rfl⟩
set_option maxRecDepth 100000 in
theorem zq_K_15 : zn_F cn_K 15 7 1 true (.array .int) := ⟨cn_K, ct_K, 3, cy_K, rfl, ci_K, by decide, (ze_mem (List.mem_of_getElem? (i := 279) (by decide +kernel)) rfl), co_K, ce_K, rfl, rfl, rfl⟩
set_option maxRecDepth 100000 in
theorem zq_K_18 : zn_F cn_K 18 7 2 true (.array .int) := ⟨cn_K, ct_K, 3, cy_K, rfl, ci_K, by decide, (ze_mem (List.mem_of_getElem? (i := 281) (by decide +kernel)) rfl), co_K, ce_K, rfl, rfl, rfl⟩
set_option maxRecDepth 100000 in
theorem zq_E_9 : zn_F cn_E 9 0 0 true (.array .int) := ⟨cn_E, ct_E, 16, cy_E, rfl, ci_E, by decide, (ze_mem (List.mem_of_getElem? (i := 312) (by decide +kernel)) rfl), co_E, ce_E, rfl, rfl, rfl⟩
set_option maxRecDepth 100000 in
theorem zq_E_16 : zn_F cn_E 16 0 1 true (.object "RouteEngine$Program") := ⟨cn_E, ct_E, 16, cy_E, rfl, ci_E, by decide, (ze_mem (List.mem_of_getElem? (i := 313) (by decide +kernel)) rfl), co_E, ce_E, rfl, rfl, rfl⟩
set_option maxRecDepth 100000 in
theorem zq_E_20 : zn_F cn_E 20 0 2 true (.object "RouteEngine$Program") := ⟨cn_E, ct_E, 16, cy_E, rfl, ci_E, by decide, (ze_mem (List.mem_of_getElem? (i := 314) (by decide +kernel)) rfl), co_E, ce_E, rfl, rfl, rfl⟩
set_option maxRecDepth 100000 in
theorem zq_E_28 : zn_F cn_E 28 0 3 true (.object "RouteEngine$Reader") := ⟨cn_E, ct_E, 16, cy_E, rfl, ci_E, by decide, (ze_mem (List.mem_of_getElem? (i := 315) (by decide +kernel)) rfl), co_E, ce_E, rfl, rfl, rfl⟩
set_option maxRecDepth 100000 in
theorem zq_E_35 : zn_F cn_E 35 0 4 true (.object "RouteEngine$Clauses") := ⟨cn_E, ct_E, 16, cy_E, rfl, ci_E, by decide, (ze_mem (List.mem_of_getElem? (i := 316) (by decide +kernel)) rfl), co_E, ce_E, rfl, rfl, rfl⟩
set_option maxRecDepth 100000 in
theorem zq_E_41 : zn_F cn_E 41 0 5 true (.array (.object "RouteEngine$Endpoint")) := ⟨cn_E, ct_E, 16, cy_E, rfl, ci_E, by decide, (ze_mem (List.mem_of_getElem? (i := 317) (by decide +kernel)) rfl), co_E, ce_E, rfl, rfl, rfl⟩
set_option maxRecDepth 100000 in
theorem zq_E_51 : zn_F cn_E 51 0 6 true (.object "RouteEngine$Line") := ⟨cn_E, ct_E, 16, cy_E, rfl, ci_E, by decide, (ze_mem (List.mem_of_getElem? (i := 318) (by decide +kernel)) rfl), co_E, ce_E, rfl, rfl, rfl⟩
set_option maxRecDepth 100000 in
theorem zq_E_55 : zn_F cn_E 55 0 7 true (.object "RouteEngine$Line") := ⟨cn_E, ct_E, 16, cy_E, rfl, ci_E, by decide, (ze_mem (List.mem_of_getElem? (i := 319) (by decide +kernel)) rfl), co_E, ce_E, rfl, rfl, rfl⟩
set_option maxRecDepth 100000 in
theorem zq_E_61 : zn_F cn_E 61 0 8 true (.object "RouteEngine$Groups") := ⟨cn_E, ct_E, 16, cy_E, rfl, ci_E, by decide, (ze_mem (List.mem_of_getElem? (i := 320) (by decide +kernel)) rfl), co_E, ce_E, rfl, rfl, rfl⟩
set_option maxRecDepth 100000 in
theorem zq_E_68 : zn_F cn_E 68 0 9 true (.object "RouteEngine$Kept") := ⟨cn_E, ct_E, 16, cy_E, rfl, ci_E, by decide, (ze_mem (List.mem_of_getElem? (i := 321) (by decide +kernel)) rfl), co_E, ce_E, rfl, rfl, rfl⟩
set_option maxRecDepth 100000 in
theorem zq_E_74 : zn_F cn_E 74 0 10 true (.array (.object "RouteEngine$Exchange")) := ⟨cn_E, ct_E, 16, cy_E, rfl, ci_E, by decide, (ze_mem (List.mem_of_getElem? (i := 322) (by decide +kernel)) rfl), co_E, ce_E, rfl, rfl, rfl⟩
set_option maxRecDepth 100000 in
theorem zq_E_79 : zn_F cn_E 79 0 11 true (.array .int) := ⟨cn_E, ct_E, 16, cy_E, rfl, ci_E, by decide, (ze_mem (List.mem_of_getElem? (i := 323) (by decide +kernel)) rfl), co_E, ce_E, rfl, rfl, rfl⟩
set_option maxRecDepth 100000 in
theorem zq_M_7 : zn_F cn_M 7 9 0 true (.array .char) := ⟨cn_M, ct_M, 61, cy_M, rfl, ci_M, by decide, (ze_mem (List.mem_of_getElem? (i := 731) (by decide +kernel)) rfl), co_M, ce_M, rfl, rfl, rfl⟩
set_option maxRecDepth 100000 in
theorem zq_M_13 : zn_F cn_M 13 9 1 true (.array .int) := ⟨cn_M, ct_M, 61, cy_M, rfl, ci_M, by decide, (ze_mem (List.mem_of_getElem? (i := 732) (by decide +kernel)) rfl), co_M, ce_M, rfl, rfl, rfl⟩
set_option maxRecDepth 100000 in
theorem zq_M_17 : zn_F cn_M 17 9 2 true (.array .char) := ⟨cn_M, ct_M, 61, cy_M, rfl, ci_M, by decide, (ze_mem (List.mem_of_getElem? (i := 733) (by decide +kernel)) rfl), co_M, ce_M, rfl, rfl, rfl⟩
set_option maxRecDepth 100000 in
theorem zq_M_20 : zn_F cn_M 20 9 3 true (.array .int) := ⟨cn_M, ct_M, 61, cy_M, rfl, ci_M, by decide, (ze_mem (List.mem_of_getElem? (i := 734) (by decide +kernel)) rfl), co_M, ce_M, rfl, rfl, rfl⟩
set_option maxRecDepth 100000 in
theorem zq_M_23 : zn_F cn_M 23 9 4 true (.array .int) := ⟨cn_M, ct_M, 61, cy_M, rfl, ci_M, by decide, (ze_mem (List.mem_of_getElem? (i := 735) (by decide +kernel)) rfl), co_M, ce_M, rfl, rfl, rfl⟩
set_option maxRecDepth 100000 in
theorem zq_M_26 : zn_F cn_M 26 9 8 true (.array .int) := ⟨cn_M, ct_M, 61, cy_M, rfl, ci_M, by decide, (ze_mem (List.mem_of_getElem? (i := 739) (by decide +kernel)) rfl), co_M, ce_M, rfl, rfl, rfl⟩
set_option maxRecDepth 100000 in
theorem zq_M_29 : zn_F cn_M 29 9 9 true (.array .int) := ⟨cn_M, ct_M, 61, cy_M, rfl, ci_M, by decide, (ze_mem (List.mem_of_getElem? (i := 740) (by decide +kernel)) rfl), co_M, ce_M, rfl, rfl, rfl⟩
set_option maxRecDepth 100000 in
theorem zq_M_32 : zn_F cn_M 32 9 10 true (.array .int) := ⟨cn_M, ct_M, 61, cy_M, rfl, ci_M, by decide, (ze_mem (List.mem_of_getElem? (i := 741) (by decide +kernel)) rfl), co_M, ce_M, rfl, rfl, rfl⟩
set_option maxRecDepth 100000 in
theorem zq_M_35 : zn_F cn_M 35 9 11 true (.array .boolean) := ⟨cn_M, ct_M, 61, cy_M, rfl, ci_M, by decide, (ze_mem (List.mem_of_getElem? (i := 742) (by decide +kernel)) rfl), co_M, ce_M, rfl, rfl, rfl⟩
set_option maxRecDepth 100000 in
theorem zq_M_39 : zn_F cn_M 39 9 12 true (.array .boolean) := ⟨cn_M, ct_M, 61, cy_M, rfl, ci_M, by decide, (ze_mem (List.mem_of_getElem? (i := 743) (by decide +kernel)) rfl), co_M, ce_M, rfl, rfl, rfl⟩
set_option maxRecDepth 100000 in
theorem zq_M_42 : zn_F cn_M 42 9 13 true (.array .int) := ⟨cn_M, ct_M, 61, cy_M, rfl, ci_M, by decide, (ze_mem (List.mem_of_getElem? (i := 744) (by decide +kernel)) rfl), co_M, ce_M, rfl, rfl, rfl⟩
set_option maxRecDepth 100000 in
theorem zq_M_45 : zn_F cn_M 45 9 14 true (.array .int) := ⟨cn_M, ct_M, 61, cy_M, rfl, ci_M, by decide, (ze_mem (List.mem_of_getElem? (i := 745) (by decide +kernel)) rfl), co_M, ce_M, rfl, rfl, rfl⟩
set_option maxRecDepth 100000 in
theorem zq_M_48 : zn_F cn_M 48 9 15 true (.array .int) := ⟨cn_M, ct_M, 61, cy_M, rfl, ci_M, by decide, (ze_mem (List.mem_of_getElem? (i := 746) (by decide +kernel)) rfl), co_M, ce_M, rfl, rfl, rfl⟩
set_option maxRecDepth 100000 in
theorem zq_M_51 : zn_F cn_M 51 9 16 true (.array .int) := ⟨cn_M, ct_M, 61, cy_M, rfl, ci_M, by decide, (ze_mem (List.mem_of_getElem? (i := 747) (by decide +kernel)) rfl), co_M, ce_M, rfl, rfl, rfl⟩
set_option maxRecDepth 100000 in
theorem zq_M_54 : zn_F cn_M 54 9 17 true (.array .int) := ⟨cn_M, ct_M, 61, cy_M, rfl, ci_M, by decide, (ze_mem (List.mem_of_getElem? (i := 748) (by decide +kernel)) rfl), co_M, ce_M, rfl, rfl, rfl⟩
set_option maxRecDepth 100000 in
theorem zq_M_57 : zn_F cn_M 57 9 19 true (.array .int) := ⟨cn_M, ct_M, 61, cy_M, rfl, ci_M, by decide, (ze_mem (List.mem_of_getElem? (i := 750) (by decide +kernel)) rfl), co_M, ce_M, rfl, rfl, rfl⟩
set_option maxRecDepth 100000 in
theorem zq_M_60 : zn_F cn_M 60 9 20 true (.array .int) := ⟨cn_M, ct_M, 61, cy_M, rfl, ci_M, by decide, (ze_mem (List.mem_of_getElem? (i := 751) (by decide +kernel)) rfl), co_M, ce_M, rfl, rfl, rfl⟩
set_option maxRecDepth 100000 in
theorem zq_M_63 : zn_F cn_M 63 9 21 true (.array .int) := ⟨cn_M, ct_M, 61, cy_M, rfl, ci_M, by decide, (ze_mem (List.mem_of_getElem? (i := 752) (by decide +kernel)) rfl), co_M, ce_M, rfl, rfl, rfl⟩
set_option maxRecDepth 100000 in
theorem zq_M_66 : zn_F cn_M 66 9 23 true (.array .int) := ⟨cn_M, ct_M, 61, cy_M, rfl, ci_M, by decide, (ze_mem (List.mem_of_getElem? (i := 754) (by decide +kernel)) rfl), co_M, ce_M, rfl, rfl, rfl⟩
set_option maxRecDepth 100000 in
theorem zq_M_69 : zn_F cn_M 69 9 24 true (.array .int) := ⟨cn_M, ct_M, 61, cy_M, rfl, ci_M, by decide, (ze_mem (List.mem_of_getElem? (i := 755) (by decide +kernel)) rfl), co_M, ce_M, rfl, rfl, rfl⟩
set_option maxRecDepth 100000 in
theorem zq_M_72 : zn_F cn_M 72 9 25 true (.array .int) := ⟨cn_M, ct_M, 61, cy_M, rfl, ci_M, by decide, (ze_mem (List.mem_of_getElem? (i := 756) (by decide +kernel)) rfl), co_M, ce_M, rfl, rfl, rfl⟩
set_option maxRecDepth 100000 in
theorem zq_M_75 : zn_F cn_M 75 9 26 true (.array .int) := ⟨cn_M, ct_M, 61, cy_M, rfl, ci_M, by decide, (ze_mem (List.mem_of_getElem? (i := 757) (by decide +kernel)) rfl), co_M, ce_M, rfl, rfl, rfl⟩
set_option maxRecDepth 100000 in
theorem zq_M_78 : zn_F cn_M 78 9 27 true (.array .int) := ⟨cn_M, ct_M, 61, cy_M, rfl, ci_M, by decide, (ze_mem (List.mem_of_getElem? (i := 758) (by decide +kernel)) rfl), co_M, ce_M, rfl, rfl, rfl⟩
set_option maxRecDepth 100000 in
theorem zq_M_81 : zn_F cn_M 81 9 28 true (.array .int) := ⟨cn_M, ct_M, 61, cy_M, rfl, ci_M, by decide, (ze_mem (List.mem_of_getElem? (i := 759) (by decide +kernel)) rfl), co_M, ce_M, rfl, rfl, rfl⟩
set_option maxRecDepth 100000 in
theorem zq_M_84 : zn_F cn_M 84 9 30 true (.array .int) := ⟨cn_M, ct_M, 61, cy_M, rfl, ci_M, by decide, (ze_mem (List.mem_of_getElem? (i := 761) (by decide +kernel)) rfl), co_M, ce_M, rfl, rfl, rfl⟩
set_option maxRecDepth 100000 in
theorem zq_M_87 : zn_F cn_M 87 9 31 true (.array .int) := ⟨cn_M, ct_M, 61, cy_M, rfl, ci_M, by decide, (ze_mem (List.mem_of_getElem? (i := 762) (by decide +kernel)) rfl), co_M, ce_M, rfl, rfl, rfl⟩
set_option maxRecDepth 100000 in
theorem zq_M_90 : zn_F cn_M 90 9 32 true (.array .int) := ⟨cn_M, ct_M, 61, cy_M, rfl, ci_M, by decide, (ze_mem (List.mem_of_getElem? (i := 763) (by decide +kernel)) rfl), co_M, ce_M, rfl, rfl, rfl⟩
set_option maxRecDepth 100000 in
theorem zq_M_93 : zn_F cn_M 93 9 33 true (.array .int) := ⟨cn_M, ct_M, 61, cy_M, rfl, ci_M, by decide, (ze_mem (List.mem_of_getElem? (i := 764) (by decide +kernel)) rfl), co_M, ce_M, rfl, rfl, rfl⟩
set_option maxRecDepth 100000 in
theorem zq_M_96 : zn_F cn_M 96 9 34 true (.array .int) := ⟨cn_M, ct_M, 61, cy_M, rfl, ci_M, by decide, (ze_mem (List.mem_of_getElem? (i := 765) (by decide +kernel)) rfl), co_M, ce_M, rfl, rfl, rfl⟩
set_option maxRecDepth 100000 in
theorem zq_M_99 : zn_F cn_M 99 9 37 true (.array .int) := ⟨cn_M, ct_M, 61, cy_M, rfl, ci_M, by decide, (ze_mem (List.mem_of_getElem? (i := 768) (by decide +kernel)) rfl), co_M, ce_M, rfl, rfl, rfl⟩
set_option maxRecDepth 100000 in
theorem zq_M_102 : zn_F cn_M 102 9 38 true (.array .int) := ⟨cn_M, ct_M, 61, cy_M, rfl, ci_M, by decide, (ze_mem (List.mem_of_getElem? (i := 769) (by decide +kernel)) rfl), co_M, ce_M, rfl, rfl, rfl⟩
set_option maxRecDepth 100000 in
theorem zq_M_105 : zn_F cn_M 105 9 39 true (.array .int) := ⟨cn_M, ct_M, 61, cy_M, rfl, ci_M, by decide, (ze_mem (List.mem_of_getElem? (i := 770) (by decide +kernel)) rfl), co_M, ce_M, rfl, rfl, rfl⟩
set_option maxRecDepth 100000 in
theorem zq_M_108 : zn_F cn_M 108 9 41 true (.array .int) := ⟨cn_M, ct_M, 61, cy_M, rfl, ci_M, by decide, (ze_mem (List.mem_of_getElem? (i := 772) (by decide +kernel)) rfl), co_M, ce_M, rfl, rfl, rfl⟩
set_option maxRecDepth 100000 in
theorem zq_M_111 : zn_F cn_M 111 9 42 true (.array .int) := ⟨cn_M, ct_M, 61, cy_M, rfl, ci_M, by decide, (ze_mem (List.mem_of_getElem? (i := 773) (by decide +kernel)) rfl), co_M, ce_M, rfl, rfl, rfl⟩
set_option maxRecDepth 100000 in
theorem zq_M_114 : zn_F cn_M 114 9 43 true (.array .int) := ⟨cn_M, ct_M, 61, cy_M, rfl, ci_M, by decide, (ze_mem (List.mem_of_getElem? (i := 774) (by decide +kernel)) rfl), co_M, ce_M, rfl, rfl, rfl⟩
set_option maxRecDepth 100000 in
theorem zq_M_117 : zn_F cn_M 117 9 45 true (.array .int) := ⟨cn_M, ct_M, 61, cy_M, rfl, ci_M, by decide, (ze_mem (List.mem_of_getElem? (i := 776) (by decide +kernel)) rfl), co_M, ce_M, rfl, rfl, rfl⟩
set_option maxRecDepth 100000 in
theorem zq_M_120 : zn_F cn_M 120 9 46 true (.array .int) := ⟨cn_M, ct_M, 61, cy_M, rfl, ci_M, by decide, (ze_mem (List.mem_of_getElem? (i := 777) (by decide +kernel)) rfl), co_M, ce_M, rfl, rfl, rfl⟩
set_option maxRecDepth 100000 in
theorem zq_M_123 : zn_F cn_M 123 9 47 true (.array .int) := ⟨cn_M, ct_M, 61, cy_M, rfl, ci_M, by decide, (ze_mem (List.mem_of_getElem? (i := 778) (by decide +kernel)) rfl), co_M, ce_M, rfl, rfl, rfl⟩
set_option maxRecDepth 100000 in
theorem zq_M_126 : zn_F cn_M 126 9 48 true (.array .int) := ⟨cn_M, ct_M, 61, cy_M, rfl, ci_M, by decide, (ze_mem (List.mem_of_getElem? (i := 779) (by decide +kernel)) rfl), co_M, ce_M, rfl, rfl, rfl⟩
set_option maxRecDepth 100000 in
theorem zq_M_129 : zn_F cn_M 129 9 49 true (.array .int) := ⟨cn_M, ct_M, 61, cy_M, rfl, ci_M, by decide, (ze_mem (List.mem_of_getElem? (i := 780) (by decide +kernel)) rfl), co_M, ce_M, rfl, rfl, rfl⟩
set_option maxRecDepth 100000 in
theorem zq_M_132 : zn_F cn_M 132 9 50 true (.array .int) := ⟨cn_M, ct_M, 61, cy_M, rfl, ci_M, by decide, (ze_mem (List.mem_of_getElem? (i := 781) (by decide +kernel)) rfl), co_M, ce_M, rfl, rfl, rfl⟩
set_option maxRecDepth 100000 in
theorem zq_M_135 : zn_F cn_M 135 9 51 true (.array .int) := ⟨cn_M, ct_M, 61, cy_M, rfl, ci_M, by decide, (ze_mem (List.mem_of_getElem? (i := 782) (by decide +kernel)) rfl), co_M, ce_M, rfl, rfl, rfl⟩
set_option maxRecDepth 100000 in
theorem zq_M_138 : zn_F cn_M 138 9 52 true (.array .int) := ⟨cn_M, ct_M, 61, cy_M, rfl, ci_M, by decide, (ze_mem (List.mem_of_getElem? (i := 783) (by decide +kernel)) rfl), co_M, ce_M, rfl, rfl, rfl⟩
set_option maxRecDepth 100000 in
theorem zq_M_141 : zn_F cn_M 141 9 60 true (.array .int) := ⟨cn_M, ct_M, 61, cy_M, rfl, ci_M, by decide, (ze_mem (List.mem_of_getElem? (i := 791) (by decide +kernel)) rfl), co_M, ce_M, rfl, rfl, rfl⟩
def cw_P (ca : Nat → ClassId) (h0 : Nat)  : (Nat → Nat) → va_W := fun u => [(h0, .inr (1, [.ref (u 1), .ref (u 2), .ref (u 3), .ref (u 4), .ref (u 5), .ref (u 6)])), ((u 1), .inl (ca 1, 164, .inl (fun _ => 0))), ((u 2), .inl (ca 0, 164, .inl (fun _ => 0))), ((u 3), .inl (ca 0, 164, .inl (fun _ => 0))), ((u 4), .inl (ca 0, 164, .inl (fun _ => 0))), ((u 5), .inl (ca 0, 164, .inl (fun _ => 0))), ((u 6), .inl (ca 0, 164, .inl (fun _ => 0)))]
set_option maxHeartbeats 8000000 in
set_option maxRecDepth 100000 in
theorem cj_P {l : Launch} {D : va_G} {ca : Nat → ClassId} (h0 : Nat)  : zn_M l D ca my_P_init bc_P_init 1 1 20 6 984 [.inr h0] (h0, .inr (1, [.null, .null, .null, .null, .null, .null])) (cw_P ca h0 ) := by
  refine zn_M_of (plainFor_of_name (by decide)) rfl (Nat.le_of_ble_eq_true rfl) (fun G A e1 e2 e3 X Y hI => ?_)
  subst e1 e2 e3
  show zn_T G A [(h0, .inr (1, [.null, .null, .null, .null, .null, .null]))] 0 0 0 [some (.inr h0)] []
  refine zn_aload_n X dc_P_init_0 rfl rfl ?_
  refine zn_obj X dc_P_init_1 (ze_mem (List.mem_of_getElem? (i := 99) (by decide +kernel)) rfl) (ze_mem (List.mem_of_getElem? (i := 92) (by decide +kernel)) rfl) (ze_mem (List.mem_of_getElem? (i := 93) rfl) rfl) (by decide) (by decide) (Nat.le_of_ble_eq_true rfl) ?_
  refine zn_aload_n X dc_P_init_4 rfl rfl ?_
  refine zn_sipush (x := 164) X dc_P_init_5 (by decide) ?_
  refine zn_newa (t := 1) (N := 164) (ty := .char) X dc_P_init_8 rfl (ze_mem (List.mem_of_getElem? (i := 130) (by decide +kernel)) rfl) rfl (fun _ h => h) (fun _ => rfl) (by decide) (by decide) (by decide) (by decide) (by decide) (fun q1 => ?_)
  refine zn_eq (ws1 := [(h0, .inr (1, [.null, .null, .null, .null, .null, .null])), (q1, .inl (ze_ca G 1, 164, .inl (fun _ => 0)))]) rfl ?_
  refine zn_num (c1 := 1) (s1 := 164) rfl rfl ?_
  refine zn_putF (k0 := 0) (ty := (.array .char)) (w := .inr q1) X dc_P_init_10 hI zq_P_9 rfl (Nat.le_of_ble_eq_true rfl) rfl rfl ?_
  refine zn_eq (ws1 := [(h0, .inr (1, [.ref q1, .null, .null, .null, .null, .null])), (q1, .inl (ze_ca G 1, 164, .inl (fun _ => 0)))]) rfl ?_
  refine zn_num (c1 := 1) (s1 := 164) rfl rfl ?_
  refine zn_aload_n X dc_P_init_13 rfl rfl ?_
  refine zn_sipush (x := 164) X dc_P_init_14 (by decide) ?_
  refine zn_newa (t := 0) (N := 164) (ty := .int) X dc_P_init_17 rfl (ze_mem (List.mem_of_getElem? (i := 129) (by decide +kernel)) rfl) rfl (fun _ h => h) (fun _ => rfl) (by decide) (by decide) (by decide) (by decide) (by decide) (fun q2 => ?_)
  refine zn_eq (ws1 := [(h0, .inr (1, [.ref q1, .null, .null, .null, .null, .null])), (q1, .inl (ze_ca G 1, 164, .inl (fun _ => 0))), (q2, .inl (ze_ca G 0, 164, .inl (fun _ => 0)))]) rfl ?_
  refine zn_num (c1 := 2) (s1 := 328) rfl rfl ?_
  refine zn_putF (k0 := 0) (ty := (.array .int)) (w := .inr q2) X dc_P_init_19 hI zq_P_15 rfl (Nat.le_of_ble_eq_true rfl) rfl rfl ?_
  refine zn_eq (ws1 := [(h0, .inr (1, [.ref q1, .ref q2, .null, .null, .null, .null])), (q1, .inl (ze_ca G 1, 164, .inl (fun _ => 0))), (q2, .inl (ze_ca G 0, 164, .inl (fun _ => 0)))]) rfl ?_
  refine zn_num (c1 := 2) (s1 := 328) rfl rfl ?_
  refine zn_aload_n X dc_P_init_22 rfl rfl ?_
  refine zn_sipush (x := 164) X dc_P_init_23 (by decide) ?_
  refine zn_newa (t := 0) (N := 164) (ty := .int) X dc_P_init_26 rfl (ze_mem (List.mem_of_getElem? (i := 129) (by decide +kernel)) rfl) rfl (fun _ h => h) (fun _ => rfl) (by decide) (by decide) (by decide) (by decide) (by decide) (fun q3 => ?_)
  refine zn_eq (ws1 := [(h0, .inr (1, [.ref q1, .ref q2, .null, .null, .null, .null])), (q1, .inl (ze_ca G 1, 164, .inl (fun _ => 0))), (q2, .inl (ze_ca G 0, 164, .inl (fun _ => 0))), (q3, .inl (ze_ca G 0, 164, .inl (fun _ => 0)))]) rfl ?_
  refine zn_num (c1 := 3) (s1 := 492) rfl rfl ?_
  refine zn_putF (k0 := 0) (ty := (.array .int)) (w := .inr q3) X dc_P_init_28 hI zq_P_19 rfl (Nat.le_of_ble_eq_true rfl) rfl rfl ?_
  refine zn_eq (ws1 := [(h0, .inr (1, [.ref q1, .ref q2, .ref q3, .null, .null, .null])), (q1, .inl (ze_ca G 1, 164, .inl (fun _ => 0))), (q2, .inl (ze_ca G 0, 164, .inl (fun _ => 0))), (q3, .inl (ze_ca G 0, 164, .inl (fun _ => 0)))]) rfl ?_
  refine zn_num (c1 := 3) (s1 := 492) rfl rfl ?_
  refine zn_aload_n X dc_P_init_31 rfl rfl ?_
  refine zn_sipush (x := 164) X dc_P_init_32 (by decide) ?_
  refine zn_newa (t := 0) (N := 164) (ty := .int) X dc_P_init_35 rfl (ze_mem (List.mem_of_getElem? (i := 129) (by decide +kernel)) rfl) rfl (fun _ h => h) (fun _ => rfl) (by decide) (by decide) (by decide) (by decide) (by decide) (fun q4 => ?_)
  refine zn_eq (ws1 := [(h0, .inr (1, [.ref q1, .ref q2, .ref q3, .null, .null, .null])), (q1, .inl (ze_ca G 1, 164, .inl (fun _ => 0))), (q2, .inl (ze_ca G 0, 164, .inl (fun _ => 0))), (q3, .inl (ze_ca G 0, 164, .inl (fun _ => 0))), (q4, .inl (ze_ca G 0, 164, .inl (fun _ => 0)))]) rfl ?_
  refine zn_num (c1 := 4) (s1 := 656) rfl rfl ?_
  refine zn_putF (k0 := 0) (ty := (.array .int)) (w := .inr q4) X dc_P_init_37 hI zq_P_22 rfl (Nat.le_of_ble_eq_true rfl) rfl rfl ?_
  refine zn_eq (ws1 := [(h0, .inr (1, [.ref q1, .ref q2, .ref q3, .ref q4, .null, .null])), (q1, .inl (ze_ca G 1, 164, .inl (fun _ => 0))), (q2, .inl (ze_ca G 0, 164, .inl (fun _ => 0))), (q3, .inl (ze_ca G 0, 164, .inl (fun _ => 0))), (q4, .inl (ze_ca G 0, 164, .inl (fun _ => 0)))]) rfl ?_
  refine zn_num (c1 := 4) (s1 := 656) rfl rfl ?_
  refine zn_aload_n X dc_P_init_40 rfl rfl ?_
  refine zn_sipush (x := 164) X dc_P_init_41 (by decide) ?_
  refine zn_newa (t := 0) (N := 164) (ty := .int) X dc_P_init_44 rfl (ze_mem (List.mem_of_getElem? (i := 129) (by decide +kernel)) rfl) rfl (fun _ h => h) (fun _ => rfl) (by decide) (by decide) (by decide) (by decide) (by decide) (fun q5 => ?_)
  refine zn_eq (ws1 := [(h0, .inr (1, [.ref q1, .ref q2, .ref q3, .ref q4, .null, .null])), (q1, .inl (ze_ca G 1, 164, .inl (fun _ => 0))), (q2, .inl (ze_ca G 0, 164, .inl (fun _ => 0))), (q3, .inl (ze_ca G 0, 164, .inl (fun _ => 0))), (q4, .inl (ze_ca G 0, 164, .inl (fun _ => 0))), (q5, .inl (ze_ca G 0, 164, .inl (fun _ => 0)))]) rfl ?_
  refine zn_num (c1 := 5) (s1 := 820) rfl rfl ?_
  refine zn_putF (k0 := 0) (ty := (.array .int)) (w := .inr q5) X dc_P_init_46 hI zq_P_25 rfl (Nat.le_of_ble_eq_true rfl) rfl rfl ?_
  refine zn_eq (ws1 := [(h0, .inr (1, [.ref q1, .ref q2, .ref q3, .ref q4, .ref q5, .null])), (q1, .inl (ze_ca G 1, 164, .inl (fun _ => 0))), (q2, .inl (ze_ca G 0, 164, .inl (fun _ => 0))), (q3, .inl (ze_ca G 0, 164, .inl (fun _ => 0))), (q4, .inl (ze_ca G 0, 164, .inl (fun _ => 0))), (q5, .inl (ze_ca G 0, 164, .inl (fun _ => 0)))]) rfl ?_
  refine zn_num (c1 := 5) (s1 := 820) rfl rfl ?_
  refine zn_aload_n X dc_P_init_49 rfl rfl ?_
  refine zn_sipush (x := 164) X dc_P_init_50 (by decide) ?_
  refine zn_newa (t := 0) (N := 164) (ty := .int) X dc_P_init_53 rfl (ze_mem (List.mem_of_getElem? (i := 129) (by decide +kernel)) rfl) rfl (fun _ h => h) (fun _ => rfl) (by decide) (by decide) (by decide) (by decide) (by decide) (fun q6 => ?_)
  refine zn_eq (ws1 := [(h0, .inr (1, [.ref q1, .ref q2, .ref q3, .ref q4, .ref q5, .null])), (q1, .inl (ze_ca G 1, 164, .inl (fun _ => 0))), (q2, .inl (ze_ca G 0, 164, .inl (fun _ => 0))), (q3, .inl (ze_ca G 0, 164, .inl (fun _ => 0))), (q4, .inl (ze_ca G 0, 164, .inl (fun _ => 0))), (q5, .inl (ze_ca G 0, 164, .inl (fun _ => 0))), (q6, .inl (ze_ca G 0, 164, .inl (fun _ => 0)))]) rfl ?_
  refine zn_num (c1 := 6) (s1 := 984) rfl rfl ?_
  refine zn_putF (k0 := 0) (ty := (.array .int)) (w := .inr q6) X dc_P_init_55 hI zq_P_28 rfl (Nat.le_of_ble_eq_true rfl) rfl rfl ?_
  refine zn_eq (ws1 := [(h0, .inr (1, [.ref q1, .ref q2, .ref q3, .ref q4, .ref q5, .ref q6])), (q1, .inl (ze_ca G 1, 164, .inl (fun _ => 0))), (q2, .inl (ze_ca G 0, 164, .inl (fun _ => 0))), (q3, .inl (ze_ca G 0, 164, .inl (fun _ => 0))), (q4, .inl (ze_ca G 0, 164, .inl (fun _ => 0))), (q5, .inl (ze_ca G 0, 164, .inl (fun _ => 0))), (q6, .inl (ze_ca G 0, 164, .inl (fun _ => 0)))]) rfl ?_
  refine zn_num (c1 := 6) (s1 := 984) rfl rfl ?_
  exact zn_vret X Y (fun j => [h0, q1, q2, q3, q4, q5, q6].getD j 0) dc_P_init_58 rfl
def cw_R (ca : Nat → ClassId) (h0 : Nat) (b1 : Nat) : (Nat → Nat) → va_W := fun u => [(h0, .inr (2, [.ref b1, .int 0, .int 0, .int (-1)]))]
set_option maxHeartbeats 8000000 in
set_option maxRecDepth 100000 in
theorem cj_R {l : Launch} {D : va_G} {ca : Nat → ClassId} (h0 : Nat) (b1 : Nat) : zn_M l D ca my_R_init bc_R_init 2 1 20 0 0 [.inr h0, .inr b1] (h0, .inr (2, [.null, .int 0, .int 0, .int 0])) (cw_R ca h0 b1) := by
  refine zn_M_of (plainFor_of_name (by decide)) rfl (Nat.le_of_ble_eq_true rfl) (fun G A e1 e2 e3 X Y hI => ?_)
  subst e1 e2 e3
  show zn_T G A [(h0, .inr (2, [.null, .int 0, .int 0, .int 0]))] 0 0 0 [some (.inr h0), some (.inr b1)] []
  refine zn_aload_n X dc_R_init_0 rfl rfl ?_
  refine zn_obj X dc_R_init_1 (ze_mem (List.mem_of_getElem? (i := 136) (by decide +kernel)) rfl) (ze_mem (List.mem_of_getElem? (i := 92) (by decide +kernel)) rfl) (ze_mem (List.mem_of_getElem? (i := 93) rfl) rfl) (by decide) (by decide) (Nat.le_of_ble_eq_true rfl) ?_
  refine zn_aload_n X dc_R_init_4 rfl rfl ?_
  refine zn_aload_n X dc_R_init_5 rfl rfl ?_
  refine zn_putF (k0 := 0) (ty := (.object "RouteEngine$Program")) (w := .inr b1) X dc_R_init_6 hI zq_R_9 rfl (Nat.le_of_ble_eq_true rfl) rfl rfl ?_
  refine zn_eq (ws1 := [(h0, .inr (2, [.ref b1, .int 0, .int 0, .int 0]))]) rfl ?_
  refine zn_num (c1 := 0) (s1 := 0) rfl rfl ?_
  refine zn_aload_n X dc_R_init_9 rfl rfl ?_
  refine zn_iconst (x := (-1)) X dc_R_init_10 (by decide) ?_
  refine zn_put (k0 := 0) (ty := .int) (w := .inl (-1)) X dc_R_init_11 zq_R_15 rfl (Nat.le_of_ble_eq_true rfl) rfl rfl ?_
  refine zn_eq (ws1 := [(h0, .inr (2, [.ref b1, .int 0, .int 0, .int (-1)]))]) rfl ?_
  refine zn_num (c1 := 0) (s1 := 0) rfl rfl ?_
  exact zn_vret X Y (fun j => [h0].getD j 0) dc_R_init_14 rfl
def cw_C (ca : Nat → ClassId) (h0 : Nat)  : (Nat → Nat) → va_W := fun u => [(h0, .inr (3, [.ref (u 1), .ref (u 2), .ref (u 3), .ref (u 4), .ref (u 5), .int 0])), ((u 1), .inl (ca 0, 4, .inl (fun _ => 0))), ((u 2), .inl (ca 0, 4, .inl (fun _ => 0))), ((u 3), .inl (ca 0, 4, .inl (fun _ => 0))), ((u 4), .inl (ca 2, 4, .inl (fun _ => 0))), ((u 5), .inl (ca 2, 4, .inl (fun _ => 0)))]
set_option maxHeartbeats 8000000 in
set_option maxRecDepth 100000 in
theorem cj_C {l : Launch} {D : va_G} {ca : Nat → ClassId} (h0 : Nat)  : zn_M l D ca my_C_init bc_C_init 1 1 20 5 20 [.inr h0] (h0, .inr (3, [.null, .null, .null, .null, .null, .int 0])) (cw_C ca h0 ) := by
  refine zn_M_of (plainFor_of_name (by decide)) rfl (Nat.le_of_ble_eq_true rfl) (fun G A e1 e2 e3 X Y hI => ?_)
  subst e1 e2 e3
  show zn_T G A [(h0, .inr (3, [.null, .null, .null, .null, .null, .int 0]))] 0 0 0 [some (.inr h0)] []
  refine zn_aload_n X dc_C_init_0 rfl rfl ?_
  refine zn_obj X dc_C_init_1 (ze_mem (List.mem_of_getElem? (i := 155) (by decide +kernel)) rfl) (ze_mem (List.mem_of_getElem? (i := 92) (by decide +kernel)) rfl) (ze_mem (List.mem_of_getElem? (i := 93) rfl) rfl) (by decide) (by decide) (Nat.le_of_ble_eq_true rfl) ?_
  refine zn_aload_n X dc_C_init_4 rfl rfl ?_
  refine zn_iconst (x := 4) X dc_C_init_5 (by decide) ?_
  refine zn_newa (t := 0) (N := 4) (ty := .int) X dc_C_init_6 rfl (ze_mem (List.mem_of_getElem? (i := 129) (by decide +kernel)) rfl) rfl (fun _ h => h) (fun _ => rfl) (by decide) (by decide) (by decide) (by decide) (by decide) (fun q1 => ?_)
  refine zn_eq (ws1 := [(h0, .inr (3, [.null, .null, .null, .null, .null, .int 0])), (q1, .inl (ze_ca G 0, 4, .inl (fun _ => 0)))]) rfl ?_
  refine zn_num (c1 := 1) (s1 := 4) rfl rfl ?_
  refine zn_putF (k0 := 0) (ty := (.array .int)) (w := .inr q1) X dc_C_init_8 hI zq_C_9 rfl (Nat.le_of_ble_eq_true rfl) rfl rfl ?_
  refine zn_eq (ws1 := [(h0, .inr (3, [.ref q1, .null, .null, .null, .null, .int 0])), (q1, .inl (ze_ca G 0, 4, .inl (fun _ => 0)))]) rfl ?_
  refine zn_num (c1 := 1) (s1 := 4) rfl rfl ?_
  refine zn_aload_n X dc_C_init_11 rfl rfl ?_
  refine zn_iconst (x := 4) X dc_C_init_12 (by decide) ?_
  refine zn_newa (t := 0) (N := 4) (ty := .int) X dc_C_init_13 rfl (ze_mem (List.mem_of_getElem? (i := 129) (by decide +kernel)) rfl) rfl (fun _ h => h) (fun _ => rfl) (by decide) (by decide) (by decide) (by decide) (by decide) (fun q2 => ?_)
  refine zn_eq (ws1 := [(h0, .inr (3, [.ref q1, .null, .null, .null, .null, .int 0])), (q1, .inl (ze_ca G 0, 4, .inl (fun _ => 0))), (q2, .inl (ze_ca G 0, 4, .inl (fun _ => 0)))]) rfl ?_
  refine zn_num (c1 := 2) (s1 := 8) rfl rfl ?_
  refine zn_putF (k0 := 0) (ty := (.array .int)) (w := .inr q2) X dc_C_init_15 hI zq_C_15 rfl (Nat.le_of_ble_eq_true rfl) rfl rfl ?_
  refine zn_eq (ws1 := [(h0, .inr (3, [.ref q1, .ref q2, .null, .null, .null, .int 0])), (q1, .inl (ze_ca G 0, 4, .inl (fun _ => 0))), (q2, .inl (ze_ca G 0, 4, .inl (fun _ => 0)))]) rfl ?_
  refine zn_num (c1 := 2) (s1 := 8) rfl rfl ?_
  refine zn_aload_n X dc_C_init_18 rfl rfl ?_
  refine zn_iconst (x := 4) X dc_C_init_19 (by decide) ?_
  refine zn_newa (t := 0) (N := 4) (ty := .int) X dc_C_init_20 rfl (ze_mem (List.mem_of_getElem? (i := 129) (by decide +kernel)) rfl) rfl (fun _ h => h) (fun _ => rfl) (by decide) (by decide) (by decide) (by decide) (by decide) (fun q3 => ?_)
  refine zn_eq (ws1 := [(h0, .inr (3, [.ref q1, .ref q2, .null, .null, .null, .int 0])), (q1, .inl (ze_ca G 0, 4, .inl (fun _ => 0))), (q2, .inl (ze_ca G 0, 4, .inl (fun _ => 0))), (q3, .inl (ze_ca G 0, 4, .inl (fun _ => 0)))]) rfl ?_
  refine zn_num (c1 := 3) (s1 := 12) rfl rfl ?_
  refine zn_putF (k0 := 0) (ty := (.array .int)) (w := .inr q3) X dc_C_init_22 hI zq_C_18 rfl (Nat.le_of_ble_eq_true rfl) rfl rfl ?_
  refine zn_eq (ws1 := [(h0, .inr (3, [.ref q1, .ref q2, .ref q3, .null, .null, .int 0])), (q1, .inl (ze_ca G 0, 4, .inl (fun _ => 0))), (q2, .inl (ze_ca G 0, 4, .inl (fun _ => 0))), (q3, .inl (ze_ca G 0, 4, .inl (fun _ => 0)))]) rfl ?_
  refine zn_num (c1 := 3) (s1 := 12) rfl rfl ?_
  refine zn_aload_n X dc_C_init_25 rfl rfl ?_
  refine zn_iconst (x := 4) X dc_C_init_26 (by decide) ?_
  refine zn_newa (t := 2) (N := 4) (ty := .boolean) X dc_C_init_27 rfl (ze_mem (List.mem_of_getElem? (i := 180) (by decide +kernel)) rfl) rfl (fun _ h => h) (fun _ => rfl) (by decide) (by decide) (by decide) (by decide) (by decide) (fun q4 => ?_)
  refine zn_eq (ws1 := [(h0, .inr (3, [.ref q1, .ref q2, .ref q3, .null, .null, .int 0])), (q1, .inl (ze_ca G 0, 4, .inl (fun _ => 0))), (q2, .inl (ze_ca G 0, 4, .inl (fun _ => 0))), (q3, .inl (ze_ca G 0, 4, .inl (fun _ => 0))), (q4, .inl (ze_ca G 2, 4, .inl (fun _ => 0)))]) rfl ?_
  refine zn_num (c1 := 4) (s1 := 16) rfl rfl ?_
  refine zn_putF (k0 := 0) (ty := (.array .boolean)) (w := .inr q4) X dc_C_init_29 hI zq_C_21 rfl (Nat.le_of_ble_eq_true rfl) rfl rfl ?_
  refine zn_eq (ws1 := [(h0, .inr (3, [.ref q1, .ref q2, .ref q3, .ref q4, .null, .int 0])), (q1, .inl (ze_ca G 0, 4, .inl (fun _ => 0))), (q2, .inl (ze_ca G 0, 4, .inl (fun _ => 0))), (q3, .inl (ze_ca G 0, 4, .inl (fun _ => 0))), (q4, .inl (ze_ca G 2, 4, .inl (fun _ => 0)))]) rfl ?_
  refine zn_num (c1 := 4) (s1 := 16) rfl rfl ?_
  refine zn_aload_n X dc_C_init_32 rfl rfl ?_
  refine zn_iconst (x := 4) X dc_C_init_33 (by decide) ?_
  refine zn_newa (t := 2) (N := 4) (ty := .boolean) X dc_C_init_34 rfl (ze_mem (List.mem_of_getElem? (i := 180) (by decide +kernel)) rfl) rfl (fun _ h => h) (fun _ => rfl) (by decide) (by decide) (by decide) (by decide) (by decide) (fun q5 => ?_)
  refine zn_eq (ws1 := [(h0, .inr (3, [.ref q1, .ref q2, .ref q3, .ref q4, .null, .int 0])), (q1, .inl (ze_ca G 0, 4, .inl (fun _ => 0))), (q2, .inl (ze_ca G 0, 4, .inl (fun _ => 0))), (q3, .inl (ze_ca G 0, 4, .inl (fun _ => 0))), (q4, .inl (ze_ca G 2, 4, .inl (fun _ => 0))), (q5, .inl (ze_ca G 2, 4, .inl (fun _ => 0)))]) rfl ?_
  refine zn_num (c1 := 5) (s1 := 20) rfl rfl ?_
  refine zn_putF (k0 := 0) (ty := (.array .boolean)) (w := .inr q5) X dc_C_init_36 hI zq_C_25 rfl (Nat.le_of_ble_eq_true rfl) rfl rfl ?_
  refine zn_eq (ws1 := [(h0, .inr (3, [.ref q1, .ref q2, .ref q3, .ref q4, .ref q5, .int 0])), (q1, .inl (ze_ca G 0, 4, .inl (fun _ => 0))), (q2, .inl (ze_ca G 0, 4, .inl (fun _ => 0))), (q3, .inl (ze_ca G 0, 4, .inl (fun _ => 0))), (q4, .inl (ze_ca G 2, 4, .inl (fun _ => 0))), (q5, .inl (ze_ca G 2, 4, .inl (fun _ => 0)))]) rfl ?_
  refine zn_num (c1 := 5) (s1 := 20) rfl rfl ?_
  exact zn_vret X Y (fun j => [h0, q1, q2, q3, q4, q5].getD j 0) dc_C_init_39 rfl
def cw_N (ca : Nat → ClassId) (h0 : Nat)  : (Nat → Nat) → va_W := fun u => [(h0, .inr (4, [.ref (u 1), .ref (u 2), .int 0, .int 0, .int 0])), ((u 1), .inl (ca 0, 8, .inl (fun _ => 0))), ((u 2), .inl (ca 0, 8, .inl (fun _ => 0)))]
set_option maxHeartbeats 8000000 in
set_option maxRecDepth 100000 in
theorem cj_N {l : Launch} {D : va_G} {ca : Nat → ClassId} (h0 : Nat)  : zn_M l D ca my_N_init bc_N_init 1 1 20 2 16 [.inr h0] (h0, .inr (4, [.null, .null, .int 0, .int 0, .int 0])) (cw_N ca h0 ) := by
  refine zn_M_of (plainFor_of_name (by decide)) rfl (Nat.le_of_ble_eq_true rfl) (fun G A e1 e2 e3 X Y hI => ?_)
  subst e1 e2 e3
  show zn_T G A [(h0, .inr (4, [.null, .null, .int 0, .int 0, .int 0]))] 0 0 0 [some (.inr h0)] []
  refine zn_aload_n X dc_N_init_0 rfl rfl ?_
  refine zn_obj X dc_N_init_1 (ze_mem (List.mem_of_getElem? (i := 187) (by decide +kernel)) rfl) (ze_mem (List.mem_of_getElem? (i := 92) (by decide +kernel)) rfl) (ze_mem (List.mem_of_getElem? (i := 93) rfl) rfl) (by decide) (by decide) (Nat.le_of_ble_eq_true rfl) ?_
  refine zn_aload_n X dc_N_init_4 rfl rfl ?_
  refine zn_bipush (x := 8) X dc_N_init_5 (by decide) ?_
  refine zn_newa (t := 0) (N := 8) (ty := .int) X dc_N_init_7 rfl (ze_mem (List.mem_of_getElem? (i := 129) (by decide +kernel)) rfl) rfl (fun _ h => h) (fun _ => rfl) (by decide) (by decide) (by decide) (by decide) (by decide) (fun q1 => ?_)
  refine zn_eq (ws1 := [(h0, .inr (4, [.null, .null, .int 0, .int 0, .int 0])), (q1, .inl (ze_ca G 0, 8, .inl (fun _ => 0)))]) rfl ?_
  refine zn_num (c1 := 1) (s1 := 8) rfl rfl ?_
  refine zn_putF (k0 := 0) (ty := (.array .int)) (w := .inr q1) X dc_N_init_9 hI zq_N_9 rfl (Nat.le_of_ble_eq_true rfl) rfl rfl ?_
  refine zn_eq (ws1 := [(h0, .inr (4, [.ref q1, .null, .int 0, .int 0, .int 0])), (q1, .inl (ze_ca G 0, 8, .inl (fun _ => 0)))]) rfl ?_
  refine zn_num (c1 := 1) (s1 := 8) rfl rfl ?_
  refine zn_aload_n X dc_N_init_12 rfl rfl ?_
  refine zn_bipush (x := 8) X dc_N_init_13 (by decide) ?_
  refine zn_newa (t := 0) (N := 8) (ty := .int) X dc_N_init_15 rfl (ze_mem (List.mem_of_getElem? (i := 129) (by decide +kernel)) rfl) rfl (fun _ h => h) (fun _ => rfl) (by decide) (by decide) (by decide) (by decide) (by decide) (fun q2 => ?_)
  refine zn_eq (ws1 := [(h0, .inr (4, [.ref q1, .null, .int 0, .int 0, .int 0])), (q1, .inl (ze_ca G 0, 8, .inl (fun _ => 0))), (q2, .inl (ze_ca G 0, 8, .inl (fun _ => 0)))]) rfl ?_
  refine zn_num (c1 := 2) (s1 := 16) rfl rfl ?_
  refine zn_putF (k0 := 0) (ty := (.array .int)) (w := .inr q2) X dc_N_init_17 hI zq_N_15 rfl (Nat.le_of_ble_eq_true rfl) rfl rfl ?_
  refine zn_eq (ws1 := [(h0, .inr (4, [.ref q1, .ref q2, .int 0, .int 0, .int 0])), (q1, .inl (ze_ca G 0, 8, .inl (fun _ => 0))), (q2, .inl (ze_ca G 0, 8, .inl (fun _ => 0)))]) rfl ?_
  refine zn_num (c1 := 2) (s1 := 16) rfl rfl ?_
  exact zn_vret X Y (fun j => [h0, q1, q2].getD j 0) dc_N_init_20 rfl
def cw_L8 (ca : Nat → ClassId) (h0 : Nat)  : (Nat → Nat) → va_W := fun u => [(h0, .inr (5, [.int 8, .ref (u 1), .ref (u 2), .ref (u 3), .int 0, .int 0])), ((u 1), .inl (ca 0, 8, .inl (fun _ => 0))), ((u 2), .inl (ca 0, 8, .inl (fun _ => 0))), ((u 3), .inl (ca 0, 8, .inl (fun _ => 0)))]
set_option maxHeartbeats 8000000 in
set_option maxRecDepth 100000 in
theorem cj_L8 {l : Launch} {D : va_G} {ca : Nat → ClassId} (h0 : Nat)  : zn_M l D ca my_L_init bc_L_init 2 1 21 3 24 [.inr h0, .inl 8] (h0, .inr (5, [.int 0, .null, .null, .null, .int 0, .int 0])) (cw_L8 ca h0 ) := by
  refine zn_M_of (plainFor_of_name (by decide)) rfl (Nat.le_of_ble_eq_true rfl) (fun G A e1 e2 e3 X Y hI => ?_)
  subst e1 e2 e3
  show zn_T G A [(h0, .inr (5, [.int 0, .null, .null, .null, .int 0, .int 0]))] 0 0 0 [some (.inr h0), some (.inl 8)] []
  refine zn_aload_n X dc_L_init_0 rfl rfl ?_
  refine zn_obj X dc_L_init_1 (ze_mem (List.mem_of_getElem? (i := 212) (by decide +kernel)) rfl) (ze_mem (List.mem_of_getElem? (i := 92) (by decide +kernel)) rfl) (ze_mem (List.mem_of_getElem? (i := 93) rfl) rfl) (by decide) (by decide) (Nat.le_of_ble_eq_true rfl) ?_
  refine zn_aload_n X dc_L_init_4 rfl rfl ?_
  refine zn_iload_n X dc_L_init_5 rfl rfl ?_
  refine zn_iconst (x := 1) X dc_L_init_6 (by decide) ?_
  refine zn_mmax (z := 8) X (by decide) dc_L_init_7 zm_L_7 (by decide) (by decide) (Nat.le_of_ble_eq_true rfl) (by decide) (by decide) ?_
  refine zn_putF (k0 := 0) (ty := .int) (w := .inl 8) X dc_L_init_10 hI zq_L_13 rfl (Nat.le_of_ble_eq_true rfl) rfl rfl ?_
  refine zn_eq (ws1 := [(h0, .inr (5, [.int 8, .null, .null, .null, .int 0, .int 0]))]) rfl ?_
  refine zn_num (c1 := 0) (s1 := 0) rfl rfl ?_
  refine zn_aload_n X dc_L_init_13 rfl rfl ?_
  refine zn_aload_n X dc_L_init_14 rfl rfl ?_
  refine zn_get (k0 := 0) (w := .inl 8) X dc_L_init_15 zf_L_13 rfl rfl ?_
  refine zn_newa (t := 0) (N := 8) (ty := .int) X dc_L_init_18 rfl (ze_mem (List.mem_of_getElem? (i := 129) (by decide +kernel)) rfl) rfl (fun _ h => h) (fun _ => rfl) (by decide) (by decide) (by decide) (by decide) (by decide) (fun q1 => ?_)
  refine zn_eq (ws1 := [(h0, .inr (5, [.int 8, .null, .null, .null, .int 0, .int 0])), (q1, .inl (ze_ca G 0, 8, .inl (fun _ => 0)))]) rfl ?_
  refine zn_num (c1 := 1) (s1 := 8) rfl rfl ?_
  refine zn_putF (k0 := 0) (ty := (.array .int)) (w := .inr q1) X dc_L_init_20 hI zq_L_19 rfl (Nat.le_of_ble_eq_true rfl) rfl rfl ?_
  refine zn_eq (ws1 := [(h0, .inr (5, [.int 8, .ref q1, .null, .null, .int 0, .int 0])), (q1, .inl (ze_ca G 0, 8, .inl (fun _ => 0)))]) rfl ?_
  refine zn_num (c1 := 1) (s1 := 8) rfl rfl ?_
  refine zn_aload_n X dc_L_init_23 rfl rfl ?_
  refine zn_aload_n X dc_L_init_24 rfl rfl ?_
  refine zn_get (k0 := 0) (w := .inl 8) X dc_L_init_25 zf_L_13 rfl rfl ?_
  refine zn_newa (t := 0) (N := 8) (ty := .int) X dc_L_init_28 rfl (ze_mem (List.mem_of_getElem? (i := 129) (by decide +kernel)) rfl) rfl (fun _ h => h) (fun _ => rfl) (by decide) (by decide) (by decide) (by decide) (by decide) (fun q2 => ?_)
  refine zn_eq (ws1 := [(h0, .inr (5, [.int 8, .ref q1, .null, .null, .int 0, .int 0])), (q1, .inl (ze_ca G 0, 8, .inl (fun _ => 0))), (q2, .inl (ze_ca G 0, 8, .inl (fun _ => 0)))]) rfl ?_
  refine zn_num (c1 := 2) (s1 := 16) rfl rfl ?_
  refine zn_putF (k0 := 0) (ty := (.array .int)) (w := .inr q2) X dc_L_init_30 hI zq_L_23 rfl (Nat.le_of_ble_eq_true rfl) rfl rfl ?_
  refine zn_eq (ws1 := [(h0, .inr (5, [.int 8, .ref q1, .ref q2, .null, .int 0, .int 0])), (q1, .inl (ze_ca G 0, 8, .inl (fun _ => 0))), (q2, .inl (ze_ca G 0, 8, .inl (fun _ => 0)))]) rfl ?_
  refine zn_num (c1 := 2) (s1 := 16) rfl rfl ?_
  refine zn_aload_n X dc_L_init_33 rfl rfl ?_
  refine zn_aload_n X dc_L_init_34 rfl rfl ?_
  refine zn_get (k0 := 0) (w := .inl 8) X dc_L_init_35 zf_L_13 rfl rfl ?_
  refine zn_newa (t := 0) (N := 8) (ty := .int) X dc_L_init_38 rfl (ze_mem (List.mem_of_getElem? (i := 129) (by decide +kernel)) rfl) rfl (fun _ h => h) (fun _ => rfl) (by decide) (by decide) (by decide) (by decide) (by decide) (fun q3 => ?_)
  refine zn_eq (ws1 := [(h0, .inr (5, [.int 8, .ref q1, .ref q2, .null, .int 0, .int 0])), (q1, .inl (ze_ca G 0, 8, .inl (fun _ => 0))), (q2, .inl (ze_ca G 0, 8, .inl (fun _ => 0))), (q3, .inl (ze_ca G 0, 8, .inl (fun _ => 0)))]) rfl ?_
  refine zn_num (c1 := 3) (s1 := 24) rfl rfl ?_
  refine zn_putF (k0 := 0) (ty := (.array .int)) (w := .inr q3) X dc_L_init_40 hI zq_L_26 rfl (Nat.le_of_ble_eq_true rfl) rfl rfl ?_
  refine zn_eq (ws1 := [(h0, .inr (5, [.int 8, .ref q1, .ref q2, .ref q3, .int 0, .int 0])), (q1, .inl (ze_ca G 0, 8, .inl (fun _ => 0))), (q2, .inl (ze_ca G 0, 8, .inl (fun _ => 0))), (q3, .inl (ze_ca G 0, 8, .inl (fun _ => 0)))]) rfl ?_
  refine zn_num (c1 := 3) (s1 := 24) rfl rfl ?_
  exact zn_vret X Y (fun j => [h0, q1, q2, q3].getD j 0) dc_L_init_43 rfl
def cw_L401 (ca : Nat → ClassId) (h0 : Nat)  : (Nat → Nat) → va_W := fun u => [(h0, .inr (5, [.int 401, .ref (u 1), .ref (u 2), .ref (u 3), .int 0, .int 0])), ((u 1), .inl (ca 0, 401, .inl (fun _ => 0))), ((u 2), .inl (ca 0, 401, .inl (fun _ => 0))), ((u 3), .inl (ca 0, 401, .inl (fun _ => 0)))]
set_option maxHeartbeats 8000000 in
set_option maxRecDepth 100000 in
theorem cj_L401 {l : Launch} {D : va_G} {ca : Nat → ClassId} (h0 : Nat)  : zn_M l D ca my_L_init bc_L_init 2 1 21 3 1203 [.inr h0, .inl 401] (h0, .inr (5, [.int 0, .null, .null, .null, .int 0, .int 0])) (cw_L401 ca h0 ) := by
  refine zn_M_of (plainFor_of_name (by decide)) rfl (Nat.le_of_ble_eq_true rfl) (fun G A e1 e2 e3 X Y hI => ?_)
  subst e1 e2 e3
  show zn_T G A [(h0, .inr (5, [.int 0, .null, .null, .null, .int 0, .int 0]))] 0 0 0 [some (.inr h0), some (.inl 401)] []
  refine zn_aload_n X dc_L_init_0 rfl rfl ?_
  refine zn_obj X dc_L_init_1 (ze_mem (List.mem_of_getElem? (i := 212) (by decide +kernel)) rfl) (ze_mem (List.mem_of_getElem? (i := 92) (by decide +kernel)) rfl) (ze_mem (List.mem_of_getElem? (i := 93) rfl) rfl) (by decide) (by decide) (Nat.le_of_ble_eq_true rfl) ?_
  refine zn_aload_n X dc_L_init_4 rfl rfl ?_
  refine zn_iload_n X dc_L_init_5 rfl rfl ?_
  refine zn_iconst (x := 1) X dc_L_init_6 (by decide) ?_
  refine zn_mmax (z := 401) X (by decide) dc_L_init_7 zm_L_7 (by decide) (by decide) (Nat.le_of_ble_eq_true rfl) (by decide) (by decide) ?_
  refine zn_putF (k0 := 0) (ty := .int) (w := .inl 401) X dc_L_init_10 hI zq_L_13 rfl (Nat.le_of_ble_eq_true rfl) rfl rfl ?_
  refine zn_eq (ws1 := [(h0, .inr (5, [.int 401, .null, .null, .null, .int 0, .int 0]))]) rfl ?_
  refine zn_num (c1 := 0) (s1 := 0) rfl rfl ?_
  refine zn_aload_n X dc_L_init_13 rfl rfl ?_
  refine zn_aload_n X dc_L_init_14 rfl rfl ?_
  refine zn_get (k0 := 0) (w := .inl 401) X dc_L_init_15 zf_L_13 rfl rfl ?_
  refine zn_newa (t := 0) (N := 401) (ty := .int) X dc_L_init_18 rfl (ze_mem (List.mem_of_getElem? (i := 129) (by decide +kernel)) rfl) rfl (fun _ h => h) (fun _ => rfl) (by decide) (by decide) (by decide) (by decide) (by decide) (fun q1 => ?_)
  refine zn_eq (ws1 := [(h0, .inr (5, [.int 401, .null, .null, .null, .int 0, .int 0])), (q1, .inl (ze_ca G 0, 401, .inl (fun _ => 0)))]) rfl ?_
  refine zn_num (c1 := 1) (s1 := 401) rfl rfl ?_
  refine zn_putF (k0 := 0) (ty := (.array .int)) (w := .inr q1) X dc_L_init_20 hI zq_L_19 rfl (Nat.le_of_ble_eq_true rfl) rfl rfl ?_
  refine zn_eq (ws1 := [(h0, .inr (5, [.int 401, .ref q1, .null, .null, .int 0, .int 0])), (q1, .inl (ze_ca G 0, 401, .inl (fun _ => 0)))]) rfl ?_
  refine zn_num (c1 := 1) (s1 := 401) rfl rfl ?_
  refine zn_aload_n X dc_L_init_23 rfl rfl ?_
  refine zn_aload_n X dc_L_init_24 rfl rfl ?_
  refine zn_get (k0 := 0) (w := .inl 401) X dc_L_init_25 zf_L_13 rfl rfl ?_
  refine zn_newa (t := 0) (N := 401) (ty := .int) X dc_L_init_28 rfl (ze_mem (List.mem_of_getElem? (i := 129) (by decide +kernel)) rfl) rfl (fun _ h => h) (fun _ => rfl) (by decide) (by decide) (by decide) (by decide) (by decide) (fun q2 => ?_)
  refine zn_eq (ws1 := [(h0, .inr (5, [.int 401, .ref q1, .null, .null, .int 0, .int 0])), (q1, .inl (ze_ca G 0, 401, .inl (fun _ => 0))), (q2, .inl (ze_ca G 0, 401, .inl (fun _ => 0)))]) rfl ?_
  refine zn_num (c1 := 2) (s1 := 802) rfl rfl ?_
  refine zn_putF (k0 := 0) (ty := (.array .int)) (w := .inr q2) X dc_L_init_30 hI zq_L_23 rfl (Nat.le_of_ble_eq_true rfl) rfl rfl ?_
  refine zn_eq (ws1 := [(h0, .inr (5, [.int 401, .ref q1, .ref q2, .null, .int 0, .int 0])), (q1, .inl (ze_ca G 0, 401, .inl (fun _ => 0))), (q2, .inl (ze_ca G 0, 401, .inl (fun _ => 0)))]) rfl ?_
  refine zn_num (c1 := 2) (s1 := 802) rfl rfl ?_
  refine zn_aload_n X dc_L_init_33 rfl rfl ?_
  refine zn_aload_n X dc_L_init_34 rfl rfl ?_
  refine zn_get (k0 := 0) (w := .inl 401) X dc_L_init_35 zf_L_13 rfl rfl ?_
  refine zn_newa (t := 0) (N := 401) (ty := .int) X dc_L_init_38 rfl (ze_mem (List.mem_of_getElem? (i := 129) (by decide +kernel)) rfl) rfl (fun _ h => h) (fun _ => rfl) (by decide) (by decide) (by decide) (by decide) (by decide) (fun q3 => ?_)
  refine zn_eq (ws1 := [(h0, .inr (5, [.int 401, .ref q1, .ref q2, .null, .int 0, .int 0])), (q1, .inl (ze_ca G 0, 401, .inl (fun _ => 0))), (q2, .inl (ze_ca G 0, 401, .inl (fun _ => 0))), (q3, .inl (ze_ca G 0, 401, .inl (fun _ => 0)))]) rfl ?_
  refine zn_num (c1 := 3) (s1 := 1203) rfl rfl ?_
  refine zn_putF (k0 := 0) (ty := (.array .int)) (w := .inr q3) X dc_L_init_40 hI zq_L_26 rfl (Nat.le_of_ble_eq_true rfl) rfl rfl ?_
  refine zn_eq (ws1 := [(h0, .inr (5, [.int 401, .ref q1, .ref q2, .ref q3, .int 0, .int 0])), (q1, .inl (ze_ca G 0, 401, .inl (fun _ => 0))), (q2, .inl (ze_ca G 0, 401, .inl (fun _ => 0))), (q3, .inl (ze_ca G 0, 401, .inl (fun _ => 0)))]) rfl ?_
  refine zn_num (c1 := 3) (s1 := 1203) rfl rfl ?_
  exact zn_vret X Y (fun j => [h0, q1, q2, q3].getD j 0) dc_L_init_43 rfl
def cw_G (ca : Nat → ClassId) (h0 : Nat)  : (Nat → Nat) → va_W := fun u => [(h0, .inr (6, [.ref (u 1), .ref (u 2), .ref (u 3), .ref (u 4), .ref (u 5), .int 0])), ((u 1), .inl (ca 0, 120, .inl (fun _ => 0))), ((u 2), .inl (ca 0, 120, .inl (fun _ => 0))), ((u 3), .inl (ca 0, 120, .inl (fun _ => 0))), ((u 4), .inl (ca 0, 120, .inl (fun _ => 0))), ((u 5), .inl (ca 0, 120, .inl (fun _ => 0)))]
set_option maxHeartbeats 8000000 in
set_option maxRecDepth 100000 in
theorem cj_G {l : Launch} {D : va_G} {ca : Nat → ClassId} (h0 : Nat)  : zn_M l D ca my_G_init bc_G_init 1 1 20 5 600 [.inr h0] (h0, .inr (6, [.null, .null, .null, .null, .null, .int 0])) (cw_G ca h0 ) := by
  refine zn_M_of (plainFor_of_name (by decide)) rfl (Nat.le_of_ble_eq_true rfl) (fun G A e1 e2 e3 X Y hI => ?_)
  subst e1 e2 e3
  show zn_T G A [(h0, .inr (6, [.null, .null, .null, .null, .null, .int 0]))] 0 0 0 [some (.inr h0)] []
  refine zn_aload_n X dc_G_init_0 rfl rfl ?_
  refine zn_obj X dc_G_init_1 (ze_mem (List.mem_of_getElem? (i := 245) (by decide +kernel)) rfl) (ze_mem (List.mem_of_getElem? (i := 92) (by decide +kernel)) rfl) (ze_mem (List.mem_of_getElem? (i := 93) rfl) rfl) (by decide) (by decide) (Nat.le_of_ble_eq_true rfl) ?_
  refine zn_aload_n X dc_G_init_4 rfl rfl ?_
  refine zn_bipush (x := 120) X dc_G_init_5 (by decide) ?_
  refine zn_newa (t := 0) (N := 120) (ty := .int) X dc_G_init_7 rfl (ze_mem (List.mem_of_getElem? (i := 129) (by decide +kernel)) rfl) rfl (fun _ h => h) (fun _ => rfl) (by decide) (by decide) (by decide) (by decide) (by decide) (fun q1 => ?_)
  refine zn_eq (ws1 := [(h0, .inr (6, [.null, .null, .null, .null, .null, .int 0])), (q1, .inl (ze_ca G 0, 120, .inl (fun _ => 0)))]) rfl ?_
  refine zn_num (c1 := 1) (s1 := 120) rfl rfl ?_
  refine zn_putF (k0 := 0) (ty := (.array .int)) (w := .inr q1) X dc_G_init_9 hI zq_G_9 rfl (Nat.le_of_ble_eq_true rfl) rfl rfl ?_
  refine zn_eq (ws1 := [(h0, .inr (6, [.ref q1, .null, .null, .null, .null, .int 0])), (q1, .inl (ze_ca G 0, 120, .inl (fun _ => 0)))]) rfl ?_
  refine zn_num (c1 := 1) (s1 := 120) rfl rfl ?_
  refine zn_aload_n X dc_G_init_12 rfl rfl ?_
  refine zn_bipush (x := 120) X dc_G_init_13 (by decide) ?_
  refine zn_newa (t := 0) (N := 120) (ty := .int) X dc_G_init_15 rfl (ze_mem (List.mem_of_getElem? (i := 129) (by decide +kernel)) rfl) rfl (fun _ h => h) (fun _ => rfl) (by decide) (by decide) (by decide) (by decide) (by decide) (fun q2 => ?_)
  refine zn_eq (ws1 := [(h0, .inr (6, [.ref q1, .null, .null, .null, .null, .int 0])), (q1, .inl (ze_ca G 0, 120, .inl (fun _ => 0))), (q2, .inl (ze_ca G 0, 120, .inl (fun _ => 0)))]) rfl ?_
  refine zn_num (c1 := 2) (s1 := 240) rfl rfl ?_
  refine zn_putF (k0 := 0) (ty := (.array .int)) (w := .inr q2) X dc_G_init_17 hI zq_G_15 rfl (Nat.le_of_ble_eq_true rfl) rfl rfl ?_
  refine zn_eq (ws1 := [(h0, .inr (6, [.ref q1, .ref q2, .null, .null, .null, .int 0])), (q1, .inl (ze_ca G 0, 120, .inl (fun _ => 0))), (q2, .inl (ze_ca G 0, 120, .inl (fun _ => 0)))]) rfl ?_
  refine zn_num (c1 := 2) (s1 := 240) rfl rfl ?_
  refine zn_aload_n X dc_G_init_20 rfl rfl ?_
  refine zn_bipush (x := 120) X dc_G_init_21 (by decide) ?_
  refine zn_newa (t := 0) (N := 120) (ty := .int) X dc_G_init_23 rfl (ze_mem (List.mem_of_getElem? (i := 129) (by decide +kernel)) rfl) rfl (fun _ h => h) (fun _ => rfl) (by decide) (by decide) (by decide) (by decide) (by decide) (fun q3 => ?_)
  refine zn_eq (ws1 := [(h0, .inr (6, [.ref q1, .ref q2, .null, .null, .null, .int 0])), (q1, .inl (ze_ca G 0, 120, .inl (fun _ => 0))), (q2, .inl (ze_ca G 0, 120, .inl (fun _ => 0))), (q3, .inl (ze_ca G 0, 120, .inl (fun _ => 0)))]) rfl ?_
  refine zn_num (c1 := 3) (s1 := 360) rfl rfl ?_
  refine zn_putF (k0 := 0) (ty := (.array .int)) (w := .inr q3) X dc_G_init_25 hI zq_G_18 rfl (Nat.le_of_ble_eq_true rfl) rfl rfl ?_
  refine zn_eq (ws1 := [(h0, .inr (6, [.ref q1, .ref q2, .ref q3, .null, .null, .int 0])), (q1, .inl (ze_ca G 0, 120, .inl (fun _ => 0))), (q2, .inl (ze_ca G 0, 120, .inl (fun _ => 0))), (q3, .inl (ze_ca G 0, 120, .inl (fun _ => 0)))]) rfl ?_
  refine zn_num (c1 := 3) (s1 := 360) rfl rfl ?_
  refine zn_aload_n X dc_G_init_28 rfl rfl ?_
  refine zn_bipush (x := 120) X dc_G_init_29 (by decide) ?_
  refine zn_newa (t := 0) (N := 120) (ty := .int) X dc_G_init_31 rfl (ze_mem (List.mem_of_getElem? (i := 129) (by decide +kernel)) rfl) rfl (fun _ h => h) (fun _ => rfl) (by decide) (by decide) (by decide) (by decide) (by decide) (fun q4 => ?_)
  refine zn_eq (ws1 := [(h0, .inr (6, [.ref q1, .ref q2, .ref q3, .null, .null, .int 0])), (q1, .inl (ze_ca G 0, 120, .inl (fun _ => 0))), (q2, .inl (ze_ca G 0, 120, .inl (fun _ => 0))), (q3, .inl (ze_ca G 0, 120, .inl (fun _ => 0))), (q4, .inl (ze_ca G 0, 120, .inl (fun _ => 0)))]) rfl ?_
  refine zn_num (c1 := 4) (s1 := 480) rfl rfl ?_
  refine zn_putF (k0 := 0) (ty := (.array .int)) (w := .inr q4) X dc_G_init_33 hI zq_G_21 rfl (Nat.le_of_ble_eq_true rfl) rfl rfl ?_
  refine zn_eq (ws1 := [(h0, .inr (6, [.ref q1, .ref q2, .ref q3, .ref q4, .null, .int 0])), (q1, .inl (ze_ca G 0, 120, .inl (fun _ => 0))), (q2, .inl (ze_ca G 0, 120, .inl (fun _ => 0))), (q3, .inl (ze_ca G 0, 120, .inl (fun _ => 0))), (q4, .inl (ze_ca G 0, 120, .inl (fun _ => 0)))]) rfl ?_
  refine zn_num (c1 := 4) (s1 := 480) rfl rfl ?_
  refine zn_aload_n X dc_G_init_36 rfl rfl ?_
  refine zn_bipush (x := 120) X dc_G_init_37 (by decide) ?_
  refine zn_newa (t := 0) (N := 120) (ty := .int) X dc_G_init_39 rfl (ze_mem (List.mem_of_getElem? (i := 129) (by decide +kernel)) rfl) rfl (fun _ h => h) (fun _ => rfl) (by decide) (by decide) (by decide) (by decide) (by decide) (fun q5 => ?_)
  refine zn_eq (ws1 := [(h0, .inr (6, [.ref q1, .ref q2, .ref q3, .ref q4, .null, .int 0])), (q1, .inl (ze_ca G 0, 120, .inl (fun _ => 0))), (q2, .inl (ze_ca G 0, 120, .inl (fun _ => 0))), (q3, .inl (ze_ca G 0, 120, .inl (fun _ => 0))), (q4, .inl (ze_ca G 0, 120, .inl (fun _ => 0))), (q5, .inl (ze_ca G 0, 120, .inl (fun _ => 0)))]) rfl ?_
  refine zn_num (c1 := 5) (s1 := 600) rfl rfl ?_
  refine zn_putF (k0 := 0) (ty := (.array .int)) (w := .inr q5) X dc_G_init_41 hI zq_G_24 rfl (Nat.le_of_ble_eq_true rfl) rfl rfl ?_
  refine zn_eq (ws1 := [(h0, .inr (6, [.ref q1, .ref q2, .ref q3, .ref q4, .ref q5, .int 0])), (q1, .inl (ze_ca G 0, 120, .inl (fun _ => 0))), (q2, .inl (ze_ca G 0, 120, .inl (fun _ => 0))), (q3, .inl (ze_ca G 0, 120, .inl (fun _ => 0))), (q4, .inl (ze_ca G 0, 120, .inl (fun _ => 0))), (q5, .inl (ze_ca G 0, 120, .inl (fun _ => 0)))]) rfl ?_
  refine zn_num (c1 := 5) (s1 := 600) rfl rfl ?_
  exact zn_vret X Y (fun j => [h0, q1, q2, q3, q4, q5].getD j 0) dc_G_init_44 rfl
def cw_K (ca : Nat → ClassId) (h0 : Nat)  : (Nat → Nat) → va_W := fun u => [(h0, .inr (7, [.ref (u 1), .ref (u 2), .ref (u 3)])), ((u 1), .inl (ca 0, 164, .inl (fun _ => 0))), ((u 2), .inl (ca 0, 656, .inl (fun _ => 0))), ((u 3), .inl (ca 0, 656, .inl (fun _ => 0)))]
set_option maxHeartbeats 8000000 in
set_option maxRecDepth 100000 in
theorem cj_K {l : Launch} {D : va_G} {ca : Nat → ClassId} (h0 : Nat)  : zn_M l D ca my_K_init bc_K_init 1 1 20 3 1476 [.inr h0] (h0, .inr (7, [.null, .null, .null])) (cw_K ca h0 ) := by
  refine zn_M_of (plainFor_of_name (by decide)) rfl (Nat.le_of_ble_eq_true rfl) (fun G A e1 e2 e3 X Y hI => ?_)
  subst e1 e2 e3
  show zn_T G A [(h0, .inr (7, [.null, .null, .null]))] 0 0 0 [some (.inr h0)] []
  refine zn_aload_n X dc_K_init_0 rfl rfl ?_
  refine zn_obj X dc_K_init_1 (ze_mem (List.mem_of_getElem? (i := 276) (by decide +kernel)) rfl) (ze_mem (List.mem_of_getElem? (i := 92) (by decide +kernel)) rfl) (ze_mem (List.mem_of_getElem? (i := 93) rfl) rfl) (by decide) (by decide) (Nat.le_of_ble_eq_true rfl) ?_
  refine zn_aload_n X dc_K_init_4 rfl rfl ?_
  refine zn_sipush (x := 164) X dc_K_init_5 (by decide) ?_
  refine zn_newa (t := 0) (N := 164) (ty := .int) X dc_K_init_8 rfl (ze_mem (List.mem_of_getElem? (i := 129) (by decide +kernel)) rfl) rfl (fun _ h => h) (fun _ => rfl) (by decide) (by decide) (by decide) (by decide) (by decide) (fun q1 => ?_)
  refine zn_eq (ws1 := [(h0, .inr (7, [.null, .null, .null])), (q1, .inl (ze_ca G 0, 164, .inl (fun _ => 0)))]) rfl ?_
  refine zn_num (c1 := 1) (s1 := 164) rfl rfl ?_
  refine zn_putF (k0 := 0) (ty := (.array .int)) (w := .inr q1) X dc_K_init_10 hI zq_K_9 rfl (Nat.le_of_ble_eq_true rfl) rfl rfl ?_
  refine zn_eq (ws1 := [(h0, .inr (7, [.ref q1, .null, .null])), (q1, .inl (ze_ca G 0, 164, .inl (fun _ => 0)))]) rfl ?_
  refine zn_num (c1 := 1) (s1 := 164) rfl rfl ?_
  refine zn_aload_n X dc_K_init_13 rfl rfl ?_
  refine zn_sipush (x := 656) X dc_K_init_14 (by decide) ?_
  refine zn_newa (t := 0) (N := 656) (ty := .int) X dc_K_init_17 rfl (ze_mem (List.mem_of_getElem? (i := 129) (by decide +kernel)) rfl) rfl (fun _ h => h) (fun _ => rfl) (by decide) (by decide) (by decide) (by decide) (by decide) (fun q2 => ?_)
  refine zn_eq (ws1 := [(h0, .inr (7, [.ref q1, .null, .null])), (q1, .inl (ze_ca G 0, 164, .inl (fun _ => 0))), (q2, .inl (ze_ca G 0, 656, .inl (fun _ => 0)))]) rfl ?_
  refine zn_num (c1 := 2) (s1 := 820) rfl rfl ?_
  refine zn_putF (k0 := 0) (ty := (.array .int)) (w := .inr q2) X dc_K_init_19 hI zq_K_15 rfl (Nat.le_of_ble_eq_true rfl) rfl rfl ?_
  refine zn_eq (ws1 := [(h0, .inr (7, [.ref q1, .ref q2, .null])), (q1, .inl (ze_ca G 0, 164, .inl (fun _ => 0))), (q2, .inl (ze_ca G 0, 656, .inl (fun _ => 0)))]) rfl ?_
  refine zn_num (c1 := 2) (s1 := 820) rfl rfl ?_
  refine zn_aload_n X dc_K_init_22 rfl rfl ?_
  refine zn_sipush (x := 656) X dc_K_init_23 (by decide) ?_
  refine zn_newa (t := 0) (N := 656) (ty := .int) X dc_K_init_26 rfl (ze_mem (List.mem_of_getElem? (i := 129) (by decide +kernel)) rfl) rfl (fun _ h => h) (fun _ => rfl) (by decide) (by decide) (by decide) (by decide) (by decide) (fun q3 => ?_)
  refine zn_eq (ws1 := [(h0, .inr (7, [.ref q1, .ref q2, .null])), (q1, .inl (ze_ca G 0, 164, .inl (fun _ => 0))), (q2, .inl (ze_ca G 0, 656, .inl (fun _ => 0))), (q3, .inl (ze_ca G 0, 656, .inl (fun _ => 0)))]) rfl ?_
  refine zn_num (c1 := 3) (s1 := 1476) rfl rfl ?_
  refine zn_putF (k0 := 0) (ty := (.array .int)) (w := .inr q3) X dc_K_init_28 hI zq_K_18 rfl (Nat.le_of_ble_eq_true rfl) rfl rfl ?_
  refine zn_eq (ws1 := [(h0, .inr (7, [.ref q1, .ref q2, .ref q3])), (q1, .inl (ze_ca G 0, 164, .inl (fun _ => 0))), (q2, .inl (ze_ca G 0, 656, .inl (fun _ => 0))), (q3, .inl (ze_ca G 0, 656, .inl (fun _ => 0)))]) rfl ?_
  refine zn_num (c1 := 3) (s1 := 1476) rfl rfl ?_
  exact zn_vret X Y (fun j => [h0, q1, q2, q3].getD j 0) dc_K_init_31 rfl
def cw_H (ca : Nat → ClassId) (h0 : Nat)  : (Nat → Nat) → va_W := fun u => [(h0, .inr (8, [.int 0, .int 0, .int 0, .int 0]))]
set_option maxHeartbeats 8000000 in
set_option maxRecDepth 100000 in
theorem cj_H {l : Launch} {D : va_G} {ca : Nat → ClassId} (h0 : Nat)  : zn_M l D ca my_H_init bc_H_init 1 1 20 0 0 [.inr h0] (h0, .inr (8, [.int 0, .int 0, .int 0, .int 0])) (cw_H ca h0 ) := by
  refine zn_M_of (plainFor_of_name (by decide)) rfl (Nat.le_of_ble_eq_true rfl) (fun G A e1 e2 e3 X Y hI => ?_)
  subst e1 e2 e3
  show zn_T G A [(h0, .inr (8, [.int 0, .int 0, .int 0, .int 0]))] 0 0 0 [some (.inr h0)] []
  refine zn_aload_n X dc_H_init_0 rfl rfl ?_
  refine zn_obj X dc_H_init_1 (ze_mem (List.mem_of_getElem? (i := 296) (by decide +kernel)) rfl) (ze_mem (List.mem_of_getElem? (i := 92) (by decide +kernel)) rfl) (ze_mem (List.mem_of_getElem? (i := 93) rfl) rfl) (by decide) (by decide) (Nat.le_of_ble_eq_true rfl) ?_
  exact zn_vret X Y (fun j => [h0].getD j 0) dc_H_init_4 rfl
