/-! THE LAYER: one fixed world (both objects, all their arrays), its numbers as a function of cell and slot; a judgement that walks bytecode and a pure tree in lockstep -/
abbrev ze_V : Type := Int32 ⊕ Nat
abbrev ze_H : Type := Nat → Nat → Int32
abbrev ze_S : Type := (Nat × Nat × Option (Nat × Nat)) ⊕ (Nat × List (Option Nat))
def ze_val (ad : Nat → Nat) : ze_V → Value
  | .inl x => .int x
  | .inr k => .ref (ad k)
theorem ze_val_cat (ad : Nat → Nat) (w : ze_V) : (ze_val ad w).category = 1 := by cases w <;> rfl
/-- one number of the world is another -/
def ze_u (v : ze_H) (k i : Nat) (x : Int32) : ze_H := fun j => if j = k then upd (v k) i x else v j
def ze_fs (ad : Nat → Nat) (f : Nat → Int32) : Nat → List (Option Nat) → List Value
  | _, [] => []
  | i, none :: r => .int (f i) :: ze_fs ad f (i + 1) r
  | i, some q :: r => .ref (ad q) :: ze_fs ad f (i + 1) r
def ze_ent (ad : Nat → Nat) (ca : Nat → ClassId) (f : Nat → Int32) : ze_S → va_E
  | .inl (t, n, none) => .inl (ca t, n, .inl f)
  | .inl (t, n, some b) => .inl (ca t, n, .inr (.inr (.inr (.inr (fun i => some (ad (b.1 + b.2 * i)))))))
  | .inr (ci, fl) => .inr (ci, ze_fs ad f 0 fl)
def ze_ws (sh : List ze_S) (ad : Nat → Nat) (ca : Nat → ClassId) (v : ze_H) : va_W := sh.mapIdx (fun k x => (ad k, ze_ent ad ca (v k) x))
theorem ze_ws_at {sh : List ze_S} {ad : Nat → Nat} {ca : Nat → ClassId} {v : ze_H} {k : Nat} {x : ze_S} (h : sh[k]? = some x) : (ze_ws sh ad ca v)[k]? = some (ad k, ze_ent ad ca (v k) x) := by
  simp [ze_ws, List.getElem?_mapIdx, h]
theorem ze_ws_set {sh : List ze_S} {ad : Nat → Nat} {ca : Nat → ClassId} {v : ze_H} {k : Nat} {x : ze_S} (h : sh[k]? = some x) (g : Nat → Int32) : (ze_ws sh ad ca v).set k (ad k, ze_ent ad ca g x) = ze_ws sh ad ca (fun j => if j = k then g else v j) := by
  apply List.ext_getElem?
  intro j
  have hk : k < sh.length := (List.getElem?_eq_some_iff.mp h).1
  by_cases hj : j = k
  · subst hj
    rw [List.getElem?_set_self (by simp [ze_ws]; exact hk), ze_ws_at h, if_pos rfl]
  · rw [List.getElem?_set_ne (fun q => hj q.symm)]
    simp only [ze_ws, List.getElem?_mapIdx, if_neg hj]
theorem ze_fs_get {ad : Nat → Nat} {g : Nat → Int32} : ∀ (fl : List (Option Nat)) (i f : Nat), fl[f]? = some none → (ze_fs ad g i fl)[f]? = some (.int (g (i + f)))
  | [], _, _, h => by simp at h
  | none :: r, i, 0, h => rfl
  | some q :: r, i, 0, h => by simp at h
  | none :: r, i, f + 1, h => by
    have h2 := ze_fs_get (ad := ad) (g := g) r (i + 1) f (by simpa using h)
    rw [show i + (f + 1) = i + 1 + f by omega]
    simpa [ze_fs] using h2
  | some q :: r, i, f + 1, h => by
    have h2 := ze_fs_get (ad := ad) (g := g) r (i + 1) f (by simpa using h)
    rw [show i + (f + 1) = i + 1 + f by omega]
    simpa [ze_fs] using h2
theorem ze_fs_ref {ad : Nat → Nat} {g : Nat → Int32} : ∀ (fl : List (Option Nat)) (i f q : Nat), fl[f]? = some (some q) → (ze_fs ad g i fl)[f]? = some (.ref (ad q))
  | [], _, _, _, h => by simp at h
  | none :: r, i, 0, q, h => by simp at h
  | some q' :: r, i, 0, q, h => by
    have h2 : q' = q := by simpa using h
    subst h2
    rfl
  | none :: r, i, f + 1, q, h => by simpa [ze_fs] using ze_fs_ref (ad := ad) (g := g) r (i + 1) f q (by simpa using h)
  | some q' :: r, i, f + 1, q, h => by simpa [ze_fs] using ze_fs_ref (ad := ad) (g := g) r (i + 1) f q (by simpa using h)
theorem ze_fs_far {ad : Nat → Nat} {g : Nat → Int32} {n : Nat} {x : Int32} : ∀ (fl : List (Option Nat)) (i : Nat), n < i → ze_fs ad (upd g n x) i fl = ze_fs ad g i fl
  | [], _, _ => rfl
  | none :: r, i, h => by
    simp only [ze_fs]
    rw [ze_fs_far r (i + 1) (by omega), pk_un (by omega)]
  | some q :: r, i, h => by
    simp only [ze_fs]
    rw [ze_fs_far r (i + 1) (by omega)]
theorem ze_fs_set {ad : Nat → Nat} {g : Nat → Int32} {x : Int32} : ∀ (fl : List (Option Nat)) (i f : Nat), fl[f]? = some none → (ze_fs ad g i fl).set f (.int x) = ze_fs ad (upd g (i + f) x) i fl
  | [], _, _, h => by simp at h
  | none :: r, i, 0, h => by
    simp only [ze_fs, List.set, Nat.add_zero]
    rw [ze_fs_far r (i + 1) (by omega), pk_us]
  | some q :: r, i, 0, h => by simp at h
  | none :: r, i, f + 1, h => by
    simp only [ze_fs, List.set]
    rw [ze_fs_set r (i + 1) f (by simpa using h), pk_un (by omega), show i + (f + 1) = i + 1 + f by omega]
  | some q :: r, i, f + 1, h => by
    simp only [ze_fs, List.set]
    rw [ze_fs_set r (i + 1) f (by simpa using h), show i + (f + 1) = i + 1 + f by omega]
theorem ze_fs_len {ad : Nat → Nat} {g : Nat → Int32} : ∀ (fl : List (Option Nat)) (i : Nat), (ze_fs ad g i fl).length = fl.length
  | [], _ => rfl
  | none :: r, i => by simp [ze_fs, ze_fs_len r (i + 1)]
  | some q :: r, i => by simp [ze_fs, ze_fs_len r (i + 1)]
theorem ze_ws_D {sh : List ze_S} {ad : Nat → Nat} {ca : Nat → ClassId} {v v' : ze_H} {A : Nat → Prop} (h : va_D A (ze_ws sh ad ca v)) : va_D A (ze_ws sh ad ca v') := by
  have key : ∀ (k : Nat) (q : Nat × va_E), (ze_ws sh ad ca v')[k]? = some q → ∃ q2, (ze_ws sh ad ca v)[k]? = some q2 ∧ q2.1 = q.1 := by
    intro k q hq
    simp only [ze_ws, List.getElem?_mapIdx, Option.map_eq_some_iff] at hq ⊢
    obtain ⟨x, hx, rfl⟩ := hq
    exact ⟨_, ⟨x, hx, rfl⟩, rfl⟩
  refine ⟨fun i j p q hp hq e => ?_, fun k q hq => ?_⟩
  · obtain ⟨p2, h1, e1⟩ := key i p hp
    obtain ⟨q2, h2, e2⟩ := key j q hq
    exact h.1 i j p2 q2 h1 h2 (by rw [e1, e2, e])
  · obtain ⟨q2, h1, e1⟩ := key k q hq
    rw [← e1]
    exact h.2 k q2 h1
/-- the locals as the layer knows them -/
def ze_has (ad : Nat → Nat) (n : Nat) (L : List (Option ze_V)) (ls : Array Slot) : Prop := ls.size = n ∧ lv_wf ls ∧ ∀ (i : Nat) (w : ze_V), L[i]? = some (some w) → ls[i]? = some (.val (ze_val ad w))
def ze_as (ad : Nat → Nat) (L : List (Option ze_V)) : List (Nat × Value) := (List.range L.length).filterMap (fun i => (L[i]?.join).map (fun w => (i, ze_val ad w)))
theorem ze_as_mem {ad : Nat → Nat} {L : List (Option ze_V)} {i : Nat} {w : ze_V} (h : L[i]? = some (some w)) : (i, ze_val ad w) ∈ ze_as ad L := by
  refine List.mem_filterMap.mpr ⟨i, List.mem_range.mpr (List.getElem?_eq_some_iff.mp h).1, ?_⟩
  simp [h]
theorem ze_as_of {ad : Nat → Nat} {L : List (Option ze_V)} {q : Nat × Value} (h : q ∈ ze_as ad L) : ∃ w, L[q.1]? = some (some w) ∧ q.2 = ze_val ad w := by
  obtain ⟨i, -, hi⟩ := List.mem_filterMap.mp h
  cases hL : L[i]? with
  | none => simp [hL] at hi
  | some o =>
    cases o with
    | none => simp [hL] at hi
    | some w =>
      simp [hL] at hi
      subst hi
      exact ⟨w, hL, rfl⟩
theorem ze_has.lv {ad : Nat → Nat} {n : Nat} {L : List (Option ze_V)} {ls : Array Slot} (h : ze_has ad n L ls) : lv_has ls n (ze_as ad L) := by
  refine ⟨h.1, h.2.1, fun q hq => ?_⟩
  obtain ⟨w, h1, h2⟩ := ze_as_of hq
  rw [h2]
  exact h.2.2 q.1 w h1
theorem ze_has.st {ad : Nat → Nat} {n : Nat} {L : List (Option ze_V)} {i : Nat} {w : ze_V} {ls : Array Slot} (h : lv_has ls n ((i, ze_val ad w) :: (ze_as ad L).filter (fun q => !(q.1 == i) && !(q.1 + 1 == i && q.2.category == 2)))) : ze_has ad n (L.set i (some w)) ls := by
  refine ⟨h.1, h.2.1, fun j w' hj => ?_⟩
  by_cases e : i = j
  · subst e
    have hw : w' = w := by
      by_cases hl : i < L.length
      · rw [List.getElem?_set_self hl] at hj
        simpa using hj.symm
      · rw [List.getElem?_eq_none (by simp; omega)] at hj
        cases hj
    subst hw
    exact h.2.2 (i, ze_val ad w') List.mem_cons_self
  · rw [List.getElem?_set_ne e] at hj
    refine h.2.2 (j, ze_val ad w') (List.mem_cons_of_mem _ (List.mem_filter.mpr ⟨ze_as_mem hj, ?_⟩))
    have e2 : ¬ j = i := fun q => e q.symm
    simp [e2, ze_val_cat]
theorem ze_has.sub {ad : Nat → Nat} {n : Nat} {L L' : List (Option ze_V)} {ls : Array Slot} (h : ze_has ad n L ls) (hs : ∀ (i : Nat) (w : ze_V), L'[i]? = some (some w) → L[i]? = some (some w)) : ze_has ad n L' ls := ⟨h.1, h.2.1, fun i w hw => h.2.2 i w (hs i w hw)⟩
abbrev ze_tl : List FieldType := [.int, .char, .boolean, .object "RouteEngine$Endpoint", .object "RouteEngine$Exchange"]
def ze_sh : List ze_S := [
  .inr (0, [some 1, some 2, some 9, some 16, some 17, some 23, some 39, some 43, some 47, some 53, some 57, some 74, none, none, none, none]),
  .inl (0, 4, none),
  .inr (1, [some 3, some 4, some 5, some 6, some 7, some 8]),
  .inl (1, 164, none),
  .inl (0, 164, none),
  .inl (0, 164, none),
  .inl (0, 164, none),
  .inl (0, 164, none),
  .inl (0, 164, none),
  .inr (1, [some 10, some 11, some 12, some 13, some 14, some 15]),
  .inl (1, 164, none),
  .inl (0, 164, none),
  .inl (0, 164, none),
  .inl (0, 164, none),
  .inl (0, 164, none),
  .inl (0, 164, none),
  .inr (2, [some 2, none, none, none]),
  .inr (3, [some 18, some 19, some 20, some 21, some 22, none]),
  .inl (0, 4, none),
  .inl (0, 4, none),
  .inl (0, 4, none),
  .inl (2, 4, none),
  .inl (2, 4, none),
  .inl (3, 5, some (24, 3)),
  .inr (4, [some 25, some 26, none, none, none]),
  .inl (0, 8, none),
  .inl (0, 8, none),
  .inr (4, [some 28, some 29, none, none, none]),
  .inl (0, 8, none),
  .inl (0, 8, none),
  .inr (4, [some 31, some 32, none, none, none]),
  .inl (0, 8, none),
  .inl (0, 8, none),
  .inr (4, [some 34, some 35, none, none, none]),
  .inl (0, 8, none),
  .inl (0, 8, none),
  .inr (4, [some 37, some 38, none, none, none]),
  .inl (0, 8, none),
  .inl (0, 8, none),
  .inr (5, [none, some 40, some 41, some 42, none, none]),
  .inl (0, 8, none),
  .inl (0, 8, none),
  .inl (0, 8, none),
  .inr (5, [none, some 44, some 45, some 46, none, none]),
  .inl (0, 401, none),
  .inl (0, 401, none),
  .inl (0, 401, none),
  .inr (6, [some 48, some 49, some 50, some 51, some 52, none]),
  .inl (0, 120, none),
  .inl (0, 120, none),
  .inl (0, 120, none),
  .inl (0, 120, none),
  .inl (0, 120, none),
  .inr (7, [some 54, some 55, some 56]),
  .inl (0, 164, none),
  .inl (0, 656, none),
  .inl (0, 656, none),
  .inl (4, 16, some (58, 1)),
  .inr (8, [none, none, none, none]),
  .inr (8, [none, none, none, none]),
  .inr (8, [none, none, none, none]),
  .inr (8, [none, none, none, none]),
  .inr (8, [none, none, none, none]),
  .inr (8, [none, none, none, none]),
  .inr (8, [none, none, none, none]),
  .inr (8, [none, none, none, none]),
  .inr (8, [none, none, none, none]),
  .inr (8, [none, none, none, none]),
  .inr (8, [none, none, none, none]),
  .inr (8, [none, none, none, none]),
  .inr (8, [none, none, none, none]),
  .inr (8, [none, none, none, none]),
  .inr (8, [none, none, none, none]),
  .inr (8, [none, none, none, none]),
  .inl (0, 8, none),
  .inr (9, [some 76, some 77, some 78, some 79, some 80, none, none, none, some 81, some 82, some 83, some 84, some 85, some 86, some 87, some 88, some 89, some 90, none, some 91, some 92, some 93, none, some 94, some 95, some 96, some 97, some 98, some 99, none, some 100, some 101, some 102, some 103, some 104, none, none, some 105, some 106, some 107, none, some 108, some 109, some 110, none, some 111, some 112, some 113, some 114, some 115, some 116, some 117, some 118, none, none, none, none, none, none, none, some 119]),
  .inl (1, 160, none),
  .inl (0, 4, none),
  .inl (1, 160, none),
  .inl (0, 4, none),
  .inl (0, 4, none),
  .inl (0, 4, none),
  .inl (0, 4, none),
  .inl (0, 4, none),
  .inl (2, 4, none),
  .inl (2, 4, none),
  .inl (0, 4, none),
  .inl (0, 4, none),
  .inl (0, 5, none),
  .inl (0, 40, none),
  .inl (0, 40, none),
  .inl (0, 8, none),
  .inl (0, 8, none),
  .inl (0, 8, none),
  .inl (0, 120, none),
  .inl (0, 120, none),
  .inl (0, 120, none),
  .inl (0, 120, none),
  .inl (0, 120, none),
  .inl (0, 120, none),
  .inl (0, 242, none),
  .inl (0, 242, none),
  .inl (0, 242, none),
  .inl (0, 640, none),
  .inl (0, 160, none),
  .inl (0, 420, none),
  .inl (0, 420, none),
  .inl (0, 420, none),
  .inl (0, 16, none),
  .inl (0, 16, none),
  .inl (0, 16, none),
  .inl (0, 20, none),
  .inl (0, 20, none),
  .inl (0, 20, none),
  .inl (0, 20, none),
  .inl (0, 20, none),
  .inl (0, 20, none),
  .inl (0, 20, none),
  .inl (0, 20, none),
  .inl (0, 8, none)]
theorem sh_0 : ze_sh[0]? = some (.inr (0, [some 1, some 2, some 9, some 16, some 17, some 23, some 39, some 43, some 47, some 53, some 57, some 74, none, none, none, none])) := rfl
theorem sh_1 : ze_sh[1]? = some (.inl (0, 4, none)) := rfl
theorem sh_2 : ze_sh[2]? = some (.inr (1, [some 3, some 4, some 5, some 6, some 7, some 8])) := rfl
theorem sh_3 : ze_sh[3]? = some (.inl (1, 164, none)) := rfl
theorem sh_4 : ze_sh[4]? = some (.inl (0, 164, none)) := rfl
theorem sh_5 : ze_sh[5]? = some (.inl (0, 164, none)) := rfl
theorem sh_6 : ze_sh[6]? = some (.inl (0, 164, none)) := rfl
theorem sh_7 : ze_sh[7]? = some (.inl (0, 164, none)) := rfl
theorem sh_8 : ze_sh[8]? = some (.inl (0, 164, none)) := rfl
theorem sh_9 : ze_sh[9]? = some (.inr (1, [some 10, some 11, some 12, some 13, some 14, some 15])) := rfl
theorem sh_10 : ze_sh[10]? = some (.inl (1, 164, none)) := rfl
theorem sh_11 : ze_sh[11]? = some (.inl (0, 164, none)) := rfl
theorem sh_12 : ze_sh[12]? = some (.inl (0, 164, none)) := rfl
theorem sh_13 : ze_sh[13]? = some (.inl (0, 164, none)) := rfl
theorem sh_14 : ze_sh[14]? = some (.inl (0, 164, none)) := rfl
theorem sh_15 : ze_sh[15]? = some (.inl (0, 164, none)) := rfl
theorem sh_16 : ze_sh[16]? = some (.inr (2, [some 2, none, none, none])) := rfl
theorem sh_17 : ze_sh[17]? = some (.inr (3, [some 18, some 19, some 20, some 21, some 22, none])) := rfl
theorem sh_18 : ze_sh[18]? = some (.inl (0, 4, none)) := rfl
theorem sh_19 : ze_sh[19]? = some (.inl (0, 4, none)) := rfl
theorem sh_20 : ze_sh[20]? = some (.inl (0, 4, none)) := rfl
theorem sh_21 : ze_sh[21]? = some (.inl (2, 4, none)) := rfl
theorem sh_22 : ze_sh[22]? = some (.inl (2, 4, none)) := rfl
theorem sh_23 : ze_sh[23]? = some (.inl (3, 5, some (24, 3))) := rfl
theorem sh_24 : ze_sh[24]? = some (.inr (4, [some 25, some 26, none, none, none])) := rfl
theorem sh_25 : ze_sh[25]? = some (.inl (0, 8, none)) := rfl
theorem sh_26 : ze_sh[26]? = some (.inl (0, 8, none)) := rfl
theorem sh_27 : ze_sh[27]? = some (.inr (4, [some 28, some 29, none, none, none])) := rfl
theorem sh_28 : ze_sh[28]? = some (.inl (0, 8, none)) := rfl
theorem sh_29 : ze_sh[29]? = some (.inl (0, 8, none)) := rfl
theorem sh_30 : ze_sh[30]? = some (.inr (4, [some 31, some 32, none, none, none])) := rfl
theorem sh_31 : ze_sh[31]? = some (.inl (0, 8, none)) := rfl
theorem sh_32 : ze_sh[32]? = some (.inl (0, 8, none)) := rfl
theorem sh_33 : ze_sh[33]? = some (.inr (4, [some 34, some 35, none, none, none])) := rfl
theorem sh_34 : ze_sh[34]? = some (.inl (0, 8, none)) := rfl
theorem sh_35 : ze_sh[35]? = some (.inl (0, 8, none)) := rfl
theorem sh_36 : ze_sh[36]? = some (.inr (4, [some 37, some 38, none, none, none])) := rfl
theorem sh_37 : ze_sh[37]? = some (.inl (0, 8, none)) := rfl
theorem sh_38 : ze_sh[38]? = some (.inl (0, 8, none)) := rfl
theorem sh_39 : ze_sh[39]? = some (.inr (5, [none, some 40, some 41, some 42, none, none])) := rfl
theorem sh_40 : ze_sh[40]? = some (.inl (0, 8, none)) := rfl
theorem sh_41 : ze_sh[41]? = some (.inl (0, 8, none)) := rfl
theorem sh_42 : ze_sh[42]? = some (.inl (0, 8, none)) := rfl
theorem sh_43 : ze_sh[43]? = some (.inr (5, [none, some 44, some 45, some 46, none, none])) := rfl
theorem sh_44 : ze_sh[44]? = some (.inl (0, 401, none)) := rfl
theorem sh_45 : ze_sh[45]? = some (.inl (0, 401, none)) := rfl
theorem sh_46 : ze_sh[46]? = some (.inl (0, 401, none)) := rfl
theorem sh_47 : ze_sh[47]? = some (.inr (6, [some 48, some 49, some 50, some 51, some 52, none])) := rfl
theorem sh_48 : ze_sh[48]? = some (.inl (0, 120, none)) := rfl
theorem sh_49 : ze_sh[49]? = some (.inl (0, 120, none)) := rfl
theorem sh_50 : ze_sh[50]? = some (.inl (0, 120, none)) := rfl
theorem sh_51 : ze_sh[51]? = some (.inl (0, 120, none)) := rfl
theorem sh_52 : ze_sh[52]? = some (.inl (0, 120, none)) := rfl
theorem sh_53 : ze_sh[53]? = some (.inr (7, [some 54, some 55, some 56])) := rfl
theorem sh_54 : ze_sh[54]? = some (.inl (0, 164, none)) := rfl
theorem sh_55 : ze_sh[55]? = some (.inl (0, 656, none)) := rfl
theorem sh_56 : ze_sh[56]? = some (.inl (0, 656, none)) := rfl
theorem sh_57 : ze_sh[57]? = some (.inl (4, 16, some (58, 1))) := rfl
theorem sh_58 : ze_sh[58]? = some (.inr (8, [none, none, none, none])) := rfl
theorem sh_59 : ze_sh[59]? = some (.inr (8, [none, none, none, none])) := rfl
theorem sh_60 : ze_sh[60]? = some (.inr (8, [none, none, none, none])) := rfl
theorem sh_61 : ze_sh[61]? = some (.inr (8, [none, none, none, none])) := rfl
theorem sh_62 : ze_sh[62]? = some (.inr (8, [none, none, none, none])) := rfl
theorem sh_63 : ze_sh[63]? = some (.inr (8, [none, none, none, none])) := rfl
theorem sh_64 : ze_sh[64]? = some (.inr (8, [none, none, none, none])) := rfl
theorem sh_65 : ze_sh[65]? = some (.inr (8, [none, none, none, none])) := rfl
theorem sh_66 : ze_sh[66]? = some (.inr (8, [none, none, none, none])) := rfl
theorem sh_67 : ze_sh[67]? = some (.inr (8, [none, none, none, none])) := rfl
theorem sh_68 : ze_sh[68]? = some (.inr (8, [none, none, none, none])) := rfl
theorem sh_69 : ze_sh[69]? = some (.inr (8, [none, none, none, none])) := rfl
theorem sh_70 : ze_sh[70]? = some (.inr (8, [none, none, none, none])) := rfl
theorem sh_71 : ze_sh[71]? = some (.inr (8, [none, none, none, none])) := rfl
theorem sh_72 : ze_sh[72]? = some (.inr (8, [none, none, none, none])) := rfl
theorem sh_73 : ze_sh[73]? = some (.inr (8, [none, none, none, none])) := rfl
theorem sh_74 : ze_sh[74]? = some (.inl (0, 8, none)) := rfl
theorem sh_75 : ze_sh[75]? = some (.inr (9, [some 76, some 77, some 78, some 79, some 80, none, none, none, some 81, some 82, some 83, some 84, some 85, some 86, some 87, some 88, some 89, some 90, none, some 91, some 92, some 93, none, some 94, some 95, some 96, some 97, some 98, some 99, none, some 100, some 101, some 102, some 103, some 104, none, none, some 105, some 106, some 107, none, some 108, some 109, some 110, none, some 111, some 112, some 113, some 114, some 115, some 116, some 117, some 118, none, none, none, none, none, none, none, some 119])) := rfl
theorem sh_76 : ze_sh[76]? = some (.inl (1, 160, none)) := rfl
theorem sh_77 : ze_sh[77]? = some (.inl (0, 4, none)) := rfl
theorem sh_78 : ze_sh[78]? = some (.inl (1, 160, none)) := rfl
theorem sh_79 : ze_sh[79]? = some (.inl (0, 4, none)) := rfl
theorem sh_80 : ze_sh[80]? = some (.inl (0, 4, none)) := rfl
theorem sh_81 : ze_sh[81]? = some (.inl (0, 4, none)) := rfl
theorem sh_82 : ze_sh[82]? = some (.inl (0, 4, none)) := rfl
theorem sh_83 : ze_sh[83]? = some (.inl (0, 4, none)) := rfl
theorem sh_84 : ze_sh[84]? = some (.inl (2, 4, none)) := rfl
theorem sh_85 : ze_sh[85]? = some (.inl (2, 4, none)) := rfl
theorem sh_86 : ze_sh[86]? = some (.inl (0, 4, none)) := rfl
theorem sh_87 : ze_sh[87]? = some (.inl (0, 4, none)) := rfl
theorem sh_88 : ze_sh[88]? = some (.inl (0, 5, none)) := rfl
theorem sh_89 : ze_sh[89]? = some (.inl (0, 40, none)) := rfl
theorem sh_90 : ze_sh[90]? = some (.inl (0, 40, none)) := rfl
theorem sh_91 : ze_sh[91]? = some (.inl (0, 8, none)) := rfl
theorem sh_92 : ze_sh[92]? = some (.inl (0, 8, none)) := rfl
theorem sh_93 : ze_sh[93]? = some (.inl (0, 8, none)) := rfl
theorem sh_94 : ze_sh[94]? = some (.inl (0, 120, none)) := rfl
theorem sh_95 : ze_sh[95]? = some (.inl (0, 120, none)) := rfl
theorem sh_96 : ze_sh[96]? = some (.inl (0, 120, none)) := rfl
theorem sh_97 : ze_sh[97]? = some (.inl (0, 120, none)) := rfl
theorem sh_98 : ze_sh[98]? = some (.inl (0, 120, none)) := rfl
theorem sh_99 : ze_sh[99]? = some (.inl (0, 120, none)) := rfl
theorem sh_100 : ze_sh[100]? = some (.inl (0, 242, none)) := rfl
theorem sh_101 : ze_sh[101]? = some (.inl (0, 242, none)) := rfl
theorem sh_102 : ze_sh[102]? = some (.inl (0, 242, none)) := rfl
theorem sh_103 : ze_sh[103]? = some (.inl (0, 640, none)) := rfl
theorem sh_104 : ze_sh[104]? = some (.inl (0, 160, none)) := rfl
theorem sh_105 : ze_sh[105]? = some (.inl (0, 420, none)) := rfl
theorem sh_106 : ze_sh[106]? = some (.inl (0, 420, none)) := rfl
theorem sh_107 : ze_sh[107]? = some (.inl (0, 420, none)) := rfl
theorem sh_108 : ze_sh[108]? = some (.inl (0, 16, none)) := rfl
theorem sh_109 : ze_sh[109]? = some (.inl (0, 16, none)) := rfl
theorem sh_110 : ze_sh[110]? = some (.inl (0, 16, none)) := rfl
theorem sh_111 : ze_sh[111]? = some (.inl (0, 20, none)) := rfl
theorem sh_112 : ze_sh[112]? = some (.inl (0, 20, none)) := rfl
theorem sh_113 : ze_sh[113]? = some (.inl (0, 20, none)) := rfl
theorem sh_114 : ze_sh[114]? = some (.inl (0, 20, none)) := rfl
theorem sh_115 : ze_sh[115]? = some (.inl (0, 20, none)) := rfl
theorem sh_116 : ze_sh[116]? = some (.inl (0, 20, none)) := rfl
theorem sh_117 : ze_sh[117]? = some (.inl (0, 20, none)) := rfl
theorem sh_118 : ze_sh[118]? = some (.inl (0, 20, none)) := rfl
theorem sh_119 : ze_sh[119]? = some (.inl (0, 8, none)) := rfl
def ze_isProgram (k : Nat) : Prop := ze_sh[k]? = some (.inr (1, [some (k + 1), some (k + 2), some (k + 3), some (k + 4), some (k + 5), some (k + 6)])) ∧ ze_sh[k + 1]? = some (.inl (1, 164, none)) ∧ ze_sh[k + 2]? = some (.inl (0, 164, none)) ∧ ze_sh[k + 3]? = some (.inl (0, 164, none)) ∧ ze_sh[k + 4]? = some (.inl (0, 164, none)) ∧ ze_sh[k + 5]? = some (.inl (0, 164, none)) ∧ ze_sh[k + 6]? = some (.inl (0, 164, none))
theorem is_Program_2 : ze_isProgram 2 := ⟨rfl, rfl, rfl, rfl, rfl, rfl, rfl⟩
theorem is_Program_9 : ze_isProgram 9 := ⟨rfl, rfl, rfl, rfl, rfl, rfl, rfl⟩
def ze_isLine (k n : Nat) : Prop := ze_sh[k]? = some (.inr (5, [none, some (k + 1), some (k + 2), some (k + 3), none, none])) ∧ ze_sh[k + 1]? = some (.inl (0, n, none)) ∧ ze_sh[k + 2]? = some (.inl (0, n, none)) ∧ ze_sh[k + 3]? = some (.inl (0, n, none))
theorem is_Line_39 : ze_isLine 39 8 := ⟨rfl, rfl, rfl, rfl⟩
theorem is_Line_43 : ze_isLine 43 401 := ⟨rfl, rfl, rfl, rfl⟩
def ze_isEndpoint (k : Nat) : Prop := ze_sh[k]? = some (.inr (4, [some (k + 1), some (k + 2), none, none, none])) ∧ ze_sh[k + 1]? = some (.inl (0, 8, none)) ∧ ze_sh[k + 2]? = some (.inl (0, 8, none))
def ze_isExchange (k : Nat) : Prop := ze_sh[k]? = some (.inr (8, [none, none, none, none]))
theorem is_Endpoint_n : ∀ j, j < 5 → ze_isEndpoint (24 + 3 * j) := fun j h => match j, h with
  | 0, _ => ⟨rfl, rfl, rfl⟩
  | 1, _ => ⟨rfl, rfl, rfl⟩
  | 2, _ => ⟨rfl, rfl, rfl⟩
  | 3, _ => ⟨rfl, rfl, rfl⟩
  | 4, _ => ⟨rfl, rfl, rfl⟩
  | n + 5, h => absurd h (by omega)
theorem is_Endpoint_at {i : Int32} (h : vp_in i 5) : ze_isEndpoint (24 + 3 * (Int32.toNatClampNeg i)) := is_Endpoint_n _ (by unfold vp_in at h; omega)
theorem is_Exchange_n : ∀ j, j < 16 → ze_isExchange (58 + 1 * j) := fun j h => match j, h with
  | 0, _ => rfl
  | 1, _ => rfl
  | 2, _ => rfl
  | 3, _ => rfl
  | 4, _ => rfl
  | 5, _ => rfl
  | 6, _ => rfl
  | 7, _ => rfl
  | 8, _ => rfl
  | 9, _ => rfl
  | 10, _ => rfl
  | 11, _ => rfl
  | 12, _ => rfl
  | 13, _ => rfl
  | 14, _ => rfl
  | 15, _ => rfl
  | n + 16, h => absurd h (by omega)
theorem is_Exchange_at {i : Int32} (h : vp_in i 16) : ze_isExchange (58 + 1 * (Int32.toNatClampNeg i)) := is_Exchange_n _ (by unfold vp_in at h; omega)
abbrev ze_sn : Nat := 4
abbrev ze_sl : List Nat := [2, 4, 1, 1]
abbrev ze_sb : List (List Int32) := [[98, 107], [60, 62, 61, 37], [40], [44]]
abbrev ze_sr : List (String × Nat × String × Nat) := [(cn_R, 72, "bk", 0), (cn_R, 78, "<>=%", 1), (cn_R, 80, "(", 2), (cn_R, 94, ",", 3)]
theorem zt_R_72 : (cn_R, 72, "bk", 0) ∈ ze_sr := by decide
theorem zt_R_78 : (cn_R, 78, "<>=%", 1) ∈ ze_sr := by decide
theorem zt_R_80 : (cn_R, 80, "(", 2) ∈ ze_sr := by decide
theorem zt_R_94 : (cn_R, 94, ",", 3) ∈ ze_sr := by decide
/-! THE JUDGEMENT. ze_sh (shapes), ze_tl (types of arrays), ze_cl (classes), ze_tbl (words) stand ahead of this part. -/
abbrev ze_G : Type := (Program × Launch × Env × Room) × (State × MethodId × Array Value × List Frame) × (Method × Code × va_G) × ((Nat → Nat) × (Nat → ClassId) × Heap) × (Nat × Nat × (State → Prop)) × (Int32 × ze_H)
abbrev ze_s (G : ze_G) : State := G.2.1.1
abbrev ze_ar (G : ze_G) : Array Value := G.2.1.2.2.1
abbrev ze_m (G : ze_G) : MethodId := G.2.1.2.1
abbrev ze_me (G : ze_G) : Method := G.2.2.1.1
abbrev ze_c (G : ze_G) : Code := G.2.2.1.2.1
abbrev ze_D (G : ze_G) : va_G := G.2.2.1.2.2
abbrev ze_ad (G : ze_G) : Nat → Nat := G.2.2.2.1.1
abbrev ze_ca (G : ze_G) : Nat → ClassId := G.2.2.2.1.2.1
abbrev ze_h0 (G : ze_G) : Heap := G.2.2.2.1.2.2
abbrev ze_R (G : ze_G) : Room := G.1.2.2.2
abbrev ze_l (G : ze_G) : Launch := G.1.2.1
abbrev ze_tg (G : ze_G) : Int32 × ze_H := G.2.2.2.2.2
def ze_A (ad : Nat → Nat) : Nat → Prop := fun q => ∃ k, k < ze_sh.length ∧ q = ad k
/-- the texts that the code names, unchanged: of text i the object is ad (1000 + i), its bytes ad (1100 + i) -/
def ze_Q (ad : Nat → Nat) (U : State) (H : Heap) : Prop := vk_S ze_sn ze_sl ze_sb (fun i => ad (1000 + i)) (fun i => ad (1100 + i)) (ze_A ad) U H ∧ (∀ q ∈ ze_sr, vk_R q.1 q.2.1 q.2.2.1 (ad (1000 + q.2.2.2)) U) ∧ va_Z "java/lang/String" "COMPACT_STRINGS" "Z" (.int 1) (ze_A ad) U H
theorem ze_Q.kept {ad : Nat → Nat} {U : State} {H0 H : Heap} {locs : List Loc} (h : ze_Q ad U H0) (hS : va_S (ze_A ad) H0 H locs) : ze_Q ad U H := ⟨h.1.kept hS.2.1, h.2.1, h.2.2.kept hS.2.1⟩
theorem ze_Q.warm {ad : Nat → Nat} {s U : State} {H : Heap} (h : ze_Q ad s H) (hW : s.WarmedH U.vm) : ze_Q ad U H := ⟨h.1.moved hW.alike, fun q hq => (h.2.1 q hq).warm hW, h.2.2.moved hW.alike⟩
theorem ze_Q.blind {ad : Nat → Nat} {U : State} {H : Heap} {g : JFrame} {mk : MethodId} {a : Array Value} (h : ze_Q ad U H) : ze_Q ad (U.calling g mk a) H := ⟨h.1.moved (u := U) (U := U.calling g mk a) (Vm.Alike.refl U.vm), fun q hq => vk_R.same (u := U) (U := U.calling g mk a) rfl (h.2.1 q hq), h.2.2.moved (u := U) (U := U.calling g mk a) (Vm.Alike.refl U.vm)⟩
def ze_tys (ca : Nat → ClassId) : List (ClassId × FieldType) := ze_tl.mapIdx (fun t ty => (ca t, ty))
theorem ze_tys_at {ca : Nat → ClassId} {t : Nat} {ty : FieldType} (h : ze_tl[t]? = some ty) : (ze_tys ca)[t]? = some (ca t, ty) := by
  unfold ze_tys
  rw [List.getElem?_mapIdx, h]
  rfl
/-- the machine comes to its end from here -/
def ze_W (G : ze_G) (H : Heap) (locs : List Loc) (g : JFrame) : Prop := W G.1.1 G.1.2.1 G.1.2.2.1 G.1.2.2.2 G.2.1.1 G.2.1.2.1 G.2.1.2.2.1 G.2.1.2.2.2 G.2.2.1.1 G.2.2.1.2.1 H locs G.2.2.2.2.1.1 G.2.2.2.2.1.2.1 G.2.2.2.2.1.2.2 g
/-- the tree t, if it comes to the answer, says how the machine goes from here -/
def ze_T (G : ze_G) (t : Option (Int32 × ze_H)) (v : ze_H) (pc : Nat) (L : List (Option ze_V)) (st : List ze_V) : Prop :=
  t = some (ze_tg G) → ∀ (H : Heap) (locs : List Loc) (ls : Array Slot), va_P (ze_D G) ze_cl (ze_ws ze_sh (ze_ad G) (ze_ca G) v) H → va_S (ze_A (ze_ad G)) (ze_h0 G) H locs → ze_has (ze_ad G) (ze_c G).maxLocals L ls →
    ze_W G H locs (F0 (ze_m G) pc ls (st.map (ze_val (ze_ad G))))
/-- what stands fast in a method's walk -/
def ze_X (G : ze_G) (cc : ByteArray) (own : String) (nL fr lo : Nat) : Prop :=
  G.1.1.tables.exec = Jvm.exec ∧ (ze_c G).code = cc ∧ (ze_s G).vm.findClass own = some (ze_m G).cls ∧ (∀ w ∈ ze_tbl, w.before (ze_ar G) (ze_s G) = true) ∧ (ze_c G).maxLocals = nL ∧
  va_K (ze_D G) ze_cl (ze_tys (ze_ca G)) (ze_s G) ∧ va_D (ze_A (ze_ad G)) (ze_ws ze_sh (ze_ad G) (ze_ca G) (fun _ _ => 0)) ∧ fr ≤ (ze_R G).frames ∧ lo ≤ (ze_R G).locals ∧ G.2.2.2.2.1.1 ≤ (ze_R G).cells ∧ G.2.2.2.2.1.2.1 ≤ (ze_R G).slots ∧ ze_Q (ze_ad G) (ze_s G) (ze_h0 G)
def ze_let (x : Int32) (t : Int32 → Option (Int32 × ze_H)) : Option (Int32 × ze_H) := t x
def ze_lev (x : ze_H) (t : ze_H → Option (Int32 × ze_H)) : Option (Int32 × ze_H) := t x
def ze_mask : List Bool → List (Option ze_V) → List (Option ze_V)
  | true :: b, q :: r => q :: ze_mask b r
  | false :: b, _ :: r => none :: ze_mask b r
  | _, _ => []
theorem ze_mask_le : ∀ (b : List Bool) (L : List (Option ze_V)) (i : Nat) (w : ze_V), (ze_mask b L)[i]? = some (some w) → L[i]? = some (some w)
  | true :: b, q :: r, 0, w, h => by simpa [ze_mask] using h
  | true :: b, q :: r, i + 1, w, h => by simpa using ze_mask_le b r i w (by simpa [ze_mask] using h)
  | false :: b, q :: r, 0, w, h => by simp [ze_mask] at h
  | false :: b, q :: r, i + 1, w, h => by simpa using ze_mask_le b r i w (by simpa [ze_mask] using h)
  | [], L, i, w, h => by simp [ze_mask] at h
  | true :: b, [], i, w, h => by simp [ze_mask] at h
  | false :: b, [], i, w, h => by simp [ze_mask] at h
section ZE
variable {G : ze_G} {cc : ByteArray} {own : String} {nL fr lo : Nat} {t : Option (Int32 × ze_H)} {v : ze_H} {pc : Nat} {L : List (Option ze_V)} {st : List ze_V}
theorem ze_weak (b : List Bool) (k : ze_T G t v pc (ze_mask b L) st) : ze_T G t v pc L st := fun ht H locs ls hP hS hl => k ht H locs ls hP hS (hl.sub (ze_mask_le b L))
theorem ze_none : ze_T G none v pc L st := fun ht => by cases ht
theorem ze_if {c : Prop} [Decidable c] {a b : Option (Int32 × ze_H)} (k1 : c → ze_T G a v pc L st) (k2 : ¬ c → ze_T G b v pc L st) : ze_T G (if c then a else b) v pc L st := by
  by_cases h : c
  · rw [if_pos h]; exact k1 h
  · rw [if_neg h]; exact k2 h
/-- an index in its bounds, or nothing -/
def ze_in (i : Int32) (n : Nat) (t : Option (Int32 × ze_H)) : Option (Int32 × ze_H) := if i < 0 ∨ n ≤ i.toNatClampNeg then none else t
theorem ze_inT {i : Int32} {n : Nat} (k : vp_in i n → ze_T G t v pc L st) : ze_T G (ze_in i n t) v pc L st := by
  unfold ze_in
  exact ze_if (fun _ => ze_none) (fun h => k h)
theorem ze_eqt {t2 : Option (Int32 × ze_H)} (h : t = t2) (k : ze_T G t2 v pc L st) : ze_T G t v pc L st := h ▸ k

theorem ze_iconst (X : ze_X G cc own nL fr lo) {n : Int} {x : Int32} (d : decode cc pc = .ok (.iconst n, 1)) (hv : Int32.ofInt n = x) (k : ze_T G t v (pc + 1) L (.inl x :: st)) : ze_T G t v pc L st := fun ht H locs ls hP hS hl => lv_iconst X.1 X.2.1 d hv (k ht H locs ls hP hS hl)
theorem ze_bipush (X : ze_X G cc own nL fr lo) {n : Int} {x : Int32} (d : decode cc pc = .ok (.bipush n, 2)) (hv : (Int8.ofInt n).toInt32 = x) (k : ze_T G t v (pc + 2) L (.inl x :: st)) : ze_T G t v pc L st := fun ht H locs ls hP hS hl => lv_bipush X.1 X.2.1 d hv (k ht H locs ls hP hS hl)
theorem ze_sipush (X : ze_X G cc own nL fr lo) {n : Int} {x : Int32} (d : decode cc pc = .ok (.sipush n, 3)) (hv : (Int16.ofInt n).toInt32 = x) (k : ze_T G t v (pc + 3) L (.inl x :: st)) : ze_T G t v pc L st := fun ht H locs ls hP hS hl => lv_sipush X.1 X.2.1 d hv (k ht H locs ls hP hS hl)
theorem ze_ldc (X : ze_X G cc own nL fr lo) {ix : Nat} {x : Int32} (d : decode cc pc = .ok (.ldc ix, 2)) (hw : Jvm.Cond.constant own ix x ∈ ze_tbl) (k : ze_T G t v (pc + 2) L (.inl x :: st)) : ze_T G t v pc L st := fun ht H locs ls hP hS hl => lv_ldc X.1 X.2.1 X.2.2.1 (X.2.2.2.1 _ hw) d (k ht H locs ls hP hS hl)
theorem ze_iload_n (X : ze_X G cc own nL fr lo) {j : Fin 4} {i : Nat} {x : Int32} (d : decode cc pc = .ok (.iload_n j, 1)) (hi : (j : Nat) = i) (hL : L[i]? = some (some (.inl x))) (k : ze_T G t v (pc + 1) L (.inl x :: st)) : ze_T G t v pc L st := fun ht H locs ls hP hS hl => lv_iload_n X.1 X.2.1 d hi (hl.2.2 i _ hL) (k ht H locs ls hP hS hl)
theorem ze_iload (X : ze_X G cc own nL fr lo) {i : Nat} {x : Int32} (d : decode cc pc = .ok (.iload i, 2)) (hL : L[i]? = some (some (.inl x))) (k : ze_T G t v (pc + 2) L (.inl x :: st)) : ze_T G t v pc L st := fun ht H locs ls hP hS hl => lv_iload X.1 X.2.1 d (hl.2.2 i _ hL) (k ht H locs ls hP hS hl)
theorem ze_aload_n (X : ze_X G cc own nL fr lo) {j : Fin 4} {i : Nat} {x : Nat} (d : decode cc pc = .ok (.aload_n j, 1)) (hi : (j : Nat) = i) (hL : L[i]? = some (some (.inr x))) (k : ze_T G t v (pc + 1) L (.inr x :: st)) : ze_T G t v pc L st := fun ht H locs ls hP hS hl => lv_aload_n X.1 X.2.1 d hi (hl.2.2 i _ hL) (k ht H locs ls hP hS hl)
theorem ze_aload (X : ze_X G cc own nL fr lo) {i : Nat} {x : Nat} (d : decode cc pc = .ok (.aload i, 2)) (hL : L[i]? = some (some (.inr x))) (k : ze_T G t v (pc + 2) L (.inr x :: st)) : ze_T G t v pc L st := fun ht H locs ls hP hS hl => lv_aload X.1 X.2.1 d (hl.2.2 i _ hL) (k ht H locs ls hP hS hl)
theorem ze_istore_n (X : ze_X G cc own nL fr lo) {j : Fin 4} {i : Nat} {x : Int32} {t : Int32 → Option (Int32 × ze_H)} (d : decode cc pc = .ok (.istore_n j, 1)) (hi : (j : Nat) = i) (hn : i < nL) (k : ∀ y : Int32, ze_T G (t y) v (pc + 1) (L.set i (some (.inl y))) st) : ze_T G (ze_let x t) v pc L (.inl x :: st) := fun ht H locs ls hP hS hl => lv_istore_n X.1 X.2.1 d hi hl.lv (by rw [X.2.2.2.2.1]; exact hn) rfl (fun ls1 hl1 => k x ht H locs ls1 hP hS (ze_has.st hl1))
theorem ze_istore (X : ze_X G cc own nL fr lo) {i : Nat} {x : Int32} {t : Int32 → Option (Int32 × ze_H)} (d : decode cc pc = .ok (.istore i, 2)) (hn : i < nL) (k : ∀ y : Int32, ze_T G (t y) v (pc + 2) (L.set i (some (.inl y))) st) : ze_T G (ze_let x t) v pc L (.inl x :: st) := fun ht H locs ls hP hS hl => lv_istore X.1 X.2.1 d hl.lv (by rw [X.2.2.2.2.1]; exact hn) rfl (fun ls1 hl1 => k x ht H locs ls1 hP hS (ze_has.st hl1))
theorem ze_astore_n (X : ze_X G cc own nL fr lo) {j : Fin 4} {i : Nat} {x : Nat} (d : decode cc pc = .ok (.astore_n j, 1)) (hi : (j : Nat) = i) (hn : i < nL) (k : ze_T G t v (pc + 1) (L.set i (some (.inr x))) st) : ze_T G t v pc L (.inr x :: st) := fun ht H locs ls hP hS hl => lv_astore_n X.1 X.2.1 d hi hl.lv (by rw [X.2.2.2.2.1]; exact hn) rfl (fun ls1 hl1 => k ht H locs ls1 hP hS (ze_has.st (w := .inr x) hl1))
theorem ze_astore (X : ze_X G cc own nL fr lo) {i : Nat} {x : Nat} (d : decode cc pc = .ok (.astore i, 2)) (hn : i < nL) (k : ze_T G t v (pc + 2) (L.set i (some (.inr x))) st) : ze_T G t v pc L (.inr x :: st) := fun ht H locs ls hP hS hl => lv_astore X.1 X.2.1 d hl.lv (by rw [X.2.2.2.2.1]; exact hn) rfl (fun ls1 hl1 => k ht H locs ls1 hP hS (ze_has.st (w := .inr x) hl1))
theorem ze_as_get {ad : Nat → Nat} {L : List (Option ze_V)} {i : Nat} {w : ze_V} (h : L[i]? = some (some w)) : ∃ k : Nat, (ze_as ad L)[k]? = some (i, ze_val ad w) := List.getElem?_of_mem (ze_as_mem h)
theorem ze_iinc (X : ze_X G cc own nL fr lo) {i : Nat} {n : Int} {x y : Int32} {t : Int32 → Option (Int32 × ze_H)} (d : decode cc pc = .ok (.iinc i n, 3)) (hL : L[i]? = some (some (.inl x))) (hv : Int32.ofInt n = y) (hn : i < nL) (k : ∀ z : Int32, ze_T G (t z) v (pc + 3) (L.set i (some (.inl z))) st) : ze_T G (ze_let (x + y) t) v pc L st := fun ht H locs ls hP hS hl => by
  obtain ⟨q, hq⟩ := ze_as_get (ad := ze_ad G) hL
  exact lv_iinc X.1 X.2.1 d hl.lv hq (by rw [hv]) (by rw [X.2.2.2.2.1]; exact hn) rfl (fun ls1 hl1 => k (x + y) ht H locs ls1 hP hS (ze_has.st hl1))
theorem ze_iadd (X : ze_X G cc own nL fr lo) {x y : Int32} (d : decode cc pc = .ok (.iadd, 1)) (k : ze_T G t v (pc + 1) L (.inl (x + y) :: st)) : ze_T G t v pc L (.inl y :: .inl x :: st) := fun ht H locs ls hP hS hl => lv_iadd X.1 X.2.1 d (k ht H locs ls hP hS hl)
theorem ze_isub (X : ze_X G cc own nL fr lo) {x y : Int32} (d : decode cc pc = .ok (.isub, 1)) (k : ze_T G t v (pc + 1) L (.inl (x - y) :: st)) : ze_T G t v pc L (.inl y :: .inl x :: st) := fun ht H locs ls hP hS hl => lv_isub X.1 X.2.1 d (k ht H locs ls hP hS hl)
theorem ze_imul (X : ze_X G cc own nL fr lo) {x y : Int32} (d : decode cc pc = .ok (.imul, 1)) (k : ze_T G t v (pc + 1) L (.inl (x * y) :: st)) : ze_T G t v pc L (.inl y :: .inl x :: st) := fun ht H locs ls hP hS hl => lv_imul X.1 X.2.1 d (k ht H locs ls hP hS hl)
theorem ze_iand (X : ze_X G cc own nL fr lo) {x y : Int32} (d : decode cc pc = .ok (.iand, 1)) (k : ze_T G t v (pc + 1) L (.inl (x &&& y) :: st)) : ze_T G t v pc L (.inl y :: .inl x :: st) := fun ht H locs ls hP hS hl => lv_iand X.1 X.2.1 d (k ht H locs ls hP hS hl)
theorem ze_ior (X : ze_X G cc own nL fr lo) {x y : Int32} (d : decode cc pc = .ok (.ior, 1)) (k : ze_T G t v (pc + 1) L (.inl (x ||| y) :: st)) : ze_T G t v pc L (.inl y :: .inl x :: st) := fun ht H locs ls hP hS hl => lv_ior X.1 X.2.1 d (k ht H locs ls hP hS hl)
theorem ze_ixor (X : ze_X G cc own nL fr lo) {x y : Int32} (d : decode cc pc = .ok (.ixor, 1)) (k : ze_T G t v (pc + 1) L (.inl (x ^^^ y) :: st)) : ze_T G t v pc L (.inl y :: .inl x :: st) := fun ht H locs ls hP hS hl => lv_ixor X.1 X.2.1 d (k ht H locs ls hP hS hl)
theorem ze_ishl (X : ze_X G cc own nL fr lo) {x y : Int32} (d : decode cc pc = .ok (.ishl, 1)) (k : ze_T G t v (pc + 1) L (.inl (x <<< (y &&& 31)) :: st)) : ze_T G t v pc L (.inl y :: .inl x :: st) := fun ht H locs ls hP hS hl => lv_ishl X.1 X.2.1 d (k ht H locs ls hP hS hl)
theorem ze_ishr (X : ze_X G cc own nL fr lo) {x y : Int32} (d : decode cc pc = .ok (.ishr, 1)) (k : ze_T G t v (pc + 1) L (.inl (x >>> (y &&& 31)) :: st)) : ze_T G t v pc L (.inl y :: .inl x :: st) := fun ht H locs ls hP hS hl => lv_ishr X.1 X.2.1 d (k ht H locs ls hP hS hl)
theorem ze_ineg (X : ze_X G cc own nL fr lo) {x : Int32} (d : decode cc pc = .ok (.ineg, 1)) (k : ze_T G t v (pc + 1) L (.inl (-x) :: st)) : ze_T G t v pc L (.inl x :: st) := fun ht H locs ls hP hS hl => lv_ineg X.1 X.2.1 d (k ht H locs ls hP hS hl)
theorem ze_idiv (X : ze_X G cc own nL fr lo) {x y : Int32} (d : decode cc pc = .ok (.idiv, 1)) (k : ¬ y = 0 → ze_T G t v (pc + 1) L (.inl (x / y) :: st)) : ze_T G (if y = 0 then none else t) v pc L (.inl y :: .inl x :: st) := ze_if (fun _ => ze_none) (fun hy => fun ht H locs ls hP hS hl => lv_idiv X.1 X.2.1 d hy (k hy ht H locs ls hP hS hl))
theorem ze_irem (X : ze_X G cc own nL fr lo) {x y : Int32} (d : decode cc pc = .ok (.irem, 1)) (k : ¬ y = 0 → ze_T G t v (pc + 1) L (.inl (x - x / y * y) :: st)) : ze_T G (if y = 0 then none else t) v pc L (.inl y :: .inl x :: st) := ze_if (fun _ => ze_none) (fun hy => fun ht H locs ls hP hS hl => lv_irem X.1 X.2.1 d hy (k hy ht H locs ls hP hS hl))
theorem ze_i2c (X : ze_X G cc own nL fr lo) {x : Int32} (d : decode cc pc = .ok (.i2c, 1)) (k : ze_T G t v (pc + 1) L (.inl ((x.toUInt32 % 65536).toInt32) :: st)) : ze_T G t v pc L (.inl x :: st) := fun ht H locs ls hP hS hl => lv_i2c X.1 X.2.1 d rfl (k ht H locs ls hP hS hl)
theorem ze_dup (X : ze_X G cc own nL fr lo) {a : ze_V} (d : decode cc pc = .ok (.dup, 1)) (k : ze_T G t v (pc + 1) L (a :: a :: st)) : ze_T G t v pc L (a :: st) := fun ht H locs ls hP hS hl => lv_dup X.1 X.2.1 d (ze_val_cat _ a) (k ht H locs ls hP hS hl)
theorem ze_pop (X : ze_X G cc own nL fr lo) {a : ze_V} (d : decode cc pc = .ok (.pop, 1)) (k : ze_T G t v (pc + 1) L st) : ze_T G t v pc L (a :: st) := fun ht H locs ls hP hS hl => lv_pop X.1 X.2.1 d (ze_val_cat _ a) (k ht H locs ls hP hS hl)
theorem ze_dup_x1 (X : ze_X G cc own nL fr lo) {a b : ze_V} (d : decode cc pc = .ok (.dup_x1, 1)) (k : ze_T G t v (pc + 1) L (a :: b :: a :: st)) : ze_T G t v pc L (a :: b :: st) := fun ht H locs ls hP hS hl => lv_dup_x1 X.1 X.2.1 d (ze_val_cat _ a) (ze_val_cat _ b) (k ht H locs ls hP hS hl)
theorem ze_dup_x2 (X : ze_X G cc own nL fr lo) {a b e : ze_V} (d : decode cc pc = .ok (.dup_x2, 1)) (k : ze_T G t v (pc + 1) L (a :: b :: e :: a :: st)) : ze_T G t v pc L (a :: b :: e :: st) := fun ht H locs ls hP hS hl => lv_dup_x2 X.1 X.2.1 d (ze_val_cat _ a) (ze_val_cat _ b) (ze_val_cat _ e) (k ht H locs ls hP hS hl)
theorem ze_dup2 (X : ze_X G cc own nL fr lo) {a b : ze_V} (d : decode cc pc = .ok (.dup2, 1)) (k : ze_T G t v (pc + 1) L (a :: b :: a :: b :: st)) : ze_T G t v pc L (a :: b :: st) := fun ht H locs ls hP hS hl => lv_dup2_11 X.1 X.2.1 d (ze_val_cat _ a) (ze_val_cat _ b) (k ht H locs ls hP hS hl)
theorem ze_if_eq (X : ze_X G cc own nL fr lo) {x : Int32} {off : Int} {tgt : Nat} {a b : Option (Int32 × ze_H)} (d : decode cc pc = .ok (.ifCond .eq off, 3)) (hq : (pc : Int) + off = (tgt : Int)) (k1 : x = 0 → ze_T G a v tgt L st) (k2 : ¬ x = 0 → ze_T G b v (pc + 3) L st) : ze_T G (if x = 0 then a else b) v pc L (.inl x :: st) := fun ht H locs ls hP hS hl => lv_if_eq X.1 X.2.1 d hq (fun q => k1 q ((if_pos q).symm.trans ht) H locs ls hP hS hl) (fun q => k2 q ((if_neg q).symm.trans ht) H locs ls hP hS hl)
theorem ze_icmp_eq (X : ze_X G cc own nL fr lo) {x y : Int32} {off : Int} {tgt : Nat} {a b : Option (Int32 × ze_H)} (d : decode cc pc = .ok (.if_icmp .eq off, 3)) (hq : (pc : Int) + off = (tgt : Int)) (k1 : x = y → ze_T G a v tgt L st) (k2 : ¬ x = y → ze_T G b v (pc + 3) L st) : ze_T G (if x = y then a else b) v pc L (.inl y :: .inl x :: st) := fun ht H locs ls hP hS hl => lv_icmp_eq X.1 X.2.1 d hq (fun q => k1 q ((if_pos q).symm.trans ht) H locs ls hP hS hl) (fun q => k2 q ((if_neg q).symm.trans ht) H locs ls hP hS hl)
theorem ze_if_ne (X : ze_X G cc own nL fr lo) {x : Int32} {off : Int} {tgt : Nat} {a b : Option (Int32 × ze_H)} (d : decode cc pc = .ok (.ifCond .ne off, 3)) (hq : (pc : Int) + off = (tgt : Int)) (k1 : x = 0 → ze_T G a v (pc + 3) L st) (k2 : ¬ x = 0 → ze_T G b v tgt L st) : ze_T G (if x = 0 then a else b) v pc L (.inl x :: st) := fun ht H locs ls hP hS hl => lv_if_ne X.1 X.2.1 d hq (fun q => k2 q ((if_neg q).symm.trans ht) H locs ls hP hS hl) (fun q => k1 q ((if_pos q).symm.trans ht) H locs ls hP hS hl)
theorem ze_icmp_ne (X : ze_X G cc own nL fr lo) {x y : Int32} {off : Int} {tgt : Nat} {a b : Option (Int32 × ze_H)} (d : decode cc pc = .ok (.if_icmp .ne off, 3)) (hq : (pc : Int) + off = (tgt : Int)) (k1 : x = y → ze_T G a v (pc + 3) L st) (k2 : ¬ x = y → ze_T G b v tgt L st) : ze_T G (if x = y then a else b) v pc L (.inl y :: .inl x :: st) := fun ht H locs ls hP hS hl => lv_icmp_ne X.1 X.2.1 d hq (fun q => k2 q ((if_neg q).symm.trans ht) H locs ls hP hS hl) (fun q => k1 q ((if_pos q).symm.trans ht) H locs ls hP hS hl)
theorem ze_if_lt (X : ze_X G cc own nL fr lo) {x : Int32} {off : Int} {tgt : Nat} {a b : Option (Int32 × ze_H)} (d : decode cc pc = .ok (.ifCond .lt off, 3)) (hq : (pc : Int) + off = (tgt : Int)) (k1 : x < 0 → ze_T G a v tgt L st) (k2 : ¬ x < 0 → ze_T G b v (pc + 3) L st) : ze_T G (if x < 0 then a else b) v pc L (.inl x :: st) := fun ht H locs ls hP hS hl => lv_if_lt X.1 X.2.1 d hq (fun q => k1 q ((if_pos q).symm.trans ht) H locs ls hP hS hl) (fun q => k2 q ((if_neg q).symm.trans ht) H locs ls hP hS hl)
theorem ze_icmp_lt (X : ze_X G cc own nL fr lo) {x y : Int32} {off : Int} {tgt : Nat} {a b : Option (Int32 × ze_H)} (d : decode cc pc = .ok (.if_icmp .lt off, 3)) (hq : (pc : Int) + off = (tgt : Int)) (k1 : x < y → ze_T G a v tgt L st) (k2 : ¬ x < y → ze_T G b v (pc + 3) L st) : ze_T G (if x < y then a else b) v pc L (.inl y :: .inl x :: st) := fun ht H locs ls hP hS hl => lv_icmp_lt X.1 X.2.1 d hq (fun q => k1 q ((if_pos q).symm.trans ht) H locs ls hP hS hl) (fun q => k2 q ((if_neg q).symm.trans ht) H locs ls hP hS hl)
theorem ze_if_ge (X : ze_X G cc own nL fr lo) {x : Int32} {off : Int} {tgt : Nat} {a b : Option (Int32 × ze_H)} (d : decode cc pc = .ok (.ifCond .ge off, 3)) (hq : (pc : Int) + off = (tgt : Int)) (k1 : 0 ≤ x → ze_T G a v tgt L st) (k2 : ¬ 0 ≤ x → ze_T G b v (pc + 3) L st) : ze_T G (if 0 ≤ x then a else b) v pc L (.inl x :: st) := fun ht H locs ls hP hS hl => lv_if_ge X.1 X.2.1 d hq (fun q => k1 q ((if_pos q).symm.trans ht) H locs ls hP hS hl) (fun q => k2 q ((if_neg q).symm.trans ht) H locs ls hP hS hl)
theorem ze_icmp_ge (X : ze_X G cc own nL fr lo) {x y : Int32} {off : Int} {tgt : Nat} {a b : Option (Int32 × ze_H)} (d : decode cc pc = .ok (.if_icmp .ge off, 3)) (hq : (pc : Int) + off = (tgt : Int)) (k1 : y ≤ x → ze_T G a v tgt L st) (k2 : ¬ y ≤ x → ze_T G b v (pc + 3) L st) : ze_T G (if y ≤ x then a else b) v pc L (.inl y :: .inl x :: st) := fun ht H locs ls hP hS hl => lv_icmp_ge X.1 X.2.1 d hq (fun q => k1 q ((if_pos q).symm.trans ht) H locs ls hP hS hl) (fun q => k2 q ((if_neg q).symm.trans ht) H locs ls hP hS hl)
theorem ze_if_gt (X : ze_X G cc own nL fr lo) {x : Int32} {off : Int} {tgt : Nat} {a b : Option (Int32 × ze_H)} (d : decode cc pc = .ok (.ifCond .gt off, 3)) (hq : (pc : Int) + off = (tgt : Int)) (k1 : 0 < x → ze_T G a v tgt L st) (k2 : ¬ 0 < x → ze_T G b v (pc + 3) L st) : ze_T G (if 0 < x then a else b) v pc L (.inl x :: st) := fun ht H locs ls hP hS hl => lv_if_gt X.1 X.2.1 d hq (fun q => k1 q ((if_pos q).symm.trans ht) H locs ls hP hS hl) (fun q => k2 q ((if_neg q).symm.trans ht) H locs ls hP hS hl)
theorem ze_icmp_gt (X : ze_X G cc own nL fr lo) {x y : Int32} {off : Int} {tgt : Nat} {a b : Option (Int32 × ze_H)} (d : decode cc pc = .ok (.if_icmp .gt off, 3)) (hq : (pc : Int) + off = (tgt : Int)) (k1 : y < x → ze_T G a v tgt L st) (k2 : ¬ y < x → ze_T G b v (pc + 3) L st) : ze_T G (if y < x then a else b) v pc L (.inl y :: .inl x :: st) := fun ht H locs ls hP hS hl => lv_icmp_gt X.1 X.2.1 d hq (fun q => k1 q ((if_pos q).symm.trans ht) H locs ls hP hS hl) (fun q => k2 q ((if_neg q).symm.trans ht) H locs ls hP hS hl)
theorem ze_if_le (X : ze_X G cc own nL fr lo) {x : Int32} {off : Int} {tgt : Nat} {a b : Option (Int32 × ze_H)} (d : decode cc pc = .ok (.ifCond .le off, 3)) (hq : (pc : Int) + off = (tgt : Int)) (k1 : x ≤ 0 → ze_T G a v tgt L st) (k2 : ¬ x ≤ 0 → ze_T G b v (pc + 3) L st) : ze_T G (if x ≤ 0 then a else b) v pc L (.inl x :: st) := fun ht H locs ls hP hS hl => lv_if_le X.1 X.2.1 d hq (fun q => k1 q ((if_pos q).symm.trans ht) H locs ls hP hS hl) (fun q => k2 q ((if_neg q).symm.trans ht) H locs ls hP hS hl)
theorem ze_icmp_le (X : ze_X G cc own nL fr lo) {x y : Int32} {off : Int} {tgt : Nat} {a b : Option (Int32 × ze_H)} (d : decode cc pc = .ok (.if_icmp .le off, 3)) (hq : (pc : Int) + off = (tgt : Int)) (k1 : x ≤ y → ze_T G a v tgt L st) (k2 : ¬ x ≤ y → ze_T G b v (pc + 3) L st) : ze_T G (if x ≤ y then a else b) v pc L (.inl y :: .inl x :: st) := fun ht H locs ls hP hS hl => lv_icmp_le X.1 X.2.1 d hq (fun q => k1 q ((if_pos q).symm.trans ht) H locs ls hP hS hl) (fun q => k2 q ((if_neg q).symm.trans ht) H locs ls hP hS hl)
theorem ze_goto (X : ze_X G cc own nL fr lo) {off : Int} {tgt : Nat} (d : decode cc pc = .ok (.goto off, 3)) (hq : (pc : Int) + off = (tgt : Int)) (k : ze_T G t v tgt L st) : ze_T G t v pc L st := fun ht H locs ls hP hS hl => lv_goto X.1 X.2.1 d hq (k ht H locs ls hP hS hl)
theorem ze_lookup (X : ze_X G cc own nL fr lo) {dflt : Int} {ps : Array (Int × Int)} {len : Nat} {x : Int32} {off : Int} {tgt : Nat} (d : decode cc pc = .ok (.lookupswitch dflt ps, len)) (hp : (ps.toList.zip (ps.toList.drop 1)).all (fun (a, next) => a.1 < next.1) = true) (ho : Op.lookupswitch.offset ps.toList dflt x.toInt = off) (hq : (pc : Int) + off = (tgt : Int)) (k : ze_T G t v tgt L st) : ze_T G t v pc L (.inl x :: st) := fun ht H locs ls hP hS hl => lv_lookup X.1 X.2.1 d hp ho hq (k ht H locs ls hP hS hl)
theorem ze_tabO (X : ze_X G cc own nL fr lo) {dflt lw hi : Int} {offs : Array Int} {len : Nat} {x : Int32} {tgt : Nat} (d : decode cc pc = .ok (.tableswitch dflt lw hi offs, len)) (h : x.toInt < lw ∨ hi < x.toInt) (hq : (pc : Int) + dflt = (tgt : Int)) (k : ze_T G t v tgt L st) : ze_T G t v pc L (.inl x :: st) := fun ht H locs ls hP hS hl => lv_tableOut X.1 X.2.1 d h hq (k ht H locs ls hP hS hl)
theorem ze_tabI (X : ze_X G cc own nL fr lo) {dflt lw hi : Int} {offs : Array Int} {len : Nat} {x : Int32} {off : Int} {tgt : Nat} (d : decode cc pc = .ok (.tableswitch dflt lw hi offs, len)) (h1 : ¬ x.toInt < lw) (h2 : ¬ hi < x.toInt) (ho : offs[(x.toInt - lw).toNat]? = some off) (hq : (pc : Int) + off = (tgt : Int)) (k : ze_T G t v tgt L st) : ze_T G t v pc L (.inl x :: st) := fun ht H locs ls hP hS hl => lv_tableIn X.1 X.2.1 d h1 h2 ho hq (k ht H locs ls hP hS hl)
/-- the constant ix of class own is field f of class ci (a number, if w) -/
def ze_F (own : String) (ix ci f : Nat) : Prop := ∃ (C : String) (T : u_T) (N : Nat), ze_cl[ci]? = some (C, T, N) ∧ (∀ w ∈ u_ws C T N, w ∈ ze_tbl) ∧ f < N ∧ Cond.fieldLink own ix (T f).1 (T f).2.1 (T f).2.2.1 ∈ ze_tbl
theorem ze_geti (X : ze_X G cc own nL fr lo) {k0 ix ci f : Nat} {fl : List (Option Nat)} (d : decode cc pc = .ok (.getfield ix, 3)) (hF : ze_F own ix ci f) (hk : ze_sh[k0]? = some (.inr (ci, fl))) (hf : fl[f]? = some none) (k : ze_T G t v (pc + 3) L (.inl (v k0 f) :: st)) : ze_T G t v pc L (.inr k0 :: st) := fun ht H locs ls hP hS hl => by
  obtain ⟨C, T, N, h1, h2, h3, h4⟩ := hF
  have e := ze_fs_get (ad := ze_ad G) (g := v k0) fl 0 f hf
  rw [Nat.zero_add] at e
  exact va_get X.1 X.2.1 X.2.2.2.1 h2 X.2.2.1 X.2.2.2.2.2.1 hP k0 (ze_ws_at hk) h1 f h3 (X.2.2.2.1 _ h4) (fun _ h => h) e d (k ht H locs ls hP hS hl)
theorem ze_getr (X : ze_X G cc own nL fr lo) {k0 ix ci f q : Nat} {fl : List (Option Nat)} (d : decode cc pc = .ok (.getfield ix, 3)) (hF : ze_F own ix ci f) (hk : ze_sh[k0]? = some (.inr (ci, fl))) (hf : fl[f]? = some (some q)) (k : ze_T G t v (pc + 3) L (.inr q :: st)) : ze_T G t v pc L (.inr k0 :: st) := fun ht H locs ls hP hS hl => by
  obtain ⟨C, T, N, h1, h2, h3, h4⟩ := hF
  exact va_get X.1 X.2.1 X.2.2.2.1 h2 X.2.2.1 X.2.2.2.2.2.1 hP k0 (ze_ws_at hk) h1 f h3 (X.2.2.2.1 _ h4) (fun _ h => h) (ze_fs_ref (ad := ze_ad G) (g := v k0) fl 0 f q hf) d (k ht H locs ls hP hS hl)
/-- the same of a field that may be written: an int -/
def ze_Fp (own : String) (ix ci f : Nat) : Prop := ∃ (C : String) (T : u_T) (N : Nat) (ty : Nat → FieldType), ze_cl[ci]? = some (C, T, N) ∧ (∀ w ∈ u_ws C T N, w ∈ ze_tbl) ∧ f < N ∧ Cond.fieldLink own ix (T f).1 (T f).2.1 (T f).2.2.1 ∈ ze_tbl ∧ (∀ k, k < N → parseFieldDescriptor (T k).2.2.1 = some (ty k)) ∧ (∀ a, a < N → ∀ b, b < N → a ≠ b → (T a).2.1 ≠ (T b).2.1) ∧ (T f).2.2.2 = false ∧ (T f).2.2.1 = "I"
theorem ze_puti (X : ze_X G cc own nL fr lo) {k0 ix ci f : Nat} {x : Int32} {fl : List (Option Nat)} {t : ze_H → Option (Int32 × ze_H)} (d : decode cc pc = .ok (.putfield ix, 3)) (hF : ze_Fp own ix ci f) (hk : ze_sh[k0]? = some (.inr (ci, fl))) (hf : fl[f]? = some none) (k : ∀ w : ze_H, ze_T G (t w) w (pc + 3) L st) : ze_T G (ze_lev (ze_u v k0 f x) t) v pc L (.inl x :: .inr k0 :: st) := fun ht H locs ls hP hS hl => by
  obtain ⟨C, T, N, ty, h1, h2, h3, h4, h5, h6, h7, h8⟩ := hF
  refine va_put (v := .int x) (ty := .int) X.1 X.2.1 X.2.2.2.1 h2 ty h5 h6 X.2.2.1 X.2.2.2.2.2.1 hP (ze_ws_D X.2.2.2.2.2.2.1) hS k0 (ze_ws_at hk) h1 f h3 (X.2.2.2.1 _ h4) (fun _ h => h) h7 (by rw [h8]; rfl) rfl rfl (by rw [ze_fs_len]; exact (List.getElem?_eq_some_iff.mp hf).1) d (fun H1 locs1 hP1 _ hS1 => ?_)
  refine k (ze_u v k0 f x) ht H1 locs1 ls ?_ hS1 hl
  have e : ((ze_ws ze_sh (ze_ad G) (ze_ca G) v).set k0 (ze_ad G k0, Sum.inr (ci, (ze_fs (ze_ad G) (v k0) 0 fl).set f (.int x)))) = ze_ws ze_sh (ze_ad G) (ze_ca G) (ze_u v k0 f x) := by
    rw [ze_fs_set fl 0 f hf, Nat.zero_add]
    exact ze_ws_set hk (upd (v k0) f x)
  rw [← e]
  exact hP1
theorem ze_iald (X : ze_X G cc own nL fr lo) {k0 q n : Nat} {i : Int32} (d : decode cc pc = .ok (.iaload, 1)) (hk : ze_sh[k0]? = some (.inl (q, n, none))) (ht0 : ze_tl[q]? = some .int) (k : vp_in i n → ze_T G t v (pc + 1) L (.inl (v k0 i.toNatClampNeg) :: st)) : ze_T G (ze_in i n t) v pc L (.inl i :: .inr k0 :: st) := ze_inT (fun hin => fun ht H locs ls hP hS hl => va_iald X.1 X.2.1 X.2.2.2.2.2.1 hP k0 q (ze_ws_at hk) (ze_tys_at ht0) hin d (k hin ht H locs ls hP hS hl))
theorem ze_cald (X : ze_X G cc own nL fr lo) {k0 q n : Nat} {i : Int32} (d : decode cc pc = .ok (.caload, 1)) (hk : ze_sh[k0]? = some (.inl (q, n, none))) (ht0 : ze_tl[q]? = some .char) (k : vp_in i n → ze_T G t v (pc + 1) L (.inl (v k0 i.toNatClampNeg) :: st)) : ze_T G (ze_in i n t) v pc L (.inl i :: .inr k0 :: st) := ze_inT (fun hin => fun ht H locs ls hP hS hl => va_cald X.1 X.2.1 X.2.2.2.2.2.1 hP k0 q (ze_ws_at hk) (ze_tys_at ht0) hin d (k hin ht H locs ls hP hS hl))
theorem ze_zald (X : ze_X G cc own nL fr lo) {k0 q n : Nat} {i : Int32} (d : decode cc pc = .ok (.baload, 1)) (hk : ze_sh[k0]? = some (.inl (q, n, none))) (ht0 : ze_tl[q]? = some .boolean) (k : vp_in i n → ze_T G t v (pc + 1) L (.inl (v k0 i.toNatClampNeg) :: st)) : ze_T G (ze_in i n t) v pc L (.inl i :: .inr k0 :: st) := ze_inT (fun hin => fun ht H locs ls hP hS hl => va_zald X.1 X.2.1 X.2.2.2.2.2.1 hP k0 q (ze_ws_at hk) (ze_tys_at ht0) hin d (k hin ht H locs ls hP hS hl))
theorem ze_iast (X : ze_X G cc own nL fr lo) {k0 q n : Nat} {i x : Int32} {t : ze_H → Option (Int32 × ze_H)} (d : decode cc pc = .ok (.iastore, 1)) (hk : ze_sh[k0]? = some (.inl (q, n, none))) (ht0 : ze_tl[q]? = some .int) (k : ∀ w : ze_H, vp_in i n → ze_T G (t w) w (pc + 1) L st) : ze_T G (ze_in i n (ze_lev (ze_u v k0 i.toNatClampNeg x) t)) v pc L (.inl x :: .inl i :: .inr k0 :: st) := ze_inT (fun hin => fun ht H locs ls hP hS hl => va_iast X.1 X.2.1 X.2.2.2.2.2.1 hP (ze_ws_D X.2.2.2.2.2.2.1) hS k0 q (ze_ws_at hk) (ze_tys_at ht0) hin d (fun H1 locs1 hP1 _ hS1 => k (ze_u v k0 i.toNatClampNeg x) hin ht H1 locs1 ls (by
    have e := ze_ws_set (ad := ze_ad G) (ca := ze_ca G) (v := v) hk (upd (v k0) i.toNatClampNeg x)
    exact (show ze_ws ze_sh (ze_ad G) (ze_ca G) (ze_u v k0 i.toNatClampNeg x) = _ from e.symm) ▸ hP1) hS1 hl))
theorem ze_cast (X : ze_X G cc own nL fr lo) {k0 q n : Nat} {i x : Int32} {t : ze_H → Option (Int32 × ze_H)} (d : decode cc pc = .ok (.castore, 1)) (hk : ze_sh[k0]? = some (.inl (q, n, none))) (ht0 : ze_tl[q]? = some .char) (k : ∀ w : ze_H, vp_in i n → ze_T G (t w) w (pc + 1) L st) : ze_T G (ze_in i n (ze_lev (ze_u v k0 i.toNatClampNeg (vp_nar .char x)) t)) v pc L (.inl x :: .inl i :: .inr k0 :: st) := ze_inT (fun hin => fun ht H locs ls hP hS hl => va_cast X.1 X.2.1 X.2.2.2.2.2.1 hP (ze_ws_D X.2.2.2.2.2.2.1) hS k0 q (ze_ws_at hk) (ze_tys_at ht0) hin d (fun H1 locs1 hP1 _ hS1 => k (ze_u v k0 i.toNatClampNeg (vp_nar .char x)) hin ht H1 locs1 ls (by
    have e := ze_ws_set (ad := ze_ad G) (ca := ze_ca G) (v := v) hk (upd (v k0) i.toNatClampNeg (vp_nar .char x))
    exact (show ze_ws ze_sh (ze_ad G) (ze_ca G) (ze_u v k0 i.toNatClampNeg (vp_nar .char x)) = _ from e.symm) ▸ hP1) hS1 hl))
theorem ze_zast (X : ze_X G cc own nL fr lo) {k0 q n : Nat} {i x : Int32} {t : ze_H → Option (Int32 × ze_H)} (d : decode cc pc = .ok (.bastore, 1)) (hk : ze_sh[k0]? = some (.inl (q, n, none))) (ht0 : ze_tl[q]? = some .boolean) (k : ∀ w : ze_H, vp_in i n → ze_T G (t w) w (pc + 1) L st) : ze_T G (ze_in i n (ze_lev (ze_u v k0 i.toNatClampNeg (vp_nar .boolean x)) t)) v pc L (.inl x :: .inl i :: .inr k0 :: st) := ze_inT (fun hin => fun ht H locs ls hP hS hl => va_zast X.1 X.2.1 X.2.2.2.2.2.1 hP (ze_ws_D X.2.2.2.2.2.2.1) hS k0 q (ze_ws_at hk) (ze_tys_at ht0) hin d (fun H1 locs1 hP1 _ hS1 => k (ze_u v k0 i.toNatClampNeg (vp_nar .boolean x)) hin ht H1 locs1 ls (by
    have e := ze_ws_set (ad := ze_ad G) (ca := ze_ca G) (v := v) hk (upd (v k0) i.toNatClampNeg (vp_nar .boolean x))
    exact (show ze_ws ze_sh (ze_ad G) (ze_ca G) (ze_u v k0 i.toNatClampNeg (vp_nar .boolean x)) = _ from e.symm) ▸ hP1) hS1 hl))
theorem ze_aald (X : ze_X G cc own nL fr lo) {k0 q n b sd : Nat} {C : String} {i : Int32} (d : decode cc pc = .ok (.aaload, 1)) (hk : ze_sh[k0]? = some (.inl (q, n, some (b, sd)))) (ht0 : ze_tl[q]? = some (.object C)) (k : vp_in i n → ze_T G t v (pc + 1) L (.inr (b + sd * i.toNatClampNeg) :: st)) : ze_T G (ze_in i n t) v pc L (.inl i :: .inr k0 :: st) := ze_inT (fun hin => fun ht H locs ls hP hS hl => va_aldq X.1 X.2.1 X.2.2.2.2.2.1 hP k0 q (ze_ws_at hk) (ze_tys_at ht0) hin d (k hin ht H locs ls hP hS hl))
theorem ze_alen (X : ze_X G cc own nL fr lo) {k0 q n : Nat} {o : Option (Nat × Nat)} {ty : FieldType} (d : decode cc pc = .ok (.arraylength, 1)) (hk : ze_sh[k0]? = some (.inl (q, n, o))) (ht0 : ze_tl[q]? = some ty) (k : ze_T G t v (pc + 1) L (.inl (Int32.ofNat n) :: st)) : ze_T G t v pc L (.inr k0 :: st) := fun ht H locs ls hP hS hl => by
  cases o with
  | none => exact va_alen X.1 X.2.1 X.2.2.2.2.2.1 hP k0 q (ze_ws_at hk) (ze_tys_at ht0) rfl d (k ht H locs ls hP hS hl)
  | some b => exact va_alen X.1 X.2.1 X.2.2.2.2.2.1 hP k0 q (ze_ws_at hk) (ze_tys_at ht0) rfl d (k ht H locs ls hP hS hl)
end ZE
/-! CONTRACTS: deterministic: args and world give answer and world -/
def ze_P (D : va_G) (ad : Nat → Nat) (ca : Nat → ClassId) (v : ze_H) (U : State) : Prop := va_P D ze_cl (ze_ws ze_sh ad ca v) U.heap ∧ va_K D ze_cl (ze_tys ca) U ∧ ze_Q ad U U.heap
def ze_rm (fr lo : Nat) : Room := { frames := fr, cells := 0, slots := 0, locals := lo }
def ze_Mi (l : Launch) (D : va_G) (ad : Nat → Nat) (ca : Nat → ClassId) (y : MethodName) (cc : ByteArray) (nL : Nat) (rt : FieldType) (fr lo : Nat) (As : List ze_V) (v : ze_H) (r : Int32) (v1 : ze_H) : Prop :=
  Met l y (.code y cc nL (some rt) :: ze_tbl) (ze_rm fr lo) (va_Pc (As.map (ze_val ad)) (ze_P D ad ca v)) (va_Qi (fun r1 (_ : Unit) => r1 = r) (fun _ => ze_P D ad ca v1) (ze_A ad)) 0 0 (ze_A ad)
def ze_Mv (l : Launch) (D : va_G) (ad : Nat → Nat) (ca : Nat → ClassId) (y : MethodName) (cc : ByteArray) (nL : Nat) (fr lo : Nat) (As : List ze_V) (v : ze_H) (v1 : ze_H) : Prop :=
  Met l y (.code y cc nL none :: ze_tbl) (ze_rm fr lo) (va_Pc (As.map (ze_val ad)) (ze_P D ad ca v)) (va_Qv (fun (_ : Unit) => True) (fun _ => ze_P D ad ca v1) (ze_A ad)) 0 0 (ze_A ad)
theorem ze_blind {D : va_G} {ad : Nat → Nat} {ca : Nat → ClassId} {v : ze_H} {av : List Value} : FrameBlind (va_Pc av (ze_P D ad ca v)) := fun a U g mk h => ⟨h.1, h.2.1, va_K.moved (u := U) (U := U.calling g mk a) (Vm.Alike.refl U.vm) h.2.2.1, ze_Q.blind h.2.2.2⟩
theorem ze_good {y : MethodName} {cc : ByteArray} {nL : Nat} {rt : Option FieldType} (h : Cond.code y cc nL rt ∈ ze_tbl) : GoodIn ze_tbl (Cond.code y cc nL rt :: ze_tbl) := by
  intro w hw
  rcases List.mem_cons.mp hw with rfl | hw
  · exact ⟨h, good_of_word (List.all_eq_true.mp ze_tbl_good _ h)⟩
  · exact ⟨hw, good_of_word (List.all_eq_true.mp ze_tbl_good _ hw)⟩
/-- the words of a call: of a method of an object (class ci), by the constant ix of class own -/
def ze_CV (own : String) (ix : Nat) (y : MethodName) (cc : ByteArray) (nL : Nat) (rt : Option FieldType) (n ci : Nat) : Prop :=
  (Cond.methodLink own ix y ∈ ze_tbl ∧ Cond.instanceMethod y ∈ ze_tbl ∧ Cond.selects y.cls y y ∈ ze_tbl ∧ Cond.initialized y.cls ∈ ze_tbl ∧ Cond.code y cc nL rt ∈ ze_tbl) ∧ (y.cls ≠ "java/lang/invoke/MethodHandle" ∧ y.cls ≠ "java/lang/invoke/VarHandle" ∧ (parseMethodDescriptor y.desc).map (fun d => d.parameters.length) = some n) ∧ ∃ (T : u_T) (N : Nat), ze_cl[ci]? = some (y.cls, T, N)
def ze_CS (own : String) (ix : Nat) (y : MethodName) (cc : ByteArray) (nL : Nat) (rt : Option FieldType) (n : Nat) : Prop :=
  (Cond.methodLink own ix y ∈ ze_tbl ∧ Cond.static y ∈ ze_tbl ∧ Cond.initialized y.cls ∈ ze_tbl ∧ Cond.code y cc nL rt ∈ ze_tbl) ∧ (y.cls ≠ "java/lang/invoke/MethodHandle" ∧ y.cls ≠ "java/lang/invoke/VarHandle" ∧ (parseMethodDescriptor y.desc).map (fun d => d.parameters.length) = some n)
theorem ze_stk (ad : Nat → Nat) (As : List ze_V) (st : List ze_V) : ((As.reverse ++ st).map (ze_val ad)) = (As.map (ze_val ad)).reverse ++ st.map (ze_val ad) := by simp
theorem ze_cats (ad : Nat → Nat) : ∀ (st : List ze_V), ((st.map (ze_val ad)).map fun v => v.category).sum = st.length
  | [] => rfl
  | a :: r => by
    have h := ze_cats ad r
    simp only [List.map_cons, List.sum_cons, ze_val_cat, List.length_cons]
    omega
section ZC
variable {G : ze_G} {cc : ByteArray} {own : String} {nL fr lo : Nat} {v : ze_H} {pc : Nat} {L : List (Option ze_V)} {st : List ze_V}
/-- a call's answer in a tree -/
def ze_call (f : Option (Int32 × ze_H)) (t : Int32 → ze_H → Option (Int32 × ze_H)) : Option (Int32 × ze_H) := match f with
  | none => none
  | some q => t q.1 q.2
theorem ze_callVi (X : ze_X G cc own nL fr lo) {ix n ci k0 nL1 fr1 lo1 : Nat} {y : MethodName} {c1 : ByteArray} {rt : FieldType} {fl : List (Option Nat)} {As : List ze_V} {f : Option (Int32 × ze_H)} {t : Int32 → ze_H → Option (Int32 × ze_H)} (d : decode cc pc = .ok (.invokevirtual ix, 3)) (hC : ze_CV own ix y c1 nL1 (some rt) n ci) (hk : ze_sh[k0]? = some (.inr (ci, fl)))
    (hM : ∀ r v1, f = some (r, v1) → ze_Mi (ze_l G) (ze_D G) (ze_ad G) (ze_ca G) y c1 nL1 rt fr1 lo1 (.inr k0 :: As) v r v1) (hn : As.length = n) (hfr : fr1 + 1 ≤ fr) (hlo : 8 + (nL1 + 11) + lo1 ≤ lo) (hst : st.length ≤ 8)
    (k : ∀ (r : Int32) (v1 : ze_H), ze_T G (t r v1) v1 (pc + 3) L (.inl r :: st)) : ze_T G (ze_call f t) v pc L (As.reverse ++ .inr k0 :: st) := fun ht H locs ls hP hS hl => by
  cases hf : f with
  | none => rw [hf] at ht; cases ht
  | some q =>
    obtain ⟨r, v1⟩ := q
    rw [hf] at ht
    obtain ⟨⟨w1, w2, w3, w4, w5⟩, w6, T, N, w7⟩ := hC
    have hts := X.2.2.2.1
    have hB : CallB (ze_R G) (ze_s G) (ze_ar G) own ix y c1 nL1 (some rt) (.code y c1 nL1 (some rt) :: ze_tbl) (ze_rm fr1 lo1) 0 0 n := callB_of n hts (ze_good w5) rfl rfl rfl (hts _ w4) (hts _ w1) w6 ⟨Nat.le_trans hfr X.2.2.2.2.2.2.2.1, Nat.le_trans hlo X.2.2.2.2.2.2.2.2.1⟩
    have hr := va_runV (p := G.1.1) (l := ze_l G) (e := G.1.2.2.1) (below := G.2.1.2.2.2) (meth := ze_me G) (H := H) (locs := locs) (cells := G.2.2.2.2.1.1) (slots := G.2.2.2.2.1.2.1) (C := y.cls) (b := ze_ad G k0) (As := As.map (ze_val (ze_ad G))) (rest := st.map (ze_val (ze_ad G))) (g := F0 (ze_m G) pc ls ((As.reverse ++ .inr k0 :: st).map (ze_val (ze_ad G)))) (nL := nL) (Ts := ze_tbl)
      ⟨X.1, X.2.1, X.2.2.2.2.1, X.2.2.1, hts⟩ (hM r v1 hf) ⟨hB, hts _ w2, hts _ w3⟩ ⟨ze_blind, va_recv X.2.2.2.2.2.1 hP w7 (ze_ws_at hk), fun U hU hW => ⟨rfl, by rw [hU]; exact hP, va_K.moved hW.alike X.2.2.2.2.2.1, by rw [hU]; exact (X.2.2.2.2.2.2.2.2.2.2.2.kept hS).warm hW⟩⟩ rfl (by simpa using hn) (hl.1.trans X.2.2.2.2.1) (ze_stk _ _ _)
      (by rw [ze_cats]; simpa [JFrame.monitorRoom] using hst) d ⟨X.2.2.2.2.2.2.2.2.2.1, X.2.2.2.2.2.2.2.2.2.2.1⟩
    refine va_calli hr hS (fun _ _ h => h) (fun _ h => h) (fun r1 _ U H1 locs1 hU hvm hr1 hB1 _ _ hS1 => ?_)
    subst hr1
    exact k _ v1 ht H1 locs1 ls (hU ▸ hB1.1) hS1 hl
theorem ze_callVv (X : ze_X G cc own nL fr lo) {ix n ci k0 nL1 fr1 lo1 : Nat} {y : MethodName} {c1 : ByteArray} {fl : List (Option Nat)} {As : List ze_V} {f : Option (Int32 × ze_H)} {t : Int32 → ze_H → Option (Int32 × ze_H)} (d : decode cc pc = .ok (.invokevirtual ix, 3)) (hC : ze_CV own ix y c1 nL1 none n ci) (hk : ze_sh[k0]? = some (.inr (ci, fl)))
    (hM : ∀ r v1, f = some (r, v1) → ze_Mv (ze_l G) (ze_D G) (ze_ad G) (ze_ca G) y c1 nL1 fr1 lo1 (.inr k0 :: As) v v1) (hn : As.length = n) (hfr : fr1 + 1 ≤ fr) (hlo : 8 + (nL1 + 11) + lo1 ≤ lo) (hst : st.length ≤ 8)
    (k : ∀ (r : Int32) (v1 : ze_H), ze_T G (t r v1) v1 (pc + 3) L st) : ze_T G (ze_call f t) v pc L (As.reverse ++ .inr k0 :: st) := fun ht H locs ls hP hS hl => by
  cases hf : f with
  | none => rw [hf] at ht; cases ht
  | some q =>
    obtain ⟨r, v1⟩ := q
    rw [hf] at ht
    obtain ⟨⟨w1, w2, w3, w4, w5⟩, w6, T, N, w7⟩ := hC
    have hts := X.2.2.2.1
    have hB : CallB (ze_R G) (ze_s G) (ze_ar G) own ix y c1 nL1 none (.code y c1 nL1 none :: ze_tbl) (ze_rm fr1 lo1) 0 0 n := callB_of n hts (ze_good w5) rfl rfl rfl (hts _ w4) (hts _ w1) w6 ⟨Nat.le_trans hfr X.2.2.2.2.2.2.2.1, Nat.le_trans hlo X.2.2.2.2.2.2.2.2.1⟩
    have hr := va_runV (p := G.1.1) (l := ze_l G) (e := G.1.2.2.1) (below := G.2.1.2.2.2) (meth := ze_me G) (H := H) (locs := locs) (cells := G.2.2.2.2.1.1) (slots := G.2.2.2.2.1.2.1) (C := y.cls) (b := ze_ad G k0) (As := As.map (ze_val (ze_ad G))) (rest := st.map (ze_val (ze_ad G))) (g := F0 (ze_m G) pc ls ((As.reverse ++ .inr k0 :: st).map (ze_val (ze_ad G)))) (nL := nL) (Ts := ze_tbl)
      ⟨X.1, X.2.1, X.2.2.2.2.1, X.2.2.1, hts⟩ (hM r v1 hf) ⟨hB, hts _ w2, hts _ w3⟩ ⟨ze_blind, va_recv X.2.2.2.2.2.1 hP w7 (ze_ws_at hk), fun U hU hW => ⟨rfl, by rw [hU]; exact hP, va_K.moved hW.alike X.2.2.2.2.2.1, by rw [hU]; exact (X.2.2.2.2.2.2.2.2.2.2.2.kept hS).warm hW⟩⟩ rfl (by simpa using hn) (hl.1.trans X.2.2.2.2.1) (ze_stk _ _ _)
      (by rw [ze_cats]; simpa [JFrame.monitorRoom] using hst) d ⟨X.2.2.2.2.2.2.2.2.2.1, X.2.2.2.2.2.2.2.2.2.2.1⟩
    refine va_callv hr hS (fun _ _ h => h) (fun _ h => h) (fun _ U H1 locs1 hU hvm _ hB1 _ _ hS1 => ?_)
    exact k _ v1 ht H1 locs1 ls (hU ▸ hB1.1) hS1 hl
theorem ze_callSi (X : ze_X G cc own nL fr lo) {ix n nL1 fr1 lo1 : Nat} {y : MethodName} {c1 : ByteArray} {rt : FieldType} {As : List ze_V} {f : Option (Int32 × ze_H)} {t : Int32 → ze_H → Option (Int32 × ze_H)} (d : decode cc pc = .ok (.invokestatic ix, 3)) (hC : ze_CS own ix y c1 nL1 (some rt) n)
    (hM : ∀ r v1, f = some (r, v1) → ze_Mi (ze_l G) (ze_D G) (ze_ad G) (ze_ca G) y c1 nL1 rt fr1 lo1 As v r v1) (hn : As.length = n) (hfr : fr1 + 1 ≤ fr) (hlo : 8 + (nL1 + 11) + lo1 ≤ lo) (hst : st.length ≤ 8)
    (k : ∀ (r : Int32) (v1 : ze_H), ze_T G (t r v1) v1 (pc + 3) L (.inl r :: st)) : ze_T G (ze_call f t) v pc L (As.reverse ++ st) := fun ht H locs ls hP hS hl => by
  cases hf : f with
  | none => rw [hf] at ht; cases ht
  | some q =>
    obtain ⟨r, v1⟩ := q
    rw [hf] at ht
    obtain ⟨⟨w1, w2, w4, w5⟩, w6⟩ := hC
    have hts := X.2.2.2.1
    have hB : CallB (ze_R G) (ze_s G) (ze_ar G) own ix y c1 nL1 (some rt) (.code y c1 nL1 (some rt) :: ze_tbl) (ze_rm fr1 lo1) 0 0 n := callB_of n hts (ze_good w5) rfl rfl rfl (hts _ w4) (hts _ w1) w6 ⟨Nat.le_trans hfr X.2.2.2.2.2.2.2.1, Nat.le_trans hlo X.2.2.2.2.2.2.2.2.1⟩
    have hr := va_runS (p := G.1.1) (l := ze_l G) (e := G.1.2.2.1) (below := G.2.1.2.2.2) (meth := ze_me G) (H := H) (locs := locs) (cells := G.2.2.2.2.1.1) (slots := G.2.2.2.2.1.2.1) (As := As.map (ze_val (ze_ad G))) (rest := st.map (ze_val (ze_ad G))) (g := F0 (ze_m G) pc ls ((As.reverse ++ st).map (ze_val (ze_ad G)))) (nL := nL) (Ts := ze_tbl)
      ⟨X.1, X.2.1, X.2.2.2.2.1, X.2.2.1, hts⟩ (hM r v1 hf) ⟨hB, hts _ w2⟩ ⟨ze_blind, fun U hU hW => ⟨rfl, by rw [hU]; exact hP, va_K.moved hW.alike X.2.2.2.2.2.1, by rw [hU]; exact (X.2.2.2.2.2.2.2.2.2.2.2.kept hS).warm hW⟩⟩ rfl (by simpa using hn) (hl.1.trans X.2.2.2.2.1) (ze_stk _ _ _)
      (by rw [ze_cats]; simpa [JFrame.monitorRoom] using hst) d ⟨X.2.2.2.2.2.2.2.2.2.1, X.2.2.2.2.2.2.2.2.2.2.1⟩
    refine va_calli hr hS (fun _ _ h => h) (fun _ h => h) (fun r1 _ U H1 locs1 hU hvm hr1 hB1 _ _ hS1 => ?_)
    subst hr1
    exact k _ v1 ht H1 locs1 ls (hU ▸ hB1.1) hS1 hl
theorem ze_callSv (X : ze_X G cc own nL fr lo) {ix n nL1 fr1 lo1 : Nat} {y : MethodName} {c1 : ByteArray} {As : List ze_V} {f : Option (Int32 × ze_H)} {t : Int32 → ze_H → Option (Int32 × ze_H)} (d : decode cc pc = .ok (.invokestatic ix, 3)) (hC : ze_CS own ix y c1 nL1 none n)
    (hM : ∀ r v1, f = some (r, v1) → ze_Mv (ze_l G) (ze_D G) (ze_ad G) (ze_ca G) y c1 nL1 fr1 lo1 As v v1) (hn : As.length = n) (hfr : fr1 + 1 ≤ fr) (hlo : 8 + (nL1 + 11) + lo1 ≤ lo) (hst : st.length ≤ 8)
    (k : ∀ (r : Int32) (v1 : ze_H), ze_T G (t r v1) v1 (pc + 3) L st) : ze_T G (ze_call f t) v pc L (As.reverse ++ st) := fun ht H locs ls hP hS hl => by
  cases hf : f with
  | none => rw [hf] at ht; cases ht
  | some q =>
    obtain ⟨r, v1⟩ := q
    rw [hf] at ht
    obtain ⟨⟨w1, w2, w4, w5⟩, w6⟩ := hC
    have hts := X.2.2.2.1
    have hB : CallB (ze_R G) (ze_s G) (ze_ar G) own ix y c1 nL1 none (.code y c1 nL1 none :: ze_tbl) (ze_rm fr1 lo1) 0 0 n := callB_of n hts (ze_good w5) rfl rfl rfl (hts _ w4) (hts _ w1) w6 ⟨Nat.le_trans hfr X.2.2.2.2.2.2.2.1, Nat.le_trans hlo X.2.2.2.2.2.2.2.2.1⟩
    have hr := va_runS (p := G.1.1) (l := ze_l G) (e := G.1.2.2.1) (below := G.2.1.2.2.2) (meth := ze_me G) (H := H) (locs := locs) (cells := G.2.2.2.2.1.1) (slots := G.2.2.2.2.1.2.1) (As := As.map (ze_val (ze_ad G))) (rest := st.map (ze_val (ze_ad G))) (g := F0 (ze_m G) pc ls ((As.reverse ++ st).map (ze_val (ze_ad G)))) (nL := nL) (Ts := ze_tbl)
      ⟨X.1, X.2.1, X.2.2.2.2.1, X.2.2.1, hts⟩ (hM r v1 hf) ⟨hB, hts _ w2⟩ ⟨ze_blind, fun U hU hW => ⟨rfl, by rw [hU]; exact hP, va_K.moved hW.alike X.2.2.2.2.2.1, by rw [hU]; exact (X.2.2.2.2.2.2.2.2.2.2.2.kept hS).warm hW⟩⟩ rfl (by simpa using hn) (hl.1.trans X.2.2.2.2.1) (ze_stk _ _ _)
      (by rw [ze_cats]; simpa [JFrame.monitorRoom] using hst) d ⟨X.2.2.2.2.2.2.2.2.2.1, X.2.2.2.2.2.2.2.2.2.2.1⟩
    refine va_callv hr hS (fun _ _ h => h) (fun _ h => h) (fun _ U H1 locs1 hU hvm _ hB1 _ _ hS1 => ?_)
    exact k _ v1 ht H1 locs1 ls (hU ▸ hB1.1) hS1 hl
/-- Math.min, Math.max -/
def ze_CM (own : String) (ix : Nat) (y : MethodName) (b : ByteArray) : Prop := Cond.methodLink own ix y ∈ ze_tbl ∧ Cond.static y ∈ ze_tbl ∧ Cond.initialized "java/lang/Math" ∈ ze_tbl ∧ Cond.code y b 2 (some .int) ∈ ze_tbl
theorem ze_mmin (X : ze_X G cc own nL fr lo) {t : Option (Int32 × ze_H)} {ix : Nat} {x y : Int32} (d : decode cc pc = .ok (.invokestatic ix, 3)) (hm : ze_CM own ix Lib.Math.min.name Lib.Math.min.code) (hfr : 1 ≤ fr) (hlo : 21 ≤ lo) (hst : st.length ≤ 8) (k : ze_T G t v (pc + 3) L (.inl (if y < x then y else x) :: st)) : ze_T G t v pc L (.inl y :: .inl x :: st) := fun ht H locs ls hP hS hl =>
  va_mmin X.1 X.2.1 hl.1.symm X.2.2.1 (X.2.2.2.1 _ hm.1) (X.2.2.2.1 _ hm.2.1) (X.2.2.2.1 _ hm.2.2.1) (X.2.2.2.1 _ hm.2.2.2) (Nat.le_trans hfr X.2.2.2.2.2.2.2.1) (by have h1 := X.2.2.2.2.2.2.2.2.1; rw [ze_cats]; omega) X.2.2.2.2.2.2.2.2.2.1 X.2.2.2.2.2.2.2.2.2.2.1 d (k ht H locs ls hP hS hl)
theorem ze_mmax (X : ze_X G cc own nL fr lo) {t : Option (Int32 × ze_H)} {ix : Nat} {x y : Int32} (d : decode cc pc = .ok (.invokestatic ix, 3)) (hm : ze_CM own ix Lib.Math.max.name Lib.Math.max.code) (hfr : 1 ≤ fr) (hlo : 21 ≤ lo) (hst : st.length ≤ 8) (k : ze_T G t v (pc + 3) L (.inl (if x < y then y else x) :: st)) : ze_T G t v pc L (.inl y :: .inl x :: st) := fun ht H locs ls hP hS hl =>
  va_mmax X.1 X.2.1 hl.1.symm X.2.2.1 (X.2.2.2.1 _ hm.1) (X.2.2.2.1 _ hm.2.1) (X.2.2.2.1 _ hm.2.2.1) (X.2.2.2.1 _ hm.2.2.2) (Nat.le_trans hfr X.2.2.2.2.2.2.2.1) (by have h1 := X.2.2.2.2.2.2.2.2.1; rw [ze_cats]; omega) X.2.2.2.2.2.2.2.2.2.1 X.2.2.2.2.2.2.2.2.2.2.1 d (k ht H locs ls hP hS hl)
/-- System.arraycopy, of ints and of chars -/
def ze_CA (own : String) (ix : Nat) : Prop := Cond.methodLink own ix arraycopyName ∈ ze_tbl ∧ Cond.native arraycopyName ∈ ze_tbl ∧ Cond.static arraycopyName ∈ ze_tbl ∧ Cond.initialized "java/lang/System" ∈ ze_tbl
def ze_cpB (na nb : Nat) (sp dp n : Int32) : Prop := sp < 0 ∨ dp < 0 ∨ n < 0 ∨ na < sp.toNatClampNeg + n.toNatClampNeg ∨ nb < dp.toNatClampNeg + n.toNatClampNeg
def ze_cpv (v : ze_H) (a b : Nat) (sp dp n : Int32) : ze_H := fun j => if j = b then va_cpy (v a) (v b) sp.toNatClampNeg dp.toNatClampNeg n.toNatClampNeg else v j
def ze_cpyT (v : ze_H) (a na b nb : Nat) (sp dp n : Int32) (t : ze_H → Option (Int32 × ze_H)) : Option (Int32 × ze_H) := if sp < 0 ∨ dp < 0 ∨ n < 0 ∨ na < sp.toNatClampNeg + n.toNatClampNeg ∨ nb < dp.toNatClampNeg + n.toNatClampNeg then none else t (ze_cpv v a b sp dp n)
def ze_cpcT (v : ze_H) (a na b nb : Nat) (sp dp n : Int32) (t : ze_H → Option (Int32 × ze_H)) : Option (Int32 × ze_H) := if sp < 0 ∨ dp < 0 ∨ n < 0 ∨ na < sp.toNatClampNeg + n.toNatClampNeg ∨ nb < dp.toNatClampNeg + n.toNatClampNeg then none else if ∀ i, i < n.toNatClampNeg → fits .char (.int (v a (sp.toNatClampNeg + i))) = true then t (ze_cpv v a b sp dp n) else none
theorem ze_cpyK (X : ze_X G cc own nL fr lo) {t : Option (Int32 × ze_H)} {ix a b na nb qa qb : Nat} {ty : FieldType} {sp dp n : Int32} (d : decode cc pc = .ok (.invokestatic ix, 3)) (hm : ze_CA own ix) (ha : ze_sh[a]? = some (.inl (qa, na, none))) (hb : ze_sh[b]? = some (.inl (qb, nb, none))) (hta : ze_tl[qa]? = some ty) (htb : ze_tl[qb]? = some ty) (hpr : refKind ty = false) (hfr : 1 ≤ fr) (hlo : 60 ≤ lo) (hst : st.length ≤ 8)
    (hB : ¬ (sp < 0 ∨ dp < 0 ∨ n < 0 ∨ na < sp.toNatClampNeg + n.toNatClampNeg ∨ nb < dp.toNatClampNeg + n.toNatClampNeg)) (hfit : ∀ i, i < n.toNatClampNeg → fits ty (.int (v a (sp.toNatClampNeg + i))) = true) (k : ze_T G t (ze_cpv v a b sp dp n) (pc + 3) L st) : ze_T G t v pc L (.inl n :: .inl dp :: .inr b :: .inl sp :: .inr a :: st) := fun ht H locs ls hP hS hl => by
  simp only [not_or, Nat.not_lt] at hB
  obtain ⟨b1, b2, b3, b4, b5⟩ := hB
  refine va_copyi X.1 X.2.1 hl.1.symm X.2.2.1 (X.2.2.2.1 _ hm.1) (X.2.2.2.1 _ hm.2.1) (X.2.2.2.1 _ hm.2.2.1) (X.2.2.2.1 _ hm.2.2.2) X.2.2.2.2.2.1 hP (ze_ws_D X.2.2.2.2.2.2.1) hS a b qa qb (ze_ws_at ha) (ze_ws_at hb) (ze_tys_at hta) (ze_tys_at htb) hpr b1 b2 b3 b4 b5 hfit (Nat.le_trans hfr X.2.2.2.2.2.2.2.1) ?_ d (fun H1 locs1 hP1 _ hS1 => k ht H1 locs1 ls ?_ hS1 hl)
  · have h1 : lo ≤ G.1.2.2.2.locals := X.2.2.2.2.2.2.2.2.1
    rw [ze_cats]
    have h2 : nativeFrameWords "java/lang/System" "arraycopy" 5 = 7 := by decide
    omega
  · have e := ze_ws_set (ad := ze_ad G) (ca := ze_ca G) (v := v) hb (va_cpy (v a) (v b) sp.toNatClampNeg dp.toNatClampNeg n.toNatClampNeg)
    exact (show ze_ws ze_sh (ze_ad G) (ze_ca G) (ze_cpv v a b sp dp n) = _ from e.symm) ▸ hP1
theorem ze_cpy (X : ze_X G cc own nL fr lo) {t : ze_H → Option (Int32 × ze_H)} {ix a b na nb qa qb : Nat} {sp dp n : Int32} (d : decode cc pc = .ok (.invokestatic ix, 3)) (hm : ze_CA own ix) (ha : ze_sh[a]? = some (.inl (qa, na, none))) (hb : ze_sh[b]? = some (.inl (qb, nb, none))) (hta : ze_tl[qa]? = some .int) (htb : ze_tl[qb]? = some .int) (hfr : 1 ≤ fr) (hlo : 60 ≤ lo) (hst : st.length ≤ 8)
    (k : ∀ w : ze_H, ze_T G (t w) w (pc + 3) L st) : ze_T G (ze_cpyT v a na b nb sp dp n t) v pc L (.inl n :: .inl dp :: .inr b :: .inl sp :: .inr a :: st) := by
  unfold ze_cpyT
  exact ze_if (fun _ => ze_none) (fun h => ze_cpyK X d hm ha hb hta htb rfl hfr hlo hst h (fun _ _ => rfl) (k _))
theorem ze_cpyc (X : ze_X G cc own nL fr lo) {t : ze_H → Option (Int32 × ze_H)} {ix a b na nb qa qb : Nat} {sp dp n : Int32} (d : decode cc pc = .ok (.invokestatic ix, 3)) (hm : ze_CA own ix) (ha : ze_sh[a]? = some (.inl (qa, na, none))) (hb : ze_sh[b]? = some (.inl (qb, nb, none))) (hta : ze_tl[qa]? = some .char) (htb : ze_tl[qb]? = some .char) (hfr : 1 ≤ fr) (hlo : 60 ≤ lo) (hst : st.length ≤ 8)
    (k : ∀ w : ze_H, ze_T G (t w) w (pc + 3) L st) : ze_T G (ze_cpcT v a na b nb sp dp n t) v pc L (.inl n :: .inl dp :: .inr b :: .inl sp :: .inr a :: st) := by
  unfold ze_cpcT
  exact ze_if (fun _ => ze_none) (fun h => ze_if (fun hf => ze_cpyK X d hm ha hb hta htb rfl hfr hlo hst h hf (k _)) (fun _ => ze_none))
end ZC
theorem ze_slm (ad : Nat → Nat) : ∀ As : List ze_V, lg_sl (As.map (ze_val ad)) = As.map (fun w => Slot.val (ze_val ad w))
  | [] => rfl
  | a :: r => by
    have h := ze_slm ad r
    simp only [lg_sl] at h
    simp only [lg_sl, List.map_cons, List.flatMap_cons, ze_val_cat, h]
    rfl
theorem ze_entry (ad : Nat → Nat) (As : List ze_V) (n : Nat) (h : As.length ≤ n) : ze_has ad n (As.map some ++ List.replicate (n - As.length) none) ((lg_sl (As.map (ze_val ad)) ++ List.replicate (n - (lg_sl (As.map (ze_val ad))).length) Slot.unset).toArray) := by
  have hl := lv_entry (As.map (ze_val ad)) (n := n) (by rw [ze_slm]; simpa using h)
  refine ⟨hl.1, hl.2.1, fun i w hw => ?_⟩
  have hi : i < As.length := by
    rcases Nat.lt_or_ge i As.length with q | q
    · exact q
    · rw [List.getElem?_append_right (by simpa using q)] at hw
      obtain ⟨h1, h2⟩ := List.getElem?_eq_some_iff.mp hw
      simp at h2
  rw [List.getElem?_append_left (by simpa using hi)] at hw
  rw [ze_slm, List.getElem?_toArray, List.getElem?_append_left (by simpa using hi)]
  simp only [List.getElem?_map, Option.map_eq_some_iff] at hw ⊢
  obtain ⟨a, h1, h2⟩ := hw
  have h3 := Option.some.inj h2
  subst h3
  exact ⟨_, h1, rfl⟩
/-- what the end of a method's walk rests on -/
def ze_Ri (G : ze_G) (rt : FieldType) : Prop := (ze_me G).sig.returnType = some rt ∧ (ze_me G).locks = false ∧ ze_h0 G = (ze_s G).heap ∧ G.2.2.2.2.1 = (0, 0, MQ G.2.1.2.2.2 (va_Qi (fun r1 (_ : Unit) => r1 = (ze_tg G).1) (fun _ => ze_P (ze_D G) (ze_ad G) (ze_ca G) (ze_tg G).2) (ze_A (ze_ad G))) (ze_ar G) (ze_s G) 0 0 (ze_A (ze_ad G)))
def ze_Rv (G : ze_G) : Prop := (ze_me G).sig.returnType = none ∧ (ze_me G).locks = false ∧ ze_h0 G = (ze_s G).heap ∧ G.2.2.2.2.1 = (0, 0, MQ G.2.1.2.2.2 (va_Qv (fun (_ : Unit) => True) (fun _ => ze_P (ze_D G) (ze_ad G) (ze_ca G) (ze_tg G).2) (ze_A (ze_ad G))) (ze_ar G) (ze_s G) 0 0 (ze_A (ze_ad G)))
section ZR
variable {G : ze_G} {cc : ByteArray} {own : String} {nL fr lo : Nat} {v : ze_H} {pc : Nat} {L : List (Option ze_V)} {st : List ze_V}
theorem ze_iret (X : ze_X G cc own nL fr lo) {rt : FieldType} {x : Int32} (Y : ze_Ri G rt) (hn : narrow rt (.int x) = .int x) (d : decode cc pc = .ok (.ireturn, 1)) : ze_T G (some (x, v)) v pc L [.inl x] := fun ht H locs ls hP hS hl => by
  have ht := Option.some.inj ht
  unfold ze_W
  obtain ⟨Y1, Y2, Y3, Y4⟩ := Y
  rw [Y4]
  refine W.zret (v := x) X.1 X.2.1 Y1 hn (fun U hU hW => ⟨⟨x, (), rfl, by rw [← ht], ?_⟩, (Y3 ▸ hS).F hU⟩) hS.2.2 d Y2
  rw [← ht]
  exact ⟨by rw [hU]; exact hP, va_K.moved hW.alike X.2.2.2.2.2.1, by rw [hU]; exact (X.2.2.2.2.2.2.2.2.2.2.2.kept hS).warm hW⟩
theorem ze_vret (X : ze_X G cc own nL fr lo) {x : Int32} (Y : ze_Rv G) (d : decode cc pc = .ok (.return_, 1)) : ze_T G (some (x, v)) v pc L [] := fun ht H locs ls hP hS hl => by
  have ht := Option.some.inj ht
  unfold ze_W
  obtain ⟨Y1, Y2, Y3, Y4⟩ := Y
  rw [Y4]
  refine W.vret X.1 X.2.1 Y1 (fun U hU hW => ⟨⟨(), rfl, trivial, ?_⟩, (Y3 ▸ hS).F hU⟩) hS.2.2 d Y2
  rw [← ht]
  exact ⟨by rw [hU]; exact hP, va_K.moved hW.alike X.2.2.2.2.2.1, by rw [hU]; exact (X.2.2.2.2.2.2.2.2.2.2.2.kept hS).warm hW⟩
end ZR
theorem ze_bool {x : Int32} (h : x = 0 ∨ x = 1) : narrow .boolean (.int x) = .int x := by
  rcases h with rfl | rfl <;> rfl
/-- a boolean's return in a tree -/
def ze_rb (x : Int32) (v : ze_H) : Option (Int32 × ze_H) := if x = 0 then some (0, v) else if x = 1 then some (1, v) else none
theorem ze_zret {G : ze_G} {cc : ByteArray} {own : String} {nL fr lo : Nat} {v : ze_H} {pc : Nat} {L : List (Option ze_V)} (X : ze_X G cc own nL fr lo) {x : Int32} (Y : ze_Ri G .boolean) (d : decode cc pc = .ok (.ireturn, 1)) : ze_T G (ze_rb x v) v pc L [.inl x] := by
  unfold ze_rb
  refine ze_if (fun h => ?_) (fun _ => ze_if (fun h => ?_) (fun _ => ze_none))
  · subst h
    exact ze_iret X Y rfl d
  · subst h
    exact ze_iret X Y rfl d
/-- a char's return -/
def ze_rc (x : Int32) (v : ze_H) : Option (Int32 × ze_H) := if x < 0 ∨ 65535 < x then none else some (x, v)
theorem ze_char {x : Int32} (h : ¬ (x < 0 ∨ 65535 < x)) : narrow .char (.int x) = .int x := by
  obtain ⟨j, hj, rfl⟩ := nI_of (fun q => h (Or.inl q))
  refine (pk_charN ?_).1
  rcases Nat.lt_or_ge j 65536 with q | q
  · exact q
  · exact absurd (Or.inr (show (65535 : Int32) < nI j from nI_lt (a := 65535) (by omega) hj)) h
theorem ze_cret {G : ze_G} {cc : ByteArray} {own : String} {nL fr lo : Nat} {v : ze_H} {pc : Nat} {L : List (Option ze_V)} (X : ze_X G cc own nL fr lo) {x : Int32} (Y : ze_Ri G .char) (d : decode cc pc = .ok (.ireturn, 1)) : ze_T G (ze_rc x v) v pc L [.inl x] := by
  unfold ze_rc
  exact ze_if (fun _ => ze_none) (fun h => ze_iret X Y (ze_char h) d)
theorem ze_ofW {l : Launch} {y : MethodName} {ws ws' : List Cond} {rm : Room} {Pc : Array Value → State → Prop} {Qc : Array Value → State → Outcome → State → Prop} {mc ms : Nat} {free : Addr → Prop} {cc : ByteArray} {maxL : Nat} {ret : Option FieldType}
    (hy : plainFor y = true) (hw : ws = Cond.code y cc maxL ret :: ws')
    (body : ∀ p e s m args below meth c s₁, BodyLoose p l y (headSpec ws rm) cc maxL ret e s m args below meth c s₁ → c.maxLocals = maxL → Pc args s →
      W p l e (headSpec ws rm).room s m args below meth c s.heap [] 0 0 (MQ below Qc args s mc ms free) (entryFrame m args maxL)) : Met l y ws rm Pc Qc mc ms free := by
  refine MetFree.of_bodySF (code := cc) (maxLocals := maxL) (ret := ret) hy ?_ ?_
  · intro args s m h hn
    obtain ⟨meth, c, h1, h2, h3, h4, h5, h6, -, -⟩ := Cond.code_spec hn (atoms_spec (ws := ws) h _ (by rw [hw]; exact List.mem_cons_self))
    exact ⟨meth, c, h1, h2, h3, h4, h5, h6⟩
  · intro p e s m args below meth c s₁ B hml hP _
    have hh0 : s₁.heap = s.heap := by rw [B.state]; rfl
    obtain ⟨t, a1, o, b1, b2, b3⟩ := body p e s m args below meth c s₁ B hml hP s₁ hh0 (Stand.of_body B)
    exact ⟨t, o, a1, b1, b2, ⟨b3.1, b3.2⟩⟩
theorem ze_Mi_of {l : Launch} {D : va_G} {ad : Nat → Nat} {ca : Nat → ClassId} {y : MethodName} {cc : ByteArray} {nL : Nat} {rt : FieldType} {fr lo : Nat} {As : List ze_V} {v : ze_H} {r : Int32} {v1 : ze_H} {t : Option (Int32 × ze_H)} (hy : plainFor y = true) (hD : va_D (ze_A ad) (ze_ws ze_sh ad ca (fun _ _ => 0))) (hn : As.length ≤ nL)
    (walk : ∀ G : ze_G, ze_l G = l → ze_D G = D → ze_ad G = ad → ze_ca G = ca → ze_X G cc y.cls nL fr lo → ze_Ri G rt → ze_T G t v 0 (As.map some ++ List.replicate (nL - As.length) none) []) (ht : t = some (r, v1)) : ze_Mi l D ad ca y cc nL rt fr lo As v r v1 := by
  refine ze_ofW (cc := cc) (maxL := nL) (ret := some rt) hy rfl ?_
  intro p e s m args below meth c s₁ B hml hv
  obtain ⟨rfl, hP, hK, hQ⟩ := hv
  have hts := atoms_spec (ws := .code y cc nL (some rt) :: ze_tbl) B.pre
  rw [lg_entry_eq]
  have hX : ze_X ((p, l, e, ze_rm fr lo), (s, m, (As.map (ze_val ad)).toArray, below), (meth, c, D), (ad, ca, s.heap), (0, 0, MQ below (va_Qi (fun r1 (_ : Unit) => r1 = r) (fun _ => ze_P D ad ca v1) (ze_A ad)) (As.map (ze_val ad)).toArray s 0 0 (ze_A ad)), (r, v1)) cc y.cls nL fr lo :=
    ⟨B.exec, B.bytes, findClass_of_methodNamed B.named, fun w hw => hts w (List.mem_cons_of_mem _ hw), hml, hK, hD, Nat.le_refl _, Nat.le_refl _, Nat.zero_le _, Nat.zero_le _, hQ⟩
  have hw := walk _ rfl rfl rfl rfl hX ⟨B.returns, B.notSynchronized, rfl, rfl⟩ ht s.heap [] _ hP va_S.rf (by rw [hX.2.2.2.2.1]; exact ze_entry ad As nL hn)
  exact hw
theorem ze_Mv_of {l : Launch} {D : va_G} {ad : Nat → Nat} {ca : Nat → ClassId} {y : MethodName} {cc : ByteArray} {nL : Nat} {fr lo : Nat} {As : List ze_V} {v : ze_H} {r : Int32} {v1 : ze_H} {t : Option (Int32 × ze_H)} (hy : plainFor y = true) (hD : va_D (ze_A ad) (ze_ws ze_sh ad ca (fun _ _ => 0))) (hn : As.length ≤ nL)
    (walk : ∀ G : ze_G, ze_l G = l → ze_D G = D → ze_ad G = ad → ze_ca G = ca → ze_X G cc y.cls nL fr lo → ze_Rv G → ze_T G t v 0 (As.map some ++ List.replicate (nL - As.length) none) []) (ht : t = some (r, v1)) : ze_Mv l D ad ca y cc nL fr lo As v v1 := by
  refine ze_ofW (cc := cc) (maxL := nL) (ret := none) hy rfl ?_
  intro p e s m args below meth c s₁ B hml hv
  obtain ⟨rfl, hP, hK, hQ⟩ := hv
  have hts := atoms_spec (ws := .code y cc nL none :: ze_tbl) B.pre
  rw [lg_entry_eq]
  have hX : ze_X ((p, l, e, ze_rm fr lo), (s, m, (As.map (ze_val ad)).toArray, below), (meth, c, D), (ad, ca, s.heap), (0, 0, MQ below (va_Qv (fun (_ : Unit) => True) (fun _ => ze_P D ad ca v1) (ze_A ad)) (As.map (ze_val ad)).toArray s 0 0 (ze_A ad)), (r, v1)) cc y.cls nL fr lo :=
    ⟨B.exec, B.bytes, findClass_of_methodNamed B.named, fun w hw => hts w (List.mem_cons_of_mem _ hw), hml, hK, hD, Nat.le_refl _, Nat.le_refl _, Nat.zero_le _, Nat.zero_le _, hQ⟩
  have hw := walk _ rfl rfl rfl rfl hX ⟨B.returns, B.notSynchronized, rfl, rfl⟩ ht s.heap [] _ hP va_S.rf (by rw [hX.2.2.2.2.1]; exact ze_entry ad As nL hn)
  exact hw
/-- a text's constant -/
theorem ze_ldcs {G : ze_G} {cc : ByteArray} {own : String} {nL fr lo : Nat} {t : Option (Int32 × ze_H)} {v : ze_H} {pc : Nat} {L : List (Option ze_V)} {st : List ze_V} (X : ze_X G cc own nL fr lo) {ix i : Nat} {q : String × Nat × String × Nat} (d : decode cc pc = .ok (.ldc ix, 2)) (hq : q ∈ ze_sr) (he : q.1 = own ∧ q.2.1 = ix ∧ q.2.2.2 = i) (k : ze_T G t v (pc + 2) L (.inr (1000 + i) :: st)) : ze_T G t v pc L st := fun ht H locs ls hP hS hl => by
  obtain ⟨e1, e2, e3⟩ := he
  have h := X.2.2.2.2.2.2.2.2.2.2.2.2.1 q hq
  rw [e1, e2, e3] at h
  exact va_ldcS X.1 X.2.1 X.2.2.1 h d (k ht H locs ls hP hS hl)
def ze_CK (own : String) (ix : Nat) (y : MethodName) (cc : ByteArray) (nL : Nat) (rt : Option FieldType) (n : Nat) : Prop :=
  (Cond.methodLink own ix y ∈ ze_tbl ∧ Cond.instanceMethod y ∈ ze_tbl ∧ Cond.selects y.cls y y ∈ ze_tbl ∧ Cond.initialized y.cls ∈ ze_tbl ∧ Cond.code y cc nL rt ∈ ze_tbl) ∧ (y.cls ≠ "java/lang/invoke/MethodHandle" ∧ y.cls ≠ "java/lang/invoke/VarHandle" ∧ (parseMethodDescriptor y.desc).map (fun d => d.parameters.length) = some n)
section ZH
variable {p : Program} {l : Launch} {e : Env} {R : Room} {s : State} {m : MethodId} {args : Array Value} {below : List Frame} {meth : Method} {c : Code} {H : Heap} {locs : List Loc} {cells slots : Nat} {Q : State → Prop} {cc : ByteArray} {pc : Nat} {ls : Array Slot} {rest : List Value} {A : Nat → Prop}
theorem ze_getsH (hexec : p.tables.exec = Jvm.exec) (hb : c.code = cc) {C n d own ref : String} {v : Value} {index : Nat} (hZ : va_Z C n d v A s H) (hown : s.vm.findClass own = some m.cls) (hlink : (Cond.fieldLink own index ref n d).before args s = true) (hsame : ∀ x, s.fieldFound? C n d = some x → s.fieldFound? ref n d = some x) (hdg : decode cc pc = .ok (.getstatic index, 3))
    (kk : W p l e R s m args below meth c H locs cells slots Q (F0 m (pc + 3) ls (v :: rest))) : W p l e R s m args below meth c H locs cells slots Q (F0 m pc ls rest) := by
  obtain ⟨cf, kf, fi, f, a, cell, h1, h2, h3, h4, h5, h6, h7, h8⟩ := hZ
  exact W.gets hexec hb hown hlink (hsame _ h1) h2 h3 h4 h5 (fun e => by rw [e] at h6; cases h6) h7 rfl hdg kk
theorem ze_tbH (hexec : p.tables.exec = Jvm.exec) (hb : c.code = cc) {t N : Nat} {f : Nat → Value} (hT : va_T .byte t N f A s H) {i : Int32} (hin : vp_in i N) {v : Value} (hv : f i.toNatClampNeg = v) (hdg : decode cc pc = .ok (.baload, 1))
    (kk : W p l e R s m args below meth c H locs cells slots Q (F0 m (pc + 1) ls (v :: rest))) : W p l e R s m args below meth c H locs cells slots Q (F0 m pc ls (.int i :: .ref t :: rest)) := by
  obtain ⟨cell, h1, h2, h3, h4, h5, h6, h7⟩ := hT
  have hlt : i.toNatClampNeg < N := Nat.not_le.mp fun q => hin (Or.inr q)
  have hin' : ¬ (i < 0 ∨ cell.slots.size ≤ i.toNatClampNeg) := by
    intro q
    rcases q with q | q
    · exact hin (Or.inl q)
    · omega
  exact W.bald (v := v) hexec hb h1 h2 h3 hin' (by rw [h6 _ hlt, hv]) rfl rfl hdg kk
end ZH
section ZK
variable {G : ze_G} {cc : ByteArray} {own : String} {nL fr lo : Nat} {t : Option (Int32 × ze_H)} {v : ze_H} {pc : Nat} {L : List (Option ze_V)} {st : List ze_V}
theorem ze_i2b (X : ze_X G cc own nL fr lo) {x : Int32} (d : decode cc pc = .ok (.i2b, 1)) (k : ze_T G t v (pc + 1) L (.inl (x.toInt8.toInt32) :: st)) : ze_T G t v pc L (.inl x :: st) := fun ht H locs ls hP hS hl => lv_i2b X.1 X.2.1 d rfl (k ht H locs ls hP hS hl)
theorem ze_gval (X : ze_X G cc own nL fr lo) {ix i : Nat} (d : decode cc pc = .ok (.getfield ix, 3)) (hw : Cond.fieldLink own ix "java/lang/String" "value" "[B" ∈ ze_tbl) (hi : i < ze_sn) (k : ze_T G t v (pc + 3) L (.inr (1100 + i) :: st)) : ze_T G t v pc L (.inr (1000 + i) :: st) := fun ht H locs ls hP hS hl => by
  obtain ⟨cf, kc, fi, f, cell, h1, h2, h3, h4, h5, h6⟩ := (((X.2.2.2.2.2.2.2.2.2.2.2.kept hS).1.1 i hi).2.2.1)
  exact W.getf X.1 X.2.1 X.2.2.1 (X.2.2.2.1 _ hw) h1 h2 h3 h4 (v := .ref (ze_ad G (1100 + i))) h5 rfl rfl d (k ht H locs ls hP hS hl)
theorem ze_gcod (X : ze_X G cc own nL fr lo) {ix i : Nat} (d : decode cc pc = .ok (.getfield ix, 3)) (hw : Cond.fieldLink own ix "java/lang/String" "coder" "B" ∈ ze_tbl) (hi : i < ze_sn) (k : ze_T G t v (pc + 3) L (.inl 0 :: st)) : ze_T G t v pc L (.inr (1000 + i) :: st) := fun ht H locs ls hP hS hl => by
  obtain ⟨cf, kc, fi, f, cell, h1, h2, h3, h4, h5, h6⟩ := (((X.2.2.2.2.2.2.2.2.2.2.2.kept hS).1.1 i hi).2.1)
  exact W.getf X.1 X.2.1 X.2.2.1 (X.2.2.2.1 _ hw) h1 h2 h3 h4 (v := .int 0) h5 rfl rfl d (k ht H locs ls hP hS hl)
theorem ze_gcs (X : ze_X G cc own nL fr lo) {ix : Nat} (d : decode cc pc = .ok (.getstatic ix, 3)) (hw : Cond.fieldLink own ix "java/lang/String" "COMPACT_STRINGS" "Z" ∈ ze_tbl) (k : ze_T G t v (pc + 3) L (.inl 1 :: st)) : ze_T G t v pc L st := fun ht H locs ls hP hS hl => by
  have hZ := (X.2.2.2.2.2.2.2.2.2.2.2.kept hS).2.2
  exact ze_getsH X.1 X.2.1 hZ X.2.2.1 (X.2.2.2.1 _ hw) (fun _ h => h) d (k ht H locs ls hP hS hl)
theorem ze_blen (X : ze_X G cc own nL fr lo) {i : Nat} (d : decode cc pc = .ok (.arraylength, 1)) (hi : i < ze_sn) (k : ze_T G t v (pc + 1) L (.inl (Int32.ofNat (ze_sl.getD i 0)) :: st)) : ze_T G t v pc L (.inr (1100 + i) :: st) := fun ht H locs ls hP hS hl => by
  obtain ⟨cell, h1, h2, h3, h4, h5, h6, h7⟩ := (((X.2.2.2.2.2.2.2.2.2.2.2.kept hS).1.1 i hi).2.2.2)
  exact W.alen X.1 X.2.1 h1 h2 h5 rfl rfl d (k ht H locs ls hP hS hl)
theorem ze_bald (X : ze_X G cc own nL fr lo) {i : Nat} {j : Int32} (d : decode cc pc = .ok (.baload, 1)) (hi : i < ze_sn) (k : vp_in j (ze_sl.getD i 0) → ze_T G t v (pc + 1) L (.inl ((ze_sb.getD i []).getD j.toNatClampNeg 0) :: st)) : ze_T G (ze_in j (ze_sl.getD i 0) t) v pc L (.inl j :: .inr (1100 + i) :: st) := ze_inT (fun hin => fun ht H locs ls hP hS hl => by
  have hT := (((X.2.2.2.2.2.2.2.2.2.2.2.kept hS).1.1 i hi).2.2.2)
  exact ze_tbH X.1 X.2.1 hT hin rfl d (k hin ht H locs ls hP hS hl))
/-- a byte's return -/
def ze_rt (x : Int32) (v : ze_H) : Option (Int32 × ze_H) := if x = 0 then some (0, v) else if x = 1 then some (1, v) else none
theorem ze_bret (X : ze_X G cc own nL fr lo) {x : Int32} (Y : ze_Ri G .byte) (d : decode cc pc = .ok (.ireturn, 1)) : ze_T G (ze_rt x v) v pc L [.inl x] := by
  unfold ze_rt
  refine ze_if (fun h => ?_) (fun _ => ze_if (fun h => ?_) (fun _ => ze_none))
  · subst h
    exact ze_iret X Y rfl d
  · subst h
    exact ze_iret X Y rfl d
theorem ze_callKi (X : ze_X G cc own nL fr lo) {ix n i nL1 fr1 lo1 : Nat} {y : MethodName} {c1 : ByteArray} {rt : FieldType} {As : List ze_V} {f : Option (Int32 × ze_H)} {t : Int32 → ze_H → Option (Int32 × ze_H)} (d : decode cc pc = .ok (.invokevirtual ix, 3)) (hC : ze_CK own ix y c1 nL1 (some rt) n) (hi : i < ze_sn)
    (hM : ∀ r v1, f = some (r, v1) → ze_Mi (ze_l G) (ze_D G) (ze_ad G) (ze_ca G) y c1 nL1 rt fr1 lo1 (.inr (1000 + i) :: As) v r v1) (hn : As.length = n) (hfr : fr1 + 1 ≤ fr) (hlo : 8 + (nL1 + 11) + lo1 ≤ lo) (hst : st.length ≤ 8) (hyc : y.cls = "java/lang/String")
    (k : ∀ (r : Int32) (v1 : ze_H), ze_T G (t r v1) v1 (pc + 3) L (.inl r :: st)) : ze_T G (ze_call f t) v pc L (As.reverse ++ .inr (1000 + i) :: st) := fun ht H locs ls hP hS hl => by
  cases hf : f with
  | none => rw [hf] at ht; cases ht
  | some q =>
    obtain ⟨r, v1⟩ := q
    rw [hf] at ht
    obtain ⟨⟨w1, w2, w3, w4, w5⟩, w6⟩ := hC
    have hts := X.2.2.2.1
    have hB : CallB (ze_R G) (ze_s G) (ze_ar G) own ix y c1 nL1 (some rt) (.code y c1 nL1 (some rt) :: ze_tbl) (ze_rm fr1 lo1) 0 0 n := callB_of n hts (ze_good w5) rfl rfl rfl (hts _ w4) (hts _ w1) w6 ⟨Nat.le_trans hfr X.2.2.2.2.2.2.2.1, Nat.le_trans hlo X.2.2.2.2.2.2.2.2.1⟩
    obtain ⟨cell, c1', c2', c3', -⟩ := (((X.2.2.2.2.2.2.2.2.2.2.2.kept hS).1.1 i hi).1)
    have hr := va_runV (p := G.1.1) (l := ze_l G) (e := G.1.2.2.1) (below := G.2.1.2.2.2) (meth := ze_me G) (H := H) (locs := locs) (cells := G.2.2.2.2.1.1) (slots := G.2.2.2.2.1.2.1) (C := y.cls) (b := ze_ad G (1000 + i)) (As := As.map (ze_val (ze_ad G))) (rest := st.map (ze_val (ze_ad G))) (g := F0 (ze_m G) pc ls ((As.reverse ++ .inr (1000 + i) :: st).map (ze_val (ze_ad G)))) (nL := nL) (Ts := ze_tbl)
      ⟨X.1, X.2.1, X.2.2.2.2.1, X.2.2.1, hts⟩ (hM r v1 hf) ⟨hB, hts _ w2, hts _ w3⟩ ⟨ze_blind, ⟨cell, c1', c2', by rw [hyc]; exact c3'⟩, fun U hU hW => ⟨rfl, by rw [hU]; exact hP, va_K.moved hW.alike X.2.2.2.2.2.1, by rw [hU]; exact (X.2.2.2.2.2.2.2.2.2.2.2.kept hS).warm hW⟩⟩ rfl (by simpa using hn) (hl.1.trans X.2.2.2.2.1) (ze_stk _ _ _)
      (by rw [ze_cats]; simpa [JFrame.monitorRoom] using hst) d ⟨X.2.2.2.2.2.2.2.2.2.1, X.2.2.2.2.2.2.2.2.2.2.1⟩
    refine va_calli hr hS (fun _ _ h => h) (fun _ h => h) (fun r1 _ U H1 locs1 hU hvm hr1 hB1 _ _ hS1 => ?_)
    subst hr1
    exact k _ v1 ht H1 locs1 ls (hU ▸ hB1.1) hS1 hl
end ZK
