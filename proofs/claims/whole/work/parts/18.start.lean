/-- the world at its start: what the constructors leave -/
def ze_v0 (k : Nat) : Nat → Int32 := if k = 39 then (fun i => if i = 0 then 8 else 0) else if k = 43 then (fun i => if i = 0 then 401 else 0) else if k = 16 then (fun i => if i = 3 then (-1) else 0) else fun _ => 0
theorem lw_arrV {cA : ClassId} {n : Nat} {f g : Nat → Value} (h : ∀ i, i < n → f i = g i) : arrV cA n f = arrV cA n g := by
  have e : (fun j : Fin n => f j.val) = fun j : Fin n => g j.val := funext (fun j => h j.val j.isLt)
  unfold arrV
  rw [e]
theorem lw_arr {s : State} {a : Array Value} {ty : FieldType} (h : (Cond.arrayClass ty).before a s = true) (hf : ∀ cA, s.vm.findClass ("[" ++ ty.toString) = some cA → va_RA s cA ty) : ∃ cA : ClassId, ArrOfT s cA ty ∧ va_RA s cA ty := by
  obtain ⟨c, k, comp, h1, h2, h3⟩ := Cond.arrayClass_spec (args := a) (first := s) (o := none) (s := s) (idx := []) h
  exact ⟨c, fun n z => ⟨fun k h => (by cases h), k, h2, comp, h3⟩, hf c h1⟩
theorem lw_arq {s : State} {a : Array Value} {n : String} (h : (Cond.arrayOver (.object n)).before a s = true) : ∃ cA : ClassId, ArrOfT s cA (.object n) ∧ va_RA s cA (.object n) := by
  obtain ⟨comp, c, k, h1, -, h2, h3, h4⟩ := Cond.arrayOver_spec (args := a) (first := s) (o := none) (s := s) (idx := []) h
  exact ⟨c, fun n z => ⟨fun k h => (by cases h), k, h2, comp, h3⟩, k, comp, h2, h3, h1, h4⟩
theorem lw_Sc {A : Nat → Prop} {U : State} {H : Heap} {f g adK adV : Nat → Nat} (h : vk_S ze_sn ze_sl ze_sb adK adV A U H) (hf : ∀ i, i < ze_sn → f i = adK i) (hg : ∀ i, i < ze_sn → g i = adV i) : vk_S ze_sn ze_sl ze_sb f g A U H :=
  ⟨fun i hi => by rw [hf i hi, hg i hi]; exact h.1 i hi, fun i j hi hj e => h.2 i j hi hj (by rw [← hf i hi, ← hf j hj]; exact e)⟩
theorem lw_Dc {A : Nat → Prop} {ws ws2 : va_W} (h : ws.map (fun q => q.1) = ws2.map (fun q => q.1)) (hD : va_D A ws) : va_D A ws2 := by
  have key : ∀ (k : Nat) (q : Nat × va_E), ws2[k]? = some q → ∃ q2, ws[k]? = some q2 ∧ q2.1 = q.1 := by
    intro k q hq
    have h1 : (ws2.map (fun q => q.1))[k]? = some q.1 := by rw [List.getElem?_map, hq]; rfl
    rw [← h, List.getElem?_map, Option.map_eq_some_iff] at h1
    exact h1
  refine ⟨fun i j p q hp hq e => ?_, fun k q hq => ?_⟩
  · obtain ⟨p2, h1, e1⟩ := key i p hp
    obtain ⟨q2, h2, e2⟩ := key j q hq
    exact hD.1 i j p2 q2 h1 h2 (by rw [e1, e2, e])
  · obtain ⟨q2, h1, e1⟩ := key k q hq
    rw [← e1]
    exact hD.2 k q2 h1
theorem lw_DA {A : Nat → Prop} {ad : Nat → Nat} {ca : Nat → ClassId} {v : ze_H} (h : va_D A (ze_ws ze_sh ad ca v)) : va_D (ze_A ad) (ze_ws ze_sh ad ca v) := by
  refine ⟨h.1, fun k q hq => ?_⟩
  simp only [ze_ws, List.getElem?_mapIdx, Option.map_eq_some_iff] at hq
  obtain ⟨x, hx, rfl⟩ := hq
  exact ⟨k, (List.getElem?_eq_some_iff.mp hx).1, rfl⟩
/-- an array of references is what its places hold -/
theorem lw_q {cA : ClassId} {n : Nat} {f g : Nat → Option Nat} (h : ∀ i, i < n → f i = g i) : vp_cell cA (n, .inr (.inr (.inr (.inr f)))) = vp_cell cA (n, .inr (.inr (.inr (.inr g)))) := by
  rw [vp_cell_q, vp_cell_q]
  exact lw_arrV (fun i hi => by rw [h i hi])
theorem lw_P2 {D : va_G} {cl : List vw_C} {H : Heap} {ad : Nat → Nat} {ca : Nat → ClassId} {v : ze_H} (i j : Nat) {t1 t2 n1 n2 b1 s1 b2 s2 : Nat} {a1 a2 : Nat} {f1 f2 : Nat → Option Nat} (hij : i ≠ j) (hP : va_P D cl (((ze_ws ze_sh ad ca v).set i (a1, .inl (ca t1, n1, .inr (.inr (.inr (.inr f1)))))).set j (a2, .inl (ca t2, n2, .inr (.inr (.inr (.inr f2)))))) H)
    (h1 : vp_cell (ca t1) (n1, .inr (.inr (.inr (.inr f1)))) = vp_cell (ca t1) (n1, .inr (.inr (.inr (.inr (fun k => some (ad (b1 + s1 * k)))))))) (h2 : vp_cell (ca t2) (n2, .inr (.inr (.inr (.inr f2)))) = vp_cell (ca t2) (n2, .inr (.inr (.inr (.inr (fun k => some (ad (b2 + s2 * k)))))))) (e1 : ze_sh[i]? = some (.inl (t1, n1, some (b1, s1)))) (e2 : ze_sh[j]? = some (.inl (t2, n2, some (b2, s2)))) (ha1 : a1 = ad i) (ha2 : a2 = ad j) : va_P D cl (ze_ws ze_sh ad ca v) H := by
  intro k q hq
  have hi : i < (ze_ws ze_sh ad ca v).length := by simp [ze_ws]; exact (List.getElem?_eq_some_iff.mp e1).1
  have hj : j < (ze_ws ze_sh ad ca v).length := by simp [ze_ws]; exact (List.getElem?_eq_some_iff.mp e2).1
  by_cases hki : k = i
  · subst hki
    have h := hP k (a1, .inl (ca t1, n1, .inr (.inr (.inr (.inr f1))))) (by rw [List.getElem?_set_ne (fun z => hij z.symm), List.getElem?_set_self hi])
    rw [ze_ws_at e1] at hq
    cases hq
    show H[ad k]? = some (vp_cell _ _)
    rw [← ha1]
    exact (show H[a1]? = some (vp_cell (ca t1) (n1, .inr (.inr (.inr (.inr f1))))) from h).trans (by rw [h1])
  · by_cases hkj : k = j
    · subst hkj
      have h := hP k (a2, .inl (ca t2, n2, .inr (.inr (.inr (.inr f2))))) (by rw [List.getElem?_set_self (by simpa using hj)])
      rw [ze_ws_at e2] at hq
      cases hq
      show H[ad k]? = some (vp_cell _ _)
      rw [← ha2]
      exact (show H[a2]? = some (vp_cell (ca t2) (n2, .inr (.inr (.inr (.inr f2))))) from h).trans (by rw [h2])
    · exact hP k q (by rw [List.getElem?_set_ne (fun z => hkj z.symm), List.getElem?_set_ne (fun z => hki z.symm)]; exact hq)
def lw_ad (q0 : Nat) (u : Nat → Nat) (q1 : Nat) (w : Nat → Nat) (b : Nat) (adK adV : Nat → Nat) (k : Nat) : Nat := if k < 75 then (if k = 0 then q0 else u k) else if k < 120 then (if k = 75 then q1 else w (k - 75)) else if k = 9999 then b else if k < 1100 then adK (k - 1000) else adV (k - 1100)
theorem lw_cell23 (ca : Nat → ClassId) (q0 : Nat) (u : Nat → Nat) (q1 : Nat) (w : Nat → Nat) : (([] ++ cw_E ca q0 u) ++ cw_M ca q1 w)[23]? = some (u 23, .inl (ca 3, 5, .inr (.inr (.inr (.inr (va_up (va_up (va_up (va_up (va_up (fun _ => none) 0 (some (u 24))) 1 (some (u 27))) 2 (some (u 30))) 3 (some (u 33))) 4 (some (u 36)))))))) := rfl
theorem lw_cell57 (ca : Nat → ClassId) (q0 : Nat) (u : Nat → Nat) (q1 : Nat) (w : Nat → Nat) : (([] ++ cw_E ca q0 u) ++ cw_M ca q1 w)[57]? = some (u 57, .inl (ca 4, 16, .inr (.inr (.inr (.inr (va_up (va_up (va_up (va_up (va_up (va_up (va_up (va_up (va_up (va_up (va_up (va_up (va_up (va_up (va_up (va_up (fun _ => none) 0 (some (u 58))) 1 (some (u 59))) 2 (some (u 60))) 3 (some (u 61))) 4 (some (u 62))) 5 (some (u 63))) 6 (some (u 64))) 7 (some (u 65))) 8 (some (u 66))) 9 (some (u 67))) 10 (some (u 68))) 11 (some (u 69))) 12 (some (u 70))) 13 (some (u 71))) 14 (some (u 72))) 15 (some (u 73)))))))) := rfl
theorem lw_cells (ca : Nat → ClassId) (q0 : Nat) (u : Nat → Nat) (q1 : Nat) (w : Nat → Nat) (b : Nat) (adK adV : Nat → Nat) : ∀ k, k < 120 → ¬ k = 23 → ¬ k = 57 → ∀ x, ze_sh[k]? = some x → (([] ++ cw_E ca q0 u) ++ cw_M ca q1 w)[k]? = some (lw_ad q0 u q1 w b adK adV k, ze_ent (lw_ad q0 u q1 w b adK adV) ca (ze_v0 k) x) := fun k hk h1 h2 x hx => match k, hk, h1, h2, hx with
  | 0, _, _, _, hx => by cases Option.some.inj (sh_0.symm.trans hx); rfl
  | 1, _, _, _, hx => by cases Option.some.inj (sh_1.symm.trans hx); rfl
  | 2, _, _, _, hx => by cases Option.some.inj (sh_2.symm.trans hx); rfl
  | 3, _, _, _, hx => by cases Option.some.inj (sh_3.symm.trans hx); rfl
  | 4, _, _, _, hx => by cases Option.some.inj (sh_4.symm.trans hx); rfl
  | 5, _, _, _, hx => by cases Option.some.inj (sh_5.symm.trans hx); rfl
  | 6, _, _, _, hx => by cases Option.some.inj (sh_6.symm.trans hx); rfl
  | 7, _, _, _, hx => by cases Option.some.inj (sh_7.symm.trans hx); rfl
  | 8, _, _, _, hx => by cases Option.some.inj (sh_8.symm.trans hx); rfl
  | 9, _, _, _, hx => by cases Option.some.inj (sh_9.symm.trans hx); rfl
  | 10, _, _, _, hx => by cases Option.some.inj (sh_10.symm.trans hx); rfl
  | 11, _, _, _, hx => by cases Option.some.inj (sh_11.symm.trans hx); rfl
  | 12, _, _, _, hx => by cases Option.some.inj (sh_12.symm.trans hx); rfl
  | 13, _, _, _, hx => by cases Option.some.inj (sh_13.symm.trans hx); rfl
  | 14, _, _, _, hx => by cases Option.some.inj (sh_14.symm.trans hx); rfl
  | 15, _, _, _, hx => by cases Option.some.inj (sh_15.symm.trans hx); rfl
  | 16, _, _, _, hx => by cases Option.some.inj (sh_16.symm.trans hx); rfl
  | 17, _, _, _, hx => by cases Option.some.inj (sh_17.symm.trans hx); rfl
  | 18, _, _, _, hx => by cases Option.some.inj (sh_18.symm.trans hx); rfl
  | 19, _, _, _, hx => by cases Option.some.inj (sh_19.symm.trans hx); rfl
  | 20, _, _, _, hx => by cases Option.some.inj (sh_20.symm.trans hx); rfl
  | 21, _, _, _, hx => by cases Option.some.inj (sh_21.symm.trans hx); rfl
  | 22, _, _, _, hx => by cases Option.some.inj (sh_22.symm.trans hx); rfl
  | 23, _, h, _, _ => absurd rfl h
  | 24, _, _, _, hx => by cases Option.some.inj (sh_24.symm.trans hx); rfl
  | 25, _, _, _, hx => by cases Option.some.inj (sh_25.symm.trans hx); rfl
  | 26, _, _, _, hx => by cases Option.some.inj (sh_26.symm.trans hx); rfl
  | 27, _, _, _, hx => by cases Option.some.inj (sh_27.symm.trans hx); rfl
  | 28, _, _, _, hx => by cases Option.some.inj (sh_28.symm.trans hx); rfl
  | 29, _, _, _, hx => by cases Option.some.inj (sh_29.symm.trans hx); rfl
  | 30, _, _, _, hx => by cases Option.some.inj (sh_30.symm.trans hx); rfl
  | 31, _, _, _, hx => by cases Option.some.inj (sh_31.symm.trans hx); rfl
  | 32, _, _, _, hx => by cases Option.some.inj (sh_32.symm.trans hx); rfl
  | 33, _, _, _, hx => by cases Option.some.inj (sh_33.symm.trans hx); rfl
  | 34, _, _, _, hx => by cases Option.some.inj (sh_34.symm.trans hx); rfl
  | 35, _, _, _, hx => by cases Option.some.inj (sh_35.symm.trans hx); rfl
  | 36, _, _, _, hx => by cases Option.some.inj (sh_36.symm.trans hx); rfl
  | 37, _, _, _, hx => by cases Option.some.inj (sh_37.symm.trans hx); rfl
  | 38, _, _, _, hx => by cases Option.some.inj (sh_38.symm.trans hx); rfl
  | 39, _, _, _, hx => by cases Option.some.inj (sh_39.symm.trans hx); rfl
  | 40, _, _, _, hx => by cases Option.some.inj (sh_40.symm.trans hx); rfl
  | 41, _, _, _, hx => by cases Option.some.inj (sh_41.symm.trans hx); rfl
  | 42, _, _, _, hx => by cases Option.some.inj (sh_42.symm.trans hx); rfl
  | 43, _, _, _, hx => by cases Option.some.inj (sh_43.symm.trans hx); rfl
  | 44, _, _, _, hx => by cases Option.some.inj (sh_44.symm.trans hx); rfl
  | 45, _, _, _, hx => by cases Option.some.inj (sh_45.symm.trans hx); rfl
  | 46, _, _, _, hx => by cases Option.some.inj (sh_46.symm.trans hx); rfl
  | 47, _, _, _, hx => by cases Option.some.inj (sh_47.symm.trans hx); rfl
  | 48, _, _, _, hx => by cases Option.some.inj (sh_48.symm.trans hx); rfl
  | 49, _, _, _, hx => by cases Option.some.inj (sh_49.symm.trans hx); rfl
  | 50, _, _, _, hx => by cases Option.some.inj (sh_50.symm.trans hx); rfl
  | 51, _, _, _, hx => by cases Option.some.inj (sh_51.symm.trans hx); rfl
  | 52, _, _, _, hx => by cases Option.some.inj (sh_52.symm.trans hx); rfl
  | 53, _, _, _, hx => by cases Option.some.inj (sh_53.symm.trans hx); rfl
  | 54, _, _, _, hx => by cases Option.some.inj (sh_54.symm.trans hx); rfl
  | 55, _, _, _, hx => by cases Option.some.inj (sh_55.symm.trans hx); rfl
  | 56, _, _, _, hx => by cases Option.some.inj (sh_56.symm.trans hx); rfl
  | 57, _, _, h, _ => absurd rfl h
  | 58, _, _, _, hx => by cases Option.some.inj (sh_58.symm.trans hx); rfl
  | 59, _, _, _, hx => by cases Option.some.inj (sh_59.symm.trans hx); rfl
  | 60, _, _, _, hx => by cases Option.some.inj (sh_60.symm.trans hx); rfl
  | 61, _, _, _, hx => by cases Option.some.inj (sh_61.symm.trans hx); rfl
  | 62, _, _, _, hx => by cases Option.some.inj (sh_62.symm.trans hx); rfl
  | 63, _, _, _, hx => by cases Option.some.inj (sh_63.symm.trans hx); rfl
  | 64, _, _, _, hx => by cases Option.some.inj (sh_64.symm.trans hx); rfl
  | 65, _, _, _, hx => by cases Option.some.inj (sh_65.symm.trans hx); rfl
  | 66, _, _, _, hx => by cases Option.some.inj (sh_66.symm.trans hx); rfl
  | 67, _, _, _, hx => by cases Option.some.inj (sh_67.symm.trans hx); rfl
  | 68, _, _, _, hx => by cases Option.some.inj (sh_68.symm.trans hx); rfl
  | 69, _, _, _, hx => by cases Option.some.inj (sh_69.symm.trans hx); rfl
  | 70, _, _, _, hx => by cases Option.some.inj (sh_70.symm.trans hx); rfl
  | 71, _, _, _, hx => by cases Option.some.inj (sh_71.symm.trans hx); rfl
  | 72, _, _, _, hx => by cases Option.some.inj (sh_72.symm.trans hx); rfl
  | 73, _, _, _, hx => by cases Option.some.inj (sh_73.symm.trans hx); rfl
  | 74, _, _, _, hx => by cases Option.some.inj (sh_74.symm.trans hx); rfl
  | 75, _, _, _, hx => by cases Option.some.inj (sh_75.symm.trans hx); rfl
  | 76, _, _, _, hx => by cases Option.some.inj (sh_76.symm.trans hx); rfl
  | 77, _, _, _, hx => by cases Option.some.inj (sh_77.symm.trans hx); rfl
  | 78, _, _, _, hx => by cases Option.some.inj (sh_78.symm.trans hx); rfl
  | 79, _, _, _, hx => by cases Option.some.inj (sh_79.symm.trans hx); rfl
  | 80, _, _, _, hx => by cases Option.some.inj (sh_80.symm.trans hx); rfl
  | 81, _, _, _, hx => by cases Option.some.inj (sh_81.symm.trans hx); rfl
  | 82, _, _, _, hx => by cases Option.some.inj (sh_82.symm.trans hx); rfl
  | 83, _, _, _, hx => by cases Option.some.inj (sh_83.symm.trans hx); rfl
  | 84, _, _, _, hx => by cases Option.some.inj (sh_84.symm.trans hx); rfl
  | 85, _, _, _, hx => by cases Option.some.inj (sh_85.symm.trans hx); rfl
  | 86, _, _, _, hx => by cases Option.some.inj (sh_86.symm.trans hx); rfl
  | 87, _, _, _, hx => by cases Option.some.inj (sh_87.symm.trans hx); rfl
  | 88, _, _, _, hx => by cases Option.some.inj (sh_88.symm.trans hx); rfl
  | 89, _, _, _, hx => by cases Option.some.inj (sh_89.symm.trans hx); rfl
  | 90, _, _, _, hx => by cases Option.some.inj (sh_90.symm.trans hx); rfl
  | 91, _, _, _, hx => by cases Option.some.inj (sh_91.symm.trans hx); rfl
  | 92, _, _, _, hx => by cases Option.some.inj (sh_92.symm.trans hx); rfl
  | 93, _, _, _, hx => by cases Option.some.inj (sh_93.symm.trans hx); rfl
  | 94, _, _, _, hx => by cases Option.some.inj (sh_94.symm.trans hx); rfl
  | 95, _, _, _, hx => by cases Option.some.inj (sh_95.symm.trans hx); rfl
  | 96, _, _, _, hx => by cases Option.some.inj (sh_96.symm.trans hx); rfl
  | 97, _, _, _, hx => by cases Option.some.inj (sh_97.symm.trans hx); rfl
  | 98, _, _, _, hx => by cases Option.some.inj (sh_98.symm.trans hx); rfl
  | 99, _, _, _, hx => by cases Option.some.inj (sh_99.symm.trans hx); rfl
  | 100, _, _, _, hx => by cases Option.some.inj (sh_100.symm.trans hx); rfl
  | 101, _, _, _, hx => by cases Option.some.inj (sh_101.symm.trans hx); rfl
  | 102, _, _, _, hx => by cases Option.some.inj (sh_102.symm.trans hx); rfl
  | 103, _, _, _, hx => by cases Option.some.inj (sh_103.symm.trans hx); rfl
  | 104, _, _, _, hx => by cases Option.some.inj (sh_104.symm.trans hx); rfl
  | 105, _, _, _, hx => by cases Option.some.inj (sh_105.symm.trans hx); rfl
  | 106, _, _, _, hx => by cases Option.some.inj (sh_106.symm.trans hx); rfl
  | 107, _, _, _, hx => by cases Option.some.inj (sh_107.symm.trans hx); rfl
  | 108, _, _, _, hx => by cases Option.some.inj (sh_108.symm.trans hx); rfl
  | 109, _, _, _, hx => by cases Option.some.inj (sh_109.symm.trans hx); rfl
  | 110, _, _, _, hx => by cases Option.some.inj (sh_110.symm.trans hx); rfl
  | 111, _, _, _, hx => by cases Option.some.inj (sh_111.symm.trans hx); rfl
  | 112, _, _, _, hx => by cases Option.some.inj (sh_112.symm.trans hx); rfl
  | 113, _, _, _, hx => by cases Option.some.inj (sh_113.symm.trans hx); rfl
  | 114, _, _, _, hx => by cases Option.some.inj (sh_114.symm.trans hx); rfl
  | 115, _, _, _, hx => by cases Option.some.inj (sh_115.symm.trans hx); rfl
  | 116, _, _, _, hx => by cases Option.some.inj (sh_116.symm.trans hx); rfl
  | 117, _, _, _, hx => by cases Option.some.inj (sh_117.symm.trans hx); rfl
  | 118, _, _, _, hx => by cases Option.some.inj (sh_118.symm.trans hx); rfl
  | 119, _, _, _, hx => by cases Option.some.inj (sh_119.symm.trans hx); rfl
  | n + 120, h, _, _, _ => absurd h (by omega)
theorem lw_Dd {A : Nat → Prop} {ad : Nat → Nat} {ca : Nat → ClassId} {v : ze_H} {ws : va_W} (h : ∀ k, k < ze_sh.length → ∃ q : Nat × va_E, ws[k]? = some q ∧ q.1 = ad k) (hD : va_D A ws) : va_D A (ze_ws ze_sh ad ca v) := by
  have key : ∀ (k : Nat) (q : Nat × va_E), (ze_ws ze_sh ad ca v)[k]? = some q → ∃ q2 : Nat × va_E, ws[k]? = some q2 ∧ q2.1 = q.1 := by
    intro k q hq
    have hk : k < ze_sh.length := by
      have h9 := (List.getElem?_eq_some_iff.mp hq).1
      simpa [ze_ws] using h9
    obtain ⟨x, hx9⟩ : ∃ x, ze_sh[k]? = some x := ⟨_, List.getElem?_eq_getElem hk⟩
    rw [ze_ws_at hx9] at hq
    cases hq
    exact h k hk
  refine ⟨fun i j p q hp hq e => ?_, fun k q hq => ?_⟩
  · obtain ⟨p2, h1, e1⟩ := key i p hp
    obtain ⟨q2, h2, e2⟩ := key j q hq
    exact hD.1 i j p2 q2 h1 h2 (by rw [e1, e2, e])
  · obtain ⟨q2, h1, e1⟩ := key k q hq
    rw [← e1]
    exact hD.2 k q2 h1
def lw_tm (i : Nat) : Term := .string "RouteEngine$Reader" ([72, 78, 80, 94].getD i 0)
set_option maxHeartbeats 8000000 in
set_option maxRecDepth 100000 in
theorem whole_start_open (hpure : ∀ (xs : Nat → Int32) (Ln : Nat), Ln ≤ 3072 → ∃ v1 : ze_H, f_W_law_L18 xs Ln (fun v => some (1, v)) 100000 0 ze_v0 = some (1, v1)) {p : Program} {e : Env} {s : State} {m : MethodId} {below : List Frame} {meth : Method} {c : Code} (l : Launch) {b L : Nat} {xs : Nat → Int32} (hL : L ≤ 3072) (C0 : lw_At p s m meth c b L xs) : W p l e room_1 s m #[Value.ref b] below meth c s.heap [] 0 0 (lw_Z below #[Value.ref b] s) (entryFrame m ([Value.ref b] : List Value).toArray 4) := by
  obtain ⟨hx, hb, hr, hml, hown, hts, hX, hbl, hlocks, hgv⟩ := id C0
  have hts1 : ∀ w ∈ ze_tbl, w.before #[Value.ref b] s = true := fun w h => hts w (ze_tbl_sub h)
  obtain ⟨c0, i0, hK0⟩ := u_known (C := cn_E) (T := ct_E) (N := 16) (n := 16) hts1 ci_E (hts1 _ (ze_mem (List.mem_of_getElem? (i := 87) (by decide +kernel)) rfl))
  obtain ⟨c1, i1, hK1⟩ := u_known (C := cn_P) (T := ct_P) (N := 6) (n := 6) hts1 ci_P (hts1 _ (ze_mem (List.mem_of_getElem? (i := 95) (by decide +kernel)) rfl))
  obtain ⟨c2, i2, hK2⟩ := u_known (C := cn_R) (T := ct_R) (N := 4) (n := 4) hts1 ci_R (hts1 _ (ze_mem (List.mem_of_getElem? (i := 132) (by decide +kernel)) rfl))
  obtain ⟨c3, i3, hK3⟩ := u_known (C := cn_C) (T := ct_C) (N := 6) (n := 6) hts1 ci_C (hts1 _ (ze_mem (List.mem_of_getElem? (i := 151) (by decide +kernel)) rfl))
  obtain ⟨c4, i4, hK4⟩ := u_known (C := cn_N) (T := ct_N) (N := 5) (n := 5) hts1 ci_N (hts1 _ (ze_mem (List.mem_of_getElem? (i := 183) (by decide +kernel)) rfl))
  obtain ⟨c5, i5, hK5⟩ := u_known (C := cn_L) (T := ct_L) (N := 6) (n := 6) hts1 ci_L (hts1 _ (ze_mem (List.mem_of_getElem? (i := 208) (by decide +kernel)) rfl))
  obtain ⟨c6, i6, hK6⟩ := u_known (C := cn_G) (T := ct_G) (N := 6) (n := 6) hts1 ci_G (hts1 _ (ze_mem (List.mem_of_getElem? (i := 241) (by decide +kernel)) rfl))
  obtain ⟨c7, i7, hK7⟩ := u_known (C := cn_K) (T := ct_K) (N := 3) (n := 3) hts1 ci_K (hts1 _ (ze_mem (List.mem_of_getElem? (i := 272) (by decide +kernel)) rfl))
  obtain ⟨c8, i8, hK8⟩ := u_known (C := cn_H) (T := ct_H) (N := 4) (n := 4) hts1 ci_H (hts1 _ (ze_mem (List.mem_of_getElem? (i := 292) (by decide +kernel)) rfl))
  obtain ⟨c9, i9, hK9⟩ := u_known (C := cn_M) (T := ct_M) (N := 61) (n := 61) hts1 ci_M (hts1 _ (ze_mem (List.mem_of_getElem? (i := 726) (by decide +kernel)) rfl))
  obtain ⟨a0, hR0⟩ := lw_arr (ty := .int) (hts1 _ (ze_mem (List.mem_of_getElem? (i := 129) (by decide +kernel)) rfl)) (fun _ h => h)
  obtain ⟨a1, hR1⟩ := lw_arr (ty := .char) (hts1 _ (ze_mem (List.mem_of_getElem? (i := 130) (by decide +kernel)) rfl)) (fun _ h => h)
  obtain ⟨a2, hR2⟩ := lw_arr (ty := .boolean) (hts1 _ (ze_mem (List.mem_of_getElem? (i := 180) (by decide +kernel)) rfl)) (fun _ h => h)
  have hO3 := hts (.arrayOver (.object "RouteEngine$Endpoint")) (List.mem_of_getElem? (i := 182) (by decide +kernel))
  obtain ⟨a3, hR3⟩ := lw_arq (n := "RouteEngine$Endpoint") hO3
  have hO4 := hts (.arrayOver (.object "RouteEngine$Exchange")) (List.mem_of_getElem? (i := 291) (by decide +kernel))
  obtain ⟨a4, hR4⟩ := lw_arq (n := "RouteEngine$Exchange") hO4
  obtain ⟨ca, hca⟩ : ∃ ca : Nat → ClassId, ca 0 = a0 ∧ ca 1 = a1 ∧ ca 2 = a2 ∧ ca 3 = a3 ∧ ca 4 = a4 := ⟨fun k => [a0, a1, a2, a3, a4].getD k 0, rfl, rfl, rfl, rfl, rfl⟩
  obtain ⟨rfl, rfl, rfl, rfl, rfl⟩ := hca
  obtain ⟨dC, dI, hKc⟩ : ∃ (dC : Nat → ClassId) (dI : Nat → Nat → Nat), ∀ (k : Nat) (q : vw_C), ze_cl[k]? = some q → u_Kn s q.1 q.2.1 q.2.2 (dC k) (dI k) := by
    refine ⟨fun k => [c0, c1, c2, c3, c4, c5, c6, c7, c8, c9].getD k 0, fun k => [i0, i1, i2, i3, i4, i5, i6, i7, i8, i9].getD k (fun _ => 0), ?_⟩
    intro k q hq
    match k, hq with
    | 0, hq => cases hq; exact hK0
    | 1, hq => cases hq; exact hK1
    | 2, hq => cases hq; exact hK2
    | 3, hq => cases hq; exact hK3
    | 4, hq => cases hq; exact hK4
    | 5, hq => cases hq; exact hK5
    | 6, hq => cases hq; exact hK6
    | 7, hq => cases hq; exact hK7
    | 8, hq => cases hq; exact hK8
    | 9, hq => cases hq; exact hK9
    | k + 10, hq => simp [ze_cl] at hq
  have hK : va_K (dC, dI) ze_cl (ze_tys ca) s := by
    refine ⟨hKc, fun k q hq => ?_⟩
    match k, hq with
    | 0, hq => cases hq; exact hR0
    | 1, hq => cases hq; exact hR1
    | 2, hq => cases hq; exact hR2
    | 3, hq => cases hq; exact hR3
    | 4, hq => cases hq; exact hR4
    | k + 5, hq => simp [ze_tys] at hq
  have hs := flat_of_before _ hgv
  have hA0 : ∀ a : Nat, a < s.heap.size → ¬ (fun q : Nat => s.heap.size ≤ q) a := fun a h => Nat.not_le.mpr h
  obtain ⟨adK, adV, hSt, hEv⟩ := vk_Sof (N := ze_sn) (tm := lw_tm) (len := ze_sl) (byt := ze_sb) (A := fun q : Nat => s.heap.size ≤ q) (args := #[Value.ref b]) (s := s)
    (fun i hi => match i, hi with
      | 0, _ => by decide
      | 1, _ => by decide
      | 2, _ => by decide
      | 3, _ => by decide
      | n + 4, h => absurd h (by simp [ze_sn]))
    (fun i hi => match i, hi with
      | 0, _ => hs (.exactly (.string "RouteEngine$Reader" 72) "java/lang/String") (by decide +kernel)
      | 1, _ => hs (.exactly (.string "RouteEngine$Reader" 78) "java/lang/String") (by decide +kernel)
      | 2, _ => hs (.exactly (.string "RouteEngine$Reader" 80) "java/lang/String") (by decide +kernel)
      | 3, _ => hs (.exactly (.string "RouteEngine$Reader" 94) "java/lang/String") (by decide +kernel)
      | n + 4, h => absurd h (by simp [ze_sn]))
    (fun i hi => match i, hi with
      | 0, _ => hs (.eq (.field (.string "RouteEngine$Reader" 72) "java/lang/String" "coder" "B") (.int 0)) (by decide +kernel)
      | 1, _ => hs (.eq (.field (.string "RouteEngine$Reader" 78) "java/lang/String" "coder" "B") (.int 0)) (by decide +kernel)
      | 2, _ => hs (.eq (.field (.string "RouteEngine$Reader" 80) "java/lang/String" "coder" "B") (.int 0)) (by decide +kernel)
      | 3, _ => hs (.eq (.field (.string "RouteEngine$Reader" 94) "java/lang/String" "coder" "B") (.int 0)) (by decide +kernel)
      | n + 4, h => absurd h (by simp [ze_sn]))
    (fun i hi => match i, hi with
      | 0, _ => hs (.arrayOf (.field (.string "RouteEngine$Reader" 72) "java/lang/String" "value" "[B") .byte) (by decide +kernel)
      | 1, _ => hs (.arrayOf (.field (.string "RouteEngine$Reader" 78) "java/lang/String" "value" "[B") .byte) (by decide +kernel)
      | 2, _ => hs (.arrayOf (.field (.string "RouteEngine$Reader" 80) "java/lang/String" "value" "[B") .byte) (by decide +kernel)
      | 3, _ => hs (.arrayOf (.field (.string "RouteEngine$Reader" 94) "java/lang/String" "value" "[B") .byte) (by decide +kernel)
      | n + 4, h => absurd h (by simp [ze_sn]))
    (fun i hi => match i, hi with
      | 0, _ => hs (.eq (.length (.field (.string "RouteEngine$Reader" 72) "java/lang/String" "value" "[B")) (.int 2)) (by decide +kernel)
      | 1, _ => hs (.eq (.length (.field (.string "RouteEngine$Reader" 78) "java/lang/String" "value" "[B")) (.int 4)) (by decide +kernel)
      | 2, _ => hs (.eq (.length (.field (.string "RouteEngine$Reader" 80) "java/lang/String" "value" "[B")) (.int 1)) (by decide +kernel)
      | 3, _ => hs (.eq (.length (.field (.string "RouteEngine$Reader" 94) "java/lang/String" "value" "[B")) (.int 1)) (by decide +kernel)
      | n + 4, h => absurd h (by simp [ze_sn]))
    (fun i hi => match i, hi with
      | 0, _ => fun j hj => match j, hj with
        | 0, _ => hs (.eq (.elem (.field (.string "RouteEngine$Reader" 72) "java/lang/String" "value" "[B") (.int 0)) (.int 98)) (by decide +kernel)
        | 1, _ => hs (.eq (.elem (.field (.string "RouteEngine$Reader" 72) "java/lang/String" "value" "[B") (.int 1)) (.int 107)) (by decide +kernel)
        | j + 2, h => absurd h (by simp [ze_sl])
      | 1, _ => fun j hj => match j, hj with
        | 0, _ => hs (.eq (.elem (.field (.string "RouteEngine$Reader" 78) "java/lang/String" "value" "[B") (.int 0)) (.int 60)) (by decide +kernel)
        | 1, _ => hs (.eq (.elem (.field (.string "RouteEngine$Reader" 78) "java/lang/String" "value" "[B") (.int 1)) (.int 62)) (by decide +kernel)
        | 2, _ => hs (.eq (.elem (.field (.string "RouteEngine$Reader" 78) "java/lang/String" "value" "[B") (.int 2)) (.int 61)) (by decide +kernel)
        | 3, _ => hs (.eq (.elem (.field (.string "RouteEngine$Reader" 78) "java/lang/String" "value" "[B") (.int 3)) (.int 37)) (by decide +kernel)
        | j + 4, h => absurd h (by simp [ze_sl])
      | 2, _ => fun j hj => match j, hj with
        | 0, _ => hs (.eq (.elem (.field (.string "RouteEngine$Reader" 80) "java/lang/String" "value" "[B") (.int 0)) (.int 40)) (by decide +kernel)
        | j + 1, h => absurd h (by simp [ze_sl])
      | 3, _ => fun j hj => match j, hj with
        | 0, _ => hs (.eq (.elem (.field (.string "RouteEngine$Reader" 94) "java/lang/String" "value" "[B") (.int 0)) (.int 44)) (by decide +kernel)
        | j + 1, h => absurd h (by simp [ze_sl])
      | n + 4, h => absurd h (by simp [ze_sn]))
    (fun i j hi hj hne => match i, j, hi, hj, hne with
      | 0, 0, _, _, h => absurd rfl h
      | 0, 1, _, _, _ => Or.inl (hs (.not (.eq (.string "RouteEngine$Reader" 72) (.string "RouteEngine$Reader" 78))) (by decide +kernel))
      | 0, 2, _, _, _ => Or.inl (hs (.not (.eq (.string "RouteEngine$Reader" 72) (.string "RouteEngine$Reader" 80))) (by decide +kernel))
      | 0, 3, _, _, _ => Or.inl (hs (.not (.eq (.string "RouteEngine$Reader" 72) (.string "RouteEngine$Reader" 94))) (by decide +kernel))
      | 1, 0, _, _, _ => Or.inr (hs (.not (.eq (.string "RouteEngine$Reader" 72) (.string "RouteEngine$Reader" 78))) (by decide +kernel))
      | 1, 1, _, _, h => absurd rfl h
      | 1, 2, _, _, _ => Or.inl (hs (.not (.eq (.string "RouteEngine$Reader" 78) (.string "RouteEngine$Reader" 80))) (by decide +kernel))
      | 1, 3, _, _, _ => Or.inl (hs (.not (.eq (.string "RouteEngine$Reader" 78) (.string "RouteEngine$Reader" 94))) (by decide +kernel))
      | 2, 0, _, _, _ => Or.inr (hs (.not (.eq (.string "RouteEngine$Reader" 72) (.string "RouteEngine$Reader" 80))) (by decide +kernel))
      | 2, 1, _, _, _ => Or.inr (hs (.not (.eq (.string "RouteEngine$Reader" 78) (.string "RouteEngine$Reader" 80))) (by decide +kernel))
      | 2, 2, _, _, h => absurd rfl h
      | 2, 3, _, _, _ => Or.inl (hs (.not (.eq (.string "RouteEngine$Reader" 80) (.string "RouteEngine$Reader" 94))) (by decide +kernel))
      | 3, 0, _, _, _ => Or.inr (hs (.not (.eq (.string "RouteEngine$Reader" 72) (.string "RouteEngine$Reader" 94))) (by decide +kernel))
      | 3, 1, _, _, _ => Or.inr (hs (.not (.eq (.string "RouteEngine$Reader" 78) (.string "RouteEngine$Reader" 94))) (by decide +kernel))
      | 3, 2, _, _, _ => Or.inr (hs (.not (.eq (.string "RouteEngine$Reader" 80) (.string "RouteEngine$Reader" 94))) (by decide +kernel))
      | 3, 3, _, _, h => absurd rfl h
      | n + 4, _, h, _, _ => absurd h (by simp [ze_sn])
      | 0, n + 4, _, h, _ => absurd h (by simp [ze_sn])
      | 1, n + 4, _, h, _ => absurd h (by simp [ze_sn])
      | 2, n + 4, _, h, _ => absurd h (by simp [ze_sn])
      | 3, n + 4, _, h, _ => absurd h (by simp [ze_sn])) hA0
  have hZ := va_Zof (v := .int 1) (A := fun q : Nat => s.heap.size ≤ q) (hts (.laysStatic "java/lang/String" "COMPACT_STRINGS" "Z") (List.mem_of_getElem? (i := 418) (by decide +kernel))) (hts1 (.initialized "java/lang/String") (ze_mem (List.mem_of_getElem? (i := 79) (by decide +kernel)) rfl)) (va_eqi (hs (.eq (.static "java/lang/String" "COMPACT_STRINGS" "Z") (.int 1)) (by decide +kernel))) hA0
  have hU0 : vk_R cn_R 72 "bk" (adK 0) s := vk_R.of (hts (.stringRef cn_R 72 "bk") (List.mem_of_getElem? (i := 400) (by decide +kernel))) (hEv 0 (by decide))
  have hU1 : vk_R cn_R 78 "<>=%" (adK 1) s := vk_R.of (hts (.stringRef cn_R 78 "<>=%") (List.mem_of_getElem? (i := 489) (by decide +kernel))) (hEv 1 (by decide))
  have hU2 : vk_R cn_R 80 "(" (adK 2) s := vk_R.of (hts (.stringRef cn_R 80 "(") (List.mem_of_getElem? (i := 498) (by decide +kernel))) (hEv 2 (by decide))
  have hU3 : vk_R cn_R 94 "," (adK 3) s := vk_R.of (hts (.stringRef cn_R 94 ",") (List.mem_of_getElem? (i := 511) (by decide +kernel))) (hEv 3 (by decide))
  have hN : zn_N s := by
    refine ⟨?_, fun C hC => ?_⟩
    rotate_left
    · rcases (show C = "RouteEngine$Endpoint" ∨ C = "RouteEngine$Exchange" by simpa [zn_ao] using hC) with rfl | rfl
      · exact va_AO.of hO3
      · exact va_AO.of hO4
    intro q hq
    have h : ∀ q ∈ zn_nw, Cond.methodLinkNest q.1 q.2.1 q.2.2.1 q.2.2.2 ∈ lw_tbl := by
      intro q hq
      have h2 : zn_nw.map (fun q => Cond.methodLinkNest q.1 q.2.1 q.2.2.1 q.2.2.2) = ([96, 152, 184, 242, 273, 293] : List Nat).filterMap (fun i => lw_tbl[i]?) := by decide +kernel
      have h3 : Cond.methodLinkNest q.1 q.2.1 q.2.2.1 q.2.2.2 ∈ zn_nw.map (fun q => Cond.methodLinkNest q.1 q.2.1 q.2.2.1 q.2.2.2) := List.mem_map.mpr ⟨q, hq, rfl⟩
      rw [h2] at h3
      obtain ⟨i, -, hi⟩ := List.mem_filterMap.mp h3
      exact List.mem_of_getElem? hi
    exact va_Nw.of rfl (hts _ (h q hq))
  obtain ⟨v1, hv1⟩ := hpure xs L hL
  have X : zn_X ((p, l, e, room_1), (s, m, #[Value.ref b], below), (meth, c, (dC, dI)), ((fun q => q), ca, s.heap), (0, 0, lw_Z below #[Value.ref b] s), (0, fun _ _ => 0)) (fun q : Nat => s.heap.size ≤ q) code cn_W 4 83 4455 120 9804 := ⟨hx, hb, hown, hts1, hml, hK, fun _ h => h, Nat.le_of_ble_eq_true rfl, Nat.le_of_ble_eq_true rfl, Nat.le_of_ble_eq_true rfl, Nat.le_of_ble_eq_true rfl, hN⟩
  rw [lg_entry_eq]
  have hst : zn_T ((p, l, e, room_1), (s, m, #[Value.ref b], below), (meth, c, (dC, dI)), ((fun q => q), ca, s.heap), (0, 0, lw_Z below #[Value.ref b] s), (0, fun _ _ => 0)) (fun q : Nat => s.heap.size ≤ q) [] 0 0 0 [some (.inr b), none, none, none] [] := by
    refine zn_new (ci := 0) (C := cn_E) (T := ct_E) (N := 16) (fs := [.null, .null, .null, .null, .null, .null, .null, .null, .null, .null, .null, .null, .int 0, .int 0, .int 0, .int 0]) X dc_W_law_0 cy_E rfl ci_E co_E (ze_mem (List.mem_of_getElem? (i := 86) (by decide +kernel)) rfl) (ze_mem (List.mem_of_getElem? (i := 87) (by decide +kernel)) rfl) (ze_mem (List.mem_of_getElem? (i := 68) (by decide +kernel)) rfl) cf_E (by decide) (by decide) (fun q0 => ?_)
    refine zn_dup X dc_W_law_3 ?_
    refine zn_callI (As := []) (st := [.inr q0]) (n := 0) X dc_W_law_4 ⟨(ze_mem (List.mem_of_getElem? (i := 88) (by decide +kernel)) rfl), (ze_mem (List.mem_of_getElem? (i := 89) (by decide +kernel)) rfl), (ze_mem (List.mem_of_getElem? (i := 68) (by decide +kernel)) rfl), ze_mem (List.mem_of_getElem? (i := 90) rfl) rfl⟩ (by decide +kernel) rfl (cj_E (l := l) (D := (dC, dI)) (ca := ca) q0) rfl (by decide) (by decide) (Nat.le_of_ble_eq_true rfl) (by decide) (by decide) (fun u => ?_)
    refine zn_astore_n X dc_W_law_7 rfl (by decide) ?_
    refine zn_new (ci := 9) (C := cn_M) (T := ct_M) (N := 61) (fs := [.null, .null, .null, .null, .null, .int 0, .int 0, .int 0, .null, .null, .null, .null, .null, .null, .null, .null, .null, .null, .int 0, .null, .null, .null, .int 0, .null, .null, .null, .null, .null, .null, .int 0, .null, .null, .null, .null, .null, .int 0, .int 0, .null, .null, .null, .int 0, .null, .null, .null, .int 0, .null, .null, .null, .null, .null, .null, .null, .null, .int 0, .int 0, .int 0, .int 0, .int 0, .int 0, .int 0, .null]) X dc_W_law_8 cy_M rfl ci_M co_M (ze_mem (List.mem_of_getElem? (i := 725) (by decide +kernel)) rfl) (ze_mem (List.mem_of_getElem? (i := 726) (by decide +kernel)) rfl) (ze_mem (List.mem_of_getElem? (i := 78) (by decide +kernel)) rfl) cf_M (by decide) (by decide) (fun q1 => ?_)
    refine zn_dup X dc_W_law_11 ?_
    refine zn_callI (As := []) (st := [.inr q1]) (n := 0) X dc_W_law_12 ⟨(ze_mem (List.mem_of_getElem? (i := 727) (by decide +kernel)) rfl), (ze_mem (List.mem_of_getElem? (i := 728) (by decide +kernel)) rfl), (ze_mem (List.mem_of_getElem? (i := 78) (by decide +kernel)) rfl), ze_mem (List.mem_of_getElem? (i := 729) rfl) rfl⟩ (by decide +kernel) rfl (cj_M (l := l) (D := (dC, dI)) (ca := ca) q1) rfl (by decide) (by decide) (Nat.le_of_ble_eq_true rfl) (by decide) (by decide) (fun w => ?_)
    refine zn_astore_n X dc_W_law_15 rfl (by decide) ?_
    refine zn_iconst (x := 0) X dc_W_law_16 (by decide) ?_
    refine zn_istore_n X dc_W_law_17 rfl (by decide) ?_
    intro H locs ls hP hD hS hl
    refine va_forget (fun q hq => hS.2.2 q hq) ?_
    obtain ⟨ad, had⟩ : ∃ ad : Nat → Nat, ad = lw_ad q0 u q1 w b adK adV := ⟨_, rfl⟩
    have hK1 : ∀ i, i < ze_sn → ad (1000 + i) = adK i := fun i hi => by
      rw [had]
      match i, hi with
      | 0, _ => rfl
      | 1, _ => rfl
      | 2, _ => rfl
      | 3, _ => rfl
      | n + 4, h => exact absurd h (by simp [ze_sn])
    have hV1 : ∀ i, i < ze_sn → ad (1100 + i) = adV i := fun i hi => by
      rw [had]
      match i, hi with
      | 0, _ => rfl
      | 1, _ => rfl
      | 2, _ => rfl
      | 3, _ => rfl
      | n + 4, h => exact absurd h (by simp [ze_sn])
    have hC : ∀ k x, ¬ k = 23 → ¬ k = 57 → ze_sh[k]? = some x → (([] ++ cw_E ca q0 u) ++ cw_M ca q1 w)[k]? = some (ad k, ze_ent ad ca (ze_v0 k) x) := fun k x h1 h2 hx9 => by rw [had]; exact lw_cells ca q0 u q1 w b adK adV k (List.getElem?_eq_some_iff.mp hx9).1 h1 h2 x hx9
    have e23 : ad 23 = u 23 := by rw [had]; rfl
    have e57 : ad 57 = u 57 := by rw [had]; rfl
    have hAd : ∀ k, k < ze_sh.length → ∃ q : Nat × va_E, (([] ++ cw_E ca q0 u) ++ cw_M ca q1 w)[k]? = some q ∧ q.1 = ad k := fun k hk => by
      obtain ⟨x, hx9⟩ : ∃ x, ze_sh[k]? = some x := ⟨_, List.getElem?_eq_getElem hk⟩
      by_cases h1 : k = 23
      · subst h1; exact ⟨_, lw_cell23 ca q0 u q1 w, e23.symm⟩
      · by_cases h2 : k = 57
        · subst h2; exact ⟨_, lw_cell57 ca q0 u q1 w, e57.symm⟩
        · exact ⟨_, hC k x h1 h2 hx9, rfl⟩
    have hD2 : va_D (fun q : Nat => s.heap.size ≤ q) (ze_ws ze_sh ad ca ze_v0) := lw_Dd hAd hD
    have hge : ∀ k, k < ze_sh.length → s.heap.size ≤ ad k := fun k hk => by
      obtain ⟨x, hx9⟩ : ∃ x, ze_sh[k]? = some x := ⟨_, List.getElem?_eq_getElem hk⟩
      exact hD2.2 k _ (ze_ws_at hx9)
    have hD3 : va_D (ze_A ad) (ze_ws ze_sh ad ca (fun _ _ => 0)) := ze_ws_D (lw_DA hD2)
    have hP2 : va_P (dC, dI) ze_cl (ze_ws ze_sh ad ca ze_v0) H := by
      intro k q hq
      have hk : k < ze_sh.length := by have h := (List.getElem?_eq_some_iff.mp hq).1; simpa [ze_ws] using h
      obtain ⟨x, hx9⟩ : ∃ x, ze_sh[k]? = some x := ⟨_, List.getElem?_eq_getElem hk⟩
      rw [ze_ws_at hx9] at hq
      by_cases h1 : k = 23
      · subst h1
        cases Option.some.inj (sh_23.symm.trans hx9)
        cases hq
        have h := hP 23 _ (lw_cell23 ca q0 u q1 w)
        show H[ad 23]? = some (vp_cell _ _)
        rw [e23]
        refine (show H[u 23]? = some (vp_cell (ca 3) _) from h).trans (congrArg some (lw_q (fun i hi => ?_)))
        rw [had]
        match i, hi with
        | 0, _ => rfl
        | 1, _ => rfl
        | 2, _ => rfl
        | 3, _ => rfl
        | 4, _ => rfl
        | n + 5, h => exact absurd h (by omega)
      · by_cases h2 : k = 57
        · subst h2
          cases Option.some.inj (sh_57.symm.trans hx9)
          cases hq
          have h := hP 57 _ (lw_cell57 ca q0 u q1 w)
          show H[ad 57]? = some (vp_cell _ _)
          rw [e57]
          refine (show H[u 57]? = some (vp_cell (ca 4) _) from h).trans (congrArg some (lw_q (fun i hi => ?_)))
          rw [had]
          match i, hi with
          | 0, _ => rfl
          | 1, _ => rfl
          | 2, _ => rfl
          | 3, _ => rfl
          | 4, _ => rfl
          | 5, _ => rfl
          | 6, _ => rfl
          | 7, _ => rfl
          | 8, _ => rfl
          | 9, _ => rfl
          | 10, _ => rfl
          | 11, _ => rfl
          | 12, _ => rfl
          | 13, _ => rfl
          | 14, _ => rfl
          | 15, _ => rfl
          | n + 16, h => exact absurd h (by omega)
        · cases hq
          exact hP k _ (hC k x h1 h2 hx9)
    have hAs : ∀ q, ze_A ad q → s.heap.size ≤ q := fun q ⟨k, hk, e⟩ => by rw [e]; exact hge k hk
    have hSH : ∀ a : Nat, a < s.heap.size → ¬ ze_A ad a → H[a]? = s.heap[a]? := fun a h1 _ => hS.2.1 a h1 (Nat.not_le.mpr h1)
    have hQ : ze_Q ad s H := ⟨(lw_Sc (hSt.narrow hAs) hK1 hV1).kept hSH, fun q hq => ?_, (hZ.narrow hAs).kept hSH⟩
    · have X1 : ze_X ((p, l, e, room_1), (s, m, #[Value.ref b], below), (meth, c, (dC, dI)), (ad, ca, H), (120, 9804, lw_Z below #[Value.ref b] s), (1, v1)) code cn_W 4 83 4455 := ⟨hx, hb, hown, hts1, hml, hK, hD3, Nat.le_of_ble_eq_true rfl, Nat.le_of_ble_eq_true rfl, Nat.le_of_ble_eq_true rfl, Nat.le_of_ble_eq_true rfl, hQ⟩
      have Y1 : ze_RL ((p, l, e, room_1), (s, m, #[Value.ref b], below), (meth, c, (dC, dI)), (ad, ca, H), (120, 9804, lw_Z below #[Value.ref b] s), (1, v1)) b := ⟨hr, hlocks, rfl, rfl, rfl, hge, rfl, Nat.le_of_ble_eq_true rfl, Nat.le_of_ble_eq_true rfl⟩
      have e9 : ad 9999 = b := by rw [had]; rfl
      have hSc : ze_Sc ((p, l, e, room_1), (s, m, #[Value.ref b], below), (meth, c, (dC, dI)), (ad, ca, H), (120, 9804, lw_Z below #[Value.ref b] s), (1, v1)) b L xs := ⟨e9, hX.kept (hS.2.1 b hbl (Nat.not_le.mpr hbl)), Nat.lt_of_lt_of_le hbl hS.1, fun h => absurd (hAs b h) (Nat.not_le.mpr hbl)⟩
      have hT := w_W_law_L18 X1 Y1 xs L hSc (kk := fun v => some (1, v)) (fun v => ze_iconst (x := 1) X1 dc_W_law_554 (by decide) (ze_lret X1 Y1 dc_W_law_555)) 100000 0 ze_v0
      refine hT hv1 H [] ls hP2 va_S.rf ⟨hl.1, hl.2.1, fun i z hz => ?_⟩
      match i, hz with
      | 0, hz => cases hz; show ls[0]? = some (.val (.ref (ad 9999))); rw [e9]; exact hl.2.2 0 (.inr b) rfl
      | 1, hz => cases hz; show ls[1]? = some (.val (.ref (ad 0))); rw [show ad 0 = q0 by rw [had]; rfl]; exact hl.2.2 1 (.inr q0) rfl
      | 2, hz => cases hz; show ls[2]? = some (.val (.ref (ad 75))); rw [show ad 75 = q1 by rw [had]; rfl]; exact hl.2.2 2 (.inr q1) rfl
      | 3, hz => cases hz; exact hl.2.2 3 (.inl 0) rfl
      | n + 4, hz => simp at hz
    · have hq4 : q = (cn_R, 72, "bk", 0) ∨ q = (cn_R, 78, "<>=%", 1) ∨ q = (cn_R, 80, "(", 2) ∨ q = (cn_R, 94, ",", 3) := by simpa [ze_sr] using hq
      rcases hq4 with rfl | rfl | rfl | rfl
      · show vk_R _ _ _ (ad (1000 + 0)) s; rw [hK1 0 (by decide)]; exact hU0
      · show vk_R _ _ _ (ad (1000 + 1)) s; rw [hK1 1 (by decide)]; exact hU1
      · show vk_R _ _ _ (ad (1000 + 2)) s; rw [hK1 2 (by decide)]; exact hU2
      · show vk_R _ _ _ (ad (1000 + 3)) s; rw [hK1 3 (by decide)]; exact hU3
  exact hst s.heap [] _ (fun k q h => by simp at h) ⟨fun i j p q h => by simp at h, fun k q h => by simp at h⟩ va_S.rf (by rw [X.2.2.2.2.1]; exact ze_entry (fun q => q) [.inr b] 4 (Nat.le_of_ble_eq_true rfl))
