/-! PURE: what a step q holds -/
theorem srt_sn (l : List (Int32 × Int32)) (a : Int32 × Int32) : srt (l ++ [a]) = ins a (srt l) := by
  unfold srt
  rw [List.foldl_append]
  rfl
theorem ins_len (a : Int32 × Int32) : ∀ l, (ins a l).length = l.length + 1
  | [] => rfl
  | b :: l => by
    unfold ins
    split
    · rfl
    · show (ins a l).length + 1 = _
      rw [ins_len a l]
      rfl
theorem srt_len (l : List (Int32 × Int32)) : (srt l).length = l.length := by
  have : ∀ (l acc : List (Int32 × Int32)), (l.foldl (fun acc a => ins a acc) acc).length = acc.length + l.length := by
    intro l
    induction l with
    | nil => intro acc; rfl
    | cons a l ih =>
      intro acc
      show (l.foldl (fun acc a => ins a acc) (ins a acc)).length = _
      rw [ih, ins_len]
      show acc.length + 1 + l.length = acc.length + (l.length + 1)
      omega
  have := this l []
  unfold srt
  rw [this]
  show 0 + l.length = _
  omega
def srd : List (Int32 × Int32) → Prop
  | [] => True
  | b :: l => (∀ c ∈ l, b.1 ≤ c.1) ∧ srd l
theorem ins_mem {a c : Int32 × Int32} : ∀ {l}, c ∈ ins a l → c = a ∨ c ∈ l
  | [], h => by
    unfold ins at h
    simp at h
    exact Or.inl h
  | b :: l, h => by
    unfold ins at h
    split at h
    · simp at h
      rcases h with h | h | h
      · exact Or.inl h
      · exact Or.inr (by simp [h])
      · exact Or.inr (by simp [h])
    · simp at h
      rcases h with h | h
      · exact Or.inr (by simp [h])
      · rcases ins_mem h with h | h
        · exact Or.inl h
        · exact Or.inr (by simp [h])
theorem ins_srd {a : Int32 × Int32} : ∀ {l}, srd l → srd (ins a l)
  | [], h => ⟨fun c hc => (by cases hc), trivial⟩
  | b :: l, h => by
    unfold ins
    by_cases c : a.1 < b.1
    · rw [if_pos c]
      refine ⟨fun d hd => ?_, h⟩
      simp at hd
      rcases hd with rfl | hd
      · exact Int32.le_of_lt c
      · exact Int32.le_trans (Int32.le_of_lt c) (h.1 d hd)
    · rw [if_neg c]
      refine ⟨fun d hd => ?_, ins_srd h.2⟩
      rcases ins_mem hd with rfl | hd
      · exact Int32.not_lt.mp c
      · exact h.1 d hd
theorem srt_srd (l : List (Int32 × Int32)) : srd (srt l) := by
  have : ∀ (l acc : List (Int32 × Int32)), srd acc → srd (l.foldl (fun acc a => ins a acc) acc) := by
    intro l
    induction l with
    | nil => intro acc h; exact h
    | cons a l ih => intro acc h; exact ih _ (ins_srd h)
  exact this l [] trivial
/-- where a new one goes -/
theorem ins_at {a : Int32 × Int32} : ∀ (L : List (Int32 × Int32)) (j : Nat), srd L → j ≤ L.length → (∀ b, 0 < j → L[j - 1]? = some b → b.1 ≤ a.1) → (∀ b, L[j]? = some b → a.1 < b.1) → ∀ i : Nat, (ins a L)[i]? = if i < j then L[i]? else if i = j then some a else L[i - 1]?
  | [], j, hs, hj, h1, h2, i => by
    have : j = 0 := by simp at hj; exact hj
    subst this
    unfold ins
    rcases i with _ | i
    · rfl
    · rw [if_neg (by omega), if_neg (by omega)]
      simp
  | b :: L, 0, hs, hj, h1, h2, i => by
    have hb := h2 b rfl
    unfold ins
    rw [if_pos hb]
    rcases i with _ | i
    · rfl
    · rw [if_neg (by omega), if_neg (by omega)]
      simp
  | b :: L, j + 1, hs, hj, h1, h2, i => by
    have hba : b.1 ≤ a.1 := by
      by_cases c : j = 0
      · subst c
        exact h1 b (by omega) rfl
      · have hjl : j - 1 < L.length := by simp at hj; omega
        have e : (b :: L)[j + 1 - 1]? = some L[j - 1] := by
          rw [show j + 1 - 1 = (j - 1) + 1 by omega]
          simp
        exact Int32.le_trans (hs.1 _ (List.getElem_mem hjl)) (h1 _ (by omega) e)
    unfold ins
    rw [if_neg (Int32.not_lt.mpr hba)]
    rcases i with _ | i
    · rw [if_pos (by omega)]
      rfl
    · have ih := ins_at (a := a) L j hs.2 (by simp at hj; omega) (fun c hc e => h1 c (by omega) (by
        rw [show j + 1 - 1 = (j - 1) + 1 by omega]
        simpa using e)) (fun c e => h2 c (by simpa using e)) i
      show (ins a L)[i]? = _
      rw [ih]
      by_cases c1 : i < j
      · rw [if_pos c1, if_pos (show i + 1 < j + 1 by omega)]
        simp
      · rw [if_neg c1, if_neg (show ¬ i + 1 < j + 1 by omega)]
        by_cases c2 : i = j
        · rw [if_pos c2, if_pos (show i + 1 = j + 1 by omega)]
        · rw [if_neg c2, if_neg (show ¬ i + 1 = j + 1 by omega)]
          rw [show i + 1 - 1 = (i - 1) + 1 by omega]
          simp
/-- without the i-th row -/
def hlr (m : ze_H) (c i : Nat) : Nat → List (Int32 × Int32)
  | 0 => []
  | h + 1 => hlr m c i h ++ if ¬ h = i ∧ m 100 h = nI c then [(m 102 h, m 101 h)] else []
theorem hlr_lt {m : ze_H} {c i : Nat} : ∀ h, h ≤ i → hlr m c i h = hl m c h
  | 0, _ => rfl
  | h + 1, hh => by
    show hlr m c i h ++ _ = hl m c h ++ _
    rw [hlr_lt h (by omega)]
    by_cases q : m 100 h = nI c
    · rw [if_pos ⟨by omega, q⟩, if_pos q]
    · rw [if_neg (fun z => q z.2), if_neg q]
theorem hlr_ne {m : ze_H} {c i : Nat} (hi : ¬ m 100 i = nI c) : ∀ h, hlr m c i h = hl m c h
  | 0 => rfl
  | h + 1 => by
    show hlr m c i h ++ _ = hl m c h ++ _
    rw [hlr_ne hi h]
    by_cases q : m 100 h = nI c
    · rw [if_pos ⟨fun z => hi (z ▸ q), q⟩, if_pos q]
    · rw [if_neg (fun z => q z.2), if_neg q]
theorem hl_sh {m m1 : ze_H} {c i h0 : Nat} (e : ∀ k j, 100 ≤ k → k ≤ 102 → m1 k j = if i ≤ j ∧ j < h0 then m k (j + 1) else m k j) : ∀ h, h ≤ h0 → (h ≤ i → hl m1 c h = hl m c h) ∧ (i ≤ h → hl m1 c h = hlr m c i (h + 1))
  | 0, hh => by
    refine ⟨fun _ => rfl, fun hi => ?_⟩
    have : i = 0 := by omega
    subst this
    show [] = [] ++ _
    rw [if_neg (fun z => z.1 rfl)]
    rfl
  | h + 1, hh => by
    obtain ⟨ih1, ih2⟩ := hl_sh e h (by omega)
    have row : ∀ j, j < i → ∀ k, 100 ≤ k → k ≤ 102 → m1 k j = m k j := fun j hj k k1 k2 => by rw [e k j k1 k2, if_neg (by omega)]
    have row2 : ∀ j, i ≤ j → j < h0 → ∀ k, 100 ≤ k → k ≤ 102 → m1 k j = m k (j + 1) := fun j hj hj2 k k1 k2 => by rw [e k j k1 k2, if_pos (by omega)]
    refine ⟨fun hi => ?_, fun hi => ?_⟩
    · show hl m1 c h ++ _ = hl m c h ++ _
      rw [ih1 (by omega), row h (by omega) 100 (by omega) (by omega), row h (by omega) 101 (by omega) (by omega), row h (by omega) 102 (by omega) (by omega)]
    · by_cases c0 : i = h + 1
      · subst c0
        have f1 : hl m1 c (h + 1) = hl m c (h + 1) := by
          show hl m1 c h ++ _ = hl m c h ++ _
          rw [ih1 (by omega), row h (by omega) 100 (by omega) (by omega), row h (by omega) 101 (by omega) (by omega), row h (by omega) 102 (by omega) (by omega)]
        rw [f1]
        show _ = hlr m c (h + 1) (h + 1) ++ _
        rw [hlr_lt (h + 1) (by omega), if_neg (fun z => z.1 rfl), List.append_nil]
      · show hl m1 c h ++ _ = hlr m c i (h + 1) ++ _
        rw [ih2 (by omega), row2 h (by omega) (by omega) 100 (by omega) (by omega), row2 h (by omega) (by omega) 101 (by omega) (by omega), row2 h (by omega) (by omega) 102 (by omega) (by omega)]
        by_cases q : m 100 (h + 1) = nI c
        · rw [if_pos q, if_pos ⟨by omega, q⟩]
        · rw [if_neg q, if_neg (fun z => q z.2)]
/-- the least, and the first of these -/
theorem tl_find {m : ze_H} {c h : Nat} {b2 : Int32} (hh : h ≤ 241) (e29 : m 75 29 = nI h) : ∀ (d j : Nat), j + d = h → ∀ l3, ((hl m c j = [] ∧ l3 = -1) ∨ ∃ i, i < j ∧ l3 = nI i ∧ m 100 i = nI c ∧ srt (hl m c j) = (m 102 i, m 101 i) :: srt (hlr m c i j)) →
    (hl m c h = [] ∧ ∀ kk N, d < N → f_M_takeLeast_L5 (nI c) b2 kk N l3 (nI j) m = kk (-1) m) ∨ ∃ i, i < h ∧ m 100 i = nI c ∧ srt (hl m c h) = (m 102 i, m 101 i) :: srt (hlr m c i h) ∧ ∀ kk N, d < N → f_M_takeLeast_L5 (nI c) b2 kk N l3 (nI j) m = kk (nI i) m
  | 0, j, hj, l3, H => by
    have hjh : j = h := by omega
    subst hjh
    have fin : ∀ (kk : Int32 → ze_H → Option (Int32 × ze_H)) N, 0 < N → f_M_takeLeast_L5 (nI c) b2 kk N l3 (nI j) m = kk l3 m := fun kk N hN => by
      obtain ⟨N, rfl⟩ : ∃ N', N = N' + 1 := ⟨N - 1, by omega⟩
      rw [f_M_takeLeast_L5]
      rw [e29, if_pos (nI_le (by omega) (by omega))]
    rcases H with ⟨h1, rfl⟩ | ⟨i, h1, rfl, h3, h4⟩
    · exact Or.inl ⟨h1, fin⟩
    · exact Or.inr ⟨i, h1, h3, h4, fin⟩
  | d + 1, j, hj, l3, H => by
    have hjh : j < h := by omega
    have pre : ∀ (kk : Int32 → ze_H → Option (Int32 × ze_H)) N, f_M_takeLeast_L5 (nI c) b2 kk (N + 1) l3 (nI j) m = if m 100 j = nI c then (if l3 < 0 then f_M_takeLeast_L5 (nI c) b2 kk N (nI j) (nI (j + 1)) m else ze_in l3 242 (if m 102 (Int32.toNatClampNeg l3) ≤ m 102 j then f_M_takeLeast_L5 (nI c) b2 kk N l3 (nI (j + 1)) m else f_M_takeLeast_L5 (nI c) b2 kk N (nI j) (nI (j + 1)) m)) else f_M_takeLeast_L5 (nI c) b2 kk N l3 (nI (j + 1)) m := fun kk N => by
      rw [f_M_takeLeast_L5]
      rw [e29, if_neg (nI_ge hjh (by omega)), zi_nI (by omega) (by omega), zi_nI (by omega) (by omega), nI_clamp (show j < 2 ^ 31 by omega)]
      simp only [zleN, nI_1]
    have hcons : hl m c (j + 1) = hl m c j ++ if m 100 j = nI c then [(m 102 j, m 101 j)] else [] := rfl
    have up : ∀ l3', (∀ (kk : Int32 → ze_H → Option (Int32 × ze_H)) N, f_M_takeLeast_L5 (nI c) b2 kk (N + 1) l3 (nI j) m = f_M_takeLeast_L5 (nI c) b2 kk N l3' (nI (j + 1)) m) → ((hl m c (j + 1) = [] ∧ l3' = -1) ∨ ∃ i, i < j + 1 ∧ l3' = nI i ∧ m 100 i = nI c ∧ srt (hl m c (j + 1)) = (m 102 i, m 101 i) :: srt (hlr m c i (j + 1))) → (hl m c h = [] ∧ ∀ kk N, d + 1 < N → f_M_takeLeast_L5 (nI c) b2 kk N l3 (nI j) m = kk (-1) m) ∨ ∃ i, i < h ∧ m 100 i = nI c ∧ srt (hl m c h) = (m 102 i, m 101 i) :: srt (hlr m c i h) ∧ ∀ kk N, d + 1 < N → f_M_takeLeast_L5 (nI c) b2 kk N l3 (nI j) m = kk (nI i) m := by
      intro l3' hs H'
      rcases tl_find hh e29 d (j + 1) (by omega) l3' H' with ⟨g1, g2⟩ | ⟨i, g1, g2, g3, g4⟩
      · refine Or.inl ⟨g1, fun kk N hN => ?_⟩
        obtain ⟨N, rfl⟩ : ∃ N', N = N' + 1 := ⟨N - 1, by omega⟩
        rw [hs, g2 kk N (by omega)]
      · refine Or.inr ⟨i, g1, g2, g3, fun kk N hN => ?_⟩
        obtain ⟨N, rfl⟩ : ∃ N', N = N' + 1 := ⟨N - 1, by omega⟩
        rw [hs, g4 kk N (by omega)]
    by_cases q : m 100 j = nI c
    · rw [if_pos q] at hcons
      have hnew : srt (hl m c (j + 1)) = ins (m 102 j, m 101 j) (srt (hl m c j)) := by rw [hcons, srt_sn]
      have hrj : hlr m c j (j + 1) = hl m c j := by
        show hlr m c j j ++ _ = _
        rw [hlr_lt j (Nat.le_refl _), if_neg (fun z => z.1 rfl), List.append_nil]
      rcases H with ⟨h1, rfl⟩ | ⟨i, h1, rfl, h3, h4⟩
      · refine up (nI j) (fun kk N => by rw [pre, if_pos q, if_pos (by decide)]) (Or.inr ⟨j, by omega, rfl, q, ?_⟩)
        rw [hnew, hrj, h1]
        rfl
      · by_cases c2 : m 102 i ≤ m 102 j
        · refine up (nI i) (fun kk N => by rw [pre, if_pos q, if_neg (nI_pos (by omega)), zi_nI (by omega) (by omega), nI_clamp (by omega), if_pos c2]) (Or.inr ⟨i, by omega, rfl, h3, ?_⟩)
          have hri : hlr m c i (j + 1) = hlr m c i j ++ [(m 102 j, m 101 j)] := by
            show hlr m c i j ++ _ = _
            rw [if_pos ⟨by omega, q⟩]
          rw [hnew, h4, hri, srt_sn]
          show (if m 102 j < m 102 i then _ else _) = _
          rw [if_neg (Int32.not_lt.mpr c2)]
        · refine up (nI j) (fun kk N => by rw [pre, if_pos q, if_neg (nI_pos (by omega)), zi_nI (by omega) (by omega), nI_clamp (by omega), if_neg c2]) (Or.inr ⟨j, by omega, rfl, q, ?_⟩)
          rw [hnew, hrj, h4]
          show (if m 102 j < m 102 i then _ else _) = _
          rw [if_pos (Int32.not_le.mp c2)]
    · rw [if_neg q, List.append_nil] at hcons
      refine up l3 (fun kk N => by rw [pre, if_neg q]) ?_
      rcases H with ⟨h1, h2⟩ | ⟨i, h1, h2, h3, h4⟩
      · exact Or.inl ⟨by rw [hcons]; exact h1, h2⟩
      · refine Or.inr ⟨i, by omega, h2, h3, ?_⟩
        have hri : hlr m c i (j + 1) = hlr m c i j := by
          show hlr m c i j ++ _ = _
          rw [if_neg (fun z => q z.2), List.append_nil]
        rw [hcons, h4, hri]
theorem tl_sh {h : Nat} (hh : h ≤ 241) (kk : ze_H → Option (Int32 × ze_H)) : ∀ (d j N : Nat) (m : ze_H), m 75 29 = nI h → j + d = h → d < N → ∃ m1, f_M_takeLeast_L84 kk N (nI j) m = kk m1 ∧ ∀ k i, m1 k i = if 100 ≤ k ∧ k ≤ 102 ∧ j ≤ i ∧ i < h then m k (i + 1) else m k i
  | 0, j, N, m, e29, hj, hN => by
    obtain ⟨N, rfl⟩ : ∃ N', N = N' + 1 := ⟨N - 1, by omega⟩
    refine ⟨m, ?_, fun k i => by rw [if_neg (by omega)]⟩
    rw [f_M_takeLeast_L84]
    rw [e29, if_pos (nI_le (by omega) (by omega))]
  | d + 1, j, N, m, e29, hj, hN => by
    obtain ⟨N, rfl⟩ : ∃ N', N = N' + 1 := ⟨N - 1, by omega⟩
    obtain ⟨m1, h1, h2⟩ := tl_sh hh kk d (j + 1) N (ze_u (ze_u (ze_u m 100 j (m 100 (j + 1))) 101 j (m 101 (j + 1))) 102 j (m 102 (j + 1))) (by simp (disch := omega) only [zu_n]; exact e29) (by omega) (by omega)
    refine ⟨m1, ?_, fun k i => ?_⟩
    · rw [f_M_takeLeast_L84]
      rw [e29, if_neg (nI_ge (by omega) (by omega)), nI_1]
      simp (disch := omega) only [zi_N, nI_clamp, zlvN, zleN, zu_n]
      exact h1
    · rw [h2]
      by_cases c : 100 ≤ k ∧ k ≤ 102 ∧ j + 1 ≤ i ∧ i < h
      · rw [if_pos c, if_pos (by omega)]
        simp (disch := omega) only [zu_n]
      · rw [if_neg c]
        by_cases c2 : 100 ≤ k ∧ k ≤ 102 ∧ i = j
        · rw [if_pos (by omega)]
          obtain ⟨c3, c4, rfl⟩ := c2
          have hk : k = 100 ∨ k = 101 ∨ k = 102 := by omega
          rcases hk with rfl | rfl | rfl <;> simp (disch := omega) only [zu_n, zu_s]
        · rw [if_neg (by omega)]
          simp (disch := omega) only [zu_n]
/-- the reference takes the least -/
theorem mt_1 {m : ze_H} {c h t : Nat} {A : Int32} (hc : c < 160) (hh : h ≤ 241) (ht : t < 420) (e29 : m 75 29 = nI h) (e36 : m 75 36 = nI t) (hne : ¬ hl m c h = []) : ∃ m1 y, f_M_takeLeast (nI c) A m = some (0, m1) ∧ srt (hl m c h) = y :: srt (hl m1 c (h - 1)) ∧ m1 75 29 = nI (h - 1) ∧ m1 75 36 = nI (t + 1) ∧ m1 105 t = A ∧ m1 106 t = y.2 ∧ m1 107 t = y.1 ∧ (∀ c', c' < 160 → ¬ c' = c → hl m1 c' (h - 1) = hl m c' h) ∧ (∀ i, i < h - 1 → ∃ i', i' < h ∧ m1 100 i = m 100 i') ∧ (∀ k i, ¬ (100 ≤ k ∧ k ≤ 102) → ¬ (k = 75 ∧ (i = 29 ∨ i = 36)) → ¬ (105 ≤ k ∧ k ≤ 107 ∧ i = t) → m1 k i = m k i) := by
  rcases tl_find (m := m) (c := c) (b2 := A) hh e29 h 0 (by omega) (-1) (Or.inl ⟨rfl, rfl⟩) with ⟨g1, _⟩ | ⟨i, g1, g2, g3, g4⟩
  · exact absurd g1 hne
  have g4' : ∀ kk : Int32 → ze_H → Option (Int32 × ze_H), f_M_takeLeast_L5 (nI c) A kk 200000 (-1) 0 m = kk (nI i) m := fun kk => g4 kk 200000 (by omega)
  obtain ⟨m2, s1, s2⟩ := tl_sh (h := h - 1) (by omega) (fun v19 => some ((0 : Int32), v19)) (h - 1 - i) i 200000 (ze_u (ze_u (ze_u (ze_u (ze_u m 105 t A) 106 t (m 101 i)) 107 t (m 102 i)) 75 36 (nI (t + 1))) 75 29 (nI (h - 1))) (zu_s _ _ _ _) (by omega) (by omega)
  have hsh : ∀ k j, 100 ≤ k → k ≤ 102 → m2 k j = if i ≤ j ∧ j < h - 1 then m k (j + 1) else m k j := fun k j k1 k2 => by
    rw [s2]
    by_cases cc : i ≤ j ∧ j < h - 1
    · rw [if_pos (by omega), if_pos cc]
      simp (disch := omega) only [zu_n]
    · rw [if_neg (by omega), if_neg cc]
      simp (disch := omega) only [zu_n]
  refine ⟨m2, (m 102 i, m 101 i), ?_, ?_, ?_, ?_, ?_, ?_, ?_, fun c' hc' hcc => ?_, fun j hj => ?_, fun k j k1 k2 k3 => ?_⟩
  · unfold f_M_takeLeast f_M_makeReady
    rw [zlet, zlet, g4', nI_clamp (by omega), zi_nI (by omega) (by omega), zi_nI (by omega) (by omega), e36]
    simp (disch := omega) only [zi_N, nI_clamp, zlvN, zleN, zcaN, zu_n, zu_s, e36, e29, nI_1, show nI h - 1 = nI (h - 1) from pk_sub (b := 1) (by omega)]
    exact s1
  · rw [g3, (hl_sh (c := c) hsh (h - 1) (Nat.le_refl _)).2 (by omega), show h - 1 + 1 = h by omega]
  · rw [s2, if_neg (by omega), zu_s]
  · rw [s2, if_neg (by omega)]
    simp (disch := omega) only [zu_n, zu_s]
  · rw [s2, if_neg (by omega)]
    simp (disch := omega) only [zu_n, zu_s]
  · rw [s2, if_neg (by omega)]
    simp (disch := omega) only [zu_n, zu_s]
  · rw [s2, if_neg (by omega)]
    simp (disch := omega) only [zu_n, zu_s]
  · rw [(hl_sh (c := c') hsh (h - 1) (Nat.le_refl _)).2 (by omega), show h - 1 + 1 = h by omega, hlr_ne (fun z => hcc (by
      rw [g2, nI_eq (by omega) (by omega)] at z
      exact z.symm))]
  · by_cases cc : i ≤ j ∧ j < h - 1
    · exact ⟨j + 1, by omega, by rw [hsh 100 j (by omega) (by omega), if_pos cc]⟩
    · exact ⟨j, by omega, by rw [hsh 100 j (by omega) (by omega), if_neg cc]⟩
  · rw [s2, if_neg (by omega)]
    simp (disch := omega) only [zu_n]
/-- .. as many times as there are -/
theorem mt_all {c A : Nat} {b2 b3 : Int32} {ro af : Nat} (hc : c < 160) (hA : A = 64 * ro + af) (kk : ze_H → Option (Int32 × ze_H)) (sz : Nat) (hsz : sz ≤ 4) (hb3 : b3 = nI sz) (hb2 : b2 = nI sz) : ∀ (d j h t : Nat) (m : ze_H) (N : Nat), j + d = sz → d < N → h ≤ 241 → t + d < 420 → m 75 29 = nI h → m 75 36 = nI t → m 75 53 = nI ro → m 75 55 = nI af → (hl m c h).length = d → d ≤ h →
    ∃ m1, f_M_order_L109 (nI c) b2 b3 kk N (nI j) m = kk m1 ∧ m1 75 29 = nI (h - d) ∧ m1 75 36 = nI (t + d) ∧ (∀ i, i < d → ∃ y, (srt (hl m c h))[i]? = some y ∧ m1 105 (t + i) = nI A ∧ m1 106 (t + i) = y.2 ∧ m1 107 (t + i) = y.1) ∧ hl m1 c (h - d) = [] ∧ (∀ c', c' < 160 → ¬ c' = c → hl m1 c' (h - d) = hl m c' h) ∧ (∀ i, i < h - d → ∃ i', i' < h ∧ m1 100 i = m 100 i') ∧ (∀ k i, ¬ (100 ≤ k ∧ k ≤ 102) → ¬ (k = 75 ∧ (i = 29 ∨ i = 36)) → ¬ (105 ≤ k ∧ k ≤ 107 ∧ t ≤ i ∧ i < t + d) → m1 k i = m k i)
  | 0, j, h, t, m, N, hj, hN, hh, ht, e29, e36, e53, e55, hlen, hdh => by
    obtain ⟨N, rfl⟩ : ∃ N', N = N' + 1 := ⟨N - 1, by omega⟩
    refine ⟨m, ?_, e29, e36, fun i hi => by omega, List.eq_nil_of_length_eq_zero hlen, fun c' _ _ => rfl, fun i hi => ⟨i, hi, rfl⟩, fun _ _ _ _ _ => rfl⟩
    rw [f_M_order_L109]
    rw [hb3, if_pos (nI_le (by omega) (by omega))]
  | d + 1, j, h, t, m, N, hj, hN, hh, ht, e29, e36, e53, e55, hlen, hdh => by
    obtain ⟨N, rfl⟩ : ∃ N', N = N' + 1 := ⟨N - 1, by omega⟩
    obtain ⟨m1, y, a1, a2, a3, a4, a5, a6, a7, a8, a9, a10⟩ := mt_1 (m := m) (c := c) (h := h) (t := t) (A := nI A) hc hh (by omega) e29 e36 (fun z => by rw [z] at hlen; cases hlen)
    have hlen1 : (hl m1 c (h - 1)).length = d := by
      have := congrArg List.length a2
      rw [srt_len, hlen] at this
      have e : (y :: srt (hl m1 c (h - 1))).length = (srt (hl m1 c (h - 1))).length + 1 := rfl
      rw [e, srt_len] at this
      omega
    obtain ⟨m2, b1, b2', b3', b4, b5, b6, b7, b8⟩ := mt_all hc hA kk sz hsz hb3 hb2 d (j + 1) (h - 1) (t + 1) m1 N (by omega) (by omega) (by omega) (by omega) a3 a4 (by rw [a10 75 53 (by omega) (by omega) (by omega)]; exact e53) (by rw [a10 75 55 (by omega) (by omega) (by omega)]; exact e55) hlen1 (by omega)
    refine ⟨m2, ?_, by rw [b2']; congr 1; omega, by rw [b3']; congr 1; omega, fun i hi => ?_, by rw [show h - (d + 1) = h - 1 - d by omega]; exact b5, fun c' h1 h2 => by rw [show h - (d + 1) = h - 1 - d by omega, b6 c' h1 h2]; exact a8 c' h1 h2, fun i hi => ?_, fun k i k1 k2 k3 => ?_⟩
    · rw [f_M_order_L109]
      rw [hb3, if_neg (nI_ge (by omega) (by omega)), hb2, if_pos rfl, e53, e55, show 64 * nI ro + nI af = nI A by rw [l_64, pk_mul, nI_add, hA], a1, zcall, zlet, nI_1]
      rw [hb2, hb3] at b1
      exact b1
    · rcases i with _ | i
      · refine ⟨y, by rw [a2]; rfl, ?_, ?_, ?_⟩
        · rw [Nat.add_zero, b8 105 t (by omega) (by omega) (by omega)]
          exact a5
        · rw [Nat.add_zero, b8 106 t (by omega) (by omega) (by omega)]
          exact a6
        · rw [Nat.add_zero, b8 107 t (by omega) (by omega) (by omega)]
          exact a7
      · obtain ⟨z, z1, z2, z3, z4⟩ := b4 i (by omega)
        refine ⟨z, by rw [a2]; simpa using z1, ?_, ?_, ?_⟩
        · rw [show t + (i + 1) = t + 1 + i by omega]
          exact z2
        · rw [show t + (i + 1) = t + 1 + i by omega]
          exact z3
        · rw [show t + (i + 1) = t + 1 + i by omega]
          exact z4
    · obtain ⟨i1, z1, z2⟩ := b7 i (by omega)
      obtain ⟨i2, z3, z4⟩ := a9 i1 z1
      exact ⟨i2, z3, by rw [z2, z4]⟩
    · rw [b8 k i k1 k2 (by omega), a10 k i k1 k2 (by omega)]
/-- the reference counts what a step holds -/
theorem mo_cnt {m : ze_H} {c h : Nat} {b2 : Int32} (hh : h ≤ 242) (e29 : m 75 29 = nI h) (kk : Int32 → ze_H → Option (Int32 × ze_H)) : ∀ (d j N : Nat), j + d = h → d < N → f_M_order_L72 (nI c) b2 kk N (nI (hl m c j).length) (nI j) m = kk (nI (hl m c h).length) m
  | 0, j, N, hj, hN => by
    obtain ⟨N, rfl⟩ : ∃ N', N = N' + 1 := ⟨N - 1, by omega⟩
    rw [f_M_order_L72]
    rw [e29, if_pos (nI_le (by omega) (by omega)), show j = h by omega]
  | d + 1, j, N, hj, hN => by
    obtain ⟨N, rfl⟩ : ∃ N', N = N' + 1 := ⟨N - 1, by omega⟩
    have ih := mo_cnt (m := m) (c := c) (b2 := b2) hh e29 kk d (j + 1) N (by omega) (by omega)
    have e : hl m c (j + 1) = hl m c j ++ if m 100 j = nI c then [(m 102 j, m 101 j)] else [] := rfl
    rw [f_M_order_L72]
    rw [e29, if_neg (nI_ge (by omega) (by omega)), zi_nI (by omega) (by omega), nI_clamp (by omega), zlet, zlet, zlet, zlet, nI_1, nI_1]
    by_cases q : m 100 j = nI c
    · rw [if_pos q]
      rw [e, if_pos q, List.length_append] at ih
      exact ih
    · rw [if_neg q, show nI (hl m c j).length + 0 = nI (hl m c j).length from nI_add _ 0]
      rw [e, if_neg q, List.append_nil] at ih
      exact ih
