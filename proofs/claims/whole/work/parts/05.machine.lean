/-! THE ABSTRACT MACHINE: places for cells, one memory of ints, ops by 'decode' -/
abbrev Mem : Type := Nat → Nat → Int32
def mrow (M : Mem) (p : Nat) (f : Nat → Int32) : Mem := fun q => if q = p then f else M q
def mset (M : Mem) (p i : Nat) (v : Int32) : Mem := mrow M p (upd (M p) i v)
/-- shapes of the places: (0, n, []) a row of n ints; (1, class, slots) an object (a slot: an int, or the place of what it holds); (2, t, places) a row of references -/
def shp : List (Nat × Nat × List (Option Nat)) := [
  (1, 5, [some 1, some 8, some 15, some 22, some 24, some 25, some 44, some 50, some 58, none]),
  (1, 0, [some 2, some 3, some 4, some 5, some 6, some 7, none, none, none, none]), (0, 12, []), (0, 6, []), (0, 6, []), (0, 6, []), (0, 6, []), (0, 10, []),
  (1, 0, [some 9, some 10, some 11, some 12, some 13, some 14, none, none, none, none]), (0, 12, []), (0, 6, []), (0, 6, []), (0, 6, []), (0, 6, []), (0, 10, []),
  (1, 0, [some 16, some 17, some 18, some 19, some 20, some 21, none, none, none, none]), (0, 12, []), (0, 6, []), (0, 6, []), (0, 6, []), (0, 6, []), (0, 10, []),
  (1, 4, [some 23, none, none, none, none]), (0, 12, []),
  (0, 12, []),
  (1, 1, [some 26, some 33, some 35, some 43]),
  (1, 0, [some 27, some 28, some 29, some 30, some 31, some 32, none, none, none, none]), (0, 12, []), (0, 6, []), (0, 6, []), (0, 6, []), (0, 6, []), (0, 10, []),
  (1, 4, [some 34, none, none, none, none]), (0, 12, []),
  (2, 0, [some 36, some 37, some 38, some 39, some 40, some 41, some 42]), (0, 12, []), (0, 12, []), (0, 12, []), (0, 12, []), (0, 12, []), (0, 12, []), (0, 12, []),
  (0, 6, []),
  (1, 2, [some 45, none, some 46, some 47, some 48, some 49, none, none, none, none]), (0, 120, []), (0, 121, []), (0, 121, []), (0, 121, []), (0, 121, []),
  (1, 3, [some 51, some 56, some 57]), (2, 0, [some 52, some 53, some 54, some 55]), (0, 40, []), (0, 40, []), (0, 40, []), (0, 40, []), (0, 4, []), (0, 4, []),
  (0, 7, []),
  (1, 6, [some 60, some 61, some 62, none, some 63, some 64, some 65, some 66, none, none, none, some 67, none, none, none, none, none, none, some 68, some 69, none, none, some 70, some 71, some 72, some 73]), (0, 50, []), (0, 50, []), (0, 50, []), (0, 8, []), (0, 350, []), (0, 6, []), (0, 6, []), (0, 120, []), (2, 1, [some 100, some 101, some 102, some 103, some 104, some 105, some 106]), (0, 360, []), (0, 4, []), (0, 4, []), (0, 160, []), (0, 40, [])]
def shO (p : Nat) : Nat × Nat × List (Option Nat) := shp.getD p (9, 0, [])
def NP : Nat := 74
def fldV (σ : Nat → Nat) (M : Mem) (p : Nat) (sl : List (Option Nat)) (k : Nat) : Value := match sl.getD k none with
  | some q => .ref (σ q)
  | none => .int (M p k)
def cel (σ : Nat → Nat) (tc : Nat × Nat × Nat) (M : Mem) (p : Nat) : va_E :=
  if (shO p).1 = 0 then .inl (tc.1, (shO p).2.1, .inl (M p))
  else if (shO p).1 = 1 then .inr ((shO p).2.1, (List.range (shO p).2.2.length).map (fldV σ M p (shO p).2.2))
  else .inl (if (shO p).2.1 = 0 then tc.2.1 else tc.2.2, (shO p).2.2.length, .inr (.inr (.inr (.inr (fun i => ((shO p).2.2.getD i none).map σ)))))
def wsM (σ : Nat → Nat) (tc : Nat × Nat × Nat) (M : Mem) : va_W := (List.range NP).map (fun p => (σ p, cel σ tc M p))
def tysM (tc : Nat × Nat × Nat) : List (ClassId × FieldType) := [(tc.1, .int), (tc.2.1, .array .int), (tc.2.2, .object "java/lang/String")]
/-- the cells of the places -/
def Am (σ : Nat → Nat) : Nat → Prop := fun q => ∃ p, p < NP ∧ q = σ p
def InjM (σ : Nat → Nat) : Prop := ∀ p q, p < NP → q < NP → σ p = σ q → p = q
def vr (σ : Nat → Nat) : Value → Value
  | .ref q => .ref (σ q)
  | v => v
theorem vr_cat (σ : Nat → Nat) (v : Value) : (vr σ v).category = v.category := by cases v <;> rfl
theorem ws_len (σ : Nat → Nat) (tc : Nat × Nat × Nat) (M : Mem) : (wsM σ tc M).length = NP := by simp [wsM]
theorem ws_get {σ : Nat → Nat} {tc : Nat × Nat × Nat} {M : Mem} {p : Nat} (h : p < NP) : (wsM σ tc M)[p]? = some (σ p, cel σ tc M p) := by
  simp [wsM, h]
theorem ws_inv {σ : Nat → Nat} {tc : Nat × Nat × Nat} {M : Mem} {k : Nat} {q : Nat × va_E} (h : (wsM σ tc M)[k]? = some q) : k < NP ∧ q = (σ k, cel σ tc M k) := by
  have hk : k < NP := by
    have := (List.getElem?_eq_some_iff.mp h).1
    rwa [ws_len] at this
  rw [ws_get hk] at h
  exact ⟨hk, (Option.some.inj h).symm⟩
theorem ws_D {σ : Nat → Nat} {tc : Nat × Nat × Nat} {M : Mem} (h : InjM σ) : va_D (Am σ) (wsM σ tc M) := by
  refine ⟨fun i j x y hi hj hxy => ?_, fun k q hk => ?_⟩
  · obtain ⟨h1, rfl⟩ := ws_inv hi
    obtain ⟨h2, rfl⟩ := ws_inv hj
    exact h i j h1 h2 hxy
  · obtain ⟨h1, rfl⟩ := ws_inv hk
    exact ⟨k, h1, rfl⟩
theorem cel_ne {σ : Nat → Nat} {tc : Nat × Nat × Nat} {M : Mem} {p q : Nat} {f : Nat → Int32} (h : q ≠ p) : cel σ tc (mrow M p f) q = cel σ tc M q := by
  have e : mrow M p f q = M q := if_neg h
  have e2 : fldV σ (mrow M p f) q (shO q).2.2 = fldV σ M q (shO q).2.2 := by
    funext k
    unfold fldV
    rw [e]
  unfold cel
  rw [e, e2]
theorem ws_set {σ : Nat → Nat} {tc : Nat × Nat × Nat} {M : Mem} {p : Nat} {f : Nat → Int32} {x : va_E} (hx : cel σ tc (mrow M p f) p = x) : (wsM σ tc M).set p (σ p, x) = wsM σ tc (mrow M p f) := by
  apply List.ext_getElem?
  intro k
  by_cases hk : k < NP
  · rw [ws_get hk, List.getElem?_set]
    by_cases hp : p = k
    · subst hp
      simp [ws_len, hk, hx]
    · rw [if_neg hp, ws_get hk, cel_ne (fun q => hp q.symm)]
  · rw [List.getElem?_eq_none (by rw [List.length_set, ws_len]; omega), List.getElem?_eq_none (by rw [ws_len]; omega)]
theorem ws_setA {σ : Nat → Nat} {tc : Nat × Nat × Nat} {M : Mem} {p n : Nat} {f : Nat → Int32} {o : List (Option Nat)} (hs : shO p = (0, n, o)) : (wsM σ tc M).set p (σ p, .inl (tc.1, n, .inl f)) = wsM σ tc (mrow M p f) := by
  refine ws_set ?_
  unfold cel
  rw [hs]
  show Sum.inl (tc.1, n, Sum.inl (mrow M p f p)) = _
  rw [show mrow M p f p = f from if_pos rfl]
theorem cel_A {σ : Nat → Nat} {tc : Nat × Nat × Nat} {M : Mem} {p n : Nat} {o : List (Option Nat)} (hs : shO p = (0, n, o)) : cel σ tc M p = .inl (tc.1, n, .inl (M p)) := by
  unfold cel; rw [hs]; rfl
theorem cel_O {σ : Nat → Nat} {tc : Nat × Nat × Nat} {M : Mem} {p ci : Nat} {sl : List (Option Nat)} (hs : shO p = (1, ci, sl)) : cel σ tc M p = .inr (ci, (List.range sl.length).map (fldV σ M p sl)) := by
  unfold cel; rw [hs]; rfl
theorem cel_R {σ : Nat → Nat} {tc : Nat × Nat × Nat} {M : Mem} {p t : Nat} {sl : List (Option Nat)} (hs : shO p = (2, t, sl)) : cel σ tc M p = .inl (if t = 0 then tc.2.1 else tc.2.2, sl.length, .inr (.inr (.inr (.inr (fun i => (sl.getD i none).map σ))))) := by
  unfold cel; rw [hs]; rfl
theorem ws_setF {σ : Nat → Nat} {tc : Nat × Nat × Nat} {M : Mem} {p ci k : Nat} {sl : List (Option Nat)} {v : Int32} (hs : shO p = (1, ci, sl)) (hk : sl[k]? = some none) : (wsM σ tc M).set p (σ p, .inr (ci, ((List.range sl.length).map (fldV σ M p sl)).set k (.int v))) = wsM σ tc (mset M p k v) := by
  refine ws_set ?_
  rw [cel_O hs]
  congr 2
  apply List.ext_getElem?
  intro j
  have hkl : k < sl.length := (List.getElem?_eq_some_iff.mp hk).1
  rw [List.getElem?_set]
  by_cases hj : j < sl.length
  · by_cases e : k = j
    · subst e
      have e0 : sl[k] = none := (List.getElem?_eq_some_iff.mp hk).2
      simp [hj, fldV, hk, mrow, upd, e0]
    · rw [if_neg e]
      simp only [List.getElem?_map, List.getElem?_range hj, Option.map_some]
      congr 1
      unfold fldV
      have : mrow M p (upd (M p) k v) p j = M p j := by simp [mrow, upd, Ne.symm e]
      rw [this]
  · rw [List.getElem?_eq_none (by simp; omega)]
    by_cases e : k = j
    · omega
    · rw [if_neg e, List.getElem?_eq_none (by simp; omega)]
theorem place_lt {p : Nat} {x : Nat × Nat × List (Option Nat)} (h : shO p = x) (hx : x.1 ≠ 9) : p < NP := by
  rcases Nat.lt_or_ge p NP with q | q
  · exact q
  · exfalso
    apply hx
    rw [← h]
    show (shp.getD p (9, 0, [])).1 = 9
    have : shp.length ≤ p := by
      have e : shp.length = NP := by decide +kernel
      omega
    simp [List.getD, List.getElem?_eq_none this]
/-! LOCALS: a list by place; what isn't known is a retAddr -/
def isU : Value → Bool
  | .retAddr _ => true
  | _ => false
def prs (σ : Nat → Nat) (L : List Value) : List (Nat × Value) := (List.range L.length).filterMap (fun i => match L[i]? with
  | some v => if isU v then none else some (i, vr σ v)
  | none => none)
theorem prs_mem {σ : Nat → Nat} {L : List Value} {q : Nat × Value} : q ∈ prs σ L ↔ ∃ v, L[q.1]? = some v ∧ isU v = false ∧ q.2 = vr σ v := by
  unfold prs
  rw [List.mem_filterMap]
  constructor
  · rintro ⟨i, -, hi⟩
    cases hl : L[i]? with
    | none => rw [hl] at hi; cases hi
    | some v =>
      rw [hl] at hi
      dsimp only at hi
      cases hu : isU v with
      | true => rw [hu] at hi; cases hi
      | false =>
        rw [hu] at hi
        cases hi
        exact ⟨v, hl, hu, rfl⟩
  · rintro ⟨v, hl, hu, hq⟩
    refine ⟨q.1, List.mem_range.mpr (List.getElem?_eq_some_iff.mp hl).1, ?_⟩
    rw [hl]
    dsimp only
    rw [hu, ← hq]
    rfl
theorem prs_at {σ : Nat → Nat} {ls : Array Slot} {nL : Nat} {L : List Value} {i : Nat} {v : Value} (h : lv_has ls nL (prs σ L)) (hv : L[i]? = some v) (hu : isU v = false) : ls[i]? = some (.val (vr σ v)) := h.2.2 (i, vr σ v) (prs_mem.mpr ⟨v, hv, hu, rfl⟩)
/-- nothing of two slots stands just ahead of place i -/
def lok (L : List Value) : Nat → Bool
  | 0 => true
  | i + 1 => match L[i]? with
    | some v => v.category == 1
    | none => true
theorem prs_set1 {σ : Nat → Nat} {ls : Array Slot} {nL i : Nat} {L : List Value} {v : Value} (h : lv_has ls nL ((i, vr σ v) :: (prs σ L).filter (fun q => !(q.1 == i) && !(q.1 + 1 == i && q.2.category == 2)))) (hk : lok L i = true) : lv_has ls nL (prs σ (L.set i v)) := by
  refine ⟨h.1, h.2.1, fun q hq => h.2.2 q ?_⟩
  obtain ⟨w, h1, h2, h3⟩ := prs_mem.mp hq
  rw [List.getElem?_set] at h1
  by_cases e : i = q.1
  · rw [if_pos e] at h1
    split at h1
    · cases h1
      refine List.mem_cons.mpr (Or.inl ?_)
      rw [e, ← h3]
    · cases h1
  · rw [if_neg e] at h1
    refine List.mem_cons_of_mem _ (List.mem_filter.mpr ⟨prs_mem.mpr ⟨w, h1, h2, h3⟩, ?_⟩)
    simp only [Bool.and_eq_true, Bool.not_eq_true', beq_eq_false_iff_ne, ne_eq, Bool.and_eq_false_iff]
    refine ⟨fun q => e q.symm, ?_⟩
    by_cases e2 : q.1 + 1 = i
    · right
      subst e2
      have hk : (match L[q.1]? with | some v => v.category == 1 | none => true) = true := hk
      rw [h1] at hk
      rw [h3, vr_cat]
      have : w.category = 1 := by simpa using hk
      omega
    · left
      exact e2
theorem prs_set2 {σ : Nat → Nat} {ls : Array Slot} {nL i : Nat} {L : List Value} {v : Value} (h : lv_has ls nL ((i, vr σ v) :: (prs σ L).filter (fun q => !(q.1 == i) && (!(q.1 == i + 1) && !(q.1 + 1 == i && q.2.category == 2))))) (hk : lok L i = true) : lv_has ls nL (prs σ ((L.set i v).set (i + 1) (.retAddr 0))) := by
  refine ⟨h.1, h.2.1, fun q hq => h.2.2 q ?_⟩
  obtain ⟨w, h1, h2, h3⟩ := prs_mem.mp hq
  rw [List.getElem?_set] at h1
  by_cases e0 : i + 1 = q.1
  · rw [if_pos e0] at h1
    split at h1
    · cases h1
      cases h2
    · cases h1
  rw [if_neg e0, List.getElem?_set] at h1
  by_cases e : i = q.1
  · rw [if_pos e] at h1
    split at h1
    · cases h1
      refine List.mem_cons.mpr (Or.inl ?_)
      rw [e, ← h3]
    · cases h1
  · rw [if_neg e] at h1
    refine List.mem_cons_of_mem _ (List.mem_filter.mpr ⟨prs_mem.mpr ⟨w, h1, h2, h3⟩, ?_⟩)
    simp only [Bool.and_eq_true, Bool.not_eq_true', beq_eq_false_iff_ne, ne_eq, Bool.and_eq_false_iff]
    refine ⟨fun q => e q.symm, fun q => e0 q.symm, ?_⟩
    by_cases e2 : q.1 + 1 = i
    · right
      subst e2
      have hk : (match L[q.1]? with | some v => v.category == 1 | none => true) = true := hk
      rw [h1] at hk
      rw [h3, vr_cat]
      have : w.category = 1 := by simpa using hk
      omega
    · left
      exact e2
