/-! CELLS: fields, rows, calls -/
/-- slot k of the object at place p, if it is of class ci -/
def gf (ci k p : Nat) : Option (Option Nat) := if (shO p).1 = 1 ∧ (shO p).2.1 = ci then (shO p).2.2[k]? else none
theorem gf_ok {ci k p : Nat} {x : Option Nat} (h : gf ci k p = some x) : ∃ sl, shO p = (1, ci, sl) ∧ sl[k]? = some x := by
  unfold gf at h
  split at h
  · rename_i q
    exact ⟨(shO p).2.2, by rw [← q.1, ← q.2], h⟩
  · cases h
/-- how long the row of ints at p is -/
def al (p : Nat) : Nat := if (shO p).1 = 0 then (shO p).2.1 else 0
theorem al_ok {p : Nat} (h : 0 < al p) : ∃ o, shO p = (0, al p, o) := by
  unfold al at h ⊢
  split at h
  · rename_i q
    rw [if_pos q]
    exact ⟨(shO p).2.2, by rw [← q]⟩
  · omega
/-- a row of references: its first place, its length -/
def ra (p : Nat) : Option (Nat × Nat) := if p = 35 then some (36, 7) else if p = 51 then some (52, 4) else if p = 68 then some (100, 7) else none
/-- how a field may be written: 0 an int, 1 a boolean, 2 not -/
def pft (ci k : Nat) : Nat := if (fTk ci k).2.2.2 = true then 2 else if (fTk ci k).2.2.1 = "I" then 0 else if (fTk ci k).2.2.1 = "Z" then 1 else 2
/-- the class of the object at p (7: a String) -/
def pcl (p : Nat) : Nat := if (shO p).1 = 1 then (shO p).2.1 else if 100 ≤ p ∧ p < 113 then 7 else 99
def tyC (ci : Nat) : Nat → FieldType := if ci = 0 then tyX0 else if ci = 1 then tyX2 else if ci = 2 then tyX3 else if ci = 3 then tyX4 else if ci = 4 then tyX5 else if ci = 5 then tyX6 else tyX7
theorem cl_ok {ci : Nat} (h : ci < 7) : ∃ C T N, vwCl[ci]? = some (C, T, N) ∧ (∀ k, k < N → parseFieldDescriptor (T k).2.2.1 = some (tyC ci k)) ∧ (∀ a, a < N → ∀ b, b < N → a ≠ b → (T a).2.1 ≠ (T b).2.1) ∧ (∀ w ∈ u_ws C T N, w ∈ gT) ∧ (∀ k, fTk ci k = T k) ∧ (vwCl.getD ci (RX0, TX0, 0)).2.2 = N ∧ (vwCl.getD ci ("java/lang/String", TX0, 0)).1 = C := by
  match ci, h with
  | 0, _ => exact ⟨RX0, TX0, 10, rfl, tyX0_ok, nmX0, by decide +kernel, fun _ => rfl, rfl, rfl⟩
  | 1, _ => exact ⟨RX2, TX2, 4, rfl, tyX2_ok, nmX2, by decide +kernel, fun _ => rfl, rfl, rfl⟩
  | 2, _ => exact ⟨RX3, TX3, 10, rfl, tyX3_ok, nmX3, by decide +kernel, fun _ => rfl, rfl, rfl⟩
  | 3, _ => exact ⟨RX4, TX4, 3, rfl, tyX4_ok, nmX4, by decide +kernel, fun _ => rfl, rfl, rfl⟩
  | 4, _ => exact ⟨RX5, TX5, 5, rfl, tyX5_ok, nmX5, by decide +kernel, fun _ => rfl, rfl, rfl⟩
  | 5, _ => exact ⟨RX6, TX6, 10, rfl, tyX6_ok, nmX6, by decide +kernel, fun _ => rfl, rfl, rfl⟩
  | 6, _ => exact ⟨RX7, TX7, 26, rfl, tyX7_ok, nmX7, by decide +kernel, fun _ => rfl, rfl, rfl⟩
section Rules
variable {mi : MI} {d : Nat} {post : Value → Mem → Prop} {pc : Nat} {L st : List Value} {M : Mem}
def fvO (σ : Nat → Nat) (M : Mem) (p k : Nat) (x : Option Nat) : Value := match x with
  | some q => .ref (σ q)
  | none => .int (M p k)
theorem fld_at {σ : Nat → Nat} {M : Mem} {p k : Nat} {sl : List (Option Nat)} {x : Option Nat} (h : sl[k]? = some x) : ((List.range sl.length).map (fldV σ M p sl))[k]? = some (fvO σ M p k x) := by
  have hk : k < sl.length := (List.getElem?_eq_some_iff.mp h).1
  rw [List.getElem?_map, List.getElem?_range hk, Option.map_some]
  have e : sl.getD k none = x := by rw [List.getD, h]; rfl
  unfold fldV
  rw [e]
  cases x <;> rfl
theorem r_getfield {i ci k p : Nat} {x : Option Nat} (hd : decode mi.2.2.1 pc = .ok (.getfield i, 3)) (hf : fres mi.1 i = some (ci, k)) (hg : gf ci k p = some x) (kk : WP mi d post (pc + 3) L ((match x with | some q => .ref q | none => .int (M p k)) :: st) M) : WP mi d post pc L (.ref p :: st) M := by
  intro l D tc σ P e s m args below meth c H locs ls C hL hP hS hl
  obtain ⟨hw, h7, hkN⟩ := fres_ok hf
  obtain ⟨Cn, T, N, c1, -, -, c4, c5, c6, -⟩ := cl_ok h7
  obtain ⟨sl, hs, hx⟩ := gf_ok hg
  have hp := place_lt hs (by simp)
  have hlink := C.2.2.2.2.2.2.1 _ hw
  unfold fWord at hlink
  rw [c5] at hlink
  dsimp only at hlink hkN
  rw [c6] at hkN
  have kk := kk l D tc σ P e s m args below meth c H locs ls C hL hP hS hl
  refine va_get (D := D) (ci := ci) (C := Cn) (T := T) (N := N) C.2.1 C.2.2.1 C.2.2.2.2.2.2.1 c4 C.2.2.2.2.2.1 C.2.2.2.2.2.2.2.2.1 hP p ((ws_get hp).trans (by rw [cel_O hs])) c1 k hkN hlink (fun _ h => h) (fld_at hx) hd ?_
  cases x <;> exact kk
theorem r_putfield {i ci k p : Nat} {v : Int32} (hd : decode mi.2.2.1 pc = .ok (.putfield i, 3)) (hf : fres mi.1 i = some (ci, k)) (hg : gf ci k p = some none) (hq : pft ci k = 0 ∨ (pft ci k = 1 ∧ (v = 0 ∨ v = 1))) (kk : WP mi d post (pc + 3) L st (mset M p k v)) : WP mi d post pc L (.int v :: .ref p :: st) M := by
  intro l D tc σ P e s m args below meth c H locs ls C hL hP hS hl
  obtain ⟨hw, h7, hkN⟩ := fres_ok hf
  obtain ⟨Cn, T, N, c1, c2, c3, c4, c5, c6, -⟩ := cl_ok h7
  obtain ⟨sl, hs, hx⟩ := gf_ok hg
  have hp := place_lt hs (by simp)
  have hlink := C.2.2.2.2.2.2.1 _ hw
  unfold fWord at hlink
  rw [c5] at hlink
  dsimp only at hlink hkN
  rw [c6] at hkN
  have hfin : (T k).2.2.2 = false := by
    rw [← c5]
    cases hz : (fTk ci k).2.2.2 with
    | false => rfl
    | true =>
      unfold pft at hq
      rw [hz] at hq
      simp at hq
  obtain ⟨ty, e1, e2, e3⟩ : ∃ ty, parseFieldDescriptor (T k).2.2.1 = some ty ∧ narrow ty (.int v) = .int v ∧ fits ty (.int v) = true := by
    unfold pft at hq
    rw [c5, hfin] at hq
    by_cases z1 : (T k).2.2.1 = "I"
    · exact ⟨.int, by rw [z1]; decide +kernel, rfl, rfl⟩
    · by_cases z2 : (T k).2.2.1 = "Z"
      · simp [z1, z2] at hq
        refine ⟨.boolean, by rw [z2]; decide +kernel, ?_, ?_⟩
        · rcases hq with rfl | rfl <;> rfl
        · rcases hq with rfl | rfl <;> rfl
      · simp [z1, z2] at hq
  refine va_put (D := D) (ci := ci) (C := Cn) (T := T) (N := N) C.2.1 C.2.2.1 C.2.2.2.2.2.2.1 c4 (tyC ci) c2 c3 C.2.2.2.2.2.1 C.2.2.2.2.2.2.2.2.1 hP (ws_D C.1) hS p ((ws_get hp).trans (by rw [cel_O hs])) c1 k hkN hlink (fun _ h => h) hfin e1 e2 e3 (by rw [List.length_map, List.length_range]; exact (List.getElem?_eq_some_iff.mp hx).1) hd (fun H1 locs1 hP1 _ hS1 => ?_)
  have hP1 : va_P D vwCl ((wsM σ tc M).set p (σ p, .inr (ci, ((List.range sl.length).map (fldV σ M p sl)).set k (.int v)))) H1 := hP1
  rw [ws_setF hs hx] at hP1
  exact kk l D tc σ P e s m args below meth c H1 locs1 ls C hL hP1 hS1 hl
theorem in_of {i : Int32} {n : Nat} (h : 0 ≤ i.toInt ∧ i.toInt < n) : vp_in i n := vp_in_iff.mpr h
theorem pos_of {i : Int32} {n : Nat} (h : 0 ≤ i.toInt ∧ i.toInt < n) : 0 < n := by omega
theorem r_iaload {p : Nat} {i : Int32} (hd : decode mi.2.2.1 pc = .ok (.iaload, 1)) (hi : 0 ≤ i.toInt ∧ i.toInt < al p) (kk : WP mi d post (pc + 1) L (.int (M p i.toNatClampNeg) :: st) M) : WP mi d post pc L (.int i :: .ref p :: st) M := by
  intro l D tc σ P e s m args below meth c H locs ls C hL hP hS hl
  obtain ⟨o, hs⟩ := al_ok (pos_of hi)
  have hp := place_lt hs (by simp)
  exact va_iald C.2.1 C.2.2.1 C.2.2.2.2.2.2.2.2.1 hP p 0 ((ws_get hp).trans (by rw [cel_A hs])) rfl (in_of hi) hd (kk l D tc σ P e s m args below meth c H locs ls C hL hP hS hl)
theorem r_iastore {p : Nat} {i v : Int32} (hd : decode mi.2.2.1 pc = .ok (.iastore, 1)) (hi : 0 ≤ i.toInt ∧ i.toInt < al p) (kk : WP mi d post (pc + 1) L st (mset M p i.toNatClampNeg v)) : WP mi d post pc L (.int v :: .int i :: .ref p :: st) M := by
  intro l D tc σ P e s m args below meth c H locs ls C hL hP hS hl
  obtain ⟨o, hs⟩ := al_ok (pos_of hi)
  have hp := place_lt hs (by simp)
  refine va_iast C.2.1 C.2.2.1 C.2.2.2.2.2.2.2.2.1 hP (ws_D C.1) hS p 0 ((ws_get hp).trans (by rw [cel_A hs])) rfl (in_of hi) hd (fun H1 locs1 hP1 _ hS1 => ?_)
  rw [ws_setA hs] at hP1
  exact kk l D tc σ P e s m args below meth c H1 locs1 ls C hL hP1 hS1 hl
theorem r_ialoadK {i : Int32} (hd : decode mi.2.2.1 pc = .ok (.iaload, 1)) (hi : 0 ≤ i.toInt ∧ i.toInt < (7 : Nat)) (kk : WP mi d post (pc + 1) L (.int (kab.getD i.toNatClampNeg 0) :: st) M) : WP mi d post pc L (.int i :: .ref 90 :: st) M :=
  fun l D tc σ P e s m args below meth c H locs ls C hL hP hS hl => va_ti C.2.1 C.2.2.1 C.2.2.2.2.2.2.2.2.2.2.2.2.2.1 hS (in_of hi) rfl hd (kk l D tc σ P e s m args below meth c H locs ls C hL hP hS hl)
theorem r_alenK (hd : decode mi.2.2.1 pc = .ok (.arraylength, 1)) (kk : WP mi d post (pc + 1) L (.int 7 :: st) M) : WP mi d post pc L (.ref 90 :: st) M :=
  fun l D tc σ P e s m args below meth c H locs ls C hL hP hS hl => va_tlen C.2.1 C.2.2.1 C.2.2.2.2.2.2.2.2.2.2.2.2.2.1 hS rfl hd (kk l D tc σ P e s m args below meth c H locs ls C hL hP hS hl)
theorem r_alen {p : Nat} (hd : decode mi.2.2.1 pc = .ok (.arraylength, 1)) (ha : 0 < al p) (kk : WP mi d post (pc + 1) L (.int (Int32.ofNat (al p)) :: st) M) : WP mi d post pc L (.ref p :: st) M := by
  intro l D tc σ P e s m args below meth c H locs ls C hL hP hS hl
  obtain ⟨o, hs⟩ := al_ok ha
  have hp := place_lt hs (by simp)
  exact va_alen (x := (al p, .inl (M p))) C.2.1 C.2.2.1 C.2.2.2.2.2.2.2.2.1 hP p 0 ((ws_get hp).trans (by rw [cel_A hs])) (ty := .int) rfl rfl hd (kk l D tc σ P e s m args below meth c H locs ls C hL hP hS hl)
theorem ra_ok {p b n : Nat} (h : ra p = some (b, n)) : ∃ t sl, shO p = (2, t, sl) ∧ sl.length = n ∧ (∀ i, i < n → sl.getD i none = some (b + i)) ∧ p < NP ∧ ((t = 0 → True) ∧ t < 2) := by
  unfold ra at h
  split at h
  · rename_i q; subst q; cases h
    exact ⟨0, _, rfl, rfl, by decide +kernel, by decide, by decide⟩
  · split at h
    · rename_i q; subst q; cases h
      exact ⟨0, _, rfl, rfl, by decide +kernel, by decide, by decide⟩
    · split at h
      · rename_i q; subst q; cases h
        exact ⟨1, _, rfl, rfl, by decide +kernel, by decide, by decide⟩
      · cases h
theorem r_alenR {p b n : Nat} (hd : decode mi.2.2.1 pc = .ok (.arraylength, 1)) (ha : ra p = some (b, n)) (kk : WP mi d post (pc + 1) L (.int (Int32.ofNat n) :: st) M) : WP mi d post pc L (.ref p :: st) M := by
  intro l D tc σ P e s m args below meth c H locs ls C hL hP hS hl
  obtain ⟨t, sl, hs, hn, -, hp, -, ht⟩ := ra_ok ha
  subst hn
  have kk := kk l D tc σ P e s m args below meth c H locs ls C hL hP hS hl
  match t, ht, hs with
  | 0, _, hs => exact va_alen (x := (sl.length, .inr (.inr (.inr (.inr (fun i => (sl.getD i none).map σ)))))) C.2.1 C.2.2.1 C.2.2.2.2.2.2.2.2.1 hP p 1 ((ws_get hp).trans (by rw [cel_R hs]; rfl)) (ty := .array .int) rfl rfl hd kk
  | 1, _, hs => exact va_alen (x := (sl.length, .inr (.inr (.inr (.inr (fun i => (sl.getD i none).map σ)))))) C.2.1 C.2.2.1 C.2.2.2.2.2.2.2.2.1 hP p 2 ((ws_get hp).trans (by rw [cel_R hs]; rfl)) (ty := .object "java/lang/String") rfl rfl hd kk
theorem r_aaload {p b n : Nat} {i : Int32} (hd : decode mi.2.2.1 pc = .ok (.aaload, 1)) (ha : ra p = some (b, n)) (hi : 0 ≤ i.toInt ∧ i.toInt < n) (kk : WP mi d post (pc + 1) L (.ref (b + i.toNatClampNeg) :: st) M) : WP mi d post pc L (.int i :: .ref p :: st) M := by
  intro l D tc σ P e s m args below meth c H locs ls C hL hP hS hl
  obtain ⟨t, sl, hs, hn, hb, hp, -, ht⟩ := ra_ok ha
  have kk := kk l D tc σ P e s m args below meth c H locs ls C hL hP hS hl
  have hin := in_of hi
  have hlt : i.toNatClampNeg < n := Nat.not_le.mp fun q => hin (Or.inr q)
  have hv : va_rf (((sl.getD i.toNatClampNeg none).map σ)) = vr σ (.ref (b + i.toNatClampNeg)) := by
    rw [hb _ hlt]
    rfl
  subst hn
  match t, ht, hs with
  | 0, _, hs =>
    have hc := (ws_get (σ := σ) (tc := tc) (M := M) hp).trans (by rw [cel_R hs])
    refine W.aald (v := vr σ (.ref (b + i.toNatClampNeg))) (ty := .array .int) C.2.1 C.2.2.1 (hP p _ hc) ((C.2.2.2.2.2.2.2.2.1.2 1 (tc.2.1, .array .int) rfl).1 sl.length _) rfl (fun q => by cases q) (by show ¬ (i < 0 ∨ (arrV _ _ _).slots.size ≤ _); rw [arrV_size]; exact hin) (by show (arrV _ _ _).slots[_]? = _; rw [arrV_read _ _ hlt, ← hv]) rfl rfl hd kk
  | 1, _, hs =>
    refine va_aldq C.2.1 C.2.2.1 C.2.2.2.2.2.2.2.2.1 hP p 2 ((ws_get hp).trans (by rw [cel_R hs]; rfl)) (C := "java/lang/String") rfl hin hd ?_
    rw [hv]
    exact kk
theorem r_getstatic (hd : decode mi.2.2.1 pc = .ok (.getstatic gsI.2, 3)) (hc : mi.1 = gsI.1) (kk : WP mi d post (pc + 3) L (.ref 90 :: st) M) : WP mi d post pc L st M := by
  intro l D tc σ P e s m args below meth c H locs ls C hL hP hS hl
  have hown := C.2.2.2.2.2.1
  rw [hc] at hown
  exact va_getsN C.2.1 C.2.2.1 C.2.2.2.2.2.2.2.2.2.2.2.2.1 hS hown (va_Nw.use rfl C.2.2.2.2.2.2.2.2.2.2.2.2.2.2.2.1) (fun _ h => h) hd (kk l D tc σ P e s m args below meth c H locs ls C hL hP hS hl)
end Rules
