/-! STRINGS: what is only read of them -/
theorem sw_in {w : Cond} {i : Nat} (h : lw_tbl[i]? = some w) (hg : goodWord w = true) : w ∈ gT := List.mem_filter.mpr ⟨List.mem_of_getElem? h, hg⟩
theorem sw_value : Cond.fieldLink (clsN 10) 9 "java/lang/String" "value" "[B" ∈ gT := sw_in (i := 1366) (by decide +kernel) (by decide +kernel)
theorem sw_coder : Cond.fieldLink (clsN 10) 15 "java/lang/String" "coder" "B" ∈ gT := sw_in (i := 1367) (by decide +kernel) (by decide +kernel)
theorem sw_comp : Cond.fieldLink (clsN 10) 38 "java/lang/String" "COMPACT_STRINGS" "Z" ∈ gT := sw_in (i := 683) (by decide +kernel) (by decide +kernel)
theorem sw_fmt : Cond.fieldLink (clsN 10) 1053 "jdk/internal/util/Preconditions" "SIOOBE_FORMATTER" "Ljava/util/function/BiFunction;" ∈ gT := sw_in (i := 699) (by decide +kernel) (by decide +kernel)
def sbl (j : Nat) : Nat := (sBy.getD j []).length
def sbt (j i : Nat) : Int32 := (sBy.getD j []).getD i 0
section Rules
variable {mi : MI} {d : Nat} {post : Value → Mem → Prop} {pc : Nat} {L st : List Value} {M : Mem}
theorem r_sval {j : Nat} (hj : j < 13) (hc : mi.1 = 10) (hd : decode mi.2.2.1 pc = .ok (.getfield 9, 3)) (kk : WP mi d post (pc + 3) L (.ref (120 + j) :: st) M) : WP mi d post pc L (.ref (100 + j) :: st) M := by
  intro l D tc σ P e s m args below meth c H locs ls C hL hP hS hl
  have hown := C.2.2.2.2.2.1
  rw [hc] at hown
  exact vk_getf C.2.1 C.2.2.1 (C.2.2.2.2.2.2.2.2.2.1 j hj).2.2.1 hS hown (C.2.2.2.2.2.2.1 _ sw_value) (fun _ h => h) hd (kk l D tc σ P e s m args below meth c H locs ls C hL hP hS hl)
theorem r_scod {j : Nat} (hj : j < 13) (hc : mi.1 = 10) (hd : decode mi.2.2.1 pc = .ok (.getfield 15, 3)) (kk : WP mi d post (pc + 3) L (.int 0 :: st) M) : WP mi d post pc L (.ref (100 + j) :: st) M := by
  intro l D tc σ P e s m args below meth c H locs ls C hL hP hS hl
  have hown := C.2.2.2.2.2.1
  rw [hc] at hown
  exact vk_getf C.2.1 C.2.2.1 (C.2.2.2.2.2.2.2.2.2.1 j hj).2.1 hS hown (C.2.2.2.2.2.2.1 _ sw_coder) (fun _ h => h) hd (kk l D tc σ P e s m args below meth c H locs ls C hL hP hS hl)
theorem r_scomp (hc : mi.1 = 10) (hd : decode mi.2.2.1 pc = .ok (.getstatic 38, 3)) (kk : WP mi d post (pc + 3) L (.int 1 :: st) M) : WP mi d post pc L st M := by
  intro l D tc σ P e s m args below meth c H locs ls C hL hP hS hl
  have hown := C.2.2.2.2.2.1
  rw [hc] at hown
  exact va_gets C.2.1 C.2.2.1 C.2.2.2.2.2.2.2.2.2.2.1 hS hown (C.2.2.2.2.2.2.1 _ sw_comp) (fun _ h => h) hd (kk l D tc σ P e s m args below meth c H locs ls C hL hP hS hl)
theorem r_blen {j : Nat} (hj : j < 13) (hd : decode mi.2.2.1 pc = .ok (.arraylength, 1)) (kk : WP mi d post (pc + 1) L (.int (Int32.ofNat (sbl j)) :: st) M) : WP mi d post pc L (.ref (120 + j) :: st) M :=
  fun l D tc σ P e s m args below meth c H locs ls C hL hP hS hl => va_tlen C.2.1 C.2.2.1 (C.2.2.2.2.2.2.2.2.2.1 j hj).2.2.2 hS rfl hd (kk l D tc σ P e s m args below meth c H locs ls C hL hP hS hl)
theorem r_baload {j : Nat} {i : Int32} (hj : j < 13) (hd : decode mi.2.2.1 pc = .ok (.baload, 1)) (hi : 0 ≤ i.toInt ∧ i.toInt < sbl j) (kk : WP mi d post (pc + 1) L (.int (sbt j i.toNatClampNeg) :: st) M) : WP mi d post pc L (.int i :: .ref (120 + j) :: st) M :=
  fun l D tc σ P e s m args below meth c H locs ls C hL hP hS hl => va_tb C.2.1 C.2.2.1 (C.2.2.2.2.2.2.2.2.2.1 j hj).2.2.2 hS (in_of hi) rfl hd (kk l D tc σ P e s m args below meth c H locs ls C hL hP hS hl)
end Rules
/-! the formatter's place: 95 -/
def sgq (σ : Nat → Nat) (t : Nat) : Nat → Nat := fun q => if q = 95 then t else σ q
theorem sgq_n {σ : Nat → Nat} {t q : Nat} (h : q ≠ 95) : sgq σ t q = σ q := if_neg h
theorem shp_95 : ∀ p, p < NP → ∀ x ∈ (shO p).2.2, x ≠ some 95 := by decide +kernel
theorem sgq_cel {σ : Nat → Nat} {t : Nat} {tc : Nat × Nat × Nat} {M : Mem} {p : Nat} (h : p < NP) : cel (sgq σ t) tc M p = cel σ tc M p := by
  have hg : ∀ k, ((shO p).2.2.getD k none).map (sgq σ t) = ((shO p).2.2.getD k none).map σ := by
    intro k
    cases hk : (shO p).2.2[k]? with
    | none => rw [List.getD, hk]; rfl
    | some x =>
      rw [List.getD, hk]
      have hx := shp_95 p h x (List.mem_of_getElem? hk)
      cases x with
      | none => rfl
      | some q =>
        show some (sgq σ t q) = some (σ q)
        rw [sgq_n (fun e => hx (by rw [e]))]
  have hf : fldV (sgq σ t) M p (shO p).2.2 = fldV σ M p (shO p).2.2 := by
    funext k
    have := hg k
    unfold fldV
    cases hk : (shO p).2.2.getD k none with
    | none => rfl
    | some q =>
      rw [hk] at this
      show Value.ref (sgq σ t q) = Value.ref (σ q)
      rw [Option.some.inj this]
  unfold cel
  rw [hf]
  have h2 : (fun i => ((shO p).2.2.getD i none).map (sgq σ t)) = (fun i => ((shO p).2.2.getD i none).map σ) := funext hg
  rw [h2]
theorem sgq_ws {σ : Nat → Nat} {t : Nat} {tc : Nat × Nat × Nat} {M : Mem} : wsM (sgq σ t) tc M = wsM σ tc M := by
  unfold wsM
  apply List.map_congr_left
  intro p hp
  have hp := List.mem_range.mp hp
  rw [sgq_cel hp, sgq_n (by
    have : NP = 74 := rfl
    omega)]
theorem sgq_Am {σ : Nat → Nat} {t : Nat} : Am (sgq σ t) = Am σ := by
  funext q
  apply propext
  have : NP = 74 := rfl
  constructor
  · rintro ⟨p, hp, e⟩
    exact ⟨p, hp, by rw [e, sgq_n (by omega)]⟩
  · rintro ⟨p, hp, e⟩
    exact ⟨p, hp, by rw [e, sgq_n (by omega)]⟩
theorem sgq_RO {σ : Nat → Nat} {t : Nat} {U : State} {H : Heap} (h : RO σ U H) : RO (sgq σ t) U H := by
  obtain ⟨h1, h2, h3, h4, h5, hn, hg, h6⟩ := h
  unfold RO
  rw [sgq_Am, sgq_n (q := 90) (by decide)]
  refine ⟨fun j hj => ?_, h2, h3, h4, h5, hn, hg, fun c i j e => ?_⟩
  · rw [sgq_n (by omega), sgq_n (by omega)]
    exact h1 j hj
  · rw [sgq_n (by omega)]
    exact h6 c i j e
theorem sgq_retQ {σ : Nat → Nat} {t : Nat} {D : va_G} {tc : Nat × Nat × Nat} {ret : Option FieldType} {post : Value → Mem → Prop} : retQ D tc (sgq σ t) ret post = retQ D tc σ ret post := by
  have h : (fun (M : Mem) (u : State) => va_P D vwCl (wsM (sgq σ t) tc M) u.heap) = (fun (M : Mem) (u : State) => va_P D vwCl (wsM σ tc M) u.heap) := by
    funext M u
    rw [sgq_ws]
  unfold retQ
  rw [h, sgq_Am]
theorem r_fmt {mi : MI} {d : Nat} {post : Value → Mem → Prop} {pc : Nat} {i n a b : Int32} {M : Mem} (hc : mi.1 = 10) (hd : decode mi.2.2.1 pc = .ok (.getstatic 1053, 3)) (k0 : WP mi d post (pc + 3) [.int i, .int n] [.null, .int a, .int b] M) (k1 : WP mi d post (pc + 3) [.int i, .int n] [.ref 95, .int a, .int b] M) : WP mi d post pc [.int i, .int n] [.int a, .int b] M := by
  intro l D tc σ P e s m args below meth c H locs ls C hL hP hS hl
  have hown := C.2.2.2.2.2.1
  rw [hc] at hown
  rcases C.2.2.2.2.2.2.2.2.2.2.2.1 with hz | ⟨t, hz⟩
  · exact va_gets C.2.1 C.2.2.1 hz hS hown (C.2.2.2.2.2.2.1 _ sw_fmt) (fun _ h => h) hd (k0 l D tc σ P e s m args below meth c H locs ls C hL hP hS hl)
  · refine va_gets C.2.1 C.2.2.1 hz hS hown (C.2.2.2.2.2.2.1 _ sw_fmt) (fun _ h => h) hd ?_
    have hq := k1 l D tc (sgq σ t) P e s m args below meth c H locs ls ⟨?_, C.2.1, C.2.2.1, C.2.2.2.1, C.2.2.2.2.1, C.2.2.2.2.2.1, C.2.2.2.2.2.2.1, C.2.2.2.2.2.2.2.1, C.2.2.2.2.2.2.2.2.1, sgq_RO C.2.2.2.2.2.2.2.2.2⟩ hL (by rw [sgq_ws]; exact hP) (by rw [sgq_Am]; exact hS) hl
    · rw [sgq_retQ, sgq_Am] at hq
      have e95 : sgq σ t 95 = t := if_pos rfl
      have hv : ([.ref 95, .int a, .int b] : List Value).map (vr (sgq σ t)) = .ref t :: ([.int a, .int b] : List Value).map (vr σ) := by
        show [Value.ref (sgq σ t 95), .int a, .int b] = _
        rw [e95]
        rfl
      rw [hv] at hq
      exact hq
    · intro p q hp hq
      have : NP = 74 := rfl
      rw [sgq_n (by omega), sgq_n (by omega)]
      exact C.1 p q hp hq
