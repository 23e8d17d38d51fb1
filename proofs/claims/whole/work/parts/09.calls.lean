/-! CALLS -/
section Rules
variable {mi : MI} {d : Nat} {post : Value → Mem → Prop} {pc : Nat} {L st : List Value} {M : Mem}
theorem sum_cat (σ : Nat → Nat) : ∀ rest : List Value, ((rest.map (vr σ)).map fun v => v.category).sum ≤ 2 * rest.length := by
  intro rest
  induction rest with
  | nil => exact Nat.le_refl 0
  | cons v vs ih =>
    simp only [List.map_cons, List.sum_cons, List.length_cons]
    have : (vr σ v).category ≤ 2 := by
      rcases lv_cat (vr σ v) with h | h <;> omega
    omega
theorem wordsM {s : State} {args : Array Value} {j : Nat} (hj : j < NM) (hts : ∀ w ∈ gT, w.before args s = true) : ∀ w ∈ mws (mI j), ∀ (a' : Array Value) (U : State), s.WarmedH U.vm → w.before a' U = true := by
  intro w hw a' U hW
  obtain ⟨h1, h2⟩ := mws_good hj w hw
  exact word_at hW h2 (hts w h1)
theorem callB_M {s : State} {args : Array Value} {j np i : Nat} {own : String} (hj : j < NM) (hts : ∀ w ∈ gT, w.before args s = true) (hnp : (parseMethodDescriptor (mI j).2.1.desc).map (fun d => d.parameters.length) = some np) (hl : (Cond.methodLink own i (mI j).2.1).before args s = true) :
    CallB (rmM (d + 1)) s args own i (mI j).2.1 (mI j).2.2.1 (mI j).2.2.2.1 (mI j).2.2.2.2 (mws (mI j)) (rmM d) 0 0 np := by
  obtain ⟨h1, h2⟩ := mok hj
  simp only [mArgs, Bool.and_eq_true, decide_eq_true_eq] at h2
  obtain ⟨⟨⟨⟨a1, a2⟩, a3⟩, a4⟩, a5⟩ := h2
  refine ⟨rfl, rfl, ?_, ?_, wordsM hj hts, List.mem_cons_self, hts _ (h1 _ (List.mem_cons_of_mem _ List.mem_cons_self)), hts _ (h1 _ List.mem_cons_self), ⟨a1, a2⟩, ?_, hl⟩
  · show d + 2 + 1 ≤ d + 1 + 2
    omega
  · show 8 + ((mI j).2.2.2.1 + 11) + 64 * (d + 2) ≤ 64 * (d + 1 + 2)
    omega
  · intro sig h
    rw [h] at hnp
    exact (Option.some.inj hnp).symm
theorem lkA {e : (Nat × Nat) × Nat × Nat × Nat × Nat} (h0 : 10 ≤ e.2.2.2.2 ∨ e.2.2.2.2 < 5) (h : lkArgs e = true) : e.2.1 < NM ∧ (parseMethodDescriptor (mI e.2.1).2.1.desc).map (fun d => d.parameters.length) = some (if 10 ≤ e.2.2.2.2 then e.2.2.1 - 1 else e.2.2.1) ∧ (e.2.2.2.2 < 10 ∨ (mI e.2.1).2.1.cls = (vwCl.getD (e.2.2.2.2 - 10) ("java/lang/String", TX0, 0)).1) ∧ ((e.2.2.2.1 = 0) ↔ (mI e.2.1).2.2.2.2 = none) := by
  unfold lkArgs at h
  rw [Bool.or_eq_true] at h
  rcases h with h | h
  · simp only [Bool.and_eq_true, decide_eq_true_eq] at h
    omega
  · simp only [Bool.and_eq_true, decide_eq_true_eq] at h
    obtain ⟨⟨⟨⟨a, b⟩, -⟩, c⟩, d⟩ := h
    exact ⟨a, b, c, d⟩
theorem pre_blind {D : va_G} {tc : Nat × Nat × Nat} {σ : Nat → Nat} {M : Mem} {av : List Value} : FrameBlind (va_Pc av (fun U => va_P D vwCl (wsM σ tc M) U.heap ∧ va_K D vwCl (tysM tc) U ∧ RO σ U U.heap)) := by
  intro a U g mk q
  obtain ⟨q0, qP, qK, qR⟩ := q
  exact ⟨q0, qP, va_K.moved (u := U) (U := U.calling g mk a) (Vm.Alike.refl U.vm) qK, RO.blind qR⟩
/-- behind a call's run -/
theorem r_after {j : Nat} {l : Launch} {D : va_G} {tc : Nat × Nat × Nat} {σ : Nat → Nat} {p : Program} {e : Env} {s : State} {m : MethodId} {args av : Array Value} {below : List Frame} {meth : Method} {c : Code} {H : Heap} {locs : List Loc} {ls : Array Slot} {st0 : List Value} {rest : List Value} {r : Nat}
    (C : CX mi D tc σ p s m args meth c) (hL : L.length = mi.2.2.2.1) (hS : va_S (Am σ) s.heap H locs) (hl : lv_has ls mi.2.2.2.1 (prs σ L)) (hr : r = 0 ↔ (mI j).2.2.2.2 = none)
    (run : va_Run p l e (rmM (d + 1)) s m args below meth c H locs 0 0 0 0 (F0 m pc ls st0) (rest.map (vr σ)) (retQ D tc σ (mI j).2.2.2.2 (fun v M' => WP mi (d + 1) post (pc + 3) L (if r = 0 then rest else v :: rest) M') av) (Am σ)) :
    W p l e (rmM (d + 1)) s m args below meth c H locs 0 0 (MQ below (retQ D tc σ mi.2.2.2.2 post) args s 0 0 (Am σ)) (F0 m pc ls st0) := by
  generalize (mI j).2.2.2.2 = rt at run hr
  cases rt with
  | none =>
    have hr0 := hr.mpr rfl
    subst hr0
    have run : va_Run p l e (rmM (d + 1)) s m args below meth c H locs 0 0 0 0 (F0 m pc ls st0) (rest.map (vr σ)) (va_Qv (S := Mem) (fun M' => WP mi (d + 1) post (pc + 3) L rest M') (fun M t => va_P D vwCl (wsM σ tc M) t.heap) (Am σ) av) (Am σ) := run
    refine va_callv run hS (fun q _ h => h) (fun q h => h) (fun M' t H1 locs1 ht hvm hw hB hz hk hS1 => ?_)
    have hB : va_P D vwCl (wsM σ tc M') t.heap := hB
    rw [ht] at hB
    exact hw l D tc σ p e s m args below meth c H1 locs1 ls C hL hB hS1 hl
  | some ty =>
    have hr0 : ¬ r = 0 := fun q => by have := hr.mp q; cases this
    by_cases hl2 : ty = .long
    · subst hl2
      have run : va_Run p l e (rmM (d + 1)) s m args below meth c H locs 0 0 0 0 (F0 m pc ls st0) (rest.map (vr σ)) (va_Ql (S := Mem) (fun v M' => WP mi (d + 1) post (pc + 3) L (if r = 0 then rest else .long v :: rest) M') (fun M t => va_P D vwCl (wsM σ tc M) t.heap) (Am σ) av) (Am σ) := run
      refine va_calll run hS (fun q _ h => h) (fun q h => h) (fun v M' t H1 locs1 ht hvm hw hB hz hk hS1 => ?_)
      have hB : va_P D vwCl (wsM σ tc M') t.heap := hB
      rw [ht] at hB
      rw [if_neg hr0] at hw
      exact hw l D tc σ p e s m args below meth c H1 locs1 ls C hL hB hS1 hl
    · rw [retQ_i hl2] at run
      refine va_calli run hS (fun q _ h => h) (fun q h => h) (fun v M' t H1 locs1 ht hvm hw hB hz hk hS1 => ?_)
      have hB : va_P D vwCl (wsM σ tc M') t.heap := hB
      rw [ht] at hB
      rw [if_neg hr0] at hw
      exact hw l D tc σ p e s m args below meth c H1 locs1 ls C hL hB hS1 hl
theorem r_virtual {i j n r ci p : Nat} {as rest : List Value} (hd : decode mi.2.2.1 pc = .ok (.invokevirtual i, 3)) (hc : cres mi.1 i = some (j, n, r, 10 + ci)) (hn : as.length + 1 = n) (hp : pcl p = ci) (hr : rest.length ≤ 4)
    (h : CallP d j (.ref p :: as) M (fun v M' => WP mi (d + 1) post (pc + 3) L (if r = 0 then rest else v :: rest) M')) : WP mi (d + 1) post pc L (as.reverse ++ .ref p :: rest) M := by
  intro l D tc σ P e s m args below meth c H locs ls C hL hP hS hl
  obtain ⟨hw, ha⟩ := cres_ok hc
  unfold lkWords at hw
  dsimp only at hw
  rw [if_pos (Nat.le_add_right 10 ci)] at hw
  obtain ⟨hj, hnp, hcls, hrr⟩ := lkA (Or.inl (Nat.le_add_right 10 ci)) ha
  dsimp only at hj hnp hcls hrr
  rw [if_pos (Nat.le_add_right 10 ci)] at hnp
  have hts := C.2.2.2.2.2.2.1
  have hcls : (mI j).2.1.cls = (vwCl.getD ci ("java/lang/String", TX0, 0)).1 := by
    rcases hcls with q | q
    · omega
    · rw [Nat.add_sub_cancel_left] at q
      exact q
  have hrecv : ∃ cellB : Cell, H[σ p]? = some cellB ∧ cellB.vm.isStatics = false ∧ s.vm.findClass (mI j).2.1.cls = some cellB.cls := by
    unfold pcl at hp
    split at hp
    · rename_i hs1
      have h7 : ci < 7 := by
        have : ∀ q, q < NP → (shO q).1 = 1 → (shO q).2.1 < 7 := by decide +kernel
        rw [← hp]
        exact this p (place_lt (x := shO p) rfl (by rw [hs1]; decide)) hs1
      have hs : shO p = (1, ci, (shO p).2.2) := by rw [← hs1, ← hp]
      obtain ⟨Cn, T, N, c1, -, -, -, -, -, c7⟩ := cl_ok h7
      rw [hcls, c7]
      exact va_recv C.2.2.2.2.2.2.2.2.1 hP c1 ((ws_get (place_lt hs (by simp))).trans (by rw [cel_O hs]))
    · split at hp
      · rename_i q
        subst hp
        rw [hcls]
        have hO := (C.2.2.2.2.2.2.2.2.2.1 (p - 100) (by omega)).1
        rw [show 100 + (p - 100) = p by omega] at hO
        exact va_Orecv hO hS
      · subst hp
        rw [hcls]
        have hjc : (mI j).2.1.cls = "java/lang/String" := hcls
        exfalso
        have : ∀ e ∈ lkTab, e.2.2.2.2 ≠ 10 + 99 := by decide +kernel
        obtain ⟨k, hk⟩ := lk_mem hc
        exact this _ (List.mem_of_getElem? hk) rfl
  have hst : (as.reverse ++ .ref p :: rest).map (vr σ) = (as.map (vr σ)).reverse ++ .ref (σ p) :: rest.map (vr σ) := by
    rw [List.map_append, List.map_reverse]
    rfl
  rw [hst]
  refine r_after (j := j) (r := r) (rest := rest) (av := (Value.ref (σ p) :: as.map (vr σ)).toArray) C hL hS hl hrr ?_
  refine va_runV (C := (mI j).2.1.cls) (n := as.length) (nL := mi.2.2.2.1) ⟨C.2.1, C.2.2.1, C.2.2.2.2.1, C.2.2.2.2.2.1, hts⟩ (h l D tc σ C.1) ⟨callB_M hj hts (by rw [hnp, ← hn]; rfl) (hts _ (hw _ List.mem_cons_self)), hts _ (hw _ (List.mem_cons_of_mem _ List.mem_cons_self)), hts _ (hw _ (List.mem_cons_of_mem _ (List.mem_cons_of_mem _ List.mem_cons_self)))⟩ ⟨pre_blind, hrecv, fun U hU hW => ⟨rfl, by rw [hU]; exact hP, va_K.moved hW.alike C.2.2.2.2.2.2.2.2.1, RO.at C.2.2.2.2.2.2.2.2.2 hS hU hW⟩⟩ rfl (by rw [List.length_map]) hl.1 rfl (lv_room (Nat.le_trans (sum_cat σ rest) (by omega))) hd ⟨Nat.le_refl _, Nat.le_refl _⟩
theorem r_static {i j n r md : Nat} {as rest : List Value} (hd : decode mi.2.2.1 pc = .ok (.invokestatic i, 3)) (hc : cres mi.1 i = some (j, n, r, md)) (hmd : md = 1 ∨ md = 2) (hn : as.length = n) (hr : rest.length ≤ 4)
    (h : CallP d j as M (fun v M' => WP mi (d + 1) post (pc + 3) L (if r = 0 then rest else v :: rest) M')) : WP mi (d + 1) post pc L (as.reverse ++ rest) M := by
  intro l D tc σ P e s m args below meth c H locs ls C hL hP hS hl
  obtain ⟨hw, ha⟩ := cres_ok hc
  have hts := C.2.2.2.2.2.2.1
  have hst : (as.reverse ++ rest).map (vr σ) = (as.map (vr σ)).reverse ++ rest.map (vr σ) := by
    rw [List.map_append, List.map_reverse]
  rw [hst]
  unfold lkWords at hw
  have hpre : PreS s H (va_Pc (as.map (vr σ)) (fun U => va_P D vwCl (wsM σ tc M) U.heap ∧ va_K D vwCl (tysM tc) U ∧ RO σ U U.heap)) (as.map (vr σ)) := ⟨pre_blind, fun U hU hW => ⟨rfl, by rw [hU]; exact hP, va_K.moved hW.alike C.2.2.2.2.2.2.2.2.1, RO.at C.2.2.2.2.2.2.2.2.2 hS hU hW⟩⟩
  rcases hmd with rfl | rfl
  · dsimp only at hw
    rw [if_neg (by decide), if_pos rfl] at hw
    obtain ⟨hj, hnp, -, hrr⟩ := lkA (Or.inr (Nat.le_of_ble_eq_true rfl)) ha
    dsimp only at hj hnp hrr
    rw [if_neg (by decide)] at hnp
    refine r_after (j := j) (r := r) (rest := rest) (av := (as.map (vr σ)).toArray) C hL hS hl hrr ?_
    exact va_runS (n := as.length) (nL := mi.2.2.2.1) ⟨C.2.1, C.2.2.1, C.2.2.2.2.1, C.2.2.2.2.2.1, hts⟩ (h l D tc σ C.1) ⟨callB_M hj hts (by rw [hnp, hn]) (hts _ (hw _ List.mem_cons_self)), hts _ (hw _ (List.mem_cons_of_mem _ List.mem_cons_self))⟩ hpre rfl (by rw [List.length_map]) hl.1 rfl (lv_room (Nat.le_trans (sum_cat σ rest) (by omega))) hd ⟨Nat.le_refl _, Nat.le_refl _⟩
  · dsimp only at hw
    rw [if_neg (by decide), if_neg (by decide), if_pos rfl] at hw
    obtain ⟨hj, hnp, -, hrr⟩ := lkA (Or.inr (Nat.le_of_ble_eq_true rfl)) ha
    dsimp only at hj hnp hrr
    rw [if_neg (by decide)] at hnp
    refine r_after (j := j) (r := r) (rest := rest) (av := (as.map (vr σ)).toArray) C hL hS hl hrr ?_
    obtain ⟨h1, h2⟩ := mok hj
    simp only [mArgs, Bool.and_eq_true, decide_eq_true_eq] at h2
    obtain ⟨⟨⟨⟨a1, a2⟩, a3⟩, a4⟩, a5⟩ := h2
    have cn := va_cnB (R := rmM (d + 1)) (args := args) (s := s) (mc := 0) (ms := 0) (rm := rmM d) (own := clsN mi.1) (index := i) (host := RX6) (ws' := gT) as.length hts (mws_good hj) rfl rfl rfl (C.2.2.2.2.2.2.2.2.2.2.2.2.2.2.1 _ (n_all hc)) (hts _ (h1 _ List.mem_cons_self)) ⟨a1, a2, by rw [hnp, hn]⟩ ⟨by show d + 2 + 1 ≤ d + 1 + 2; omega, by show 8 + ((mI j).2.2.2.1 + 11) + 64 * (d + 2) ≤ 64 * (d + 1 + 2); omega⟩
    exact va_runSN (n := as.length) (nL := mi.2.2.2.1) ⟨C.2.1, C.2.2.1, C.2.2.2.2.1, C.2.2.2.2.2.1, hts⟩ (h l D tc σ C.1) ⟨cn, hts _ (hw _ List.mem_cons_self), trivial⟩ hpre rfl (by rw [List.length_map]) hl.1 rfl (lv_room (Nat.le_trans (sum_cat σ rest) (by omega))) hd ⟨Nat.le_refl _, Nat.le_refl _⟩
theorem r_copy {i j n r p q : Nat} {sp dp k : Int32} {rest : List Value} (hd : decode mi.2.2.1 pc = .ok (.invokestatic i, 3)) (hc : cres mi.1 i = some (j, n, r, 5)) (hr : rest.length ≤ 4)
    (h1 : 0 ≤ sp.toInt) (h2 : 0 ≤ dp.toInt) (h3 : 0 ≤ k.toInt) (h4 : sp.toInt + k.toInt ≤ al p) (h5 : dp.toInt + k.toInt ≤ al q) (hp : 0 < al p) (hq : 0 < al q)
    (kk : WP mi d post (pc + 3) L rest (mrow M q (va_cpy (M p) (M q) sp.toNatClampNeg dp.toNatClampNeg k.toNatClampNeg))) : WP mi d post pc L (.int k :: .int dp :: .ref q :: .int sp :: .ref p :: rest) M := by
  intro l D tc σ P e s m args below meth c H locs ls C hL hP hS hl
  obtain ⟨hw, ha⟩ := cres_ok hc
  have hts := C.2.2.2.2.2.2.1
  unfold lkWords at hw
  dsimp only at hw
  rw [if_neg (by decide), if_neg (by decide), if_neg (by decide), if_neg (by decide), if_neg (by decide), if_neg (by decide)] at hw
  obtain ⟨o1, s1⟩ := al_ok hp
  obtain ⟨o2, s2⟩ := al_ok hq
  have pp := place_lt s1 (by simp)
  have pq := place_lt s2 (by simp)
  have cl : ∀ x : Int32, 0 ≤ x.toInt → (x.toNatClampNeg : Int) = x.toInt ∧ ¬ x < 0 := by
    intro x hx
    obtain ⟨y, hy, rfl⟩ := nI_of (x := x) (by rw [Int32.lt_iff_toInt_lt, Int32.toInt_zero]; omega)
    rw [nI_clamp hy, nI_toInt hy]
    exact ⟨rfl, nI_pos hy⟩
  obtain ⟨u1, v1⟩ := cl sp h1
  obtain ⟨u2, v2⟩ := cl dp h2
  obtain ⟨u3, v3⟩ := cl k h3
  refine va_copyi (rest := rest.map (vr σ)) C.2.1 C.2.2.1 (C.2.2.2.2.1.trans hl.1.symm) C.2.2.2.2.2.1 (hts _ (hw _ List.mem_cons_self)) (hts _ (hw _ (List.mem_cons_of_mem _ List.mem_cons_self))) (hts _ (hw _ (List.mem_cons_of_mem _ (List.mem_cons_of_mem _ List.mem_cons_self)))) (hts _ (hw _ (List.mem_cons_of_mem _ (List.mem_cons_of_mem _ (List.mem_cons_of_mem _ List.mem_cons_self))))) C.2.2.2.2.2.2.2.2.1 hP (ws_D C.1) hS p q 0 0 ((ws_get pp).trans (by rw [cel_A s1])) ((ws_get pq).trans (by rw [cel_A s2])) (ty := .int) rfl rfl rfl v1 v2 v3 (by omega) (by omega) (fun _ _ => rfl) (by show 1 ≤ d + 2; omega) ?_ hd (fun H1 locs1 hP1 _ hS1 => ?_)
  · have := sum_cat σ rest
    show _ + (nativeFrameWords "java/lang/System" "arraycopy" 5 + 11) ≤ 64 * (d + 2)
    have e : nativeFrameWords "java/lang/System" "arraycopy" 5 ≤ 50 := by decide +kernel
    omega
  · rw [ws_setA s2] at hP1
    exact kk l D tc σ P e s m args below meth c H1 locs1 ls C hL hP1 hS1 hl
theorem r_mmax {i j n r : Nat} {x y : Int32} {rest : List Value} (hd : decode mi.2.2.1 pc = .ok (.invokestatic i, 3)) (hc : cres mi.1 i = some (j, n, r, 6)) (hr : rest.length ≤ 4) (kk : WP mi d post (pc + 3) L (.int (if x < y then y else x) :: rest) M) : WP mi d post pc L (.int y :: .int x :: rest) M := by
  intro l D tc σ P e s m args below meth c H locs ls C hL hP hS hl
  obtain ⟨hw, ha⟩ := cres_ok hc
  have hts := C.2.2.2.2.2.2.1
  unfold lkWords at hw
  dsimp only at hw
  rw [if_neg (by decide), if_neg (by decide), if_neg (by decide), if_pos rfl] at hw
  have := sum_cat σ rest
  exact va_mmax (rest := rest.map (vr σ)) C.2.1 C.2.2.1 (C.2.2.2.2.1.trans hl.1.symm) C.2.2.2.2.2.1 (hts _ (hw _ List.mem_cons_self)) (hts _ (hw _ (List.mem_cons_of_mem _ List.mem_cons_self))) (hts _ (hw _ (List.mem_cons_of_mem _ (List.mem_cons_of_mem _ List.mem_cons_self)))) (hts _ (hw _ (List.mem_cons_of_mem _ (List.mem_cons_of_mem _ (List.mem_cons_of_mem _ List.mem_cons_self))))) (by show 1 ≤ d + 2; omega) (by show _ + 13 ≤ 64 * (d + 2); omega) (Nat.le_refl _) (Nat.le_refl _) hd (kk l D tc σ P e s m args below meth c H locs ls C hL hP hS hl)
theorem r_mmin {i j n r : Nat} {x y : Int32} {rest : List Value} (hd : decode mi.2.2.1 pc = .ok (.invokestatic i, 3)) (hc : cres mi.1 i = some (j, n, r, 7)) (hr : rest.length ≤ 4) (kk : WP mi d post (pc + 3) L (.int (if y < x then y else x) :: rest) M) : WP mi d post pc L (.int y :: .int x :: rest) M := by
  intro l D tc σ P e s m args below meth c H locs ls C hL hP hS hl
  obtain ⟨hw, ha⟩ := cres_ok hc
  have hts := C.2.2.2.2.2.2.1
  unfold lkWords at hw
  dsimp only at hw
  rw [if_neg (by decide), if_neg (by decide), if_neg (by decide), if_neg (by decide), if_pos rfl] at hw
  have := sum_cat σ rest
  exact va_mmin (rest := rest.map (vr σ)) C.2.1 C.2.2.1 (C.2.2.2.2.1.trans hl.1.symm) C.2.2.2.2.2.1 (hts _ (hw _ List.mem_cons_self)) (hts _ (hw _ (List.mem_cons_of_mem _ List.mem_cons_self))) (hts _ (hw _ (List.mem_cons_of_mem _ (List.mem_cons_of_mem _ List.mem_cons_self)))) (hts _ (hw _ (List.mem_cons_of_mem _ (List.mem_cons_of_mem _ (List.mem_cons_of_mem _ List.mem_cons_self))))) (by show 1 ≤ d + 2; omega) (by show _ + 13 ≤ 64 * (d + 2); omega) (Nat.le_refl _) (Nat.le_refl _) hd (kk l D tc σ P e s m args below meth c H locs ls C hL hP hS hl)
theorem r_mabs {i j n r : Nat} {x : Int32} {rest : List Value} (hd : decode mi.2.2.1 pc = .ok (.invokestatic i, 3)) (hc : cres mi.1 i = some (j, n, r, 8)) (hr : rest.length ≤ 4) (kk : WP mi d post (pc + 3) L (.int (if 0 ≤ x then x else 0 - x) :: rest) M) : WP mi d post pc L (.int x :: rest) M := by
  intro l D tc σ P e s m args below meth c H locs ls C hL hP hS hl
  obtain ⟨hw, ha⟩ := cres_ok hc
  have hts := C.2.2.2.2.2.2.1
  unfold lkWords at hw
  dsimp only at hw
  rw [if_neg (by decide), if_neg (by decide), if_neg (by decide), if_neg (by decide), if_neg (by decide), if_pos rfl] at hw
  have := sum_cat σ rest
  exact va_mabs (rest := rest.map (vr σ)) C.2.1 C.2.2.1 (C.2.2.2.2.1.trans hl.1.symm) C.2.2.2.2.2.1 (hts _ (hw _ List.mem_cons_self)) (hts _ (hw _ (List.mem_cons_of_mem _ List.mem_cons_self))) (hts _ (hw _ (List.mem_cons_of_mem _ (List.mem_cons_of_mem _ List.mem_cons_self)))) (hts _ (hw _ (List.mem_cons_of_mem _ (List.mem_cons_of_mem _ (List.mem_cons_of_mem _ List.mem_cons_self))))) (by show 1 ≤ d + 2; omega) (by show _ + 13 ≤ 64 * (d + 2); omega) (Nat.le_refl _) (Nat.le_refl _) hd (kk l D tc σ P e s m args below meth c H locs ls C hL hP hS hl)
theorem CallP.mono {d j : Nat} {args : List Value} {M : Mem} {P Q : Value → Mem → Prop} (h : CallP d j args M P) (hPQ : ∀ v M', P v M' → Q v M') : CallP d j args M Q := by
  intro l D tc σ hI
  have h0 := h l D tc σ hI
  intro p e ha hc hk s m av below hf happ hP hK
  obtain ⟨k, o, h1, h2, h3, ⟨hQ, hF⟩⟩ := h0 p e ha hc hk s m av below hf happ hP hK
  refine ⟨k, o, h1, h2, h3, ⟨?_, hF⟩⟩
  generalize (mI j).2.2.2.2 = rt at hQ ⊢
  cases rt with
  | none =>
    obtain ⟨⟨u, a1, a2, a3⟩, a4⟩ := hQ
    exact ⟨⟨u, a1, hPQ _ _ a2, a3⟩, a4⟩
  | some ty =>
    by_cases hl2 : ty = .long
    · subst hl2
      obtain ⟨⟨r, u, a1, a2, a3⟩, a4⟩ := hQ
      exact ⟨⟨r, u, a1, hPQ _ _ a2, a3⟩, a4⟩
    · rw [retQ_i hl2] at hQ ⊢
      obtain ⟨⟨r, u, a1, a2, a3⟩, a4⟩ := hQ
      exact ⟨⟨r, u, a1, hPQ _ _ a2, a3⟩, a4⟩
end Rules
