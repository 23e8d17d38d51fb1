/-! THE LAW: its loop -/
def LwC (D : va_G) (tc : Nat × Nat × Nat) (σ : Nat → Nat) (p : Program) (s : State) (m : MethodId) (meth : Method) (c : Code) (L : Nat) (xs : Nat → Int32) : Prop :=
  InjM σ ∧ p.tables.exec = Jvm.exec ∧ c.code = cL_law ∧ c.maxLocals = 4 ∧ s.vm.findClass (clsN 20) = some m.cls ∧ (∀ w ∈ gT, w.before #[Value.ref (σ 95)] s = true) ∧ va_K D vwCl (tysM tc) s ∧ RO σ s s.heap ∧ va_X (σ 95) L xs s s.heap ∧ σ 95 < s.heap.size ∧ (∀ q, Am σ q → s.heap.size ≤ q) ∧ meth.locks = false
/-- the law at pc: its own number i, its stack, the memory; it comes to row 1494 -/
def LwP (L : Nat) (xs : Nat → Int32) (pc : Nat) (i : Int32) (st : List Value) (M : Mem) : Prop :=
  ∀ (l : Launch) (D : va_G) (tc : Nat × Nat × Nat) (σ : Nat → Nat) (p : Program) (e : Env) (s : State) (m : MethodId) (below : List Frame) (meth : Method) (c : Code) (k1 k2 : Nat) (Q : State → Prop) (H : Heap) (locs : List Loc) (ls : Array Slot),
    LwC D tc σ p s m meth c L xs → k1 ≤ 600000 ∧ k2 ≤ 7302250 →
    (∀ (H' : Heap) (locs' : List Loc) (ls' : Array Slot), (∀ q ∈ locs', s.heap.size ≤ q.base) → W p l e room_1 s m #[Value.ref (σ 95)] below meth c H' locs' k1 k2 Q (F0 m 1494 ls' [])) →
    va_P D vwCl (wsM σ tc M) H → va_S (Am σ) s.heap H locs → lv_has ls 4 [(3, .int i), (2, .ref (σ 59)), (1, .ref (σ 0)), (0, .ref (σ 95))] →
    W p l e room_1 s m #[Value.ref (σ 95)] below meth c H locs k1 k2 Q (F0 m pc ls (st.map (vr σ)))
section Law
variable {L : Nat} {xs : Nat → Int32} {pc : Nat} {i : Int32} {st : List Value} {M : Mem}
theorem L_x (hd : decode cL_law pc = .ok (.aload_n 1, 1)) (k : LwP L xs (pc + 1) i (.ref 0 :: st) M) : LwP L xs pc i st M :=
  fun l D tc σ p e s m below meth c k1 k2 Q H locs ls C hk he hP hS hl => lv_aload_n C.2.1 C.2.2.1 hd rfl (lv_at hl 2 rfl) (k l D tc σ p e s m below meth c k1 k2 Q H locs ls C hk he hP hS hl)
theorem L_m (hd : decode cL_law pc = .ok (.aload_n 2, 1)) (k : LwP L xs (pc + 1) i (.ref 59 :: st) M) : LwP L xs pc i st M :=
  fun l D tc σ p e s m below meth c k1 k2 Q H locs ls C hk he hP hS hl => lv_aload_n C.2.1 C.2.2.1 hd rfl (lv_at hl 1 rfl) (k l D tc σ p e s m below meth c k1 k2 Q H locs ls C hk he hP hS hl)
theorem L_arg {n k : Nat} {z : Int} (hd0 : decode cL_law pc = .ok (.aload_n 0, 1)) (hd1 : decode cL_law (pc + 1) = .ok (.iload_n 3, 1)) (hd2 : decode cL_law (pc + 2) = .ok (.iconst z, 1)) (hd3 : decode cL_law (pc + 3) = .ok (.iadd, 1)) (hd4 : decode cL_law (pc + 4) = .ok (.iaload, 1)) (hz : Int32.ofInt z = nI k) (hi : i = nI n) (hn : n + k < L) (hL : L ≤ 3072)
    (kk : LwP L xs (pc + 5) i (.int (xs (n + k)) :: st) M) : LwP L xs pc i st M := by
  intro l D tc σ p e s m below meth c k1 k2 Q H locs ls C hk he hP hS hl
  have hx := C.2.1
  have hb := C.2.2.1
  refine lv_aload_n hx hb hd0 rfl (lv_at hl 3 rfl) ?_
  refine lv_iload_n hx hb hd1 rfl (lv_at hl 0 rfl) ?_
  refine lv_iconst hx hb hd2 hz ?_
  refine lv_iadd hx hb hd3 ?_
  have e1 : i + nI k = nI (n + k) := by rw [hi, nI_add]
  rw [e1]
  have hbA : ¬ Am σ (σ 95) := fun z => by
    have := C.2.2.2.2.2.2.2.2.2.2.1 _ z
    have := C.2.2.2.2.2.2.2.2.2.1
    omega
  refine va_sld hx hb C.2.2.2.2.2.2.2.2.1 C.2.2.2.2.2.2.2.2.2.1 hbA hS ?_ hd4 ?_
  · intro z
    rw [nI_clamp (by omega)] at z
    rcases z with z | z
    · exact nI_pos (by omega) z
    · omega
  · rw [nI_clamp (by omega)]
    exact kk l D tc σ p e s m below meth c k1 k2 Q H locs ls C hk he hP hS hl
theorem callB_L {s : State} {args : Array Value} {j np i : Nat} {own : String} (hj : j < NM) (hts : ∀ w ∈ gT, w.before args s = true) (hnp : (parseMethodDescriptor (mI j).2.1.desc).map (fun d => d.parameters.length) = some np) (hl : (Cond.methodLink own i (mI j).2.1).before args s = true) :
    CallB room_1 s args own i (mI j).2.1 (mI j).2.2.1 (mI j).2.2.2.1 (mI j).2.2.2.2 (mws (mI j)) (rmM 20) 0 0 np := by
  obtain ⟨h1, h2⟩ := mok hj
  simp only [mArgs, Bool.and_eq_true, decide_eq_true_eq] at h2
  obtain ⟨⟨⟨⟨a1, a2⟩, a3⟩, a4⟩, a5⟩ := h2
  refine ⟨rfl, rfl, ?_, ?_, wordsM hj hts, List.mem_cons_self, hts _ (h1 _ (List.mem_cons_of_mem _ List.mem_cons_self)), hts _ (h1 _ List.mem_cons_self), ⟨a1, a2⟩, ?_, hl⟩
  · exact Nat.le_of_ble_eq_true rfl
  · show 8 + ((mI j).2.2.2.1 + 11) + 64 * (20 + 2) ≤ 84000
    omega
  · intro sig h
    rw [h] at hnp
    exact (Option.some.inj hnp).symm
/-- behind a call's run -/
theorem L_run {ix j n ci pl r : Nat} {as rest : List Value} (hd : decode cL_law pc = .ok (.invokevirtual ix, 3)) (hc : cres 20 ix = some (j, n, r, 10 + ci)) (hn : as.length + 1 = n) (hp : pcl pl = ci) (hci : ci < 7) (hr : rest.length ≤ 4) {post : Value → Mem → Prop}
    (h : CallP 20 j (.ref pl :: as) M post) {l : Launch} {D : va_G} {tc : Nat × Nat × Nat} {σ : Nat → Nat} {p : Program} {e : Env} {s : State} {m : MethodId} {below : List Frame} {meth : Method} {c : Code} {k1 k2 : Nat} {H : Heap} {locs : List Loc} {ls : Array Slot}
    (C : LwC D tc σ p s m meth c L xs) (hk : k1 ≤ 600000 ∧ k2 ≤ 7302250) (hP : va_P D vwCl (wsM σ tc M) H) (hS : va_S (Am σ) s.heap H locs) (hl : lv_has ls 4 [(3, .int i), (2, .ref (σ 59)), (1, .ref (σ 0)), (0, .ref (σ 95))]) :
    va_Run p l e room_1 s m #[Value.ref (σ 95)] below meth c H locs k1 k2 0 0 (F0 m pc ls ((as.reverse ++ .ref pl :: rest).map (vr σ))) (rest.map (vr σ)) (retQ D tc σ (mI j).2.2.2.2 post (Value.ref (σ pl) :: as.map (vr σ)).toArray) (Am σ) := by
  obtain ⟨hw, ha⟩ := cres_ok hc
  unfold lkWords at hw
  dsimp only at hw
  rw [if_pos (Nat.le_add_right 10 ci)] at hw
  obtain ⟨hj, hnp, hcls, hrr⟩ := lkA (Or.inl (Nat.le_add_right 10 ci)) ha
  dsimp only at hj hnp hcls hrr
  rw [if_pos (Nat.le_add_right 10 ci)] at hnp
  have hts := C.2.2.2.2.2.1
  have hcls : (mI j).2.1.cls = (vwCl.getD ci ("java/lang/String", TX0, 0)).1 := by
    rcases hcls with q | q
    · omega
    · rw [Nat.add_sub_cancel_left] at q
      exact q
  have hrecv : ∃ cellB : Cell, H[σ pl]? = some cellB ∧ cellB.vm.isStatics = false ∧ s.vm.findClass (mI j).2.1.cls = some cellB.cls := by
    unfold pcl at hp
    by_cases hs1 : (shO pl).1 = 1
    · rw [if_pos hs1] at hp
      have hs : shO pl = (1, ci, (shO pl).2.2) := by rw [← hs1, ← hp]
      obtain ⟨Cn, T, N, c1, -, -, -, -, -, c7⟩ := cl_ok hci
      rw [hcls, c7]
      exact va_recv C.2.2.2.2.2.2.1 hP c1 ((ws_get (place_lt hs (by simp))).trans (by rw [cel_O hs]))
    · rw [if_neg hs1] at hp
      exfalso
      by_cases hz : 100 ≤ pl ∧ pl < 113
      · rw [if_pos hz] at hp
        omega
      · rw [if_neg hz] at hp
        omega
  have hst : (as.reverse ++ .ref pl :: rest).map (vr σ) = (as.map (vr σ)).reverse ++ .ref (σ pl) :: rest.map (vr σ) := by
    rw [List.map_append, List.map_reverse]
    rfl
  rw [hst]
  exact va_runV (C := (mI j).2.1.cls) (n := as.length) (nL := 4) ⟨C.2.1, C.2.2.1, C.2.2.2.1, C.2.2.2.2.1, hts⟩ (h l D tc σ C.1) ⟨callB_L hj hts (by rw [hnp, ← hn]; rfl) (hts _ (hw _ List.mem_cons_self)), hts _ (hw _ (List.mem_cons_of_mem _ List.mem_cons_self)), hts _ (hw _ (List.mem_cons_of_mem _ (List.mem_cons_of_mem _ List.mem_cons_self)))⟩ ⟨pre_blind, hrecv, fun U hU hW => ⟨rfl, by rw [hU]; exact hP, va_K.moved hW.alike C.2.2.2.2.2.2.1, RO.at C.2.2.2.2.2.2.2.1 hS hU hW⟩⟩ rfl (by rw [List.length_map]) hl.1 rfl (lv_room (Nat.le_trans (sum_cat σ rest) (by omega))) hd ⟨hk.1, hk.2⟩
theorem L_call {ix j n ci pl r : Nat} {as rest : List Value} (hd : decode cL_law pc = .ok (.invokevirtual ix, 3)) (hc : cres 20 ix = some (j, n, r, 10 + ci)) (hn : as.length + 1 = n) (hp : pcl pl = ci) (hci : ci < 7) (hr : rest.length ≤ 4) (hty : (mI j).2.2.2.2 = some .int)
    (h : CallP 20 j (.ref pl :: as) M (fun v M' => ∀ x, v = .int x → LwP L xs (pc + 3) i (.int x :: rest) M')) : LwP L xs pc i (as.reverse ++ .ref pl :: rest) M := by
  intro l D tc σ p e s m below meth c k1 k2 Q H locs ls C hk he hP hS hl
  have run := L_run (l := l) (e := e) (below := below) hd hc hn hp hci hr h C hk hP hS hl
  rw [hty, retQ_i (by decide)] at run
  refine va_calli run hS (fun q _ h => h) (fun q h => h) (fun v M' t H1 locs1 ht hvm hw hB hz hkk hS1 => ?_)
  have hB : va_P D vwCl (wsM σ tc M') t.heap := hB
  rw [ht] at hB
  exact hw v rfl l D tc σ p e s m below meth c k1 k2 Q H1 locs1 ls C hk he hB hS1 hl
theorem L_callL {ix j n ci pl r : Nat} {as rest : List Value} (hd : decode cL_law pc = .ok (.invokevirtual ix, 3)) (hc : cres 20 ix = some (j, n, r, 10 + ci)) (hn : as.length + 1 = n) (hp : pcl pl = ci) (hci : ci < 7) (hr : rest.length ≤ 4) (hty : (mI j).2.2.2.2 = some .long)
    (h : CallP 20 j (.ref pl :: as) M (fun v M' => ∀ x, v = .long x → LwP L xs (pc + 3) i (.long x :: rest) M')) : LwP L xs pc i (as.reverse ++ .ref pl :: rest) M := by
  intro l D tc σ p e s m below meth c k1 k2 Q H locs ls C hk he hP hS hl
  have run := L_run (l := l) (e := e) (below := below) hd hc hn hp hci hr h C hk hP hS hl
  rw [hty] at run
  have run : va_Run p l e room_1 s m #[Value.ref (σ 95)] below meth c H locs k1 k2 0 0 (F0 m pc ls ((as.reverse ++ .ref pl :: rest).map (vr σ))) (rest.map (vr σ)) (va_Ql (S := Mem) (fun v M' => ∀ x, Value.long v = .long x → LwP L xs (pc + 3) i (.long x :: rest) M') (fun M t => va_P D vwCl (wsM σ tc M) t.heap) (Am σ) (Value.ref (σ pl) :: as.map (vr σ)).toArray) (Am σ) := run
  refine va_calll run hS (fun q _ h => h) (fun q h => h) (fun v M' t H1 locs1 ht hvm hw hB hz hkk hS1 => ?_)
  have hB : va_P D vwCl (wsM σ tc M') t.heap := hB
  rw [ht] at hB
  exact hw v rfl l D tc σ p e s m below meth c k1 k2 Q H1 locs1 ls C hk he hB hS1 hl
theorem L_eq {x : Int32} {off : Int} (hd : decode cL_law pc = .ok (.if_icmp .eq off, 3)) (ht : (pc : Int) + off = ((1488 : Nat) : Int)) (k : LwP L xs 1488 i st M) : LwP L xs pc i (.int x :: .int x :: st) M :=
  fun l D tc σ p e s m below meth c k1 k2 Q H locs ls C hk he hP hS hl => lv_icmp_eq C.2.1 C.2.2.1 hd ht (fun _ => k l D tc σ p e s m below meth c k1 k2 Q H locs ls C hk he hP hS hl) (fun z => absurd rfl z)
theorem L_eqL {x : Int64} {off : Int} (hd0 : decode cL_law pc = .ok (.lcmp, 1)) (hd : decode cL_law (pc + 1) = .ok (.ifCond .eq off, 3)) (ht : ((pc + 1 : Nat) : Int) + off = ((1488 : Nat) : Int)) (k : LwP L xs 1488 i st M) : LwP L xs pc i (.long x :: .long x :: st) M := by
  intro l D tc σ p e s m below meth c k1 k2 Q H locs ls C hk he hP hS hl
  refine W.lcmp C.2.1 C.2.2.1 hd0 ?_
  refine lv_if_eq C.2.1 C.2.2.1 hd ht (fun _ => k l D tc σ p e s m below meth c k1 k2 Q H locs ls C hk he hP hS hl) (fun z => ?_)
  exact absurd (by unfold lg_cmp; simp) z
end Law
