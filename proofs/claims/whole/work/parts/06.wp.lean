/-! WHAT IS ONLY READ: string constants (places 100 + j, their bytes 120 + j), the row KIND_ABOVE (place 90) -/
def kab : List Int32 := [-1, 0, 0, 2, 3, 0, 1]
def RO (σ : Nat → Nat) (U : State) (H : Heap) : Prop :=
  (∀ j, j < 13 → va_O "java/lang/String" (σ (100 + j)) (Am σ) U H ∧ va_OF "java/lang/String" "coder" "B" (.int 0) (σ (100 + j)) (Am σ) U H ∧ va_OF "java/lang/String" "value" "[B" (.ref (σ (120 + j))) (σ (100 + j)) (Am σ) U H ∧ va_T .byte (σ (120 + j)) (sBy.getD j []).length (fun i => .int ((sBy.getD j []).getD i 0)) (Am σ) U H) ∧
  va_Z "java/lang/String" "COMPACT_STRINGS" "Z" (.int 1) (Am σ) U H ∧
  va_Zq "jdk/internal/util/Preconditions" "SIOOBE_FORMATTER" "Ljava/util/function/BiFunction;" (Am σ) U H ∧
  va_Z "FeetBridge" "KIND_ABOVE" "[I" (.ref (σ 90)) (Am σ) U H ∧
  va_T .int (σ 90) 7 (fun i => .int (kab.getD i 0)) (Am σ) U H ∧
  (∀ e ∈ nTab, va_Nw (nestW e.1 e.2.1 e.2.2) U) ∧ va_Nw gsW U ∧
  ∀ c i j, sres c i = some j → vk_R (clsN c) i (sTx.getD j "") (σ (100 + j)) U
theorem RO.at {σ : Nat → Nat} {s U : State} {H : Heap} {locs : List Loc} (h : RO σ s s.heap) (hS : va_S (Am σ) s.heap H locs) (hU : U.heap = H) (hW : s.WarmedH U.vm) : RO σ U U.heap := by
  obtain ⟨h1, h2, h3, h4, h5, hn, hg, h6⟩ := h
  have hq : ∀ a : Nat, a < s.heap.size → ¬ Am σ a → U.heap[a]? = s.heap[a]? := fun a b c => by rw [hU]; exact hS.2.1 a b c
  refine ⟨fun j hj => ?_, (h2.kept hq).moved hW.alike, (h3.kept hq).moved hW.alike, (h4.kept hq).moved hW.alike, (h5.kept hq).moved hW.alike, fun e he => va_Nw.warmM hW (hn e he), va_Nw.warmF hW hg, fun c i j e => (h6 c i j e).warm hW⟩
  obtain ⟨a, b, c, d⟩ := h1 j hj
  exact ⟨(a.kept hq).moved hW.alike, (b.kept hq).moved hW.alike, (c.kept hq).moved hW.alike, (d.kept hq).moved hW.alike⟩
theorem RO.blind {σ : Nat → Nat} {U : State} {g : JFrame} {mk : MethodId} {a : Array Value} (h : RO σ U U.heap) : RO σ (U.calling g mk a) (U.calling g mk a).heap := by
  obtain ⟨h1, h2, h3, h4, h5, hn, hg, h6⟩ := h
  have hv : U.vm.Alike (U.calling g mk a).vm := Vm.Alike.refl U.vm
  refine ⟨fun j hj => ?_, h2.moved hv, h3.moved hv, h4.moved hv, h5.moved hv, fun e he => va_Nw.same rfl rfl (hn e he), va_Nw.same rfl rfl hg, fun c i j e => (h6 c i j e).same rfl⟩
  obtain ⟨a, b, c, d⟩ := h1 j hj
  exact ⟨a.moved hv, b.moved hv, c.moved hv, d.moved hv⟩
/-! THE JUDGEMENTS -/
def rmM (d : Nat) : Room := { frames := d + 2, cells := 0, slots := 0, locals := 64 * (d + 2) }
def retQ (D : va_G) (tc : Nat × Nat × Nat) (σ : Nat → Nat) (ret : Option FieldType) (post : Value → Mem → Prop) : Array Value → State → Outcome → State → Prop := match ret with
  | none => va_Qv (S := Mem) (fun M => post (.int 0) M) (fun M t => va_P D vwCl (wsM σ tc M) t.heap) (Am σ)
  | some .long => va_Ql (S := Mem) (fun r M => post (.long r) M) (fun M t => va_P D vwCl (wsM σ tc M) t.heap) (Am σ)
  | some _ => va_Qi (S := Mem) (fun r M => post (.int r) M) (fun M t => va_P D vwCl (wsM σ tc M) t.heap) (Am σ)
def CX (mi : MI) (D : va_G) (tc : Nat × Nat × Nat) (σ : Nat → Nat) (p : Program) (s : State) (m : MethodId) (args : Array Value) (meth : Method) (c : Code) : Prop :=
  InjM σ ∧ p.tables.exec = Jvm.exec ∧ c.code = mi.2.2.1 ∧ meth.sig.returnType = mi.2.2.2.2 ∧ c.maxLocals = mi.2.2.2.1 ∧ s.vm.findClass (clsN mi.1) = some m.cls ∧ (∀ w ∈ gT, w.before args s = true) ∧ meth.locks = false ∧ va_K D vwCl (tysM tc) s ∧ RO σ s s.heap
/-- at pc of method mi, with these locals, this stack, this memory: it comes to its end with 'post answer memory' -/
def WP (mi : MI) (d : Nat) (post : Value → Mem → Prop) (pc : Nat) (L st : List Value) (M : Mem) : Prop :=
  ∀ (l : Launch) (D : va_G) (tc : Nat × Nat × Nat) (σ : Nat → Nat) (p : Program) (e : Env) (s : State) (m : MethodId) (args : Array Value) (below : List Frame) (meth : Method) (c : Code) (H : Heap) (locs : List Loc) (ls : Array Slot),
    CX mi D tc σ p s m args meth c → L.length = mi.2.2.2.1 → va_P D vwCl (wsM σ tc M) H → va_S (Am σ) s.heap H locs → lv_has ls mi.2.2.2.1 (prs σ L) →
    W p l e (rmM d) s m args below meth c H locs 0 0 (MQ below (retQ D tc σ mi.2.2.2.2 post) args s 0 0 (Am σ)) (F0 m pc ls (st.map (vr σ)))
def mws (mi : MI) : List Cond := .code mi.2.1 mi.2.2.1 mi.2.2.2.1 mi.2.2.2.2 :: gT
/-- a call of method j -/
def CallP (d j : Nat) (args : List Value) (M : Mem) (post : Value → Mem → Prop) : Prop :=
  ∀ (l : Launch) (D : va_G) (tc : Nat × Nat × Nat) (σ : Nat → Nat), InjM σ →
    Met l (mI j).2.1 (mws (mI j)) (rmM d) (va_Pc (args.map (vr σ)) (fun U => va_P D vwCl (wsM σ tc M) U.heap ∧ va_K D vwCl (tysM tc) U ∧ RO σ U U.heap)) (retQ D tc σ (mI j).2.2.2.2 post) 0 0 (Am σ)
theorem mws_good {j : Nat} (h : j < NM) : GoodIn gT (mws (mI j)) := by
  intro w hw
  have hm : w ∈ gT := by
    rcases List.mem_cons.mp hw with rfl | q
    · exact (mok h).1 _ (List.mem_cons_of_mem _ List.mem_cons_self)
    · exact q
  exact ⟨hm, good_of_word (List.mem_filter.mp hm).2⟩
/-! ENTRY -/
/-- the locals at the entry -/
def lpad : List Value → List Value
  | [] => []
  | v :: vs => if v.category = 2 then v :: .retAddr 0 :: lpad vs else v :: lpad vs
def lent (n : Nat) (args : List Value) : List Value := lpad args ++ List.replicate (n - (lpad args).length) (.retAddr 0)
theorem lg_sl_len (σ : Nat → Nat) : ∀ args : List Value, (lg_sl (args.map (vr σ))).length = (lpad args).length := by
  intro args
  induction args with
  | nil => rfl
  | cons v vs ih =>
    have e : ∀ (a : Value) (as : List Value), lg_sl (a :: as) = (if a.category = 2 then [Slot.val a, Slot.second] else [Slot.val a]) ++ lg_sl as := fun a as => by simp [lg_sl]
    rw [List.map_cons, e, List.length_append, ih, lpad, vr_cat]
    split <;> simp <;> omega
theorem lpad_args (σ : Nat → Nat) : ∀ (args : List Value) (b i : Nat) (v : Value), (lpad args)[i]? = some v → isU v = false → (b + i, vr σ v) ∈ lv_args b (args.map (vr σ)) := by
  intro args
  induction args with
  | nil => intro b i v h; cases h
  | cons a as ih =>
    intro b i v h hu
    rw [List.map_cons, lv_args, vr_cat]
    rw [lpad] at h
    by_cases hc : a.category = 2
    · rw [if_pos hc] at h ⊢
      match i, h with
      | 0, h =>
        cases h
        exact List.mem_cons_self
      | 1, h =>
        cases h
        cases hu
      | i + 2, h =>
        have := ih (b + 2) i v (by simpa using h) hu
        rw [show b + (i + 2) = b + 2 + i by omega]
        exact List.mem_cons_of_mem _ this
    · rw [if_neg hc] at h ⊢
      match i, h with
      | 0, h =>
        cases h
        exact List.mem_cons_self
      | i + 1, h =>
        have := ih (b + 1) i v (by simpa using h) hu
        rw [show b + (i + 1) = b + 1 + i by omega]
        exact List.mem_cons_of_mem _ this
theorem call_enter {d j : Nat} {args : List Value} {M : Mem} {post : Value → Mem → Prop} (hj : j < NM) (hn : (lpad args).length ≤ (mI j).2.2.2.1)
    (h : WP (mI j) d post 0 (lent (mI j).2.2.2.1 args) [] M) : CallP d j args M post := by
  intro l D tc σ hI
  obtain ⟨hmw, hma⟩ := mok hj
  simp only [mArgs, Bool.and_eq_true, decide_eq_true_eq] at hma
  obtain ⟨⟨⟨⟨a1, a2⟩, a3⟩, a4⟩, a5⟩ := hma
  refine Met.ofW (cc := (mI j).2.2.1) (maxL := (mI j).2.2.2.1) (ret := (mI j).2.2.2.2) a4 rfl ?_
  intro p e s m args' below meth c s₁ B hml hv
  obtain ⟨rfl, hP, hK, hRO⟩ := hv
  have hts := atoms_spec (ws := mws (mI j)) B.pre
  have hown : s.vm.findClass (mI j).2.1.cls = some m.cls := findClass_of_methodNamed B.named
  rw [a3] at hown
  have hl := lv_entry (args.map (vr σ)) (n := (mI j).2.2.2.1) (by rw [lg_sl_len]; exact hn)
  rw [lg_entry_eq]
  refine h l D tc σ p e s m _ below meth c s.heap [] _ ⟨hI, B.exec, B.bytes, B.returns, hml, hown, fun w hw => hts w (List.mem_cons_of_mem _ hw), B.notSynchronized, hK, hRO⟩ ?_ hP va_S.rf ?_
  · unfold lent
    rw [List.length_append, List.length_replicate]
    omega
  · refine ⟨hl.1, hl.2.1, fun q hq => hl.2.2 q ?_⟩
    obtain ⟨v, h1, h2, h3⟩ := prs_mem.mp hq
    unfold lent at h1
    rw [List.getElem?_append] at h1
    split at h1
    · have := lpad_args σ args 0 q.1 v h1 h2
      rw [Nat.zero_add, ← h3] at this
      exact this
    · rw [List.getElem?_replicate] at h1
      split at h1
      · cases h1
        cases h2
      · cases h1
