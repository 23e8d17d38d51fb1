/-! CONSTRUCTORS -/
/-- new int[n][k], as a row (the row itself stands in a last part: it needs the whole library) -/
def MnaRow : Prop := ∀ {p : Program} {l : Launch} {e : Env} {R : Room} {s : State} {m : MethodId} {args : Array Value} {below : List Frame} {meth : Method} {c : Code} {H : Heap} {locs : List Loc} {cells slots : Nat} {Q : State → Prop} {cc : ByteArray} {pc : Nat} {ls : Array Slot} {rest : List Value} {D : va_G} {cl : List vw_C} {A : Nat → Prop} {tys : List (ClassId × FieldType)} {H0 : Heap} {X : va_W} {own : String} {index : Nat} {cy : ClassId} {n k : Int32} {N' K' : Nat},
  p.tables.exec = Jvm.exec → c.code = cc → s.vm.findClass own = some m.cls → (Cond.classLink own index "[[I").before args s = true → AOI s → (Cond.arrayClass .int).before args s = true → s.vm.findClass "[I" = some cy →
  va_K D cl tys s → va_P D cl X H → va_D A X → va_S A H0 H locs → (∀ q, H0.size ≤ q → A q) → ¬ n < 0 → ¬ k < 0 → n.toNatClampNeg = N' → k.toNatClampNeg = K' → N' * 4 ≤ 536870912 → K' * componentBytes .int ≤ 536870912 → K' ≤ 536870912 → cells + (1 + N') ≤ R.cells → slots + (N' + N' * K') ≤ R.slots → decode cc pc = .ok (.multianewarray index 2, 4) →
  (∀ (q : Nat) (r : Nat → Nat) (cA : ClassId) (H1 : Heap), va_K D cl (tys ++ [(cA, .array .int)]) s → va_P D cl ((X ++ [(q, .inl (cA, N', .inr (.inr (.inr (.inr (fun i => if i < N' then some (r i) else none))))))]) ++ ((List.range N').map r).map (fun a => (a, .inl (cy, K', .inl (fun _ => 0))))) H1 → va_D A ((X ++ [(q, .inl (cA, N', .inr (.inr (.inr (.inr (fun i => if i < N' then some (r i) else none))))))]) ++ ((List.range N').map r).map (fun a => (a, .inl (cy, K', .inl (fun _ => 0))))) → va_S A H0 H1 locs →
    W p l e R s m args below meth c H1 locs (cells + 1 + N') (slots + N' + N' * K') Q (F0 m (pc + 4) ls (.ref q :: rest))) → W p l e R s m args below meth c H locs cells slots Q (F0 m pc ls (.int k :: .int n :: rest))
theorem gw (k : Nat) {w : Cond} (h : lw_tbl[k]? = some w) (hg : goodWord w = true) : w ∈ gT := List.mem_filter.mpr ⟨List.mem_of_getElem? h, hg⟩
section Ctor
variable {p : Program} {l : Launch} {e : Env} {R : Room} {s : State} {m : MethodId} {args : Array Value} {below : List Frame} {meth : Method} {c : Code} {H : Heap} {locs : List Loc} {cells slots : Nat} {Q : State → Prop}
variable {cc : ByteArray} {pc : Nat} {ls : Array Slot} {rest : List Value} {D : va_G} {cl : List vw_C} {A : Nat → Prop} {tys : List (ClassId × FieldType)} {ws : va_W} {H0 : Heap}
theorem va_newi (hexec : p.tables.exec = Jvm.exec) (hb : c.code = cc) (harr : (Cond.arrayClass .int).before args s = true) (hK : va_K D cl tys s) (t0 : Nat) {cI : ClassId} (ht : tys[t0]? = some (cI, .int)) (hP : va_P D cl ws H) (hD : va_D A ws) (hS : va_S A H0 H locs) (hA : ∀ q, H0.size ≤ q → A q)
    {n : Int32} {N' : Nat} (hn : ¬ n < 0) (hN : n.toNatClampNeg = N') (hbytes : N' * componentBytes .int ≤ 536870912) (hcells : cells + 1 ≤ R.cells) (hslots : slots + N' ≤ R.slots) (hdg : decode cc pc = .ok (.newarray .int, 2))
    (kk : ∀ (q : Nat) (H1 : Heap), va_P D cl (ws ++ [(q, .inl (cI, N', .inl (fun _ => 0)))]) H1 → va_D A (ws ++ [(q, .inl (cI, N', .inl (fun _ => 0)))]) → va_S A H0 H1 locs →
      W p l e R s m args below meth c H1 locs (cells + 1) (slots + N') Q (F0 m (pc + 2) ls (.ref q :: rest))) : W p l e R s m args below meth c H locs cells slots Q (F0 m pc ls (.int n :: rest)) := by
  refine va_newa (atype := .int) (ty := .int) (a0 := (N', .inl (fun _ => 0))) hexec hb harr rfl hK hP hD hS hA (fun _ => rfl) hn hN hbytes hcells hslots hdg (fun q cA H1 hK1 hP1 hD1 hS1 => ?_)
  have e1 : s.vm.findClass ("[" ++ FieldType.toString .int) = some cI := (hK.2 t0 _ ht).2
  have e2 : s.vm.findClass ("[" ++ FieldType.toString .int) = some cA := (hK1.2 tys.length (cA, .int) (by simp)).2
  have e3 : cI = cA := Option.some.inj (e1.symm.trans e2)
  subst e3
  exact kk q H1 hP1 hD1 hS1
end Ctor
theorem uws_5 : ∀ w ∈ u_ws RX5 TX5 5, w ∈ gT := by decide +kernel
set_option maxRecDepth 100000 in
set_option maxHeartbeats 4000000 in
theorem big_init5 (l : Launch) (D : va_G) (cI : ClassId) (h0 sz : Nat) : Met l yX5_init (mws (mI 51)) { frames := 1, cells := 1, slots := 12, locals := 64 } (va_Pc [.ref h0] (fun U => U.heap.size = sz ∧ va_P D vwCl [(h0, .inr (4, [.null, .int 0, .int 0, .int 0, .int 0]))] U.heap ∧ va_K D vwCl [(cI, .int)] U ∧ va_D (fun _ => True) [(h0, .inr (4, [.null, .int 0, .int 0, .int 0, .int 0]))])) (va_Qv (fun _ : Unit => True) (fun _ t => ∃ (q1 : Nat), va_P D vwCl [(h0, .inr (4, [.ref q1, .int 0, .int 50, .int 30, .int 0])), (q1, .inl (cI, 12, .inl (fun _ => 0)))] t.heap ∧ va_K D vwCl [(cI, .int)] t ∧ va_D (va_A [(h0, .inr (4, [.null, .int 0, .int 0, .int 0, .int 0]))] sz) [(h0, .inr (4, [.ref q1, .int 0, .int 50, .int 30, .int 0])), (q1, .inl (cI, 12, .inl (fun _ => 0)))]) (va_A [(h0, .inr (4, [.null, .int 0, .int 0, .int 0, .int 0]))] sz)) 1 12 (va_A [(h0, .inr (4, [.null, .int 0, .int 0, .int 0, .int 0]))] sz) := by
  refine Met.ofW (cc := cX5_init) (maxL := 1) (ret := none) (by decide) rfl ?_
  intro p e s m args below meth c s₁ B hml hv
  obtain ⟨rfl, hsz, hP, hK, hD0⟩ := hv
  have hx := B.exec
  have hb := B.bytes
  have hr := B.returns
  have hts0 := atoms_spec (ws := mws (mI 51)) B.pre
  have hts : ∀ w ∈ gT, w.before _ s = true := fun w hw => hts0 w (List.mem_cons_of_mem _ hw)
  have hown : s.vm.findClass RX5 = some m.cls := findClass_of_methodNamed B.named
  have hin : meth.name = "<init>" := (name_of_methodNamed B.named B.method).1
  subst hsz
  have hD := hD0.self (sz := s.heap.size)
  generalize hAe : va_A [(h0, .inr (4, [.null, .int 0, .int 0, .int 0, .int 0]))] s.heap.size = A at hD ⊢
  have hA : ∀ q : Nat, s.heap.size ≤ q → A q := fun q h => by rw [← hAe]; exact Or.inr h
  have hS : va_S A s.heap s.heap [] := va_S.rf
  have hP : va_P D vwCl [(h0, .inr (4, [.null, .int 0, .int 0, .int 0, .int 0]))] s.heap := hP
  have hl := lv_entry ([.ref h0]) (n := 1) (Nat.le_of_ble_eq_true rfl)
  rw [lg_entry_eq]
  generalize (lg_sl ([.ref h0]) ++ List.replicate (1 - (lg_sl ([.ref h0])).length) Slot.unset).toArray = ls at hl ⊢
  have hl : lv_has ls 1 [(0, .ref h0)] := hl
  refine lv_aload_n hx hb dX5_init_0 rfl (lv_at hl 0 rfl) ?_
  refine W.objInit hx hb hown (hts (.methodLink RX5 3 objectInit) (gw 142 (by decide +kernel) (by decide +kernel))) (hts (.instanceMethod objectInit) (gw 79 (by decide +kernel) (by decide +kernel))) (hts (.code objectInit ⟨#[0xb1]⟩ 1 none) (gw 80 (by decide +kernel) (by decide +kernel))) rfl (by rw [hml]; exact hl.1) rfl dX5_init_1 (Nat.le_of_ble_eq_true rfl) (Nat.le_of_ble_eq_true rfl) ?_
  refine W.eq (g2 := F0 m 4 ls []) rfl ?_
  refine lv_aload_n hx hb dX5_init_4 rfl (lv_at hl 0 rfl) ?_
  refine lv_bipush (v := 12) hx hb dX5_init_5 (by decide) ?_
  refine va_newi hx hb (hts (.arrayClass .int) (gw 136 (by decide +kernel) (by decide +kernel))) hK 0 rfl hP hD hS hA (n := 12) (N' := 12) (by decide) (by decide) (Nat.le_of_ble_eq_true rfl) (Nat.le_of_ble_eq_true rfl) (Nat.le_of_ble_eq_true rfl) dX5_init_7 (fun q1 H hP hD hS => ?_)
  have hP : va_P D vwCl [(h0, .inr (4, [.null, .int 0, .int 0, .int 0, .int 0])), (q1, .inl (cI, 12, .inl (fun _ => 0)))] H := hP
  have hD : va_D A [(h0, .inr (4, [.null, .int 0, .int 0, .int 0, .int 0])), (q1, .inl (cI, 12, .inl (fun _ => 0)))] := hD
  refine va_putF (D := D) (ci := 4) (v := .ref q1) (ty := .array .int) (C := RX5) (T := TX5) (N := 5) hx hb hts uws_5 tyX5 tyX5_ok nmX5 hown hK hP hD hS 0 rfl rfl 0 (by decide) (hts (.fieldLink RX5 9 "FeetBridge$Walk" "row" "[I") (gw 143 (by decide +kernel) (by decide +kernel))) (fun _ h9 => h9) rfl hin rfl (by decide +kernel) rfl rfl (Nat.le_of_ble_eq_true rfl) dX5_init_9 (fun H locs hP hD hS => ?_)
  have hP : va_P D vwCl [(h0, .inr (4, [.ref q1, .int 0, .int 0, .int 0, .int 0])), (q1, .inl (cI, 12, .inl (fun _ => 0)))] H := hP
  have hD : va_D A [(h0, .inr (4, [.ref q1, .int 0, .int 0, .int 0, .int 0])), (q1, .inl (cI, 12, .inl (fun _ => 0)))] := hD
  refine lv_aload_n hx hb dX5_init_12 rfl (lv_at hl 0 rfl) ?_
  refine lv_iconst (v := 0) hx hb dX5_init_13 (by decide) ?_
  refine va_put (D := D) (ci := 4) (v := .int 0) (ty := .int) (C := RX5) (T := TX5) (N := 5) hx hb hts uws_5 tyX5 tyX5_ok nmX5 hown hK hP hD hS 0 rfl rfl 1 (by decide) (hts (.fieldLink RX5 15 "FeetBridge$Walk" "kind" "I") (gw 145 (by decide +kernel) (by decide +kernel))) (fun _ h9 => h9) rfl (by decide +kernel) rfl rfl (Nat.le_of_ble_eq_true rfl) dX5_init_14 (fun H locs hP hD hS => ?_)
  have hP : va_P D vwCl [(h0, .inr (4, [.ref q1, .int 0, .int 0, .int 0, .int 0])), (q1, .inl (cI, 12, .inl (fun _ => 0)))] H := hP
  have hD : va_D A [(h0, .inr (4, [.ref q1, .int 0, .int 0, .int 0, .int 0])), (q1, .inl (cI, 12, .inl (fun _ => 0)))] := hD
  refine lv_aload_n hx hb dX5_init_17 rfl (lv_at hl 0 rfl) ?_
  refine lv_bipush (v := 50) hx hb dX5_init_18 (by decide) ?_
  refine va_put (D := D) (ci := 4) (v := .int 50) (ty := .int) (C := RX5) (T := TX5) (N := 5) hx hb hts uws_5 tyX5 tyX5_ok nmX5 hown hK hP hD hS 0 rfl rfl 2 (by decide) (hts (.fieldLink RX5 19 "FeetBridge$Walk" "gait" "I") (gw 147 (by decide +kernel) (by decide +kernel))) (fun _ h9 => h9) rfl (by decide +kernel) rfl rfl (Nat.le_of_ble_eq_true rfl) dX5_init_20 (fun H locs hP hD hS => ?_)
  have hP : va_P D vwCl [(h0, .inr (4, [.ref q1, .int 0, .int 50, .int 0, .int 0])), (q1, .inl (cI, 12, .inl (fun _ => 0)))] H := hP
  have hD : va_D A [(h0, .inr (4, [.ref q1, .int 0, .int 50, .int 0, .int 0])), (q1, .inl (cI, 12, .inl (fun _ => 0)))] := hD
  refine lv_aload_n hx hb dX5_init_23 rfl (lv_at hl 0 rfl) ?_
  refine lv_bipush (v := 30) hx hb dX5_init_24 (by decide) ?_
  refine va_put (D := D) (ci := 4) (v := .int 30) (ty := .int) (C := RX5) (T := TX5) (N := 5) hx hb hts uws_5 tyX5 tyX5_ok nmX5 hown hK hP hD hS 0 rfl rfl 3 (by decide) (hts (.fieldLink RX5 22 "FeetBridge$Walk" "balance" "I") (gw 149 (by decide +kernel) (by decide +kernel))) (fun _ h9 => h9) rfl (by decide +kernel) rfl rfl (Nat.le_of_ble_eq_true rfl) dX5_init_26 (fun H locs hP hD hS => ?_)
  have hP : va_P D vwCl [(h0, .inr (4, [.ref q1, .int 0, .int 50, .int 30, .int 0])), (q1, .inl (cI, 12, .inl (fun _ => 0)))] H := hP
  have hD : va_D A [(h0, .inr (4, [.ref q1, .int 0, .int 50, .int 30, .int 0])), (q1, .inl (cI, 12, .inl (fun _ => 0)))] := hD
  refine lv_aload_n hx hb dX5_init_29 rfl (lv_at hl 0 rfl) ?_
  refine lv_iconst (v := 0) hx hb dX5_init_30 (by decide) ?_
  refine va_put (D := D) (ci := 4) (v := .int 0) (ty := .int) (C := RX5) (T := TX5) (N := 5) hx hb hts uws_5 tyX5 tyX5_ok nmX5 hown hK hP hD hS 0 rfl rfl 4 (by decide) (hts (.fieldLink RX5 25 "FeetBridge$Walk" "night" "I") (gw 151 (by decide +kernel) (by decide +kernel))) (fun _ h9 => h9) rfl (by decide +kernel) rfl rfl (Nat.le_of_ble_eq_true rfl) dX5_init_31 (fun H locs hP hD hS => ?_)
  have hP : va_P D vwCl [(h0, .inr (4, [.ref q1, .int 0, .int 50, .int 30, .int 0])), (q1, .inl (cI, 12, .inl (fun _ => 0)))] H := hP
  have hD : va_D A [(h0, .inr (4, [.ref q1, .int 0, .int 50, .int 30, .int 0])), (q1, .inl (cI, 12, .inl (fun _ => 0)))] := hD
  exact W.vret hx hb hr (fun t ht hW => ⟨⟨(), rfl, trivial, q1, by rw [ht]; exact hP, va_K.moved hW.alike hK, hD⟩, hS.F ht⟩) hS.2.2 dX5_init_34
theorem uws_3 : ∀ w ∈ u_ws RX3 TX3 10, w ∈ gT := by decide +kernel
set_option maxRecDepth 100000 in
set_option maxHeartbeats 4000000 in
theorem big_init3 (l : Launch) (D : va_G) (cI : ClassId) (h0 sz : Nat) : Met l yX3_init (mws (mI 27)) { frames := 1, cells := 5, slots := 604, locals := 64 } (va_Pc [.ref h0] (fun U => U.heap.size = sz ∧ va_P D vwCl [(h0, .inr (2, [.null, .int 0, .null, .null, .null, .null, .int 0, .int 0, .int 0, .int 0]))] U.heap ∧ va_K D vwCl [(cI, .int)] U ∧ va_D (fun _ => True) [(h0, .inr (2, [.null, .int 0, .null, .null, .null, .null, .int 0, .int 0, .int 0, .int 0]))])) (va_Qv (fun _ : Unit => True) (fun _ t => ∃ (q1 : Nat), ∃ (q2 : Nat), ∃ (q3 : Nat), ∃ (q4 : Nat), ∃ (q5 : Nat), va_P D vwCl [(h0, .inr (2, [.ref q1, .int 0, .ref q2, .ref q3, .ref q4, .ref q5, .int 0, .int 0, .int 5, .int 0])), (q1, .inl (cI, 120, .inl (fun _ => 0))), (q2, .inl (cI, 121, .inl (fun _ => 0))), (q3, .inl (cI, 121, .inl (fun _ => 0))), (q4, .inl (cI, 121, .inl (fun _ => 0))), (q5, .inl (cI, 121, .inl (fun _ => 0)))] t.heap ∧ va_K D vwCl [(cI, .int)] t ∧ va_D (va_A [(h0, .inr (2, [.null, .int 0, .null, .null, .null, .null, .int 0, .int 0, .int 0, .int 0]))] sz) [(h0, .inr (2, [.ref q1, .int 0, .ref q2, .ref q3, .ref q4, .ref q5, .int 0, .int 0, .int 5, .int 0])), (q1, .inl (cI, 120, .inl (fun _ => 0))), (q2, .inl (cI, 121, .inl (fun _ => 0))), (q3, .inl (cI, 121, .inl (fun _ => 0))), (q4, .inl (cI, 121, .inl (fun _ => 0))), (q5, .inl (cI, 121, .inl (fun _ => 0)))]) (va_A [(h0, .inr (2, [.null, .int 0, .null, .null, .null, .null, .int 0, .int 0, .int 0, .int 0]))] sz)) 5 604 (va_A [(h0, .inr (2, [.null, .int 0, .null, .null, .null, .null, .int 0, .int 0, .int 0, .int 0]))] sz) := by
  refine Met.ofW (cc := cX3_init) (maxL := 1) (ret := none) (by decide) rfl ?_
  intro p e s m args below meth c s₁ B hml hv
  obtain ⟨rfl, hsz, hP, hK, hD0⟩ := hv
  have hx := B.exec
  have hb := B.bytes
  have hr := B.returns
  have hts0 := atoms_spec (ws := mws (mI 27)) B.pre
  have hts : ∀ w ∈ gT, w.before _ s = true := fun w hw => hts0 w (List.mem_cons_of_mem _ hw)
  have hown : s.vm.findClass RX3 = some m.cls := findClass_of_methodNamed B.named
  have hin : meth.name = "<init>" := (name_of_methodNamed B.named B.method).1
  subst hsz
  have hD := hD0.self (sz := s.heap.size)
  generalize hAe : va_A [(h0, .inr (2, [.null, .int 0, .null, .null, .null, .null, .int 0, .int 0, .int 0, .int 0]))] s.heap.size = A at hD ⊢
  have hA : ∀ q : Nat, s.heap.size ≤ q → A q := fun q h => by rw [← hAe]; exact Or.inr h
  have hS : va_S A s.heap s.heap [] := va_S.rf
  have hP : va_P D vwCl [(h0, .inr (2, [.null, .int 0, .null, .null, .null, .null, .int 0, .int 0, .int 0, .int 0]))] s.heap := hP
  have hl := lv_entry ([.ref h0]) (n := 1) (Nat.le_of_ble_eq_true rfl)
  rw [lg_entry_eq]
  generalize (lg_sl ([.ref h0]) ++ List.replicate (1 - (lg_sl ([.ref h0])).length) Slot.unset).toArray = ls at hl ⊢
  have hl : lv_has ls 1 [(0, .ref h0)] := hl
  refine lv_aload_n hx hb dX3_init_0 rfl (lv_at hl 0 rfl) ?_
  refine W.objInit hx hb hown (hts (.methodLink RX3 3 objectInit) (gw 193 (by decide +kernel) (by decide +kernel))) (hts (.instanceMethod objectInit) (gw 79 (by decide +kernel) (by decide +kernel))) (hts (.code objectInit ⟨#[0xb1]⟩ 1 none) (gw 80 (by decide +kernel) (by decide +kernel))) rfl (by rw [hml]; exact hl.1) rfl dX3_init_1 (Nat.le_of_ble_eq_true rfl) (Nat.le_of_ble_eq_true rfl) ?_
  refine W.eq (g2 := F0 m 4 ls []) rfl ?_
  refine lv_aload_n hx hb dX3_init_4 rfl (lv_at hl 0 rfl) ?_
  refine lv_bipush (v := 120) hx hb dX3_init_5 (by decide) ?_
  refine va_newi hx hb (hts (.arrayClass .int) (gw 136 (by decide +kernel) (by decide +kernel))) hK 0 rfl hP hD hS hA (n := 120) (N' := 120) (by decide) (by decide) (Nat.le_of_ble_eq_true rfl) (Nat.le_of_ble_eq_true rfl) (Nat.le_of_ble_eq_true rfl) dX3_init_7 (fun q1 H hP hD hS => ?_)
  have hP : va_P D vwCl [(h0, .inr (2, [.null, .int 0, .null, .null, .null, .null, .int 0, .int 0, .int 0, .int 0])), (q1, .inl (cI, 120, .inl (fun _ => 0)))] H := hP
  have hD : va_D A [(h0, .inr (2, [.null, .int 0, .null, .null, .null, .null, .int 0, .int 0, .int 0, .int 0])), (q1, .inl (cI, 120, .inl (fun _ => 0)))] := hD
  refine va_putF (D := D) (ci := 2) (v := .ref q1) (ty := .array .int) (C := RX3) (T := TX3) (N := 10) hx hb hts uws_3 tyX3 tyX3_ok nmX3 hown hK hP hD hS 0 rfl rfl 0 (by decide) (hts (.fieldLink RX3 9 "FeetBridge$Reader" "tape" "[I") (gw 194 (by decide +kernel) (by decide +kernel))) (fun _ h9 => h9) rfl hin rfl (by decide +kernel) rfl rfl (Nat.le_of_ble_eq_true rfl) dX3_init_9 (fun H locs hP hD hS => ?_)
  have hP : va_P D vwCl [(h0, .inr (2, [.ref q1, .int 0, .null, .null, .null, .null, .int 0, .int 0, .int 0, .int 0])), (q1, .inl (cI, 120, .inl (fun _ => 0)))] H := hP
  have hD : va_D A [(h0, .inr (2, [.ref q1, .int 0, .null, .null, .null, .null, .int 0, .int 0, .int 0, .int 0])), (q1, .inl (cI, 120, .inl (fun _ => 0)))] := hD
  refine lv_aload_n hx hb dX3_init_12 rfl (lv_at hl 0 rfl) ?_
  refine lv_iconst (v := 0) hx hb dX3_init_13 (by decide) ?_
  refine va_put (D := D) (ci := 2) (v := .int 0) (ty := .int) (C := RX3) (T := TX3) (N := 10) hx hb hts uws_3 tyX3 tyX3_ok nmX3 hown hK hP hD hS 0 rfl rfl 1 (by decide) (hts (.fieldLink RX3 15 "FeetBridge$Reader" "size" "I") (gw 195 (by decide +kernel) (by decide +kernel))) (fun _ h9 => h9) rfl (by decide +kernel) rfl rfl (Nat.le_of_ble_eq_true rfl) dX3_init_14 (fun H locs hP hD hS => ?_)
  have hP : va_P D vwCl [(h0, .inr (2, [.ref q1, .int 0, .null, .null, .null, .null, .int 0, .int 0, .int 0, .int 0])), (q1, .inl (cI, 120, .inl (fun _ => 0)))] H := hP
  have hD : va_D A [(h0, .inr (2, [.ref q1, .int 0, .null, .null, .null, .null, .int 0, .int 0, .int 0, .int 0])), (q1, .inl (cI, 120, .inl (fun _ => 0)))] := hD
  refine lv_aload_n hx hb dX3_init_17 rfl (lv_at hl 0 rfl) ?_
  refine lv_bipush (v := 121) hx hb dX3_init_18 (by decide) ?_
  refine va_newi hx hb (hts (.arrayClass .int) (gw 136 (by decide +kernel) (by decide +kernel))) hK 0 rfl hP hD hS hA (n := 121) (N' := 121) (by decide) (by decide) (Nat.le_of_ble_eq_true rfl) (Nat.le_of_ble_eq_true rfl) (Nat.le_of_ble_eq_true rfl) dX3_init_20 (fun q2 H hP hD hS => ?_)
  have hP : va_P D vwCl [(h0, .inr (2, [.ref q1, .int 0, .null, .null, .null, .null, .int 0, .int 0, .int 0, .int 0])), (q1, .inl (cI, 120, .inl (fun _ => 0))), (q2, .inl (cI, 121, .inl (fun _ => 0)))] H := hP
  have hD : va_D A [(h0, .inr (2, [.ref q1, .int 0, .null, .null, .null, .null, .int 0, .int 0, .int 0, .int 0])), (q1, .inl (cI, 120, .inl (fun _ => 0))), (q2, .inl (cI, 121, .inl (fun _ => 0)))] := hD
  refine va_putF (D := D) (ci := 2) (v := .ref q2) (ty := .array .int) (C := RX3) (T := TX3) (N := 10) hx hb hts uws_3 tyX3 tyX3_ok nmX3 hown hK hP hD hS 0 rfl rfl 2 (by decide) (hts (.fieldLink RX3 19 "FeetBridge$Reader" "sorts" "[I") (gw 197 (by decide +kernel) (by decide +kernel))) (fun _ h9 => h9) rfl hin rfl (by decide +kernel) rfl rfl (Nat.le_of_ble_eq_true rfl) dX3_init_22 (fun H locs hP hD hS => ?_)
  have hP : va_P D vwCl [(h0, .inr (2, [.ref q1, .int 0, .ref q2, .null, .null, .null, .int 0, .int 0, .int 0, .int 0])), (q1, .inl (cI, 120, .inl (fun _ => 0))), (q2, .inl (cI, 121, .inl (fun _ => 0)))] H := hP
  have hD : va_D A [(h0, .inr (2, [.ref q1, .int 0, .ref q2, .null, .null, .null, .int 0, .int 0, .int 0, .int 0])), (q1, .inl (cI, 120, .inl (fun _ => 0))), (q2, .inl (cI, 121, .inl (fun _ => 0)))] := hD
  refine lv_aload_n hx hb dX3_init_25 rfl (lv_at hl 0 rfl) ?_
  refine lv_bipush (v := 121) hx hb dX3_init_26 (by decide) ?_
  refine va_newi hx hb (hts (.arrayClass .int) (gw 136 (by decide +kernel) (by decide +kernel))) hK 0 rfl hP hD hS hA (n := 121) (N' := 121) (by decide) (by decide) (Nat.le_of_ble_eq_true rfl) (Nat.le_of_ble_eq_true rfl) (Nat.le_of_ble_eq_true rfl) dX3_init_28 (fun q3 H hP hD hS => ?_)
  have hP : va_P D vwCl [(h0, .inr (2, [.ref q1, .int 0, .ref q2, .null, .null, .null, .int 0, .int 0, .int 0, .int 0])), (q1, .inl (cI, 120, .inl (fun _ => 0))), (q2, .inl (cI, 121, .inl (fun _ => 0))), (q3, .inl (cI, 121, .inl (fun _ => 0)))] H := hP
  have hD : va_D A [(h0, .inr (2, [.ref q1, .int 0, .ref q2, .null, .null, .null, .int 0, .int 0, .int 0, .int 0])), (q1, .inl (cI, 120, .inl (fun _ => 0))), (q2, .inl (cI, 121, .inl (fun _ => 0))), (q3, .inl (cI, 121, .inl (fun _ => 0)))] := hD
  refine va_putF (D := D) (ci := 2) (v := .ref q3) (ty := .array .int) (C := RX3) (T := TX3) (N := 10) hx hb hts uws_3 tyX3 tyX3_ok nmX3 hown hK hP hD hS 0 rfl rfl 3 (by decide) (hts (.fieldLink RX3 22 "FeetBridge$Reader" "starts" "[I") (gw 198 (by decide +kernel) (by decide +kernel))) (fun _ h9 => h9) rfl hin rfl (by decide +kernel) rfl rfl (Nat.le_of_ble_eq_true rfl) dX3_init_30 (fun H locs hP hD hS => ?_)
  have hP : va_P D vwCl [(h0, .inr (2, [.ref q1, .int 0, .ref q2, .ref q3, .null, .null, .int 0, .int 0, .int 0, .int 0])), (q1, .inl (cI, 120, .inl (fun _ => 0))), (q2, .inl (cI, 121, .inl (fun _ => 0))), (q3, .inl (cI, 121, .inl (fun _ => 0)))] H := hP
  have hD : va_D A [(h0, .inr (2, [.ref q1, .int 0, .ref q2, .ref q3, .null, .null, .int 0, .int 0, .int 0, .int 0])), (q1, .inl (cI, 120, .inl (fun _ => 0))), (q2, .inl (cI, 121, .inl (fun _ => 0))), (q3, .inl (cI, 121, .inl (fun _ => 0)))] := hD
  refine lv_aload_n hx hb dX3_init_33 rfl (lv_at hl 0 rfl) ?_
  refine lv_bipush (v := 121) hx hb dX3_init_34 (by decide) ?_
  refine va_newi hx hb (hts (.arrayClass .int) (gw 136 (by decide +kernel) (by decide +kernel))) hK 0 rfl hP hD hS hA (n := 121) (N' := 121) (by decide) (by decide) (Nat.le_of_ble_eq_true rfl) (Nat.le_of_ble_eq_true rfl) (Nat.le_of_ble_eq_true rfl) dX3_init_36 (fun q4 H hP hD hS => ?_)
  have hP : va_P D vwCl [(h0, .inr (2, [.ref q1, .int 0, .ref q2, .ref q3, .null, .null, .int 0, .int 0, .int 0, .int 0])), (q1, .inl (cI, 120, .inl (fun _ => 0))), (q2, .inl (cI, 121, .inl (fun _ => 0))), (q3, .inl (cI, 121, .inl (fun _ => 0))), (q4, .inl (cI, 121, .inl (fun _ => 0)))] H := hP
  have hD : va_D A [(h0, .inr (2, [.ref q1, .int 0, .ref q2, .ref q3, .null, .null, .int 0, .int 0, .int 0, .int 0])), (q1, .inl (cI, 120, .inl (fun _ => 0))), (q2, .inl (cI, 121, .inl (fun _ => 0))), (q3, .inl (cI, 121, .inl (fun _ => 0))), (q4, .inl (cI, 121, .inl (fun _ => 0)))] := hD
  refine va_putF (D := D) (ci := 2) (v := .ref q4) (ty := .array .int) (C := RX3) (T := TX3) (N := 10) hx hb hts uws_3 tyX3 tyX3_ok nmX3 hown hK hP hD hS 0 rfl rfl 4 (by decide) (hts (.fieldLink RX3 25 "FeetBridge$Reader" "ends" "[I") (gw 199 (by decide +kernel) (by decide +kernel))) (fun _ h9 => h9) rfl hin rfl (by decide +kernel) rfl rfl (Nat.le_of_ble_eq_true rfl) dX3_init_38 (fun H locs hP hD hS => ?_)
  have hP : va_P D vwCl [(h0, .inr (2, [.ref q1, .int 0, .ref q2, .ref q3, .ref q4, .null, .int 0, .int 0, .int 0, .int 0])), (q1, .inl (cI, 120, .inl (fun _ => 0))), (q2, .inl (cI, 121, .inl (fun _ => 0))), (q3, .inl (cI, 121, .inl (fun _ => 0))), (q4, .inl (cI, 121, .inl (fun _ => 0)))] H := hP
  have hD : va_D A [(h0, .inr (2, [.ref q1, .int 0, .ref q2, .ref q3, .ref q4, .null, .int 0, .int 0, .int 0, .int 0])), (q1, .inl (cI, 120, .inl (fun _ => 0))), (q2, .inl (cI, 121, .inl (fun _ => 0))), (q3, .inl (cI, 121, .inl (fun _ => 0))), (q4, .inl (cI, 121, .inl (fun _ => 0)))] := hD
  refine lv_aload_n hx hb dX3_init_41 rfl (lv_at hl 0 rfl) ?_
  refine lv_bipush (v := 121) hx hb dX3_init_42 (by decide) ?_
  refine va_newi hx hb (hts (.arrayClass .int) (gw 136 (by decide +kernel) (by decide +kernel))) hK 0 rfl hP hD hS hA (n := 121) (N' := 121) (by decide) (by decide) (Nat.le_of_ble_eq_true rfl) (Nat.le_of_ble_eq_true rfl) (Nat.le_of_ble_eq_true rfl) dX3_init_44 (fun q5 H hP hD hS => ?_)
  have hP : va_P D vwCl [(h0, .inr (2, [.ref q1, .int 0, .ref q2, .ref q3, .ref q4, .null, .int 0, .int 0, .int 0, .int 0])), (q1, .inl (cI, 120, .inl (fun _ => 0))), (q2, .inl (cI, 121, .inl (fun _ => 0))), (q3, .inl (cI, 121, .inl (fun _ => 0))), (q4, .inl (cI, 121, .inl (fun _ => 0))), (q5, .inl (cI, 121, .inl (fun _ => 0)))] H := hP
  have hD : va_D A [(h0, .inr (2, [.ref q1, .int 0, .ref q2, .ref q3, .ref q4, .null, .int 0, .int 0, .int 0, .int 0])), (q1, .inl (cI, 120, .inl (fun _ => 0))), (q2, .inl (cI, 121, .inl (fun _ => 0))), (q3, .inl (cI, 121, .inl (fun _ => 0))), (q4, .inl (cI, 121, .inl (fun _ => 0))), (q5, .inl (cI, 121, .inl (fun _ => 0)))] := hD
  refine va_putF (D := D) (ci := 2) (v := .ref q5) (ty := .array .int) (C := RX3) (T := TX3) (N := 10) hx hb hts uws_3 tyX3 tyX3_ok nmX3 hown hK hP hD hS 0 rfl rfl 5 (by decide) (hts (.fieldLink RX3 28 "FeetBridge$Reader" "values" "[I") (gw 200 (by decide +kernel) (by decide +kernel))) (fun _ h9 => h9) rfl hin rfl (by decide +kernel) rfl rfl (Nat.le_of_ble_eq_true rfl) dX3_init_46 (fun H locs hP hD hS => ?_)
  have hP : va_P D vwCl [(h0, .inr (2, [.ref q1, .int 0, .ref q2, .ref q3, .ref q4, .ref q5, .int 0, .int 0, .int 0, .int 0])), (q1, .inl (cI, 120, .inl (fun _ => 0))), (q2, .inl (cI, 121, .inl (fun _ => 0))), (q3, .inl (cI, 121, .inl (fun _ => 0))), (q4, .inl (cI, 121, .inl (fun _ => 0))), (q5, .inl (cI, 121, .inl (fun _ => 0)))] H := hP
  have hD : va_D A [(h0, .inr (2, [.ref q1, .int 0, .ref q2, .ref q3, .ref q4, .ref q5, .int 0, .int 0, .int 0, .int 0])), (q1, .inl (cI, 120, .inl (fun _ => 0))), (q2, .inl (cI, 121, .inl (fun _ => 0))), (q3, .inl (cI, 121, .inl (fun _ => 0))), (q4, .inl (cI, 121, .inl (fun _ => 0))), (q5, .inl (cI, 121, .inl (fun _ => 0)))] := hD
  refine lv_aload_n hx hb dX3_init_49 rfl (lv_at hl 0 rfl) ?_
  refine lv_iconst (v := 0) hx hb dX3_init_50 (by decide) ?_
  refine va_put (D := D) (ci := 2) (v := .int 0) (ty := .int) (C := RX3) (T := TX3) (N := 10) hx hb hts uws_3 tyX3 tyX3_ok nmX3 hown hK hP hD hS 0 rfl rfl 6 (by decide) (hts (.fieldLink RX3 31 "FeetBridge$Reader" "tokens" "I") (gw 201 (by decide +kernel) (by decide +kernel))) (fun _ h9 => h9) rfl (by decide +kernel) rfl rfl (Nat.le_of_ble_eq_true rfl) dX3_init_51 (fun H locs hP hD hS => ?_)
  have hP : va_P D vwCl [(h0, .inr (2, [.ref q1, .int 0, .ref q2, .ref q3, .ref q4, .ref q5, .int 0, .int 0, .int 0, .int 0])), (q1, .inl (cI, 120, .inl (fun _ => 0))), (q2, .inl (cI, 121, .inl (fun _ => 0))), (q3, .inl (cI, 121, .inl (fun _ => 0))), (q4, .inl (cI, 121, .inl (fun _ => 0))), (q5, .inl (cI, 121, .inl (fun _ => 0)))] H := hP
  have hD : va_D A [(h0, .inr (2, [.ref q1, .int 0, .ref q2, .ref q3, .ref q4, .ref q5, .int 0, .int 0, .int 0, .int 0])), (q1, .inl (cI, 120, .inl (fun _ => 0))), (q2, .inl (cI, 121, .inl (fun _ => 0))), (q3, .inl (cI, 121, .inl (fun _ => 0))), (q4, .inl (cI, 121, .inl (fun _ => 0))), (q5, .inl (cI, 121, .inl (fun _ => 0)))] := hD
  refine lv_aload_n hx hb dX3_init_54 rfl (lv_at hl 0 rfl) ?_
  refine lv_iconst (v := 0) hx hb dX3_init_55 (by decide) ?_
  refine va_put (D := D) (ci := 2) (v := .int 0) (ty := .int) (C := RX3) (T := TX3) (N := 10) hx hb hts uws_3 tyX3 tyX3_ok nmX3 hown hK hP hD hS 0 rfl rfl 7 (by decide) (hts (.fieldLink RX3 34 "FeetBridge$Reader" "at" "I") (gw 202 (by decide +kernel) (by decide +kernel))) (fun _ h9 => h9) rfl (by decide +kernel) rfl rfl (Nat.le_of_ble_eq_true rfl) dX3_init_56 (fun H locs hP hD hS => ?_)
  have hP : va_P D vwCl [(h0, .inr (2, [.ref q1, .int 0, .ref q2, .ref q3, .ref q4, .ref q5, .int 0, .int 0, .int 0, .int 0])), (q1, .inl (cI, 120, .inl (fun _ => 0))), (q2, .inl (cI, 121, .inl (fun _ => 0))), (q3, .inl (cI, 121, .inl (fun _ => 0))), (q4, .inl (cI, 121, .inl (fun _ => 0))), (q5, .inl (cI, 121, .inl (fun _ => 0)))] H := hP
  have hD : va_D A [(h0, .inr (2, [.ref q1, .int 0, .ref q2, .ref q3, .ref q4, .ref q5, .int 0, .int 0, .int 0, .int 0])), (q1, .inl (cI, 120, .inl (fun _ => 0))), (q2, .inl (cI, 121, .inl (fun _ => 0))), (q3, .inl (cI, 121, .inl (fun _ => 0))), (q4, .inl (cI, 121, .inl (fun _ => 0))), (q5, .inl (cI, 121, .inl (fun _ => 0)))] := hD
  refine lv_aload_n hx hb dX3_init_59 rfl (lv_at hl 0 rfl) ?_
  refine lv_iconst (v := 5) hx hb dX3_init_60 (by decide) ?_
  refine va_put (D := D) (ci := 2) (v := .int 5) (ty := .int) (C := RX3) (T := TX3) (N := 10) hx hb hts uws_3 tyX3 tyX3_ok nmX3 hown hK hP hD hS 0 rfl rfl 8 (by decide) (hts (.fieldLink RX3 37 "FeetBridge$Reader" "sort" "I") (gw 203 (by decide +kernel) (by decide +kernel))) (fun _ h9 => h9) rfl (by decide +kernel) rfl rfl (Nat.le_of_ble_eq_true rfl) dX3_init_61 (fun H locs hP hD hS => ?_)
  have hP : va_P D vwCl [(h0, .inr (2, [.ref q1, .int 0, .ref q2, .ref q3, .ref q4, .ref q5, .int 0, .int 0, .int 5, .int 0])), (q1, .inl (cI, 120, .inl (fun _ => 0))), (q2, .inl (cI, 121, .inl (fun _ => 0))), (q3, .inl (cI, 121, .inl (fun _ => 0))), (q4, .inl (cI, 121, .inl (fun _ => 0))), (q5, .inl (cI, 121, .inl (fun _ => 0)))] H := hP
  have hD : va_D A [(h0, .inr (2, [.ref q1, .int 0, .ref q2, .ref q3, .ref q4, .ref q5, .int 0, .int 0, .int 5, .int 0])), (q1, .inl (cI, 120, .inl (fun _ => 0))), (q2, .inl (cI, 121, .inl (fun _ => 0))), (q3, .inl (cI, 121, .inl (fun _ => 0))), (q4, .inl (cI, 121, .inl (fun _ => 0))), (q5, .inl (cI, 121, .inl (fun _ => 0)))] := hD
  refine lv_aload_n hx hb dX3_init_64 rfl (lv_at hl 0 rfl) ?_
  refine lv_iconst (v := 0) hx hb dX3_init_65 (by decide) ?_
  refine va_put (D := D) (ci := 2) (v := .int 0) (ty := .int) (C := RX3) (T := TX3) (N := 10) hx hb hts uws_3 tyX3 tyX3_ok nmX3 hown hK hP hD hS 0 rfl rfl 9 (by decide) (hts (.fieldLink RX3 40 "FeetBridge$Reader" "value" "I") (gw 204 (by decide +kernel) (by decide +kernel))) (fun _ h9 => h9) rfl (by decide +kernel) rfl rfl (Nat.le_of_ble_eq_true rfl) dX3_init_66 (fun H locs hP hD hS => ?_)
  have hP : va_P D vwCl [(h0, .inr (2, [.ref q1, .int 0, .ref q2, .ref q3, .ref q4, .ref q5, .int 0, .int 0, .int 5, .int 0])), (q1, .inl (cI, 120, .inl (fun _ => 0))), (q2, .inl (cI, 121, .inl (fun _ => 0))), (q3, .inl (cI, 121, .inl (fun _ => 0))), (q4, .inl (cI, 121, .inl (fun _ => 0))), (q5, .inl (cI, 121, .inl (fun _ => 0)))] H := hP
  have hD : va_D A [(h0, .inr (2, [.ref q1, .int 0, .ref q2, .ref q3, .ref q4, .ref q5, .int 0, .int 0, .int 5, .int 0])), (q1, .inl (cI, 120, .inl (fun _ => 0))), (q2, .inl (cI, 121, .inl (fun _ => 0))), (q3, .inl (cI, 121, .inl (fun _ => 0))), (q4, .inl (cI, 121, .inl (fun _ => 0))), (q5, .inl (cI, 121, .inl (fun _ => 0)))] := hD
  exact W.vret hx hb hr (fun t ht hW => ⟨⟨(), rfl, trivial, q1, q2, q3, q4, q5, by rw [ht]; exact hP, va_K.moved hW.alike hK, hD⟩, hS.F ht⟩) hS.2.2 dX3_init_69
theorem uws_0 : ∀ w ∈ u_ws RX0 TX0 10, w ∈ gT := by decide +kernel
set_option maxRecDepth 100000 in
set_option maxHeartbeats 4000000 in
theorem big_init0 (l : Launch) (D : va_G) (cI : ClassId) (h0 sz : Nat) : Met l yX0_init (mws (mI 0)) { frames := 1, cells := 6, slots := 46, locals := 64 } (va_Pc [.ref h0] (fun U => U.heap.size = sz ∧ va_P D vwCl [(h0, .inr (0, [.null, .null, .null, .null, .null, .null, .int 0, .int 0, .int 0, .int 0]))] U.heap ∧ va_K D vwCl [(cI, .int)] U ∧ va_D (fun _ => True) [(h0, .inr (0, [.null, .null, .null, .null, .null, .null, .int 0, .int 0, .int 0, .int 0]))])) (va_Qv (fun _ : Unit => True) (fun _ t => ∃ (q1 : Nat), ∃ (q2 : Nat), ∃ (q3 : Nat), ∃ (q4 : Nat), ∃ (q5 : Nat), ∃ (q6 : Nat), va_P D vwCl [(h0, .inr (0, [.ref q1, .ref q2, .ref q3, .ref q4, .ref q5, .ref q6, .int 0, .int 0, .int 0, .int 1])), (q1, .inl (cI, 12, .inl (upd (upd (upd (upd (upd (upd (upd (upd (upd (upd (upd (upd (fun _ => 0) 0 (50)) 1 (50)) 2 (50)) 3 (50)) 4 (50)) 5 (50)) 6 (50)) 7 (50)) 8 (50)) 9 (50)) 10 (50)) 11 (50)))), (q2, .inl (cI, 6, .inl (fun _ => 0))), (q3, .inl (cI, 6, .inl (fun _ => 0))), (q4, .inl (cI, 6, .inl (fun _ => 0))), (q5, .inl (cI, 6, .inl (fun _ => 0))), (q6, .inl (cI, 10, .inl (upd (upd (upd (upd (upd (upd (upd (upd (upd (upd (fun _ => 0) 0 (-1)) 1 (-1)) 2 (-1)) 3 (-1)) 4 (-1)) 5 (-1)) 6 (-1)) 7 (-1)) 8 (-1)) 9 (-1))))] t.heap ∧ va_K D vwCl [(cI, .int)] t ∧ va_D (va_A [(h0, .inr (0, [.null, .null, .null, .null, .null, .null, .int 0, .int 0, .int 0, .int 0]))] sz) [(h0, .inr (0, [.ref q1, .ref q2, .ref q3, .ref q4, .ref q5, .ref q6, .int 0, .int 0, .int 0, .int 1])), (q1, .inl (cI, 12, .inl (upd (upd (upd (upd (upd (upd (upd (upd (upd (upd (upd (upd (fun _ => 0) 0 (50)) 1 (50)) 2 (50)) 3 (50)) 4 (50)) 5 (50)) 6 (50)) 7 (50)) 8 (50)) 9 (50)) 10 (50)) 11 (50)))), (q2, .inl (cI, 6, .inl (fun _ => 0))), (q3, .inl (cI, 6, .inl (fun _ => 0))), (q4, .inl (cI, 6, .inl (fun _ => 0))), (q5, .inl (cI, 6, .inl (fun _ => 0))), (q6, .inl (cI, 10, .inl (upd (upd (upd (upd (upd (upd (upd (upd (upd (upd (fun _ => 0) 0 (-1)) 1 (-1)) 2 (-1)) 3 (-1)) 4 (-1)) 5 (-1)) 6 (-1)) 7 (-1)) 8 (-1)) 9 (-1))))]) (va_A [(h0, .inr (0, [.null, .null, .null, .null, .null, .null, .int 0, .int 0, .int 0, .int 0]))] sz)) 6 46 (va_A [(h0, .inr (0, [.null, .null, .null, .null, .null, .null, .int 0, .int 0, .int 0, .int 0]))] sz) := by
  refine Met.ofW (cc := cX0_init) (maxL := 2) (ret := none) (by decide) rfl ?_
  intro p e s m args below meth c s₁ B hml hv
  obtain ⟨rfl, hsz, hP, hK, hD0⟩ := hv
  have hx := B.exec
  have hb := B.bytes
  have hr := B.returns
  have hts0 := atoms_spec (ws := mws (mI 0)) B.pre
  have hts : ∀ w ∈ gT, w.before _ s = true := fun w hw => hts0 w (List.mem_cons_of_mem _ hw)
  have hown : s.vm.findClass RX0 = some m.cls := findClass_of_methodNamed B.named
  have hin : meth.name = "<init>" := (name_of_methodNamed B.named B.method).1
  subst hsz
  have hD := hD0.self (sz := s.heap.size)
  generalize hAe : va_A [(h0, .inr (0, [.null, .null, .null, .null, .null, .null, .int 0, .int 0, .int 0, .int 0]))] s.heap.size = A at hD ⊢
  have hA : ∀ q : Nat, s.heap.size ≤ q → A q := fun q h => by rw [← hAe]; exact Or.inr h
  have hS : va_S A s.heap s.heap [] := va_S.rf
  have hP : va_P D vwCl [(h0, .inr (0, [.null, .null, .null, .null, .null, .null, .int 0, .int 0, .int 0, .int 0]))] s.heap := hP
  have hl := lv_entry ([.ref h0]) (n := 2) (Nat.le_of_ble_eq_true rfl)
  rw [lg_entry_eq]
  generalize (lg_sl ([.ref h0]) ++ List.replicate (2 - (lg_sl ([.ref h0])).length) Slot.unset).toArray = ls at hl ⊢
  have hl : lv_has ls 2 [(0, .ref h0)] := hl
  refine lv_aload_n hx hb dX0_init_0 rfl (lv_at hl 0 rfl) ?_
  refine W.objInit hx hb hown (hts (.methodLink RX0 3 objectInit) (gw 86 (by decide +kernel) (by decide +kernel))) (hts (.instanceMethod objectInit) (gw 79 (by decide +kernel) (by decide +kernel))) (hts (.code objectInit ⟨#[0xb1]⟩ 1 none) (gw 80 (by decide +kernel) (by decide +kernel))) rfl (by rw [hml]; exact hl.1) rfl dX0_init_1 (Nat.le_of_ble_eq_true rfl) (Nat.le_of_ble_eq_true rfl) ?_
  refine W.eq (g2 := F0 m 4 ls []) rfl ?_
  refine lv_aload_n hx hb dX0_init_4 rfl (lv_at hl 0 rfl) ?_
  refine lv_bipush (v := 12) hx hb dX0_init_5 (by decide) ?_
  refine va_newi hx hb (hts (.arrayClass .int) (gw 136 (by decide +kernel) (by decide +kernel))) hK 0 rfl hP hD hS hA (n := 12) (N' := 12) (by decide) (by decide) (Nat.le_of_ble_eq_true rfl) (Nat.le_of_ble_eq_true rfl) (Nat.le_of_ble_eq_true rfl) dX0_init_7 (fun q1 H hP hD hS => ?_)
  have hP : va_P D vwCl [(h0, .inr (0, [.null, .null, .null, .null, .null, .null, .int 0, .int 0, .int 0, .int 0])), (q1, .inl (cI, 12, .inl (fun _ => 0)))] H := hP
  have hD : va_D A [(h0, .inr (0, [.null, .null, .null, .null, .null, .null, .int 0, .int 0, .int 0, .int 0])), (q1, .inl (cI, 12, .inl (fun _ => 0)))] := hD
  refine va_putF (D := D) (ci := 0) (v := .ref q1) (ty := .array .int) (C := RX0) (T := TX0) (N := 10) hx hb hts uws_0 tyX0 tyX0_ok nmX0 hown hK hP hD hS 0 rfl rfl 0 (by decide) (hts (.fieldLink RX0 9 "FeetBridge$Bridge" "keeps" "[I") (gw 87 (by decide +kernel) (by decide +kernel))) (fun _ h9 => h9) rfl hin rfl (by decide +kernel) rfl rfl (Nat.le_of_ble_eq_true rfl) dX0_init_9 (fun H locs hP hD hS => ?_)
  have hP : va_P D vwCl [(h0, .inr (0, [.ref q1, .null, .null, .null, .null, .null, .int 0, .int 0, .int 0, .int 0])), (q1, .inl (cI, 12, .inl (fun _ => 0)))] H := hP
  have hD : va_D A [(h0, .inr (0, [.ref q1, .null, .null, .null, .null, .null, .int 0, .int 0, .int 0, .int 0])), (q1, .inl (cI, 12, .inl (fun _ => 0)))] := hD
  refine lv_aload_n hx hb dX0_init_12 rfl (lv_at hl 0 rfl) ?_
  refine lv_bipush (v := 6) hx hb dX0_init_13 (by decide) ?_
  refine va_newi hx hb (hts (.arrayClass .int) (gw 136 (by decide +kernel) (by decide +kernel))) hK 0 rfl hP hD hS hA (n := 6) (N' := 6) (by decide) (by decide) (Nat.le_of_ble_eq_true rfl) (Nat.le_of_ble_eq_true rfl) (Nat.le_of_ble_eq_true rfl) dX0_init_15 (fun q2 H hP hD hS => ?_)
  have hP : va_P D vwCl [(h0, .inr (0, [.ref q1, .null, .null, .null, .null, .null, .int 0, .int 0, .int 0, .int 0])), (q1, .inl (cI, 12, .inl (fun _ => 0))), (q2, .inl (cI, 6, .inl (fun _ => 0)))] H := hP
  have hD : va_D A [(h0, .inr (0, [.ref q1, .null, .null, .null, .null, .null, .int 0, .int 0, .int 0, .int 0])), (q1, .inl (cI, 12, .inl (fun _ => 0))), (q2, .inl (cI, 6, .inl (fun _ => 0)))] := hD
  refine va_putF (D := D) (ci := 0) (v := .ref q2) (ty := .array .int) (C := RX0) (T := TX0) (N := 10) hx hb hts uws_0 tyX0 tyX0_ok nmX0 hown hK hP hD hS 0 rfl rfl 1 (by decide) (hts (.fieldLink RX0 15 "FeetBridge$Bridge" "kinds" "[I") (gw 91 (by decide +kernel) (by decide +kernel))) (fun _ h9 => h9) rfl hin rfl (by decide +kernel) rfl rfl (Nat.le_of_ble_eq_true rfl) dX0_init_17 (fun H locs hP hD hS => ?_)
  have hP : va_P D vwCl [(h0, .inr (0, [.ref q1, .ref q2, .null, .null, .null, .null, .int 0, .int 0, .int 0, .int 0])), (q1, .inl (cI, 12, .inl (fun _ => 0))), (q2, .inl (cI, 6, .inl (fun _ => 0)))] H := hP
  have hD : va_D A [(h0, .inr (0, [.ref q1, .ref q2, .null, .null, .null, .null, .int 0, .int 0, .int 0, .int 0])), (q1, .inl (cI, 12, .inl (fun _ => 0))), (q2, .inl (cI, 6, .inl (fun _ => 0)))] := hD
  refine lv_aload_n hx hb dX0_init_20 rfl (lv_at hl 0 rfl) ?_
  refine lv_bipush (v := 6) hx hb dX0_init_21 (by decide) ?_
  refine va_newi hx hb (hts (.arrayClass .int) (gw 136 (by decide +kernel) (by decide +kernel))) hK 0 rfl hP hD hS hA (n := 6) (N' := 6) (by decide) (by decide) (Nat.le_of_ble_eq_true rfl) (Nat.le_of_ble_eq_true rfl) (Nat.le_of_ble_eq_true rfl) dX0_init_23 (fun q3 H hP hD hS => ?_)
  have hP : va_P D vwCl [(h0, .inr (0, [.ref q1, .ref q2, .null, .null, .null, .null, .int 0, .int 0, .int 0, .int 0])), (q1, .inl (cI, 12, .inl (fun _ => 0))), (q2, .inl (cI, 6, .inl (fun _ => 0))), (q3, .inl (cI, 6, .inl (fun _ => 0)))] H := hP
  have hD : va_D A [(h0, .inr (0, [.ref q1, .ref q2, .null, .null, .null, .null, .int 0, .int 0, .int 0, .int 0])), (q1, .inl (cI, 12, .inl (fun _ => 0))), (q2, .inl (cI, 6, .inl (fun _ => 0))), (q3, .inl (cI, 6, .inl (fun _ => 0)))] := hD
  refine va_putF (D := D) (ci := 0) (v := .ref q3) (ty := .array .int) (C := RX0) (T := TX0) (N := 10) hx hb hts uws_0 tyX0 tyX0_ok nmX0 hown hK hP hD hS 0 rfl rfl 2 (by decide) (hts (.fieldLink RX0 18 "FeetBridge$Bridge" "gaits" "[I") (gw 94 (by decide +kernel) (by decide +kernel))) (fun _ h9 => h9) rfl hin rfl (by decide +kernel) rfl rfl (Nat.le_of_ble_eq_true rfl) dX0_init_25 (fun H locs hP hD hS => ?_)
  have hP : va_P D vwCl [(h0, .inr (0, [.ref q1, .ref q2, .ref q3, .null, .null, .null, .int 0, .int 0, .int 0, .int 0])), (q1, .inl (cI, 12, .inl (fun _ => 0))), (q2, .inl (cI, 6, .inl (fun _ => 0))), (q3, .inl (cI, 6, .inl (fun _ => 0)))] H := hP
  have hD : va_D A [(h0, .inr (0, [.ref q1, .ref q2, .ref q3, .null, .null, .null, .int 0, .int 0, .int 0, .int 0])), (q1, .inl (cI, 12, .inl (fun _ => 0))), (q2, .inl (cI, 6, .inl (fun _ => 0))), (q3, .inl (cI, 6, .inl (fun _ => 0)))] := hD
  refine lv_aload_n hx hb dX0_init_28 rfl (lv_at hl 0 rfl) ?_
  refine lv_bipush (v := 6) hx hb dX0_init_29 (by decide) ?_
  refine va_newi hx hb (hts (.arrayClass .int) (gw 136 (by decide +kernel) (by decide +kernel))) hK 0 rfl hP hD hS hA (n := 6) (N' := 6) (by decide) (by decide) (Nat.le_of_ble_eq_true rfl) (Nat.le_of_ble_eq_true rfl) (Nat.le_of_ble_eq_true rfl) dX0_init_31 (fun q4 H hP hD hS => ?_)
  have hP : va_P D vwCl [(h0, .inr (0, [.ref q1, .ref q2, .ref q3, .null, .null, .null, .int 0, .int 0, .int 0, .int 0])), (q1, .inl (cI, 12, .inl (fun _ => 0))), (q2, .inl (cI, 6, .inl (fun _ => 0))), (q3, .inl (cI, 6, .inl (fun _ => 0))), (q4, .inl (cI, 6, .inl (fun _ => 0)))] H := hP
  have hD : va_D A [(h0, .inr (0, [.ref q1, .ref q2, .ref q3, .null, .null, .null, .int 0, .int 0, .int 0, .int 0])), (q1, .inl (cI, 12, .inl (fun _ => 0))), (q2, .inl (cI, 6, .inl (fun _ => 0))), (q3, .inl (cI, 6, .inl (fun _ => 0))), (q4, .inl (cI, 6, .inl (fun _ => 0)))] := hD
  refine va_putF (D := D) (ci := 0) (v := .ref q4) (ty := .array .int) (C := RX0) (T := TX0) (N := 10) hx hb hts uws_0 tyX0 tyX0_ok nmX0 hown hK hP hD hS 0 rfl rfl 3 (by decide) (hts (.fieldLink RX0 21 "FeetBridge$Bridge" "balances" "[I") (gw 97 (by decide +kernel) (by decide +kernel))) (fun _ h9 => h9) rfl hin rfl (by decide +kernel) rfl rfl (Nat.le_of_ble_eq_true rfl) dX0_init_33 (fun H locs hP hD hS => ?_)
  have hP : va_P D vwCl [(h0, .inr (0, [.ref q1, .ref q2, .ref q3, .ref q4, .null, .null, .int 0, .int 0, .int 0, .int 0])), (q1, .inl (cI, 12, .inl (fun _ => 0))), (q2, .inl (cI, 6, .inl (fun _ => 0))), (q3, .inl (cI, 6, .inl (fun _ => 0))), (q4, .inl (cI, 6, .inl (fun _ => 0)))] H := hP
  have hD : va_D A [(h0, .inr (0, [.ref q1, .ref q2, .ref q3, .ref q4, .null, .null, .int 0, .int 0, .int 0, .int 0])), (q1, .inl (cI, 12, .inl (fun _ => 0))), (q2, .inl (cI, 6, .inl (fun _ => 0))), (q3, .inl (cI, 6, .inl (fun _ => 0))), (q4, .inl (cI, 6, .inl (fun _ => 0)))] := hD
  refine lv_aload_n hx hb dX0_init_36 rfl (lv_at hl 0 rfl) ?_
  refine lv_bipush (v := 6) hx hb dX0_init_37 (by decide) ?_
  refine va_newi hx hb (hts (.arrayClass .int) (gw 136 (by decide +kernel) (by decide +kernel))) hK 0 rfl hP hD hS hA (n := 6) (N' := 6) (by decide) (by decide) (Nat.le_of_ble_eq_true rfl) (Nat.le_of_ble_eq_true rfl) (Nat.le_of_ble_eq_true rfl) dX0_init_39 (fun q5 H hP hD hS => ?_)
  have hP : va_P D vwCl [(h0, .inr (0, [.ref q1, .ref q2, .ref q3, .ref q4, .null, .null, .int 0, .int 0, .int 0, .int 0])), (q1, .inl (cI, 12, .inl (fun _ => 0))), (q2, .inl (cI, 6, .inl (fun _ => 0))), (q3, .inl (cI, 6, .inl (fun _ => 0))), (q4, .inl (cI, 6, .inl (fun _ => 0))), (q5, .inl (cI, 6, .inl (fun _ => 0)))] H := hP
  have hD : va_D A [(h0, .inr (0, [.ref q1, .ref q2, .ref q3, .ref q4, .null, .null, .int 0, .int 0, .int 0, .int 0])), (q1, .inl (cI, 12, .inl (fun _ => 0))), (q2, .inl (cI, 6, .inl (fun _ => 0))), (q3, .inl (cI, 6, .inl (fun _ => 0))), (q4, .inl (cI, 6, .inl (fun _ => 0))), (q5, .inl (cI, 6, .inl (fun _ => 0)))] := hD
  refine va_putF (D := D) (ci := 0) (v := .ref q5) (ty := .array .int) (C := RX0) (T := TX0) (N := 10) hx hb hts uws_0 tyX0 tyX0_ok nmX0 hown hK hP hD hS 0 rfl rfl 4 (by decide) (hts (.fieldLink RX0 24 "FeetBridge$Bridge" "falls" "[I") (gw 100 (by decide +kernel) (by decide +kernel))) (fun _ h9 => h9) rfl hin rfl (by decide +kernel) rfl rfl (Nat.le_of_ble_eq_true rfl) dX0_init_41 (fun H locs hP hD hS => ?_)
  have hP : va_P D vwCl [(h0, .inr (0, [.ref q1, .ref q2, .ref q3, .ref q4, .ref q5, .null, .int 0, .int 0, .int 0, .int 0])), (q1, .inl (cI, 12, .inl (fun _ => 0))), (q2, .inl (cI, 6, .inl (fun _ => 0))), (q3, .inl (cI, 6, .inl (fun _ => 0))), (q4, .inl (cI, 6, .inl (fun _ => 0))), (q5, .inl (cI, 6, .inl (fun _ => 0)))] H := hP
  have hD : va_D A [(h0, .inr (0, [.ref q1, .ref q2, .ref q3, .ref q4, .ref q5, .null, .int 0, .int 0, .int 0, .int 0])), (q1, .inl (cI, 12, .inl (fun _ => 0))), (q2, .inl (cI, 6, .inl (fun _ => 0))), (q3, .inl (cI, 6, .inl (fun _ => 0))), (q4, .inl (cI, 6, .inl (fun _ => 0))), (q5, .inl (cI, 6, .inl (fun _ => 0)))] := hD
  refine lv_aload_n hx hb dX0_init_44 rfl (lv_at hl 0 rfl) ?_
  refine lv_bipush (v := 10) hx hb dX0_init_45 (by decide) ?_
  refine va_newi hx hb (hts (.arrayClass .int) (gw 136 (by decide +kernel) (by decide +kernel))) hK 0 rfl hP hD hS hA (n := 10) (N' := 10) (by decide) (by decide) (Nat.le_of_ble_eq_true rfl) (Nat.le_of_ble_eq_true rfl) (Nat.le_of_ble_eq_true rfl) dX0_init_47 (fun q6 H hP hD hS => ?_)
  have hP : va_P D vwCl [(h0, .inr (0, [.ref q1, .ref q2, .ref q3, .ref q4, .ref q5, .null, .int 0, .int 0, .int 0, .int 0])), (q1, .inl (cI, 12, .inl (fun _ => 0))), (q2, .inl (cI, 6, .inl (fun _ => 0))), (q3, .inl (cI, 6, .inl (fun _ => 0))), (q4, .inl (cI, 6, .inl (fun _ => 0))), (q5, .inl (cI, 6, .inl (fun _ => 0))), (q6, .inl (cI, 10, .inl (fun _ => 0)))] H := hP
  have hD : va_D A [(h0, .inr (0, [.ref q1, .ref q2, .ref q3, .ref q4, .ref q5, .null, .int 0, .int 0, .int 0, .int 0])), (q1, .inl (cI, 12, .inl (fun _ => 0))), (q2, .inl (cI, 6, .inl (fun _ => 0))), (q3, .inl (cI, 6, .inl (fun _ => 0))), (q4, .inl (cI, 6, .inl (fun _ => 0))), (q5, .inl (cI, 6, .inl (fun _ => 0))), (q6, .inl (cI, 10, .inl (fun _ => 0)))] := hD
  refine va_putF (D := D) (ci := 0) (v := .ref q6) (ty := .array .int) (C := RX0) (T := TX0) (N := 10) hx hb hts uws_0 tyX0 tyX0_ok nmX0 hown hK hP hD hS 0 rfl rfl 5 (by decide) (hts (.fieldLink RX0 27 "FeetBridge$Bridge" "spots" "[I") (gw 102 (by decide +kernel) (by decide +kernel))) (fun _ h9 => h9) rfl hin rfl (by decide +kernel) rfl rfl (Nat.le_of_ble_eq_true rfl) dX0_init_49 (fun H locs hP hD hS => ?_)
  have hP : va_P D vwCl [(h0, .inr (0, [.ref q1, .ref q2, .ref q3, .ref q4, .ref q5, .ref q6, .int 0, .int 0, .int 0, .int 0])), (q1, .inl (cI, 12, .inl (fun _ => 0))), (q2, .inl (cI, 6, .inl (fun _ => 0))), (q3, .inl (cI, 6, .inl (fun _ => 0))), (q4, .inl (cI, 6, .inl (fun _ => 0))), (q5, .inl (cI, 6, .inl (fun _ => 0))), (q6, .inl (cI, 10, .inl (fun _ => 0)))] H := hP
  have hD : va_D A [(h0, .inr (0, [.ref q1, .ref q2, .ref q3, .ref q4, .ref q5, .ref q6, .int 0, .int 0, .int 0, .int 0])), (q1, .inl (cI, 12, .inl (fun _ => 0))), (q2, .inl (cI, 6, .inl (fun _ => 0))), (q3, .inl (cI, 6, .inl (fun _ => 0))), (q4, .inl (cI, 6, .inl (fun _ => 0))), (q5, .inl (cI, 6, .inl (fun _ => 0))), (q6, .inl (cI, 10, .inl (fun _ => 0)))] := hD
  refine lv_aload_n hx hb dX0_init_52 rfl (lv_at hl 0 rfl) ?_
  refine lv_iconst (v := 0) hx hb dX0_init_53 (by decide) ?_
  refine va_put (D := D) (ci := 0) (v := .int 0) (ty := .int) (C := RX0) (T := TX0) (N := 10) hx hb hts uws_0 tyX0 tyX0_ok nmX0 hown hK hP hD hS 0 rfl rfl 6 (by decide) (hts (.fieldLink RX0 30 "FeetBridge$Bridge" "walkers" "I") (gw 104 (by decide +kernel) (by decide +kernel))) (fun _ h9 => h9) rfl (by decide +kernel) rfl rfl (Nat.le_of_ble_eq_true rfl) dX0_init_54 (fun H locs hP hD hS => ?_)
  have hP : va_P D vwCl [(h0, .inr (0, [.ref q1, .ref q2, .ref q3, .ref q4, .ref q5, .ref q6, .int 0, .int 0, .int 0, .int 0])), (q1, .inl (cI, 12, .inl (fun _ => 0))), (q2, .inl (cI, 6, .inl (fun _ => 0))), (q3, .inl (cI, 6, .inl (fun _ => 0))), (q4, .inl (cI, 6, .inl (fun _ => 0))), (q5, .inl (cI, 6, .inl (fun _ => 0))), (q6, .inl (cI, 10, .inl (fun _ => 0)))] H := hP
  have hD : va_D A [(h0, .inr (0, [.ref q1, .ref q2, .ref q3, .ref q4, .ref q5, .ref q6, .int 0, .int 0, .int 0, .int 0])), (q1, .inl (cI, 12, .inl (fun _ => 0))), (q2, .inl (cI, 6, .inl (fun _ => 0))), (q3, .inl (cI, 6, .inl (fun _ => 0))), (q4, .inl (cI, 6, .inl (fun _ => 0))), (q5, .inl (cI, 6, .inl (fun _ => 0))), (q6, .inl (cI, 10, .inl (fun _ => 0)))] := hD
  refine lv_aload_n hx hb dX0_init_57 rfl (lv_at hl 0 rfl) ?_
  refine lv_iconst (v := 0) hx hb dX0_init_58 (by decide) ?_
  refine va_put (D := D) (ci := 0) (v := .int 0) (ty := .int) (C := RX0) (T := TX0) (N := 10) hx hb hts uws_0 tyX0 tyX0_ok nmX0 hown hK hP hD hS 0 rfl rfl 7 (by decide) (hts (.fieldLink RX0 34 "FeetBridge$Bridge" "night" "I") (gw 107 (by decide +kernel) (by decide +kernel))) (fun _ h9 => h9) rfl (by decide +kernel) rfl rfl (Nat.le_of_ble_eq_true rfl) dX0_init_59 (fun H locs hP hD hS => ?_)
  have hP : va_P D vwCl [(h0, .inr (0, [.ref q1, .ref q2, .ref q3, .ref q4, .ref q5, .ref q6, .int 0, .int 0, .int 0, .int 0])), (q1, .inl (cI, 12, .inl (fun _ => 0))), (q2, .inl (cI, 6, .inl (fun _ => 0))), (q3, .inl (cI, 6, .inl (fun _ => 0))), (q4, .inl (cI, 6, .inl (fun _ => 0))), (q5, .inl (cI, 6, .inl (fun _ => 0))), (q6, .inl (cI, 10, .inl (fun _ => 0)))] H := hP
  have hD : va_D A [(h0, .inr (0, [.ref q1, .ref q2, .ref q3, .ref q4, .ref q5, .ref q6, .int 0, .int 0, .int 0, .int 0])), (q1, .inl (cI, 12, .inl (fun _ => 0))), (q2, .inl (cI, 6, .inl (fun _ => 0))), (q3, .inl (cI, 6, .inl (fun _ => 0))), (q4, .inl (cI, 6, .inl (fun _ => 0))), (q5, .inl (cI, 6, .inl (fun _ => 0))), (q6, .inl (cI, 10, .inl (fun _ => 0)))] := hD
  refine lv_aload_n hx hb dX0_init_62 rfl (lv_at hl 0 rfl) ?_
  refine lv_iconst (v := 0) hx hb dX0_init_63 (by decide) ?_
  refine va_put (D := D) (ci := 0) (v := .int 0) (ty := .int) (C := RX0) (T := TX0) (N := 10) hx hb hts uws_0 tyX0 tyX0_ok nmX0 hown hK hP hD hS 0 rfl rfl 8 (by decide) (hts (.fieldLink RX0 37 "FeetBridge$Bridge" "crossings" "I") (gw 111 (by decide +kernel) (by decide +kernel))) (fun _ h9 => h9) rfl (by decide +kernel) rfl rfl (Nat.le_of_ble_eq_true rfl) dX0_init_64 (fun H locs hP hD hS => ?_)
  have hP : va_P D vwCl [(h0, .inr (0, [.ref q1, .ref q2, .ref q3, .ref q4, .ref q5, .ref q6, .int 0, .int 0, .int 0, .int 0])), (q1, .inl (cI, 12, .inl (fun _ => 0))), (q2, .inl (cI, 6, .inl (fun _ => 0))), (q3, .inl (cI, 6, .inl (fun _ => 0))), (q4, .inl (cI, 6, .inl (fun _ => 0))), (q5, .inl (cI, 6, .inl (fun _ => 0))), (q6, .inl (cI, 10, .inl (fun _ => 0)))] H := hP
  have hD : va_D A [(h0, .inr (0, [.ref q1, .ref q2, .ref q3, .ref q4, .ref q5, .ref q6, .int 0, .int 0, .int 0, .int 0])), (q1, .inl (cI, 12, .inl (fun _ => 0))), (q2, .inl (cI, 6, .inl (fun _ => 0))), (q3, .inl (cI, 6, .inl (fun _ => 0))), (q4, .inl (cI, 6, .inl (fun _ => 0))), (q5, .inl (cI, 6, .inl (fun _ => 0))), (q6, .inl (cI, 10, .inl (fun _ => 0)))] := hD
  refine lv_aload_n hx hb dX0_init_67 rfl (lv_at hl 0 rfl) ?_
  refine lv_iconst (v := 1) hx hb dX0_init_68 (by decide) ?_
  refine va_put (D := D) (ci := 0) (v := .int 1) (ty := .int) (C := RX0) (T := TX0) (N := 10) hx hb hts uws_0 tyX0 tyX0_ok nmX0 hown hK hP hD hS 0 rfl rfl 9 (by decide) (hts (.fieldLink RX0 40 "FeetBridge$Bridge" "z" "I") (gw 113 (by decide +kernel) (by decide +kernel))) (fun _ h9 => h9) rfl (by decide +kernel) rfl rfl (Nat.le_of_ble_eq_true rfl) dX0_init_69 (fun H locs hP hD hS => ?_)
  have hP : va_P D vwCl [(h0, .inr (0, [.ref q1, .ref q2, .ref q3, .ref q4, .ref q5, .ref q6, .int 0, .int 0, .int 0, .int 1])), (q1, .inl (cI, 12, .inl (fun _ => 0))), (q2, .inl (cI, 6, .inl (fun _ => 0))), (q3, .inl (cI, 6, .inl (fun _ => 0))), (q4, .inl (cI, 6, .inl (fun _ => 0))), (q5, .inl (cI, 6, .inl (fun _ => 0))), (q6, .inl (cI, 10, .inl (fun _ => 0)))] H := hP
  have hD : va_D A [(h0, .inr (0, [.ref q1, .ref q2, .ref q3, .ref q4, .ref q5, .ref q6, .int 0, .int 0, .int 0, .int 1])), (q1, .inl (cI, 12, .inl (fun _ => 0))), (q2, .inl (cI, 6, .inl (fun _ => 0))), (q3, .inl (cI, 6, .inl (fun _ => 0))), (q4, .inl (cI, 6, .inl (fun _ => 0))), (q5, .inl (cI, 6, .inl (fun _ => 0))), (q6, .inl (cI, 10, .inl (fun _ => 0)))] := hD
  refine lv_iconst (v := 0) hx hb dX0_init_72 (by decide) ?_
  refine lv_istore_n (lv' := [(1, .int 0), (0, .ref h0)]) hx hb dX0_init_73 rfl hl (by decide) rfl (fun ls hl => ?_)
  refine lv_iload_n hx hb dX0_init_74 rfl (lv_at hl 0 rfl) ?_
  refine lv_bipush (v := 12) hx hb dX0_init_75 (by decide) ?_
  refine lv_icmp_ge (tgt := 94) hx hb dX0_init_77 (by decide) (fun z => absurd z (by decide)) (fun _ => ?_)
  refine lv_aload_n hx hb dX0_init_80 rfl (lv_at hl 1 rfl) ?_
  refine va_get (D := D) (ci := 0) (v := .ref q1) (C := RX0) (T := TX0) (N := 10) hx hb hts uws_0 hown hK hP 0 rfl rfl 0 (by decide) (hts (.fieldLink RX0 9 "FeetBridge$Bridge" "keeps" "[I") (gw 87 (by decide +kernel) (by decide +kernel))) (fun _ h9 => h9) rfl dX0_init_81 ?_
  refine lv_iload_n hx hb dX0_init_84 rfl (lv_at hl 0 rfl) ?_
  refine lv_bipush (v := 50) hx hb dX0_init_85 (by decide) ?_
  refine va_iast hx hb hK hP hD hS 1 0 rfl rfl (show ¬ ((0 : Int32) < 0 ∨ 12 ≤ (0 : Int32).toNatClampNeg) by decide) dX0_init_87 (fun H locs hP hD hS => ?_)
  have hP : va_P D vwCl [(h0, .inr (0, [.ref q1, .ref q2, .ref q3, .ref q4, .ref q5, .ref q6, .int 0, .int 0, .int 0, .int 1])), (q1, .inl (cI, 12, .inl (upd (fun _ => 0) 0 (50)))), (q2, .inl (cI, 6, .inl (fun _ => 0))), (q3, .inl (cI, 6, .inl (fun _ => 0))), (q4, .inl (cI, 6, .inl (fun _ => 0))), (q5, .inl (cI, 6, .inl (fun _ => 0))), (q6, .inl (cI, 10, .inl (fun _ => 0)))] H := hP
  have hD : va_D A [(h0, .inr (0, [.ref q1, .ref q2, .ref q3, .ref q4, .ref q5, .ref q6, .int 0, .int 0, .int 0, .int 1])), (q1, .inl (cI, 12, .inl (upd (fun _ => 0) 0 (50)))), (q2, .inl (cI, 6, .inl (fun _ => 0))), (q3, .inl (cI, 6, .inl (fun _ => 0))), (q4, .inl (cI, 6, .inl (fun _ => 0))), (q5, .inl (cI, 6, .inl (fun _ => 0))), (q6, .inl (cI, 10, .inl (fun _ => 0)))] := hD
  refine lv_iinc (v := 1) (lv' := [(1, .int 1), (0, .ref h0)]) hx hb dX0_init_88 hl (k := 0) rfl (by decide) (by decide) rfl (fun ls hl => ?_)
  refine lv_goto (tgt := 74) hx hb dX0_init_91 (by decide) ?_
  refine lv_iload_n hx hb dX0_init_74 rfl (lv_at hl 0 rfl) ?_
  refine lv_bipush (v := 12) hx hb dX0_init_75 (by decide) ?_
  refine lv_icmp_ge (tgt := 94) hx hb dX0_init_77 (by decide) (fun z => absurd z (by decide)) (fun _ => ?_)
  refine lv_aload_n hx hb dX0_init_80 rfl (lv_at hl 1 rfl) ?_
  refine va_get (D := D) (ci := 0) (v := .ref q1) (C := RX0) (T := TX0) (N := 10) hx hb hts uws_0 hown hK hP 0 rfl rfl 0 (by decide) (hts (.fieldLink RX0 9 "FeetBridge$Bridge" "keeps" "[I") (gw 87 (by decide +kernel) (by decide +kernel))) (fun _ h9 => h9) rfl dX0_init_81 ?_
  refine lv_iload_n hx hb dX0_init_84 rfl (lv_at hl 0 rfl) ?_
  refine lv_bipush (v := 50) hx hb dX0_init_85 (by decide) ?_
  refine va_iast hx hb hK hP hD hS 1 0 rfl rfl (show ¬ ((1 : Int32) < 0 ∨ 12 ≤ (1 : Int32).toNatClampNeg) by decide) dX0_init_87 (fun H locs hP hD hS => ?_)
  have hP : va_P D vwCl [(h0, .inr (0, [.ref q1, .ref q2, .ref q3, .ref q4, .ref q5, .ref q6, .int 0, .int 0, .int 0, .int 1])), (q1, .inl (cI, 12, .inl (upd (upd (fun _ => 0) 0 (50)) 1 (50)))), (q2, .inl (cI, 6, .inl (fun _ => 0))), (q3, .inl (cI, 6, .inl (fun _ => 0))), (q4, .inl (cI, 6, .inl (fun _ => 0))), (q5, .inl (cI, 6, .inl (fun _ => 0))), (q6, .inl (cI, 10, .inl (fun _ => 0)))] H := hP
  have hD : va_D A [(h0, .inr (0, [.ref q1, .ref q2, .ref q3, .ref q4, .ref q5, .ref q6, .int 0, .int 0, .int 0, .int 1])), (q1, .inl (cI, 12, .inl (upd (upd (fun _ => 0) 0 (50)) 1 (50)))), (q2, .inl (cI, 6, .inl (fun _ => 0))), (q3, .inl (cI, 6, .inl (fun _ => 0))), (q4, .inl (cI, 6, .inl (fun _ => 0))), (q5, .inl (cI, 6, .inl (fun _ => 0))), (q6, .inl (cI, 10, .inl (fun _ => 0)))] := hD
  refine lv_iinc (v := 2) (lv' := [(1, .int 2), (0, .ref h0)]) hx hb dX0_init_88 hl (k := 0) rfl (by decide) (by decide) rfl (fun ls hl => ?_)
  refine lv_goto (tgt := 74) hx hb dX0_init_91 (by decide) ?_
  refine lv_iload_n hx hb dX0_init_74 rfl (lv_at hl 0 rfl) ?_
  refine lv_bipush (v := 12) hx hb dX0_init_75 (by decide) ?_
  refine lv_icmp_ge (tgt := 94) hx hb dX0_init_77 (by decide) (fun z => absurd z (by decide)) (fun _ => ?_)
  refine lv_aload_n hx hb dX0_init_80 rfl (lv_at hl 1 rfl) ?_
  refine va_get (D := D) (ci := 0) (v := .ref q1) (C := RX0) (T := TX0) (N := 10) hx hb hts uws_0 hown hK hP 0 rfl rfl 0 (by decide) (hts (.fieldLink RX0 9 "FeetBridge$Bridge" "keeps" "[I") (gw 87 (by decide +kernel) (by decide +kernel))) (fun _ h9 => h9) rfl dX0_init_81 ?_
  refine lv_iload_n hx hb dX0_init_84 rfl (lv_at hl 0 rfl) ?_
  refine lv_bipush (v := 50) hx hb dX0_init_85 (by decide) ?_
  refine va_iast hx hb hK hP hD hS 1 0 rfl rfl (show ¬ ((2 : Int32) < 0 ∨ 12 ≤ (2 : Int32).toNatClampNeg) by decide) dX0_init_87 (fun H locs hP hD hS => ?_)
  have hP : va_P D vwCl [(h0, .inr (0, [.ref q1, .ref q2, .ref q3, .ref q4, .ref q5, .ref q6, .int 0, .int 0, .int 0, .int 1])), (q1, .inl (cI, 12, .inl (upd (upd (upd (fun _ => 0) 0 (50)) 1 (50)) 2 (50)))), (q2, .inl (cI, 6, .inl (fun _ => 0))), (q3, .inl (cI, 6, .inl (fun _ => 0))), (q4, .inl (cI, 6, .inl (fun _ => 0))), (q5, .inl (cI, 6, .inl (fun _ => 0))), (q6, .inl (cI, 10, .inl (fun _ => 0)))] H := hP
  have hD : va_D A [(h0, .inr (0, [.ref q1, .ref q2, .ref q3, .ref q4, .ref q5, .ref q6, .int 0, .int 0, .int 0, .int 1])), (q1, .inl (cI, 12, .inl (upd (upd (upd (fun _ => 0) 0 (50)) 1 (50)) 2 (50)))), (q2, .inl (cI, 6, .inl (fun _ => 0))), (q3, .inl (cI, 6, .inl (fun _ => 0))), (q4, .inl (cI, 6, .inl (fun _ => 0))), (q5, .inl (cI, 6, .inl (fun _ => 0))), (q6, .inl (cI, 10, .inl (fun _ => 0)))] := hD
  refine lv_iinc (v := 3) (lv' := [(1, .int 3), (0, .ref h0)]) hx hb dX0_init_88 hl (k := 0) rfl (by decide) (by decide) rfl (fun ls hl => ?_)
  refine lv_goto (tgt := 74) hx hb dX0_init_91 (by decide) ?_
  refine lv_iload_n hx hb dX0_init_74 rfl (lv_at hl 0 rfl) ?_
  refine lv_bipush (v := 12) hx hb dX0_init_75 (by decide) ?_
  refine lv_icmp_ge (tgt := 94) hx hb dX0_init_77 (by decide) (fun z => absurd z (by decide)) (fun _ => ?_)
  refine lv_aload_n hx hb dX0_init_80 rfl (lv_at hl 1 rfl) ?_
  refine va_get (D := D) (ci := 0) (v := .ref q1) (C := RX0) (T := TX0) (N := 10) hx hb hts uws_0 hown hK hP 0 rfl rfl 0 (by decide) (hts (.fieldLink RX0 9 "FeetBridge$Bridge" "keeps" "[I") (gw 87 (by decide +kernel) (by decide +kernel))) (fun _ h9 => h9) rfl dX0_init_81 ?_
  refine lv_iload_n hx hb dX0_init_84 rfl (lv_at hl 0 rfl) ?_
  refine lv_bipush (v := 50) hx hb dX0_init_85 (by decide) ?_
  refine va_iast hx hb hK hP hD hS 1 0 rfl rfl (show ¬ ((3 : Int32) < 0 ∨ 12 ≤ (3 : Int32).toNatClampNeg) by decide) dX0_init_87 (fun H locs hP hD hS => ?_)
  have hP : va_P D vwCl [(h0, .inr (0, [.ref q1, .ref q2, .ref q3, .ref q4, .ref q5, .ref q6, .int 0, .int 0, .int 0, .int 1])), (q1, .inl (cI, 12, .inl (upd (upd (upd (upd (fun _ => 0) 0 (50)) 1 (50)) 2 (50)) 3 (50)))), (q2, .inl (cI, 6, .inl (fun _ => 0))), (q3, .inl (cI, 6, .inl (fun _ => 0))), (q4, .inl (cI, 6, .inl (fun _ => 0))), (q5, .inl (cI, 6, .inl (fun _ => 0))), (q6, .inl (cI, 10, .inl (fun _ => 0)))] H := hP
  have hD : va_D A [(h0, .inr (0, [.ref q1, .ref q2, .ref q3, .ref q4, .ref q5, .ref q6, .int 0, .int 0, .int 0, .int 1])), (q1, .inl (cI, 12, .inl (upd (upd (upd (upd (fun _ => 0) 0 (50)) 1 (50)) 2 (50)) 3 (50)))), (q2, .inl (cI, 6, .inl (fun _ => 0))), (q3, .inl (cI, 6, .inl (fun _ => 0))), (q4, .inl (cI, 6, .inl (fun _ => 0))), (q5, .inl (cI, 6, .inl (fun _ => 0))), (q6, .inl (cI, 10, .inl (fun _ => 0)))] := hD
  refine lv_iinc (v := 4) (lv' := [(1, .int 4), (0, .ref h0)]) hx hb dX0_init_88 hl (k := 0) rfl (by decide) (by decide) rfl (fun ls hl => ?_)
  refine lv_goto (tgt := 74) hx hb dX0_init_91 (by decide) ?_
  refine lv_iload_n hx hb dX0_init_74 rfl (lv_at hl 0 rfl) ?_
  refine lv_bipush (v := 12) hx hb dX0_init_75 (by decide) ?_
  refine lv_icmp_ge (tgt := 94) hx hb dX0_init_77 (by decide) (fun z => absurd z (by decide)) (fun _ => ?_)
  refine lv_aload_n hx hb dX0_init_80 rfl (lv_at hl 1 rfl) ?_
  refine va_get (D := D) (ci := 0) (v := .ref q1) (C := RX0) (T := TX0) (N := 10) hx hb hts uws_0 hown hK hP 0 rfl rfl 0 (by decide) (hts (.fieldLink RX0 9 "FeetBridge$Bridge" "keeps" "[I") (gw 87 (by decide +kernel) (by decide +kernel))) (fun _ h9 => h9) rfl dX0_init_81 ?_
  refine lv_iload_n hx hb dX0_init_84 rfl (lv_at hl 0 rfl) ?_
  refine lv_bipush (v := 50) hx hb dX0_init_85 (by decide) ?_
  refine va_iast hx hb hK hP hD hS 1 0 rfl rfl (show ¬ ((4 : Int32) < 0 ∨ 12 ≤ (4 : Int32).toNatClampNeg) by decide) dX0_init_87 (fun H locs hP hD hS => ?_)
  have hP : va_P D vwCl [(h0, .inr (0, [.ref q1, .ref q2, .ref q3, .ref q4, .ref q5, .ref q6, .int 0, .int 0, .int 0, .int 1])), (q1, .inl (cI, 12, .inl (upd (upd (upd (upd (upd (fun _ => 0) 0 (50)) 1 (50)) 2 (50)) 3 (50)) 4 (50)))), (q2, .inl (cI, 6, .inl (fun _ => 0))), (q3, .inl (cI, 6, .inl (fun _ => 0))), (q4, .inl (cI, 6, .inl (fun _ => 0))), (q5, .inl (cI, 6, .inl (fun _ => 0))), (q6, .inl (cI, 10, .inl (fun _ => 0)))] H := hP
  have hD : va_D A [(h0, .inr (0, [.ref q1, .ref q2, .ref q3, .ref q4, .ref q5, .ref q6, .int 0, .int 0, .int 0, .int 1])), (q1, .inl (cI, 12, .inl (upd (upd (upd (upd (upd (fun _ => 0) 0 (50)) 1 (50)) 2 (50)) 3 (50)) 4 (50)))), (q2, .inl (cI, 6, .inl (fun _ => 0))), (q3, .inl (cI, 6, .inl (fun _ => 0))), (q4, .inl (cI, 6, .inl (fun _ => 0))), (q5, .inl (cI, 6, .inl (fun _ => 0))), (q6, .inl (cI, 10, .inl (fun _ => 0)))] := hD
  refine lv_iinc (v := 5) (lv' := [(1, .int 5), (0, .ref h0)]) hx hb dX0_init_88 hl (k := 0) rfl (by decide) (by decide) rfl (fun ls hl => ?_)
  refine lv_goto (tgt := 74) hx hb dX0_init_91 (by decide) ?_
  refine lv_iload_n hx hb dX0_init_74 rfl (lv_at hl 0 rfl) ?_
  refine lv_bipush (v := 12) hx hb dX0_init_75 (by decide) ?_
  refine lv_icmp_ge (tgt := 94) hx hb dX0_init_77 (by decide) (fun z => absurd z (by decide)) (fun _ => ?_)
  refine lv_aload_n hx hb dX0_init_80 rfl (lv_at hl 1 rfl) ?_
  refine va_get (D := D) (ci := 0) (v := .ref q1) (C := RX0) (T := TX0) (N := 10) hx hb hts uws_0 hown hK hP 0 rfl rfl 0 (by decide) (hts (.fieldLink RX0 9 "FeetBridge$Bridge" "keeps" "[I") (gw 87 (by decide +kernel) (by decide +kernel))) (fun _ h9 => h9) rfl dX0_init_81 ?_
  refine lv_iload_n hx hb dX0_init_84 rfl (lv_at hl 0 rfl) ?_
  refine lv_bipush (v := 50) hx hb dX0_init_85 (by decide) ?_
  refine va_iast hx hb hK hP hD hS 1 0 rfl rfl (show ¬ ((5 : Int32) < 0 ∨ 12 ≤ (5 : Int32).toNatClampNeg) by decide) dX0_init_87 (fun H locs hP hD hS => ?_)
  have hP : va_P D vwCl [(h0, .inr (0, [.ref q1, .ref q2, .ref q3, .ref q4, .ref q5, .ref q6, .int 0, .int 0, .int 0, .int 1])), (q1, .inl (cI, 12, .inl (upd (upd (upd (upd (upd (upd (fun _ => 0) 0 (50)) 1 (50)) 2 (50)) 3 (50)) 4 (50)) 5 (50)))), (q2, .inl (cI, 6, .inl (fun _ => 0))), (q3, .inl (cI, 6, .inl (fun _ => 0))), (q4, .inl (cI, 6, .inl (fun _ => 0))), (q5, .inl (cI, 6, .inl (fun _ => 0))), (q6, .inl (cI, 10, .inl (fun _ => 0)))] H := hP
  have hD : va_D A [(h0, .inr (0, [.ref q1, .ref q2, .ref q3, .ref q4, .ref q5, .ref q6, .int 0, .int 0, .int 0, .int 1])), (q1, .inl (cI, 12, .inl (upd (upd (upd (upd (upd (upd (fun _ => 0) 0 (50)) 1 (50)) 2 (50)) 3 (50)) 4 (50)) 5 (50)))), (q2, .inl (cI, 6, .inl (fun _ => 0))), (q3, .inl (cI, 6, .inl (fun _ => 0))), (q4, .inl (cI, 6, .inl (fun _ => 0))), (q5, .inl (cI, 6, .inl (fun _ => 0))), (q6, .inl (cI, 10, .inl (fun _ => 0)))] := hD
  refine lv_iinc (v := 6) (lv' := [(1, .int 6), (0, .ref h0)]) hx hb dX0_init_88 hl (k := 0) rfl (by decide) (by decide) rfl (fun ls hl => ?_)
  refine lv_goto (tgt := 74) hx hb dX0_init_91 (by decide) ?_
  refine lv_iload_n hx hb dX0_init_74 rfl (lv_at hl 0 rfl) ?_
  refine lv_bipush (v := 12) hx hb dX0_init_75 (by decide) ?_
  refine lv_icmp_ge (tgt := 94) hx hb dX0_init_77 (by decide) (fun z => absurd z (by decide)) (fun _ => ?_)
  refine lv_aload_n hx hb dX0_init_80 rfl (lv_at hl 1 rfl) ?_
  refine va_get (D := D) (ci := 0) (v := .ref q1) (C := RX0) (T := TX0) (N := 10) hx hb hts uws_0 hown hK hP 0 rfl rfl 0 (by decide) (hts (.fieldLink RX0 9 "FeetBridge$Bridge" "keeps" "[I") (gw 87 (by decide +kernel) (by decide +kernel))) (fun _ h9 => h9) rfl dX0_init_81 ?_
  refine lv_iload_n hx hb dX0_init_84 rfl (lv_at hl 0 rfl) ?_
  refine lv_bipush (v := 50) hx hb dX0_init_85 (by decide) ?_
  refine va_iast hx hb hK hP hD hS 1 0 rfl rfl (show ¬ ((6 : Int32) < 0 ∨ 12 ≤ (6 : Int32).toNatClampNeg) by decide) dX0_init_87 (fun H locs hP hD hS => ?_)
  have hP : va_P D vwCl [(h0, .inr (0, [.ref q1, .ref q2, .ref q3, .ref q4, .ref q5, .ref q6, .int 0, .int 0, .int 0, .int 1])), (q1, .inl (cI, 12, .inl (upd (upd (upd (upd (upd (upd (upd (fun _ => 0) 0 (50)) 1 (50)) 2 (50)) 3 (50)) 4 (50)) 5 (50)) 6 (50)))), (q2, .inl (cI, 6, .inl (fun _ => 0))), (q3, .inl (cI, 6, .inl (fun _ => 0))), (q4, .inl (cI, 6, .inl (fun _ => 0))), (q5, .inl (cI, 6, .inl (fun _ => 0))), (q6, .inl (cI, 10, .inl (fun _ => 0)))] H := hP
  have hD : va_D A [(h0, .inr (0, [.ref q1, .ref q2, .ref q3, .ref q4, .ref q5, .ref q6, .int 0, .int 0, .int 0, .int 1])), (q1, .inl (cI, 12, .inl (upd (upd (upd (upd (upd (upd (upd (fun _ => 0) 0 (50)) 1 (50)) 2 (50)) 3 (50)) 4 (50)) 5 (50)) 6 (50)))), (q2, .inl (cI, 6, .inl (fun _ => 0))), (q3, .inl (cI, 6, .inl (fun _ => 0))), (q4, .inl (cI, 6, .inl (fun _ => 0))), (q5, .inl (cI, 6, .inl (fun _ => 0))), (q6, .inl (cI, 10, .inl (fun _ => 0)))] := hD
  refine lv_iinc (v := 7) (lv' := [(1, .int 7), (0, .ref h0)]) hx hb dX0_init_88 hl (k := 0) rfl (by decide) (by decide) rfl (fun ls hl => ?_)
  refine lv_goto (tgt := 74) hx hb dX0_init_91 (by decide) ?_
  refine lv_iload_n hx hb dX0_init_74 rfl (lv_at hl 0 rfl) ?_
  refine lv_bipush (v := 12) hx hb dX0_init_75 (by decide) ?_
  refine lv_icmp_ge (tgt := 94) hx hb dX0_init_77 (by decide) (fun z => absurd z (by decide)) (fun _ => ?_)
  refine lv_aload_n hx hb dX0_init_80 rfl (lv_at hl 1 rfl) ?_
  refine va_get (D := D) (ci := 0) (v := .ref q1) (C := RX0) (T := TX0) (N := 10) hx hb hts uws_0 hown hK hP 0 rfl rfl 0 (by decide) (hts (.fieldLink RX0 9 "FeetBridge$Bridge" "keeps" "[I") (gw 87 (by decide +kernel) (by decide +kernel))) (fun _ h9 => h9) rfl dX0_init_81 ?_
  refine lv_iload_n hx hb dX0_init_84 rfl (lv_at hl 0 rfl) ?_
  refine lv_bipush (v := 50) hx hb dX0_init_85 (by decide) ?_
  refine va_iast hx hb hK hP hD hS 1 0 rfl rfl (show ¬ ((7 : Int32) < 0 ∨ 12 ≤ (7 : Int32).toNatClampNeg) by decide) dX0_init_87 (fun H locs hP hD hS => ?_)
  have hP : va_P D vwCl [(h0, .inr (0, [.ref q1, .ref q2, .ref q3, .ref q4, .ref q5, .ref q6, .int 0, .int 0, .int 0, .int 1])), (q1, .inl (cI, 12, .inl (upd (upd (upd (upd (upd (upd (upd (upd (fun _ => 0) 0 (50)) 1 (50)) 2 (50)) 3 (50)) 4 (50)) 5 (50)) 6 (50)) 7 (50)))), (q2, .inl (cI, 6, .inl (fun _ => 0))), (q3, .inl (cI, 6, .inl (fun _ => 0))), (q4, .inl (cI, 6, .inl (fun _ => 0))), (q5, .inl (cI, 6, .inl (fun _ => 0))), (q6, .inl (cI, 10, .inl (fun _ => 0)))] H := hP
  have hD : va_D A [(h0, .inr (0, [.ref q1, .ref q2, .ref q3, .ref q4, .ref q5, .ref q6, .int 0, .int 0, .int 0, .int 1])), (q1, .inl (cI, 12, .inl (upd (upd (upd (upd (upd (upd (upd (upd (fun _ => 0) 0 (50)) 1 (50)) 2 (50)) 3 (50)) 4 (50)) 5 (50)) 6 (50)) 7 (50)))), (q2, .inl (cI, 6, .inl (fun _ => 0))), (q3, .inl (cI, 6, .inl (fun _ => 0))), (q4, .inl (cI, 6, .inl (fun _ => 0))), (q5, .inl (cI, 6, .inl (fun _ => 0))), (q6, .inl (cI, 10, .inl (fun _ => 0)))] := hD
  refine lv_iinc (v := 8) (lv' := [(1, .int 8), (0, .ref h0)]) hx hb dX0_init_88 hl (k := 0) rfl (by decide) (by decide) rfl (fun ls hl => ?_)
  refine lv_goto (tgt := 74) hx hb dX0_init_91 (by decide) ?_
  refine lv_iload_n hx hb dX0_init_74 rfl (lv_at hl 0 rfl) ?_
  refine lv_bipush (v := 12) hx hb dX0_init_75 (by decide) ?_
  refine lv_icmp_ge (tgt := 94) hx hb dX0_init_77 (by decide) (fun z => absurd z (by decide)) (fun _ => ?_)
  refine lv_aload_n hx hb dX0_init_80 rfl (lv_at hl 1 rfl) ?_
  refine va_get (D := D) (ci := 0) (v := .ref q1) (C := RX0) (T := TX0) (N := 10) hx hb hts uws_0 hown hK hP 0 rfl rfl 0 (by decide) (hts (.fieldLink RX0 9 "FeetBridge$Bridge" "keeps" "[I") (gw 87 (by decide +kernel) (by decide +kernel))) (fun _ h9 => h9) rfl dX0_init_81 ?_
  refine lv_iload_n hx hb dX0_init_84 rfl (lv_at hl 0 rfl) ?_
  refine lv_bipush (v := 50) hx hb dX0_init_85 (by decide) ?_
  refine va_iast hx hb hK hP hD hS 1 0 rfl rfl (show ¬ ((8 : Int32) < 0 ∨ 12 ≤ (8 : Int32).toNatClampNeg) by decide) dX0_init_87 (fun H locs hP hD hS => ?_)
  have hP : va_P D vwCl [(h0, .inr (0, [.ref q1, .ref q2, .ref q3, .ref q4, .ref q5, .ref q6, .int 0, .int 0, .int 0, .int 1])), (q1, .inl (cI, 12, .inl (upd (upd (upd (upd (upd (upd (upd (upd (upd (fun _ => 0) 0 (50)) 1 (50)) 2 (50)) 3 (50)) 4 (50)) 5 (50)) 6 (50)) 7 (50)) 8 (50)))), (q2, .inl (cI, 6, .inl (fun _ => 0))), (q3, .inl (cI, 6, .inl (fun _ => 0))), (q4, .inl (cI, 6, .inl (fun _ => 0))), (q5, .inl (cI, 6, .inl (fun _ => 0))), (q6, .inl (cI, 10, .inl (fun _ => 0)))] H := hP
  have hD : va_D A [(h0, .inr (0, [.ref q1, .ref q2, .ref q3, .ref q4, .ref q5, .ref q6, .int 0, .int 0, .int 0, .int 1])), (q1, .inl (cI, 12, .inl (upd (upd (upd (upd (upd (upd (upd (upd (upd (fun _ => 0) 0 (50)) 1 (50)) 2 (50)) 3 (50)) 4 (50)) 5 (50)) 6 (50)) 7 (50)) 8 (50)))), (q2, .inl (cI, 6, .inl (fun _ => 0))), (q3, .inl (cI, 6, .inl (fun _ => 0))), (q4, .inl (cI, 6, .inl (fun _ => 0))), (q5, .inl (cI, 6, .inl (fun _ => 0))), (q6, .inl (cI, 10, .inl (fun _ => 0)))] := hD
  refine lv_iinc (v := 9) (lv' := [(1, .int 9), (0, .ref h0)]) hx hb dX0_init_88 hl (k := 0) rfl (by decide) (by decide) rfl (fun ls hl => ?_)
  refine lv_goto (tgt := 74) hx hb dX0_init_91 (by decide) ?_
  refine lv_iload_n hx hb dX0_init_74 rfl (lv_at hl 0 rfl) ?_
  refine lv_bipush (v := 12) hx hb dX0_init_75 (by decide) ?_
  refine lv_icmp_ge (tgt := 94) hx hb dX0_init_77 (by decide) (fun z => absurd z (by decide)) (fun _ => ?_)
  refine lv_aload_n hx hb dX0_init_80 rfl (lv_at hl 1 rfl) ?_
  refine va_get (D := D) (ci := 0) (v := .ref q1) (C := RX0) (T := TX0) (N := 10) hx hb hts uws_0 hown hK hP 0 rfl rfl 0 (by decide) (hts (.fieldLink RX0 9 "FeetBridge$Bridge" "keeps" "[I") (gw 87 (by decide +kernel) (by decide +kernel))) (fun _ h9 => h9) rfl dX0_init_81 ?_
  refine lv_iload_n hx hb dX0_init_84 rfl (lv_at hl 0 rfl) ?_
  refine lv_bipush (v := 50) hx hb dX0_init_85 (by decide) ?_
  refine va_iast hx hb hK hP hD hS 1 0 rfl rfl (show ¬ ((9 : Int32) < 0 ∨ 12 ≤ (9 : Int32).toNatClampNeg) by decide) dX0_init_87 (fun H locs hP hD hS => ?_)
  have hP : va_P D vwCl [(h0, .inr (0, [.ref q1, .ref q2, .ref q3, .ref q4, .ref q5, .ref q6, .int 0, .int 0, .int 0, .int 1])), (q1, .inl (cI, 12, .inl (upd (upd (upd (upd (upd (upd (upd (upd (upd (upd (fun _ => 0) 0 (50)) 1 (50)) 2 (50)) 3 (50)) 4 (50)) 5 (50)) 6 (50)) 7 (50)) 8 (50)) 9 (50)))), (q2, .inl (cI, 6, .inl (fun _ => 0))), (q3, .inl (cI, 6, .inl (fun _ => 0))), (q4, .inl (cI, 6, .inl (fun _ => 0))), (q5, .inl (cI, 6, .inl (fun _ => 0))), (q6, .inl (cI, 10, .inl (fun _ => 0)))] H := hP
  have hD : va_D A [(h0, .inr (0, [.ref q1, .ref q2, .ref q3, .ref q4, .ref q5, .ref q6, .int 0, .int 0, .int 0, .int 1])), (q1, .inl (cI, 12, .inl (upd (upd (upd (upd (upd (upd (upd (upd (upd (upd (fun _ => 0) 0 (50)) 1 (50)) 2 (50)) 3 (50)) 4 (50)) 5 (50)) 6 (50)) 7 (50)) 8 (50)) 9 (50)))), (q2, .inl (cI, 6, .inl (fun _ => 0))), (q3, .inl (cI, 6, .inl (fun _ => 0))), (q4, .inl (cI, 6, .inl (fun _ => 0))), (q5, .inl (cI, 6, .inl (fun _ => 0))), (q6, .inl (cI, 10, .inl (fun _ => 0)))] := hD
  refine lv_iinc (v := 10) (lv' := [(1, .int 10), (0, .ref h0)]) hx hb dX0_init_88 hl (k := 0) rfl (by decide) (by decide) rfl (fun ls hl => ?_)
  refine lv_goto (tgt := 74) hx hb dX0_init_91 (by decide) ?_
  refine lv_iload_n hx hb dX0_init_74 rfl (lv_at hl 0 rfl) ?_
  refine lv_bipush (v := 12) hx hb dX0_init_75 (by decide) ?_
  refine lv_icmp_ge (tgt := 94) hx hb dX0_init_77 (by decide) (fun z => absurd z (by decide)) (fun _ => ?_)
  refine lv_aload_n hx hb dX0_init_80 rfl (lv_at hl 1 rfl) ?_
  refine va_get (D := D) (ci := 0) (v := .ref q1) (C := RX0) (T := TX0) (N := 10) hx hb hts uws_0 hown hK hP 0 rfl rfl 0 (by decide) (hts (.fieldLink RX0 9 "FeetBridge$Bridge" "keeps" "[I") (gw 87 (by decide +kernel) (by decide +kernel))) (fun _ h9 => h9) rfl dX0_init_81 ?_
  refine lv_iload_n hx hb dX0_init_84 rfl (lv_at hl 0 rfl) ?_
  refine lv_bipush (v := 50) hx hb dX0_init_85 (by decide) ?_
  refine va_iast hx hb hK hP hD hS 1 0 rfl rfl (show ¬ ((10 : Int32) < 0 ∨ 12 ≤ (10 : Int32).toNatClampNeg) by decide) dX0_init_87 (fun H locs hP hD hS => ?_)
  have hP : va_P D vwCl [(h0, .inr (0, [.ref q1, .ref q2, .ref q3, .ref q4, .ref q5, .ref q6, .int 0, .int 0, .int 0, .int 1])), (q1, .inl (cI, 12, .inl (upd (upd (upd (upd (upd (upd (upd (upd (upd (upd (upd (fun _ => 0) 0 (50)) 1 (50)) 2 (50)) 3 (50)) 4 (50)) 5 (50)) 6 (50)) 7 (50)) 8 (50)) 9 (50)) 10 (50)))), (q2, .inl (cI, 6, .inl (fun _ => 0))), (q3, .inl (cI, 6, .inl (fun _ => 0))), (q4, .inl (cI, 6, .inl (fun _ => 0))), (q5, .inl (cI, 6, .inl (fun _ => 0))), (q6, .inl (cI, 10, .inl (fun _ => 0)))] H := hP
  have hD : va_D A [(h0, .inr (0, [.ref q1, .ref q2, .ref q3, .ref q4, .ref q5, .ref q6, .int 0, .int 0, .int 0, .int 1])), (q1, .inl (cI, 12, .inl (upd (upd (upd (upd (upd (upd (upd (upd (upd (upd (upd (fun _ => 0) 0 (50)) 1 (50)) 2 (50)) 3 (50)) 4 (50)) 5 (50)) 6 (50)) 7 (50)) 8 (50)) 9 (50)) 10 (50)))), (q2, .inl (cI, 6, .inl (fun _ => 0))), (q3, .inl (cI, 6, .inl (fun _ => 0))), (q4, .inl (cI, 6, .inl (fun _ => 0))), (q5, .inl (cI, 6, .inl (fun _ => 0))), (q6, .inl (cI, 10, .inl (fun _ => 0)))] := hD
  refine lv_iinc (v := 11) (lv' := [(1, .int 11), (0, .ref h0)]) hx hb dX0_init_88 hl (k := 0) rfl (by decide) (by decide) rfl (fun ls hl => ?_)
  refine lv_goto (tgt := 74) hx hb dX0_init_91 (by decide) ?_
  refine lv_iload_n hx hb dX0_init_74 rfl (lv_at hl 0 rfl) ?_
  refine lv_bipush (v := 12) hx hb dX0_init_75 (by decide) ?_
  refine lv_icmp_ge (tgt := 94) hx hb dX0_init_77 (by decide) (fun z => absurd z (by decide)) (fun _ => ?_)
  refine lv_aload_n hx hb dX0_init_80 rfl (lv_at hl 1 rfl) ?_
  refine va_get (D := D) (ci := 0) (v := .ref q1) (C := RX0) (T := TX0) (N := 10) hx hb hts uws_0 hown hK hP 0 rfl rfl 0 (by decide) (hts (.fieldLink RX0 9 "FeetBridge$Bridge" "keeps" "[I") (gw 87 (by decide +kernel) (by decide +kernel))) (fun _ h9 => h9) rfl dX0_init_81 ?_
  refine lv_iload_n hx hb dX0_init_84 rfl (lv_at hl 0 rfl) ?_
  refine lv_bipush (v := 50) hx hb dX0_init_85 (by decide) ?_
  refine va_iast hx hb hK hP hD hS 1 0 rfl rfl (show ¬ ((11 : Int32) < 0 ∨ 12 ≤ (11 : Int32).toNatClampNeg) by decide) dX0_init_87 (fun H locs hP hD hS => ?_)
  have hP : va_P D vwCl [(h0, .inr (0, [.ref q1, .ref q2, .ref q3, .ref q4, .ref q5, .ref q6, .int 0, .int 0, .int 0, .int 1])), (q1, .inl (cI, 12, .inl (upd (upd (upd (upd (upd (upd (upd (upd (upd (upd (upd (upd (fun _ => 0) 0 (50)) 1 (50)) 2 (50)) 3 (50)) 4 (50)) 5 (50)) 6 (50)) 7 (50)) 8 (50)) 9 (50)) 10 (50)) 11 (50)))), (q2, .inl (cI, 6, .inl (fun _ => 0))), (q3, .inl (cI, 6, .inl (fun _ => 0))), (q4, .inl (cI, 6, .inl (fun _ => 0))), (q5, .inl (cI, 6, .inl (fun _ => 0))), (q6, .inl (cI, 10, .inl (fun _ => 0)))] H := hP
  have hD : va_D A [(h0, .inr (0, [.ref q1, .ref q2, .ref q3, .ref q4, .ref q5, .ref q6, .int 0, .int 0, .int 0, .int 1])), (q1, .inl (cI, 12, .inl (upd (upd (upd (upd (upd (upd (upd (upd (upd (upd (upd (upd (fun _ => 0) 0 (50)) 1 (50)) 2 (50)) 3 (50)) 4 (50)) 5 (50)) 6 (50)) 7 (50)) 8 (50)) 9 (50)) 10 (50)) 11 (50)))), (q2, .inl (cI, 6, .inl (fun _ => 0))), (q3, .inl (cI, 6, .inl (fun _ => 0))), (q4, .inl (cI, 6, .inl (fun _ => 0))), (q5, .inl (cI, 6, .inl (fun _ => 0))), (q6, .inl (cI, 10, .inl (fun _ => 0)))] := hD
  refine lv_iinc (v := 12) (lv' := [(1, .int 12), (0, .ref h0)]) hx hb dX0_init_88 hl (k := 0) rfl (by decide) (by decide) rfl (fun ls hl => ?_)
  refine lv_goto (tgt := 74) hx hb dX0_init_91 (by decide) ?_
  refine lv_iload_n hx hb dX0_init_74 rfl (lv_at hl 0 rfl) ?_
  refine lv_bipush (v := 12) hx hb dX0_init_75 (by decide) ?_
  refine lv_icmp_ge (tgt := 94) hx hb dX0_init_77 (by decide) (fun _ => ?_) (fun z => absurd (by decide) z)
  refine lv_iconst (v := 0) hx hb dX0_init_94 (by decide) ?_
  refine lv_istore_n (lv' := [(1, .int 0), (0, .ref h0)]) hx hb dX0_init_95 rfl hl (by decide) rfl (fun ls hl => ?_)
  refine lv_iload_n hx hb dX0_init_96 rfl (lv_at hl 0 rfl) ?_
  refine lv_bipush (v := 10) hx hb dX0_init_97 (by decide) ?_
  refine lv_icmp_ge (tgt := 115) hx hb dX0_init_99 (by decide) (fun z => absurd z (by decide)) (fun _ => ?_)
  refine lv_aload_n hx hb dX0_init_102 rfl (lv_at hl 1 rfl) ?_
  refine va_get (D := D) (ci := 0) (v := .ref q6) (C := RX0) (T := TX0) (N := 10) hx hb hts uws_0 hown hK hP 0 rfl rfl 5 (by decide) (hts (.fieldLink RX0 27 "FeetBridge$Bridge" "spots" "[I") (gw 102 (by decide +kernel) (by decide +kernel))) (fun _ h9 => h9) rfl dX0_init_103 ?_
  refine lv_iload_n hx hb dX0_init_106 rfl (lv_at hl 0 rfl) ?_
  refine lv_iconst (v := (-1)) hx hb dX0_init_107 (by decide) ?_
  refine va_iast hx hb hK hP hD hS 6 0 rfl rfl (show ¬ ((0 : Int32) < 0 ∨ 10 ≤ (0 : Int32).toNatClampNeg) by decide) dX0_init_108 (fun H locs hP hD hS => ?_)
  have hP : va_P D vwCl [(h0, .inr (0, [.ref q1, .ref q2, .ref q3, .ref q4, .ref q5, .ref q6, .int 0, .int 0, .int 0, .int 1])), (q1, .inl (cI, 12, .inl (upd (upd (upd (upd (upd (upd (upd (upd (upd (upd (upd (upd (fun _ => 0) 0 (50)) 1 (50)) 2 (50)) 3 (50)) 4 (50)) 5 (50)) 6 (50)) 7 (50)) 8 (50)) 9 (50)) 10 (50)) 11 (50)))), (q2, .inl (cI, 6, .inl (fun _ => 0))), (q3, .inl (cI, 6, .inl (fun _ => 0))), (q4, .inl (cI, 6, .inl (fun _ => 0))), (q5, .inl (cI, 6, .inl (fun _ => 0))), (q6, .inl (cI, 10, .inl (upd (fun _ => 0) 0 (-1))))] H := hP
  have hD : va_D A [(h0, .inr (0, [.ref q1, .ref q2, .ref q3, .ref q4, .ref q5, .ref q6, .int 0, .int 0, .int 0, .int 1])), (q1, .inl (cI, 12, .inl (upd (upd (upd (upd (upd (upd (upd (upd (upd (upd (upd (upd (fun _ => 0) 0 (50)) 1 (50)) 2 (50)) 3 (50)) 4 (50)) 5 (50)) 6 (50)) 7 (50)) 8 (50)) 9 (50)) 10 (50)) 11 (50)))), (q2, .inl (cI, 6, .inl (fun _ => 0))), (q3, .inl (cI, 6, .inl (fun _ => 0))), (q4, .inl (cI, 6, .inl (fun _ => 0))), (q5, .inl (cI, 6, .inl (fun _ => 0))), (q6, .inl (cI, 10, .inl (upd (fun _ => 0) 0 (-1))))] := hD
  refine lv_iinc (v := 1) (lv' := [(1, .int 1), (0, .ref h0)]) hx hb dX0_init_109 hl (k := 0) rfl (by decide) (by decide) rfl (fun ls hl => ?_)
  refine lv_goto (tgt := 96) hx hb dX0_init_112 (by decide) ?_
  refine lv_iload_n hx hb dX0_init_96 rfl (lv_at hl 0 rfl) ?_
  refine lv_bipush (v := 10) hx hb dX0_init_97 (by decide) ?_
  refine lv_icmp_ge (tgt := 115) hx hb dX0_init_99 (by decide) (fun z => absurd z (by decide)) (fun _ => ?_)
  refine lv_aload_n hx hb dX0_init_102 rfl (lv_at hl 1 rfl) ?_
  refine va_get (D := D) (ci := 0) (v := .ref q6) (C := RX0) (T := TX0) (N := 10) hx hb hts uws_0 hown hK hP 0 rfl rfl 5 (by decide) (hts (.fieldLink RX0 27 "FeetBridge$Bridge" "spots" "[I") (gw 102 (by decide +kernel) (by decide +kernel))) (fun _ h9 => h9) rfl dX0_init_103 ?_
  refine lv_iload_n hx hb dX0_init_106 rfl (lv_at hl 0 rfl) ?_
  refine lv_iconst (v := (-1)) hx hb dX0_init_107 (by decide) ?_
  refine va_iast hx hb hK hP hD hS 6 0 rfl rfl (show ¬ ((1 : Int32) < 0 ∨ 10 ≤ (1 : Int32).toNatClampNeg) by decide) dX0_init_108 (fun H locs hP hD hS => ?_)
  have hP : va_P D vwCl [(h0, .inr (0, [.ref q1, .ref q2, .ref q3, .ref q4, .ref q5, .ref q6, .int 0, .int 0, .int 0, .int 1])), (q1, .inl (cI, 12, .inl (upd (upd (upd (upd (upd (upd (upd (upd (upd (upd (upd (upd (fun _ => 0) 0 (50)) 1 (50)) 2 (50)) 3 (50)) 4 (50)) 5 (50)) 6 (50)) 7 (50)) 8 (50)) 9 (50)) 10 (50)) 11 (50)))), (q2, .inl (cI, 6, .inl (fun _ => 0))), (q3, .inl (cI, 6, .inl (fun _ => 0))), (q4, .inl (cI, 6, .inl (fun _ => 0))), (q5, .inl (cI, 6, .inl (fun _ => 0))), (q6, .inl (cI, 10, .inl (upd (upd (fun _ => 0) 0 (-1)) 1 (-1))))] H := hP
  have hD : va_D A [(h0, .inr (0, [.ref q1, .ref q2, .ref q3, .ref q4, .ref q5, .ref q6, .int 0, .int 0, .int 0, .int 1])), (q1, .inl (cI, 12, .inl (upd (upd (upd (upd (upd (upd (upd (upd (upd (upd (upd (upd (fun _ => 0) 0 (50)) 1 (50)) 2 (50)) 3 (50)) 4 (50)) 5 (50)) 6 (50)) 7 (50)) 8 (50)) 9 (50)) 10 (50)) 11 (50)))), (q2, .inl (cI, 6, .inl (fun _ => 0))), (q3, .inl (cI, 6, .inl (fun _ => 0))), (q4, .inl (cI, 6, .inl (fun _ => 0))), (q5, .inl (cI, 6, .inl (fun _ => 0))), (q6, .inl (cI, 10, .inl (upd (upd (fun _ => 0) 0 (-1)) 1 (-1))))] := hD
  refine lv_iinc (v := 2) (lv' := [(1, .int 2), (0, .ref h0)]) hx hb dX0_init_109 hl (k := 0) rfl (by decide) (by decide) rfl (fun ls hl => ?_)
  refine lv_goto (tgt := 96) hx hb dX0_init_112 (by decide) ?_
  refine lv_iload_n hx hb dX0_init_96 rfl (lv_at hl 0 rfl) ?_
  refine lv_bipush (v := 10) hx hb dX0_init_97 (by decide) ?_
  refine lv_icmp_ge (tgt := 115) hx hb dX0_init_99 (by decide) (fun z => absurd z (by decide)) (fun _ => ?_)
  refine lv_aload_n hx hb dX0_init_102 rfl (lv_at hl 1 rfl) ?_
  refine va_get (D := D) (ci := 0) (v := .ref q6) (C := RX0) (T := TX0) (N := 10) hx hb hts uws_0 hown hK hP 0 rfl rfl 5 (by decide) (hts (.fieldLink RX0 27 "FeetBridge$Bridge" "spots" "[I") (gw 102 (by decide +kernel) (by decide +kernel))) (fun _ h9 => h9) rfl dX0_init_103 ?_
  refine lv_iload_n hx hb dX0_init_106 rfl (lv_at hl 0 rfl) ?_
  refine lv_iconst (v := (-1)) hx hb dX0_init_107 (by decide) ?_
  refine va_iast hx hb hK hP hD hS 6 0 rfl rfl (show ¬ ((2 : Int32) < 0 ∨ 10 ≤ (2 : Int32).toNatClampNeg) by decide) dX0_init_108 (fun H locs hP hD hS => ?_)
  have hP : va_P D vwCl [(h0, .inr (0, [.ref q1, .ref q2, .ref q3, .ref q4, .ref q5, .ref q6, .int 0, .int 0, .int 0, .int 1])), (q1, .inl (cI, 12, .inl (upd (upd (upd (upd (upd (upd (upd (upd (upd (upd (upd (upd (fun _ => 0) 0 (50)) 1 (50)) 2 (50)) 3 (50)) 4 (50)) 5 (50)) 6 (50)) 7 (50)) 8 (50)) 9 (50)) 10 (50)) 11 (50)))), (q2, .inl (cI, 6, .inl (fun _ => 0))), (q3, .inl (cI, 6, .inl (fun _ => 0))), (q4, .inl (cI, 6, .inl (fun _ => 0))), (q5, .inl (cI, 6, .inl (fun _ => 0))), (q6, .inl (cI, 10, .inl (upd (upd (upd (fun _ => 0) 0 (-1)) 1 (-1)) 2 (-1))))] H := hP
  have hD : va_D A [(h0, .inr (0, [.ref q1, .ref q2, .ref q3, .ref q4, .ref q5, .ref q6, .int 0, .int 0, .int 0, .int 1])), (q1, .inl (cI, 12, .inl (upd (upd (upd (upd (upd (upd (upd (upd (upd (upd (upd (upd (fun _ => 0) 0 (50)) 1 (50)) 2 (50)) 3 (50)) 4 (50)) 5 (50)) 6 (50)) 7 (50)) 8 (50)) 9 (50)) 10 (50)) 11 (50)))), (q2, .inl (cI, 6, .inl (fun _ => 0))), (q3, .inl (cI, 6, .inl (fun _ => 0))), (q4, .inl (cI, 6, .inl (fun _ => 0))), (q5, .inl (cI, 6, .inl (fun _ => 0))), (q6, .inl (cI, 10, .inl (upd (upd (upd (fun _ => 0) 0 (-1)) 1 (-1)) 2 (-1))))] := hD
  refine lv_iinc (v := 3) (lv' := [(1, .int 3), (0, .ref h0)]) hx hb dX0_init_109 hl (k := 0) rfl (by decide) (by decide) rfl (fun ls hl => ?_)
  refine lv_goto (tgt := 96) hx hb dX0_init_112 (by decide) ?_
  refine lv_iload_n hx hb dX0_init_96 rfl (lv_at hl 0 rfl) ?_
  refine lv_bipush (v := 10) hx hb dX0_init_97 (by decide) ?_
  refine lv_icmp_ge (tgt := 115) hx hb dX0_init_99 (by decide) (fun z => absurd z (by decide)) (fun _ => ?_)
  refine lv_aload_n hx hb dX0_init_102 rfl (lv_at hl 1 rfl) ?_
  refine va_get (D := D) (ci := 0) (v := .ref q6) (C := RX0) (T := TX0) (N := 10) hx hb hts uws_0 hown hK hP 0 rfl rfl 5 (by decide) (hts (.fieldLink RX0 27 "FeetBridge$Bridge" "spots" "[I") (gw 102 (by decide +kernel) (by decide +kernel))) (fun _ h9 => h9) rfl dX0_init_103 ?_
  refine lv_iload_n hx hb dX0_init_106 rfl (lv_at hl 0 rfl) ?_
  refine lv_iconst (v := (-1)) hx hb dX0_init_107 (by decide) ?_
  refine va_iast hx hb hK hP hD hS 6 0 rfl rfl (show ¬ ((3 : Int32) < 0 ∨ 10 ≤ (3 : Int32).toNatClampNeg) by decide) dX0_init_108 (fun H locs hP hD hS => ?_)
  have hP : va_P D vwCl [(h0, .inr (0, [.ref q1, .ref q2, .ref q3, .ref q4, .ref q5, .ref q6, .int 0, .int 0, .int 0, .int 1])), (q1, .inl (cI, 12, .inl (upd (upd (upd (upd (upd (upd (upd (upd (upd (upd (upd (upd (fun _ => 0) 0 (50)) 1 (50)) 2 (50)) 3 (50)) 4 (50)) 5 (50)) 6 (50)) 7 (50)) 8 (50)) 9 (50)) 10 (50)) 11 (50)))), (q2, .inl (cI, 6, .inl (fun _ => 0))), (q3, .inl (cI, 6, .inl (fun _ => 0))), (q4, .inl (cI, 6, .inl (fun _ => 0))), (q5, .inl (cI, 6, .inl (fun _ => 0))), (q6, .inl (cI, 10, .inl (upd (upd (upd (upd (fun _ => 0) 0 (-1)) 1 (-1)) 2 (-1)) 3 (-1))))] H := hP
  have hD : va_D A [(h0, .inr (0, [.ref q1, .ref q2, .ref q3, .ref q4, .ref q5, .ref q6, .int 0, .int 0, .int 0, .int 1])), (q1, .inl (cI, 12, .inl (upd (upd (upd (upd (upd (upd (upd (upd (upd (upd (upd (upd (fun _ => 0) 0 (50)) 1 (50)) 2 (50)) 3 (50)) 4 (50)) 5 (50)) 6 (50)) 7 (50)) 8 (50)) 9 (50)) 10 (50)) 11 (50)))), (q2, .inl (cI, 6, .inl (fun _ => 0))), (q3, .inl (cI, 6, .inl (fun _ => 0))), (q4, .inl (cI, 6, .inl (fun _ => 0))), (q5, .inl (cI, 6, .inl (fun _ => 0))), (q6, .inl (cI, 10, .inl (upd (upd (upd (upd (fun _ => 0) 0 (-1)) 1 (-1)) 2 (-1)) 3 (-1))))] := hD
  refine lv_iinc (v := 4) (lv' := [(1, .int 4), (0, .ref h0)]) hx hb dX0_init_109 hl (k := 0) rfl (by decide) (by decide) rfl (fun ls hl => ?_)
  refine lv_goto (tgt := 96) hx hb dX0_init_112 (by decide) ?_
  refine lv_iload_n hx hb dX0_init_96 rfl (lv_at hl 0 rfl) ?_
  refine lv_bipush (v := 10) hx hb dX0_init_97 (by decide) ?_
  refine lv_icmp_ge (tgt := 115) hx hb dX0_init_99 (by decide) (fun z => absurd z (by decide)) (fun _ => ?_)
  refine lv_aload_n hx hb dX0_init_102 rfl (lv_at hl 1 rfl) ?_
  refine va_get (D := D) (ci := 0) (v := .ref q6) (C := RX0) (T := TX0) (N := 10) hx hb hts uws_0 hown hK hP 0 rfl rfl 5 (by decide) (hts (.fieldLink RX0 27 "FeetBridge$Bridge" "spots" "[I") (gw 102 (by decide +kernel) (by decide +kernel))) (fun _ h9 => h9) rfl dX0_init_103 ?_
  refine lv_iload_n hx hb dX0_init_106 rfl (lv_at hl 0 rfl) ?_
  refine lv_iconst (v := (-1)) hx hb dX0_init_107 (by decide) ?_
  refine va_iast hx hb hK hP hD hS 6 0 rfl rfl (show ¬ ((4 : Int32) < 0 ∨ 10 ≤ (4 : Int32).toNatClampNeg) by decide) dX0_init_108 (fun H locs hP hD hS => ?_)
  have hP : va_P D vwCl [(h0, .inr (0, [.ref q1, .ref q2, .ref q3, .ref q4, .ref q5, .ref q6, .int 0, .int 0, .int 0, .int 1])), (q1, .inl (cI, 12, .inl (upd (upd (upd (upd (upd (upd (upd (upd (upd (upd (upd (upd (fun _ => 0) 0 (50)) 1 (50)) 2 (50)) 3 (50)) 4 (50)) 5 (50)) 6 (50)) 7 (50)) 8 (50)) 9 (50)) 10 (50)) 11 (50)))), (q2, .inl (cI, 6, .inl (fun _ => 0))), (q3, .inl (cI, 6, .inl (fun _ => 0))), (q4, .inl (cI, 6, .inl (fun _ => 0))), (q5, .inl (cI, 6, .inl (fun _ => 0))), (q6, .inl (cI, 10, .inl (upd (upd (upd (upd (upd (fun _ => 0) 0 (-1)) 1 (-1)) 2 (-1)) 3 (-1)) 4 (-1))))] H := hP
  have hD : va_D A [(h0, .inr (0, [.ref q1, .ref q2, .ref q3, .ref q4, .ref q5, .ref q6, .int 0, .int 0, .int 0, .int 1])), (q1, .inl (cI, 12, .inl (upd (upd (upd (upd (upd (upd (upd (upd (upd (upd (upd (upd (fun _ => 0) 0 (50)) 1 (50)) 2 (50)) 3 (50)) 4 (50)) 5 (50)) 6 (50)) 7 (50)) 8 (50)) 9 (50)) 10 (50)) 11 (50)))), (q2, .inl (cI, 6, .inl (fun _ => 0))), (q3, .inl (cI, 6, .inl (fun _ => 0))), (q4, .inl (cI, 6, .inl (fun _ => 0))), (q5, .inl (cI, 6, .inl (fun _ => 0))), (q6, .inl (cI, 10, .inl (upd (upd (upd (upd (upd (fun _ => 0) 0 (-1)) 1 (-1)) 2 (-1)) 3 (-1)) 4 (-1))))] := hD
  refine lv_iinc (v := 5) (lv' := [(1, .int 5), (0, .ref h0)]) hx hb dX0_init_109 hl (k := 0) rfl (by decide) (by decide) rfl (fun ls hl => ?_)
  refine lv_goto (tgt := 96) hx hb dX0_init_112 (by decide) ?_
  refine lv_iload_n hx hb dX0_init_96 rfl (lv_at hl 0 rfl) ?_
  refine lv_bipush (v := 10) hx hb dX0_init_97 (by decide) ?_
  refine lv_icmp_ge (tgt := 115) hx hb dX0_init_99 (by decide) (fun z => absurd z (by decide)) (fun _ => ?_)
  refine lv_aload_n hx hb dX0_init_102 rfl (lv_at hl 1 rfl) ?_
  refine va_get (D := D) (ci := 0) (v := .ref q6) (C := RX0) (T := TX0) (N := 10) hx hb hts uws_0 hown hK hP 0 rfl rfl 5 (by decide) (hts (.fieldLink RX0 27 "FeetBridge$Bridge" "spots" "[I") (gw 102 (by decide +kernel) (by decide +kernel))) (fun _ h9 => h9) rfl dX0_init_103 ?_
  refine lv_iload_n hx hb dX0_init_106 rfl (lv_at hl 0 rfl) ?_
  refine lv_iconst (v := (-1)) hx hb dX0_init_107 (by decide) ?_
  refine va_iast hx hb hK hP hD hS 6 0 rfl rfl (show ¬ ((5 : Int32) < 0 ∨ 10 ≤ (5 : Int32).toNatClampNeg) by decide) dX0_init_108 (fun H locs hP hD hS => ?_)
  have hP : va_P D vwCl [(h0, .inr (0, [.ref q1, .ref q2, .ref q3, .ref q4, .ref q5, .ref q6, .int 0, .int 0, .int 0, .int 1])), (q1, .inl (cI, 12, .inl (upd (upd (upd (upd (upd (upd (upd (upd (upd (upd (upd (upd (fun _ => 0) 0 (50)) 1 (50)) 2 (50)) 3 (50)) 4 (50)) 5 (50)) 6 (50)) 7 (50)) 8 (50)) 9 (50)) 10 (50)) 11 (50)))), (q2, .inl (cI, 6, .inl (fun _ => 0))), (q3, .inl (cI, 6, .inl (fun _ => 0))), (q4, .inl (cI, 6, .inl (fun _ => 0))), (q5, .inl (cI, 6, .inl (fun _ => 0))), (q6, .inl (cI, 10, .inl (upd (upd (upd (upd (upd (upd (fun _ => 0) 0 (-1)) 1 (-1)) 2 (-1)) 3 (-1)) 4 (-1)) 5 (-1))))] H := hP
  have hD : va_D A [(h0, .inr (0, [.ref q1, .ref q2, .ref q3, .ref q4, .ref q5, .ref q6, .int 0, .int 0, .int 0, .int 1])), (q1, .inl (cI, 12, .inl (upd (upd (upd (upd (upd (upd (upd (upd (upd (upd (upd (upd (fun _ => 0) 0 (50)) 1 (50)) 2 (50)) 3 (50)) 4 (50)) 5 (50)) 6 (50)) 7 (50)) 8 (50)) 9 (50)) 10 (50)) 11 (50)))), (q2, .inl (cI, 6, .inl (fun _ => 0))), (q3, .inl (cI, 6, .inl (fun _ => 0))), (q4, .inl (cI, 6, .inl (fun _ => 0))), (q5, .inl (cI, 6, .inl (fun _ => 0))), (q6, .inl (cI, 10, .inl (upd (upd (upd (upd (upd (upd (fun _ => 0) 0 (-1)) 1 (-1)) 2 (-1)) 3 (-1)) 4 (-1)) 5 (-1))))] := hD
  refine lv_iinc (v := 6) (lv' := [(1, .int 6), (0, .ref h0)]) hx hb dX0_init_109 hl (k := 0) rfl (by decide) (by decide) rfl (fun ls hl => ?_)
  refine lv_goto (tgt := 96) hx hb dX0_init_112 (by decide) ?_
  refine lv_iload_n hx hb dX0_init_96 rfl (lv_at hl 0 rfl) ?_
  refine lv_bipush (v := 10) hx hb dX0_init_97 (by decide) ?_
  refine lv_icmp_ge (tgt := 115) hx hb dX0_init_99 (by decide) (fun z => absurd z (by decide)) (fun _ => ?_)
  refine lv_aload_n hx hb dX0_init_102 rfl (lv_at hl 1 rfl) ?_
  refine va_get (D := D) (ci := 0) (v := .ref q6) (C := RX0) (T := TX0) (N := 10) hx hb hts uws_0 hown hK hP 0 rfl rfl 5 (by decide) (hts (.fieldLink RX0 27 "FeetBridge$Bridge" "spots" "[I") (gw 102 (by decide +kernel) (by decide +kernel))) (fun _ h9 => h9) rfl dX0_init_103 ?_
  refine lv_iload_n hx hb dX0_init_106 rfl (lv_at hl 0 rfl) ?_
  refine lv_iconst (v := (-1)) hx hb dX0_init_107 (by decide) ?_
  refine va_iast hx hb hK hP hD hS 6 0 rfl rfl (show ¬ ((6 : Int32) < 0 ∨ 10 ≤ (6 : Int32).toNatClampNeg) by decide) dX0_init_108 (fun H locs hP hD hS => ?_)
  have hP : va_P D vwCl [(h0, .inr (0, [.ref q1, .ref q2, .ref q3, .ref q4, .ref q5, .ref q6, .int 0, .int 0, .int 0, .int 1])), (q1, .inl (cI, 12, .inl (upd (upd (upd (upd (upd (upd (upd (upd (upd (upd (upd (upd (fun _ => 0) 0 (50)) 1 (50)) 2 (50)) 3 (50)) 4 (50)) 5 (50)) 6 (50)) 7 (50)) 8 (50)) 9 (50)) 10 (50)) 11 (50)))), (q2, .inl (cI, 6, .inl (fun _ => 0))), (q3, .inl (cI, 6, .inl (fun _ => 0))), (q4, .inl (cI, 6, .inl (fun _ => 0))), (q5, .inl (cI, 6, .inl (fun _ => 0))), (q6, .inl (cI, 10, .inl (upd (upd (upd (upd (upd (upd (upd (fun _ => 0) 0 (-1)) 1 (-1)) 2 (-1)) 3 (-1)) 4 (-1)) 5 (-1)) 6 (-1))))] H := hP
  have hD : va_D A [(h0, .inr (0, [.ref q1, .ref q2, .ref q3, .ref q4, .ref q5, .ref q6, .int 0, .int 0, .int 0, .int 1])), (q1, .inl (cI, 12, .inl (upd (upd (upd (upd (upd (upd (upd (upd (upd (upd (upd (upd (fun _ => 0) 0 (50)) 1 (50)) 2 (50)) 3 (50)) 4 (50)) 5 (50)) 6 (50)) 7 (50)) 8 (50)) 9 (50)) 10 (50)) 11 (50)))), (q2, .inl (cI, 6, .inl (fun _ => 0))), (q3, .inl (cI, 6, .inl (fun _ => 0))), (q4, .inl (cI, 6, .inl (fun _ => 0))), (q5, .inl (cI, 6, .inl (fun _ => 0))), (q6, .inl (cI, 10, .inl (upd (upd (upd (upd (upd (upd (upd (fun _ => 0) 0 (-1)) 1 (-1)) 2 (-1)) 3 (-1)) 4 (-1)) 5 (-1)) 6 (-1))))] := hD
  refine lv_iinc (v := 7) (lv' := [(1, .int 7), (0, .ref h0)]) hx hb dX0_init_109 hl (k := 0) rfl (by decide) (by decide) rfl (fun ls hl => ?_)
  refine lv_goto (tgt := 96) hx hb dX0_init_112 (by decide) ?_
  refine lv_iload_n hx hb dX0_init_96 rfl (lv_at hl 0 rfl) ?_
  refine lv_bipush (v := 10) hx hb dX0_init_97 (by decide) ?_
  refine lv_icmp_ge (tgt := 115) hx hb dX0_init_99 (by decide) (fun z => absurd z (by decide)) (fun _ => ?_)
  refine lv_aload_n hx hb dX0_init_102 rfl (lv_at hl 1 rfl) ?_
  refine va_get (D := D) (ci := 0) (v := .ref q6) (C := RX0) (T := TX0) (N := 10) hx hb hts uws_0 hown hK hP 0 rfl rfl 5 (by decide) (hts (.fieldLink RX0 27 "FeetBridge$Bridge" "spots" "[I") (gw 102 (by decide +kernel) (by decide +kernel))) (fun _ h9 => h9) rfl dX0_init_103 ?_
  refine lv_iload_n hx hb dX0_init_106 rfl (lv_at hl 0 rfl) ?_
  refine lv_iconst (v := (-1)) hx hb dX0_init_107 (by decide) ?_
  refine va_iast hx hb hK hP hD hS 6 0 rfl rfl (show ¬ ((7 : Int32) < 0 ∨ 10 ≤ (7 : Int32).toNatClampNeg) by decide) dX0_init_108 (fun H locs hP hD hS => ?_)
  have hP : va_P D vwCl [(h0, .inr (0, [.ref q1, .ref q2, .ref q3, .ref q4, .ref q5, .ref q6, .int 0, .int 0, .int 0, .int 1])), (q1, .inl (cI, 12, .inl (upd (upd (upd (upd (upd (upd (upd (upd (upd (upd (upd (upd (fun _ => 0) 0 (50)) 1 (50)) 2 (50)) 3 (50)) 4 (50)) 5 (50)) 6 (50)) 7 (50)) 8 (50)) 9 (50)) 10 (50)) 11 (50)))), (q2, .inl (cI, 6, .inl (fun _ => 0))), (q3, .inl (cI, 6, .inl (fun _ => 0))), (q4, .inl (cI, 6, .inl (fun _ => 0))), (q5, .inl (cI, 6, .inl (fun _ => 0))), (q6, .inl (cI, 10, .inl (upd (upd (upd (upd (upd (upd (upd (upd (fun _ => 0) 0 (-1)) 1 (-1)) 2 (-1)) 3 (-1)) 4 (-1)) 5 (-1)) 6 (-1)) 7 (-1))))] H := hP
  have hD : va_D A [(h0, .inr (0, [.ref q1, .ref q2, .ref q3, .ref q4, .ref q5, .ref q6, .int 0, .int 0, .int 0, .int 1])), (q1, .inl (cI, 12, .inl (upd (upd (upd (upd (upd (upd (upd (upd (upd (upd (upd (upd (fun _ => 0) 0 (50)) 1 (50)) 2 (50)) 3 (50)) 4 (50)) 5 (50)) 6 (50)) 7 (50)) 8 (50)) 9 (50)) 10 (50)) 11 (50)))), (q2, .inl (cI, 6, .inl (fun _ => 0))), (q3, .inl (cI, 6, .inl (fun _ => 0))), (q4, .inl (cI, 6, .inl (fun _ => 0))), (q5, .inl (cI, 6, .inl (fun _ => 0))), (q6, .inl (cI, 10, .inl (upd (upd (upd (upd (upd (upd (upd (upd (fun _ => 0) 0 (-1)) 1 (-1)) 2 (-1)) 3 (-1)) 4 (-1)) 5 (-1)) 6 (-1)) 7 (-1))))] := hD
  refine lv_iinc (v := 8) (lv' := [(1, .int 8), (0, .ref h0)]) hx hb dX0_init_109 hl (k := 0) rfl (by decide) (by decide) rfl (fun ls hl => ?_)
  refine lv_goto (tgt := 96) hx hb dX0_init_112 (by decide) ?_
  refine lv_iload_n hx hb dX0_init_96 rfl (lv_at hl 0 rfl) ?_
  refine lv_bipush (v := 10) hx hb dX0_init_97 (by decide) ?_
  refine lv_icmp_ge (tgt := 115) hx hb dX0_init_99 (by decide) (fun z => absurd z (by decide)) (fun _ => ?_)
  refine lv_aload_n hx hb dX0_init_102 rfl (lv_at hl 1 rfl) ?_
  refine va_get (D := D) (ci := 0) (v := .ref q6) (C := RX0) (T := TX0) (N := 10) hx hb hts uws_0 hown hK hP 0 rfl rfl 5 (by decide) (hts (.fieldLink RX0 27 "FeetBridge$Bridge" "spots" "[I") (gw 102 (by decide +kernel) (by decide +kernel))) (fun _ h9 => h9) rfl dX0_init_103 ?_
  refine lv_iload_n hx hb dX0_init_106 rfl (lv_at hl 0 rfl) ?_
  refine lv_iconst (v := (-1)) hx hb dX0_init_107 (by decide) ?_
  refine va_iast hx hb hK hP hD hS 6 0 rfl rfl (show ¬ ((8 : Int32) < 0 ∨ 10 ≤ (8 : Int32).toNatClampNeg) by decide) dX0_init_108 (fun H locs hP hD hS => ?_)
  have hP : va_P D vwCl [(h0, .inr (0, [.ref q1, .ref q2, .ref q3, .ref q4, .ref q5, .ref q6, .int 0, .int 0, .int 0, .int 1])), (q1, .inl (cI, 12, .inl (upd (upd (upd (upd (upd (upd (upd (upd (upd (upd (upd (upd (fun _ => 0) 0 (50)) 1 (50)) 2 (50)) 3 (50)) 4 (50)) 5 (50)) 6 (50)) 7 (50)) 8 (50)) 9 (50)) 10 (50)) 11 (50)))), (q2, .inl (cI, 6, .inl (fun _ => 0))), (q3, .inl (cI, 6, .inl (fun _ => 0))), (q4, .inl (cI, 6, .inl (fun _ => 0))), (q5, .inl (cI, 6, .inl (fun _ => 0))), (q6, .inl (cI, 10, .inl (upd (upd (upd (upd (upd (upd (upd (upd (upd (fun _ => 0) 0 (-1)) 1 (-1)) 2 (-1)) 3 (-1)) 4 (-1)) 5 (-1)) 6 (-1)) 7 (-1)) 8 (-1))))] H := hP
  have hD : va_D A [(h0, .inr (0, [.ref q1, .ref q2, .ref q3, .ref q4, .ref q5, .ref q6, .int 0, .int 0, .int 0, .int 1])), (q1, .inl (cI, 12, .inl (upd (upd (upd (upd (upd (upd (upd (upd (upd (upd (upd (upd (fun _ => 0) 0 (50)) 1 (50)) 2 (50)) 3 (50)) 4 (50)) 5 (50)) 6 (50)) 7 (50)) 8 (50)) 9 (50)) 10 (50)) 11 (50)))), (q2, .inl (cI, 6, .inl (fun _ => 0))), (q3, .inl (cI, 6, .inl (fun _ => 0))), (q4, .inl (cI, 6, .inl (fun _ => 0))), (q5, .inl (cI, 6, .inl (fun _ => 0))), (q6, .inl (cI, 10, .inl (upd (upd (upd (upd (upd (upd (upd (upd (upd (fun _ => 0) 0 (-1)) 1 (-1)) 2 (-1)) 3 (-1)) 4 (-1)) 5 (-1)) 6 (-1)) 7 (-1)) 8 (-1))))] := hD
  refine lv_iinc (v := 9) (lv' := [(1, .int 9), (0, .ref h0)]) hx hb dX0_init_109 hl (k := 0) rfl (by decide) (by decide) rfl (fun ls hl => ?_)
  refine lv_goto (tgt := 96) hx hb dX0_init_112 (by decide) ?_
  refine lv_iload_n hx hb dX0_init_96 rfl (lv_at hl 0 rfl) ?_
  refine lv_bipush (v := 10) hx hb dX0_init_97 (by decide) ?_
  refine lv_icmp_ge (tgt := 115) hx hb dX0_init_99 (by decide) (fun z => absurd z (by decide)) (fun _ => ?_)
  refine lv_aload_n hx hb dX0_init_102 rfl (lv_at hl 1 rfl) ?_
  refine va_get (D := D) (ci := 0) (v := .ref q6) (C := RX0) (T := TX0) (N := 10) hx hb hts uws_0 hown hK hP 0 rfl rfl 5 (by decide) (hts (.fieldLink RX0 27 "FeetBridge$Bridge" "spots" "[I") (gw 102 (by decide +kernel) (by decide +kernel))) (fun _ h9 => h9) rfl dX0_init_103 ?_
  refine lv_iload_n hx hb dX0_init_106 rfl (lv_at hl 0 rfl) ?_
  refine lv_iconst (v := (-1)) hx hb dX0_init_107 (by decide) ?_
  refine va_iast hx hb hK hP hD hS 6 0 rfl rfl (show ¬ ((9 : Int32) < 0 ∨ 10 ≤ (9 : Int32).toNatClampNeg) by decide) dX0_init_108 (fun H locs hP hD hS => ?_)
  have hP : va_P D vwCl [(h0, .inr (0, [.ref q1, .ref q2, .ref q3, .ref q4, .ref q5, .ref q6, .int 0, .int 0, .int 0, .int 1])), (q1, .inl (cI, 12, .inl (upd (upd (upd (upd (upd (upd (upd (upd (upd (upd (upd (upd (fun _ => 0) 0 (50)) 1 (50)) 2 (50)) 3 (50)) 4 (50)) 5 (50)) 6 (50)) 7 (50)) 8 (50)) 9 (50)) 10 (50)) 11 (50)))), (q2, .inl (cI, 6, .inl (fun _ => 0))), (q3, .inl (cI, 6, .inl (fun _ => 0))), (q4, .inl (cI, 6, .inl (fun _ => 0))), (q5, .inl (cI, 6, .inl (fun _ => 0))), (q6, .inl (cI, 10, .inl (upd (upd (upd (upd (upd (upd (upd (upd (upd (upd (fun _ => 0) 0 (-1)) 1 (-1)) 2 (-1)) 3 (-1)) 4 (-1)) 5 (-1)) 6 (-1)) 7 (-1)) 8 (-1)) 9 (-1))))] H := hP
  have hD : va_D A [(h0, .inr (0, [.ref q1, .ref q2, .ref q3, .ref q4, .ref q5, .ref q6, .int 0, .int 0, .int 0, .int 1])), (q1, .inl (cI, 12, .inl (upd (upd (upd (upd (upd (upd (upd (upd (upd (upd (upd (upd (fun _ => 0) 0 (50)) 1 (50)) 2 (50)) 3 (50)) 4 (50)) 5 (50)) 6 (50)) 7 (50)) 8 (50)) 9 (50)) 10 (50)) 11 (50)))), (q2, .inl (cI, 6, .inl (fun _ => 0))), (q3, .inl (cI, 6, .inl (fun _ => 0))), (q4, .inl (cI, 6, .inl (fun _ => 0))), (q5, .inl (cI, 6, .inl (fun _ => 0))), (q6, .inl (cI, 10, .inl (upd (upd (upd (upd (upd (upd (upd (upd (upd (upd (fun _ => 0) 0 (-1)) 1 (-1)) 2 (-1)) 3 (-1)) 4 (-1)) 5 (-1)) 6 (-1)) 7 (-1)) 8 (-1)) 9 (-1))))] := hD
  refine lv_iinc (v := 10) (lv' := [(1, .int 10), (0, .ref h0)]) hx hb dX0_init_109 hl (k := 0) rfl (by decide) (by decide) rfl (fun ls hl => ?_)
  refine lv_goto (tgt := 96) hx hb dX0_init_112 (by decide) ?_
  refine lv_iload_n hx hb dX0_init_96 rfl (lv_at hl 0 rfl) ?_
  refine lv_bipush (v := 10) hx hb dX0_init_97 (by decide) ?_
  refine lv_icmp_ge (tgt := 115) hx hb dX0_init_99 (by decide) (fun _ => ?_) (fun z => absurd (by decide) z)
  exact W.vret hx hb hr (fun t ht hW => ⟨⟨(), rfl, trivial, q1, q2, q3, q4, q5, q6, by rw [ht]; exact hP, va_K.moved hW.alike hK, hD⟩, hS.F ht⟩) hS.2.2 dX0_init_115
theorem uws_4 : ∀ w ∈ u_ws RX4 TX4 3, w ∈ gT := by decide +kernel
set_option maxRecDepth 100000 in
set_option maxHeartbeats 4000000 in
theorem big_init4 (MNA : MnaRow) (l : Launch) (D : va_G) (cI : ClassId) (h0 sz : Nat) : Met l yX4_init (mws (mI 45)) { frames := 1, cells := 7, slots := 172, locals := 64 } (va_Pc [.ref h0] (fun U => U.heap.size = sz ∧ va_P D vwCl [(h0, .inr (3, [.null, .null, .null]))] U.heap ∧ va_K D vwCl [(cI, .int)] U ∧ va_D (fun _ => True) [(h0, .inr (3, [.null, .null, .null]))] ∧ AOI U)) (va_Qv (fun _ : Unit => True) (fun _ t => ∃ (q1 : Nat), ∃ (rq1 : Nat → Nat), ∃ (cAq1 : ClassId), ∃ (q6 : Nat), ∃ (q7 : Nat), va_P D vwCl [(h0, .inr (3, [.ref q1, .ref q6, .ref q7])), (q1, .inl (cAq1, 4, .inr (.inr (.inr (.inr (fun i => if i < 4 then some (rq1 i) else none)))))), (rq1 0, .inl (cI, 40, .inl (fun _ => 0))), (rq1 1, .inl (cI, 40, .inl (fun _ => 0))), (rq1 2, .inl (cI, 40, .inl (fun _ => 0))), (rq1 3, .inl (cI, 40, .inl (fun _ => 0))), (q6, .inl (cI, 4, .inl (fun _ => 0))), (q7, .inl (cI, 4, .inl (fun _ => 0)))] t.heap ∧ va_K D vwCl [(cI, .int), (cAq1, .array .int)] t ∧ va_D (va_A [(h0, .inr (3, [.null, .null, .null]))] sz) [(h0, .inr (3, [.ref q1, .ref q6, .ref q7])), (q1, .inl (cAq1, 4, .inr (.inr (.inr (.inr (fun i => if i < 4 then some (rq1 i) else none)))))), (rq1 0, .inl (cI, 40, .inl (fun _ => 0))), (rq1 1, .inl (cI, 40, .inl (fun _ => 0))), (rq1 2, .inl (cI, 40, .inl (fun _ => 0))), (rq1 3, .inl (cI, 40, .inl (fun _ => 0))), (q6, .inl (cI, 4, .inl (fun _ => 0))), (q7, .inl (cI, 4, .inl (fun _ => 0)))]) (va_A [(h0, .inr (3, [.null, .null, .null]))] sz)) 7 172 (va_A [(h0, .inr (3, [.null, .null, .null]))] sz) := by
  refine Met.ofW (cc := cX4_init) (maxL := 1) (ret := none) (by decide) rfl ?_
  intro p e s m args below meth c s₁ B hml hv
  obtain ⟨rfl, hsz, hP, hK, hD0, hAO⟩ := hv
  have hx := B.exec
  have hb := B.bytes
  have hr := B.returns
  have hts0 := atoms_spec (ws := mws (mI 45)) B.pre
  have hts : ∀ w ∈ gT, w.before _ s = true := fun w hw => hts0 w (List.mem_cons_of_mem _ hw)
  have hown : s.vm.findClass RX4 = some m.cls := findClass_of_methodNamed B.named
  have hin : meth.name = "<init>" := (name_of_methodNamed B.named B.method).1
  subst hsz
  have hD := hD0.self (sz := s.heap.size)
  generalize hAe : va_A [(h0, .inr (3, [.null, .null, .null]))] s.heap.size = A at hD ⊢
  have hA : ∀ q : Nat, s.heap.size ≤ q → A q := fun q h => by rw [← hAe]; exact Or.inr h
  have hS : va_S A s.heap s.heap [] := va_S.rf
  have hP : va_P D vwCl [(h0, .inr (3, [.null, .null, .null]))] s.heap := hP
  have hl := lv_entry ([.ref h0]) (n := 1) (Nat.le_of_ble_eq_true rfl)
  rw [lg_entry_eq]
  generalize (lg_sl ([.ref h0]) ++ List.replicate (1 - (lg_sl ([.ref h0])).length) Slot.unset).toArray = ls at hl ⊢
  have hl : lv_has ls 1 [(0, .ref h0)] := hl
  refine lv_aload_n hx hb dX4_init_0 rfl (lv_at hl 0 rfl) ?_
  refine W.objInit hx hb hown (hts (.methodLink RX4 3 objectInit) (gw 231 (by decide +kernel) (by decide +kernel))) (hts (.instanceMethod objectInit) (gw 79 (by decide +kernel) (by decide +kernel))) (hts (.code objectInit ⟨#[0xb1]⟩ 1 none) (gw 80 (by decide +kernel) (by decide +kernel))) rfl (by rw [hml]; exact hl.1) rfl dX4_init_1 (Nat.le_of_ble_eq_true rfl) (Nat.le_of_ble_eq_true rfl) ?_
  refine W.eq (g2 := F0 m 4 ls []) rfl ?_
  refine lv_aload_n hx hb dX4_init_4 rfl (lv_at hl 0 rfl) ?_
  refine lv_iconst (v := 4) hx hb dX4_init_5 (by decide) ?_
  refine lv_bipush (v := 40) hx hb dX4_init_6 (by decide) ?_
  have hcy : s.vm.findClass "[I" = some cI := (hK.2 0 _ rfl).2
  refine MNA (X := [(h0, .inr (3, [.null, .null, .null]))]) (cy := cI) hx hb hown (hts (.classLink RX4 9 "[[I") (gw 232 (by decide +kernel) (by decide +kernel))) hAO (hts (.arrayClass .int) (gw 136 (by decide +kernel) (by decide +kernel))) hcy hK hP hD hS hA (n := 4) (k := 40) (N' := 4) (K' := 40) (by decide) (by decide) (by decide) (by decide) (Nat.le_of_ble_eq_true rfl) (Nat.le_of_ble_eq_true rfl) (Nat.le_of_ble_eq_true rfl) (Nat.le_of_ble_eq_true rfl) (Nat.le_of_ble_eq_true rfl) dX4_init_8 (fun q1 rq1 cAq1 H hK hP hD hS => ?_)
  have hP : va_P D vwCl [(h0, .inr (3, [.null, .null, .null])), (q1, .inl (cAq1, 4, .inr (.inr (.inr (.inr (fun i => if i < 4 then some (rq1 i) else none)))))), (rq1 0, .inl (cI, 40, .inl (fun _ => 0))), (rq1 1, .inl (cI, 40, .inl (fun _ => 0))), (rq1 2, .inl (cI, 40, .inl (fun _ => 0))), (rq1 3, .inl (cI, 40, .inl (fun _ => 0)))] H := hP
  have hD : va_D A [(h0, .inr (3, [.null, .null, .null])), (q1, .inl (cAq1, 4, .inr (.inr (.inr (.inr (fun i => if i < 4 then some (rq1 i) else none)))))), (rq1 0, .inl (cI, 40, .inl (fun _ => 0))), (rq1 1, .inl (cI, 40, .inl (fun _ => 0))), (rq1 2, .inl (cI, 40, .inl (fun _ => 0))), (rq1 3, .inl (cI, 40, .inl (fun _ => 0)))] := hD
  refine va_putF (D := D) (ci := 3) (v := .ref q1) (ty := .array (.array .int)) (C := RX4) (T := TX4) (N := 3) hx hb hts uws_4 tyX4 tyX4_ok nmX4 hown hK hP hD hS 0 rfl rfl 0 (by decide) (hts (.fieldLink RX4 11 "FeetBridge$Sheets" "numbers" "[[I") (gw 233 (by decide +kernel) (by decide +kernel))) (fun _ h9 => h9) rfl hin rfl (by decide +kernel) rfl rfl (Nat.le_of_ble_eq_true rfl) dX4_init_12 (fun H locs hP hD hS => ?_)
  have hP : va_P D vwCl [(h0, .inr (3, [.ref q1, .null, .null])), (q1, .inl (cAq1, 4, .inr (.inr (.inr (.inr (fun i => if i < 4 then some (rq1 i) else none)))))), (rq1 0, .inl (cI, 40, .inl (fun _ => 0))), (rq1 1, .inl (cI, 40, .inl (fun _ => 0))), (rq1 2, .inl (cI, 40, .inl (fun _ => 0))), (rq1 3, .inl (cI, 40, .inl (fun _ => 0)))] H := hP
  have hD : va_D A [(h0, .inr (3, [.ref q1, .null, .null])), (q1, .inl (cAq1, 4, .inr (.inr (.inr (.inr (fun i => if i < 4 then some (rq1 i) else none)))))), (rq1 0, .inl (cI, 40, .inl (fun _ => 0))), (rq1 1, .inl (cI, 40, .inl (fun _ => 0))), (rq1 2, .inl (cI, 40, .inl (fun _ => 0))), (rq1 3, .inl (cI, 40, .inl (fun _ => 0)))] := hD
  refine lv_aload_n hx hb dX4_init_15 rfl (lv_at hl 0 rfl) ?_
  refine lv_iconst (v := 4) hx hb dX4_init_16 (by decide) ?_
  refine va_newi hx hb (hts (.arrayClass .int) (gw 136 (by decide +kernel) (by decide +kernel))) hK 0 rfl hP hD hS hA (n := 4) (N' := 4) (by decide) (by decide) (Nat.le_of_ble_eq_true rfl) (Nat.le_of_ble_eq_true rfl) (Nat.le_of_ble_eq_true rfl) dX4_init_17 (fun q6 H hP hD hS => ?_)
  have hP : va_P D vwCl [(h0, .inr (3, [.ref q1, .null, .null])), (q1, .inl (cAq1, 4, .inr (.inr (.inr (.inr (fun i => if i < 4 then some (rq1 i) else none)))))), (rq1 0, .inl (cI, 40, .inl (fun _ => 0))), (rq1 1, .inl (cI, 40, .inl (fun _ => 0))), (rq1 2, .inl (cI, 40, .inl (fun _ => 0))), (rq1 3, .inl (cI, 40, .inl (fun _ => 0))), (q6, .inl (cI, 4, .inl (fun _ => 0)))] H := hP
  have hD : va_D A [(h0, .inr (3, [.ref q1, .null, .null])), (q1, .inl (cAq1, 4, .inr (.inr (.inr (.inr (fun i => if i < 4 then some (rq1 i) else none)))))), (rq1 0, .inl (cI, 40, .inl (fun _ => 0))), (rq1 1, .inl (cI, 40, .inl (fun _ => 0))), (rq1 2, .inl (cI, 40, .inl (fun _ => 0))), (rq1 3, .inl (cI, 40, .inl (fun _ => 0))), (q6, .inl (cI, 4, .inl (fun _ => 0)))] := hD
  refine va_putF (D := D) (ci := 3) (v := .ref q6) (ty := .array .int) (C := RX4) (T := TX4) (N := 3) hx hb hts uws_4 tyX4 tyX4_ok nmX4 hown hK hP hD hS 0 rfl rfl 1 (by decide) (hts (.fieldLink RX4 16 "FeetBridge$Sheets" "bits" "[I") (gw 235 (by decide +kernel) (by decide +kernel))) (fun _ h9 => h9) rfl hin rfl (by decide +kernel) rfl rfl (Nat.le_of_ble_eq_true rfl) dX4_init_19 (fun H locs hP hD hS => ?_)
  have hP : va_P D vwCl [(h0, .inr (3, [.ref q1, .ref q6, .null])), (q1, .inl (cAq1, 4, .inr (.inr (.inr (.inr (fun i => if i < 4 then some (rq1 i) else none)))))), (rq1 0, .inl (cI, 40, .inl (fun _ => 0))), (rq1 1, .inl (cI, 40, .inl (fun _ => 0))), (rq1 2, .inl (cI, 40, .inl (fun _ => 0))), (rq1 3, .inl (cI, 40, .inl (fun _ => 0))), (q6, .inl (cI, 4, .inl (fun _ => 0)))] H := hP
  have hD : va_D A [(h0, .inr (3, [.ref q1, .ref q6, .null])), (q1, .inl (cAq1, 4, .inr (.inr (.inr (.inr (fun i => if i < 4 then some (rq1 i) else none)))))), (rq1 0, .inl (cI, 40, .inl (fun _ => 0))), (rq1 1, .inl (cI, 40, .inl (fun _ => 0))), (rq1 2, .inl (cI, 40, .inl (fun _ => 0))), (rq1 3, .inl (cI, 40, .inl (fun _ => 0))), (q6, .inl (cI, 4, .inl (fun _ => 0)))] := hD
  refine lv_aload_n hx hb dX4_init_22 rfl (lv_at hl 0 rfl) ?_
  refine lv_iconst (v := 4) hx hb dX4_init_23 (by decide) ?_
  refine va_newi hx hb (hts (.arrayClass .int) (gw 136 (by decide +kernel) (by decide +kernel))) hK 0 rfl hP hD hS hA (n := 4) (N' := 4) (by decide) (by decide) (Nat.le_of_ble_eq_true rfl) (Nat.le_of_ble_eq_true rfl) (Nat.le_of_ble_eq_true rfl) dX4_init_24 (fun q7 H hP hD hS => ?_)
  have hP : va_P D vwCl [(h0, .inr (3, [.ref q1, .ref q6, .null])), (q1, .inl (cAq1, 4, .inr (.inr (.inr (.inr (fun i => if i < 4 then some (rq1 i) else none)))))), (rq1 0, .inl (cI, 40, .inl (fun _ => 0))), (rq1 1, .inl (cI, 40, .inl (fun _ => 0))), (rq1 2, .inl (cI, 40, .inl (fun _ => 0))), (rq1 3, .inl (cI, 40, .inl (fun _ => 0))), (q6, .inl (cI, 4, .inl (fun _ => 0))), (q7, .inl (cI, 4, .inl (fun _ => 0)))] H := hP
  have hD : va_D A [(h0, .inr (3, [.ref q1, .ref q6, .null])), (q1, .inl (cAq1, 4, .inr (.inr (.inr (.inr (fun i => if i < 4 then some (rq1 i) else none)))))), (rq1 0, .inl (cI, 40, .inl (fun _ => 0))), (rq1 1, .inl (cI, 40, .inl (fun _ => 0))), (rq1 2, .inl (cI, 40, .inl (fun _ => 0))), (rq1 3, .inl (cI, 40, .inl (fun _ => 0))), (q6, .inl (cI, 4, .inl (fun _ => 0))), (q7, .inl (cI, 4, .inl (fun _ => 0)))] := hD
  refine va_putF (D := D) (ci := 3) (v := .ref q7) (ty := .array .int) (C := RX4) (T := TX4) (N := 3) hx hb hts uws_4 tyX4 tyX4_ok nmX4 hown hK hP hD hS 0 rfl rfl 2 (by decide) (hts (.fieldLink RX4 20 "FeetBridge$Sheets" "sizes" "[I") (gw 237 (by decide +kernel) (by decide +kernel))) (fun _ h9 => h9) rfl hin rfl (by decide +kernel) rfl rfl (Nat.le_of_ble_eq_true rfl) dX4_init_26 (fun H locs hP hD hS => ?_)
  have hP : va_P D vwCl [(h0, .inr (3, [.ref q1, .ref q6, .ref q7])), (q1, .inl (cAq1, 4, .inr (.inr (.inr (.inr (fun i => if i < 4 then some (rq1 i) else none)))))), (rq1 0, .inl (cI, 40, .inl (fun _ => 0))), (rq1 1, .inl (cI, 40, .inl (fun _ => 0))), (rq1 2, .inl (cI, 40, .inl (fun _ => 0))), (rq1 3, .inl (cI, 40, .inl (fun _ => 0))), (q6, .inl (cI, 4, .inl (fun _ => 0))), (q7, .inl (cI, 4, .inl (fun _ => 0)))] H := hP
  have hD : va_D A [(h0, .inr (3, [.ref q1, .ref q6, .ref q7])), (q1, .inl (cAq1, 4, .inr (.inr (.inr (.inr (fun i => if i < 4 then some (rq1 i) else none)))))), (rq1 0, .inl (cI, 40, .inl (fun _ => 0))), (rq1 1, .inl (cI, 40, .inl (fun _ => 0))), (rq1 2, .inl (cI, 40, .inl (fun _ => 0))), (rq1 3, .inl (cI, 40, .inl (fun _ => 0))), (q6, .inl (cI, 4, .inl (fun _ => 0))), (q7, .inl (cI, 4, .inl (fun _ => 0)))] := hD
  exact W.vret hx hb hr (fun t ht hW => ⟨⟨(), rfl, trivial, q1, rq1, cAq1, q6, q7, by rw [ht]; exact hP, va_K.moved hW.alike hK, hD⟩, hS.F ht⟩) hS.2.2 dX4_init_29
