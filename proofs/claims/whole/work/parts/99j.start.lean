/-! THE LAW FROM ITS ENTRY -/
theorem SR.call {sa : Nat → Nat} {A : Nat → Prop} {U : State} {g : JFrame} {mk : MethodId} {a : Array Value} (h : SR sa A U) : SR sa A (U.calling g mk a) := by
  have hv : U.vm.Alike (U.calling g mk a).vm := Vm.Alike.refl U.vm
  exact ⟨fun j hj => (h.1 j hj).moved hv, fun j hj => (h.2.1 j hj).same rfl, va_AO.moved (u := U) (U := U.calling g mk a) hv h.2.2⟩
theorem sr_7 : ∀ j, j < 7 → sres 7 (36 + 2 * j) = some j ∧ clsN 7 = RX7 ∧ sTx.getD j "" = sWd.getD j "" := by decide +kernel
theorem SR_at {adK adV : Nat → Nat} {ka : Nat} {s U : State} {H : Heap} {locs : List Loc} {A B : Nat → Prop} (G : GV adK adV ka A s) (hAO : va_AO "java/lang/String" s) (hS : va_S A s.heap H locs) (hB : ∀ q, B q → A q) (hU : U.heap = H) (hW : s.WarmedH U.vm) : SR adK B U := by
  have hq : ∀ a : Nat, a < s.heap.size → ¬ A a → U.heap[a]? = s.heap[a]? := fun a b c => by rw [hU]; exact hS.2.1 a b c
  refine ⟨fun j hj => (((G.1 j (by omega)).1.kept hq).narrow hB).moved hW.alike, fun j hj => ?_, va_AO.moved hW.alike hAO⟩
  obtain ⟨e1, e2, e3⟩ := sr_7 j hj
  have h := (G.2.2.2.2.2 7 (36 + 2 * j) j e1).warm hW
  rw [e2, e3] at h
  exact h
theorem sg_ex (σ6 σ7 adK adV : Nat → Nat) (ka b : Nat) : ∃ σ : Nat → Nat, (∀ p, p < 59 → σ p = σ6 p) ∧ (∀ p, 59 ≤ p → p < 74 → σ p = σ7 p) ∧ σ 90 = ka ∧ σ 95 = b ∧ (∀ j, j < 13 → σ (100 + j) = adK j) ∧ ∀ j, j < 13 → σ (120 + j) = adV j := by
  refine ⟨fun p => if p < 59 then σ6 p else if p < 74 then σ7 p else if p = 90 then ka else if p = 95 then b else if p < 120 then adK (p - 100) else adV (p - 120), fun p h => if_pos h, fun p h1 h2 => ?_, rfl, rfl, fun j hj => ?_, fun j hj => ?_⟩
  · show (if p < 59 then σ6 p else if p < 74 then σ7 p else _) = _
    rw [if_neg (by omega), if_pos h2]
  · show (if 100 + j < 59 then _ else if 100 + j < 74 then _ else if 100 + j = 90 then _ else if 100 + j = 95 then _ else if 100 + j < 120 then adK (100 + j - 100) else _) = _
    rw [if_neg (by omega), if_neg (by omega), if_neg (by omega), if_neg (by omega), if_pos (by omega), Nat.add_sub_cancel_left]
  · show (if 120 + j < 59 then _ else if 120 + j < 74 then _ else if 120 + j = 90 then _ else if 120 + j = 95 then _ else if 120 + j < 120 then _ else adV (120 + j - 120)) = _
    rw [if_neg (by omega), if_neg (by omega), if_neg (by omega), if_neg (by omega), if_neg (by omega), Nat.add_sub_cancel_left]
theorem nc_first {s : State} {b : Nat} (hts : ∀ w ∈ lw_tbl, w.before #[Value.ref b] s = true) : NC s := by
  have htb : ∀ {k : Nat} {w : Cond}, lw_tbl[k]? = some w → w.before #[Value.ref b] s = true := fun h => hts _ (List.mem_of_getElem? h)
  exact ⟨htb (k := 174) (w := .arrayOver (.array .int)) (by decide +kernel), va_Nw.of rfl (htb (k := 172) (by decide +kernel)), va_Nw.of rfl (htb (k := 139) (by decide +kernel)), va_Nw.of rfl (htb (k := 165) (by decide +kernel)), va_Nw.of rfl (htb (k := 190) (by decide +kernel)), va_Nw.of rfl (htb (k := 228) (by decide +kernel))⟩
theorem ki_first {s : State} {b : Nat} (hts : ∀ w ∈ lw_tbl, w.before #[Value.ref b] s = true) : ∃ (D : va_G) (cI : ClassId), va_K D vwCl [(cI, .int)] s := by
  have htb : ∀ {k : Nat} {w : Cond}, lw_tbl[k]? = some w → w.before #[Value.ref b] s = true := fun h => hts _ (List.mem_of_getElem? h)
  have hgT : ∀ w ∈ gT, w.before #[Value.ref b] s = true := fun w hw => hts w (List.mem_filter.mp hw).1
  obtain ⟨c0, i0, k0⟩ := u_known (C := RX0) (T := TX0) (N := 10) (n := 10) hgT uws_0 (htb (k := 82) (by decide +kernel))
  obtain ⟨c1, i1, k1⟩ := u_known (C := RX2) (T := TX2) (N := 4) (n := 4) hgT uws_2 (htb (k := 164) (by decide +kernel))
  obtain ⟨c2, i2, k2⟩ := u_known (C := RX3) (T := TX3) (N := 10) (n := 10) hgT uws_3 (htb (k := 189) (by decide +kernel))
  obtain ⟨c3, i3, k3⟩ := u_known (C := RX4) (T := TX4) (N := 3) (n := 3) hgT uws_4 (htb (k := 227) (by decide +kernel))
  obtain ⟨c4, i4, k4⟩ := u_known (C := RX5) (T := TX5) (N := 5) (n := 5) hgT uws_5 (htb (k := 138) (by decide +kernel))
  obtain ⟨c5, i5, k5⟩ := u_known (C := RX6) (T := TX6) (N := 10) (n := 10) hgT uws_6 (htb (k := 74) (by decide +kernel))
  obtain ⟨c6, i6, k6⟩ := u_known (C := RX7) (T := TX7) (N := 26) (n := 26) hgT uws_7 (htb (k := 849) (by decide +kernel))
  have ha : (Cond.arrayClass .int).before #[Value.ref b] s = true := htb (k := 136) (by decide +kernel)
  obtain ⟨cI, kI, comp, h1, h2, h3⟩ := Cond.arrayClass_spec ha
  refine ⟨(fun k => if k = 0 then c0 else if k = 1 then c1 else if k = 2 then c2 else if k = 3 then c3 else if k = 4 then c4 else if k = 5 then c5 else c6, fun k => if k = 0 then i0 else if k = 1 then i1 else if k = 2 then i2 else if k = 3 then i3 else if k = 4 then i4 else if k = 5 then i5 else i6), cI, fun k q hq => ?_, fun k q hq => ?_⟩
  · match k, hq with
    | 0, hq => cases hq; exact k0
    | 1, hq => cases hq; exact k1
    | 2, hq => cases hq; exact k2
    | 3, hq => cases hq; exact k3
    | 4, hq => cases hq; exact k4
    | 5, hq => cases hq; exact k5
    | 6, hq => cases hq; exact k6
    | k + 7, hq => simp [vwCl] at hq
  · match k, hq with
    | 0, hq =>
      cases hq
      exact ⟨fun N z => ⟨(fun k h => by cases h), kI, h2, comp, h3⟩, h1⟩
    | k + 1, hq => simp at hq

def R_law : String := "FeetBridgeLaw"
def lw_P (b : Addr) (xs : List Int32) (args : Array Value) (s : State) : Prop := args = #[.ref b] ∧ s.IntsAt b xs ∧ xs.length ≤ 3072 ∧ (Jvm.Cond.and given_1 narrow_1).before args s = true
def lw_Q (_ : Array Value) (s : State) (o : Outcome) (t : State) : Prop := o = .returned (some (.int 1)) ∧ Framed s o t [] 600000 7302250
def lw_Z (below : List Frame) (a : Array Value) (s : State) : State → Prop := fun t => ∃ o, t.status = .running ∧ Ended t below o ∧ lw_Q a s o t
/-- the law's own end, with 1 on the stack, nothing written that was there before, its room as the claim has it -/
theorem lw_ret {p : Program} {l : Launch} {e : Env} {s : State} {m : MethodId} {below : List Frame} {meth : Method} {c : Code} {b : Nat} (hx : p.tables.exec = Jvm.exec) (hb : c.code = code) (hr : meth.sig.returnType = ret) (hlocks : meth.locks = false) {pc : Nat} {H : Heap} {ls : Array Slot} (hdg : decode code pc = .ok (.ireturn, 1)) : W p l e room_1 s m #[Value.ref b] below meth c H [] 600000 7302250 (lw_Z below #[Value.ref b] s) (F0 m pc ls [.int 1]) := by
  intro T hT X
  obtain ⟨fs, hret, hrun, hended, hW, hframe⟩ := X.leave (v := some (.int 1)) (hlocks := hlocks) (fun h => by rw [hr] at h; cases h)
  have hmeth' : T.vm.method? m = some meth := X.method'
  refine ⟨T.setFrames fs, ?_, .returned (some (.int 1)), hrun, hended, rfl, ⟨_, rfl⟩, hW, hframe⟩
  jvm_step X.here [X.here.top, hx, hb, hdg, hmeth', hr, ret, narrow_b1]
  (try refine ⟨rfl, ?_⟩); (try refine ⟨rfl, ?_⟩)
  first | (intro acts; rw [hret _ acts rfl rfl rfl]) | rw [hret _ _ rfl rfl rfl]
  exact Steps.refl _
/-- what holds at the law's entry: the machine, the code, the tables' words (any of lw_tbl by 'hts w (by decide +kernel)'), the script of L ints xs at the cell b, what the Statement gives of the start (any of its parts by flat_of_before) -/
def lw_At (p : Program) (s : State) (m : MethodId) (meth : Method) (c : Code) (b L : Nat) (xs : Nat → Int32) : Prop :=
  p.tables.exec = Jvm.exec ∧ c.code = code ∧ meth.sig.returnType = ret ∧ c.maxLocals = 4 ∧ s.vm.findClass R_law = some m.cls ∧ (∀ w ∈ lw_tbl, w.before #[Value.ref b] s = true) ∧ va_X b L xs s s.heap ∧ b < s.heap.size ∧ meth.locks = false ∧ (Jvm.Cond.and given_1 narrow_1).before #[Value.ref b] s = true
set_option maxHeartbeats 8000000 in
set_option maxRecDepth 100000 in
theorem start_of (MNA : MnaRow) {p : Program} {e : Env} {s : State} {m : MethodId} {below : List Frame} {meth : Method} {c : Code} (l : Launch) {b L : Nat} {xs : Nat → Int32} (hL : L ≤ 3072) (C0 : lw_At p s m meth c b L xs) : W p l e room_1 s m #[Value.ref b] below meth c s.heap [] 0 0 (lw_Z below #[Value.ref b] s) (entryFrame m ([Value.ref b] : List Value).toArray 4) := by
  obtain ⟨hx, hb, hr, hml, hown, hts, hX, hbl, hlocks, hgv⟩ := id C0
  have hA : ∀ q : Nat, s.heap.size ≤ q → (fun q : Nat => s.heap.size ≤ q) q := fun _ h => h
  have hgT : ∀ w ∈ gT, w.before #[Value.ref b] s = true := fun w hw => hts w (List.mem_filter.mp hw).1
  obtain ⟨adK, adV, ka, G⟩ := gv_first hts hgv
  obtain ⟨D, cI, hK⟩ := ki_first hts
  have hNC := nc_first hts
  have hAO : va_AO "java/lang/String" s := va_AO.of (hts (.arrayOver (.object "java/lang/String")) (List.mem_of_getElem? (i := 855) (by decide +kernel)))
  have hS : va_S (fun q : Nat => s.heap.size ≤ q) s.heap s.heap [] := va_S.rf
  have hP : va_P D vwCl [] s.heap := fun k q h => by simp at h
  have hD : va_D (fun q : Nat => s.heap.size ≤ q) [] := ⟨fun i j p q h => by simp at h, fun k q h => by simp at h⟩
  have hl := lv_entry ([.ref b]) (n := 4) (Nat.le_of_ble_eq_true rfl)
  rw [lg_entry_eq]
  generalize (lg_sl ([.ref b]) ++ List.replicate (4 - (lg_sl ([.ref b])).length) Slot.unset).toArray = ls at hl ⊢
  have hl : lv_has ls 4 [(0, .ref b)] := hl
  refine va_new (ci := 5) (fs := [.null, .null, .null, .null, .null, .null, .null, .null, .null, .int 0]) (C := RX6) (T := TX6) (N := 10) hx hb hgT uws_6 tyX6 tyX6_ok hown (hgT (.classLink R_law 7 RX6) (gw 73 (by decide +kernel) (by decide +kernel))) (hgT (.instantiable RX6 10) (gw 74 (by decide +kernel) (by decide +kernel))) (hgT (.initialized RX6) (gw 58 (by decide +kernel) (by decide +kernel))) hK hP hD hS hA rfl (fun j hj => by rcases (show j = 0 ∨ j = 1 ∨ j = 2 ∨ j = 3 ∨ j = 4 ∨ j = 5 ∨ j = 6 ∨ j = 7 ∨ j = 8 ∨ j = 9 by omega) with rfl | rfl | rfl | rfl | rfl | rfl | rfl | rfl | rfl | rfl <;> rfl) (Nat.le_of_ble_eq_true rfl) (Nat.le_of_ble_eq_true rfl) dL_law_0 (fun o0 H hP hD hS => ?_)
  have hP : va_P D vwCl [(o0, .inr (5, [.null, .null, .null, .null, .null, .null, .null, .null, .null, .int 0]))] H := hP
  have hD : va_D (fun q : Nat => s.heap.size ≤ q) [(o0, .inr (5, [.null, .null, .null, .null, .null, .null, .null, .null, .null, .int 0]))] := hD
  refine lv_dup hx hb dL_law_3 rfl ?_
  have hFc := va_free (wc := [(o0, .inr (5, [.null, .null, .null, .null, .null, .null, .null, .null, .null, .int 0]))]) hD hS hA [0] rfl
  refine va_callv (va_runI (As := []) (rest := [.ref o0]) ⟨hx, hb, hml, hown, hgT⟩ (big_init6 MNA l D cI o0 H.size) (cwI 0 hgT (mws_good (j := 55) (by decide)) rfl rfl rfl (hgT (.initialized RX6) (gw 58 (by decide +kernel) (by decide +kernel))) (hgT (.methodLink R_law 9 yX6_init) (gw 75 (by decide +kernel) (by decide +kernel))) (hgT (.instanceMethod yX6_init) (gw 76 (by decide +kernel) (by decide +kernel))) rfl (by decide +kernel) ⟨Nat.le_of_ble_eq_true rfl, Nat.le_of_ble_eq_true rfl⟩) ⟨fun a U g mk q => by obtain ⟨q0, q1, qP, qK, qD, qN⟩ := q; exact ⟨q0, q1, qP, va_K.moved (u := U) (U := U.calling g mk a) (Vm.Alike.refl U.vm) qK, qD, NC.call qN⟩, fun U hU hW => ⟨rfl, by rw [hU], by rw [hU]; exact hP, va_K.moved hW.alike hK, hD.weaken (fun _ _ _ _ => trivial), NC.warm hW hNC⟩⟩ rfl rfl hl.1 rfl (lv_room (Nat.le_of_ble_eq_true rfl)) dL_law_4 ⟨Nat.le_of_ble_eq_true rfl, Nat.le_of_ble_eq_true rfl⟩) hS (fun q _ h => hFc q h) hFc (fun u t H1 locs ht hvm _ hB hz1 hk1 hS => ?_)
  obtain ⟨σ6, cA, e6, hP1, hK1, hD1⟩ := post6 hB
  subst e6
  rw [ht] at hP1
  have hK1 := va_K.moved hvm.symm hK1
  obtain ⟨hP, hD⟩ := va_join (wr := []) (w1 := w0A σ6 (cI, cA, 0)) hP hD [0] [] rfl rfl (by decide) (by decide) hk1 hFc hP1 hD1
  generalize H1 = H at hP hS ⊢
  have hP : va_P D vwCl (w0A σ6 (cI, cA, 0)) H := hP
  have hD : va_D (fun q : Nat => s.heap.size ≤ q) (w0A σ6 (cI, cA, 0)) := hD
  refine W.widen (k := 59) (n := 1177) (by omega) (by omega) ?_
  refine lv_astore_n (lv' := [(1, .ref (σ6 0)), (0, .ref b)]) hx hb dL_law_7 rfl hl (by decide) rfl (fun ls hl => ?_)
  refine va_new (ci := 6) (fs := [.null, .null, .null, .int 0, .null, .null, .null, .null, .int 0, .int 0, .int 0, .null, .int 0, .int 0, .int 0, .int 0, .int 0, .int 0, .null, .null, .int 0, .int 0, .null, .null, .null, .null]) (C := RX7) (T := TX7) (N := 26) hx hb hgT uws_7 tyX7 tyX7_ok hown (hgT (.classLink R_law 10 RX7) (gw 848 (by decide +kernel) (by decide +kernel))) (hgT (.instantiable RX7 26) (gw 849 (by decide +kernel) (by decide +kernel))) (hgT (.initialized RX7) (gw 64 (by decide +kernel) (by decide +kernel))) hK hP hD hS hA rfl (fun j hj => by rcases (show j = 0 ∨ j = 1 ∨ j = 2 ∨ j = 3 ∨ j = 4 ∨ j = 5 ∨ j = 6 ∨ j = 7 ∨ j = 8 ∨ j = 9 ∨ j = 10 ∨ j = 11 ∨ j = 12 ∨ j = 13 ∨ j = 14 ∨ j = 15 ∨ j = 16 ∨ j = 17 ∨ j = 18 ∨ j = 19 ∨ j = 20 ∨ j = 21 ∨ j = 22 ∨ j = 23 ∨ j = 24 ∨ j = 25 by omega) with rfl | rfl | rfl | rfl | rfl | rfl | rfl | rfl | rfl | rfl | rfl | rfl | rfl | rfl | rfl | rfl | rfl | rfl | rfl | rfl | rfl | rfl | rfl | rfl | rfl | rfl <;> rfl) (Nat.le_of_ble_eq_true rfl) (Nat.le_of_ble_eq_true rfl) dL_law_8 (fun o1 H hP hD hS => ?_)
  refine lv_dup hx hb dL_law_11 rfl ?_
  have hPc := hP.sub (ws' := [(o1, .inr (6, [.null, .null, .null, .int 0, .null, .null, .null, .null, .int 0, .int 0, .int 0, .null, .int 0, .int 0, .int 0, .int 0, .int 0, .int 0, .null, .null, .int 0, .int 0, .null, .null, .null, .null]))]) [59] rfl
  have hDc := hD.sub (ws' := [(o1, .inr (6, [.null, .null, .null, .int 0, .null, .null, .null, .null, .int 0, .int 0, .int 0, .null, .int 0, .int 0, .int 0, .int 0, .int 0, .int 0, .null, .null, .int 0, .int 0, .null, .null, .null, .null]))]) [59] (by decide) rfl
  have hFc := va_free (wc := [(o1, .inr (6, [.null, .null, .null, .int 0, .null, .null, .null, .null, .int 0, .int 0, .int 0, .null, .int 0, .int 0, .int 0, .int 0, .int 0, .int 0, .null, .null, .int 0, .int 0, .null, .null, .null, .null]))]) hD hS hA [59] rfl
  refine va_callv (va_runI (As := []) (rest := [.ref o1]) ⟨hx, hb, hml, hown, hgT⟩ (big_init7 l D cI adK o1 H.size) (cwI 0 hgT (mws_good (j := 124) (by decide)) rfl rfl rfl (hgT (.initialized RX7) (gw 64 (by decide +kernel) (by decide +kernel))) (hgT (.methodLink R_law 12 yX7_init) (gw 850 (by decide +kernel) (by decide +kernel))) (hgT (.instanceMethod yX7_init) (gw 851 (by decide +kernel) (by decide +kernel))) rfl (by decide +kernel) ⟨Nat.le_of_ble_eq_true rfl, Nat.le_of_ble_eq_true rfl⟩) ⟨fun a U g mk q => by obtain ⟨q0, q1, qP, qK, qD, qN⟩ := q; exact ⟨q0, q1, qP, va_K.moved (u := U) (U := U.calling g mk a) (Vm.Alike.refl U.vm) qK, qD, SR.call qN⟩, fun U hU hW => ⟨rfl, by rw [hU], by rw [hU]; exact hPc, va_K.moved hW.alike hK, hDc.weaken (fun _ _ _ _ => trivial), SR_at G hAO hS hFc hU hW⟩⟩ rfl rfl hl.1 rfl (lv_room (Nat.le_of_ble_eq_true rfl)) dL_law_12 ⟨Nat.le_of_ble_eq_true rfl, Nat.le_of_ble_eq_true rfl⟩) hS (fun q _ h => hFc q h) hFc (fun u t H1 locs ht hvm _ hB hz1 hk1 hS => ?_)
  obtain ⟨σ7, cS, e7, e7s, hP1, hK2, hD1⟩ := post7 hB
  subst e7
  rw [ht] at hP1
  have hK2 := va_K.moved hvm.symm hK2
  obtain ⟨hP, hD⟩ := va_join (wr := w0A σ6 (cI, cA, 0)) (w1 := w0B σ7 (cI, 0, cS)) hP hD [59] [0, 1, 2, 3, 4, 5, 6, 7, 8, 9, 10, 11, 12, 13, 14, 15, 16, 17, 18, 19, 20, 21, 22, 23, 24, 25, 26, 27, 28, 29, 30, 31, 32, 33, 34, 35, 36, 37, 38, 39, 40, 41, 42, 43, 44, 45, 46, 47, 48, 49, 50, 51, 52, 53, 54, 55, 56, 57, 58] rfl rfl (by decide) (by decide) hk1 hFc hP1 hD1
  generalize H1 = H at hP hS ⊢
  refine W.widen (k := 74) (n := 2418) (by omega) (by omega) ?_
  refine lv_astore_n (lv' := [(2, .ref (σ7 59)), (1, .ref (σ6 0)), (0, .ref b)]) hx hb dL_law_15 rfl hl (by decide) rfl (fun ls hl => ?_)
  refine lv_iconst (v := nI 0) hx hb dL_law_16 (by decide) ?_
  refine lv_istore_n (lv' := [(3, .int (nI 0)), (2, .ref (σ7 59)), (1, .ref (σ6 0)), (0, .ref b)]) hx hb dL_law_17 rfl hl (by decide) rfl (fun ls hl => ?_)
  obtain ⟨σ, s6, s7, s90, s95, sK, sV⟩ := sg_ex σ6 σ7 adK adV ka b
  have eA : w0A σ6 (cI, cA, 0) = w0A σ (cI, cA, cS) := (w0A_eq (fun p _ h => s6 p h) rfl rfl).symm
  have eB : w0B σ7 (cI, 0, cS) = w0B σ (cI, cA, cS) := (w0B_eq (fun p h1 h2 => s7 p h1 h2) (fun j hj => by rw [sK j (by omega), e7s j hj]) rfl rfl).symm
  rw [eA, eB] at hP hD
  obtain ⟨hI, hAm⟩ := inj_0 hD
  rw [ws_0] at hP
  have hRO := RO_first hts G hAm sK sV s90
  rw [← s6 0 (by decide), ← s7 59 (by decide) (by decide)] at hl
  have hK3 : va_K D vwCl (tysM (cI, cA, cS)) s := (hK1.sub (tys' := [(cI, .int), (cA, .array .int)]) [0, 1] rfl).app (hK2.sub (tys' := [(cS, .object "java/lang/String")]) [1] rfl)
  subst s95
  refine va_forget (fun q hq => hS.2.2 q hq) ?_
  refine L_loop hL L 0 M0 M0_RM (by omega) (by omega) l D (cI, cA, cS) σ p e s m below meth c 74 2418 _ H [] ls ⟨hI, hx, hb, hml, hown, hgT, hK3, hRO, hX, hbl, hAm, hlocks⟩ ⟨Nat.le_of_ble_eq_true rfl, Nat.le_of_ble_eq_true rfl⟩ (fun H' locs' ls' hloc => ?_) hP ⟨hS.1, fun q h1 _ => hS.2.1 q h1 (fun z => absurd h1 (Nat.not_lt.mpr z)), fun l h => absurd h List.not_mem_nil⟩ hl
  refine lv_iconst (v := 1) hx hb dL_law_1494 (by decide) ?_
  refine va_forget hloc ?_
  refine W.widen (k := 600000) (n := 7302250) (Nat.le_of_ble_eq_true rfl) (Nat.le_of_ble_eq_true rfl) ?_
  exact lw_ret hx hb hr hlocks dL_law_1495
