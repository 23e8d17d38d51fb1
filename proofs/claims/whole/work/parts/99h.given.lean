/-! WHAT THE STATEMENT GIVES OF THE START: text constants, statics -/
def gvC : Cond := Jvm.Cond.and given_1 narrow_1
def rIx : List Nat := [116, 122, 124, 126, 128, 130, 132, 134, 136, 138, 139, 141, 143]
def mIx : List Nat := [36, 38, 40, 42, 44, 46, 48, 307, 309, 311, 313, 295, 301]
def pEx : List Nat := [19, 29, 38, 49, 59, 70, 78, 89, 98, 105, 114, 121, 129]
def pQx : List Nat := [150, 160, 172, 183, 195, 204, 216, 247, 255, 265, 273, 225, 237]
def tmS (j : Nat) : Term := .string "FeetBridge$Reader" (rIx.getD j 0)
def tmV (j : Nat) : Term := .field (tmS j) "java/lang/String" "value" "[B"
def tmK : Term := .static "FeetBridge" "KIND_ABOVE" "[I"
set_option maxRecDepth 100000 in
theorem gv_ex : ∀ j, j < 13 → (flatC gvC)[pEx.getD j 0]? = some (.exactly (tmS j) "java/lang/String") := by decide +kernel
set_option maxRecDepth 100000 in
theorem gv_co : ∀ j, j < 13 → (flatC gvC)[pEx.getD j 0 + 1]? = some (.eq (.field (tmS j) "java/lang/String" "coder" "B") (.int 0)) := by decide +kernel
set_option maxRecDepth 100000 in
theorem gv_ar : ∀ j, j < 13 → (flatC gvC)[pEx.getD j 0 + 2]? = some (.arrayOf (tmV j) .byte) := by decide +kernel
set_option maxRecDepth 100000 in
theorem gv_le : ∀ j, j < 13 → (flatC gvC)[pEx.getD j 0 + 3]? = some (.eq (.length (tmV j)) (.int (Int32.ofNat (sBy.getD j []).length))) := by decide +kernel
set_option maxRecDepth 100000 in
theorem gv_el : ∀ j, j < 13 → ∀ i, i < (sBy.getD j []).length → (flatC gvC)[pEx.getD j 0 + 4 + i]? = some (.eq (.elem (tmV j) (.int (Int32.ofNat i))) (.int ((sBy.getD j []).getD i 0))) := by decide +kernel
set_option maxRecDepth 100000 in
theorem gv_eq : ∀ j, j < 13 → (flatC gvC)[pQx.getD j 0]? = some (.eq (tmS j) (.string "FeetBridgeModel" (mIx.getD j 0))) := by decide +kernel
set_option maxRecDepth 100000 in
theorem gv_k : (flatC gvC)[4]? = some (.eq (.static "java/lang/String" "COMPACT_STRINGS" "Z") (.int 1)) ∧ (flatC gvC)[5]? = some (.isRef (.static "jdk/internal/util/Preconditions" "SIOOBE_FORMATTER" "Ljava/util/function/BiFunction;")) ∧ (flatC gvC)[10]? = some (.arrayOf tmK .int) ∧ (flatC gvC)[11]? = some (.eq (.length tmK) (.int (Int32.ofNat 7))) := by decide +kernel
set_option maxRecDepth 100000 in
theorem gv_ke : ∀ i, i < 7 → (flatC gvC)[12 + i]? = some (.eq (.elem tmK (.int (Int32.ofNat i))) (.int (kab.getD i 0))) := by decide +kernel
theorem sby_len : ∀ j, j < 13 → (sBy.getD j []).length < 2 ^ 31 := by decide +kernel
/-- places of the words on text constants -/
def sPl : List Nat := [670, 723, 724, 725, 726, 727, 728, 729, 730, 731, 732, 733, 734, 856, 857, 858, 859, 860, 861, 862, 1282, 1291, 1296, 1297, 1298, 1299]
set_option maxRecDepth 100000 in
theorem s_in {c i j : Nat} (h : sres c i = some j) : Cond.stringRef (clsN c) i (sTx.getD j "") ∈ lw_tbl := by
  have hh : (sTab.zip sPl).all (fun e => decide (lw_tbl[e.2]? = some (Cond.stringRef (clsN e.1.1.1) e.1.1.2 (sTx.getD e.1.2 "")))) = true := by decide +kernel
  obtain ⟨k, hk⟩ := lk_mem h
  have hl := (List.getElem?_eq_some_iff.mp hk).1
  have el : sPl.length = sTab.length := by decide +kernel
  obtain ⟨q, hq⟩ : ∃ q, sPl[k]? = some q := ⟨_, List.getElem?_eq_getElem (by rw [el]; exact hl)⟩
  have h3 := List.all_eq_true.mp hh (((c, i), j), q) (List.mem_of_getElem? (i := k) (List.getElem?_zip_eq_some.mpr ⟨hk, hq⟩))
  exact List.mem_of_getElem? (of_decide_eq_true h3)
theorem s_tm {c i j : Nat} (h : sres c i = some j) : j < 13 ∧ ((clsN c = "FeetBridge$Reader" ∧ i = rIx.getD j 0) ∨ (clsN c = "FeetBridgeModel" ∧ i = mIx.getD j 0)) := by
  have hh : sTab.all (fun e => decide (e.2 < 13 ∧ ((clsN e.1.1 = "FeetBridge$Reader" ∧ e.1.2 = rIx.getD e.2 0) ∨ (clsN e.1.1 = "FeetBridgeModel" ∧ e.1.2 = mIx.getD e.2 0)))) = true := by decide +kernel
  obtain ⟨k, hk⟩ := lk_mem h
  have h3 := List.all_eq_true.mp hh ((c, i), j) (List.mem_of_getElem? hk)
  exact of_decide_eq_true h3
def GV (adK adV : Nat → Nat) (ka : Nat) (A : Nat → Prop) (s : State) : Prop :=
  (∀ j, j < 13 → va_O "java/lang/String" (adK j) A s s.heap ∧ va_OF "java/lang/String" "coder" "B" (.int 0) (adK j) A s s.heap ∧ va_OF "java/lang/String" "value" "[B" (.ref (adV j)) (adK j) A s s.heap ∧ va_T .byte (adV j) (sBy.getD j []).length (fun i => .int ((sBy.getD j []).getD i 0)) A s s.heap) ∧
  va_Z "java/lang/String" "COMPACT_STRINGS" "Z" (.int 1) A s s.heap ∧
  va_Zq "jdk/internal/util/Preconditions" "SIOOBE_FORMATTER" "Ljava/util/function/BiFunction;" A s s.heap ∧
  va_Z "FeetBridge" "KIND_ABOVE" "[I" (.ref ka) A s s.heap ∧
  va_T .int ka 7 (fun i => .int (kab.getD i 0)) A s s.heap ∧
  ∀ c i j, sres c i = some j → vk_R (clsN c) i (sTx.getD j "") (adK j) s
set_option maxHeartbeats 4000000 in
set_option maxRecDepth 100000 in
theorem gv_first {s : State} {b : Nat} (hts : ∀ w ∈ lw_tbl, w.before #[Value.ref b] s = true) (hgv : (Jvm.Cond.and given_1 narrow_1).before #[Value.ref b] s = true) : ∃ (adK adV : Nat → Nat) (ka : Nat), GV adK adV ka (fun q => s.heap.size ≤ q) s := by
  have hfl := flat_of_before gvC hgv
  have hat : ∀ {k : Nat} {w : Cond}, (flatC gvC)[k]? = some w → w.before #[Value.ref b] s = true := fun h => hfl _ (List.mem_of_getElem? h)
  have htb : ∀ {k : Nat} {w : Cond}, lw_tbl[k]? = some w → w.before #[Value.ref b] s = true := fun h => hts _ (List.mem_of_getElem? h)
  have hA : ∀ a : Nat, a < s.heap.size → ¬ (fun q : Nat => s.heap.size ≤ q) a := fun a h z => absurd h (Nat.not_lt.mpr z)
  have h0 : ∀ j : Nat, ∃ q : Nat × Nat, j < 13 → (tmS j).eval #[Value.ref b] s none [] s = some (.ref q.1) ∧ va_O "java/lang/String" q.1 (fun q => s.heap.size ≤ q) s s.heap ∧ va_OF "java/lang/String" "coder" "B" (.int 0) q.1 (fun q => s.heap.size ≤ q) s s.heap ∧ va_OF "java/lang/String" "value" "[B" (.ref q.2) q.1 (fun q => s.heap.size ≤ q) s s.heap ∧ va_T .byte q.2 (sBy.getD j []).length (fun i => .int ((sBy.getD j []).getD i 0)) (fun q => s.heap.size ≤ q) s s.heap := by
    intro j
    by_cases hj : j < 13
    · have hex := hat (gv_ex j hj)
      obtain ⟨a, c, cA, kA, q1, q2, q3, q4, q5, q6, -⟩ := Cond.exactly_spec (args := #[Value.ref b]) (first := s) (o := none) (s := s) (idx := []) (t := tmS j) (cls := "java/lang/String") hex
      obtain ⟨t, ht, hT⟩ := va_Tof (f := fun i => .int ((sBy.getD j []).getD i 0)) (A := fun q => s.heap.size ≤ q) (sby_len j hj) (hat (gv_ar j hj)) (va_eqt (hat (gv_le j hj))) (fun i hi => va_eqt (hat (gv_el j hj i hi))) hA
      exact ⟨(a, t), fun _ => ⟨q1, va_Oof hex q1 hA, vk_OFof q1 (va_eqt (hat (gv_co j hj))) hA, vk_OFof q1 ht hA, hT⟩⟩
    · exact ⟨(0, 0), fun h => absurd h hj⟩
  obtain ⟨ad, had⟩ := Classical.axiomOfChoice h0
  obtain ⟨k4, k5, k10, k11⟩ := gv_k
  obtain ⟨ka, hka, hT⟩ := va_Tof (tm := tmK) (f := fun i => .int (kab.getD i 0)) (A := fun q => s.heap.size ≤ q) (show 7 < 2 ^ 31 by decide) (hat k10) (va_eqt (hat k11)) (fun i hi => va_eqt (hat (gv_ke i hi))) hA
  refine ⟨fun j => (ad j).1, fun j => (ad j).2, ka, fun j hj => (had j hj).2, ?_, ?_, ?_, hT, fun c i j h => ?_⟩
  · exact va_Zof (htb (k := 684) (by decide +kernel)) (htb (k := 69) (by decide +kernel)) (va_eqt (hat k4)) hA
  · exact va_Zqof (htb (k := 700) (by decide +kernel)) (htb (k := 71) (by decide +kernel)) (hat k5) hA
  · exact va_Zref (htb (k := 787) (by decide +kernel)) (htb (k := 58) (by decide +kernel)) hka hA
  · obtain ⟨hj, hc⟩ := s_tm h
    refine vk_R.of (hts _ (s_in h)) ?_
    have h1 := (had j hj).1
    rcases hc with ⟨e1, e2⟩ | ⟨e1, e2⟩
    · rw [e1, e2]
      exact h1
    · rw [e1, e2]
      exact va_eqR (hat (gv_eq j hj)) h1
theorem RO_first {σ : Nat → Nat} {s : State} {b : Nat} {adK adV : Nat → Nat} {ka : Nat} (hts : ∀ w ∈ lw_tbl, w.before #[Value.ref b] s = true) (G : GV adK adV ka (fun q => s.heap.size ≤ q) s) (hm : ∀ q, Am σ q → s.heap.size ≤ q) (h1 : ∀ j, j < 13 → σ (100 + j) = adK j) (h2 : ∀ j, j < 13 → σ (120 + j) = adV j) (h3 : σ 90 = ka) : RO σ s s.heap := by
  obtain ⟨g1, g2, g3, g4, g5, g6⟩ := G
  refine ⟨fun j hj => ?_, g2.narrow hm, g3.narrow hm, ?_, ?_, fun e he => va_Nw.of rfl (hts _ (n_in e he)), va_Nw.of rfl (hts _ gs_in), fun c i j h => ?_⟩
  · rw [h1 j hj, h2 j hj]
    obtain ⟨a1, a2, a3, a4⟩ := g1 j hj
    exact ⟨a1.narrow hm, a2.narrow hm, a3.narrow hm, a4.narrow hm⟩
  · rw [h3]
    exact g4.narrow hm
  · rw [h3]
    exact g5.narrow hm
  · rw [h1 j (s_tm h).1]
    exact g6 c i j h
