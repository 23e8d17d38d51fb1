/-! M: one item -/
def SG (f : Nat → Int32) (N : Nat) (G : Nat → Int32) (L : List Tok) : Prop := N ≤ 120 ∧ G 12 = nI N ∧ G 17 = 0 ∧ (∀ i, i < N → ¬ f i < 0) ∧ TS f N G L
/-- the reading's own numbers -/
def KP (G G' : Nat → Int32) : Prop := ∀ j, j ≠ 13 → j ≠ 14 → j ≠ 15 → j ≠ 16 → j ≠ 17 → G' j = G j
theorem KP.rf {G : Nat → Int32} : KP G G := fun _ _ _ _ _ _ => rfl
theorem KP.tr {G G1 G2 : Nat → Int32} (h1 : KP G G1) (h2 : KP G1 G2) : KP G G2 := fun j a b c d e => (h2 j a b c d e).trans (h1 j a b c d e)
theorem SG.st {B : Mem} {N : Nat} {G : Nat → Int32} {L : List Tok} (h : SG (B 67) N G L) : ST (mrow B 59 G) N L := by
  unfold ST
  rw [mrow_s, mrow_n (by decide)]
  exact h
theorem ST.sg {B : Mem} {N : Nat} {G : Nat → Int32} {L : List Tok} (h : ST (mrow B 59 G) N L) : SG (B 67) N G L := by
  unfold ST at h
  rw [mrow_s, mrow_n (by decide)] at h
  exact h
theorem SG.u {f : Nat → Int32} {N j : Nat} {G : Nat → Int32} {L : List Tok} {v : Int32} (h : SG f N G L) (hj : 17 < j) : SG f N (upd G j v) L := by
  obtain ⟨h1, h2, h3, h4, e, he, h14, h5⟩ := h
  refine ⟨h1, by rw [un (by omega)]; exact h2, by rw [un (by omega)]; exact h3, h4, e, he, by rw [un (by omega)]; exact h14, ?_⟩
  match L, h5 with
  | [], h5 => exact ⟨h5.1, by rw [un (by omega)]; exact h5.2.1, by rw [un (by omega)]; exact h5.2.2⟩
  | (s, b, e', v) :: L', h5 => exact ⟨h5.1, h5.2.1, by rw [un (by omega)]; exact h5.2.2.1, by rw [un (by omega)]; exact h5.2.2.2.1, by rw [un (by omega)]; exact h5.2.2.2.2.1, h5.2.2.2.2.2⟩
/-- where the first of L begins -/
def posL (N : Nat) : List Tok → Nat
  | [] => N
  | t :: _ => t.2.1
theorem SG.p {f : Nat → Int32} {N : Nat} {G : Nat → Int32} {L : List Tok} (h : SG f N G L) : G 13 = nI (posL N L) := by
  obtain ⟨h1, h2, h3, h4, e, he, h14, h5⟩ := h
  match L, h5 with
  | [], h5 => exact h5.2.1
  | (s, b, e', v) :: L', h5 => exact h5.2.2.1
/-- it is wrong, at place p -/
def WG (G : Nat → Int32) (p : Nat) : Prop := G 17 = 1 ∧ G 13 = nI p
set_option maxRecDepth 100000 in
set_option maxHeartbeats 4000000 in
theorem big_mustT {d : Nat} (hd : 3 ≤ d) {B : Mem} {k : Value → Mem → Prop} {N : Nat} {G : Nat → Int32} {L : List Tok} (hS : SG (B 67) N G L) (h : ∀ G', SG (B 67) N G' L.tail → KP G G' → k (.int 0) (mrow B 59 G')) : CallP d 205 [.ref 59, .int 1] (mrow B 59 G) k := by
  refine call_mustT hd hS.st (fun G' hG hk => ?_)
  rw [mrow_mrow] at hG ⊢
  exact h G' hG.sg (fun j a b c e _ => by rw [hk j a b c e, mrow_s])
set_option maxRecDepth 100000 in
set_option maxHeartbeats 4000000 in
theorem big_mustF {d : Nat} (hd : 1 ≤ d) {B : Mem} {k : Value → Mem → Prop} {x : Int32} {G : Nat → Int32} (hx : x = 0 ∨ x = 1) (hw : G 17 = 1 ∨ (G 17 = 0 ∧ x = 0)) (h : k (.int 0) (mrow B 59 (upd G 17 1))) : CallP d 205 [.ref 59, .int x] (mrow B 59 G) k := by
  refine call_mustF hd hx (by rw [mrow_s]; exact hw) ?_
  unfold mset
  rw [mrow_s, mrow_mrow]
  exact h
/-- a number up to u -/
def nmT (u : Int32) : List Tok → Option (Int32 × List Tok)
  | [] => none
  | (s, _, _, v) :: L => if s = 2 ∧ ¬ v < 0 ∧ ¬ u < v then some (v, L) else none
theorem ms2 {s : Int32} : (ms s = 2) = (s = 2) := by
  unfold ms
  apply propext
  by_cases h1 : s = 1
  · rw [if_pos h1]
    exact ⟨fun z => absurd z (by decide), fun z => absurd (h1.symm.trans z) (by decide)⟩
  · rw [if_neg h1]
    by_cases h2 : s = 2
    · rw [if_pos h2]
      exact ⟨fun _ => h2, fun _ => rfl⟩
    · rw [if_neg h2]
      exact ⟨fun z => absurd z (by decide), fun z => absurd z h2⟩
set_option maxRecDepth 100000 in
set_option maxHeartbeats 4000000 in
theorem big_num {d : Nat} (hd : 4 ≤ d) {B : Mem} {k : Value → Mem → Prop} {N : Nat} {u : Int32} {G : Nat → Int32} {L : List Tok} (hS : SG (B 67) N G L) (h1 : ∀ v L', nmT u L = some (v, L') → ∀ G', SG (B 67) N G' L' → KP G G' → k (.int v) (mrow B 59 G')) (h2 : nmT u L = none → ∀ v G', WG G' (posL N L) → KP G G' → k (.int v) (mrow B 59 G')) : CallP d 206 [.ref 59, .int 0, .int u] (mrow B 59 G) k := by
  obtain ⟨a1, a2, a3, a4, e, he, h14, h5⟩ := id hS
  have bad : nmT u L = none → ¬ (G 15 = 2 ∧ ¬ G 16 < 0 ∧ ¬ u < G 16) → CallP d 206 [.ref 59, .int 0, .int u] (mrow B 59 G) k := by
    intro hn hb
    refine call_numF (by omega) (by rw [mrow_s]; exact Or.inl a3) (by rw [mrow_s]; exact Or.inr hb) ?_
    unfold mset
    rw [mrow_s, mrow_mrow]
    refine h2 hn _ _ ⟨upd_s, ?_⟩ (fun j _ _ _ _ z => un z)
    rw [upd_n (by decide)]
    exact hS.p
  match L, h5, hS, h1, h2, bad with
  | [], h5, hS, h1, h2, bad =>
    refine bad rfl (fun z => ?_)
    rw [h5.2.2] at z
    exact absurd z.1 (by decide)
  | (s, b, e', v) :: L', h5, hS, h1, h2, bad =>
    obtain ⟨rfl, hbe, h13, h15, h16, hs4, hst, hL⟩ := h5
    by_cases hc : s = 2 ∧ ¬ v < 0 ∧ ¬ u < v
    · have hn : nmT u ((s, b, e', v) :: L') = some (v, L') := if_pos hc
      refine call_numT (L := (s, b, e', v) :: L') hd hS.st ?_ ?_ (fun G' hG hk => ?_)
      · rw [mrow_s, h15, ms2]
        exact hc.1
      · rw [mrow_s, h16]
        exact hc.2
      · rw [mrow_mrow] at hG ⊢
        rw [mrow_s, h16]
        exact h1 v L' hn G' hG.sg (fun j a b c e _ => by rw [hk j a b c e, mrow_s])
    · have hn : nmT u ((s, b, e', v) :: L') = none := if_neg hc
      refine bad hn (fun z => hc ?_)
      rw [h15, h16, ms2] at z
      exact z
/-- an optional number behind a word -/
def pOpt (f : Nat → Int32) (j : Nat) (df : Int32) (L : List Tok) : Sum (List Tok) (Int32 × List Tok) := if wn f L = j then (match nmT 99 L.tail with
  | none => .inl L.tail
  | some x => .inr x) else .inr (df, L)
set_option maxRecDepth 100000 in
set_option maxHeartbeats 4000000 in
theorem big_after {d : Nat} (hd : 5 ≤ d) {B : Mem} {k : Value → Mem → Prop} {N j : Nat} {df : Int32} {G : Nat → Int32} {L : List Tok} (hj : j < 13) (hS : SG (B 67) N G L) (h1 : ∀ v L', pOpt (B 67) j df L = .inr (v, L') → ∀ G', SG (B 67) N G' L' → KP G G' → k (.int v) (mrow B 59 G')) (h2 : ∀ F, pOpt (B 67) j df L = .inl F → ∀ v G', WG G' (posL N F) → KP G G' → k (.int v) (mrow B 59 G')) : CallP d 209 [.ref 59, .ref (100 + j), .int df] (mrow B 59 G) k := by
  obtain ⟨d, rfl⟩ : ∃ d', d = d' + 1 := ⟨d - 1, by omega⟩
  have a3 := hS.2.2.1
  refine enterV (n := 80) [] [] mI_209 (by decide) (Nat.le_of_ble_eq_true rfl) T_nil ?_
  rw [show lent 3 ([.ref 59, .ref (100 + j), .int df] : List Value) = [.ref 59, .ref (100 + j), .int df] from rfl]
  simp only [dX7_afterWord_0, dX7_afterWord_1, dX7_afterWord_4, dX7_afterWord_7, dX7_afterWord_8, dX7_afterWord_9, dX7_afterWord_12, dX7_afterWord_15, dX7_afterWord_16, dX7_afterWord_17, dX7_afterWord_18, dX7_afterWord_19, dX7_afterWord_22, dX7_afterWord_23, dX7_afterWord_24, dX7_afterWord_26, dX7_afterWord_29, cr_7_275, cr_7_282, cr_7_286, fr_7_268, al_10, al_11, al_12, al_13, al_14, al_16, al_17, al_18, al_19, al_2, al_20, al_21, al_23, al_24, al_27, al_28, al_29, al_3, al_30, al_31, al_32, al_34, al_36, al_37, al_38, al_39, al_4, al_40, al_41, al_42, al_43, al_45, al_46, al_47, al_48, al_49, al_5, al_52, al_53, al_54, al_55, al_56, al_57, al_58, al_6, al_60, al_61, al_62, al_63, al_64, al_65, al_66, al_67, al_69, al_7, al_70, al_71, al_72, al_73, al_9, gf_6_17_59, pcl_0, pcl_1, pcl_100, pcl_101, pcl_102, pcl_103, pcl_104, pcl_105, pcl_106, pcl_107, pcl_108, pcl_109, pcl_110, pcl_111, pcl_112, pcl_15, pcl_22, pcl_25, pcl_26, pcl_33, pcl_44, pcl_50, pcl_59, pcl_8, pft_6_17, rOK_i, rOK_z, v_aload_0, v_aload_1, v_bipush_99, v_getfield, v_iconst_0, v_iconst_1, v_if_ne, v_iload_2, v_invv, v_ireturn, vcV_2_6, vcV_3_6, vgf_i, vgf_r, vgf_s, vc_d, rr_0, rr_1, csT_h, csT_t, csT_n, bI_0, bI_1, bI_z, bT, List.mem_cons, List.not_mem_nil, List.length_cons, List.length_nil, ite_not, ↓reduceIte, true_and, and_true, not_true_eq_false, not_false_eq_true, false_or, or_false, or_true, true_or, Nat.reduceAdd, Nat.reduceEqDiff, Nat.reduceBEq, Nat.reduceLeDiff, Nat.reduceLT, Nat.reduceSub, Int.reduceAdd, Int.reduceLE, Int.reduceLT, Int.reduceToNat, Int.reduceNeg, Int.reduceNatCast', reduceCtorEq, Int32.reduceOfInt, Int32.reduceOfNat, Int32.reduceToNatClampNeg, Int32.reduceToInt, i10, i01, nEM, mrow_s, a3]
  refine call_isWord (by omega) hj hS.st ?_
  rw [mrow_n (by decide)]
  simp only [dX7_afterWord_0, dX7_afterWord_1, dX7_afterWord_4, dX7_afterWord_7, dX7_afterWord_8, dX7_afterWord_9, dX7_afterWord_12, dX7_afterWord_15, dX7_afterWord_16, dX7_afterWord_17, dX7_afterWord_18, dX7_afterWord_19, dX7_afterWord_22, dX7_afterWord_23, dX7_afterWord_24, dX7_afterWord_26, dX7_afterWord_29, cr_7_275, cr_7_282, cr_7_286, fr_7_268, al_10, al_11, al_12, al_13, al_14, al_16, al_17, al_18, al_19, al_2, al_20, al_21, al_23, al_24, al_27, al_28, al_29, al_3, al_30, al_31, al_32, al_34, al_36, al_37, al_38, al_39, al_4, al_40, al_41, al_42, al_43, al_45, al_46, al_47, al_48, al_49, al_5, al_52, al_53, al_54, al_55, al_56, al_57, al_58, al_6, al_60, al_61, al_62, al_63, al_64, al_65, al_66, al_67, al_69, al_7, al_70, al_71, al_72, al_73, al_9, gf_6_17_59, pcl_0, pcl_1, pcl_100, pcl_101, pcl_102, pcl_103, pcl_104, pcl_105, pcl_106, pcl_107, pcl_108, pcl_109, pcl_110, pcl_111, pcl_112, pcl_15, pcl_22, pcl_25, pcl_26, pcl_33, pcl_44, pcl_50, pcl_59, pcl_8, pft_6_17, rOK_i, rOK_z, v_aload_0, v_aload_1, v_bipush_99, v_getfield, v_iconst_0, v_iconst_1, v_if_ne, v_iload_2, v_invv, v_ireturn, vcV_2_6, vcV_3_6, vgf_i, vgf_r, vgf_s, vc_d, rr_0, rr_1, csT_h, csT_t, csT_n, bI_0, bI_1, bI_z, bT, List.mem_cons, List.not_mem_nil, List.length_cons, List.length_nil, ite_not, ↓reduceIte, true_and, and_true, not_true_eq_false, not_false_eq_true, false_or, or_false, or_true, true_or, Nat.reduceAdd, Nat.reduceEqDiff, Nat.reduceBEq, Nat.reduceLeDiff, Nat.reduceLT, Nat.reduceSub, Int.reduceAdd, Int.reduceLE, Int.reduceLT, Int.reduceToNat, Int.reduceNeg, Int.reduceNatCast', reduceCtorEq, Int32.reduceOfInt, Int32.reduceOfNat, Int32.reduceToNatClampNeg, Int32.reduceToInt, i10, i01, nEM]
  by_cases hw : wn (B 67) L = j
  · rw [if_pos hw]
    refine big_mustT (by omega) hS (fun G1 hS1 hk1 => ?_)
    refine big_num (by omega) hS1 (fun v L' hn G' hG hk => ?_) (fun hn v G' hG hk => ?_)
    · try simp only [dX7_afterWord_0, dX7_afterWord_1, dX7_afterWord_4, dX7_afterWord_7, dX7_afterWord_8, dX7_afterWord_9, dX7_afterWord_12, dX7_afterWord_15, dX7_afterWord_16, dX7_afterWord_17, dX7_afterWord_18, dX7_afterWord_19, dX7_afterWord_22, dX7_afterWord_23, dX7_afterWord_24, dX7_afterWord_26, dX7_afterWord_29, cr_7_275, cr_7_282, cr_7_286, fr_7_268, al_10, al_11, al_12, al_13, al_14, al_16, al_17, al_18, al_19, al_2, al_20, al_21, al_23, al_24, al_27, al_28, al_29, al_3, al_30, al_31, al_32, al_34, al_36, al_37, al_38, al_39, al_4, al_40, al_41, al_42, al_43, al_45, al_46, al_47, al_48, al_49, al_5, al_52, al_53, al_54, al_55, al_56, al_57, al_58, al_6, al_60, al_61, al_62, al_63, al_64, al_65, al_66, al_67, al_69, al_7, al_70, al_71, al_72, al_73, al_9, gf_6_17_59, pcl_0, pcl_1, pcl_100, pcl_101, pcl_102, pcl_103, pcl_104, pcl_105, pcl_106, pcl_107, pcl_108, pcl_109, pcl_110, pcl_111, pcl_112, pcl_15, pcl_22, pcl_25, pcl_26, pcl_33, pcl_44, pcl_50, pcl_59, pcl_8, pft_6_17, rOK_i, rOK_z, v_aload_0, v_aload_1, v_bipush_99, v_getfield, v_iconst_0, v_iconst_1, v_if_ne, v_iload_2, v_invv, v_ireturn, vcV_2_6, vcV_3_6, vgf_i, vgf_r, vgf_s, vc_d, rr_0, rr_1, csT_h, csT_t, csT_n, bI_0, bI_1, bI_z, bT, List.mem_cons, List.not_mem_nil, List.length_cons, List.length_nil, ite_not, ↓reduceIte, true_and, and_true, not_true_eq_false, not_false_eq_true, false_or, or_false, or_true, true_or, Nat.reduceAdd, Nat.reduceEqDiff, Nat.reduceBEq, Nat.reduceLeDiff, Nat.reduceLT, Nat.reduceSub, Int.reduceAdd, Int.reduceLE, Int.reduceLT, Int.reduceToNat, Int.reduceNeg, Int.reduceNatCast', reduceCtorEq, Int32.reduceOfInt, Int32.reduceOfNat, Int32.reduceToNatClampNeg, Int32.reduceToInt, i10, i01, nEM]
      refine h1 v L' ?_ G' hG (hk1.tr hk)
      unfold pOpt
      rw [if_pos hw, hn]
    · try simp only [dX7_afterWord_0, dX7_afterWord_1, dX7_afterWord_4, dX7_afterWord_7, dX7_afterWord_8, dX7_afterWord_9, dX7_afterWord_12, dX7_afterWord_15, dX7_afterWord_16, dX7_afterWord_17, dX7_afterWord_18, dX7_afterWord_19, dX7_afterWord_22, dX7_afterWord_23, dX7_afterWord_24, dX7_afterWord_26, dX7_afterWord_29, cr_7_275, cr_7_282, cr_7_286, fr_7_268, al_10, al_11, al_12, al_13, al_14, al_16, al_17, al_18, al_19, al_2, al_20, al_21, al_23, al_24, al_27, al_28, al_29, al_3, al_30, al_31, al_32, al_34, al_36, al_37, al_38, al_39, al_4, al_40, al_41, al_42, al_43, al_45, al_46, al_47, al_48, al_49, al_5, al_52, al_53, al_54, al_55, al_56, al_57, al_58, al_6, al_60, al_61, al_62, al_63, al_64, al_65, al_66, al_67, al_69, al_7, al_70, al_71, al_72, al_73, al_9, gf_6_17_59, pcl_0, pcl_1, pcl_100, pcl_101, pcl_102, pcl_103, pcl_104, pcl_105, pcl_106, pcl_107, pcl_108, pcl_109, pcl_110, pcl_111, pcl_112, pcl_15, pcl_22, pcl_25, pcl_26, pcl_33, pcl_44, pcl_50, pcl_59, pcl_8, pft_6_17, rOK_i, rOK_z, v_aload_0, v_aload_1, v_bipush_99, v_getfield, v_iconst_0, v_iconst_1, v_if_ne, v_iload_2, v_invv, v_ireturn, vcV_2_6, vcV_3_6, vgf_i, vgf_r, vgf_s, vc_d, rr_0, rr_1, csT_h, csT_t, csT_n, bI_0, bI_1, bI_z, bT, List.mem_cons, List.not_mem_nil, List.length_cons, List.length_nil, ite_not, ↓reduceIte, true_and, and_true, not_true_eq_false, not_false_eq_true, false_or, or_false, or_true, true_or, Nat.reduceAdd, Nat.reduceEqDiff, Nat.reduceBEq, Nat.reduceLeDiff, Nat.reduceLT, Nat.reduceSub, Int.reduceAdd, Int.reduceLE, Int.reduceLT, Int.reduceToNat, Int.reduceNeg, Int.reduceNatCast', reduceCtorEq, Int32.reduceOfInt, Int32.reduceOfNat, Int32.reduceToNatClampNeg, Int32.reduceToInt, i10, i01, nEM]
      refine h2 L.tail ?_ v G' hG (hk1.tr hk)
      unfold pOpt
      rw [if_pos hw, hn]
  · rw [if_neg hw]
    exact h1 df L (if_neg hw) G hS KP.rf
set_option maxRecDepth 100000 in
set_option maxHeartbeats 4000000 in
theorem big_afterW {d : Nat} (hd : 1 ≤ d) {B : Mem} {k : Value → Mem → Prop} {j : Nat} {df : Int32} {G : Nat → Int32} (hw : G 17 = 1) (h : k (.int df) (mrow B 59 G)) : CallP d 209 [.ref 59, .ref (100 + j), .int df] (mrow B 59 G) k := by
  obtain ⟨d, rfl⟩ : ∃ d', d = d' + 1 := ⟨d - 1, by omega⟩
  refine enterV (n := 80) [] [] mI_209 (by decide) (Nat.le_of_ble_eq_true rfl) T_nil ?_
  rw [show lent 3 ([.ref 59, .ref (100 + j), .int df] : List Value) = [.ref 59, .ref (100 + j), .int df] from rfl]
  simp only [dX7_afterWord_0, dX7_afterWord_1, dX7_afterWord_4, dX7_afterWord_7, dX7_afterWord_8, dX7_afterWord_9, dX7_afterWord_12, dX7_afterWord_15, dX7_afterWord_16, dX7_afterWord_17, dX7_afterWord_18, dX7_afterWord_19, dX7_afterWord_22, dX7_afterWord_23, dX7_afterWord_24, dX7_afterWord_26, dX7_afterWord_29, cr_7_275, cr_7_282, cr_7_286, fr_7_268, al_10, al_11, al_12, al_13, al_14, al_16, al_17, al_18, al_19, al_2, al_20, al_21, al_23, al_24, al_27, al_28, al_29, al_3, al_30, al_31, al_32, al_34, al_36, al_37, al_38, al_39, al_4, al_40, al_41, al_42, al_43, al_45, al_46, al_47, al_48, al_49, al_5, al_52, al_53, al_54, al_55, al_56, al_57, al_58, al_6, al_60, al_61, al_62, al_63, al_64, al_65, al_66, al_67, al_69, al_7, al_70, al_71, al_72, al_73, al_9, gf_6_17_59, pcl_0, pcl_1, pcl_100, pcl_101, pcl_102, pcl_103, pcl_104, pcl_105, pcl_106, pcl_107, pcl_108, pcl_109, pcl_110, pcl_111, pcl_112, pcl_15, pcl_22, pcl_25, pcl_26, pcl_33, pcl_44, pcl_50, pcl_59, pcl_8, pft_6_17, rOK_i, rOK_z, v_aload_0, v_aload_1, v_bipush_99, v_getfield, v_iconst_0, v_iconst_1, v_if_ne, v_iload_2, v_invv, v_ireturn, vcV_2_6, vcV_3_6, vgf_i, vgf_r, vgf_s, vc_d, rr_0, rr_1, csT_h, csT_t, csT_n, bI_0, bI_1, bI_z, bT, List.mem_cons, List.not_mem_nil, List.length_cons, List.length_nil, ite_not, ↓reduceIte, true_and, and_true, not_true_eq_false, not_false_eq_true, false_or, or_false, or_true, true_or, Nat.reduceAdd, Nat.reduceEqDiff, Nat.reduceBEq, Nat.reduceLeDiff, Nat.reduceLT, Nat.reduceSub, Int.reduceAdd, Int.reduceLE, Int.reduceLT, Int.reduceToNat, Int.reduceNeg, Int.reduceNatCast', reduceCtorEq, Int32.reduceOfInt, Int32.reduceOfNat, Int32.reduceToNatClampNeg, Int32.reduceToInt, i10, i01, nEM, mrow_s, hw]
  exact h
/-- item c -/
def itR (R : Nat → Int32) (c : Nat) (x a b : Int32) : Nat → Int32 := upd (upd (upd R (3 * c) x) (3 * c + 1) a) (3 * c + 2) b
set_option maxRecDepth 100000 in
set_option maxHeartbeats 4000000 in
theorem big_add {d : Nat} (hd : 1 ≤ d) {B : Mem} {k : Value → Mem → Prop} {c : Nat} {x a b : Int32} {G : Nat → Int32} (hc : c < 120) (h20 : G 20 = nI c) (h : k (.int 0) (mrow (mrow B 69 (itR (B 69) c x a b)) 59 (upd G 20 (nI (c + 1))))) : CallP d 207 [.ref 59, .int x, .int a, .int b] (mrow B 59 G) k := by
  obtain ⟨d, rfl⟩ : ∃ d', d = d' + 1 := ⟨d - 1, by omega⟩
  have e3 : (3 : Int32) * nI c = nI (3 * c) := by rw [show (3 : Int32) = nI 3 from rfl, pk_mul]
  have e31 : nI (3 * c) + 1 = nI (3 * c + 1) := nI_1 _
  have e32 : nI (3 * c) + 2 = nI (3 * c + 2) := by rw [show (2 : Int32) = nI 2 from rfl, nI_add]
  have c0 : (nI (3 * c)).toNatClampNeg = 3 * c := nI_clamp (by omega)
  have c1 : (nI (3 * c + 1)).toNatClampNeg = 3 * c + 1 := nI_clamp (by omega)
  have c2 : (nI (3 * c + 2)).toNatClampNeg = 3 * c + 2 := nI_clamp (by omega)
  have t0 : (nI (3 * c)).toInt = ((3 * c : Nat) : Int) := nI_toInt (by omega)
  have t1 : (nI (3 * c + 1)).toInt = ((3 * c + 1 : Nat) : Int) := nI_toInt (by omega)
  have t2 : (nI (3 * c + 2)).toInt = ((3 * c + 2 : Nat) : Int) := nI_toInt (by omega)
  refine enterV (n := 80) [] [] mI_207 (by decide) (Nat.le_of_ble_eq_true rfl) T_nil ?_
  rw [show lent 5 ([.ref 59, .int x, .int a, .int b] : List Value) = [.ref 59, .int x, .int a, .int b, .retAddr 0] from rfl]
  simp only [dX7_addItem_0, dX7_addItem_1, dX7_addItem_2, dX7_addItem_5, dX7_addItem_6, dX7_addItem_8, dX7_addItem_9, dX7_addItem_12, dX7_addItem_14, dX7_addItem_15, dX7_addItem_16, dX7_addItem_17, dX7_addItem_20, dX7_addItem_22, dX7_addItem_23, dX7_addItem_24, dX7_addItem_25, dX7_addItem_26, dX7_addItem_27, dX7_addItem_30, dX7_addItem_32, dX7_addItem_33, dX7_addItem_34, dX7_addItem_35, dX7_addItem_36, dX7_addItem_37, dX7_addItem_38, dX7_addItem_41, dX7_addItem_42, dX7_addItem_43, dX7_addItem_46, fr_7_279, fr_7_54, al_10, al_11, al_12, al_13, al_14, al_16, al_17, al_18, al_19, al_2, al_20, al_21, al_23, al_24, al_27, al_28, al_29, al_3, al_30, al_31, al_32, al_34, al_36, al_37, al_38, al_39, al_4, al_40, al_41, al_42, al_43, al_45, al_46, al_47, al_48, al_49, al_5, al_52, al_53, al_54, al_55, al_56, al_57, al_58, al_6, al_60, al_61, al_62, al_63, al_64, al_65, al_66, al_67, al_69, al_7, al_70, al_71, al_72, al_73, al_9, cat_i, cat_l, cat_r, cat_u, gf_6_19_59, gf_6_20_59, pft_6_20, v_aload_0, v_dup, v_getfield, v_iadd, v_iastore, v_iconst_1, v_iconst_2, v_iconst_3, v_iload_1, v_iload_2, v_iload_3, v_iload_4, v_imul, v_istore_4, v_putfield, v_return, vgf_i, vgf_r, vgf_s, vpf_s, vc_d, rr_0, rr_1, csT_h, csT_t, csT_n, bI_0, bI_1, bI_z, bT, List.mem_cons, List.not_mem_nil, List.length_cons, List.length_nil, ite_not, ↓reduceIte, true_and, and_true, not_true_eq_false, not_false_eq_true, false_or, or_false, or_true, true_or, Nat.reduceAdd, Nat.reduceEqDiff, Nat.reduceBEq, Nat.reduceLeDiff, Nat.reduceLT, Nat.reduceSub, Int.reduceAdd, Int.reduceLE, Int.reduceLT, Int.reduceToNat, Int.reduceNeg, Int.reduceNatCast', reduceCtorEq, Int32.reduceOfInt, Int32.reduceOfNat, Int32.reduceToNatClampNeg, Int32.reduceToInt, i10, i01, nEM, mrow_s, mrow_n, mset, mrow_mrow, h20, e3, e31, e32, c0, c1, c2, t0, t1, t2, nI_1]
  refine ⟨by omega, by omega, by omega, ?_⟩
  have e : mrow (mrow (mrow B 59 G) 69 (upd (upd (upd (B 69) (3 * c) x) (3 * c + 1) a) (3 * c + 2) b)) 59 (upd G 20 (nI (c + 1))) = mrow (mrow B 69 (itR (B 69) c x a b)) 59 (upd G 20 (nI (c + 1))) := by
    rw [mrow_comm (p := 69) (q := 59) (by decide), mrow_mrow, mrow_comm (p := 69) (q := 59) (by decide)]
    rfl
  rw [e]
  exact h
