/-! M: a text, whole -/
theorem nm_len {u v : Int32} {L L' : List Tok} (h : nmT u L = some (v, L')) : L'.length + 1 ≤ L.length ∧ ¬ v < 0 ∧ ¬ u < v := by
  match L, h with
  | [], h => cases h
  | (s, b, e, w) :: L, h =>
    have h : (if s = 2 ∧ ¬ w < 0 ∧ ¬ u < w then some (w, L) else none) = some (v, L') := h
    by_cases hc : s = 2 ∧ ¬ w < 0 ∧ ¬ u < w
    · rw [if_pos hc] at h
      cases h
      exact ⟨Nat.le_refl _, hc.2⟩
    · rw [if_neg hc] at h
      cases h
theorem opt_len {f : Nat → Int32} {j : Nat} {df v : Int32} {L L' : List Tok} (h : pOpt f j df L = .inr (v, L')) : L'.length ≤ L.length := by
  unfold pOpt at h
  by_cases hw : wn f L = j
  · rw [if_pos hw] at h
    cases hn : nmT 99 L.tail with
    | none => rw [hn] at h; cases h
    | some x =>
      rw [hn] at h
      cases h
      have := (nm_len hn).1
      rw [List.length_tail] at this
      omega
  · rw [if_neg hw] at h
    cases h
    exact Nat.le_refl _
theorem wn_ne {f : Nat → Int32} {L : List Tok} (h : wn f L < 13) : L.tail.length + 1 ≤ L.length := by
  match L, h with
  | [], h => exact absurd (show 13 < 13 from h) (by omega)
  | t :: L, h => exact Nat.le_refl _
theorem pIt_ok {f r : Nat → Int32} {L L' : List Tok} {wt : Nat} {x a b : Int32} (hr : r 1 = nI wt) (h : pIt f L wt = .inr (x, a, b, L')) : itG r (x, a, b) ∧ app r (x, a, b) 1 = nI (if wn f L < 7 then wt + 1 else wt) ∧ L'.length + 1 ≤ L.length := by
  unfold pIt at h
  by_cases hw : wn f L < 7
  · rw [if_pos hw] at h
    by_cases h6 : wt < 6
    · rw [if_pos h6] at h
      cases p1 : pOpt f 11 50 L.tail with
      | inl F => rw [p1] at h; cases h
      | inr y =>
        obtain ⟨g, L1⟩ := y
        rw [p1] at h
        dsimp only at h
        cases p2 : pOpt f 12 30 L1 with
        | inl F => rw [p2] at h; cases h
        | inr y =>
          obtain ⟨b', L2⟩ := y
          rw [p2] at h
          cases h
          have hk : isK (nI (wn f L)) := ⟨nI_pos (by omega), nI_nlt (a := 6) (by omega) (by decide)⟩
          have hwo : wOK (r 1) := by rw [hr]; exact nOK h6
          refine ⟨Or.inr (Or.inr ⟨hk, hwo⟩), ?_, ?_⟩
          · unfold app
            rw [if_neg (k_no10 hk).1, if_neg (k_no10 hk).2, if_pos hw]
            unfold cmR
            rw [upd_s, hr, nI_1]
          · have := opt_len p1
            have := opt_len p2
            have := wn_ne (f := f) (L := L) (by omega)
            omega
    · rw [if_neg h6] at h
      cases h
  · rw [if_neg hw] at h
    rw [if_neg hw]
    by_cases h7 : wn f L = 7
    · rw [if_pos h7] at h
      cases p1 : nmT 11 L.tail with
      | none => rw [p1] at h; cases h
      | some y =>
        obtain ⟨p, L1⟩ := y
        rw [p1] at h
        dsimp only at h
        cases p2 : nmT 99 L1 with
        | none => rw [p2] at h; cases h
        | some y =>
          obtain ⟨v, L2⟩ := y
          rw [p2] at h
          cases h
          have q1 := nm_len p1
          have q2 := nm_len p2
          have hp : isP a := by rw [← isP_m]; exact q1.2
          refine ⟨Or.inl ⟨rfl, hp, q2.2.1⟩, ?_, ?_⟩
          · unfold app
            rw [if_pos rfl, un (by omega)]
            exact hr
          · have := wn_ne (f := f) (L := L) (by omega)
            omega
    · rw [if_neg h7] at h
      by_cases h8 : wn f L = 8
      · rw [if_pos h8] at h
        cases p1 : nmT 11 L.tail with
        | none => rw [p1] at h; cases h
        | some y =>
          obtain ⟨p, L1⟩ := y
          rw [p1] at h
          cases h
          have q1 := nm_len p1
          have hp : isP a := by rw [← isP_m]; exact q1.2
          refine ⟨Or.inl ⟨rfl, hp, (by decide : ¬ (50 : Int32) < 0)⟩, ?_, ?_⟩
          · unfold app
            rw [if_pos rfl, un (by omega)]
            exact hr
          · have := wn_ne (f := f) (L := L) (by omega)
            omega
      · rw [if_neg h8] at h
        by_cases h9 : wn f L = 9
        · rw [if_pos h9] at h
          cases h
          refine ⟨Or.inr (Or.inl ⟨rfl, (by decide : ¬ (1 : Int32) < 0)⟩), ?_, wn_ne (f := f) (by omega)⟩
          unfold app
          rw [if_neg (by decide), if_pos rfl, upd_n (by decide)]
          exact hr
        · rw [if_neg h9] at h
          by_cases h10 : wn f L = 10
          · rw [if_pos h10] at h
            cases h
            refine ⟨Or.inr (Or.inl ⟨rfl, (by decide : ¬ (0 : Int32) < 0)⟩), ?_, wn_ne (f := f) (by omega)⟩
            unfold app
            rw [if_neg (by decide), if_pos rfl, upd_n (by decide)]
            exact hr
          · rw [if_neg h10] at h
            cases h
/-- a text: what is wrong, or its items -/
def pTx (f : Nat → Int32) : Nat → List Tok → Nat → List It → Sum (List Tok) (List It)
  | 0, L, _, _ => .inl L
  | n + 1, L, wt, acc => match pIt f L wt with
    | .inl F => .inl F
    | .inr (x, a, b, []) => .inr (acc ++ [(x, a, b)])
    | .inr (x, a, b, (s, p, e, v) :: L') => if s = 3 then pTx f n L' (if wn f L < 7 then wt + 1 else wt) (acc ++ [(x, a, b)]) else .inl ((s, p, e, v) :: L')
/-- behind an item -/
def pCt (f : Nat → Int32) (n : Nat) (L : List Tok) (wt : Nat) (acc : List It) : Sum (List Tok) (List It) := match L with
  | [] => .inr acc
  | (s, p, e, v) :: L' => if s = 3 then pTx f n L' wt acc else .inl ((s, p, e, v) :: L')
theorem pTx_s {f : Nat → Int32} {n wt : Nat} {L : List Tok} {acc : List It} : pTx f (n + 1) L wt acc = (match pIt f L wt with
    | .inl F => .inl F
    | .inr (x, a, b, L') => pCt f n L' (if wn f L < 7 then wt + 1 else wt) (acc ++ [(x, a, b)])) := by
  rw [pTx]
  cases h : pIt f L wt with
  | inl F => rfl
  | inr y =>
    obtain ⟨x, a, b, L'⟩ := y
    cases L' with
    | nil => rfl
    | cons t L' => obtain ⟨s, p, e, v⟩ := t; rfl
theorem ms0 {s : Int32} : ¬ ms s = 0 := by
  unfold ms
  split
  · decide
  · split <;> decide
set_option maxRecDepth 100000 in
set_option maxHeartbeats 4000000 in
theorem lp_wrong {d : Nat} (hd : 1 ≤ d) {B : Mem} {k : Value → Mem → Prop} {p : Nat} {x1 x2 : Value} {G : Nat → Int32} (hw : WG G p) (h : ∀ G', KP (upd G 12 0) G' → k (.int (-1 - nI p)) (mrow B 59 G')) : WP (7, yX7_text, cX7_text, 3, (some .int)) (d + 1) k 74 [.ref 59, x1, x2] [] (mrow B 59 G) := by
  have key : ∀ x : Int32, x = 0 ∨ x = 1 → CallP d 205 [.ref 59, .int x] (mrow B 59 G) (fun _ M' => if M' 59 17 = 0 then WP (7, yX7_text, cX7_text, 3, (some .int)) (d + 1) k 113 [.ref 59, .int 0, .int 0] [] (mset M' 59 12 0) else k (.int (-1 - M' 59 13)) (mset M' 59 12 0)) := by
    intro x hx
    refine big_mustF hd hx (Or.inl hw.1) ?_
    have e : upd G 17 1 = G := by rw [← hw.1, upd_self]
    rw [e, mrow_s, hw.1, if_neg (by decide), hw.2]
    unfold mset
    rw [mrow_s, mrow_mrow]
    exact h _ KP.rf
  refine goV (n := 80) [] [33, 74, 113] T_nil ?_
  simp only [dX7_text_0, dX7_text_1, dX7_text_2, dX7_text_5, dX7_text_6, dX7_text_7, dX7_text_10, dX7_text_11, dX7_text_12, dX7_text_15, dX7_text_16, dX7_text_17, dX7_text_20, dX7_text_21, dX7_text_22, dX7_text_25, dX7_text_26, dX7_text_29, dX7_text_30, dX7_text_33, dX7_text_34, dX7_text_37, dX7_text_40, dX7_text_41, dX7_text_44, dX7_text_45, dX7_text_48, dX7_text_49, dX7_text_52, dX7_text_53, dX7_text_56, dX7_text_57, dX7_text_59, dX7_text_62, dX7_text_63, dX7_text_64, dX7_text_67, dX7_text_68, dX7_text_71, dX7_text_74, dX7_text_75, dX7_text_76, dX7_text_79, dX7_text_82, dX7_text_83, dX7_text_86, dX7_text_87, dX7_text_90, dX7_text_91, dX7_text_92, dX7_text_95, dX7_text_96, dX7_text_99, dX7_text_102, dX7_text_103, dX7_text_104, dX7_text_107, dX7_text_108, dX7_text_109, dX7_text_110, dX7_text_111, dX7_text_112, dX7_text_113, dX7_text_114, dX7_text_115, dX7_text_118, dX7_text_121, dX7_text_122, dX7_text_123, dX7_text_124, dX7_text_125, dX7_text_126, dX7_text_129, dX7_text_132, dX7_text_133, dX7_text_136, dX7_text_137, dX7_text_138, dX7_text_139, dX7_text_142, dX7_text_145, dX7_text_146, cr_7_272, cr_7_275, cr_7_315, cr_7_318, fr_7_243, fr_7_246, fr_7_249, fr_7_258, fr_7_268, fr_7_279, fr_7_292, fr_7_31, fr_7_9, al_10, al_11, al_12, al_13, al_14, al_16, al_17, al_18, al_19, al_2, al_20, al_21, al_23, al_24, al_27, al_28, al_29, al_3, al_30, al_31, al_32, al_34, al_36, al_37, al_38, al_39, al_4, al_40, al_41, al_42, al_43, al_45, al_46, al_47, al_48, al_49, al_5, al_52, al_53, al_54, al_55, al_56, al_57, al_58, al_6, al_60, al_61, al_62, al_63, al_64, al_65, al_66, al_67, al_69, al_7, al_70, al_71, al_72, al_73, al_9, cat_i, cat_l, cat_r, cat_u, gf_6_0_59, gf_6_11_59, gf_6_12_59, gf_6_13_59, gf_6_14_59, gf_6_15_59, gf_6_17_59, gf_6_20_59, gf_6_21_59, pcl_0, pcl_1, pcl_100, pcl_101, pcl_102, pcl_103, pcl_104, pcl_105, pcl_106, pcl_107, pcl_108, pcl_109, pcl_110, pcl_111, pcl_112, pcl_15, pcl_22, pcl_25, pcl_26, pcl_33, pcl_44, pcl_50, pcl_59, pcl_8, pft_6_12, pft_6_13, pft_6_14, pft_6_15, pft_6_17, pft_6_20, pft_6_21, rOK_i, rOK_z, v_aload_0, v_bipush_59, v_getfield, v_goto, v_iadd, v_iaload, v_ic_ge, v_ic_ne, v_iconst_0, v_iconst_1, v_iconst_3, v_iconst_m1, v_if_eq, v_if_ge, v_if_ne, v_iinc_2, v_iload_1, v_iload_2, v_imul, v_invv, v_ireturn, v_istore_1, v_istore_2, v_isub, v_putfield, vcV_1_6, vcV_2_6, vgf_i, vgf_r, vgf_s, vpf_s, vc_d, rr_0, rr_1, csT_h, csT_t, csT_n, bI_0, bI_1, bI_z, bT, List.mem_cons, List.not_mem_nil, List.length_cons, List.length_nil, ite_not, ↓reduceIte, true_and, and_true, not_true_eq_false, not_false_eq_true, false_or, or_false, or_true, true_or, Nat.reduceAdd, Nat.reduceEqDiff, Nat.reduceBEq, Nat.reduceLeDiff, Nat.reduceLT, Nat.reduceSub, Int.reduceAdd, Int.reduceLE, Int.reduceLT, Int.reduceToNat, Int.reduceNeg, Int.reduceNatCast', reduceCtorEq, Int32.reduceOfInt, Int32.reduceOfNat, Int32.reduceToNatClampNeg, Int32.reduceToInt, i10, i01, nEM, mset_s, upd_n]
  by_cases z : (mrow B 59 G) 59 15 = 0
  · rw [if_pos z]
    exact key 1 (Or.inr rfl)
  · rw [if_neg z]
    exact key 0 (Or.inl rfl)
set_option maxRecDepth 100000 in
set_option maxHeartbeats 4000000 in
theorem lp_loop {d : Nat} (hd : 6 ≤ d) {k : Value → Mem → Prop} {N : Nat} {f r : Nat → Int32} (hr : RV r) : ∀ (n : Nat) (L : List Tok) (wt : Nat) (acc : List It) (B : Mem) (G : Nat → Int32), L.length ≤ n → 2 * acc.length + L.length ≤ 122 → wt < 500 → B 67 = f → B 60 = r → SG f N G L → G 20 = nI acc.length → G 21 = nI wt → IR (B 69) acc → okL r acc → acc.foldl app r 1 = nI wt → wt + L.length < 500 →
    (∀ F, pCt f n L wt acc = .inl F → ∀ R G', KQ (upd G 12 0) G' → k (.int (-1 - nI (posL N F))) (mrow (mrow B 69 R) 59 G')) →
    (∀ I, pCt f n L wt acc = .inr I → ∀ R G', KQ (upd G 12 0) G' → k (.int (nI I.length)) (mrow (mrow (mrow B 69 R) 59 G') 60 (I.foldl app r))) → WP (7, yX7_text, cX7_text, 3, (some .int)) (d + 1) k 33 [.ref 59, .retAddr 0, .retAddr 0] [] (mrow B 59 G) := by
  intro n
  induction n with
  | zero =>
    intro L wt acc B G hL hA hwt hf hB hS h20 h21 hI ho hfold h500 h1 h2
    have : L = [] := List.length_eq_zero_iff.mp (by omega)
    subst this
    obtain ⟨a1, a2, a3, a4, e, he, h14, h5⟩ := id hS
    subst hf
    refine goV (n := 80) [] [33, 113] T_nil ?_
    simp only [dX7_text_0, dX7_text_1, dX7_text_2, dX7_text_5, dX7_text_6, dX7_text_7, dX7_text_10, dX7_text_11, dX7_text_12, dX7_text_15, dX7_text_16, dX7_text_17, dX7_text_20, dX7_text_21, dX7_text_22, dX7_text_25, dX7_text_26, dX7_text_29, dX7_text_30, dX7_text_33, dX7_text_34, dX7_text_37, dX7_text_40, dX7_text_41, dX7_text_44, dX7_text_45, dX7_text_48, dX7_text_49, dX7_text_52, dX7_text_53, dX7_text_56, dX7_text_57, dX7_text_59, dX7_text_62, dX7_text_63, dX7_text_64, dX7_text_67, dX7_text_68, dX7_text_71, dX7_text_74, dX7_text_75, dX7_text_76, dX7_text_79, dX7_text_82, dX7_text_83, dX7_text_86, dX7_text_87, dX7_text_90, dX7_text_91, dX7_text_92, dX7_text_95, dX7_text_96, dX7_text_99, dX7_text_102, dX7_text_103, dX7_text_104, dX7_text_107, dX7_text_108, dX7_text_109, dX7_text_110, dX7_text_111, dX7_text_112, dX7_text_113, dX7_text_114, dX7_text_115, dX7_text_118, dX7_text_121, dX7_text_122, dX7_text_123, dX7_text_124, dX7_text_125, dX7_text_126, dX7_text_129, dX7_text_132, dX7_text_133, dX7_text_136, dX7_text_137, dX7_text_138, dX7_text_139, dX7_text_142, dX7_text_145, dX7_text_146, cr_7_272, cr_7_275, cr_7_315, cr_7_318, fr_7_243, fr_7_246, fr_7_249, fr_7_258, fr_7_268, fr_7_279, fr_7_292, fr_7_31, fr_7_9, al_10, al_11, al_12, al_13, al_14, al_16, al_17, al_18, al_19, al_2, al_20, al_21, al_23, al_24, al_27, al_28, al_29, al_3, al_30, al_31, al_32, al_34, al_36, al_37, al_38, al_39, al_4, al_40, al_41, al_42, al_43, al_45, al_46, al_47, al_48, al_49, al_5, al_52, al_53, al_54, al_55, al_56, al_57, al_58, al_6, al_60, al_61, al_62, al_63, al_64, al_65, al_66, al_67, al_69, al_7, al_70, al_71, al_72, al_73, al_9, cat_i, cat_l, cat_r, cat_u, gf_6_0_59, gf_6_11_59, gf_6_12_59, gf_6_13_59, gf_6_14_59, gf_6_15_59, gf_6_17_59, gf_6_20_59, gf_6_21_59, pcl_0, pcl_1, pcl_100, pcl_101, pcl_102, pcl_103, pcl_104, pcl_105, pcl_106, pcl_107, pcl_108, pcl_109, pcl_110, pcl_111, pcl_112, pcl_15, pcl_22, pcl_25, pcl_26, pcl_33, pcl_44, pcl_50, pcl_59, pcl_8, pft_6_12, pft_6_13, pft_6_14, pft_6_15, pft_6_17, pft_6_20, pft_6_21, rOK_i, rOK_z, v_aload_0, v_bipush_59, v_getfield, v_goto, v_iadd, v_iaload, v_ic_ge, v_ic_ne, v_iconst_0, v_iconst_1, v_iconst_3, v_iconst_m1, v_if_eq, v_if_ge, v_if_ne, v_iinc_2, v_iload_1, v_iload_2, v_imul, v_invv, v_ireturn, v_istore_1, v_istore_2, v_isub, v_putfield, vcV_1_6, vcV_2_6, vgf_i, vgf_r, vgf_s, vpf_s, vc_d, rr_0, rr_1, csT_h, csT_t, csT_n, bI_0, bI_1, bI_z, bT, List.mem_cons, List.not_mem_nil, List.length_cons, List.length_nil, ite_not, ↓reduceIte, true_and, and_true, not_true_eq_false, not_false_eq_true, false_or, or_false, or_true, true_or, Nat.reduceAdd, Nat.reduceEqDiff, Nat.reduceBEq, Nat.reduceLeDiff, Nat.reduceLT, Nat.reduceSub, Int.reduceAdd, Int.reduceLE, Int.reduceLT, Int.reduceToNat, Int.reduceNeg, Int.reduceNatCast', reduceCtorEq, Int32.reduceOfInt, Int32.reduceOfNat, Int32.reduceToNatClampNeg, Int32.reduceToInt, i10, i01, nEM, mrow_s, a3, h5.2.2, show ((0 : Int32) = 3) = False from by decide]
    refine big_mustT (by omega) hS (fun G1 hS1 hk1 => ?_)
    have z17 : G1 17 = 0 := hS1.2.2.1
    have z20 : G1 20 = nI acc.length := by rw [hk1 20 (by decide) (by decide) (by decide) (by decide) (by decide)]; exact h20
    simp only [mset, mrow_s, mrow_mrow, upd_n, z17, if_true, ↓reduceIte]
    have key := lp_apply (d := d) (by omega) (B := mrow B 59 (upd G1 12 0)) (k := k) (m := acc.length) (by omega) (by rw [mrow_s, upd_n (by decide)]; exact z20) acc 0 r (by omega) hr ho (fun j hj => by rw [mrow_n (by decide), Nat.zero_add]; exact hI j hj) (by
      have := h2 acc rfl (B 69) (upd G1 12 0) (fun j hj => by
        by_cases z : j = 12
        · rw [z, upd_s, upd_s]
        · rw [un z, un z]
          exact hk1.q j hj)
      rw [mrow_self] at this
      exact this)
    have e60 : mrow (mrow B 59 (upd G1 12 0)) 60 r = mrow B 59 (upd G1 12 0) := by
      rw [← hB, show B 60 = (mrow B 59 (upd G1 12 0)) 60 from (mrow_n (by decide)).symm, mrow_self]
    rw [e60] at key
    rw [if_pos (show upd G1 12 0 17 = 0 by rw [upd_n (by decide)]; exact z17)]
    exact key
  | succ n ih =>
    intro L wt acc B G hL hA hwt hf hB hS h20 h21 hI ho hfold h500 h1 h2
    obtain ⟨a1, a2, a3, a4, e, he, h14, h5⟩ := id hS
    subst hf
    match L, hL, hA, hS, h5, h1, h2, h500 with
    | [], hL, hA, hS, h5, h1, h2, h500 =>
      refine goV (n := 80) [] [33, 113] T_nil ?_
      simp only [dX7_text_0, dX7_text_1, dX7_text_2, dX7_text_5, dX7_text_6, dX7_text_7, dX7_text_10, dX7_text_11, dX7_text_12, dX7_text_15, dX7_text_16, dX7_text_17, dX7_text_20, dX7_text_21, dX7_text_22, dX7_text_25, dX7_text_26, dX7_text_29, dX7_text_30, dX7_text_33, dX7_text_34, dX7_text_37, dX7_text_40, dX7_text_41, dX7_text_44, dX7_text_45, dX7_text_48, dX7_text_49, dX7_text_52, dX7_text_53, dX7_text_56, dX7_text_57, dX7_text_59, dX7_text_62, dX7_text_63, dX7_text_64, dX7_text_67, dX7_text_68, dX7_text_71, dX7_text_74, dX7_text_75, dX7_text_76, dX7_text_79, dX7_text_82, dX7_text_83, dX7_text_86, dX7_text_87, dX7_text_90, dX7_text_91, dX7_text_92, dX7_text_95, dX7_text_96, dX7_text_99, dX7_text_102, dX7_text_103, dX7_text_104, dX7_text_107, dX7_text_108, dX7_text_109, dX7_text_110, dX7_text_111, dX7_text_112, dX7_text_113, dX7_text_114, dX7_text_115, dX7_text_118, dX7_text_121, dX7_text_122, dX7_text_123, dX7_text_124, dX7_text_125, dX7_text_126, dX7_text_129, dX7_text_132, dX7_text_133, dX7_text_136, dX7_text_137, dX7_text_138, dX7_text_139, dX7_text_142, dX7_text_145, dX7_text_146, cr_7_272, cr_7_275, cr_7_315, cr_7_318, fr_7_243, fr_7_246, fr_7_249, fr_7_258, fr_7_268, fr_7_279, fr_7_292, fr_7_31, fr_7_9, al_10, al_11, al_12, al_13, al_14, al_16, al_17, al_18, al_19, al_2, al_20, al_21, al_23, al_24, al_27, al_28, al_29, al_3, al_30, al_31, al_32, al_34, al_36, al_37, al_38, al_39, al_4, al_40, al_41, al_42, al_43, al_45, al_46, al_47, al_48, al_49, al_5, al_52, al_53, al_54, al_55, al_56, al_57, al_58, al_6, al_60, al_61, al_62, al_63, al_64, al_65, al_66, al_67, al_69, al_7, al_70, al_71, al_72, al_73, al_9, cat_i, cat_l, cat_r, cat_u, gf_6_0_59, gf_6_11_59, gf_6_12_59, gf_6_13_59, gf_6_14_59, gf_6_15_59, gf_6_17_59, gf_6_20_59, gf_6_21_59, pcl_0, pcl_1, pcl_100, pcl_101, pcl_102, pcl_103, pcl_104, pcl_105, pcl_106, pcl_107, pcl_108, pcl_109, pcl_110, pcl_111, pcl_112, pcl_15, pcl_22, pcl_25, pcl_26, pcl_33, pcl_44, pcl_50, pcl_59, pcl_8, pft_6_12, pft_6_13, pft_6_14, pft_6_15, pft_6_17, pft_6_20, pft_6_21, rOK_i, rOK_z, v_aload_0, v_bipush_59, v_getfield, v_goto, v_iadd, v_iaload, v_ic_ge, v_ic_ne, v_iconst_0, v_iconst_1, v_iconst_3, v_iconst_m1, v_if_eq, v_if_ge, v_if_ne, v_iinc_2, v_iload_1, v_iload_2, v_imul, v_invv, v_ireturn, v_istore_1, v_istore_2, v_isub, v_putfield, vcV_1_6, vcV_2_6, vgf_i, vgf_r, vgf_s, vpf_s, vc_d, rr_0, rr_1, csT_h, csT_t, csT_n, bI_0, bI_1, bI_z, bT, List.mem_cons, List.not_mem_nil, List.length_cons, List.length_nil, ite_not, ↓reduceIte, true_and, and_true, not_true_eq_false, not_false_eq_true, false_or, or_false, or_true, true_or, Nat.reduceAdd, Nat.reduceEqDiff, Nat.reduceBEq, Nat.reduceLeDiff, Nat.reduceLT, Nat.reduceSub, Int.reduceAdd, Int.reduceLE, Int.reduceLT, Int.reduceToNat, Int.reduceNeg, Int.reduceNatCast', reduceCtorEq, Int32.reduceOfInt, Int32.reduceOfNat, Int32.reduceToNatClampNeg, Int32.reduceToInt, i10, i01, nEM, mrow_s, a3, h5.2.2, show ((0 : Int32) = 3) = False from by decide]
      refine big_mustT (by omega) hS (fun G1 hS1 hk1 => ?_)
      have z17 : G1 17 = 0 := hS1.2.2.1
      have z20 : G1 20 = nI acc.length := by rw [hk1 20 (by decide) (by decide) (by decide) (by decide) (by decide)]; exact h20
      simp only [mset, mrow_s, mrow_mrow, upd_n, z17, if_true, ↓reduceIte]
      have hA2 : 2 * acc.length ≤ 122 := hA
      have key := lp_apply (d := d) (by omega) (B := mrow B 59 (upd G1 12 0)) (k := k) (m := acc.length) (by omega) (by rw [mrow_s, upd_n (by decide)]; exact z20) acc 0 r (by omega) hr ho (fun j hj => by rw [mrow_n (by decide), Nat.zero_add]; exact hI j hj) (by
        have := h2 acc rfl (B 69) (upd G1 12 0) (fun j hj => by
          by_cases z : j = 12
          · rw [z, upd_s, upd_s]
          · rw [un z, un z]
            exact hk1.q j hj)
        rw [mrow_self] at this
        exact this)
      have e60 : mrow (mrow B 59 (upd G1 12 0)) 60 r = mrow B 59 (upd G1 12 0) := by
        rw [← hB, show B 60 = (mrow B 59 (upd G1 12 0)) 60 from (mrow_n (by decide)).symm, mrow_self]
      rw [e60] at key
      rw [if_pos (show upd G1 12 0 17 = 0 by rw [upd_n (by decide)]; exact z17)]
      exact key
    | (s, b, e', v) :: L', hL, hA, hS, h5, h1, h2, h500 =>
      obtain ⟨rfl, hbe, h13, h15, h16, hs4, hst, hL'⟩ := h5
      have hlen : L'.length + 1 ≤ n + 1 := hL
      have hA2 : 2 * acc.length + (L'.length + 1) ≤ 122 := hA
      have h502 : wt + (L'.length + 1) < 500 := h500
      have cb : (nI b).toNatClampNeg = b := nI_clamp (by omega)
      have ct : (nI b).toInt = (b : Int) := nI_toInt (by omega)
      by_cases hs : s = 3
      · subst hs
        have e3 : ms 3 = 3 := rfl
        have e59 : B 67 b = 59 := by
          unfold stO at hst
          repeat' split at hst
          all_goals first | exact absurd hst (by decide) | assumption
        unfold pCt at h1 h2
        dsimp only at h1 h2
        rw [if_pos rfl] at h1 h2
        rw [pTx_s] at h1 h2
        refine goV (n := 80) [] [33, 74] T_nil ?_
        simp only [dX7_text_0, dX7_text_1, dX7_text_2, dX7_text_5, dX7_text_6, dX7_text_7, dX7_text_10, dX7_text_11, dX7_text_12, dX7_text_15, dX7_text_16, dX7_text_17, dX7_text_20, dX7_text_21, dX7_text_22, dX7_text_25, dX7_text_26, dX7_text_29, dX7_text_30, dX7_text_33, dX7_text_34, dX7_text_37, dX7_text_40, dX7_text_41, dX7_text_44, dX7_text_45, dX7_text_48, dX7_text_49, dX7_text_52, dX7_text_53, dX7_text_56, dX7_text_57, dX7_text_59, dX7_text_62, dX7_text_63, dX7_text_64, dX7_text_67, dX7_text_68, dX7_text_71, dX7_text_74, dX7_text_75, dX7_text_76, dX7_text_79, dX7_text_82, dX7_text_83, dX7_text_86, dX7_text_87, dX7_text_90, dX7_text_91, dX7_text_92, dX7_text_95, dX7_text_96, dX7_text_99, dX7_text_102, dX7_text_103, dX7_text_104, dX7_text_107, dX7_text_108, dX7_text_109, dX7_text_110, dX7_text_111, dX7_text_112, dX7_text_113, dX7_text_114, dX7_text_115, dX7_text_118, dX7_text_121, dX7_text_122, dX7_text_123, dX7_text_124, dX7_text_125, dX7_text_126, dX7_text_129, dX7_text_132, dX7_text_133, dX7_text_136, dX7_text_137, dX7_text_138, dX7_text_139, dX7_text_142, dX7_text_145, dX7_text_146, cr_7_272, cr_7_275, cr_7_315, cr_7_318, fr_7_243, fr_7_246, fr_7_249, fr_7_258, fr_7_268, fr_7_279, fr_7_292, fr_7_31, fr_7_9, al_10, al_11, al_12, al_13, al_14, al_16, al_17, al_18, al_19, al_2, al_20, al_21, al_23, al_24, al_27, al_28, al_29, al_3, al_30, al_31, al_32, al_34, al_36, al_37, al_38, al_39, al_4, al_40, al_41, al_42, al_43, al_45, al_46, al_47, al_48, al_49, al_5, al_52, al_53, al_54, al_55, al_56, al_57, al_58, al_6, al_60, al_61, al_62, al_63, al_64, al_65, al_66, al_67, al_69, al_7, al_70, al_71, al_72, al_73, al_9, cat_i, cat_l, cat_r, cat_u, gf_6_0_59, gf_6_11_59, gf_6_12_59, gf_6_13_59, gf_6_14_59, gf_6_15_59, gf_6_17_59, gf_6_20_59, gf_6_21_59, pcl_0, pcl_1, pcl_100, pcl_101, pcl_102, pcl_103, pcl_104, pcl_105, pcl_106, pcl_107, pcl_108, pcl_109, pcl_110, pcl_111, pcl_112, pcl_15, pcl_22, pcl_25, pcl_26, pcl_33, pcl_44, pcl_50, pcl_59, pcl_8, pft_6_12, pft_6_13, pft_6_14, pft_6_15, pft_6_17, pft_6_20, pft_6_21, rOK_i, rOK_z, v_aload_0, v_bipush_59, v_getfield, v_goto, v_iadd, v_iaload, v_ic_ge, v_ic_ne, v_iconst_0, v_iconst_1, v_iconst_3, v_iconst_m1, v_if_eq, v_if_ge, v_if_ne, v_iinc_2, v_iload_1, v_iload_2, v_imul, v_invv, v_ireturn, v_istore_1, v_istore_2, v_isub, v_putfield, vcV_1_6, vcV_2_6, vgf_i, vgf_r, vgf_s, vpf_s, vc_d, rr_0, rr_1, csT_h, csT_t, csT_n, bI_0, bI_1, bI_z, bT, List.mem_cons, List.not_mem_nil, List.length_cons, List.length_nil, ite_not, ↓reduceIte, true_and, and_true, not_true_eq_false, not_false_eq_true, false_or, or_false, or_true, true_or, Nat.reduceAdd, Nat.reduceEqDiff, Nat.reduceBEq, Nat.reduceLeDiff, Nat.reduceLT, Nat.reduceSub, Int.reduceAdd, Int.reduceLE, Int.reduceLT, Int.reduceToNat, Int.reduceNeg, Int.reduceNatCast', reduceCtorEq, Int32.reduceOfInt, Int32.reduceOfNat, Int32.reduceToNatClampNeg, Int32.reduceToInt, i10, i01, nEM, mrow_s, mrow_n, a3, h15, e3, h13, cb, ct, e59]
        refine ⟨by omega, ?_⟩
        refine big_mustT (by omega) hS (fun G1 hS1 hk1 => ?_)
        try simp only [dX7_text_0, dX7_text_1, dX7_text_2, dX7_text_5, dX7_text_6, dX7_text_7, dX7_text_10, dX7_text_11, dX7_text_12, dX7_text_15, dX7_text_16, dX7_text_17, dX7_text_20, dX7_text_21, dX7_text_22, dX7_text_25, dX7_text_26, dX7_text_29, dX7_text_30, dX7_text_33, dX7_text_34, dX7_text_37, dX7_text_40, dX7_text_41, dX7_text_44, dX7_text_45, dX7_text_48, dX7_text_49, dX7_text_52, dX7_text_53, dX7_text_56, dX7_text_57, dX7_text_59, dX7_text_62, dX7_text_63, dX7_text_64, dX7_text_67, dX7_text_68, dX7_text_71, dX7_text_74, dX7_text_75, dX7_text_76, dX7_text_79, dX7_text_82, dX7_text_83, dX7_text_86, dX7_text_87, dX7_text_90, dX7_text_91, dX7_text_92, dX7_text_95, dX7_text_96, dX7_text_99, dX7_text_102, dX7_text_103, dX7_text_104, dX7_text_107, dX7_text_108, dX7_text_109, dX7_text_110, dX7_text_111, dX7_text_112, dX7_text_113, dX7_text_114, dX7_text_115, dX7_text_118, dX7_text_121, dX7_text_122, dX7_text_123, dX7_text_124, dX7_text_125, dX7_text_126, dX7_text_129, dX7_text_132, dX7_text_133, dX7_text_136, dX7_text_137, dX7_text_138, dX7_text_139, dX7_text_142, dX7_text_145, dX7_text_146, cr_7_272, cr_7_275, cr_7_315, cr_7_318, fr_7_243, fr_7_246, fr_7_249, fr_7_258, fr_7_268, fr_7_279, fr_7_292, fr_7_31, fr_7_9, al_10, al_11, al_12, al_13, al_14, al_16, al_17, al_18, al_19, al_2, al_20, al_21, al_23, al_24, al_27, al_28, al_29, al_3, al_30, al_31, al_32, al_34, al_36, al_37, al_38, al_39, al_4, al_40, al_41, al_42, al_43, al_45, al_46, al_47, al_48, al_49, al_5, al_52, al_53, al_54, al_55, al_56, al_57, al_58, al_6, al_60, al_61, al_62, al_63, al_64, al_65, al_66, al_67, al_69, al_7, al_70, al_71, al_72, al_73, al_9, cat_i, cat_l, cat_r, cat_u, gf_6_0_59, gf_6_11_59, gf_6_12_59, gf_6_13_59, gf_6_14_59, gf_6_15_59, gf_6_17_59, gf_6_20_59, gf_6_21_59, pcl_0, pcl_1, pcl_100, pcl_101, pcl_102, pcl_103, pcl_104, pcl_105, pcl_106, pcl_107, pcl_108, pcl_109, pcl_110, pcl_111, pcl_112, pcl_15, pcl_22, pcl_25, pcl_26, pcl_33, pcl_44, pcl_50, pcl_59, pcl_8, pft_6_12, pft_6_13, pft_6_14, pft_6_15, pft_6_17, pft_6_20, pft_6_21, rOK_i, rOK_z, v_aload_0, v_bipush_59, v_getfield, v_goto, v_iadd, v_iaload, v_ic_ge, v_ic_ne, v_iconst_0, v_iconst_1, v_iconst_3, v_iconst_m1, v_if_eq, v_if_ge, v_if_ne, v_iinc_2, v_iload_1, v_iload_2, v_imul, v_invv, v_ireturn, v_istore_1, v_istore_2, v_isub, v_putfield, vcV_1_6, vcV_2_6, vgf_i, vgf_r, vgf_s, vpf_s, vc_d, rr_0, rr_1, csT_h, csT_t, csT_n, bI_0, bI_1, bI_z, bT, List.mem_cons, List.not_mem_nil, List.length_cons, List.length_nil, ite_not, ↓reduceIte, true_and, and_true, not_true_eq_false, not_false_eq_true, false_or, or_false, or_true, true_or, Nat.reduceAdd, Nat.reduceEqDiff, Nat.reduceBEq, Nat.reduceLeDiff, Nat.reduceLT, Nat.reduceSub, Int.reduceAdd, Int.reduceLE, Int.reduceLT, Int.reduceToNat, Int.reduceNeg, Int.reduceNatCast', reduceCtorEq, Int32.reduceOfInt, Int32.reduceOfNat, Int32.reduceToNatClampNeg, Int32.reduceToInt, i10, i01, nEM]
        have z20 : G1 20 = nI acc.length := by rw [hk1 20 (by decide) (by decide) (by decide) (by decide) (by decide)]; exact h20
        have z21 : G1 21 = nI wt := by rw [hk1 21 (by decide) (by decide) (by decide) (by decide) (by decide)]; exact h21
        have q0 : KQ (upd G 12 0) (upd G1 12 0) := fun j hj => by
          by_cases z : j = 12
          · rw [z, upd_s, upd_s]
          · rw [un z, un z]
            exact hk1.q j hj
        refine call_readItem (L := L') (by omega) (by omega) (by omega) z20 z21 hS1 (fun x a b2 L2 hp G2 hS2 w20 w21 hk2 => ?_) (fun F hp R G2 hW2 hk2 => ?_)
        · try simp only [dX7_text_0, dX7_text_1, dX7_text_2, dX7_text_5, dX7_text_6, dX7_text_7, dX7_text_10, dX7_text_11, dX7_text_12, dX7_text_15, dX7_text_16, dX7_text_17, dX7_text_20, dX7_text_21, dX7_text_22, dX7_text_25, dX7_text_26, dX7_text_29, dX7_text_30, dX7_text_33, dX7_text_34, dX7_text_37, dX7_text_40, dX7_text_41, dX7_text_44, dX7_text_45, dX7_text_48, dX7_text_49, dX7_text_52, dX7_text_53, dX7_text_56, dX7_text_57, dX7_text_59, dX7_text_62, dX7_text_63, dX7_text_64, dX7_text_67, dX7_text_68, dX7_text_71, dX7_text_74, dX7_text_75, dX7_text_76, dX7_text_79, dX7_text_82, dX7_text_83, dX7_text_86, dX7_text_87, dX7_text_90, dX7_text_91, dX7_text_92, dX7_text_95, dX7_text_96, dX7_text_99, dX7_text_102, dX7_text_103, dX7_text_104, dX7_text_107, dX7_text_108, dX7_text_109, dX7_text_110, dX7_text_111, dX7_text_112, dX7_text_113, dX7_text_114, dX7_text_115, dX7_text_118, dX7_text_121, dX7_text_122, dX7_text_123, dX7_text_124, dX7_text_125, dX7_text_126, dX7_text_129, dX7_text_132, dX7_text_133, dX7_text_136, dX7_text_137, dX7_text_138, dX7_text_139, dX7_text_142, dX7_text_145, dX7_text_146, cr_7_272, cr_7_275, cr_7_315, cr_7_318, fr_7_243, fr_7_246, fr_7_249, fr_7_258, fr_7_268, fr_7_279, fr_7_292, fr_7_31, fr_7_9, al_10, al_11, al_12, al_13, al_14, al_16, al_17, al_18, al_19, al_2, al_20, al_21, al_23, al_24, al_27, al_28, al_29, al_3, al_30, al_31, al_32, al_34, al_36, al_37, al_38, al_39, al_4, al_40, al_41, al_42, al_43, al_45, al_46, al_47, al_48, al_49, al_5, al_52, al_53, al_54, al_55, al_56, al_57, al_58, al_6, al_60, al_61, al_62, al_63, al_64, al_65, al_66, al_67, al_69, al_7, al_70, al_71, al_72, al_73, al_9, cat_i, cat_l, cat_r, cat_u, gf_6_0_59, gf_6_11_59, gf_6_12_59, gf_6_13_59, gf_6_14_59, gf_6_15_59, gf_6_17_59, gf_6_20_59, gf_6_21_59, pcl_0, pcl_1, pcl_100, pcl_101, pcl_102, pcl_103, pcl_104, pcl_105, pcl_106, pcl_107, pcl_108, pcl_109, pcl_110, pcl_111, pcl_112, pcl_15, pcl_22, pcl_25, pcl_26, pcl_33, pcl_44, pcl_50, pcl_59, pcl_8, pft_6_12, pft_6_13, pft_6_14, pft_6_15, pft_6_17, pft_6_20, pft_6_21, rOK_i, rOK_z, v_aload_0, v_bipush_59, v_getfield, v_goto, v_iadd, v_iaload, v_ic_ge, v_ic_ne, v_iconst_0, v_iconst_1, v_iconst_3, v_iconst_m1, v_if_eq, v_if_ge, v_if_ne, v_iinc_2, v_iload_1, v_iload_2, v_imul, v_invv, v_ireturn, v_istore_1, v_istore_2, v_isub, v_putfield, vcV_1_6, vcV_2_6, vgf_i, vgf_r, vgf_s, vpf_s, vc_d, rr_0, rr_1, csT_h, csT_t, csT_n, bI_0, bI_1, bI_z, bT, List.mem_cons, List.not_mem_nil, List.length_cons, List.length_nil, ite_not, ↓reduceIte, true_and, and_true, not_true_eq_false, not_false_eq_true, false_or, or_false, or_true, true_or, Nat.reduceAdd, Nat.reduceEqDiff, Nat.reduceBEq, Nat.reduceLeDiff, Nat.reduceLT, Nat.reduceSub, Int.reduceAdd, Int.reduceLE, Int.reduceLT, Int.reduceToNat, Int.reduceNeg, Int.reduceNatCast', reduceCtorEq, Int32.reduceOfInt, Int32.reduceOfNat, Int32.reduceToNatClampNeg, Int32.reduceToInt, i10, i01, nEM]
          rw [hp] at h1 h2
          dsimp only at h1 h2
          obtain ⟨g1, g2, g3⟩ := pIt_ok hfold hp
          have g3' : L2.length + 1 ≤ L'.length := g3
          have q2 : KQ (upd G1 12 0) (upd G2 12 0) := fun j hj => by
            by_cases z : j = 12
            · rw [z, upd_s, upd_s]
            · rw [un z, un z]
              exact hk2 j hj
          have q : KQ (upd G 12 0) (upd G2 12 0) := q0.tr q2
          refine ih L2 _ (acc ++ [(x, a, b2)]) (mrow B 69 (itR (B 69) acc.length x a b2)) G2 (by omega) (by rw [List.length_append]; show 2 * (acc.length + 1) + _ ≤ _; omega) (by split <;> omega) (mrow_n (by decide)) (by rw [mrow_n (by decide)]; exact hB) hS2 (by rw [List.length_append]; exact w20) w21 (by rw [mrow_s]; exact hI.add) (okL_app acc r _ ho g1) (by rw [List.foldl_append]; exact g2) (by split <;> omega) (fun F hF R G' hk => ?_) (fun I hI2 R G' hk => ?_)
          · rw [mrow_mrow]
            exact h1 F hF R G' (q.tr hk)
          · rw [mrow_mrow]
            exact h2 I hI2 R G' (q.tr hk)
        · try simp only [dX7_text_0, dX7_text_1, dX7_text_2, dX7_text_5, dX7_text_6, dX7_text_7, dX7_text_10, dX7_text_11, dX7_text_12, dX7_text_15, dX7_text_16, dX7_text_17, dX7_text_20, dX7_text_21, dX7_text_22, dX7_text_25, dX7_text_26, dX7_text_29, dX7_text_30, dX7_text_33, dX7_text_34, dX7_text_37, dX7_text_40, dX7_text_41, dX7_text_44, dX7_text_45, dX7_text_48, dX7_text_49, dX7_text_52, dX7_text_53, dX7_text_56, dX7_text_57, dX7_text_59, dX7_text_62, dX7_text_63, dX7_text_64, dX7_text_67, dX7_text_68, dX7_text_71, dX7_text_74, dX7_text_75, dX7_text_76, dX7_text_79, dX7_text_82, dX7_text_83, dX7_text_86, dX7_text_87, dX7_text_90, dX7_text_91, dX7_text_92, dX7_text_95, dX7_text_96, dX7_text_99, dX7_text_102, dX7_text_103, dX7_text_104, dX7_text_107, dX7_text_108, dX7_text_109, dX7_text_110, dX7_text_111, dX7_text_112, dX7_text_113, dX7_text_114, dX7_text_115, dX7_text_118, dX7_text_121, dX7_text_122, dX7_text_123, dX7_text_124, dX7_text_125, dX7_text_126, dX7_text_129, dX7_text_132, dX7_text_133, dX7_text_136, dX7_text_137, dX7_text_138, dX7_text_139, dX7_text_142, dX7_text_145, dX7_text_146, cr_7_272, cr_7_275, cr_7_315, cr_7_318, fr_7_243, fr_7_246, fr_7_249, fr_7_258, fr_7_268, fr_7_279, fr_7_292, fr_7_31, fr_7_9, al_10, al_11, al_12, al_13, al_14, al_16, al_17, al_18, al_19, al_2, al_20, al_21, al_23, al_24, al_27, al_28, al_29, al_3, al_30, al_31, al_32, al_34, al_36, al_37, al_38, al_39, al_4, al_40, al_41, al_42, al_43, al_45, al_46, al_47, al_48, al_49, al_5, al_52, al_53, al_54, al_55, al_56, al_57, al_58, al_6, al_60, al_61, al_62, al_63, al_64, al_65, al_66, al_67, al_69, al_7, al_70, al_71, al_72, al_73, al_9, cat_i, cat_l, cat_r, cat_u, gf_6_0_59, gf_6_11_59, gf_6_12_59, gf_6_13_59, gf_6_14_59, gf_6_15_59, gf_6_17_59, gf_6_20_59, gf_6_21_59, pcl_0, pcl_1, pcl_100, pcl_101, pcl_102, pcl_103, pcl_104, pcl_105, pcl_106, pcl_107, pcl_108, pcl_109, pcl_110, pcl_111, pcl_112, pcl_15, pcl_22, pcl_25, pcl_26, pcl_33, pcl_44, pcl_50, pcl_59, pcl_8, pft_6_12, pft_6_13, pft_6_14, pft_6_15, pft_6_17, pft_6_20, pft_6_21, rOK_i, rOK_z, v_aload_0, v_bipush_59, v_getfield, v_goto, v_iadd, v_iaload, v_ic_ge, v_ic_ne, v_iconst_0, v_iconst_1, v_iconst_3, v_iconst_m1, v_if_eq, v_if_ge, v_if_ne, v_iinc_2, v_iload_1, v_iload_2, v_imul, v_invv, v_ireturn, v_istore_1, v_istore_2, v_isub, v_putfield, vcV_1_6, vcV_2_6, vgf_i, vgf_r, vgf_s, vpf_s, vc_d, rr_0, rr_1, csT_h, csT_t, csT_n, bI_0, bI_1, bI_z, bT, List.mem_cons, List.not_mem_nil, List.length_cons, List.length_nil, ite_not, ↓reduceIte, true_and, and_true, not_true_eq_false, not_false_eq_true, false_or, or_false, or_true, true_or, Nat.reduceAdd, Nat.reduceEqDiff, Nat.reduceBEq, Nat.reduceLeDiff, Nat.reduceLT, Nat.reduceSub, Int.reduceAdd, Int.reduceLE, Int.reduceLT, Int.reduceToNat, Int.reduceNeg, Int.reduceNatCast', reduceCtorEq, Int32.reduceOfInt, Int32.reduceOfNat, Int32.reduceToNatClampNeg, Int32.reduceToInt, i10, i01, nEM]
          rw [hp] at h1
          dsimp only at h1
          refine goV (n := 80) [] [33, 74] T_nil ?_
          simp only [dX7_text_0, dX7_text_1, dX7_text_2, dX7_text_5, dX7_text_6, dX7_text_7, dX7_text_10, dX7_text_11, dX7_text_12, dX7_text_15, dX7_text_16, dX7_text_17, dX7_text_20, dX7_text_21, dX7_text_22, dX7_text_25, dX7_text_26, dX7_text_29, dX7_text_30, dX7_text_33, dX7_text_34, dX7_text_37, dX7_text_40, dX7_text_41, dX7_text_44, dX7_text_45, dX7_text_48, dX7_text_49, dX7_text_52, dX7_text_53, dX7_text_56, dX7_text_57, dX7_text_59, dX7_text_62, dX7_text_63, dX7_text_64, dX7_text_67, dX7_text_68, dX7_text_71, dX7_text_74, dX7_text_75, dX7_text_76, dX7_text_79, dX7_text_82, dX7_text_83, dX7_text_86, dX7_text_87, dX7_text_90, dX7_text_91, dX7_text_92, dX7_text_95, dX7_text_96, dX7_text_99, dX7_text_102, dX7_text_103, dX7_text_104, dX7_text_107, dX7_text_108, dX7_text_109, dX7_text_110, dX7_text_111, dX7_text_112, dX7_text_113, dX7_text_114, dX7_text_115, dX7_text_118, dX7_text_121, dX7_text_122, dX7_text_123, dX7_text_124, dX7_text_125, dX7_text_126, dX7_text_129, dX7_text_132, dX7_text_133, dX7_text_136, dX7_text_137, dX7_text_138, dX7_text_139, dX7_text_142, dX7_text_145, dX7_text_146, cr_7_272, cr_7_275, cr_7_315, cr_7_318, fr_7_243, fr_7_246, fr_7_249, fr_7_258, fr_7_268, fr_7_279, fr_7_292, fr_7_31, fr_7_9, al_10, al_11, al_12, al_13, al_14, al_16, al_17, al_18, al_19, al_2, al_20, al_21, al_23, al_24, al_27, al_28, al_29, al_3, al_30, al_31, al_32, al_34, al_36, al_37, al_38, al_39, al_4, al_40, al_41, al_42, al_43, al_45, al_46, al_47, al_48, al_49, al_5, al_52, al_53, al_54, al_55, al_56, al_57, al_58, al_6, al_60, al_61, al_62, al_63, al_64, al_65, al_66, al_67, al_69, al_7, al_70, al_71, al_72, al_73, al_9, cat_i, cat_l, cat_r, cat_u, gf_6_0_59, gf_6_11_59, gf_6_12_59, gf_6_13_59, gf_6_14_59, gf_6_15_59, gf_6_17_59, gf_6_20_59, gf_6_21_59, pcl_0, pcl_1, pcl_100, pcl_101, pcl_102, pcl_103, pcl_104, pcl_105, pcl_106, pcl_107, pcl_108, pcl_109, pcl_110, pcl_111, pcl_112, pcl_15, pcl_22, pcl_25, pcl_26, pcl_33, pcl_44, pcl_50, pcl_59, pcl_8, pft_6_12, pft_6_13, pft_6_14, pft_6_15, pft_6_17, pft_6_20, pft_6_21, rOK_i, rOK_z, v_aload_0, v_bipush_59, v_getfield, v_goto, v_iadd, v_iaload, v_ic_ge, v_ic_ne, v_iconst_0, v_iconst_1, v_iconst_3, v_iconst_m1, v_if_eq, v_if_ge, v_if_ne, v_iinc_2, v_iload_1, v_iload_2, v_imul, v_invv, v_ireturn, v_istore_1, v_istore_2, v_isub, v_putfield, vcV_1_6, vcV_2_6, vgf_i, vgf_r, vgf_s, vpf_s, vc_d, rr_0, rr_1, csT_h, csT_t, csT_n, bI_0, bI_1, bI_z, bT, List.mem_cons, List.not_mem_nil, List.length_cons, List.length_nil, ite_not, ↓reduceIte, true_and, and_true, not_true_eq_false, not_false_eq_true, false_or, or_false, or_true, true_or, Nat.reduceAdd, Nat.reduceEqDiff, Nat.reduceBEq, Nat.reduceLeDiff, Nat.reduceLT, Nat.reduceSub, Int.reduceAdd, Int.reduceLE, Int.reduceLT, Int.reduceToNat, Int.reduceNeg, Int.reduceNatCast', reduceCtorEq, Int32.reduceOfInt, Int32.reduceOfNat, Int32.reduceToNatClampNeg, Int32.reduceToInt, i10, i01, nEM, mrow_s, hW2.1]
          refine lp_wrong (by omega) hW2 (fun G' hk => ?_)
          refine h1 F rfl R G' (fun j hj => ?_)
          rw [hk.q j hj]
          by_cases z : j = 12
          · rw [z, upd_s, upd_s]
          · rw [un z, hk2 j hj, hk1.q j hj, un z]
      · unfold pCt at h1
        dsimp only at h1
        rw [if_neg hs] at h1
        have hbad : ∀ x : Int32, x = 0 → CallP d 205 [.ref 59, .int x] (mrow B 59 G) (fun _ M' => if M' 59 17 = 0 then WP (7, yX7_text, cX7_text, 3, (some .int)) (d + 1) k 113 [.ref 59, .int 0, .int 0] [] (mset M' 59 12 0) else k (.int (-1 - M' 59 13)) (mset M' 59 12 0)) := by
          intro x hx
          refine big_mustF (by omega) (Or.inl hx) (Or.inr ⟨a3, hx⟩) ?_
          rw [mrow_s, upd_s, if_neg (by decide), upd_n (by decide), h13]
          have := h1 _ rfl (B 69) (upd (upd G 17 1) 12 0) (fun j hj => by
            by_cases z : j = 12
            · rw [z, upd_s, upd_s]
            · rw [un z, un (by omega), un z])
          rw [mrow_self] at this
          unfold mset
          rw [mrow_s, mrow_mrow]
          exact this
        have h0 : (ms s = 0) = False := eq_false ms0
        refine goV (n := 80) [] [33, 113] T_nil ?_
        by_cases hm3 : ms s = 3
        · have e59 : ¬ B 67 b = 59 := fun z => by
            apply hs
            rw [← hst, z]
            decide
          simp only [dX7_text_0, dX7_text_1, dX7_text_2, dX7_text_5, dX7_text_6, dX7_text_7, dX7_text_10, dX7_text_11, dX7_text_12, dX7_text_15, dX7_text_16, dX7_text_17, dX7_text_20, dX7_text_21, dX7_text_22, dX7_text_25, dX7_text_26, dX7_text_29, dX7_text_30, dX7_text_33, dX7_text_34, dX7_text_37, dX7_text_40, dX7_text_41, dX7_text_44, dX7_text_45, dX7_text_48, dX7_text_49, dX7_text_52, dX7_text_53, dX7_text_56, dX7_text_57, dX7_text_59, dX7_text_62, dX7_text_63, dX7_text_64, dX7_text_67, dX7_text_68, dX7_text_71, dX7_text_74, dX7_text_75, dX7_text_76, dX7_text_79, dX7_text_82, dX7_text_83, dX7_text_86, dX7_text_87, dX7_text_90, dX7_text_91, dX7_text_92, dX7_text_95, dX7_text_96, dX7_text_99, dX7_text_102, dX7_text_103, dX7_text_104, dX7_text_107, dX7_text_108, dX7_text_109, dX7_text_110, dX7_text_111, dX7_text_112, dX7_text_113, dX7_text_114, dX7_text_115, dX7_text_118, dX7_text_121, dX7_text_122, dX7_text_123, dX7_text_124, dX7_text_125, dX7_text_126, dX7_text_129, dX7_text_132, dX7_text_133, dX7_text_136, dX7_text_137, dX7_text_138, dX7_text_139, dX7_text_142, dX7_text_145, dX7_text_146, cr_7_272, cr_7_275, cr_7_315, cr_7_318, fr_7_243, fr_7_246, fr_7_249, fr_7_258, fr_7_268, fr_7_279, fr_7_292, fr_7_31, fr_7_9, al_10, al_11, al_12, al_13, al_14, al_16, al_17, al_18, al_19, al_2, al_20, al_21, al_23, al_24, al_27, al_28, al_29, al_3, al_30, al_31, al_32, al_34, al_36, al_37, al_38, al_39, al_4, al_40, al_41, al_42, al_43, al_45, al_46, al_47, al_48, al_49, al_5, al_52, al_53, al_54, al_55, al_56, al_57, al_58, al_6, al_60, al_61, al_62, al_63, al_64, al_65, al_66, al_67, al_69, al_7, al_70, al_71, al_72, al_73, al_9, cat_i, cat_l, cat_r, cat_u, gf_6_0_59, gf_6_11_59, gf_6_12_59, gf_6_13_59, gf_6_14_59, gf_6_15_59, gf_6_17_59, gf_6_20_59, gf_6_21_59, pcl_0, pcl_1, pcl_100, pcl_101, pcl_102, pcl_103, pcl_104, pcl_105, pcl_106, pcl_107, pcl_108, pcl_109, pcl_110, pcl_111, pcl_112, pcl_15, pcl_22, pcl_25, pcl_26, pcl_33, pcl_44, pcl_50, pcl_59, pcl_8, pft_6_12, pft_6_13, pft_6_14, pft_6_15, pft_6_17, pft_6_20, pft_6_21, rOK_i, rOK_z, v_aload_0, v_bipush_59, v_getfield, v_goto, v_iadd, v_iaload, v_ic_ge, v_ic_ne, v_iconst_0, v_iconst_1, v_iconst_3, v_iconst_m1, v_if_eq, v_if_ge, v_if_ne, v_iinc_2, v_iload_1, v_iload_2, v_imul, v_invv, v_ireturn, v_istore_1, v_istore_2, v_isub, v_putfield, vcV_1_6, vcV_2_6, vgf_i, vgf_r, vgf_s, vpf_s, vc_d, rr_0, rr_1, csT_h, csT_t, csT_n, bI_0, bI_1, bI_z, bT, List.mem_cons, List.not_mem_nil, List.length_cons, List.length_nil, ite_not, ↓reduceIte, true_and, and_true, not_true_eq_false, not_false_eq_true, false_or, or_false, or_true, true_or, Nat.reduceAdd, Nat.reduceEqDiff, Nat.reduceBEq, Nat.reduceLeDiff, Nat.reduceLT, Nat.reduceSub, Int.reduceAdd, Int.reduceLE, Int.reduceLT, Int.reduceToNat, Int.reduceNeg, Int.reduceNatCast', reduceCtorEq, Int32.reduceOfInt, Int32.reduceOfNat, Int32.reduceToNatClampNeg, Int32.reduceToInt, i10, i01, nEM, mrow_s, mrow_n, a3, h15, hm3, h13, cb, ct, e59, mset_s, upd_n, show ((3 : Int32) = 0) = False from by decide]
          exact ⟨by omega, hbad 0 rfl⟩
        · simp only [dX7_text_0, dX7_text_1, dX7_text_2, dX7_text_5, dX7_text_6, dX7_text_7, dX7_text_10, dX7_text_11, dX7_text_12, dX7_text_15, dX7_text_16, dX7_text_17, dX7_text_20, dX7_text_21, dX7_text_22, dX7_text_25, dX7_text_26, dX7_text_29, dX7_text_30, dX7_text_33, dX7_text_34, dX7_text_37, dX7_text_40, dX7_text_41, dX7_text_44, dX7_text_45, dX7_text_48, dX7_text_49, dX7_text_52, dX7_text_53, dX7_text_56, dX7_text_57, dX7_text_59, dX7_text_62, dX7_text_63, dX7_text_64, dX7_text_67, dX7_text_68, dX7_text_71, dX7_text_74, dX7_text_75, dX7_text_76, dX7_text_79, dX7_text_82, dX7_text_83, dX7_text_86, dX7_text_87, dX7_text_90, dX7_text_91, dX7_text_92, dX7_text_95, dX7_text_96, dX7_text_99, dX7_text_102, dX7_text_103, dX7_text_104, dX7_text_107, dX7_text_108, dX7_text_109, dX7_text_110, dX7_text_111, dX7_text_112, dX7_text_113, dX7_text_114, dX7_text_115, dX7_text_118, dX7_text_121, dX7_text_122, dX7_text_123, dX7_text_124, dX7_text_125, dX7_text_126, dX7_text_129, dX7_text_132, dX7_text_133, dX7_text_136, dX7_text_137, dX7_text_138, dX7_text_139, dX7_text_142, dX7_text_145, dX7_text_146, cr_7_272, cr_7_275, cr_7_315, cr_7_318, fr_7_243, fr_7_246, fr_7_249, fr_7_258, fr_7_268, fr_7_279, fr_7_292, fr_7_31, fr_7_9, al_10, al_11, al_12, al_13, al_14, al_16, al_17, al_18, al_19, al_2, al_20, al_21, al_23, al_24, al_27, al_28, al_29, al_3, al_30, al_31, al_32, al_34, al_36, al_37, al_38, al_39, al_4, al_40, al_41, al_42, al_43, al_45, al_46, al_47, al_48, al_49, al_5, al_52, al_53, al_54, al_55, al_56, al_57, al_58, al_6, al_60, al_61, al_62, al_63, al_64, al_65, al_66, al_67, al_69, al_7, al_70, al_71, al_72, al_73, al_9, cat_i, cat_l, cat_r, cat_u, gf_6_0_59, gf_6_11_59, gf_6_12_59, gf_6_13_59, gf_6_14_59, gf_6_15_59, gf_6_17_59, gf_6_20_59, gf_6_21_59, pcl_0, pcl_1, pcl_100, pcl_101, pcl_102, pcl_103, pcl_104, pcl_105, pcl_106, pcl_107, pcl_108, pcl_109, pcl_110, pcl_111, pcl_112, pcl_15, pcl_22, pcl_25, pcl_26, pcl_33, pcl_44, pcl_50, pcl_59, pcl_8, pft_6_12, pft_6_13, pft_6_14, pft_6_15, pft_6_17, pft_6_20, pft_6_21, rOK_i, rOK_z, v_aload_0, v_bipush_59, v_getfield, v_goto, v_iadd, v_iaload, v_ic_ge, v_ic_ne, v_iconst_0, v_iconst_1, v_iconst_3, v_iconst_m1, v_if_eq, v_if_ge, v_if_ne, v_iinc_2, v_iload_1, v_iload_2, v_imul, v_invv, v_ireturn, v_istore_1, v_istore_2, v_isub, v_putfield, vcV_1_6, vcV_2_6, vgf_i, vgf_r, vgf_s, vpf_s, vc_d, rr_0, rr_1, csT_h, csT_t, csT_n, bI_0, bI_1, bI_z, bT, List.mem_cons, List.not_mem_nil, List.length_cons, List.length_nil, ite_not, ↓reduceIte, true_and, and_true, not_true_eq_false, not_false_eq_true, false_or, or_false, or_true, true_or, Nat.reduceAdd, Nat.reduceEqDiff, Nat.reduceBEq, Nat.reduceLeDiff, Nat.reduceLT, Nat.reduceSub, Int.reduceAdd, Int.reduceLE, Int.reduceLT, Int.reduceToNat, Int.reduceNeg, Int.reduceNatCast', reduceCtorEq, Int32.reduceOfInt, Int32.reduceOfNat, Int32.reduceToNatClampNeg, Int32.reduceToInt, i10, i01, nEM, mrow_s, mrow_n, a3, h15, hm3, h0, mset_s, upd_n]
          exact hbad 0 rfl
theorem sc_len {f : Nat → Int32} : ∀ (n i : Nat), (scT f n i none).length ≤ n ∧ ∀ o, (scT f n i (some o)).length ≤ n + 1 := by
  intro n
  induction n with
  | zero => intro i; exact ⟨Nat.le_refl _, fun o => Nat.le_refl _⟩
  | succ n ih =>
    intro i
    have a := ih (i + 1)
    have hnone : (scT f (n + 1) i none).length ≤ n + 1 := by
      rw [scT]
      split
      · have := a.1; omega
      · split
        · exact a.2 _
        · show (scT f n (i + 1) none).length + 1 ≤ _
          have := a.1; omega
    refine ⟨hnone, fun o => ?_⟩
    obtain ⟨c, s, v⟩ := o
    by_cases h : stO (f i) = c
    · rw [sc_go h]
      have := a.2 (c, s, if c = 2 then vN v (f i) else v)
      omega
    · rw [sc_close (Or.inr h)]
      show (scT f (n + 1) i none).length + 1 ≤ _
      omega
/-- the model's text -/
def txM (M : Mem) (N : Nat) : Sum (List Tok) (List It) := pTx (M 67) 121 (scT (M 67) N 0 none) (M 60 1).toNatClampNeg []
set_option maxRecDepth 100000 in
set_option maxHeartbeats 4000000 in
theorem call_text {d : Nat} (hd : 7 ≤ d) {M : Mem} {k : Value → Mem → Prop} {N wt : Nat} (hN : N ≤ 120) (h12 : M 59 12 = nI N) (hb : ∀ i, i < N → ¬ M 67 i < 0) (hw : wt ≤ 6) (hwt : M 60 1 = nI wt) (hr : RV (M 60))
    (h1 : ∀ F, txM M N = .inl F → ∀ R G', G' 12 = 0 → (∀ j, j < 12 ∨ (17 < j ∧ j ≠ 20 ∧ j ≠ 21) → G' j = M 59 j) → k (.int (-1 - nI (posL N F))) (mrow (mrow M 69 R) 59 G'))
    (h2 : ∀ I, txM M N = .inr I → ∀ R G', G' 12 = 0 → (∀ j, j < 12 ∨ (17 < j ∧ j ≠ 20 ∧ j ≠ 21) → G' j = M 59 j) → k (.int (nI I.length)) (mrow (mrow (mrow M 69 R) 59 G') 60 (I.foldl app (M 60)))) : CallP d 212 [.ref 59] M k := by
  obtain ⟨d, rfl⟩ : ∃ d', d = d' + 1 := ⟨d - 1, by omega⟩
  unfold txM at h1 h2
  rw [hwt, nI_clamp (by omega), pTx_s] at h1 h2
  refine enterV (n := 80) [] [33] mI_212 (by decide) (Nat.le_of_ble_eq_true rfl) T_nil ?_
  rw [show lent 3 ([.ref 59] : List Value) = [.ref 59, .retAddr 0, .retAddr 0] from rfl]
  simp only [dX7_text_0, dX7_text_1, dX7_text_2, dX7_text_5, dX7_text_6, dX7_text_7, dX7_text_10, dX7_text_11, dX7_text_12, dX7_text_15, dX7_text_16, dX7_text_17, dX7_text_20, dX7_text_21, dX7_text_22, dX7_text_25, dX7_text_26, dX7_text_29, dX7_text_30, dX7_text_33, dX7_text_34, dX7_text_37, dX7_text_40, dX7_text_41, dX7_text_44, dX7_text_45, dX7_text_48, dX7_text_49, dX7_text_52, dX7_text_53, dX7_text_56, dX7_text_57, dX7_text_59, dX7_text_62, dX7_text_63, dX7_text_64, dX7_text_67, dX7_text_68, dX7_text_71, dX7_text_74, dX7_text_75, dX7_text_76, dX7_text_79, dX7_text_82, dX7_text_83, dX7_text_86, dX7_text_87, dX7_text_90, dX7_text_91, dX7_text_92, dX7_text_95, dX7_text_96, dX7_text_99, dX7_text_102, dX7_text_103, dX7_text_104, dX7_text_107, dX7_text_108, dX7_text_109, dX7_text_110, dX7_text_111, dX7_text_112, dX7_text_113, dX7_text_114, dX7_text_115, dX7_text_118, dX7_text_121, dX7_text_122, dX7_text_123, dX7_text_124, dX7_text_125, dX7_text_126, dX7_text_129, dX7_text_132, dX7_text_133, dX7_text_136, dX7_text_137, dX7_text_138, dX7_text_139, dX7_text_142, dX7_text_145, dX7_text_146, cr_7_272, cr_7_275, cr_7_315, cr_7_318, fr_7_243, fr_7_246, fr_7_249, fr_7_258, fr_7_268, fr_7_279, fr_7_292, fr_7_31, fr_7_9, al_10, al_11, al_12, al_13, al_14, al_16, al_17, al_18, al_19, al_2, al_20, al_21, al_23, al_24, al_27, al_28, al_29, al_3, al_30, al_31, al_32, al_34, al_36, al_37, al_38, al_39, al_4, al_40, al_41, al_42, al_43, al_45, al_46, al_47, al_48, al_49, al_5, al_52, al_53, al_54, al_55, al_56, al_57, al_58, al_6, al_60, al_61, al_62, al_63, al_64, al_65, al_66, al_67, al_69, al_7, al_70, al_71, al_72, al_73, al_9, cat_i, cat_l, cat_r, cat_u, gf_6_0_59, gf_6_11_59, gf_6_12_59, gf_6_13_59, gf_6_14_59, gf_6_15_59, gf_6_17_59, gf_6_20_59, gf_6_21_59, pcl_0, pcl_1, pcl_100, pcl_101, pcl_102, pcl_103, pcl_104, pcl_105, pcl_106, pcl_107, pcl_108, pcl_109, pcl_110, pcl_111, pcl_112, pcl_15, pcl_22, pcl_25, pcl_26, pcl_33, pcl_44, pcl_50, pcl_59, pcl_8, pft_6_12, pft_6_13, pft_6_14, pft_6_15, pft_6_17, pft_6_20, pft_6_21, rOK_i, rOK_z, v_aload_0, v_bipush_59, v_getfield, v_goto, v_iadd, v_iaload, v_ic_ge, v_ic_ne, v_iconst_0, v_iconst_1, v_iconst_3, v_iconst_m1, v_if_eq, v_if_ge, v_if_ne, v_iinc_2, v_iload_1, v_iload_2, v_imul, v_invv, v_ireturn, v_istore_1, v_istore_2, v_isub, v_putfield, vcV_1_6, vcV_2_6, vgf_i, vgf_r, vgf_s, vpf_s, vc_d, rr_0, rr_1, csT_h, csT_t, csT_n, bI_0, bI_1, bI_z, bT, List.mem_cons, List.not_mem_nil, List.length_cons, List.length_nil, ite_not, ↓reduceIte, true_and, and_true, not_true_eq_false, not_false_eq_true, false_or, or_false, or_true, true_or, Nat.reduceAdd, Nat.reduceEqDiff, Nat.reduceBEq, Nat.reduceLeDiff, Nat.reduceLT, Nat.reduceSub, Int.reduceAdd, Int.reduceLE, Int.reduceLT, Int.reduceToNat, Int.reduceNeg, Int.reduceNatCast', reduceCtorEq, Int32.reduceOfInt, Int32.reduceOfNat, Int32.reduceToNatClampNeg, Int32.reduceToInt, i10, i01, nEM, mset, mrow_s, mrow_n, mrow_mrow, hwt]
  have G0 : ∀ j, j < 12 ∨ (17 < j ∧ j ≠ 20 ∧ j ≠ 21) → upd (upd (upd (upd (M 59) 14 0) 17 0) 20 0) 21 (nI wt) j = M 59 j := fun j hj => by
    rw [un (by omega), un (by omega), un (by omega), un (by omega)]
  refine call_next (e := 0) (by omega) hN ?_ ?_ (Nat.zero_le _) (by rw [mrow_n (by decide)]; exact hb) (fun G hT hk => ?_)
  · rw [mrow_s, upd_n (by decide), upd_n (by decide), upd_n (by decide), upd_n (by decide)]
    exact h12
  · rw [mrow_s, upd_n (by decide), upd_n (by decide), upd_n (by decide), upd_s]
    rfl
  · rw [mrow_n (by decide), Nat.sub_zero] at hT
    rw [mrow_mrow]
    have hk' : ∀ j, j ≠ 13 → j ≠ 14 → j ≠ 15 → j ≠ 16 → G j = upd (upd (upd (upd (M 59) 14 0) 17 0) 20 0) 21 (nI wt) j := fun j a b c e => by
      rw [hk j a b c e, mrow_s]
    have g12 : G 12 = nI N := by
      rw [hk' 12 (by decide) (by decide) (by decide) (by decide), upd_n (by decide), upd_n (by decide), upd_n (by decide), upd_n (by decide)]
      exact h12
    have g17 : G 17 = 0 := by rw [hk' 17 (by decide) (by decide) (by decide) (by decide), upd_n (by decide), upd_n (by decide), upd_s]
    have g20 : G 20 = nI 0 := by rw [hk' 20 (by decide) (by decide) (by decide) (by decide), upd_n (by decide), upd_s]; rfl
    have g21 : G 21 = nI wt := by rw [hk' 21 (by decide) (by decide) (by decide) (by decide), upd_s]
    have gj : ∀ j, j < 12 ∨ (17 < j ∧ j ≠ 20 ∧ j ≠ 21) → G j = M 59 j := fun j hj => by
      rw [hk' j (by omega) (by omega) (by omega) (by omega)]
      exact G0 j hj
    have hS : SG (M 67) N G (scT (M 67) N 0 none) := ⟨hN, g12, g17, hb, hT⟩
    have hlen := (sc_len (f := M 67) N 0).1
    have fin : ∀ (G2 G' : Nat → Int32), KQ G G2 → KQ (upd G2 12 0) G' → G' 12 = 0 ∧ (∀ j, j < 12 ∨ (17 < j ∧ j ≠ 20 ∧ j ≠ 21) → G' j = M 59 j) := by
      intro G2 G' q1 q2
      refine ⟨by rw [q2 12 (by decide), upd_s], fun j hj => ?_⟩
      rw [q2 j (by omega), un (by omega), q1 j (by omega)]
      exact gj j hj
    refine call_readItem (by omega) (c := 0) (by decide) (by omega) g20 g21 hS (fun x a b L2 hp G2 hS2 w20 w21 hk2 => ?_) (fun F hp R G2 hW2 hk2 => ?_)
    · try simp only [dX7_text_0, dX7_text_1, dX7_text_2, dX7_text_5, dX7_text_6, dX7_text_7, dX7_text_10, dX7_text_11, dX7_text_12, dX7_text_15, dX7_text_16, dX7_text_17, dX7_text_20, dX7_text_21, dX7_text_22, dX7_text_25, dX7_text_26, dX7_text_29, dX7_text_30, dX7_text_33, dX7_text_34, dX7_text_37, dX7_text_40, dX7_text_41, dX7_text_44, dX7_text_45, dX7_text_48, dX7_text_49, dX7_text_52, dX7_text_53, dX7_text_56, dX7_text_57, dX7_text_59, dX7_text_62, dX7_text_63, dX7_text_64, dX7_text_67, dX7_text_68, dX7_text_71, dX7_text_74, dX7_text_75, dX7_text_76, dX7_text_79, dX7_text_82, dX7_text_83, dX7_text_86, dX7_text_87, dX7_text_90, dX7_text_91, dX7_text_92, dX7_text_95, dX7_text_96, dX7_text_99, dX7_text_102, dX7_text_103, dX7_text_104, dX7_text_107, dX7_text_108, dX7_text_109, dX7_text_110, dX7_text_111, dX7_text_112, dX7_text_113, dX7_text_114, dX7_text_115, dX7_text_118, dX7_text_121, dX7_text_122, dX7_text_123, dX7_text_124, dX7_text_125, dX7_text_126, dX7_text_129, dX7_text_132, dX7_text_133, dX7_text_136, dX7_text_137, dX7_text_138, dX7_text_139, dX7_text_142, dX7_text_145, dX7_text_146, cr_7_272, cr_7_275, cr_7_315, cr_7_318, fr_7_243, fr_7_246, fr_7_249, fr_7_258, fr_7_268, fr_7_279, fr_7_292, fr_7_31, fr_7_9, al_10, al_11, al_12, al_13, al_14, al_16, al_17, al_18, al_19, al_2, al_20, al_21, al_23, al_24, al_27, al_28, al_29, al_3, al_30, al_31, al_32, al_34, al_36, al_37, al_38, al_39, al_4, al_40, al_41, al_42, al_43, al_45, al_46, al_47, al_48, al_49, al_5, al_52, al_53, al_54, al_55, al_56, al_57, al_58, al_6, al_60, al_61, al_62, al_63, al_64, al_65, al_66, al_67, al_69, al_7, al_70, al_71, al_72, al_73, al_9, cat_i, cat_l, cat_r, cat_u, gf_6_0_59, gf_6_11_59, gf_6_12_59, gf_6_13_59, gf_6_14_59, gf_6_15_59, gf_6_17_59, gf_6_20_59, gf_6_21_59, pcl_0, pcl_1, pcl_100, pcl_101, pcl_102, pcl_103, pcl_104, pcl_105, pcl_106, pcl_107, pcl_108, pcl_109, pcl_110, pcl_111, pcl_112, pcl_15, pcl_22, pcl_25, pcl_26, pcl_33, pcl_44, pcl_50, pcl_59, pcl_8, pft_6_12, pft_6_13, pft_6_14, pft_6_15, pft_6_17, pft_6_20, pft_6_21, rOK_i, rOK_z, v_aload_0, v_bipush_59, v_getfield, v_goto, v_iadd, v_iaload, v_ic_ge, v_ic_ne, v_iconst_0, v_iconst_1, v_iconst_3, v_iconst_m1, v_if_eq, v_if_ge, v_if_ne, v_iinc_2, v_iload_1, v_iload_2, v_imul, v_invv, v_ireturn, v_istore_1, v_istore_2, v_isub, v_putfield, vcV_1_6, vcV_2_6, vgf_i, vgf_r, vgf_s, vpf_s, vc_d, rr_0, rr_1, csT_h, csT_t, csT_n, bI_0, bI_1, bI_z, bT, List.mem_cons, List.not_mem_nil, List.length_cons, List.length_nil, ite_not, ↓reduceIte, true_and, and_true, not_true_eq_false, not_false_eq_true, false_or, or_false, or_true, true_or, Nat.reduceAdd, Nat.reduceEqDiff, Nat.reduceBEq, Nat.reduceLeDiff, Nat.reduceLT, Nat.reduceSub, Int.reduceAdd, Int.reduceLE, Int.reduceLT, Int.reduceToNat, Int.reduceNeg, Int.reduceNatCast', reduceCtorEq, Int32.reduceOfInt, Int32.reduceOfNat, Int32.reduceToNatClampNeg, Int32.reduceToInt, i10, i01, nEM]
      rw [hp] at h1 h2
      dsimp only at h1 h2
      obtain ⟨p1, p2, p3⟩ := pIt_ok hwt hp
      refine lp_loop (by omega) (f := M 67) (r := M 60) hr 120 L2 _ ([] ++ [(x, a, b)]) (mrow M 69 (itR (M 69) 0 x a b)) G2 (by omega) (by show 2 * 1 + _ ≤ _; omega) (by split <;> omega) (mrow_n (by decide)) (mrow_n (by decide)) hS2 (by show G2 20 = nI 1; exact w20) w21 (by rw [mrow_s]; exact IR.add (l := []) (fun i hi => absurd hi (Nat.not_lt_zero _))) (okL_app [] (M 60) (x, a, b) trivial p1) p2 (by split <;> omega) (fun F hF R G' hq => ?_) (fun I hI R G' hq => ?_)
      · rw [mrow_mrow]
        obtain ⟨z1, z2⟩ := fin G2 G' hk2 hq
        exact h1 F hF R G' z1 z2
      · rw [mrow_mrow]
        obtain ⟨z1, z2⟩ := fin G2 G' hk2 hq
        exact h2 I hI R G' z1 z2
    · try simp only [dX7_text_0, dX7_text_1, dX7_text_2, dX7_text_5, dX7_text_6, dX7_text_7, dX7_text_10, dX7_text_11, dX7_text_12, dX7_text_15, dX7_text_16, dX7_text_17, dX7_text_20, dX7_text_21, dX7_text_22, dX7_text_25, dX7_text_26, dX7_text_29, dX7_text_30, dX7_text_33, dX7_text_34, dX7_text_37, dX7_text_40, dX7_text_41, dX7_text_44, dX7_text_45, dX7_text_48, dX7_text_49, dX7_text_52, dX7_text_53, dX7_text_56, dX7_text_57, dX7_text_59, dX7_text_62, dX7_text_63, dX7_text_64, dX7_text_67, dX7_text_68, dX7_text_71, dX7_text_74, dX7_text_75, dX7_text_76, dX7_text_79, dX7_text_82, dX7_text_83, dX7_text_86, dX7_text_87, dX7_text_90, dX7_text_91, dX7_text_92, dX7_text_95, dX7_text_96, dX7_text_99, dX7_text_102, dX7_text_103, dX7_text_104, dX7_text_107, dX7_text_108, dX7_text_109, dX7_text_110, dX7_text_111, dX7_text_112, dX7_text_113, dX7_text_114, dX7_text_115, dX7_text_118, dX7_text_121, dX7_text_122, dX7_text_123, dX7_text_124, dX7_text_125, dX7_text_126, dX7_text_129, dX7_text_132, dX7_text_133, dX7_text_136, dX7_text_137, dX7_text_138, dX7_text_139, dX7_text_142, dX7_text_145, dX7_text_146, cr_7_272, cr_7_275, cr_7_315, cr_7_318, fr_7_243, fr_7_246, fr_7_249, fr_7_258, fr_7_268, fr_7_279, fr_7_292, fr_7_31, fr_7_9, al_10, al_11, al_12, al_13, al_14, al_16, al_17, al_18, al_19, al_2, al_20, al_21, al_23, al_24, al_27, al_28, al_29, al_3, al_30, al_31, al_32, al_34, al_36, al_37, al_38, al_39, al_4, al_40, al_41, al_42, al_43, al_45, al_46, al_47, al_48, al_49, al_5, al_52, al_53, al_54, al_55, al_56, al_57, al_58, al_6, al_60, al_61, al_62, al_63, al_64, al_65, al_66, al_67, al_69, al_7, al_70, al_71, al_72, al_73, al_9, cat_i, cat_l, cat_r, cat_u, gf_6_0_59, gf_6_11_59, gf_6_12_59, gf_6_13_59, gf_6_14_59, gf_6_15_59, gf_6_17_59, gf_6_20_59, gf_6_21_59, pcl_0, pcl_1, pcl_100, pcl_101, pcl_102, pcl_103, pcl_104, pcl_105, pcl_106, pcl_107, pcl_108, pcl_109, pcl_110, pcl_111, pcl_112, pcl_15, pcl_22, pcl_25, pcl_26, pcl_33, pcl_44, pcl_50, pcl_59, pcl_8, pft_6_12, pft_6_13, pft_6_14, pft_6_15, pft_6_17, pft_6_20, pft_6_21, rOK_i, rOK_z, v_aload_0, v_bipush_59, v_getfield, v_goto, v_iadd, v_iaload, v_ic_ge, v_ic_ne, v_iconst_0, v_iconst_1, v_iconst_3, v_iconst_m1, v_if_eq, v_if_ge, v_if_ne, v_iinc_2, v_iload_1, v_iload_2, v_imul, v_invv, v_ireturn, v_istore_1, v_istore_2, v_isub, v_putfield, vcV_1_6, vcV_2_6, vgf_i, vgf_r, vgf_s, vpf_s, vc_d, rr_0, rr_1, csT_h, csT_t, csT_n, bI_0, bI_1, bI_z, bT, List.mem_cons, List.not_mem_nil, List.length_cons, List.length_nil, ite_not, ↓reduceIte, true_and, and_true, not_true_eq_false, not_false_eq_true, false_or, or_false, or_true, true_or, Nat.reduceAdd, Nat.reduceEqDiff, Nat.reduceBEq, Nat.reduceLeDiff, Nat.reduceLT, Nat.reduceSub, Int.reduceAdd, Int.reduceLE, Int.reduceLT, Int.reduceToNat, Int.reduceNeg, Int.reduceNatCast', reduceCtorEq, Int32.reduceOfInt, Int32.reduceOfNat, Int32.reduceToNatClampNeg, Int32.reduceToInt, i10, i01, nEM]
      rw [hp] at h1
      dsimp only at h1
      refine goV (n := 80) [] [33, 74] T_nil ?_
      simp only [dX7_text_0, dX7_text_1, dX7_text_2, dX7_text_5, dX7_text_6, dX7_text_7, dX7_text_10, dX7_text_11, dX7_text_12, dX7_text_15, dX7_text_16, dX7_text_17, dX7_text_20, dX7_text_21, dX7_text_22, dX7_text_25, dX7_text_26, dX7_text_29, dX7_text_30, dX7_text_33, dX7_text_34, dX7_text_37, dX7_text_40, dX7_text_41, dX7_text_44, dX7_text_45, dX7_text_48, dX7_text_49, dX7_text_52, dX7_text_53, dX7_text_56, dX7_text_57, dX7_text_59, dX7_text_62, dX7_text_63, dX7_text_64, dX7_text_67, dX7_text_68, dX7_text_71, dX7_text_74, dX7_text_75, dX7_text_76, dX7_text_79, dX7_text_82, dX7_text_83, dX7_text_86, dX7_text_87, dX7_text_90, dX7_text_91, dX7_text_92, dX7_text_95, dX7_text_96, dX7_text_99, dX7_text_102, dX7_text_103, dX7_text_104, dX7_text_107, dX7_text_108, dX7_text_109, dX7_text_110, dX7_text_111, dX7_text_112, dX7_text_113, dX7_text_114, dX7_text_115, dX7_text_118, dX7_text_121, dX7_text_122, dX7_text_123, dX7_text_124, dX7_text_125, dX7_text_126, dX7_text_129, dX7_text_132, dX7_text_133, dX7_text_136, dX7_text_137, dX7_text_138, dX7_text_139, dX7_text_142, dX7_text_145, dX7_text_146, cr_7_272, cr_7_275, cr_7_315, cr_7_318, fr_7_243, fr_7_246, fr_7_249, fr_7_258, fr_7_268, fr_7_279, fr_7_292, fr_7_31, fr_7_9, al_10, al_11, al_12, al_13, al_14, al_16, al_17, al_18, al_19, al_2, al_20, al_21, al_23, al_24, al_27, al_28, al_29, al_3, al_30, al_31, al_32, al_34, al_36, al_37, al_38, al_39, al_4, al_40, al_41, al_42, al_43, al_45, al_46, al_47, al_48, al_49, al_5, al_52, al_53, al_54, al_55, al_56, al_57, al_58, al_6, al_60, al_61, al_62, al_63, al_64, al_65, al_66, al_67, al_69, al_7, al_70, al_71, al_72, al_73, al_9, cat_i, cat_l, cat_r, cat_u, gf_6_0_59, gf_6_11_59, gf_6_12_59, gf_6_13_59, gf_6_14_59, gf_6_15_59, gf_6_17_59, gf_6_20_59, gf_6_21_59, pcl_0, pcl_1, pcl_100, pcl_101, pcl_102, pcl_103, pcl_104, pcl_105, pcl_106, pcl_107, pcl_108, pcl_109, pcl_110, pcl_111, pcl_112, pcl_15, pcl_22, pcl_25, pcl_26, pcl_33, pcl_44, pcl_50, pcl_59, pcl_8, pft_6_12, pft_6_13, pft_6_14, pft_6_15, pft_6_17, pft_6_20, pft_6_21, rOK_i, rOK_z, v_aload_0, v_bipush_59, v_getfield, v_goto, v_iadd, v_iaload, v_ic_ge, v_ic_ne, v_iconst_0, v_iconst_1, v_iconst_3, v_iconst_m1, v_if_eq, v_if_ge, v_if_ne, v_iinc_2, v_iload_1, v_iload_2, v_imul, v_invv, v_ireturn, v_istore_1, v_istore_2, v_isub, v_putfield, vcV_1_6, vcV_2_6, vgf_i, vgf_r, vgf_s, vpf_s, vc_d, rr_0, rr_1, csT_h, csT_t, csT_n, bI_0, bI_1, bI_z, bT, List.mem_cons, List.not_mem_nil, List.length_cons, List.length_nil, ite_not, ↓reduceIte, true_and, and_true, not_true_eq_false, not_false_eq_true, false_or, or_false, or_true, true_or, Nat.reduceAdd, Nat.reduceEqDiff, Nat.reduceBEq, Nat.reduceLeDiff, Nat.reduceLT, Nat.reduceSub, Int.reduceAdd, Int.reduceLE, Int.reduceLT, Int.reduceToNat, Int.reduceNeg, Int.reduceNatCast', reduceCtorEq, Int32.reduceOfInt, Int32.reduceOfNat, Int32.reduceToNatClampNeg, Int32.reduceToInt, i10, i01, nEM, mrow_s, hW2.1]
      refine lp_wrong (by omega) hW2 (fun G' hq => ?_)
      obtain ⟨z1, z2⟩ := fin G2 G' hk2 hq.q
      exact h1 F rfl R G' z1 z2
