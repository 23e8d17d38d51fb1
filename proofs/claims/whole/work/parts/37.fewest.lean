/-! X: fewest, greatest -/
def mnL (f : Nat → Option Nat) : Nat → Nat → Nat → Nat
  | 0, _, l => l
  | n + 1, i, l => if l = 0 then 0 else mnL f n (i + 1) (match f i with
    | some x => if x < l then x else l
    | none => l)
def fvF (X : XF) : Nat → Nat → (Nat → Int32) → Nat
  | 0, _, _ => 0
  | n + 1, left, r => if left = 0 then 0 else mnL (fun w => if left.testBit w = true then some ((if (X w r).1 < 12 then 1 else 0) + fvF X n (clr left w) (X w r).2.2) else none) 6 0 6
theorem mnL_le {f : Nat → Option Nat} : ∀ (n i l : Nat), mnL f n i l ≤ l := by
  intro n
  induction n with
  | zero => intro i l; exact Nat.le_refl _
  | succ n ih =>
    intro i l
    rw [mnL]
    split
    · exact Nat.zero_le _
    · refine Nat.le_trans (ih _ _) ?_
      split
      · split <;> omega
      · exact Nat.le_refl _
theorem fv_le {X : XF} : ∀ (n left : Nat) (r : Nat → Int32), fvF X n left r ≤ 6 := by
  intro n left r
  cases n with
  | zero => exact Nat.zero_le _
  | succ n =>
    rw [fvF]
    split
    · exact Nat.zero_le _
    · exact mnL_le _ _ _
theorem mnL_congr {f g : Nat → Option Nat} (h : ∀ w, w < 6 → f w = g w) : ∀ (n i l : Nat), i + n ≤ 6 → mnL f n i l = mnL g n i l := by
  intro n
  induction n with
  | zero => intro i l _; rfl
  | succ n ih =>
    intro i l hi
    rw [mnL, mnL, h i (by omega)]
    split
    · rfl
    · exact ih (i + 1) _ (by omega)
theorem fvF_congr {X : XF} (hX : XC X) : ∀ (n left : Nat) (r s : Nat → Int32), (∀ j, j < 12 → r j = s j) → fvF X n left r = fvF X n left s := by
  intro n
  induction n with
  | zero => intro left r s _; rfl
  | succ n ih =>
    intro left r s h
    rw [fvF, fvF]
    split
    · rfl
    · refine mnL_congr (fun w _ => ?_) 6 0 6 (by decide)
      have hx := hX w r s h
      rw [hx.1, ih (clr left w) _ _ hx.2]
set_option maxRecDepth 100000 in
set_option maxHeartbeats 4000000 in
theorem lp_fewest : ∀ (n t : Nat), t + n = 6 → ∀ (d : Nat), 4 + n ≤ d → ∀ (N : Mem) (k : Value → Mem → Prop) (left q : Nat), q ≤ 6 → N 26 6 = nI q → left < 2 ^ q → (∀ N', QJ t N N' → k (.int (nI (fvF (QX N) n left (N (36 + t))))) N') → CallP d 24 [.ref 25, .int (nI left), .int (nI t)] N k := by
  intro n
  induction n with
  | zero =>
    intro t ht d hd N k left q hq hn hl h
    have e6 : t = 6 := by omega
    subst e6
    obtain ⟨d, rfl⟩ : ∃ d', d = d' + 1 := ⟨d - 1, by omega⟩
    refine enterV (n := 80) [] [18] mI_24 (by decide) (Nat.le_of_ble_eq_true rfl) T_nil ?_
    rw [show lent 6 ([.ref 25, .int (nI left), .int (nI 6)] : List Value) = [.ref 25, .int (nI left), .int (nI 6), .retAddr 0, .retAddr 0, .retAddr 0] from rfl]
    simp only [dX2_fewestFalls_0, dX2_fewestFalls_1, dX2_fewestFalls_4, dX2_fewestFalls_5, dX2_fewestFalls_7, dX2_fewestFalls_10, dX2_fewestFalls_11, dX2_fewestFalls_12, dX2_fewestFalls_14, dX2_fewestFalls_15, dX2_fewestFalls_16, dX2_fewestFalls_18, dX2_fewestFalls_20, dX2_fewestFalls_22, dX2_fewestFalls_25, dX2_fewestFalls_26, dX2_fewestFalls_29, dX2_fewestFalls_30, dX2_fewestFalls_32, dX2_fewestFalls_35, dX2_fewestFalls_38, dX2_fewestFalls_39, dX2_fewestFalls_41, dX2_fewestFalls_42, dX2_fewestFalls_45, dX2_fewestFalls_48, dX2_fewestFalls_49, dX2_fewestFalls_52, dX2_fewestFalls_53, dX2_fewestFalls_55, dX2_fewestFalls_56, dX2_fewestFalls_58, dX2_fewestFalls_59, dX2_fewestFalls_60, dX2_fewestFalls_61, dX2_fewestFalls_63, dX2_fewestFalls_64, dX2_fewestFalls_65, dX2_fewestFalls_66, dX2_fewestFalls_67, dX2_fewestFalls_68, dX2_fewestFalls_69, dX2_fewestFalls_70, dX2_fewestFalls_73, dX2_fewestFalls_74, dX2_fewestFalls_77, dX2_fewestFalls_78, dX2_fewestFalls_81, dX2_fewestFalls_84, dX2_fewestFalls_85, cr_2_46, cr_2_72, cr_2_75, cr_2_78, al_10, al_11, al_12, al_13, al_14, al_16, al_17, al_18, al_19, al_2, al_20, al_21, al_23, al_24, al_27, al_28, al_29, al_3, al_30, al_31, al_32, al_34, al_36, al_37, al_38, al_39, al_4, al_40, al_41, al_42, al_43, al_45, al_46, al_47, al_48, al_49, al_5, al_52, al_53, al_54, al_55, al_56, al_57, al_58, al_6, al_60, al_61, al_62, al_63, al_64, al_65, al_66, al_67, al_69, al_7, al_70, al_71, al_72, al_73, al_9, cat_i, cat_l, cat_r, cat_u, pcl_0, pcl_1, pcl_100, pcl_101, pcl_102, pcl_103, pcl_104, pcl_105, pcl_106, pcl_107, pcl_108, pcl_109, pcl_110, pcl_111, pcl_112, pcl_15, pcl_22, pcl_25, pcl_26, pcl_33, pcl_44, pcl_50, pcl_59, pcl_8, rOK_i, rOK_z, v_aload_0, v_bipush_6, v_goto, v_iadd, v_iand, v_ic_ge, v_ic_lt, v_iconst_0, v_iconst_1, v_iconst_m1, v_if_eq, v_if_le, v_iinc_4, v_iload_1, v_iload_2, v_iload_3, v_iload_4, v_iload_5, v_invs, v_invv, v_ireturn, v_ishl, v_istore_3, v_istore_4, v_istore_5, v_ixor, vcS_2_2, vcS_min, vcV_3_1, vc_d, rr_0, rr_1, csT_h, csT_t, csT_n, bI_0, bI_1, bI_z, bT, List.mem_cons, List.not_mem_nil, List.length_cons, List.length_nil, ite_not, ↓reduceIte, true_and, and_true, not_true_eq_false, not_false_eq_true, false_or, or_false, or_true, true_or, Nat.reduceAdd, Nat.reduceEqDiff, Nat.reduceBEq, Nat.reduceLeDiff, Nat.reduceLT, Nat.reduceSub, Int.reduceAdd, Int.reduceLE, Int.reduceLT, Int.reduceToNat, Int.reduceNeg, Int.reduceNatCast', reduceCtorEq, Int32.reduceOfInt, Int32.reduceOfNat, Int32.reduceToNatClampNeg, Int32.reduceToInt, i10, i01, show (nI 6 < 6) = False from by decide]
    have := h N QJ.rf
    split <;> exact this
  | succ n ih =>
    intro t ht d hd N k left q hq hn hl h
    obtain ⟨d, rfl⟩ : ∃ d', d = d' + 1 := ⟨d - 1, by omega⟩
    have h64 := lt64 hq hl
    have clt : nI t < 6 := nI_lt (b := 6) (by omega) (by decide)
    have ct1 : ¬ nI t < 0 := nI_pos (by omega)
    have ct2 : ¬ (6 : Int32) ≤ nI t := nI_ge (b := 6) (by omega) (by decide)
    have ct3 : (nI t).toNatClampNeg = t := nI_clamp (by omega)
    have lp : ∀ (m i c : Nat) (x5 : Value) (N1 : Mem), i + m = 6 → c ≤ 6 → QJ t N N1 → (∀ N', QJ t N N' → k (.int (nI (mnL (fun w => if left.testBit w = true then some ((if (QX N w (N (36 + t))).1 < 12 then 1 else 0) + fvF (QX N) n (clr left w) (QX N w (N (36 + t))).2.2) else none) m i c))) N') → WP (2, yX2_fewestFalls, cX2_fewestFalls, 6, (some .int)) (d + 1) k 18 [.ref 25, .int (nI left), .int (nI t), .int (nI c), .int (nI i), x5] [] N1 := by
      intro m
      induction m with
      | zero =>
        intro i c x5 N1 hi hc6 hJ hk
        have e6 : i = 6 := by omega
        rw [e6]
        refine goV (n := 80) [] [18] T_nil ?_
        simp only [dX2_fewestFalls_0, dX2_fewestFalls_1, dX2_fewestFalls_4, dX2_fewestFalls_5, dX2_fewestFalls_7, dX2_fewestFalls_10, dX2_fewestFalls_11, dX2_fewestFalls_12, dX2_fewestFalls_14, dX2_fewestFalls_15, dX2_fewestFalls_16, dX2_fewestFalls_18, dX2_fewestFalls_20, dX2_fewestFalls_22, dX2_fewestFalls_25, dX2_fewestFalls_26, dX2_fewestFalls_29, dX2_fewestFalls_30, dX2_fewestFalls_32, dX2_fewestFalls_35, dX2_fewestFalls_38, dX2_fewestFalls_39, dX2_fewestFalls_41, dX2_fewestFalls_42, dX2_fewestFalls_45, dX2_fewestFalls_48, dX2_fewestFalls_49, dX2_fewestFalls_52, dX2_fewestFalls_53, dX2_fewestFalls_55, dX2_fewestFalls_56, dX2_fewestFalls_58, dX2_fewestFalls_59, dX2_fewestFalls_60, dX2_fewestFalls_61, dX2_fewestFalls_63, dX2_fewestFalls_64, dX2_fewestFalls_65, dX2_fewestFalls_66, dX2_fewestFalls_67, dX2_fewestFalls_68, dX2_fewestFalls_69, dX2_fewestFalls_70, dX2_fewestFalls_73, dX2_fewestFalls_74, dX2_fewestFalls_77, dX2_fewestFalls_78, dX2_fewestFalls_81, dX2_fewestFalls_84, dX2_fewestFalls_85, cr_2_46, cr_2_72, cr_2_75, cr_2_78, al_10, al_11, al_12, al_13, al_14, al_16, al_17, al_18, al_19, al_2, al_20, al_21, al_23, al_24, al_27, al_28, al_29, al_3, al_30, al_31, al_32, al_34, al_36, al_37, al_38, al_39, al_4, al_40, al_41, al_42, al_43, al_45, al_46, al_47, al_48, al_49, al_5, al_52, al_53, al_54, al_55, al_56, al_57, al_58, al_6, al_60, al_61, al_62, al_63, al_64, al_65, al_66, al_67, al_69, al_7, al_70, al_71, al_72, al_73, al_9, cat_i, cat_l, cat_r, cat_u, pcl_0, pcl_1, pcl_100, pcl_101, pcl_102, pcl_103, pcl_104, pcl_105, pcl_106, pcl_107, pcl_108, pcl_109, pcl_110, pcl_111, pcl_112, pcl_15, pcl_22, pcl_25, pcl_26, pcl_33, pcl_44, pcl_50, pcl_59, pcl_8, rOK_i, rOK_z, v_aload_0, v_bipush_6, v_goto, v_iadd, v_iand, v_ic_ge, v_ic_lt, v_iconst_0, v_iconst_1, v_iconst_m1, v_if_eq, v_if_le, v_iinc_4, v_iload_1, v_iload_2, v_iload_3, v_iload_4, v_iload_5, v_invs, v_invv, v_ireturn, v_ishl, v_istore_3, v_istore_4, v_istore_5, v_ixor, vcS_2_2, vcS_min, vcV_3_1, vc_d, rr_0, rr_1, csT_h, csT_t, csT_n, bI_0, bI_1, bI_z, bT, List.mem_cons, List.not_mem_nil, List.length_cons, List.length_nil, ite_not, ↓reduceIte, true_and, and_true, not_true_eq_false, not_false_eq_true, false_or, or_false, or_true, true_or, Nat.reduceAdd, Nat.reduceEqDiff, Nat.reduceBEq, Nat.reduceLeDiff, Nat.reduceLT, Nat.reduceSub, Int.reduceAdd, Int.reduceLE, Int.reduceLT, Int.reduceToNat, Int.reduceNeg, Int.reduceNatCast', reduceCtorEq, Int32.reduceOfInt, Int32.reduceOfNat, Int32.reduceToNatClampNeg, Int32.reduceToInt, i10, i01, show ((6 : Int32) ≤ nI 6) = True from by decide]
        have := hk N1 hJ
        rw [mnL] at this
        exact this
      | succ m ihm =>
        intro i c x5 N1 hi hc6 hJ hk
        have c1 : ¬ (6 : Int32) ≤ nI i := nI_ge (b := 6) (by omega) (by decide)
        have c3 : (nI i).toNatClampNeg = i := nI_clamp (by omega)
        have hn1 : N1 26 6 = nI q := by rw [hJ.n]; exact hn
        have hX1 : xq N1 i (N1 (36 + t)) = QX N i (N (36 + t)) := by
          rw [hJ.at (by omega)]
          exact congrFun (congrFun hJ.X i) (N (36 + t))
        rw [mnL] at hk
        by_cases hc0 : c = 0
        · subst hc0
          refine goV (n := 80) [] [18] T_nil ?_
          simp only [dX2_fewestFalls_0, dX2_fewestFalls_1, dX2_fewestFalls_4, dX2_fewestFalls_5, dX2_fewestFalls_7, dX2_fewestFalls_10, dX2_fewestFalls_11, dX2_fewestFalls_12, dX2_fewestFalls_14, dX2_fewestFalls_15, dX2_fewestFalls_16, dX2_fewestFalls_18, dX2_fewestFalls_20, dX2_fewestFalls_22, dX2_fewestFalls_25, dX2_fewestFalls_26, dX2_fewestFalls_29, dX2_fewestFalls_30, dX2_fewestFalls_32, dX2_fewestFalls_35, dX2_fewestFalls_38, dX2_fewestFalls_39, dX2_fewestFalls_41, dX2_fewestFalls_42, dX2_fewestFalls_45, dX2_fewestFalls_48, dX2_fewestFalls_49, dX2_fewestFalls_52, dX2_fewestFalls_53, dX2_fewestFalls_55, dX2_fewestFalls_56, dX2_fewestFalls_58, dX2_fewestFalls_59, dX2_fewestFalls_60, dX2_fewestFalls_61, dX2_fewestFalls_63, dX2_fewestFalls_64, dX2_fewestFalls_65, dX2_fewestFalls_66, dX2_fewestFalls_67, dX2_fewestFalls_68, dX2_fewestFalls_69, dX2_fewestFalls_70, dX2_fewestFalls_73, dX2_fewestFalls_74, dX2_fewestFalls_77, dX2_fewestFalls_78, dX2_fewestFalls_81, dX2_fewestFalls_84, dX2_fewestFalls_85, cr_2_46, cr_2_72, cr_2_75, cr_2_78, al_10, al_11, al_12, al_13, al_14, al_16, al_17, al_18, al_19, al_2, al_20, al_21, al_23, al_24, al_27, al_28, al_29, al_3, al_30, al_31, al_32, al_34, al_36, al_37, al_38, al_39, al_4, al_40, al_41, al_42, al_43, al_45, al_46, al_47, al_48, al_49, al_5, al_52, al_53, al_54, al_55, al_56, al_57, al_58, al_6, al_60, al_61, al_62, al_63, al_64, al_65, al_66, al_67, al_69, al_7, al_70, al_71, al_72, al_73, al_9, cat_i, cat_l, cat_r, cat_u, pcl_0, pcl_1, pcl_100, pcl_101, pcl_102, pcl_103, pcl_104, pcl_105, pcl_106, pcl_107, pcl_108, pcl_109, pcl_110, pcl_111, pcl_112, pcl_15, pcl_22, pcl_25, pcl_26, pcl_33, pcl_44, pcl_50, pcl_59, pcl_8, rOK_i, rOK_z, v_aload_0, v_bipush_6, v_goto, v_iadd, v_iand, v_ic_ge, v_ic_lt, v_iconst_0, v_iconst_1, v_iconst_m1, v_if_eq, v_if_le, v_iinc_4, v_iload_1, v_iload_2, v_iload_3, v_iload_4, v_iload_5, v_invs, v_invv, v_ireturn, v_ishl, v_istore_3, v_istore_4, v_istore_5, v_ixor, vcS_2_2, vcS_min, vcV_3_1, vc_d, rr_0, rr_1, csT_h, csT_t, csT_n, bI_0, bI_1, bI_z, bT, List.mem_cons, List.not_mem_nil, List.length_cons, List.length_nil, ite_not, ↓reduceIte, true_and, and_true, not_true_eq_false, not_false_eq_true, false_or, or_false, or_true, true_or, Nat.reduceAdd, Nat.reduceEqDiff, Nat.reduceBEq, Nat.reduceLeDiff, Nat.reduceLT, Nat.reduceSub, Int.reduceAdd, Int.reduceLE, Int.reduceLT, Int.reduceToNat, Int.reduceNeg, Int.reduceNatCast', reduceCtorEq, Int32.reduceOfInt, Int32.reduceOfNat, Int32.reduceToNatClampNeg, Int32.reduceToInt, i10, i01, c1, show (nI 0 ≤ 0) = True from by decide]
          have := hk N1 hJ
          rw [if_pos rfl] at this
          exact this
        · rw [if_neg hc0] at hk
          have c0 : ¬ nI c ≤ 0 := nI_nle (by omega) (by omega)
          refine goV (n := 80) [(109, pf_X6_isIn), (21, pf_X2_crosses)] [18] (T_cons (s_X6_isIn (by omega)) (T_cons (s_X2_crosses (by omega)) T_nil)) ?_
          simp only [dX2_fewestFalls_0, dX2_fewestFalls_1, dX2_fewestFalls_4, dX2_fewestFalls_5, dX2_fewestFalls_7, dX2_fewestFalls_10, dX2_fewestFalls_11, dX2_fewestFalls_12, dX2_fewestFalls_14, dX2_fewestFalls_15, dX2_fewestFalls_16, dX2_fewestFalls_18, dX2_fewestFalls_20, dX2_fewestFalls_22, dX2_fewestFalls_25, dX2_fewestFalls_26, dX2_fewestFalls_29, dX2_fewestFalls_30, dX2_fewestFalls_32, dX2_fewestFalls_35, dX2_fewestFalls_38, dX2_fewestFalls_39, dX2_fewestFalls_41, dX2_fewestFalls_42, dX2_fewestFalls_45, dX2_fewestFalls_48, dX2_fewestFalls_49, dX2_fewestFalls_52, dX2_fewestFalls_53, dX2_fewestFalls_55, dX2_fewestFalls_56, dX2_fewestFalls_58, dX2_fewestFalls_59, dX2_fewestFalls_60, dX2_fewestFalls_61, dX2_fewestFalls_63, dX2_fewestFalls_64, dX2_fewestFalls_65, dX2_fewestFalls_66, dX2_fewestFalls_67, dX2_fewestFalls_68, dX2_fewestFalls_69, dX2_fewestFalls_70, dX2_fewestFalls_73, dX2_fewestFalls_74, dX2_fewestFalls_77, dX2_fewestFalls_78, dX2_fewestFalls_81, dX2_fewestFalls_84, dX2_fewestFalls_85, cr_2_46, cr_2_72, cr_2_75, cr_2_78, al_10, al_11, al_12, al_13, al_14, al_16, al_17, al_18, al_19, al_2, al_20, al_21, al_23, al_24, al_27, al_28, al_29, al_3, al_30, al_31, al_32, al_34, al_36, al_37, al_38, al_39, al_4, al_40, al_41, al_42, al_43, al_45, al_46, al_47, al_48, al_49, al_5, al_52, al_53, al_54, al_55, al_56, al_57, al_58, al_6, al_60, al_61, al_62, al_63, al_64, al_65, al_66, al_67, al_69, al_7, al_70, al_71, al_72, al_73, al_9, cat_i, cat_l, cat_r, cat_u, pcl_0, pcl_1, pcl_100, pcl_101, pcl_102, pcl_103, pcl_104, pcl_105, pcl_106, pcl_107, pcl_108, pcl_109, pcl_110, pcl_111, pcl_112, pcl_15, pcl_22, pcl_25, pcl_26, pcl_33, pcl_44, pcl_50, pcl_59, pcl_8, rOK_i, rOK_z, v_aload_0, v_bipush_6, v_goto, v_iadd, v_iand, v_ic_ge, v_ic_lt, v_iconst_0, v_iconst_1, v_iconst_m1, v_if_eq, v_if_le, v_iinc_4, v_iload_1, v_iload_2, v_iload_3, v_iload_4, v_iload_5, v_invs, v_invv, v_ireturn, v_ishl, v_istore_3, v_istore_4, v_istore_5, v_ixor, vcS_2_2, vcS_min, vcV_3_1, vc_d, rr_0, rr_1, csT_h, csT_t, csT_n, bI_0, bI_1, bI_z, bT, List.mem_cons, List.not_mem_nil, List.length_cons, List.length_nil, ite_not, ↓reduceIte, true_and, and_true, not_true_eq_false, not_false_eq_true, false_or, or_false, or_true, true_or, Nat.reduceAdd, Nat.reduceEqDiff, Nat.reduceBEq, Nat.reduceLeDiff, Nat.reduceLT, Nat.reduceSub, Int.reduceAdd, Int.reduceLE, Int.reduceLT, Int.reduceToNat, Int.reduceNeg, Int.reduceNatCast', reduceCtorEq, Int32.reduceOfInt, Int32.reduceOfNat, Int32.reduceToNatClampNeg, Int32.reduceToInt, i10, i01, pe_X6_isIn, pe_X2_crosses, c0, c1, c3, ct1, ct2, ct3, nI_1, isin0 (show left < 2 ^ 31 by omega) (show i < 31 by omega), hX1, Classical.not_not]
          by_cases hb : left.testBit i = true
          · rw [if_neg (by rw [hb]; decide)]
            simp only [hb, if_true] at hk
            refine ⟨has26 hq hn1 (bit_lt hl hb), fun N2 h2 hr2 => ?_⟩
            have hJ2 : QJ t N N2 := hJ.tr (q_step (by omega) h2)
            simp only [clr_I left h64 i (by omega)]
            have e : fvF (QX N2) n (clr left i) (N2 (36 + (t + 1))) = fvF (QX N) n (clr left i) (QX N i (N (36 + t))).2.2 := by
              rw [hJ2.X]
              exact fvF_congr (QX_c N) n _ _ _ (fun j hj => by rw [show 36 + (t + 1) = 37 + t by omega]; exact hr2 j hj)
            have hf6 : fvF (QX N) n (clr left i) (QX N i (N (36 + t))).2.2 ≤ 6 := fv_le _ _ _
            generalize hv : fvF (QX N) n (clr left i) (QX N i (N (36 + t))).2.2 = v at hk e hf6
            have hif : ∀ o : Nat, o ≤ 1 → (if nI (o + v) < nI c then nI (o + v) else nI c) = nI (if o + v < c then o + v else c) := by
              intro o ho
              have hcmp : (nI (o + v) < nI c) = (o + v < c) := propext (nI_ltI (by omega) (by omega))
              by_cases z : o + v < c
              · rw [if_pos z, if_pos (by rw [hcmp]; exact z)]
              · rw [if_neg z, if_neg (by rw [hcmp]; exact z)]
            by_cases hc : (QX N i (N (36 + t))).1 < 12
            · rw [if_pos hc]
              simp only [hc, if_true] at hk
              refine ih (t + 1) (by omega) d (by omega) N2 _ (clr left i) q hq (by rw [hJ2.n]; exact hn) (Nat.lt_of_le_of_lt (clr_lt _ _) hl) (fun N3 h3 => ?_)
              rw [e]
              simp only [dX2_fewestFalls_0, dX2_fewestFalls_1, dX2_fewestFalls_4, dX2_fewestFalls_5, dX2_fewestFalls_7, dX2_fewestFalls_10, dX2_fewestFalls_11, dX2_fewestFalls_12, dX2_fewestFalls_14, dX2_fewestFalls_15, dX2_fewestFalls_16, dX2_fewestFalls_18, dX2_fewestFalls_20, dX2_fewestFalls_22, dX2_fewestFalls_25, dX2_fewestFalls_26, dX2_fewestFalls_29, dX2_fewestFalls_30, dX2_fewestFalls_32, dX2_fewestFalls_35, dX2_fewestFalls_38, dX2_fewestFalls_39, dX2_fewestFalls_41, dX2_fewestFalls_42, dX2_fewestFalls_45, dX2_fewestFalls_48, dX2_fewestFalls_49, dX2_fewestFalls_52, dX2_fewestFalls_53, dX2_fewestFalls_55, dX2_fewestFalls_56, dX2_fewestFalls_58, dX2_fewestFalls_59, dX2_fewestFalls_60, dX2_fewestFalls_61, dX2_fewestFalls_63, dX2_fewestFalls_64, dX2_fewestFalls_65, dX2_fewestFalls_66, dX2_fewestFalls_67, dX2_fewestFalls_68, dX2_fewestFalls_69, dX2_fewestFalls_70, dX2_fewestFalls_73, dX2_fewestFalls_74, dX2_fewestFalls_77, dX2_fewestFalls_78, dX2_fewestFalls_81, dX2_fewestFalls_84, dX2_fewestFalls_85, cr_2_46, cr_2_72, cr_2_75, cr_2_78, al_10, al_11, al_12, al_13, al_14, al_16, al_17, al_18, al_19, al_2, al_20, al_21, al_23, al_24, al_27, al_28, al_29, al_3, al_30, al_31, al_32, al_34, al_36, al_37, al_38, al_39, al_4, al_40, al_41, al_42, al_43, al_45, al_46, al_47, al_48, al_49, al_5, al_52, al_53, al_54, al_55, al_56, al_57, al_58, al_6, al_60, al_61, al_62, al_63, al_64, al_65, al_66, al_67, al_69, al_7, al_70, al_71, al_72, al_73, al_9, cat_i, cat_l, cat_r, cat_u, pcl_0, pcl_1, pcl_100, pcl_101, pcl_102, pcl_103, pcl_104, pcl_105, pcl_106, pcl_107, pcl_108, pcl_109, pcl_110, pcl_111, pcl_112, pcl_15, pcl_22, pcl_25, pcl_26, pcl_33, pcl_44, pcl_50, pcl_59, pcl_8, rOK_i, rOK_z, v_aload_0, v_bipush_6, v_goto, v_iadd, v_iand, v_ic_ge, v_ic_lt, v_iconst_0, v_iconst_1, v_iconst_m1, v_if_eq, v_if_le, v_iinc_4, v_iload_1, v_iload_2, v_iload_3, v_iload_4, v_iload_5, v_invs, v_invv, v_ireturn, v_ishl, v_istore_3, v_istore_4, v_istore_5, v_ixor, vcS_2_2, vcS_min, vcV_3_1, vc_d, rr_0, rr_1, csT_h, csT_t, csT_n, bI_0, bI_1, bI_z, bT, List.mem_cons, List.not_mem_nil, List.length_cons, List.length_nil, ite_not, ↓reduceIte, true_and, and_true, not_true_eq_false, not_false_eq_true, false_or, or_false, or_true, true_or, Nat.reduceAdd, Nat.reduceEqDiff, Nat.reduceBEq, Nat.reduceLeDiff, Nat.reduceLT, Nat.reduceSub, Int.reduceAdd, Int.reduceLE, Int.reduceLT, Int.reduceToNat, Int.reduceNeg, Int.reduceNatCast', reduceCtorEq, Int32.reduceOfInt, Int32.reduceOfNat, Int32.reduceToNatClampNeg, Int32.reduceToInt, i10, i01, nI_1]
              have e1 : (1 : Int32) + nI v = nI (1 + v) := nI_add 1 v
              rw [e1, hif 1 (by decide)]
              exact ihm (i + 1) _ _ N3 (by omega) (by split <;> omega) (hJ2.tr h3.up) hk
            · rw [if_neg hc]
              simp only [hc, if_false] at hk
              refine ih (t + 1) (by omega) d (by omega) N2 _ (clr left i) q hq (by rw [hJ2.n]; exact hn) (Nat.lt_of_le_of_lt (clr_lt _ _) hl) (fun N3 h3 => ?_)
              rw [e]
              simp only [dX2_fewestFalls_0, dX2_fewestFalls_1, dX2_fewestFalls_4, dX2_fewestFalls_5, dX2_fewestFalls_7, dX2_fewestFalls_10, dX2_fewestFalls_11, dX2_fewestFalls_12, dX2_fewestFalls_14, dX2_fewestFalls_15, dX2_fewestFalls_16, dX2_fewestFalls_18, dX2_fewestFalls_20, dX2_fewestFalls_22, dX2_fewestFalls_25, dX2_fewestFalls_26, dX2_fewestFalls_29, dX2_fewestFalls_30, dX2_fewestFalls_32, dX2_fewestFalls_35, dX2_fewestFalls_38, dX2_fewestFalls_39, dX2_fewestFalls_41, dX2_fewestFalls_42, dX2_fewestFalls_45, dX2_fewestFalls_48, dX2_fewestFalls_49, dX2_fewestFalls_52, dX2_fewestFalls_53, dX2_fewestFalls_55, dX2_fewestFalls_56, dX2_fewestFalls_58, dX2_fewestFalls_59, dX2_fewestFalls_60, dX2_fewestFalls_61, dX2_fewestFalls_63, dX2_fewestFalls_64, dX2_fewestFalls_65, dX2_fewestFalls_66, dX2_fewestFalls_67, dX2_fewestFalls_68, dX2_fewestFalls_69, dX2_fewestFalls_70, dX2_fewestFalls_73, dX2_fewestFalls_74, dX2_fewestFalls_77, dX2_fewestFalls_78, dX2_fewestFalls_81, dX2_fewestFalls_84, dX2_fewestFalls_85, cr_2_46, cr_2_72, cr_2_75, cr_2_78, al_10, al_11, al_12, al_13, al_14, al_16, al_17, al_18, al_19, al_2, al_20, al_21, al_23, al_24, al_27, al_28, al_29, al_3, al_30, al_31, al_32, al_34, al_36, al_37, al_38, al_39, al_4, al_40, al_41, al_42, al_43, al_45, al_46, al_47, al_48, al_49, al_5, al_52, al_53, al_54, al_55, al_56, al_57, al_58, al_6, al_60, al_61, al_62, al_63, al_64, al_65, al_66, al_67, al_69, al_7, al_70, al_71, al_72, al_73, al_9, cat_i, cat_l, cat_r, cat_u, pcl_0, pcl_1, pcl_100, pcl_101, pcl_102, pcl_103, pcl_104, pcl_105, pcl_106, pcl_107, pcl_108, pcl_109, pcl_110, pcl_111, pcl_112, pcl_15, pcl_22, pcl_25, pcl_26, pcl_33, pcl_44, pcl_50, pcl_59, pcl_8, rOK_i, rOK_z, v_aload_0, v_bipush_6, v_goto, v_iadd, v_iand, v_ic_ge, v_ic_lt, v_iconst_0, v_iconst_1, v_iconst_m1, v_if_eq, v_if_le, v_iinc_4, v_iload_1, v_iload_2, v_iload_3, v_iload_4, v_iload_5, v_invs, v_invv, v_ireturn, v_ishl, v_istore_3, v_istore_4, v_istore_5, v_ixor, vcS_2_2, vcS_min, vcV_3_1, vc_d, rr_0, rr_1, csT_h, csT_t, csT_n, bI_0, bI_1, bI_z, bT, List.mem_cons, List.not_mem_nil, List.length_cons, List.length_nil, ite_not, ↓reduceIte, true_and, and_true, not_true_eq_false, not_false_eq_true, false_or, or_false, or_true, true_or, Nat.reduceAdd, Nat.reduceEqDiff, Nat.reduceBEq, Nat.reduceLeDiff, Nat.reduceLT, Nat.reduceSub, Int.reduceAdd, Int.reduceLE, Int.reduceLT, Int.reduceToNat, Int.reduceNeg, Int.reduceNatCast', reduceCtorEq, Int32.reduceOfInt, Int32.reduceOfNat, Int32.reduceToNatClampNeg, Int32.reduceToInt, i10, i01, nI_1]
              have e1 : (0 : Int32) + nI v = nI (0 + v) := nI_add 0 v
              rw [e1, hif 0 (by decide)]
              exact ihm (i + 1) _ _ N3 (by omega) (by split <;> omega) (hJ2.tr h3.up) hk
          · rw [if_pos (by simpa using hb)]
            rw [show (if left.testBit i = true then some ((if (QX N i (N (36 + t))).1 < 12 then 1 else 0) + fvF (QX N) n (clr left i) (QX N i (N (36 + t))).2.2) else none) = none from if_neg hb] at hk
            exact ihm (i + 1) c _ N1 (by omega) hc6 hJ hk
    refine enterV (n := 80) [] [18] mI_24 (by decide) (Nat.le_of_ble_eq_true rfl) T_nil ?_
    rw [show lent 6 ([.ref 25, .int (nI left), .int (nI t)] : List Value) = [.ref 25, .int (nI left), .int (nI t), .retAddr 0, .retAddr 0, .retAddr 0] from rfl]
    simp only [dX2_fewestFalls_0, dX2_fewestFalls_1, dX2_fewestFalls_4, dX2_fewestFalls_5, dX2_fewestFalls_7, dX2_fewestFalls_10, dX2_fewestFalls_11, dX2_fewestFalls_12, dX2_fewestFalls_14, dX2_fewestFalls_15, dX2_fewestFalls_16, dX2_fewestFalls_18, dX2_fewestFalls_20, dX2_fewestFalls_22, dX2_fewestFalls_25, dX2_fewestFalls_26, dX2_fewestFalls_29, dX2_fewestFalls_30, dX2_fewestFalls_32, dX2_fewestFalls_35, dX2_fewestFalls_38, dX2_fewestFalls_39, dX2_fewestFalls_41, dX2_fewestFalls_42, dX2_fewestFalls_45, dX2_fewestFalls_48, dX2_fewestFalls_49, dX2_fewestFalls_52, dX2_fewestFalls_53, dX2_fewestFalls_55, dX2_fewestFalls_56, dX2_fewestFalls_58, dX2_fewestFalls_59, dX2_fewestFalls_60, dX2_fewestFalls_61, dX2_fewestFalls_63, dX2_fewestFalls_64, dX2_fewestFalls_65, dX2_fewestFalls_66, dX2_fewestFalls_67, dX2_fewestFalls_68, dX2_fewestFalls_69, dX2_fewestFalls_70, dX2_fewestFalls_73, dX2_fewestFalls_74, dX2_fewestFalls_77, dX2_fewestFalls_78, dX2_fewestFalls_81, dX2_fewestFalls_84, dX2_fewestFalls_85, cr_2_46, cr_2_72, cr_2_75, cr_2_78, al_10, al_11, al_12, al_13, al_14, al_16, al_17, al_18, al_19, al_2, al_20, al_21, al_23, al_24, al_27, al_28, al_29, al_3, al_30, al_31, al_32, al_34, al_36, al_37, al_38, al_39, al_4, al_40, al_41, al_42, al_43, al_45, al_46, al_47, al_48, al_49, al_5, al_52, al_53, al_54, al_55, al_56, al_57, al_58, al_6, al_60, al_61, al_62, al_63, al_64, al_65, al_66, al_67, al_69, al_7, al_70, al_71, al_72, al_73, al_9, cat_i, cat_l, cat_r, cat_u, pcl_0, pcl_1, pcl_100, pcl_101, pcl_102, pcl_103, pcl_104, pcl_105, pcl_106, pcl_107, pcl_108, pcl_109, pcl_110, pcl_111, pcl_112, pcl_15, pcl_22, pcl_25, pcl_26, pcl_33, pcl_44, pcl_50, pcl_59, pcl_8, rOK_i, rOK_z, v_aload_0, v_bipush_6, v_goto, v_iadd, v_iand, v_ic_ge, v_ic_lt, v_iconst_0, v_iconst_1, v_iconst_m1, v_if_eq, v_if_le, v_iinc_4, v_iload_1, v_iload_2, v_iload_3, v_iload_4, v_iload_5, v_invs, v_invv, v_ireturn, v_ishl, v_istore_3, v_istore_4, v_istore_5, v_ixor, vcS_2_2, vcS_min, vcV_3_1, vc_d, rr_0, rr_1, csT_h, csT_t, csT_n, bI_0, bI_1, bI_z, bT, List.mem_cons, List.not_mem_nil, List.length_cons, List.length_nil, ite_not, ↓reduceIte, true_and, and_true, not_true_eq_false, not_false_eq_true, false_or, or_false, or_true, true_or, Nat.reduceAdd, Nat.reduceEqDiff, Nat.reduceBEq, Nat.reduceLeDiff, Nat.reduceLT, Nat.reduceSub, Int.reduceAdd, Int.reduceLE, Int.reduceLT, Int.reduceToNat, Int.reduceNeg, Int.reduceNatCast', reduceCtorEq, Int32.reduceOfInt, Int32.reduceOfNat, Int32.reduceToNatClampNeg, Int32.reduceToInt, i10, i01, clt]
    rw [fvF] at h
    by_cases h0 : left = 0
    · subst h0
      rw [if_pos rfl] at h
      rw [if_pos (by decide)]
      exact h N QJ.rf
    · rw [if_neg h0] at h
      rw [if_neg (nI_ne0 (by omega) (by omega))]
      exact lp 6 0 6 _ N rfl (Nat.le_refl _) QJ.rf h
/-- the greater of two sets -/
def grF (a b : Nat) : Nat := if popc b < popc a ∨ (popc a = popc b ∧ a < b) then a else b
def pf_X2_greater : PF := fun args M k => match args with
  | [.int a, .int b] => (∃ x y, x < 64 ∧ y < 64 ∧ a = nI x ∧ b = nI y) ∧ (k (.int (nI (grF (a).toNatClampNeg (b).toNatClampNeg))) M)
  | _ => False
theorem pe_X2_greater {a : Int32} {b : Int32} {M : Mem} {k : Value → Mem → Prop} : pf_X2_greater [.int a, .int b] M k = ((∃ x y, x < 64 ∧ y < 64 ∧ a = nI x ∧ b = nI y) ∧ (k (.int (nI (grF (a).toNatClampNeg (b).toNatClampNeg))) M)) := rfl
set_option maxRecDepth 100000 in
set_option maxHeartbeats 4000000 in
theorem c_X2_greater {d : Nat} (hd : 2 ≤ d) {a : Int32} {b : Int32} {M : Mem} {k : Value → Mem → Prop} (h : (∃ x y, x < 64 ∧ y < 64 ∧ a = nI x ∧ b = nI y) ∧ (k (.int (nI (grF (a).toNatClampNeg (b).toNatClampNeg))) M)) : CallP d 26 [.int a, .int b] M k := by
  obtain ⟨hp, h⟩ := h
  obtain ⟨d, rfl⟩ : ∃ d', d = d' + 1 := ⟨d - 1, by omega⟩
  obtain ⟨x, y, hx, hy, rfl, rfl⟩ := hp
  rw [nI_clamp (by omega), nI_clamp (by omega)] at h
  refine enterV (n := 80) [(230, pf_J6_bitCount_0f7a4)] [] mI_26 (by decide) (Nat.le_of_ble_eq_true rfl) (T_cons (s_J6_bitCount_0f7a4 (by omega)) T_nil) ?_
  rw [show lent 3 ([.int (nI x), .int (nI y)] : List Value) = [.int (nI x), .int (nI y), .retAddr 0] from rfl]
  simp only [dX2_greater_0, dX2_greater_1, dX2_greater_4, dX2_greater_5, dX2_greater_8, dX2_greater_9, dX2_greater_10, dX2_greater_11, dX2_greater_14, dX2_greater_15, dX2_greater_18, dX2_greater_19, dX2_greater_20, dX2_greater_23, dX2_greater_24, dX2_greater_27, dX2_greater_28, cr_2_90, al_10, al_11, al_12, al_13, al_14, al_16, al_17, al_18, al_19, al_2, al_20, al_21, al_23, al_24, al_27, al_28, al_29, al_3, al_30, al_31, al_32, al_34, al_36, al_37, al_38, al_39, al_4, al_40, al_41, al_42, al_43, al_45, al_46, al_47, al_48, al_49, al_5, al_52, al_53, al_54, al_55, al_56, al_57, al_58, al_6, al_60, al_61, al_62, al_63, al_64, al_65, al_66, al_67, al_69, al_7, al_70, al_71, al_72, al_73, al_9, cat_i, cat_l, cat_r, cat_u, rOK_i, rOK_z, v_goto, v_ic_ge, v_if_gt, v_if_ne, v_iload_0, v_iload_1, v_iload_2, v_invs, v_ireturn, v_istore_2, v_isub, vcS_1_1, vc_d, rr_0, rr_1, csT_h, csT_t, csT_n, bI_0, bI_1, bI_z, bT, List.mem_cons, List.not_mem_nil, List.length_cons, List.length_nil, ite_not, ↓reduceIte, true_and, and_true, not_true_eq_false, not_false_eq_true, false_or, or_false, or_true, true_or, Nat.reduceAdd, Nat.reduceEqDiff, Nat.reduceBEq, Nat.reduceLeDiff, Nat.reduceLT, Nat.reduceSub, Int.reduceAdd, Int.reduceLE, Int.reduceLT, Int.reduceToNat, Int.reduceNeg, Int.reduceNatCast', reduceCtorEq, Int32.reduceOfInt, Int32.reduceOfNat, Int32.reduceToNatClampNeg, Int32.reduceToInt, i10, i01, pe_J6_bitCount_0f7a4, bc_popc x (by omega), bc_popc y (by omega)]
  have px := popc_le x
  have py := popc_le y
  have t1 := pk_sub_toInt (a := popc x) (b := popc y) (by omega) (by omega)
  have p1 : (0 < nI (popc x) - nI (popc y)) = (popc y < popc x) := by
    rw [Int32.lt_iff_toInt_lt, Int32.toInt_zero, t1]
    exact propext ⟨fun z => by omega, fun z => by omega⟩
  have p2 : (nI (popc x) - nI (popc y) = 0) = (popc x = popc y) := by
    refine propext ⟨fun z => ?_, fun z => ?_⟩
    · rw [z, Int32.toInt_zero] at t1
      omega
    · rw [z, pk_sub (Nat.le_refl _), Nat.sub_self]
      rfl
  have p3 : (nI y ≤ nI x) = (y ≤ x) := propext (nI_leI (by omega) (by omega))
  unfold grF at h
  by_cases h1 : popc y < popc x
  · rw [if_pos (Or.inl h1)] at h
    rw [if_pos (by rw [p1]; exact h1)]
    exact h
  · rw [if_neg (by rw [p1]; exact h1)]
    by_cases h2 : popc x = popc y
    · rw [if_pos (by rw [p2]; exact h2)]
      by_cases h3 : y ≤ x
      · rw [if_neg (fun z => z.elim h1 (fun z => by omega))] at h
        rw [if_pos (by rw [p3]; exact h3)]
        exact h
      · rw [if_pos (Or.inr ⟨h2, by omega⟩)] at h
        rw [if_neg (by rw [p3]; exact h3)]
        exact h
    · rw [if_neg (fun z => z.elim h1 (fun z => h2 z.1))] at h
      rw [if_neg (by rw [p2]; exact h2)]
      exact h
theorem s_X2_greater {d : Nat} (hd : 2 ≤ d) : Snd d 26 pf_X2_greater := by
  intro args M k h
  unfold pf_X2_greater at h
  split at h
  · exact c_X2_greater hd h
  · exact h.elim
