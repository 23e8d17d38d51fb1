/-! X: the reader's items -/
theorem lkM_o {M : Mem} {t : Int32} {p : Nat} (h : p ≠ 44) : lkM M t p = M p := by
  unfold lkM mset
  rw [mrow_n (bq h), mrow_n (bq h), mrow_n (bq h)]
/-- the next token is looked at -/
def nx (M : Mem) : Mem := lkM M (M 44 7 + 1)
theorem nx_o {M : Mem} {p : Nat} (h : p ≠ 44) : nx M p = M p := lkM_o h
theorem nx_e {M : Mem} : lkM M (M 44 7 + 1) = nx M := rfl
abbrev numN (M : Mem) (w : Int32) : Prop := M 44 8 = 2 ∧ ¬ M 44 9 < 0 ∧ ¬ w < M 44 9
def rpP (M : Mem) : Int32 × Mem := if numN (nx M) 11 then (if numN (nx (nx M)) 99 then (1, nx (mset (nx (nx M)) 16 (nx M 44 9).toNatClampNeg (nx (nx M) 44 9))) else (0, nx (nx M))) else (0, nx M)
def pf_X3_readPlank : PF := fun args M k => match args with
  | [.ref o, .ref b] => (o = 44 ∧ b = 15) ∧ (k (.int (rpP M).1) (rpP M).2)
  | _ => False
theorem pe_X3_readPlank {o : Nat} {b : Nat} {M : Mem} {k : Value → Mem → Prop} : pf_X3_readPlank [.ref o, .ref b] M k = ((o = 44 ∧ b = 15) ∧ (k (.int (rpP M).1) (rpP M).2)) := rfl
set_option maxRecDepth 100000 in
set_option maxHeartbeats 4000000 in
theorem c_X3_readPlank {d : Nat} (hd : 2 ≤ d) {o : Nat} {b : Nat} {M : Mem} {k : Value → Mem → Prop} (h : (o = 44 ∧ b = 15) ∧ (k (.int (rpP M).1) (rpP M).2)) : CallP d 34 [.ref o, .ref b] M k := by
  obtain ⟨hp, h⟩ := h
  obtain ⟨d, rfl⟩ : ∃ d', d = d' + 1 := ⟨d - 1, by omega⟩
  obtain ⟨rfl, rfl⟩ := hp
  unfold rpP at h
  refine enterV (n := 80) [(31, pf_X3_look), (37, pf_X3_isNumber)] [] mI_34 (by decide) (Nat.le_of_ble_eq_true rfl) (T_cons (s_X3_look (by omega)) (T_cons (s_X3_isNumber (by omega)) T_nil)) ?_
  rw [show lent 3 ([.ref 44, .ref 15] : List Value) = [.ref 44, .ref 15, .retAddr 0] from rfl]
  by_cases h1 : numN (nx M) 11
  · rw [if_pos h1] at h
    by_cases h2 : numN (nx (nx M)) 99
    · rw [if_pos h2] at h
      simp only [dX3_readPlank_0, dX3_readPlank_1, dX3_readPlank_2, dX3_readPlank_5, dX3_readPlank_6, dX3_readPlank_7, dX3_readPlank_10, dX3_readPlank_11, dX3_readPlank_13, dX3_readPlank_16, dX3_readPlank_19, dX3_readPlank_20, dX3_readPlank_21, dX3_readPlank_22, dX3_readPlank_25, dX3_readPlank_26, dX3_readPlank_27, dX3_readPlank_28, dX3_readPlank_31, dX3_readPlank_32, dX3_readPlank_33, dX3_readPlank_36, dX3_readPlank_37, dX3_readPlank_39, dX3_readPlank_42, dX3_readPlank_45, dX3_readPlank_46, dX3_readPlank_47, dX3_readPlank_48, dX3_readPlank_51, dX3_readPlank_52, dX3_readPlank_53, dX3_readPlank_56, dX3_readPlank_57, dX3_readPlank_58, dX3_readPlank_59, dX3_readPlank_62, dX3_readPlank_63, dX3_readPlank_64, dX3_readPlank_67, dX3_readPlank_68, cr_3_49, cr_3_86, fr_3_34, fr_3_40, fr_3_93, al_10, al_11, al_12, al_13, al_14, al_16, al_17, al_18, al_19, al_2, al_20, al_21, al_23, al_24, al_27, al_28, al_29, al_3, al_30, al_31, al_32, al_34, al_36, al_37, al_38, al_39, al_4, al_40, al_41, al_42, al_43, al_45, al_46, al_47, al_48, al_49, al_5, al_52, al_53, al_54, al_55, al_56, al_57, al_58, al_6, al_60, al_61, al_62, al_63, al_64, al_65, al_66, al_67, al_69, al_7, al_70, al_71, al_72, al_73, al_9, cat_i, cat_l, cat_r, cat_u, gf_0_0_1, gf_0_0_15, gf_0_0_26, gf_0_0_8, gf_2_7_44, gf_2_9_44, pcl_0, pcl_1, pcl_100, pcl_101, pcl_102, pcl_103, pcl_104, pcl_105, pcl_106, pcl_107, pcl_108, pcl_109, pcl_110, pcl_111, pcl_112, pcl_15, pcl_22, pcl_25, pcl_26, pcl_33, pcl_44, pcl_50, pcl_59, pcl_8, pft_2_7, pft_2_9, rOK_i, rOK_z, v_aload_0, v_aload_1, v_bipush_11, v_bipush_99, v_getfield, v_iadd, v_iastore, v_iconst_0, v_iconst_1, v_if_ne, v_iload_2, v_invv, v_ireturn, v_istore_2, vcV_2_2, vgf_i, vgf_r, vgf_s, vc_d, rr_0, rr_1, csT_h, csT_t, csT_n, bI_0, bI_1, bI_z, bT, List.mem_cons, List.not_mem_nil, List.length_cons, List.length_nil, ite_not, ↓reduceIte, true_and, and_true, not_true_eq_false, not_false_eq_true, false_or, or_false, or_true, true_or, Nat.reduceAdd, Nat.reduceEqDiff, Nat.reduceBEq, Nat.reduceLeDiff, Nat.reduceLT, Nat.reduceSub, Int.reduceAdd, Int.reduceLE, Int.reduceLT, Int.reduceToNat, Int.reduceNeg, Int.reduceNatCast', reduceCtorEq, Int32.reduceOfInt, Int32.reduceOfNat, Int32.reduceToNatClampNeg, Int32.reduceToInt, i10, i01, pe_X3_look, pe_X3_isNumber, nx_e, h1, h2]
      exact ⟨bd (N := 12) h1.2.1 (fun z => h1.2.2 (by
        rw [Int32.le_iff_toInt_le] at z
        rw [Int32.lt_iff_toInt_lt]
        simp only [Int32.reduceToInt] at z ⊢
        omega)) rfl, h⟩
    · rw [if_neg h2] at h
      simp only [dX3_readPlank_0, dX3_readPlank_1, dX3_readPlank_2, dX3_readPlank_5, dX3_readPlank_6, dX3_readPlank_7, dX3_readPlank_10, dX3_readPlank_11, dX3_readPlank_13, dX3_readPlank_16, dX3_readPlank_19, dX3_readPlank_20, dX3_readPlank_21, dX3_readPlank_22, dX3_readPlank_25, dX3_readPlank_26, dX3_readPlank_27, dX3_readPlank_28, dX3_readPlank_31, dX3_readPlank_32, dX3_readPlank_33, dX3_readPlank_36, dX3_readPlank_37, dX3_readPlank_39, dX3_readPlank_42, dX3_readPlank_45, dX3_readPlank_46, dX3_readPlank_47, dX3_readPlank_48, dX3_readPlank_51, dX3_readPlank_52, dX3_readPlank_53, dX3_readPlank_56, dX3_readPlank_57, dX3_readPlank_58, dX3_readPlank_59, dX3_readPlank_62, dX3_readPlank_63, dX3_readPlank_64, dX3_readPlank_67, dX3_readPlank_68, cr_3_49, cr_3_86, fr_3_34, fr_3_40, fr_3_93, al_10, al_11, al_12, al_13, al_14, al_16, al_17, al_18, al_19, al_2, al_20, al_21, al_23, al_24, al_27, al_28, al_29, al_3, al_30, al_31, al_32, al_34, al_36, al_37, al_38, al_39, al_4, al_40, al_41, al_42, al_43, al_45, al_46, al_47, al_48, al_49, al_5, al_52, al_53, al_54, al_55, al_56, al_57, al_58, al_6, al_60, al_61, al_62, al_63, al_64, al_65, al_66, al_67, al_69, al_7, al_70, al_71, al_72, al_73, al_9, cat_i, cat_l, cat_r, cat_u, gf_0_0_1, gf_0_0_15, gf_0_0_26, gf_0_0_8, gf_2_7_44, gf_2_9_44, pcl_0, pcl_1, pcl_100, pcl_101, pcl_102, pcl_103, pcl_104, pcl_105, pcl_106, pcl_107, pcl_108, pcl_109, pcl_110, pcl_111, pcl_112, pcl_15, pcl_22, pcl_25, pcl_26, pcl_33, pcl_44, pcl_50, pcl_59, pcl_8, pft_2_7, pft_2_9, rOK_i, rOK_z, v_aload_0, v_aload_1, v_bipush_11, v_bipush_99, v_getfield, v_iadd, v_iastore, v_iconst_0, v_iconst_1, v_if_ne, v_iload_2, v_invv, v_ireturn, v_istore_2, vcV_2_2, vgf_i, vgf_r, vgf_s, vc_d, rr_0, rr_1, csT_h, csT_t, csT_n, bI_0, bI_1, bI_z, bT, List.mem_cons, List.not_mem_nil, List.length_cons, List.length_nil, ite_not, ↓reduceIte, true_and, and_true, not_true_eq_false, not_false_eq_true, false_or, or_false, or_true, true_or, Nat.reduceAdd, Nat.reduceEqDiff, Nat.reduceBEq, Nat.reduceLeDiff, Nat.reduceLT, Nat.reduceSub, Int.reduceAdd, Int.reduceLE, Int.reduceLT, Int.reduceToNat, Int.reduceNeg, Int.reduceNatCast', reduceCtorEq, Int32.reduceOfInt, Int32.reduceOfNat, Int32.reduceToNatClampNeg, Int32.reduceToInt, i10, i01, pe_X3_look, pe_X3_isNumber, nx_e, h1, h2]
      exact h
  · rw [if_neg h1] at h
    simp only [dX3_readPlank_0, dX3_readPlank_1, dX3_readPlank_2, dX3_readPlank_5, dX3_readPlank_6, dX3_readPlank_7, dX3_readPlank_10, dX3_readPlank_11, dX3_readPlank_13, dX3_readPlank_16, dX3_readPlank_19, dX3_readPlank_20, dX3_readPlank_21, dX3_readPlank_22, dX3_readPlank_25, dX3_readPlank_26, dX3_readPlank_27, dX3_readPlank_28, dX3_readPlank_31, dX3_readPlank_32, dX3_readPlank_33, dX3_readPlank_36, dX3_readPlank_37, dX3_readPlank_39, dX3_readPlank_42, dX3_readPlank_45, dX3_readPlank_46, dX3_readPlank_47, dX3_readPlank_48, dX3_readPlank_51, dX3_readPlank_52, dX3_readPlank_53, dX3_readPlank_56, dX3_readPlank_57, dX3_readPlank_58, dX3_readPlank_59, dX3_readPlank_62, dX3_readPlank_63, dX3_readPlank_64, dX3_readPlank_67, dX3_readPlank_68, cr_3_49, cr_3_86, fr_3_34, fr_3_40, fr_3_93, al_10, al_11, al_12, al_13, al_14, al_16, al_17, al_18, al_19, al_2, al_20, al_21, al_23, al_24, al_27, al_28, al_29, al_3, al_30, al_31, al_32, al_34, al_36, al_37, al_38, al_39, al_4, al_40, al_41, al_42, al_43, al_45, al_46, al_47, al_48, al_49, al_5, al_52, al_53, al_54, al_55, al_56, al_57, al_58, al_6, al_60, al_61, al_62, al_63, al_64, al_65, al_66, al_67, al_69, al_7, al_70, al_71, al_72, al_73, al_9, cat_i, cat_l, cat_r, cat_u, gf_0_0_1, gf_0_0_15, gf_0_0_26, gf_0_0_8, gf_2_7_44, gf_2_9_44, pcl_0, pcl_1, pcl_100, pcl_101, pcl_102, pcl_103, pcl_104, pcl_105, pcl_106, pcl_107, pcl_108, pcl_109, pcl_110, pcl_111, pcl_112, pcl_15, pcl_22, pcl_25, pcl_26, pcl_33, pcl_44, pcl_50, pcl_59, pcl_8, pft_2_7, pft_2_9, rOK_i, rOK_z, v_aload_0, v_aload_1, v_bipush_11, v_bipush_99, v_getfield, v_iadd, v_iastore, v_iconst_0, v_iconst_1, v_if_ne, v_iload_2, v_invv, v_ireturn, v_istore_2, vcV_2_2, vgf_i, vgf_r, vgf_s, vc_d, rr_0, rr_1, csT_h, csT_t, csT_n, bI_0, bI_1, bI_z, bT, List.mem_cons, List.not_mem_nil, List.length_cons, List.length_nil, ite_not, ↓reduceIte, true_and, and_true, not_true_eq_false, not_false_eq_true, false_or, or_false, or_true, true_or, Nat.reduceAdd, Nat.reduceEqDiff, Nat.reduceBEq, Nat.reduceLeDiff, Nat.reduceLT, Nat.reduceSub, Int.reduceAdd, Int.reduceLE, Int.reduceLT, Int.reduceToNat, Int.reduceNeg, Int.reduceNatCast', reduceCtorEq, Int32.reduceOfInt, Int32.reduceOfNat, Int32.reduceToNatClampNeg, Int32.reduceToInt, i10, i01, pe_X3_look, pe_X3_isNumber, nx_e, h1]
    exact h
theorem s_X3_readPlank {d : Nat} (hd : 2 ≤ d) : Snd d 34 pf_X3_readPlank := by
  intro args M k h
  unfold pf_X3_readPlank at h
  split at h
  · exact c_X3_readPlank hd h
  · exact h.elim
def rnP (M : Mem) : Int32 × Mem := if numN (nx M) 11 then (1, nx (mset (nx M) 16 (nx M 44 9).toNatClampNeg 50)) else (0, nx M)
def pf_X3_readNew : PF := fun args M k => match args with
  | [.ref o, .ref b] => (o = 44 ∧ b = 15) ∧ (k (.int (rnP M).1) (rnP M).2)
  | _ => False
theorem pe_X3_readNew {o : Nat} {b : Nat} {M : Mem} {k : Value → Mem → Prop} : pf_X3_readNew [.ref o, .ref b] M k = ((o = 44 ∧ b = 15) ∧ (k (.int (rnP M).1) (rnP M).2)) := rfl
set_option maxRecDepth 100000 in
set_option maxHeartbeats 4000000 in
theorem c_X3_readNew {d : Nat} (hd : 2 ≤ d) {o : Nat} {b : Nat} {M : Mem} {k : Value → Mem → Prop} (h : (o = 44 ∧ b = 15) ∧ (k (.int (rnP M).1) (rnP M).2)) : CallP d 35 [.ref o, .ref b] M k := by
  obtain ⟨hp, h⟩ := h
  obtain ⟨d, rfl⟩ : ∃ d', d = d' + 1 := ⟨d - 1, by omega⟩
  obtain ⟨rfl, rfl⟩ := hp
  unfold rnP at h
  refine enterV (n := 80) [(31, pf_X3_look), (37, pf_X3_isNumber)] [] mI_35 (by decide) (Nat.le_of_ble_eq_true rfl) (T_cons (s_X3_look (by omega)) (T_cons (s_X3_isNumber (by omega)) T_nil)) ?_
  rw [show lent 2 ([.ref 44, .ref 15] : List Value) = [.ref 44, .ref 15] from rfl]
  by_cases h1 : numN (nx M) 11
  · rw [if_pos h1] at h
    simp only [dX3_readNew_0, dX3_readNew_1, dX3_readNew_2, dX3_readNew_5, dX3_readNew_6, dX3_readNew_7, dX3_readNew_10, dX3_readNew_11, dX3_readNew_13, dX3_readNew_16, dX3_readNew_19, dX3_readNew_20, dX3_readNew_21, dX3_readNew_22, dX3_readNew_25, dX3_readNew_26, dX3_readNew_29, dX3_readNew_31, dX3_readNew_32, dX3_readNew_33, dX3_readNew_34, dX3_readNew_37, dX3_readNew_38, dX3_readNew_39, dX3_readNew_42, dX3_readNew_43, cr_3_49, cr_3_86, fr_3_34, fr_3_40, fr_3_93, al_10, al_11, al_12, al_13, al_14, al_16, al_17, al_18, al_19, al_2, al_20, al_21, al_23, al_24, al_27, al_28, al_29, al_3, al_30, al_31, al_32, al_34, al_36, al_37, al_38, al_39, al_4, al_40, al_41, al_42, al_43, al_45, al_46, al_47, al_48, al_49, al_5, al_52, al_53, al_54, al_55, al_56, al_57, al_58, al_6, al_60, al_61, al_62, al_63, al_64, al_65, al_66, al_67, al_69, al_7, al_70, al_71, al_72, al_73, al_9, gf_0_0_1, gf_0_0_15, gf_0_0_26, gf_0_0_8, gf_2_7_44, gf_2_9_44, pcl_0, pcl_1, pcl_100, pcl_101, pcl_102, pcl_103, pcl_104, pcl_105, pcl_106, pcl_107, pcl_108, pcl_109, pcl_110, pcl_111, pcl_112, pcl_15, pcl_22, pcl_25, pcl_26, pcl_33, pcl_44, pcl_50, pcl_59, pcl_8, pft_2_7, pft_2_9, rOK_i, rOK_z, v_aload_0, v_aload_1, v_bipush_11, v_bipush_50, v_getfield, v_iadd, v_iastore, v_iconst_0, v_iconst_1, v_if_ne, v_invv, v_ireturn, vcV_2_2, vgf_i, vgf_r, vgf_s, vc_d, rr_0, rr_1, csT_h, csT_t, csT_n, bI_0, bI_1, bI_z, bT, List.mem_cons, List.not_mem_nil, List.length_cons, List.length_nil, ite_not, ↓reduceIte, true_and, and_true, not_true_eq_false, not_false_eq_true, false_or, or_false, or_true, true_or, Nat.reduceAdd, Nat.reduceEqDiff, Nat.reduceBEq, Nat.reduceLeDiff, Nat.reduceLT, Nat.reduceSub, Int.reduceAdd, Int.reduceLE, Int.reduceLT, Int.reduceToNat, Int.reduceNeg, Int.reduceNatCast', reduceCtorEq, Int32.reduceOfInt, Int32.reduceOfNat, Int32.reduceToNatClampNeg, Int32.reduceToInt, i10, i01, pe_X3_look, pe_X3_isNumber, nx_e, h1]
    exact ⟨bd (N := 12) h1.2.1 (fun z => h1.2.2 (by
        rw [Int32.le_iff_toInt_le] at z
        rw [Int32.lt_iff_toInt_lt]
        simp only [Int32.reduceToInt] at z ⊢
        omega)) rfl, h⟩
  · rw [if_neg h1] at h
    simp only [dX3_readNew_0, dX3_readNew_1, dX3_readNew_2, dX3_readNew_5, dX3_readNew_6, dX3_readNew_7, dX3_readNew_10, dX3_readNew_11, dX3_readNew_13, dX3_readNew_16, dX3_readNew_19, dX3_readNew_20, dX3_readNew_21, dX3_readNew_22, dX3_readNew_25, dX3_readNew_26, dX3_readNew_29, dX3_readNew_31, dX3_readNew_32, dX3_readNew_33, dX3_readNew_34, dX3_readNew_37, dX3_readNew_38, dX3_readNew_39, dX3_readNew_42, dX3_readNew_43, cr_3_49, cr_3_86, fr_3_34, fr_3_40, fr_3_93, al_10, al_11, al_12, al_13, al_14, al_16, al_17, al_18, al_19, al_2, al_20, al_21, al_23, al_24, al_27, al_28, al_29, al_3, al_30, al_31, al_32, al_34, al_36, al_37, al_38, al_39, al_4, al_40, al_41, al_42, al_43, al_45, al_46, al_47, al_48, al_49, al_5, al_52, al_53, al_54, al_55, al_56, al_57, al_58, al_6, al_60, al_61, al_62, al_63, al_64, al_65, al_66, al_67, al_69, al_7, al_70, al_71, al_72, al_73, al_9, gf_0_0_1, gf_0_0_15, gf_0_0_26, gf_0_0_8, gf_2_7_44, gf_2_9_44, pcl_0, pcl_1, pcl_100, pcl_101, pcl_102, pcl_103, pcl_104, pcl_105, pcl_106, pcl_107, pcl_108, pcl_109, pcl_110, pcl_111, pcl_112, pcl_15, pcl_22, pcl_25, pcl_26, pcl_33, pcl_44, pcl_50, pcl_59, pcl_8, pft_2_7, pft_2_9, rOK_i, rOK_z, v_aload_0, v_aload_1, v_bipush_11, v_bipush_50, v_getfield, v_iadd, v_iastore, v_iconst_0, v_iconst_1, v_if_ne, v_invv, v_ireturn, vcV_2_2, vgf_i, vgf_r, vgf_s, vc_d, rr_0, rr_1, csT_h, csT_t, csT_n, bI_0, bI_1, bI_z, bT, List.mem_cons, List.not_mem_nil, List.length_cons, List.length_nil, ite_not, ↓reduceIte, true_and, and_true, not_true_eq_false, not_false_eq_true, false_or, or_false, or_true, true_or, Nat.reduceAdd, Nat.reduceEqDiff, Nat.reduceBEq, Nat.reduceLeDiff, Nat.reduceLT, Nat.reduceSub, Int.reduceAdd, Int.reduceLE, Int.reduceLT, Int.reduceToNat, Int.reduceNeg, Int.reduceNatCast', reduceCtorEq, Int32.reduceOfInt, Int32.reduceOfNat, Int32.reduceToNatClampNeg, Int32.reduceToInt, i10, i01, pe_X3_look, pe_X3_isNumber, nx_e, h1]
    exact h
theorem s_X3_readNew {d : Nat} (hd : 2 ≤ d) : Snd d 35 pf_X3_readNew := by
  intro args M k h
  unfold pf_X3_readNew at h
  split at h
  · exact c_X3_readNew hd h
  · exact h.elim
