/-! M: kinds, spots, sheets, images -/
def abvF (kd : Int32) : Int32 := if kd = 0 then -1 else if kd = 3 then 2 else if kd = 4 then 3 else if kd = 6 then 1 else 0
def pf_X7_above : PF := fun args M k => match args with
  | [.int kd] => (True) ∧ (k (.int (abvF kd)) M)
  | _ => False
theorem pe_X7_above {kd : Int32} {M : Mem} {k : Value → Mem → Prop} : pf_X7_above [.int kd] M k = ((True) ∧ (k (.int (abvF kd)) M)) := rfl
theorem le_X7_above {kd : Int32} : lent 1 ([.int kd] : List Value) = [.int kd] := rfl
set_option maxRecDepth 100000 in
set_option maxHeartbeats 4000000 in
theorem c_X7_above {d : Nat} (hd : 1 ≤ d) {kd : Int32} {M : Mem} {k : Value → Mem → Prop} (h : (True) ∧ (k (.int (abvF kd)) M)) : CallP d 221 [.int kd] M k := by
  obtain ⟨hp, h⟩ := h
  obtain ⟨d, rfl⟩ : ∃ d', d = d' + 1 := ⟨d - 1, by omega⟩
  refine enterV (n := 80) [] [] mI_221 (by decide) (Nat.le_of_ble_eq_true rfl) T_nil ?_
  rw [le_X7_above]
  simp only [dX7_above_0, dX7_above_1, dX7_above_4, dX7_above_5, dX7_above_8, dX7_above_9, dX7_above_10, dX7_above_13, dX7_above_14, dX7_above_17, dX7_above_18, dX7_above_19, dX7_above_22, dX7_above_23, dX7_above_26, dX7_above_27, dX7_above_29, dX7_above_32, dX7_above_33, dX7_above_36, dX7_above_37, rOK_i, rOK_z, v_bipush_6, v_goto, v_ic_ne, v_iconst_0, v_iconst_1, v_iconst_2, v_iconst_3, v_iconst_4, v_iconst_m1, v_if_ne, v_iload_0, v_ireturn, vc_d, rr_0, rr_1, csT_h, csT_t, csT_n, bI_0, bI_1, bI_z, bT, List.mem_cons, List.not_mem_nil, List.length_cons, List.length_nil, ite_not, ↓reduceIte, true_and, and_true, not_true_eq_false, not_false_eq_true, false_or, or_false, or_true, true_or, Nat.reduceAdd, Nat.reduceEqDiff, Nat.reduceBEq, Nat.reduceLeDiff, Nat.reduceLT, Nat.reduceSub, Int.reduceAdd, Int.reduceLE, Int.reduceLT, Int.reduceToNat, Int.reduceNeg, Int.reduceNatCast', reduceCtorEq, Int32.reduceOfInt, Int32.reduceOfNat, Int32.reduceToNatClampNeg, Int32.reduceToInt, i10, i01, nEM]
  unfold abvF at h
  repeat' (first | split | apply And.intro)
  all_goals first | (simpa [bI, hasW, *] using h) | (simp only [Int32.lt_iff_toInt_lt, Int32.le_iff_toInt_le, Int32.reduceToInt] at *; omega)
theorem s_X7_above {d : Nat} (hd : 1 ≤ d) : Snd d 221 pf_X7_above := by
  intro args M k h
  unfold pf_X7_above at h
  split at h
  · exact c_X7_above hd h
  · exact h.elim
def pf_X7_isUnder : PF := fun args M k => match args with
  | [.int kd, .int q] => (isK kd ∧ isK q) ∧ ((undF kd q → k (.int 1) M) ∧ (¬ undF kd q → k (.int 0) M))
  | _ => False
theorem pe_X7_isUnder {kd : Int32} {q : Int32} {M : Mem} {k : Value → Mem → Prop} : pf_X7_isUnder [.int kd, .int q] M k = ((isK kd ∧ isK q) ∧ ((undF kd q → k (.int 1) M) ∧ (¬ undF kd q → k (.int 0) M))) := rfl
theorem le_X7_isUnder {kd : Int32} {q : Int32} : lent 3 ([.int kd, .int q] : List Value) = [.int kd, .int q, .retAddr 0] := rfl
set_option maxRecDepth 100000 in
set_option maxHeartbeats 4000000 in
theorem c_X7_isUnder {d : Nat} (hd : 2 ≤ d) {kd : Int32} {q : Int32} {M : Mem} {k : Value → Mem → Prop} (h : (isK kd ∧ isK q) ∧ ((undF kd q → k (.int 1) M) ∧ (¬ undF kd q → k (.int 0) M))) : CallP d 222 [.int kd, .int q] M k := by
  obtain ⟨hp, h⟩ := h
  obtain ⟨d, rfl⟩ : ∃ d', d = d' + 1 := ⟨d - 1, by omega⟩
  obtain ⟨hk, hq⟩ := hp
  unfold undF at h
  have e0 : abvF 0 = -1 := by decide
  have e1 : abvF 1 = 0 := by decide
  have e2 : abvF 2 = 0 := by decide
  have e3 : abvF 3 = 2 := by decide
  have e4 : abvF 4 = 3 := by decide
  have e5 : abvF 5 = 0 := by decide
  have e6 : abvF 6 = 1 := by decide
  rcases k7 hk with rfl | rfl | rfl | rfl | rfl | rfl | rfl
  · refine enterV (n := 110) [(221, pf_X7_above)] [] mI_222 (by decide) (Nat.le_of_ble_eq_true rfl) (T_cons (s_X7_above (by omega)) T_nil) ?_
    rw [le_X7_isUnder]
    simp only [dX7_isUnder_0, dX7_isUnder_1, dX7_isUnder_2, dX7_isUnder_3, dX7_isUnder_6, dX7_isUnder_7, dX7_isUnder_8, dX7_isUnder_11, dX7_isUnder_12, dX7_isUnder_15, dX7_isUnder_16, dX7_isUnder_19, dX7_isUnder_20, dX7_isUnder_23, dX7_isUnder_24, dX7_isUnder_27, dX7_isUnder_28, cr_7_332, al_10, al_11, al_12, al_13, al_14, al_16, al_17, al_18, al_19, al_2, al_20, al_21, al_23, al_24, al_27, al_28, al_29, al_3, al_30, al_31, al_32, al_34, al_36, al_37, al_38, al_39, al_4, al_40, al_41, al_42, al_43, al_45, al_46, al_47, al_48, al_49, al_5, al_52, al_53, al_54, al_55, al_56, al_57, al_58, al_6, al_60, al_61, al_62, al_63, al_64, al_65, al_66, al_67, al_69, al_7, al_70, al_71, al_72, al_73, al_9, cat_i, cat_l, cat_r, cat_u, rOK_i, rOK_z, v_goto, v_ic_eq, v_iconst_0, v_iconst_1, v_if_lt, v_iload_0, v_iload_1, v_iload_2, v_invs, v_ireturn, v_istore_2, vcS_1_1, vc_d, rr_0, rr_1, csT_h, csT_t, csT_n, bI_0, bI_1, bI_z, bT, List.mem_cons, List.not_mem_nil, List.length_cons, List.length_nil, ite_not, ↓reduceIte, true_and, and_true, not_true_eq_false, not_false_eq_true, false_or, or_false, or_true, true_or, Nat.reduceAdd, Nat.reduceEqDiff, Nat.reduceBEq, Nat.reduceLeDiff, Nat.reduceLT, Nat.reduceSub, Int.reduceAdd, Int.reduceLE, Int.reduceLT, Int.reduceToNat, Int.reduceNeg, Int.reduceNatCast', reduceCtorEq, Int32.reduceOfInt, Int32.reduceOfNat, Int32.reduceToNatClampNeg, Int32.reduceToInt, i10, i01, nEM, pe_X7_above, Int32.reduceLT, Int32.reduceLE, Int32.reduceAdd, e0, e1, e2, e3, e4, e5, e6, not_true_eq_false, and_false, false_and]
    rcases k7 hq with rfl | rfl | rfl | rfl | rfl | rfl | rfl
    all_goals
      try simp only [↓reduceIte, reduceCtorEq, if_true, if_false]
      repeat' split
      all_goals first | contradiction | exact h.1 (by decide) | exact h.2 (by decide)
  · refine enterV (n := 110) [(221, pf_X7_above)] [] mI_222 (by decide) (Nat.le_of_ble_eq_true rfl) (T_cons (s_X7_above (by omega)) T_nil) ?_
    rw [le_X7_isUnder]
    simp only [dX7_isUnder_0, dX7_isUnder_1, dX7_isUnder_2, dX7_isUnder_3, dX7_isUnder_6, dX7_isUnder_7, dX7_isUnder_8, dX7_isUnder_11, dX7_isUnder_12, dX7_isUnder_15, dX7_isUnder_16, dX7_isUnder_19, dX7_isUnder_20, dX7_isUnder_23, dX7_isUnder_24, dX7_isUnder_27, dX7_isUnder_28, cr_7_332, al_10, al_11, al_12, al_13, al_14, al_16, al_17, al_18, al_19, al_2, al_20, al_21, al_23, al_24, al_27, al_28, al_29, al_3, al_30, al_31, al_32, al_34, al_36, al_37, al_38, al_39, al_4, al_40, al_41, al_42, al_43, al_45, al_46, al_47, al_48, al_49, al_5, al_52, al_53, al_54, al_55, al_56, al_57, al_58, al_6, al_60, al_61, al_62, al_63, al_64, al_65, al_66, al_67, al_69, al_7, al_70, al_71, al_72, al_73, al_9, cat_i, cat_l, cat_r, cat_u, rOK_i, rOK_z, v_goto, v_ic_eq, v_iconst_0, v_iconst_1, v_if_lt, v_iload_0, v_iload_1, v_iload_2, v_invs, v_ireturn, v_istore_2, vcS_1_1, vc_d, rr_0, rr_1, csT_h, csT_t, csT_n, bI_0, bI_1, bI_z, bT, List.mem_cons, List.not_mem_nil, List.length_cons, List.length_nil, ite_not, ↓reduceIte, true_and, and_true, not_true_eq_false, not_false_eq_true, false_or, or_false, or_true, true_or, Nat.reduceAdd, Nat.reduceEqDiff, Nat.reduceBEq, Nat.reduceLeDiff, Nat.reduceLT, Nat.reduceSub, Int.reduceAdd, Int.reduceLE, Int.reduceLT, Int.reduceToNat, Int.reduceNeg, Int.reduceNatCast', reduceCtorEq, Int32.reduceOfInt, Int32.reduceOfNat, Int32.reduceToNatClampNeg, Int32.reduceToInt, i10, i01, nEM, pe_X7_above, Int32.reduceLT, Int32.reduceLE, Int32.reduceAdd, e0, e1, e2, e3, e4, e5, e6, not_true_eq_false, and_false, false_and]
    rcases k7 hq with rfl | rfl | rfl | rfl | rfl | rfl | rfl
    all_goals
      try simp only [↓reduceIte, reduceCtorEq, if_true, if_false]
      repeat' split
      all_goals first | contradiction | exact h.1 (by decide) | exact h.2 (by decide)
  · refine enterV (n := 110) [(221, pf_X7_above)] [] mI_222 (by decide) (Nat.le_of_ble_eq_true rfl) (T_cons (s_X7_above (by omega)) T_nil) ?_
    rw [le_X7_isUnder]
    simp only [dX7_isUnder_0, dX7_isUnder_1, dX7_isUnder_2, dX7_isUnder_3, dX7_isUnder_6, dX7_isUnder_7, dX7_isUnder_8, dX7_isUnder_11, dX7_isUnder_12, dX7_isUnder_15, dX7_isUnder_16, dX7_isUnder_19, dX7_isUnder_20, dX7_isUnder_23, dX7_isUnder_24, dX7_isUnder_27, dX7_isUnder_28, cr_7_332, al_10, al_11, al_12, al_13, al_14, al_16, al_17, al_18, al_19, al_2, al_20, al_21, al_23, al_24, al_27, al_28, al_29, al_3, al_30, al_31, al_32, al_34, al_36, al_37, al_38, al_39, al_4, al_40, al_41, al_42, al_43, al_45, al_46, al_47, al_48, al_49, al_5, al_52, al_53, al_54, al_55, al_56, al_57, al_58, al_6, al_60, al_61, al_62, al_63, al_64, al_65, al_66, al_67, al_69, al_7, al_70, al_71, al_72, al_73, al_9, cat_i, cat_l, cat_r, cat_u, rOK_i, rOK_z, v_goto, v_ic_eq, v_iconst_0, v_iconst_1, v_if_lt, v_iload_0, v_iload_1, v_iload_2, v_invs, v_ireturn, v_istore_2, vcS_1_1, vc_d, rr_0, rr_1, csT_h, csT_t, csT_n, bI_0, bI_1, bI_z, bT, List.mem_cons, List.not_mem_nil, List.length_cons, List.length_nil, ite_not, ↓reduceIte, true_and, and_true, not_true_eq_false, not_false_eq_true, false_or, or_false, or_true, true_or, Nat.reduceAdd, Nat.reduceEqDiff, Nat.reduceBEq, Nat.reduceLeDiff, Nat.reduceLT, Nat.reduceSub, Int.reduceAdd, Int.reduceLE, Int.reduceLT, Int.reduceToNat, Int.reduceNeg, Int.reduceNatCast', reduceCtorEq, Int32.reduceOfInt, Int32.reduceOfNat, Int32.reduceToNatClampNeg, Int32.reduceToInt, i10, i01, nEM, pe_X7_above, Int32.reduceLT, Int32.reduceLE, Int32.reduceAdd, e0, e1, e2, e3, e4, e5, e6, not_true_eq_false, and_false, false_and]
    rcases k7 hq with rfl | rfl | rfl | rfl | rfl | rfl | rfl
    all_goals
      try simp only [↓reduceIte, reduceCtorEq, if_true, if_false]
      repeat' split
      all_goals first | contradiction | exact h.1 (by decide) | exact h.2 (by decide)
  · refine enterV (n := 110) [(221, pf_X7_above)] [] mI_222 (by decide) (Nat.le_of_ble_eq_true rfl) (T_cons (s_X7_above (by omega)) T_nil) ?_
    rw [le_X7_isUnder]
    simp only [dX7_isUnder_0, dX7_isUnder_1, dX7_isUnder_2, dX7_isUnder_3, dX7_isUnder_6, dX7_isUnder_7, dX7_isUnder_8, dX7_isUnder_11, dX7_isUnder_12, dX7_isUnder_15, dX7_isUnder_16, dX7_isUnder_19, dX7_isUnder_20, dX7_isUnder_23, dX7_isUnder_24, dX7_isUnder_27, dX7_isUnder_28, cr_7_332, al_10, al_11, al_12, al_13, al_14, al_16, al_17, al_18, al_19, al_2, al_20, al_21, al_23, al_24, al_27, al_28, al_29, al_3, al_30, al_31, al_32, al_34, al_36, al_37, al_38, al_39, al_4, al_40, al_41, al_42, al_43, al_45, al_46, al_47, al_48, al_49, al_5, al_52, al_53, al_54, al_55, al_56, al_57, al_58, al_6, al_60, al_61, al_62, al_63, al_64, al_65, al_66, al_67, al_69, al_7, al_70, al_71, al_72, al_73, al_9, cat_i, cat_l, cat_r, cat_u, rOK_i, rOK_z, v_goto, v_ic_eq, v_iconst_0, v_iconst_1, v_if_lt, v_iload_0, v_iload_1, v_iload_2, v_invs, v_ireturn, v_istore_2, vcS_1_1, vc_d, rr_0, rr_1, csT_h, csT_t, csT_n, bI_0, bI_1, bI_z, bT, List.mem_cons, List.not_mem_nil, List.length_cons, List.length_nil, ite_not, ↓reduceIte, true_and, and_true, not_true_eq_false, not_false_eq_true, false_or, or_false, or_true, true_or, Nat.reduceAdd, Nat.reduceEqDiff, Nat.reduceBEq, Nat.reduceLeDiff, Nat.reduceLT, Nat.reduceSub, Int.reduceAdd, Int.reduceLE, Int.reduceLT, Int.reduceToNat, Int.reduceNeg, Int.reduceNatCast', reduceCtorEq, Int32.reduceOfInt, Int32.reduceOfNat, Int32.reduceToNatClampNeg, Int32.reduceToInt, i10, i01, nEM, pe_X7_above, Int32.reduceLT, Int32.reduceLE, Int32.reduceAdd, e0, e1, e2, e3, e4, e5, e6, not_true_eq_false, and_false, false_and]
    rcases k7 hq with rfl | rfl | rfl | rfl | rfl | rfl | rfl
    all_goals
      try simp only [↓reduceIte, reduceCtorEq, if_true, if_false]
      repeat' split
      all_goals first | contradiction | exact h.1 (by decide) | exact h.2 (by decide)
  · refine enterV (n := 110) [(221, pf_X7_above)] [] mI_222 (by decide) (Nat.le_of_ble_eq_true rfl) (T_cons (s_X7_above (by omega)) T_nil) ?_
    rw [le_X7_isUnder]
    simp only [dX7_isUnder_0, dX7_isUnder_1, dX7_isUnder_2, dX7_isUnder_3, dX7_isUnder_6, dX7_isUnder_7, dX7_isUnder_8, dX7_isUnder_11, dX7_isUnder_12, dX7_isUnder_15, dX7_isUnder_16, dX7_isUnder_19, dX7_isUnder_20, dX7_isUnder_23, dX7_isUnder_24, dX7_isUnder_27, dX7_isUnder_28, cr_7_332, al_10, al_11, al_12, al_13, al_14, al_16, al_17, al_18, al_19, al_2, al_20, al_21, al_23, al_24, al_27, al_28, al_29, al_3, al_30, al_31, al_32, al_34, al_36, al_37, al_38, al_39, al_4, al_40, al_41, al_42, al_43, al_45, al_46, al_47, al_48, al_49, al_5, al_52, al_53, al_54, al_55, al_56, al_57, al_58, al_6, al_60, al_61, al_62, al_63, al_64, al_65, al_66, al_67, al_69, al_7, al_70, al_71, al_72, al_73, al_9, cat_i, cat_l, cat_r, cat_u, rOK_i, rOK_z, v_goto, v_ic_eq, v_iconst_0, v_iconst_1, v_if_lt, v_iload_0, v_iload_1, v_iload_2, v_invs, v_ireturn, v_istore_2, vcS_1_1, vc_d, rr_0, rr_1, csT_h, csT_t, csT_n, bI_0, bI_1, bI_z, bT, List.mem_cons, List.not_mem_nil, List.length_cons, List.length_nil, ite_not, ↓reduceIte, true_and, and_true, not_true_eq_false, not_false_eq_true, false_or, or_false, or_true, true_or, Nat.reduceAdd, Nat.reduceEqDiff, Nat.reduceBEq, Nat.reduceLeDiff, Nat.reduceLT, Nat.reduceSub, Int.reduceAdd, Int.reduceLE, Int.reduceLT, Int.reduceToNat, Int.reduceNeg, Int.reduceNatCast', reduceCtorEq, Int32.reduceOfInt, Int32.reduceOfNat, Int32.reduceToNatClampNeg, Int32.reduceToInt, i10, i01, nEM, pe_X7_above, Int32.reduceLT, Int32.reduceLE, Int32.reduceAdd, e0, e1, e2, e3, e4, e5, e6, not_true_eq_false, and_false, false_and]
    rcases k7 hq with rfl | rfl | rfl | rfl | rfl | rfl | rfl
    all_goals
      try simp only [↓reduceIte, reduceCtorEq, if_true, if_false]
      repeat' split
      all_goals first | contradiction | exact h.1 (by decide) | exact h.2 (by decide)
  · refine enterV (n := 110) [(221, pf_X7_above)] [] mI_222 (by decide) (Nat.le_of_ble_eq_true rfl) (T_cons (s_X7_above (by omega)) T_nil) ?_
    rw [le_X7_isUnder]
    simp only [dX7_isUnder_0, dX7_isUnder_1, dX7_isUnder_2, dX7_isUnder_3, dX7_isUnder_6, dX7_isUnder_7, dX7_isUnder_8, dX7_isUnder_11, dX7_isUnder_12, dX7_isUnder_15, dX7_isUnder_16, dX7_isUnder_19, dX7_isUnder_20, dX7_isUnder_23, dX7_isUnder_24, dX7_isUnder_27, dX7_isUnder_28, cr_7_332, al_10, al_11, al_12, al_13, al_14, al_16, al_17, al_18, al_19, al_2, al_20, al_21, al_23, al_24, al_27, al_28, al_29, al_3, al_30, al_31, al_32, al_34, al_36, al_37, al_38, al_39, al_4, al_40, al_41, al_42, al_43, al_45, al_46, al_47, al_48, al_49, al_5, al_52, al_53, al_54, al_55, al_56, al_57, al_58, al_6, al_60, al_61, al_62, al_63, al_64, al_65, al_66, al_67, al_69, al_7, al_70, al_71, al_72, al_73, al_9, cat_i, cat_l, cat_r, cat_u, rOK_i, rOK_z, v_goto, v_ic_eq, v_iconst_0, v_iconst_1, v_if_lt, v_iload_0, v_iload_1, v_iload_2, v_invs, v_ireturn, v_istore_2, vcS_1_1, vc_d, rr_0, rr_1, csT_h, csT_t, csT_n, bI_0, bI_1, bI_z, bT, List.mem_cons, List.not_mem_nil, List.length_cons, List.length_nil, ite_not, ↓reduceIte, true_and, and_true, not_true_eq_false, not_false_eq_true, false_or, or_false, or_true, true_or, Nat.reduceAdd, Nat.reduceEqDiff, Nat.reduceBEq, Nat.reduceLeDiff, Nat.reduceLT, Nat.reduceSub, Int.reduceAdd, Int.reduceLE, Int.reduceLT, Int.reduceToNat, Int.reduceNeg, Int.reduceNatCast', reduceCtorEq, Int32.reduceOfInt, Int32.reduceOfNat, Int32.reduceToNatClampNeg, Int32.reduceToInt, i10, i01, nEM, pe_X7_above, Int32.reduceLT, Int32.reduceLE, Int32.reduceAdd, e0, e1, e2, e3, e4, e5, e6, not_true_eq_false, and_false, false_and]
    rcases k7 hq with rfl | rfl | rfl | rfl | rfl | rfl | rfl
    all_goals
      try simp only [↓reduceIte, reduceCtorEq, if_true, if_false]
      repeat' split
      all_goals first | contradiction | exact h.1 (by decide) | exact h.2 (by decide)
  · refine enterV (n := 110) [(221, pf_X7_above)] [] mI_222 (by decide) (Nat.le_of_ble_eq_true rfl) (T_cons (s_X7_above (by omega)) T_nil) ?_
    rw [le_X7_isUnder]
    simp only [dX7_isUnder_0, dX7_isUnder_1, dX7_isUnder_2, dX7_isUnder_3, dX7_isUnder_6, dX7_isUnder_7, dX7_isUnder_8, dX7_isUnder_11, dX7_isUnder_12, dX7_isUnder_15, dX7_isUnder_16, dX7_isUnder_19, dX7_isUnder_20, dX7_isUnder_23, dX7_isUnder_24, dX7_isUnder_27, dX7_isUnder_28, cr_7_332, al_10, al_11, al_12, al_13, al_14, al_16, al_17, al_18, al_19, al_2, al_20, al_21, al_23, al_24, al_27, al_28, al_29, al_3, al_30, al_31, al_32, al_34, al_36, al_37, al_38, al_39, al_4, al_40, al_41, al_42, al_43, al_45, al_46, al_47, al_48, al_49, al_5, al_52, al_53, al_54, al_55, al_56, al_57, al_58, al_6, al_60, al_61, al_62, al_63, al_64, al_65, al_66, al_67, al_69, al_7, al_70, al_71, al_72, al_73, al_9, cat_i, cat_l, cat_r, cat_u, rOK_i, rOK_z, v_goto, v_ic_eq, v_iconst_0, v_iconst_1, v_if_lt, v_iload_0, v_iload_1, v_iload_2, v_invs, v_ireturn, v_istore_2, vcS_1_1, vc_d, rr_0, rr_1, csT_h, csT_t, csT_n, bI_0, bI_1, bI_z, bT, List.mem_cons, List.not_mem_nil, List.length_cons, List.length_nil, ite_not, ↓reduceIte, true_and, and_true, not_true_eq_false, not_false_eq_true, false_or, or_false, or_true, true_or, Nat.reduceAdd, Nat.reduceEqDiff, Nat.reduceBEq, Nat.reduceLeDiff, Nat.reduceLT, Nat.reduceSub, Int.reduceAdd, Int.reduceLE, Int.reduceLT, Int.reduceToNat, Int.reduceNeg, Int.reduceNatCast', reduceCtorEq, Int32.reduceOfInt, Int32.reduceOfNat, Int32.reduceToNatClampNeg, Int32.reduceToInt, i10, i01, nEM, pe_X7_above, Int32.reduceLT, Int32.reduceLE, Int32.reduceAdd, e0, e1, e2, e3, e4, e5, e6, not_true_eq_false, and_false, false_and]
    rcases k7 hq with rfl | rfl | rfl | rfl | rfl | rfl | rfl
    all_goals
      try simp only [↓reduceIte, reduceCtorEq, if_true, if_false]
      repeat' split
      all_goals first | contradiction | exact h.1 (by decide) | exact h.2 (by decide)

theorem s_X7_isUnder {d : Nat} (hd : 2 ≤ d) : Snd d 222 pf_X7_isUnder := by
  intro args M k h
  unfold pf_X7_isUnder at h
  split at h
  · exact c_X7_isUnder hd h
  · exact h.elim
theorem s10_n {s : Int32} (h : isS s) : ∃ t, t < 10 ∧ s = nI t := by
  obtain ⟨i, hi, e⟩ := nI_of h.1
  have := h.2
  rw [e, show (10 : Int32) = nI 10 from rfl, nI_leI (by omega) hi] at this
  exact ⟨i, by omega, e⟩
def pf_X7_as : PF := fun args M k => match args with
  | [.ref o, .int s, .int q] => (o = 59 ∧ (∀ i, i < 6 → isK (M 60 (wf i 0))) ∧ (∀ t, t < 10 → ¬ M 60 (4 + t) < 0 → wOK (M 60 (4 + t)))) ∧ (if isS s ∧ isK q then (if M 60 (4 + (s).toNatClampNeg) < 0 then k (.int (-1000006)) (fndM M 5) else ((undF (M 60 (wf (M 60 (4 + (s).toNatClampNeg)).toNatClampNeg 0)) q → k (.int (M 60 (4 + (s).toNatClampNeg))) M) ∧ (¬ undF (M 60 (wf (M 60 (4 + (s).toNatClampNeg)).toNatClampNeg 0)) q → k (.int (-1000003)) (fndM M 2)))) else k (.int (-1000001)) (fndM M 0))
  | _ => False
theorem pe_X7_as {o : Nat} {s : Int32} {q : Int32} {M : Mem} {k : Value → Mem → Prop} : pf_X7_as [.ref o, .int s, .int q] M k = ((o = 59 ∧ (∀ i, i < 6 → isK (M 60 (wf i 0))) ∧ (∀ t, t < 10 → ¬ M 60 (4 + t) < 0 → wOK (M 60 (4 + t)))) ∧ (if isS s ∧ isK q then (if M 60 (4 + (s).toNatClampNeg) < 0 then k (.int (-1000006)) (fndM M 5) else ((undF (M 60 (wf (M 60 (4 + (s).toNatClampNeg)).toNatClampNeg 0)) q → k (.int (M 60 (4 + (s).toNatClampNeg))) M) ∧ (¬ undF (M 60 (wf (M 60 (4 + (s).toNatClampNeg)).toNatClampNeg 0)) q → k (.int (-1000003)) (fndM M 2)))) else k (.int (-1000001)) (fndM M 0))) := rfl
theorem le_X7_as {o : Nat} {s : Int32} {q : Int32} : lent 4 ([.ref o, .int s, .int q] : List Value) = [.ref o, .int s, .int q, .retAddr 0] := rfl
set_option maxRecDepth 100000 in
set_option maxHeartbeats 4000000 in
theorem c_X7_as {d : Nat} (hd : 3 ≤ d) {o : Nat} {s : Int32} {q : Int32} {M : Mem} {k : Value → Mem → Prop} (h : (o = 59 ∧ (∀ i, i < 6 → isK (M 60 (wf i 0))) ∧ (∀ t, t < 10 → ¬ M 60 (4 + t) < 0 → wOK (M 60 (4 + t)))) ∧ (if isS s ∧ isK q then (if M 60 (4 + (s).toNatClampNeg) < 0 then k (.int (-1000006)) (fndM M 5) else ((undF (M 60 (wf (M 60 (4 + (s).toNatClampNeg)).toNatClampNeg 0)) q → k (.int (M 60 (4 + (s).toNatClampNeg))) M) ∧ (¬ undF (M 60 (wf (M 60 (4 + (s).toNatClampNeg)).toNatClampNeg 0)) q → k (.int (-1000003)) (fndM M 2)))) else k (.int (-1000001)) (fndM M 0))) : CallP d 215 [.ref o, .int s, .int q] M k := by
  obtain ⟨hp, h⟩ := h
  obtain ⟨d, rfl⟩ : ∃ d', d = d' + 1 := ⟨d - 1, by omega⟩
  obtain ⟨rfl, hK, hS⟩ := hp
  · refine enterV (n := 80) [(213, pf_X7_isSpot), (137, pf_X7_isKind), (125, pf_X7_finding), (139, pf_X7_walkerIs), (222, pf_X7_isUnder)] [] mI_215 (by decide) (Nat.le_of_ble_eq_true rfl) (T_cons (s_X7_isSpot (by omega)) (T_cons (s_X7_isKind (by omega)) (T_cons (s_X7_finding (by omega)) (T_cons (s_X7_walkerIs (by omega)) (T_cons (s_X7_isUnder (by omega)) T_nil))))) ?_
    rw [le_X7_as]
    simp only [dX7_as_0, dX7_as_1, dX7_as_4, dX7_as_7, dX7_as_8, dX7_as_11, dX7_as_14, dX7_as_15, dX7_as_17, dX7_as_20, dX7_as_21, dX7_as_22, dX7_as_25, dX7_as_26, dX7_as_27, dX7_as_28, dX7_as_29, dX7_as_30, dX7_as_31, dX7_as_34, dX7_as_35, dX7_as_37, dX7_as_40, dX7_as_41, dX7_as_42, dX7_as_43, dX7_as_44, dX7_as_47, dX7_as_48, dX7_as_51, dX7_as_54, dX7_as_55, dX7_as_58, dX7_as_59, dX7_as_62, dX7_as_65, cr_7_105, cr_7_113, cr_7_321, cr_7_324, cr_7_75, fr_7_9, kr_7_223, kr_7_327, kr_7_69, skr_7_223, skr_7_327, skr_7_69, al_10, al_11, al_12, al_13, al_14, al_16, al_17, al_18, al_19, al_2, al_20, al_21, al_23, al_24, al_27, al_28, al_29, al_3, al_30, al_31, al_32, al_34, al_36, al_37, al_38, al_39, al_4, al_40, al_41, al_42, al_43, al_45, al_46, al_47, al_48, al_49, al_5, al_52, al_53, al_54, al_55, al_56, al_57, al_58, al_6, al_60, al_61, al_62, al_63, al_64, al_65, al_66, al_67, al_69, al_7, al_70, al_71, al_72, al_73, al_9, cat_i, cat_l, cat_r, cat_u, gf_6_0_59, pcl_0, pcl_1, pcl_100, pcl_101, pcl_102, pcl_103, pcl_104, pcl_105, pcl_106, pcl_107, pcl_108, pcl_109, pcl_110, pcl_111, pcl_112, pcl_15, pcl_22, pcl_25, pcl_26, pcl_33, pcl_44, pcl_50, pcl_59, pcl_8, rOK_i, rOK_z, v_aload_0, v_getfield, v_goto, v_iadd, v_iaload, v_iconst_0, v_iconst_4, v_if_eq, v_if_ge, v_if_ne, v_iload_1, v_iload_2, v_iload_3, v_invs, v_invv, v_ireturn, v_istore_3, v_ldc, v_ldcw, vcS_1_1, vcS_2_1, vcV_2_6, vcV_3_6, vgf_i, vgf_r, vgf_s, vld_i, vld_s, vc_d, rr_0, rr_1, csT_h, csT_t, csT_n, bI_0, bI_1, bI_z, bT, List.mem_cons, List.not_mem_nil, List.length_cons, List.length_nil, ite_not, ↓reduceIte, true_and, and_true, not_true_eq_false, not_false_eq_true, false_or, or_false, or_true, true_or, Nat.reduceAdd, Nat.reduceEqDiff, Nat.reduceBEq, Nat.reduceLeDiff, Nat.reduceLT, Nat.reduceSub, Int.reduceAdd, Int.reduceLE, Int.reduceLT, Int.reduceToNat, Int.reduceNeg, Int.reduceNatCast', reduceCtorEq, Int32.reduceOfInt, Int32.reduceOfNat, Int32.reduceToNatClampNeg, Int32.reduceToInt, i10, i01, nEM, pe_X7_isSpot, pe_X7_isKind, fn_0, fn_1, fn_2, fn_3, fn_4, fn_5, fn_6, pe_X7_walkerIs, pe_X7_isUnder, isS_m, Int32.reduceLT, Int32.reduceLE, not_false_eq_true]
    by_cases h1 : isS s
    · rw [if_pos h1]
      by_cases h2 : isK q
      · rw [if_pos ⟨h1, h2⟩] at h
        rw [if_pos h2]
        obtain ⟨t, ht, rfl⟩ := s10_n h1
        have e4 : (4 : Int32) + nI t = nI (4 + t) := by rw [show (4 : Int32) = nI 4 from rfl, nI_add]
        have c1 : (nI (4 + t)).toNatClampNeg = 4 + t := nI_clamp (by omega)
        have c2 : (nI (4 + t)).toInt = ((4 + t : Nat) : Int) := nI_toInt (by omega)
        rw [nI_clamp (show t < 2 ^ 31 by omega)] at h
        simp only [e4, c1, c2]
        refine ⟨by omega, ?_⟩
        have hSt := hS t ht
        generalize M 60 (4 + t) = c at h hSt ⊢
        by_cases h3 : c < 0
        · rw [if_pos h3] at h
          rw [if_neg (fun z => Int32.not_lt.mpr z h3)]
          exact h
        · rw [if_neg h3] at h
          rw [if_pos (Int32.not_lt.mp h3)]
          have hw := hSt h3
          obtain ⟨i, hi, rfl⟩ := wOK_n hw
          rw [nI_clamp (show i < 2 ^ 31 by omega)] at h ⊢
          exact ⟨hw, ⟨hK i hi, h2⟩, h.1, h.2⟩
      · rw [if_neg (fun z => h2 z.2)] at h
        rw [if_neg h2]
        exact h
    · rw [if_neg (fun z => h1 z.1)] at h
      rw [if_neg h1]
      exact h

theorem s_X7_as {d : Nat} (hd : 3 ≤ d) : Snd d 215 pf_X7_as := by
  intro args M k h
  unfold pf_X7_as at h
  split at h
  · exact c_X7_as hd h
  · exact h.elim
def pf_X7_cutTo : PF := fun args M k => match args with
  | [.int v, .int b] => (True) ∧ (k (.int (cutF b v)) M)
  | _ => False
theorem pe_X7_cutTo {v : Int32} {b : Int32} {M : Mem} {k : Value → Mem → Prop} : pf_X7_cutTo [.int v, .int b] M k = ((True) ∧ (k (.int (cutF b v)) M)) := rfl
theorem le_X7_cutTo {v : Int32} {b : Int32} : lent 2 ([.int v, .int b] : List Value) = [.int v, .int b] := rfl
set_option maxRecDepth 100000 in
set_option maxHeartbeats 4000000 in
theorem c_X7_cutTo {d : Nat} (hd : 1 ≤ d) {v : Int32} {b : Int32} {M : Mem} {k : Value → Mem → Prop} (h : (True) ∧ (k (.int (cutF b v)) M)) : CallP d 217 [.int v, .int b] M k := by
  obtain ⟨hp, h⟩ := h
  obtain ⟨d, rfl⟩ : ∃ d', d = d' + 1 := ⟨d - 1, by omega⟩
  refine enterV (n := 80) [] [] mI_217 (by decide) (Nat.le_of_ble_eq_true rfl) T_nil ?_
  rw [le_X7_cutTo]
  simp only [dX7_cutTo_0, dX7_cutTo_1, dX7_cutTo_3, dX7_cutTo_6, dX7_cutTo_7, dX7_cutTo_8, dX7_cutTo_11, dX7_cutTo_12, dX7_cutTo_14, dX7_cutTo_17, dX7_cutTo_18, dX7_cutTo_19, dX7_cutTo_22, dX7_cutTo_23, rOK_i, rOK_z, v_bipush_16, v_bipush_8, v_goto, v_i2b, v_i2s, v_ic_ne, v_iload_0, v_iload_1, v_ireturn, vc_d, rr_0, rr_1, csT_h, csT_t, csT_n, bI_0, bI_1, bI_z, bT, List.mem_cons, List.not_mem_nil, List.length_cons, List.length_nil, ite_not, ↓reduceIte, true_and, and_true, not_true_eq_false, not_false_eq_true, false_or, or_false, or_true, true_or, Nat.reduceAdd, Nat.reduceEqDiff, Nat.reduceBEq, Nat.reduceLeDiff, Nat.reduceLT, Nat.reduceSub, Int.reduceAdd, Int.reduceLE, Int.reduceLT, Int.reduceToNat, Int.reduceNeg, Int.reduceNatCast', reduceCtorEq, Int32.reduceOfInt, Int32.reduceOfNat, Int32.reduceToNatClampNeg, Int32.reduceToInt, i10, i01, nEM]
  unfold cutF at h
  repeat' (first | split | apply And.intro)
  all_goals first | (simpa [bI, hasW, *] using h) | (simp only [Int32.lt_iff_toInt_lt, Int32.le_iff_toInt_le, Int32.reduceToInt] at *; omega)
theorem s_X7_cutTo {d : Nat} (hd : 1 ≤ d) : Snd d 217 pf_X7_cutTo := by
  intro args M k h
  unfold pf_X7_cutTo at h
  split at h
  · exact c_X7_cutTo hd h
  · exact h.elim
theorem s4_n {s : Int32} (h : shOK s) : ∃ t, t < 4 ∧ s = nI t := by
  obtain ⟨i, hi, e⟩ := nI_of h.1
  have := h.2
  rw [e, show (4 : Int32) = nI 4 from rfl, nI_leI (by omega) hi] at this
  exact ⟨i, by omega, e⟩
theorem p40 (s t : Nat) : (40 : Int32) * nI s + nI t = nI (40 * s + t) := by
  rw [show (40 : Int32) = nI 40 from rfl, pk_mul, nI_add]
/-- zeros from place b on, n of them -/
def zrF (b n : Nat) (f : Nat → Int32) : Nat → Int32 := fun j => if b ≤ j ∧ j < b + n then 0 else f j
theorem zrF_0 {b : Nat} {f : Nat → Int32} : zrF b 0 f = f := by
  funext j
  unfold zrF
  rw [if_neg (by omega)]
theorem zrF_s {b n : Nat} {f : Nat → Int32} : upd (zrF b n f) (b + n) 0 = zrF b (n + 1) f := by
  funext j
  unfold upd zrF
  by_cases h : j = b + n
  · rw [if_pos h, if_pos (by omega)]
  · rw [if_neg h]
    by_cases h2 : b ≤ j ∧ j < b + n
    · rw [if_pos h2, if_pos (by omega)]
    · rw [if_neg h2, if_neg (by omega)]
def shM (M : Mem) (s b n : Int32) : Mem := mrow (mset (mset M 70 (s).toNatClampNeg b) 71 (s).toNatClampNeg n) 72 (zrF (40 * (s).toNatClampNeg) 40 (M 72))
set_option maxRecDepth 100000 in
set_option maxHeartbeats 4000000 in
theorem lp_sheetM {d : Nat} {M : Mem} {k : Value → Mem → Prop} {b n : Int32} {s : Nat} (hs : s < 4) (h : k (.int (M 71 s)) (mrow M 72 (zrF (40 * s) 40 (M 72)))) : ∀ (m i : Nat), i + m = 40 → WP (7, yX7_sheet, cX7_sheet, 5, (some .int)) (d + 1) k 86 [.ref 59, .int (nI s), .int b, .int n, .int (nI i)] [] (mrow M 72 (zrF (40 * s) i (M 72))) := by
  have cs : (nI s).toNatClampNeg = s := nI_clamp (by omega)
  have ct : (nI s).toInt = (s : Int) := nI_toInt (by omega)
  intro m
  induction m with
  | zero =>
    intro i hi
    have : i = 40 := by omega
    subst this
    refine goV (n := 80) [] [86] T_nil ?_
    simp only [dX7_sheet_0, dX7_sheet_1, dX7_sheet_4, dX7_sheet_7, dX7_sheet_8, dX7_sheet_11, dX7_sheet_12, dX7_sheet_14, dX7_sheet_17, dX7_sheet_18, dX7_sheet_20, dX7_sheet_23, dX7_sheet_24, dX7_sheet_26, dX7_sheet_29, dX7_sheet_30, dX7_sheet_32, dX7_sheet_35, dX7_sheet_36, dX7_sheet_37, dX7_sheet_40, dX7_sheet_41, dX7_sheet_44, dX7_sheet_47, dX7_sheet_48, dX7_sheet_49, dX7_sheet_51, dX7_sheet_54, dX7_sheet_55, dX7_sheet_57, dX7_sheet_60, dX7_sheet_61, dX7_sheet_62, dX7_sheet_65, dX7_sheet_66, dX7_sheet_67, dX7_sheet_68, dX7_sheet_69, dX7_sheet_72, dX7_sheet_73, dX7_sheet_74, dX7_sheet_77, dX7_sheet_78, dX7_sheet_81, dX7_sheet_82, dX7_sheet_83, dX7_sheet_84, dX7_sheet_86, dX7_sheet_88, dX7_sheet_90, dX7_sheet_93, dX7_sheet_94, dX7_sheet_97, dX7_sheet_99, dX7_sheet_100, dX7_sheet_101, dX7_sheet_103, dX7_sheet_104, dX7_sheet_105, dX7_sheet_106, dX7_sheet_109, dX7_sheet_112, dX7_sheet_113, dX7_sheet_116, dX7_sheet_117, dX7_sheet_118, cr_7_220, cr_7_75, fr_7_57, fr_7_60, fr_7_63, kr_7_328, kr_7_69, skr_7_328, skr_7_69, al_10, al_11, al_12, al_13, al_14, al_16, al_17, al_18, al_19, al_2, al_20, al_21, al_23, al_24, al_27, al_28, al_29, al_3, al_30, al_31, al_32, al_34, al_36, al_37, al_38, al_39, al_4, al_40, al_41, al_42, al_43, al_45, al_46, al_47, al_48, al_49, al_5, al_52, al_53, al_54, al_55, al_56, al_57, al_58, al_6, al_60, al_61, al_62, al_63, al_64, al_65, al_66, al_67, al_69, al_7, al_70, al_71, al_72, al_73, al_9, cat_i, cat_l, cat_r, cat_u, gf_6_22_59, gf_6_23_59, gf_6_24_59, pcl_0, pcl_1, pcl_100, pcl_101, pcl_102, pcl_103, pcl_104, pcl_105, pcl_106, pcl_107, pcl_108, pcl_109, pcl_110, pcl_111, pcl_112, pcl_15, pcl_22, pcl_25, pcl_26, pcl_33, pcl_44, pcl_50, pcl_59, pcl_8, rOK_i, rOK_z, v_aload_0, v_bipush_16, v_bipush_32, v_bipush_40, v_bipush_8, v_getfield, v_goto, v_iadd, v_iaload, v_iastore, v_ic_eq, v_ic_ge, v_ic_le, v_iconst_0, v_if_eq, v_if_ge, v_if_ne, v_iinc_4, v_iload_1, v_iload_2, v_iload_3, v_iload_4, v_imul, v_invs, v_invv, v_ireturn, v_istore_4, v_ldc, v_ldcw, vcS_1_1, vcV_2_6, vgf_i, vgf_r, vgf_s, vld_i, vld_s, vc_d, rr_0, rr_1, csT_h, csT_t, csT_n, bI_0, bI_1, bI_z, bT, List.mem_cons, List.not_mem_nil, List.length_cons, List.length_nil, ite_not, ↓reduceIte, true_and, and_true, not_true_eq_false, not_false_eq_true, false_or, or_false, or_true, true_or, Nat.reduceAdd, Nat.reduceEqDiff, Nat.reduceBEq, Nat.reduceLeDiff, Nat.reduceLT, Nat.reduceSub, Int.reduceAdd, Int.reduceLE, Int.reduceLT, Int.reduceToNat, Int.reduceNeg, Int.reduceNatCast', reduceCtorEq, Int32.reduceOfInt, Int32.reduceOfNat, Int32.reduceToNatClampNeg, Int32.reduceToInt, i10, i01, nEM, show (40 : Int32) ≤ nI 40 from by decide, cs, ct, mrow_n]
    exact ⟨by omega, h⟩
  | succ m ih =>
    intro i hi
    refine goV (n := 80) [] [86] T_nil ?_
    have c1 : ¬ (40 : Int32) ≤ nI i := nI_ge (b := 40) (by omega) (by decide)
    have c2 : (nI (40 * s + i)).toInt = ((40 * s + i : Nat) : Int) := nI_toInt (by omega)
    have c3 : (nI (40 * s + i)).toNatClampNeg = 40 * s + i := nI_clamp (by omega)
    simp only [dX7_sheet_0, dX7_sheet_1, dX7_sheet_4, dX7_sheet_7, dX7_sheet_8, dX7_sheet_11, dX7_sheet_12, dX7_sheet_14, dX7_sheet_17, dX7_sheet_18, dX7_sheet_20, dX7_sheet_23, dX7_sheet_24, dX7_sheet_26, dX7_sheet_29, dX7_sheet_30, dX7_sheet_32, dX7_sheet_35, dX7_sheet_36, dX7_sheet_37, dX7_sheet_40, dX7_sheet_41, dX7_sheet_44, dX7_sheet_47, dX7_sheet_48, dX7_sheet_49, dX7_sheet_51, dX7_sheet_54, dX7_sheet_55, dX7_sheet_57, dX7_sheet_60, dX7_sheet_61, dX7_sheet_62, dX7_sheet_65, dX7_sheet_66, dX7_sheet_67, dX7_sheet_68, dX7_sheet_69, dX7_sheet_72, dX7_sheet_73, dX7_sheet_74, dX7_sheet_77, dX7_sheet_78, dX7_sheet_81, dX7_sheet_82, dX7_sheet_83, dX7_sheet_84, dX7_sheet_86, dX7_sheet_88, dX7_sheet_90, dX7_sheet_93, dX7_sheet_94, dX7_sheet_97, dX7_sheet_99, dX7_sheet_100, dX7_sheet_101, dX7_sheet_103, dX7_sheet_104, dX7_sheet_105, dX7_sheet_106, dX7_sheet_109, dX7_sheet_112, dX7_sheet_113, dX7_sheet_116, dX7_sheet_117, dX7_sheet_118, cr_7_220, cr_7_75, fr_7_57, fr_7_60, fr_7_63, kr_7_328, kr_7_69, skr_7_328, skr_7_69, al_10, al_11, al_12, al_13, al_14, al_16, al_17, al_18, al_19, al_2, al_20, al_21, al_23, al_24, al_27, al_28, al_29, al_3, al_30, al_31, al_32, al_34, al_36, al_37, al_38, al_39, al_4, al_40, al_41, al_42, al_43, al_45, al_46, al_47, al_48, al_49, al_5, al_52, al_53, al_54, al_55, al_56, al_57, al_58, al_6, al_60, al_61, al_62, al_63, al_64, al_65, al_66, al_67, al_69, al_7, al_70, al_71, al_72, al_73, al_9, cat_i, cat_l, cat_r, cat_u, gf_6_22_59, gf_6_23_59, gf_6_24_59, pcl_0, pcl_1, pcl_100, pcl_101, pcl_102, pcl_103, pcl_104, pcl_105, pcl_106, pcl_107, pcl_108, pcl_109, pcl_110, pcl_111, pcl_112, pcl_15, pcl_22, pcl_25, pcl_26, pcl_33, pcl_44, pcl_50, pcl_59, pcl_8, rOK_i, rOK_z, v_aload_0, v_bipush_16, v_bipush_32, v_bipush_40, v_bipush_8, v_getfield, v_goto, v_iadd, v_iaload, v_iastore, v_ic_eq, v_ic_ge, v_ic_le, v_iconst_0, v_if_eq, v_if_ge, v_if_ne, v_iinc_4, v_iload_1, v_iload_2, v_iload_3, v_iload_4, v_imul, v_invs, v_invv, v_ireturn, v_istore_4, v_ldc, v_ldcw, vcS_1_1, vcV_2_6, vgf_i, vgf_r, vgf_s, vld_i, vld_s, vc_d, rr_0, rr_1, csT_h, csT_t, csT_n, bI_0, bI_1, bI_z, bT, List.mem_cons, List.not_mem_nil, List.length_cons, List.length_nil, ite_not, ↓reduceIte, true_and, and_true, not_true_eq_false, not_false_eq_true, false_or, or_false, or_true, true_or, Nat.reduceAdd, Nat.reduceEqDiff, Nat.reduceBEq, Nat.reduceLeDiff, Nat.reduceLT, Nat.reduceSub, Int.reduceAdd, Int.reduceLE, Int.reduceLT, Int.reduceToNat, Int.reduceNeg, Int.reduceNatCast', reduceCtorEq, Int32.reduceOfInt, Int32.reduceOfNat, Int32.reduceToNatClampNeg, Int32.reduceToInt, i10, i01, nEM, c1, p40, c2, c3, nI_1, mset, mrow_s, mrow_mrow, zrF_s]
    exact ⟨by omega, ih (i + 1) (by omega)⟩
def pf_X7_sheet : PF := fun args M k => match args with
  | [.ref o, .int s, .int b, .int n] => (o = 59) ∧ (if shOK s ∧ okB b then (if n < 0 then k (.int (-1000007)) (fndM M 6) else if 40 < n then k (.int (-1000001)) (fndM M 0) else k (.int (if b = 0 then 0 else n)) (shM M s b (if b = 0 then 0 else n))) else k (.int (-1000001)) (fndM M 0))
  | _ => False
theorem pe_X7_sheet {o : Nat} {s : Int32} {b : Int32} {n : Int32} {M : Mem} {k : Value → Mem → Prop} : pf_X7_sheet [.ref o, .int s, .int b, .int n] M k = ((o = 59) ∧ (if shOK s ∧ okB b then (if n < 0 then k (.int (-1000007)) (fndM M 6) else if 40 < n then k (.int (-1000001)) (fndM M 0) else k (.int (if b = 0 then 0 else n)) (shM M s b (if b = 0 then 0 else n))) else k (.int (-1000001)) (fndM M 0))) := rfl
theorem le_X7_sheet {o : Nat} {s : Int32} {b : Int32} {n : Int32} : lent 5 ([.ref o, .int s, .int b, .int n] : List Value) = [.ref o, .int s, .int b, .int n, .retAddr 0] := rfl
set_option maxRecDepth 100000 in
set_option maxHeartbeats 4000000 in
theorem c_X7_sheet {d : Nat} (hd : 3 ≤ d) {o : Nat} {s : Int32} {b : Int32} {n : Int32} {M : Mem} {k : Value → Mem → Prop} (h : (o = 59) ∧ (if shOK s ∧ okB b then (if n < 0 then k (.int (-1000007)) (fndM M 6) else if 40 < n then k (.int (-1000001)) (fndM M 0) else k (.int (if b = 0 then 0 else n)) (shM M s b (if b = 0 then 0 else n))) else k (.int (-1000001)) (fndM M 0))) : CallP d 218 [.ref o, .int s, .int b, .int n] M k := by
  obtain ⟨hp, h⟩ := h
  obtain ⟨d, rfl⟩ : ∃ d', d = d' + 1 := ⟨d - 1, by omega⟩
  obtain rfl := hp
  · refine enterV (n := 80) [(216, pf_X7_isSheet), (125, pf_X7_finding)] [86] mI_218 (by decide) (Nat.le_of_ble_eq_true rfl) (T_cons (s_X7_isSheet (by omega)) (T_cons (s_X7_finding (by omega)) T_nil)) ?_
    rw [le_X7_sheet]
    simp only [dX7_sheet_0, dX7_sheet_1, dX7_sheet_4, dX7_sheet_7, dX7_sheet_8, dX7_sheet_11, dX7_sheet_12, dX7_sheet_14, dX7_sheet_17, dX7_sheet_18, dX7_sheet_20, dX7_sheet_23, dX7_sheet_24, dX7_sheet_26, dX7_sheet_29, dX7_sheet_30, dX7_sheet_32, dX7_sheet_35, dX7_sheet_36, dX7_sheet_37, dX7_sheet_40, dX7_sheet_41, dX7_sheet_44, dX7_sheet_47, dX7_sheet_48, dX7_sheet_49, dX7_sheet_51, dX7_sheet_54, dX7_sheet_55, dX7_sheet_57, dX7_sheet_60, dX7_sheet_61, dX7_sheet_62, dX7_sheet_65, dX7_sheet_66, dX7_sheet_67, dX7_sheet_68, dX7_sheet_69, dX7_sheet_72, dX7_sheet_73, dX7_sheet_74, dX7_sheet_77, dX7_sheet_78, dX7_sheet_81, dX7_sheet_82, dX7_sheet_83, dX7_sheet_84, dX7_sheet_86, dX7_sheet_88, dX7_sheet_90, dX7_sheet_93, dX7_sheet_94, dX7_sheet_97, dX7_sheet_99, dX7_sheet_100, dX7_sheet_101, dX7_sheet_103, dX7_sheet_104, dX7_sheet_105, dX7_sheet_106, dX7_sheet_109, dX7_sheet_112, dX7_sheet_113, dX7_sheet_116, dX7_sheet_117, dX7_sheet_118, cr_7_220, cr_7_75, fr_7_57, fr_7_60, fr_7_63, kr_7_328, kr_7_69, skr_7_328, skr_7_69, al_10, al_11, al_12, al_13, al_14, al_16, al_17, al_18, al_19, al_2, al_20, al_21, al_23, al_24, al_27, al_28, al_29, al_3, al_30, al_31, al_32, al_34, al_36, al_37, al_38, al_39, al_4, al_40, al_41, al_42, al_43, al_45, al_46, al_47, al_48, al_49, al_5, al_52, al_53, al_54, al_55, al_56, al_57, al_58, al_6, al_60, al_61, al_62, al_63, al_64, al_65, al_66, al_67, al_69, al_7, al_70, al_71, al_72, al_73, al_9, cat_i, cat_l, cat_r, cat_u, gf_6_22_59, gf_6_23_59, gf_6_24_59, pcl_0, pcl_1, pcl_100, pcl_101, pcl_102, pcl_103, pcl_104, pcl_105, pcl_106, pcl_107, pcl_108, pcl_109, pcl_110, pcl_111, pcl_112, pcl_15, pcl_22, pcl_25, pcl_26, pcl_33, pcl_44, pcl_50, pcl_59, pcl_8, rOK_i, rOK_z, v_aload_0, v_bipush_16, v_bipush_32, v_bipush_40, v_bipush_8, v_getfield, v_goto, v_iadd, v_iaload, v_iastore, v_ic_eq, v_ic_ge, v_ic_le, v_iconst_0, v_if_eq, v_if_ge, v_if_ne, v_iinc_4, v_iload_1, v_iload_2, v_iload_3, v_iload_4, v_imul, v_invs, v_invv, v_ireturn, v_istore_4, v_ldc, v_ldcw, vcS_1_1, vcV_2_6, vgf_i, vgf_r, vgf_s, vld_i, vld_s, vc_d, rr_0, rr_1, csT_h, csT_t, csT_n, bI_0, bI_1, bI_z, bT, List.mem_cons, List.not_mem_nil, List.length_cons, List.length_nil, ite_not, ↓reduceIte, true_and, and_true, not_true_eq_false, not_false_eq_true, false_or, or_false, or_true, true_or, Nat.reduceAdd, Nat.reduceEqDiff, Nat.reduceBEq, Nat.reduceLeDiff, Nat.reduceLT, Nat.reduceSub, Int.reduceAdd, Int.reduceLE, Int.reduceLT, Int.reduceToNat, Int.reduceNeg, Int.reduceNatCast', reduceCtorEq, Int32.reduceOfInt, Int32.reduceOfNat, Int32.reduceToNatClampNeg, Int32.reduceToInt, i10, i01, nEM, pe_X7_isSheet, fn_0, fn_1, fn_2, fn_3, fn_4, fn_5, fn_6, sh_m]
    by_cases h1 : shOK s
    · rw [if_pos h1]
      obtain ⟨t, ht, rfl⟩ := s4_n h1
      have ct : (nI t).toNatClampNeg = t := nI_clamp (by omega)
      have ci : (nI t).toInt = (t : Int) := nI_toInt (by omega)
      simp only [ct, ci]
      by_cases hb : okB b
      · rw [if_pos ⟨h1, hb⟩] at h
        have G : ∀ x, k (.int x) (shM M (nI t) b x) → WP (7, yX7_sheet, cX7_sheet, 5, (some .int)) (d + 1) k 86 [.ref 59, .int (nI t), .int b, .int n, .int 0] [] (mset (mset M 70 t b) 71 t x) := by
          intro x hx
          unfold shM at hx
          rw [ct] at hx
          have := lp_sheetM (d := d) (M := mset (mset M 70 t b) 71 t x) (k := k) (b := b) (n := n) ht (by rw [mset_s, upd_s, mset_n (by decide), mset_n (by decide)]; exact hx) 40 0 rfl
          rw [zrF_0, mrow_self] at this
          exact this
        have F : if 0 ≤ n then (if n ≤ 40 then ((0 ≤ (t : Int) ∧ (t : Int) < (4 : Nat)) ∧ (if b = 0 then ((0 ≤ (t : Int) ∧ (t : Int) < (4 : Nat)) ∧ WP (7, yX7_sheet, cX7_sheet, 5, (some .int)) (d + 1) k 86 [.ref 59, .int (nI t), .int b, .int n, .int 0] [] (mset (mset M 70 t b) 71 t 0)) else ((0 ≤ (t : Int) ∧ (t : Int) < (4 : Nat)) ∧ WP (7, yX7_sheet, cX7_sheet, 5, (some .int)) (d + 1) k 86 [.ref 59, .int (nI t), .int b, .int n, .int 0] [] (mset (mset M 70 t b) 71 t n)))) else k (.int (-1000001)) (fndM M 0)) else k (.int (-1000007)) (fndM M 6) := by
          by_cases hn : n < 0
          · rw [if_pos hn] at h
            rw [if_neg (fun z => Int32.not_lt.mpr z hn)]
            exact h
          · rw [if_neg hn] at h
            rw [if_pos (Int32.not_lt.mp hn)]
            by_cases hn2 : 40 < n
            · rw [if_pos hn2] at h
              rw [if_neg (fun z => Int32.not_lt.mpr z hn2)]
              exact h
            · rw [if_neg hn2] at h
              rw [if_pos (Int32.not_lt.mp hn2)]
              refine ⟨by omega, ?_⟩
              by_cases e0 : b = 0
              · rw [if_pos e0] at h
                rw [if_pos e0]
                exact ⟨by omega, G 0 h⟩
              · rw [if_neg e0] at h
                rw [if_neg e0]
                exact ⟨by omega, G n h⟩
        have hbb : (b = 0) ∨ (¬ b = 0 ∧ (b = 8 ∨ ¬ b = 8 ∧ (b = 16 ∨ ¬ b = 16 ∧ b = 32))) := by
          rcases hb with rfl | rfl | rfl | rfl <;> decide
        rcases hbb with e0 | ⟨e0, e1 | ⟨e1, e2 | ⟨e2, e3⟩⟩⟩
        · rw [if_pos e0]; exact F
        · rw [if_neg e0, if_pos e1]; exact F
        · rw [if_neg e0, if_neg e1, if_pos e2]; exact F
        · rw [if_neg e0, if_neg e1, if_neg e2, if_pos e3]; exact F
      · have e : ¬ b = 0 ∧ ¬ b = 8 ∧ ¬ b = 16 ∧ ¬ b = 32 := by
          refine ⟨fun z => hb (Or.inl z), fun z => hb (Or.inr (Or.inl z)), fun z => hb (Or.inr (Or.inr (Or.inl z))), fun z => hb (Or.inr (Or.inr (Or.inr z)))⟩
        rw [if_neg (fun z => hb z.2)] at h
        simp only [e.1, e.2.1, e.2.2.1, e.2.2.2, if_false]
        exact h
    · rw [if_neg (fun z => h1 z.1)] at h
      rw [if_neg h1]
      exact h

theorem s_X7_sheet {d : Nat} (hd : 3 ≤ d) : Snd d 218 pf_X7_sheet := by
  intro args M k h
  unfold pf_X7_sheet at h
  split at h
  · exact c_X7_sheet hd h
  · exact h.elim
def fdG (M : Mem) (s : Int32) : Int32 := if shOK s then (if M 70 (s).toNatClampNeg = 0 then -1000006 else 0) else -1000001
theorem fg0 {M : Mem} {s : Int32} (h : fdG M s = 0) : shOK s ∧ ¬ M 70 (s).toNatClampNeg = 0 := by
  unfold fdG at h
  by_cases q : shOK s
  · rw [if_pos q] at h
    by_cases z : M 70 (s).toNatClampNeg = 0
    · rw [if_pos z] at h
      exact absurd h (by decide)
    · exact ⟨q, z⟩
  · rw [if_neg q] at h
    exact absurd h (by decide)
theorem fg_fn {M : Mem} {s : Int32} (h : ¬ fdG M s = 0) {k : Value → Mem → Prop} : pf_X7_finding [.ref 59, .int (fdG M s)] M k = k (.int (fdG M s)) (fndM M (-1000001 - fdG M s).toNatClampNeg) := by
  unfold fdG at h ⊢
  split
  · rename_i q
    rw [if_pos q] at h
    split
    · exact fn_5
    · rename_i z
      rw [if_neg z] at h
      exact absurd rfl h
  · exact fn_0
def pf_X7_lacks : PF := fun args M k => match args with
  | [.ref o, .int s] => (o = 59) ∧ (k (.int (fdG M s)) M)
  | _ => False
theorem pe_X7_lacks {o : Nat} {s : Int32} {M : Mem} {k : Value → Mem → Prop} : pf_X7_lacks [.ref o, .int s] M k = ((o = 59) ∧ (k (.int (fdG M s)) M)) := rfl
theorem le_X7_lacks {o : Nat} {s : Int32} : lent 2 ([.ref o, .int s] : List Value) = [.ref o, .int s] := rfl
set_option maxRecDepth 100000 in
set_option maxHeartbeats 4000000 in
theorem c_X7_lacks {d : Nat} (hd : 3 ≤ d) {o : Nat} {s : Int32} {M : Mem} {k : Value → Mem → Prop} (h : (o = 59) ∧ (k (.int (fdG M s)) M)) : CallP d 189 [.ref o, .int s] M k := by
  obtain ⟨hp, h⟩ := h
  obtain ⟨d, rfl⟩ : ∃ d', d = d' + 1 := ⟨d - 1, by omega⟩
  obtain rfl := hp
  · refine enterV (n := 80) [(216, pf_X7_isSheet)] [] mI_189 (by decide) (Nat.le_of_ble_eq_true rfl) (T_cons (s_X7_isSheet (by omega)) T_nil) ?_
    rw [le_X7_lacks]
    unfold fdG at h
    simp only [dX7_lacks_0, dX7_lacks_1, dX7_lacks_4, dX7_lacks_7, dX7_lacks_9, dX7_lacks_12, dX7_lacks_13, dX7_lacks_16, dX7_lacks_17, dX7_lacks_18, dX7_lacks_21, dX7_lacks_23, dX7_lacks_26, dX7_lacks_27, cr_7_220, fr_7_57, kr_7_223, kr_7_69, skr_7_223, skr_7_69, al_10, al_11, al_12, al_13, al_14, al_16, al_17, al_18, al_19, al_2, al_20, al_21, al_23, al_24, al_27, al_28, al_29, al_3, al_30, al_31, al_32, al_34, al_36, al_37, al_38, al_39, al_4, al_40, al_41, al_42, al_43, al_45, al_46, al_47, al_48, al_49, al_5, al_52, al_53, al_54, al_55, al_56, al_57, al_58, al_6, al_60, al_61, al_62, al_63, al_64, al_65, al_66, al_67, al_69, al_7, al_70, al_71, al_72, al_73, al_9, gf_6_22_59, rOK_i, rOK_z, v_aload_0, v_getfield, v_goto, v_iaload, v_iconst_0, v_if_ne, v_iload_1, v_invs, v_ireturn, v_ldc, vcS_1_1, vgf_i, vgf_r, vgf_s, vld_i, vld_s, vc_d, rr_0, rr_1, csT_h, csT_t, csT_n, bI_0, bI_1, bI_z, bT, List.mem_cons, List.not_mem_nil, List.length_cons, List.length_nil, ite_not, ↓reduceIte, true_and, and_true, not_true_eq_false, not_false_eq_true, false_or, or_false, or_true, true_or, Nat.reduceAdd, Nat.reduceEqDiff, Nat.reduceBEq, Nat.reduceLeDiff, Nat.reduceLT, Nat.reduceSub, Int.reduceAdd, Int.reduceLE, Int.reduceLT, Int.reduceToNat, Int.reduceNeg, Int.reduceNatCast', reduceCtorEq, Int32.reduceOfInt, Int32.reduceOfNat, Int32.reduceToNatClampNeg, Int32.reduceToInt, i10, i01, nEM, pe_X7_isSheet, sh_m]
    by_cases hs : shOK s
    · rw [if_pos hs] at h ⊢
      refine ⟨bd hs.1 hs.2 rfl, ?_⟩
      by_cases h0 : M 70 (s).toNatClampNeg = 0
      · rw [if_pos h0] at h ⊢
        exact h
      · rw [if_neg h0] at h ⊢
        exact h
    · rw [if_neg hs] at h ⊢
      exact h

theorem s_X7_lacks {d : Nat} (hd : 3 ≤ d) : Snd d 189 pf_X7_lacks := by
  intro args M k h
  unfold pf_X7_lacks at h
  split at h
  · exact c_X7_lacks hd h
  · exact h.elim
/-- sizes of the model's sheets -/
def ZM (M : Mem) : Prop := ∀ t, t < 4 → ∃ m, m ≤ 40 ∧ M 71 t = nI m
def pf_X7_write : PF := fun args M k => match args with
  | [.ref o, .int s, .int i, .int v] => (o = 59 ∧ ZM M) ∧ (if ¬ fdG M s = 0 then k (.int (fdG M s)) (fndM M (-1000001 - fdG M s).toNatClampNeg) else if ¬ i < 0 ∧ ¬ M 71 (s).toNatClampNeg ≤ i then k (.int 1) (mset M 72 (40 * (s).toNatClampNeg + (i).toNatClampNeg) (cutF (M 70 (s).toNatClampNeg) v)) else k (.int (-1000001)) (fndM M 0))
  | _ => False
theorem pe_X7_write {o : Nat} {s : Int32} {i : Int32} {v : Int32} {M : Mem} {k : Value → Mem → Prop} : pf_X7_write [.ref o, .int s, .int i, .int v] M k = ((o = 59 ∧ ZM M) ∧ (if ¬ fdG M s = 0 then k (.int (fdG M s)) (fndM M (-1000001 - fdG M s).toNatClampNeg) else if ¬ i < 0 ∧ ¬ M 71 (s).toNatClampNeg ≤ i then k (.int 1) (mset M 72 (40 * (s).toNatClampNeg + (i).toNatClampNeg) (cutF (M 70 (s).toNatClampNeg) v)) else k (.int (-1000001)) (fndM M 0))) := rfl
theorem le_X7_write {o : Nat} {s : Int32} {i : Int32} {v : Int32} : lent 4 ([.ref o, .int s, .int i, .int v] : List Value) = [.ref o, .int s, .int i, .int v] := rfl
set_option maxRecDepth 100000 in
set_option maxHeartbeats 4000000 in
theorem c_X7_write {d : Nat} (hd : 3 ≤ d) {o : Nat} {s : Int32} {i : Int32} {v : Int32} {M : Mem} {k : Value → Mem → Prop} (h : (o = 59 ∧ ZM M) ∧ (if ¬ fdG M s = 0 then k (.int (fdG M s)) (fndM M (-1000001 - fdG M s).toNatClampNeg) else if ¬ i < 0 ∧ ¬ M 71 (s).toNatClampNeg ≤ i then k (.int 1) (mset M 72 (40 * (s).toNatClampNeg + (i).toNatClampNeg) (cutF (M 70 (s).toNatClampNeg) v)) else k (.int (-1000001)) (fndM M 0))) : CallP d 219 [.ref o, .int s, .int i, .int v] M k := by
  obtain ⟨hp, h⟩ := h
  obtain ⟨d, rfl⟩ : ∃ d', d = d' + 1 := ⟨d - 1, by omega⟩
  obtain ⟨rfl, hz⟩ := hp
  · refine enterV (n := 80) [(216, pf_X7_isSheet), (125, pf_X7_finding), (126, pf_X7_within), (217, pf_X7_cutTo)] [] mI_219 (by decide) (Nat.le_of_ble_eq_true rfl) (T_cons (s_X7_isSheet (by omega)) (T_cons (s_X7_finding (by omega)) (T_cons (s_X7_within (by omega)) (T_cons (s_X7_cutTo (by omega)) T_nil)))) ?_
    rw [le_X7_write]
    simp only [dX7_write_0, dX7_write_1, dX7_write_4, dX7_write_7, dX7_write_8, dX7_write_10, dX7_write_13, dX7_write_14, dX7_write_15, dX7_write_18, dX7_write_19, dX7_write_20, dX7_write_23, dX7_write_24, dX7_write_26, dX7_write_29, dX7_write_30, dX7_write_31, dX7_write_32, dX7_write_33, dX7_write_36, dX7_write_37, dX7_write_38, dX7_write_39, dX7_write_40, dX7_write_43, dX7_write_46, dX7_write_47, dX7_write_49, dX7_write_52, dX7_write_53, dX7_write_54, dX7_write_57, dX7_write_59, dX7_write_60, dX7_write_61, dX7_write_62, dX7_write_63, dX7_write_64, dX7_write_65, dX7_write_68, dX7_write_69, dX7_write_70, dX7_write_73, dX7_write_74, dX7_write_75, cr_7_220, cr_7_329, cr_7_75, cr_7_88, fr_7_57, fr_7_60, fr_7_63, kr_7_223, kr_7_69, skr_7_223, skr_7_69, al_10, al_11, al_12, al_13, al_14, al_16, al_17, al_18, al_19, al_2, al_20, al_21, al_23, al_24, al_27, al_28, al_29, al_3, al_30, al_31, al_32, al_34, al_36, al_37, al_38, al_39, al_4, al_40, al_41, al_42, al_43, al_45, al_46, al_47, al_48, al_49, al_5, al_52, al_53, al_54, al_55, al_56, al_57, al_58, al_6, al_60, al_61, al_62, al_63, al_64, al_65, al_66, al_67, al_69, al_7, al_70, al_71, al_72, al_73, al_9, gf_6_22_59, gf_6_23_59, gf_6_24_59, pcl_0, pcl_1, pcl_100, pcl_101, pcl_102, pcl_103, pcl_104, pcl_105, pcl_106, pcl_107, pcl_108, pcl_109, pcl_110, pcl_111, pcl_112, pcl_15, pcl_22, pcl_25, pcl_26, pcl_33, pcl_44, pcl_50, pcl_59, pcl_8, rOK_i, rOK_z, v_aload_0, v_bipush_40, v_getfield, v_iadd, v_iaload, v_iastore, v_iconst_0, v_iconst_1, v_if_ne, v_iload_1, v_iload_2, v_iload_3, v_imul, v_invs, v_invv, v_ireturn, v_isub, v_ldc, vcS_1_1, vcS_2_1, vcS_3_1, vcV_2_6, vgf_i, vgf_r, vgf_s, vld_i, vld_s, vc_d, rr_0, rr_1, csT_h, csT_t, csT_n, bI_0, bI_1, bI_z, bT, List.mem_cons, List.not_mem_nil, List.length_cons, List.length_nil, ite_not, ↓reduceIte, true_and, and_true, not_true_eq_false, not_false_eq_true, false_or, or_false, or_true, true_or, Nat.reduceAdd, Nat.reduceEqDiff, Nat.reduceBEq, Nat.reduceLeDiff, Nat.reduceLT, Nat.reduceSub, Int.reduceAdd, Int.reduceLE, Int.reduceLT, Int.reduceToNat, Int.reduceNeg, Int.reduceNatCast', reduceCtorEq, Int32.reduceOfInt, Int32.reduceOfNat, Int32.reduceToNatClampNeg, Int32.reduceToInt, i10, i01, nEM, pe_X7_isSheet, fn_0, fn_1, fn_2, fn_3, fn_4, fn_5, fn_6, pe_X7_within, pe_X7_cutTo, sh_m]
    unfold fdG at h
    by_cases hs : shOK s
    · rw [if_pos hs]
      rw [if_pos hs] at h
      obtain ⟨t, ht, rfl⟩ := s4_n hs
      have ct : (nI t).toNatClampNeg = t := nI_clamp (by omega)
      have ci : (nI t).toInt = (t : Int) := nI_toInt (by omega)
      simp only [ct, ci] at h ⊢
      refine ⟨by omega, ?_⟩
      by_cases h0 : M 70 t = 0
      · rw [if_pos h0] at h ⊢
        rw [if_pos (by decide)] at h
        exact h
      · rw [if_neg h0] at h ⊢
        rw [if_neg (fun z => z rfl)] at h
        refine ⟨by omega, ?_⟩
        obtain ⟨m, hm, e⟩ := hz t ht
        have key : (¬ i < 0 ∧ ¬ M 71 t - 1 < i) = (¬ i < 0 ∧ ¬ M 71 t ≤ i) := by
          apply propext
          rw [e]
          constructor
          · rintro ⟨a, b⟩
            obtain ⟨j, hj, rfl⟩ := nI_of a
            refine ⟨a, fun z => b ?_⟩
            rw [nI_leI (by omega) hj] at z
            rw [Int32.lt_iff_toInt_lt, nI_toInt hj]
            cases m with
            | zero => rw [show (nI 0 - 1).toInt = -1 from by decide]; omega
            | succ m => rw [nI_pred, nI_toInt (by omega)]; omega
          · rintro ⟨a, b⟩
            obtain ⟨j, hj, rfl⟩ := nI_of a
            refine ⟨a, fun z => b ?_⟩
            rw [nI_leI (by omega) hj]
            rw [Int32.lt_iff_toInt_lt, nI_toInt hj] at z
            cases m with
            | zero => omega
            | succ m => rw [nI_pred, nI_toInt (by omega)] at z; omega
        simp only [key]
        by_cases h2 : ¬ i < 0 ∧ ¬ M 71 t ≤ i
        · rw [if_pos h2] at h ⊢
          obtain ⟨j, hj, rfl⟩ := nI_of h2.1
          have hjm : j < m := by
            have := h2.2
            rw [e, nI_leI (by omega) hj] at this
            omega
          rw [nI_clamp hj] at h
          rw [p40, nI_clamp (by omega), nI_toInt (by omega)]
          exact ⟨by omega, by omega, h⟩
        · rw [if_neg h2] at h ⊢
          exact h
    · rw [if_neg hs]
      rw [if_neg hs, if_pos (by decide)] at h
      exact h

theorem s_X7_write {d : Nat} (hd : 3 ≤ d) : Snd d 219 pf_X7_write := by
  intro args M k h
  unfold pf_X7_write at h
  split at h
  · exact c_X7_write hd h
  · exact h.elim
def pf_X7_image : PF := fun args M k => match args with
  | [.ref o] => (o = 59) ∧ (k (.int 1) (mset (mrow M 61 (cpN 50 (M 60) (M 61))) 59 3 1))
  | _ => False
theorem pe_X7_image {o : Nat} {M : Mem} {k : Value → Mem → Prop} : pf_X7_image [.ref o] M k = ((o = 59) ∧ (k (.int 1) (mset (mrow M 61 (cpN 50 (M 60) (M 61))) 59 3 1))) := rfl
theorem le_X7_image {o : Nat} : lent 1 ([.ref o] : List Value) = [.ref o] := rfl
set_option maxRecDepth 100000 in
set_option maxHeartbeats 4000000 in
theorem c_X7_image {d : Nat} (hd : 2 ≤ d) {o : Nat} {M : Mem} {k : Value → Mem → Prop} (h : (o = 59) ∧ (k (.int 1) (mset (mrow M 61 (cpN 50 (M 60) (M 61))) 59 3 1))) : CallP d 225 [.ref o] M k := by
  obtain ⟨hp, h⟩ := h
  obtain ⟨d, rfl⟩ : ∃ d', d = d' + 1 := ⟨d - 1, by omega⟩
  obtain rfl := hp
  · refine enterV (n := 80) [(128, pf_X7_copyRow)] [] mI_225 (by decide) (Nat.le_of_ble_eq_true rfl) (T_cons (s_X7_copyRow (by omega)) T_nil) ?_
    rw [le_X7_image]
    simp only [dX7_image_0, dX7_image_1, dX7_image_4, dX7_image_5, dX7_image_8, dX7_image_11, dX7_image_12, dX7_image_13, dX7_image_16, dX7_image_17, cr_7_70, fr_7_13, fr_7_335, fr_7_9, al_10, al_11, al_12, al_13, al_14, al_16, al_17, al_18, al_19, al_2, al_20, al_21, al_23, al_24, al_27, al_28, al_29, al_3, al_30, al_31, al_32, al_34, al_36, al_37, al_38, al_39, al_4, al_40, al_41, al_42, al_43, al_45, al_46, al_47, al_48, al_49, al_5, al_52, al_53, al_54, al_55, al_56, al_57, al_58, al_6, al_60, al_61, al_62, al_63, al_64, al_65, al_66, al_67, al_69, al_7, al_70, al_71, al_72, al_73, al_9, gf_6_0_59, gf_6_1_59, gf_6_3_59, pft_6_3, rOK_i, rOK_z, v_aload_0, v_getfield, v_iconst_1, v_invs, v_ireturn, v_putfield, vcS_2_1, vgf_i, vgf_r, vgf_s, vpf_s, vc_d, rr_0, rr_1, csT_h, csT_t, csT_n, bI_0, bI_1, bI_z, bT, List.mem_cons, List.not_mem_nil, List.length_cons, List.length_nil, ite_not, ↓reduceIte, true_and, and_true, not_true_eq_false, not_false_eq_true, false_or, or_false, or_true, true_or, Nat.reduceAdd, Nat.reduceEqDiff, Nat.reduceBEq, Nat.reduceLeDiff, Nat.reduceLT, Nat.reduceSub, Int.reduceAdd, Int.reduceLE, Int.reduceLT, Int.reduceToNat, Int.reduceNeg, Int.reduceNatCast', reduceCtorEq, Int32.reduceOfInt, Int32.reduceOfNat, Int32.reduceToNatClampNeg, Int32.reduceToInt, i10, i01, nEM, pe_X7_copyRow]
    exact h

theorem s_X7_image {d : Nat} (hd : 2 ≤ d) : Snd d 225 pf_X7_image := by
  intro args M k h
  unfold pf_X7_image at h
  split at h
  · exact c_X7_image hd h
  · exact h.elim
def pf_X7_undo : PF := fun args M k => match args with
  | [.ref o] => (o = 59) ∧ (if M 59 3 = 0 then k (.int (-1000004)) (fndM M 3) else k (.int (M 61 0)) (mrow M 60 (cpN 50 (M 61) (M 60))))
  | _ => False
theorem pe_X7_undo {o : Nat} {M : Mem} {k : Value → Mem → Prop} : pf_X7_undo [.ref o] M k = ((o = 59) ∧ (if M 59 3 = 0 then k (.int (-1000004)) (fndM M 3) else k (.int (M 61 0)) (mrow M 60 (cpN 50 (M 61) (M 60))))) := rfl
theorem le_X7_undo {o : Nat} : lent 1 ([.ref o] : List Value) = [.ref o] := rfl
set_option maxRecDepth 100000 in
set_option maxHeartbeats 4000000 in
theorem c_X7_undo {d : Nat} (hd : 2 ≤ d) {o : Nat} {M : Mem} {k : Value → Mem → Prop} (h : (o = 59) ∧ (if M 59 3 = 0 then k (.int (-1000004)) (fndM M 3) else k (.int (M 61 0)) (mrow M 60 (cpN 50 (M 61) (M 60))))) : CallP d 226 [.ref o] M k := by
  obtain ⟨hp, h⟩ := h
  obtain ⟨d, rfl⟩ : ∃ d', d = d' + 1 := ⟨d - 1, by omega⟩
  obtain rfl := hp
  · refine enterV (n := 80) [(128, pf_X7_copyRow), (125, pf_X7_finding)] [] mI_226 (by decide) (Nat.le_of_ble_eq_true rfl) (T_cons (s_X7_copyRow (by omega)) (T_cons (s_X7_finding (by omega)) T_nil)) ?_
    rw [le_X7_undo]
    simp only [dX7_undo_0, dX7_undo_1, dX7_undo_4, dX7_undo_7, dX7_undo_8, dX7_undo_10, dX7_undo_13, dX7_undo_14, dX7_undo_15, dX7_undo_18, dX7_undo_19, dX7_undo_22, dX7_undo_25, dX7_undo_26, dX7_undo_29, dX7_undo_30, dX7_undo_31, cr_7_70, cr_7_75, fr_7_13, fr_7_335, fr_7_9, kr_7_74, skr_7_74, al_10, al_11, al_12, al_13, al_14, al_16, al_17, al_18, al_19, al_2, al_20, al_21, al_23, al_24, al_27, al_28, al_29, al_3, al_30, al_31, al_32, al_34, al_36, al_37, al_38, al_39, al_4, al_40, al_41, al_42, al_43, al_45, al_46, al_47, al_48, al_49, al_5, al_52, al_53, al_54, al_55, al_56, al_57, al_58, al_6, al_60, al_61, al_62, al_63, al_64, al_65, al_66, al_67, al_69, al_7, al_70, al_71, al_72, al_73, al_9, gf_6_0_59, gf_6_1_59, gf_6_3_59, pcl_0, pcl_1, pcl_100, pcl_101, pcl_102, pcl_103, pcl_104, pcl_105, pcl_106, pcl_107, pcl_108, pcl_109, pcl_110, pcl_111, pcl_112, pcl_15, pcl_22, pcl_25, pcl_26, pcl_33, pcl_44, pcl_50, pcl_59, pcl_8, pft_6_3, rOK_i, rOK_z, v_aload_0, v_getfield, v_iaload, v_iconst_0, v_if_ne, v_invs, v_invv, v_ireturn, v_ldc, vcS_2_1, vcV_2_6, vgf_i, vgf_r, vgf_s, vld_i, vld_s, vc_d, rr_0, rr_1, csT_h, csT_t, csT_n, bI_0, bI_1, bI_z, bT, List.mem_cons, List.not_mem_nil, List.length_cons, List.length_nil, ite_not, ↓reduceIte, true_and, and_true, not_true_eq_false, not_false_eq_true, false_or, or_false, or_true, true_or, Nat.reduceAdd, Nat.reduceEqDiff, Nat.reduceBEq, Nat.reduceLeDiff, Nat.reduceLT, Nat.reduceSub, Int.reduceAdd, Int.reduceLE, Int.reduceLT, Int.reduceToNat, Int.reduceNeg, Int.reduceNatCast', reduceCtorEq, Int32.reduceOfInt, Int32.reduceOfNat, Int32.reduceToNatClampNeg, Int32.reduceToInt, i10, i01, nEM, pe_X7_copyRow, fn_0, fn_1, fn_2, fn_3, fn_4, fn_5, fn_6, mrow_s, cpN_lt (show 0 < 50 by decide)]
    by_cases h1 : M 59 3 = 0
    · rw [if_pos h1] at h ⊢
      exact h
    · rw [if_neg h1] at h ⊢
      exact h

theorem s_X7_undo {d : Nat} (hd : 2 ≤ d) : Snd d 226 pf_X7_undo := by
  intro args M k h
  unfold pf_X7_undo at h
  split at h
  · exact c_X7_undo hd h
  · exact h.elim
def pf_X7_tear : PF := fun args M k => match args with
  | [.ref o] => (o = 59 ∧ (M 59 3 = 0 ∨ M 59 3 = 1)) ∧ (k (.int (M 59 3)) (mset M 59 3 0))
  | _ => False
theorem pe_X7_tear {o : Nat} {M : Mem} {k : Value → Mem → Prop} : pf_X7_tear [.ref o] M k = ((o = 59 ∧ (M 59 3 = 0 ∨ M 59 3 = 1)) ∧ (k (.int (M 59 3)) (mset M 59 3 0))) := rfl
theorem le_X7_tear {o : Nat} : lent 2 ([.ref o] : List Value) = [.ref o, .retAddr 0] := rfl
set_option maxRecDepth 100000 in
set_option maxHeartbeats 4000000 in
theorem c_X7_tear {d : Nat} (hd : 1 ≤ d) {o : Nat} {M : Mem} {k : Value → Mem → Prop} (h : (o = 59 ∧ (M 59 3 = 0 ∨ M 59 3 = 1)) ∧ (k (.int (M 59 3)) (mset M 59 3 0))) : CallP d 227 [.ref o] M k := by
  obtain ⟨hp, h⟩ := h
  obtain ⟨d, rfl⟩ : ∃ d', d = d' + 1 := ⟨d - 1, by omega⟩
  obtain ⟨rfl, hz⟩ := hp
  · refine enterV (n := 80) [] [] mI_227 (by decide) (Nat.le_of_ble_eq_true rfl) T_nil ?_
    rw [le_X7_tear]
    simp only [dX7_tear_0, dX7_tear_1, dX7_tear_4, dX7_tear_7, dX7_tear_8, dX7_tear_11, dX7_tear_12, dX7_tear_13, dX7_tear_14, dX7_tear_15, dX7_tear_18, dX7_tear_19, fr_7_335, cat_i, cat_l, cat_r, cat_u, gf_6_3_59, pft_6_3, rOK_i, rOK_z, v_aload_0, v_getfield, v_goto, v_iconst_0, v_iconst_1, v_if_eq, v_iload_1, v_ireturn, v_istore_1, v_putfield, vgf_i, vgf_r, vgf_s, vpf_s, vc_d, rr_0, rr_1, csT_h, csT_t, csT_n, bI_0, bI_1, bI_z, bT, List.mem_cons, List.not_mem_nil, List.length_cons, List.length_nil, ite_not, ↓reduceIte, true_and, and_true, not_true_eq_false, not_false_eq_true, false_or, or_false, or_true, true_or, Nat.reduceAdd, Nat.reduceEqDiff, Nat.reduceBEq, Nat.reduceLeDiff, Nat.reduceLT, Nat.reduceSub, Int.reduceAdd, Int.reduceLE, Int.reduceLT, Int.reduceToNat, Int.reduceNeg, Int.reduceNatCast', reduceCtorEq, Int32.reduceOfInt, Int32.reduceOfNat, Int32.reduceToNatClampNeg, Int32.reduceToInt, i10, i01, nEM]
    rcases hz with hz | hz
    · rw [hz] at h ⊢
      rw [if_pos rfl]
      exact h
    · rw [hz] at h ⊢
      rw [if_neg (by decide)]
      exact h

theorem s_X7_tear {d : Nat} (hd : 1 ≤ d) : Snd d 227 pf_X7_tear := by
  intro args M k h
  unfold pf_X7_tear at h
  split at h
  · exact c_X7_tear hd h
  · exact h.elim
def pf_X7_status : PF := fun args M k => match args with
  | [.ref o, .int q] => (o = 59) ∧ (if ¬ q < -1 ∧ ¬ 6 < q then k (.int (M 63 (q + 1).toNatClampNeg)) M else k (.int (-1000001)) (fndM M 0))
  | _ => False
theorem pe_X7_status {o : Nat} {q : Int32} {M : Mem} {k : Value → Mem → Prop} : pf_X7_status [.ref o, .int q] M k = ((o = 59) ∧ (if ¬ q < -1 ∧ ¬ 6 < q then k (.int (M 63 (q + 1).toNatClampNeg)) M else k (.int (-1000001)) (fndM M 0))) := rfl
theorem le_X7_status {o : Nat} {q : Int32} : lent 2 ([.ref o, .int q] : List Value) = [.ref o, .int q] := rfl
set_option maxRecDepth 100000 in
set_option maxHeartbeats 4000000 in
theorem c_X7_status {d : Nat} (hd : 2 ≤ d) {o : Nat} {q : Int32} {M : Mem} {k : Value → Mem → Prop} (h : (o = 59) ∧ (if ¬ q < -1 ∧ ¬ 6 < q then k (.int (M 63 (q + 1).toNatClampNeg)) M else k (.int (-1000001)) (fndM M 0))) : CallP d 229 [.ref o, .int q] M k := by
  obtain ⟨hp, h⟩ := h
  obtain ⟨d, rfl⟩ : ∃ d', d = d' + 1 := ⟨d - 1, by omega⟩
  obtain rfl := hp
  · refine enterV (n := 80) [(126, pf_X7_within), (125, pf_X7_finding)] [] mI_229 (by decide) (Nat.le_of_ble_eq_true rfl) (T_cons (s_X7_within (by omega)) (T_cons (s_X7_finding (by omega)) T_nil)) ?_
    rw [le_X7_status]
    simp only [dX7_status_0, dX7_status_1, dX7_status_2, dX7_status_4, dX7_status_7, dX7_status_10, dX7_status_11, dX7_status_14, dX7_status_15, dX7_status_16, dX7_status_17, dX7_status_18, dX7_status_21, dX7_status_22, dX7_status_24, dX7_status_27, cr_7_75, cr_7_88, fr_7_19, kr_7_69, skr_7_69, al_10, al_11, al_12, al_13, al_14, al_16, al_17, al_18, al_19, al_2, al_20, al_21, al_23, al_24, al_27, al_28, al_29, al_3, al_30, al_31, al_32, al_34, al_36, al_37, al_38, al_39, al_4, al_40, al_41, al_42, al_43, al_45, al_46, al_47, al_48, al_49, al_5, al_52, al_53, al_54, al_55, al_56, al_57, al_58, al_6, al_60, al_61, al_62, al_63, al_64, al_65, al_66, al_67, al_69, al_7, al_70, al_71, al_72, al_73, al_9, gf_6_4_59, pcl_0, pcl_1, pcl_100, pcl_101, pcl_102, pcl_103, pcl_104, pcl_105, pcl_106, pcl_107, pcl_108, pcl_109, pcl_110, pcl_111, pcl_112, pcl_15, pcl_22, pcl_25, pcl_26, pcl_33, pcl_44, pcl_50, pcl_59, pcl_8, rOK_i, rOK_z, v_aload_0, v_bipush_6, v_getfield, v_goto, v_iadd, v_iaload, v_iconst_1, v_iconst_m1, v_if_eq, v_iload_1, v_invs, v_invv, v_ireturn, v_ldc, vcS_3_1, vcV_2_6, vgf_i, vgf_r, vgf_s, vld_i, vld_s, vc_d, rr_0, rr_1, csT_h, csT_t, csT_n, bI_0, bI_1, bI_z, bT, List.mem_cons, List.not_mem_nil, List.length_cons, List.length_nil, ite_not, ↓reduceIte, true_and, and_true, not_true_eq_false, not_false_eq_true, false_or, or_false, or_true, true_or, Nat.reduceAdd, Nat.reduceEqDiff, Nat.reduceBEq, Nat.reduceLeDiff, Nat.reduceLT, Nat.reduceSub, Int.reduceAdd, Int.reduceLE, Int.reduceLT, Int.reduceToNat, Int.reduceNeg, Int.reduceNatCast', reduceCtorEq, Int32.reduceOfInt, Int32.reduceOfNat, Int32.reduceToNatClampNeg, Int32.reduceToInt, i10, i01, nEM, pe_X7_within, fn_0, fn_1, fn_2, fn_3, fn_4, fn_5, fn_6]
    by_cases h1 : ¬ q < -1 ∧ ¬ 6 < q
    · rw [if_pos h1] at h ⊢
      refine ⟨?_, h⟩
      have a := h1.1
      have b := h1.2
      rw [Int32.lt_iff_toInt_lt] at a b
      simp only [Int32.reduceToInt] at a b
      rw [Int32.toInt_add, show (1 : Int32).toInt = 1 from rfl, Int.bmod_eq_of_le (by omega) (by omega)]
      omega
    · rw [if_neg h1] at h ⊢
      exact h

theorem s_X7_status {d : Nat} (hd : 2 ≤ d) : Snd d 229 pf_X7_status := by
  intro args M k h
  unfold pf_X7_status at h
  split at h
  · exact c_X7_status hd h
  · exact h.elim
def hsF (r : Nat → Int32) : Nat → Nat → Int32 → Int32
  | 0, _, s => s
  | n + 1, i, s => hsF r n (i + 1) (if r (4 + i) < 0 then s else s + 1)
set_option maxRecDepth 100000 in
set_option maxHeartbeats 4000000 in
theorem lp_countM {d : Nat} {M : Mem} {k : Value → Mem → Prop} {q : Int32} : ∀ (n i : Nat) (s : Int32), i + n = 10 → k (.int (hsF (M 60) n i s)) M → WP (7, yX7_count, cX7_count, 4, (some .int)) (d + 1) k 93 [.ref 59, .int q, .int s, .int (nI i)] [] M := by
  intro n
  induction n with
  | zero =>
    intro i s hi h
    have : i = 10 := by omega
    subst this
    refine goV (n := 80) [] [93] T_nil ?_
    simp only [dX7_count_0, dX7_count_1, dX7_count_2, dX7_count_3, dX7_count_48, dX7_count_49, dX7_count_52, dX7_count_53, dX7_count_54, dX7_count_55, dX7_count_56, dX7_count_59, dX7_count_60, dX7_count_61, dX7_count_62, dX7_count_63, dX7_count_64, dX7_count_67, dX7_count_68, dX7_count_69, dX7_count_70, dX7_count_73, dX7_count_74, dX7_count_75, dX7_count_78, dX7_count_79, dX7_count_80, dX7_count_83, dX7_count_84, dX7_count_85, dX7_count_88, dX7_count_89, dX7_count_90, dX7_count_91, dX7_count_92, dX7_count_93, dX7_count_94, dX7_count_96, dX7_count_99, dX7_count_100, dX7_count_101, dX7_count_104, dX7_count_105, dX7_count_106, dX7_count_107, dX7_count_108, dX7_count_111, dX7_count_112, dX7_count_115, dX7_count_116, dX7_count_117, dX7_count_118, dX7_count_121, dX7_count_124, dX7_count_125, dX7_count_126, dX7_count_127, dX7_count_129, dX7_count_132, cr_7_164, cr_7_171, cr_7_75, fr_7_243, fr_7_9, kr_7_69, skr_7_69, al_10, al_11, al_12, al_13, al_14, al_16, al_17, al_18, al_19, al_2, al_20, al_21, al_23, al_24, al_27, al_28, al_29, al_3, al_30, al_31, al_32, al_34, al_36, al_37, al_38, al_39, al_4, al_40, al_41, al_42, al_43, al_45, al_46, al_47, al_48, al_49, al_5, al_52, al_53, al_54, al_55, al_56, al_57, al_58, al_6, al_60, al_61, al_62, al_63, al_64, al_65, al_66, al_67, al_69, al_7, al_70, al_71, al_72, al_73, al_9, cat_i, cat_l, cat_r, cat_u, gf_6_0_59, gf_6_12_59, pcl_0, pcl_1, pcl_100, pcl_101, pcl_102, pcl_103, pcl_104, pcl_105, pcl_106, pcl_107, pcl_108, pcl_109, pcl_110, pcl_111, pcl_112, pcl_15, pcl_22, pcl_25, pcl_26, pcl_33, pcl_44, pcl_50, pcl_59, pcl_8, pft_6_12, rOK_i, rOK_z, v_aload_0, v_bipush_10, v_getfield, v_goto, v_iadd, v_iaload, v_ic_ge, v_iconst_0, v_iconst_1, v_iconst_2, v_iconst_3, v_iconst_4, v_if_ge, v_iinc_3, v_iload_1, v_iload_2, v_iload_3, v_invv, v_ireturn, v_istore_2, v_istore_3, v_ldc, v_table, vcV_1_6, vcV_2_6, vgf_i, vgf_r, vgf_s, vld_i, vld_s, vtab_c, vtab_n, vc_d, rr_0, rr_1, csT_h, csT_t, csT_n, bI_0, bI_1, bI_z, bT, List.mem_cons, List.not_mem_nil, List.length_cons, List.length_nil, ite_not, ↓reduceIte, true_and, and_true, not_true_eq_false, not_false_eq_true, false_or, or_false, or_true, true_or, Nat.reduceAdd, Nat.reduceEqDiff, Nat.reduceBEq, Nat.reduceLeDiff, Nat.reduceLT, Nat.reduceSub, Int.reduceAdd, Int.reduceLE, Int.reduceLT, Int.reduceToNat, Int.reduceNeg, Int.reduceNatCast', reduceCtorEq, Int32.reduceOfInt, Int32.reduceOfNat, Int32.reduceToNatClampNeg, Int32.reduceToInt, i10, i01, nEM, show (10 : Int32) ≤ nI 10 from by decide]
    exact h
  | succ n ih =>
    intro i s hi h
    refine goV (n := 80) [] [93] T_nil ?_
    have c1 : ¬ (10 : Int32) ≤ nI i := nI_ge (b := 10) (by omega) (by decide)
    have e4 : (4 : Int32) + nI i = nI (4 + i) := by rw [show (4 : Int32) = nI 4 from rfl, nI_add]
    have c2 : (nI (4 + i)).toInt = ((4 + i : Nat) : Int) := nI_toInt (by omega)
    have c3 : (nI (4 + i)).toNatClampNeg = 4 + i := nI_clamp (by omega)
    have c0 : s + 0 = s := Int32.add_zero _
    simp only [dX7_count_0, dX7_count_1, dX7_count_2, dX7_count_3, dX7_count_48, dX7_count_49, dX7_count_52, dX7_count_53, dX7_count_54, dX7_count_55, dX7_count_56, dX7_count_59, dX7_count_60, dX7_count_61, dX7_count_62, dX7_count_63, dX7_count_64, dX7_count_67, dX7_count_68, dX7_count_69, dX7_count_70, dX7_count_73, dX7_count_74, dX7_count_75, dX7_count_78, dX7_count_79, dX7_count_80, dX7_count_83, dX7_count_84, dX7_count_85, dX7_count_88, dX7_count_89, dX7_count_90, dX7_count_91, dX7_count_92, dX7_count_93, dX7_count_94, dX7_count_96, dX7_count_99, dX7_count_100, dX7_count_101, dX7_count_104, dX7_count_105, dX7_count_106, dX7_count_107, dX7_count_108, dX7_count_111, dX7_count_112, dX7_count_115, dX7_count_116, dX7_count_117, dX7_count_118, dX7_count_121, dX7_count_124, dX7_count_125, dX7_count_126, dX7_count_127, dX7_count_129, dX7_count_132, cr_7_164, cr_7_171, cr_7_75, fr_7_243, fr_7_9, kr_7_69, skr_7_69, al_10, al_11, al_12, al_13, al_14, al_16, al_17, al_18, al_19, al_2, al_20, al_21, al_23, al_24, al_27, al_28, al_29, al_3, al_30, al_31, al_32, al_34, al_36, al_37, al_38, al_39, al_4, al_40, al_41, al_42, al_43, al_45, al_46, al_47, al_48, al_49, al_5, al_52, al_53, al_54, al_55, al_56, al_57, al_58, al_6, al_60, al_61, al_62, al_63, al_64, al_65, al_66, al_67, al_69, al_7, al_70, al_71, al_72, al_73, al_9, cat_i, cat_l, cat_r, cat_u, gf_6_0_59, gf_6_12_59, pcl_0, pcl_1, pcl_100, pcl_101, pcl_102, pcl_103, pcl_104, pcl_105, pcl_106, pcl_107, pcl_108, pcl_109, pcl_110, pcl_111, pcl_112, pcl_15, pcl_22, pcl_25, pcl_26, pcl_33, pcl_44, pcl_50, pcl_59, pcl_8, pft_6_12, rOK_i, rOK_z, v_aload_0, v_bipush_10, v_getfield, v_goto, v_iadd, v_iaload, v_ic_ge, v_iconst_0, v_iconst_1, v_iconst_2, v_iconst_3, v_iconst_4, v_if_ge, v_iinc_3, v_iload_1, v_iload_2, v_iload_3, v_invv, v_ireturn, v_istore_2, v_istore_3, v_ldc, v_table, vcV_1_6, vcV_2_6, vgf_i, vgf_r, vgf_s, vld_i, vld_s, vtab_c, vtab_n, vc_d, rr_0, rr_1, csT_h, csT_t, csT_n, bI_0, bI_1, bI_z, bT, List.mem_cons, List.not_mem_nil, List.length_cons, List.length_nil, ite_not, ↓reduceIte, true_and, and_true, not_true_eq_false, not_false_eq_true, false_or, or_false, or_true, true_or, Nat.reduceAdd, Nat.reduceEqDiff, Nat.reduceBEq, Nat.reduceLeDiff, Nat.reduceLT, Nat.reduceSub, Int.reduceAdd, Int.reduceLE, Int.reduceLT, Int.reduceToNat, Int.reduceNeg, Int.reduceNatCast', reduceCtorEq, Int32.reduceOfInt, Int32.reduceOfNat, Int32.reduceToNatClampNeg, Int32.reduceToInt, i10, i01, nEM, c1, e4, c2, c3, c0, nI_1]
    refine ⟨by omega, ?_⟩
    rw [hsF] at h
    by_cases hc : M 60 (4 + i) < 0
    · rw [if_pos hc] at h
      rw [if_neg (fun z => Int32.not_lt.mpr z hc)]
      exact ih (i + 1) s (by omega) h
    · rw [if_neg hc] at h
      rw [if_pos (Int32.not_lt.mp hc)]
      exact ih (i + 1) _ (by omega) h
def pf_X7_count : PF := fun args M k => match args with
  | [.ref o, .int q] => (o = 59 ∧ IM (M 60)) ∧ (if q = 0 then k (.int (M 60 0)) M else if q = 1 then k (.int (M 60 1)) M else if q = 2 then k (.int (sumF (fun i => M 60 (wf i 3)) (M 60 1).toNatClampNeg 0 0)) M else if q = 3 then k (.int (sumF (fun i => M 60 (wf i 1)) (M 60 1).toNatClampNeg 0 0)) M else if q = 4 then k (.int (sumF (plr (M 60)) 12 0 0)) M else if q = 5 then k (.int (M 59 12)) M else if q = 6 then k (.int (M 60 2)) M else if q = 7 then k (.int (hsF (M 60) 10 0 0)) M else k (.int (-1000001)) (fndM M 0))
  | _ => False
theorem pe_X7_count {o : Nat} {q : Int32} {M : Mem} {k : Value → Mem → Prop} : pf_X7_count [.ref o, .int q] M k = ((o = 59 ∧ IM (M 60)) ∧ (if q = 0 then k (.int (M 60 0)) M else if q = 1 then k (.int (M 60 1)) M else if q = 2 then k (.int (sumF (fun i => M 60 (wf i 3)) (M 60 1).toNatClampNeg 0 0)) M else if q = 3 then k (.int (sumF (fun i => M 60 (wf i 1)) (M 60 1).toNatClampNeg 0 0)) M else if q = 4 then k (.int (sumF (plr (M 60)) 12 0 0)) M else if q = 5 then k (.int (M 59 12)) M else if q = 6 then k (.int (M 60 2)) M else if q = 7 then k (.int (hsF (M 60) 10 0 0)) M else k (.int (-1000001)) (fndM M 0))) := rfl
theorem le_X7_count {o : Nat} {q : Int32} : lent 4 ([.ref o, .int q] : List Value) = [.ref o, .int q, .retAddr 0, .retAddr 0] := rfl
set_option maxRecDepth 100000 in
set_option maxHeartbeats 4000000 in
theorem c_X7_count {d : Nat} (hd : 4 ≤ d) {o : Nat} {q : Int32} {M : Mem} {k : Value → Mem → Prop} (h : (o = 59 ∧ IM (M 60)) ∧ (if q = 0 then k (.int (M 60 0)) M else if q = 1 then k (.int (M 60 1)) M else if q = 2 then k (.int (sumF (fun i => M 60 (wf i 3)) (M 60 1).toNatClampNeg 0 0)) M else if q = 3 then k (.int (sumF (fun i => M 60 (wf i 1)) (M 60 1).toNatClampNeg 0 0)) M else if q = 4 then k (.int (sumF (plr (M 60)) 12 0 0)) M else if q = 5 then k (.int (M 59 12)) M else if q = 6 then k (.int (M 60 2)) M else if q = 7 then k (.int (hsF (M 60) 10 0 0)) M else k (.int (-1000001)) (fndM M 0))) : CallP d 228 [.ref o, .int q] M k := by
  obtain ⟨hp, h⟩ := h
  obtain ⟨d, rfl⟩ : ∃ d', d = d' + 1 := ⟨d - 1, by omega⟩
  obtain ⟨rfl, hI⟩ := hp
  · refine enterV (n := 80) [(157, pf_X7_sumOf), (158, pf_X7_keptAll), (125, pf_X7_finding)] [93] mI_228 (by decide) (Nat.le_of_ble_eq_true rfl) (T_cons (s_X7_sumOf (by omega)) (T_cons (s_X7_keptAll (by omega)) (T_cons (s_X7_finding (by omega)) T_nil))) ?_
    rw [le_X7_count]
    simp only [dX7_count_0, dX7_count_1, dX7_count_2, dX7_count_3, dX7_count_48, dX7_count_49, dX7_count_52, dX7_count_53, dX7_count_54, dX7_count_55, dX7_count_56, dX7_count_59, dX7_count_60, dX7_count_61, dX7_count_62, dX7_count_63, dX7_count_64, dX7_count_67, dX7_count_68, dX7_count_69, dX7_count_70, dX7_count_73, dX7_count_74, dX7_count_75, dX7_count_78, dX7_count_79, dX7_count_80, dX7_count_83, dX7_count_84, dX7_count_85, dX7_count_88, dX7_count_89, dX7_count_90, dX7_count_91, dX7_count_92, dX7_count_93, dX7_count_94, dX7_count_96, dX7_count_99, dX7_count_100, dX7_count_101, dX7_count_104, dX7_count_105, dX7_count_106, dX7_count_107, dX7_count_108, dX7_count_111, dX7_count_112, dX7_count_115, dX7_count_116, dX7_count_117, dX7_count_118, dX7_count_121, dX7_count_124, dX7_count_125, dX7_count_126, dX7_count_127, dX7_count_129, dX7_count_132, cr_7_164, cr_7_171, cr_7_75, fr_7_243, fr_7_9, kr_7_69, skr_7_69, al_10, al_11, al_12, al_13, al_14, al_16, al_17, al_18, al_19, al_2, al_20, al_21, al_23, al_24, al_27, al_28, al_29, al_3, al_30, al_31, al_32, al_34, al_36, al_37, al_38, al_39, al_4, al_40, al_41, al_42, al_43, al_45, al_46, al_47, al_48, al_49, al_5, al_52, al_53, al_54, al_55, al_56, al_57, al_58, al_6, al_60, al_61, al_62, al_63, al_64, al_65, al_66, al_67, al_69, al_7, al_70, al_71, al_72, al_73, al_9, cat_i, cat_l, cat_r, cat_u, gf_6_0_59, gf_6_12_59, pcl_0, pcl_1, pcl_100, pcl_101, pcl_102, pcl_103, pcl_104, pcl_105, pcl_106, pcl_107, pcl_108, pcl_109, pcl_110, pcl_111, pcl_112, pcl_15, pcl_22, pcl_25, pcl_26, pcl_33, pcl_44, pcl_50, pcl_59, pcl_8, pft_6_12, rOK_i, rOK_z, v_aload_0, v_bipush_10, v_getfield, v_goto, v_iadd, v_iaload, v_ic_ge, v_iconst_0, v_iconst_1, v_iconst_2, v_iconst_3, v_iconst_4, v_if_ge, v_iinc_3, v_iload_1, v_iload_2, v_iload_3, v_invv, v_ireturn, v_istore_2, v_istore_3, v_ldc, v_table, vcV_1_6, vcV_2_6, vgf_i, vgf_r, vgf_s, vld_i, vld_s, vtab_c, vtab_n, vc_d, rr_0, rr_1, csT_h, csT_t, csT_n, bI_0, bI_1, bI_z, bT, List.mem_cons, List.not_mem_nil, List.length_cons, List.length_nil, ite_not, ↓reduceIte, true_and, and_true, not_true_eq_false, not_false_eq_true, false_or, or_false, or_true, true_or, Nat.reduceAdd, Nat.reduceEqDiff, Nat.reduceBEq, Nat.reduceLeDiff, Nat.reduceLT, Nat.reduceSub, Int.reduceAdd, Int.reduceLE, Int.reduceLT, Int.reduceToNat, Int.reduceNeg, Int.reduceNatCast', reduceCtorEq, Int32.reduceOfInt, Int32.reduceOfNat, Int32.reduceToNatClampNeg, Int32.reduceToInt, i10, i01, nEM, pe_X7_sumOf, pe_X7_keptAll, fn_0, fn_1, fn_2, fn_3, fn_4, fn_5, fn_6, hI, Array.toList, List.length_cons, Int.reduceSub, Int32.reduceLT, Int32.reduceLE, not_false_eq_true]
    repeat' split
    all_goals first | (simpa [*] using h) | skip
    all_goals exact lp_countM 10 0 0 rfl (by simpa [*] using h)

theorem s_X7_count {d : Nat} (hd : 4 ≤ d) : Snd d 228 pf_X7_count := by
  intro args M k h
  unfold pf_X7_count at h
  split at h
  · exact c_X7_count hd h
  · exact h.elim
