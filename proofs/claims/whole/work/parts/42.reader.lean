/-! X: the reader's small methods -/
/-- the sort of a byte -/
def stO (v : Int32) : Int32 := if ¬ v < 97 ∧ ¬ 122 < v then 1 else if ¬ v < 48 ∧ ¬ 57 < v then 2 else if v = 59 then 3 else if v = 32 then 0 else 4
def pf_X3_sortOf : PF := fun args M k => match args with
  | [.int v] => (True) ∧ (k (.int (stO v)) M)
  | _ => False
theorem pe_X3_sortOf {v : Int32} {M : Mem} {k : Value → Mem → Prop} : pf_X3_sortOf [.int v] M k = ((True) ∧ (k (.int (stO v)) M)) := rfl
set_option maxRecDepth 100000 in
set_option maxHeartbeats 4000000 in
theorem c_X3_sortOf {d : Nat} (hd : 1 ≤ d) {v : Int32} {M : Mem} {k : Value → Mem → Prop} (h : (True) ∧ (k (.int (stO v)) M)) : CallP d 39 [.int v] M k := by
  obtain ⟨hp, h⟩ := h
  obtain ⟨d, rfl⟩ : ∃ d', d = d' + 1 := ⟨d - 1, by omega⟩
  refine enterV (n := 80) [] [] mI_39 (by decide) (Nat.le_of_ble_eq_true rfl) T_nil ?_
  rw [show lent 1 ([.int v] : List Value) = [.int v] from rfl]
  unfold stO at h
  simp only [dX3_sortOf_0, dX3_sortOf_1, dX3_sortOf_3, dX3_sortOf_6, dX3_sortOf_7, dX3_sortOf_9, dX3_sortOf_12, dX3_sortOf_13, dX3_sortOf_14, dX3_sortOf_15, dX3_sortOf_17, dX3_sortOf_20, dX3_sortOf_21, dX3_sortOf_23, dX3_sortOf_26, dX3_sortOf_27, dX3_sortOf_28, dX3_sortOf_29, dX3_sortOf_31, dX3_sortOf_34, dX3_sortOf_35, dX3_sortOf_36, dX3_sortOf_37, dX3_sortOf_39, dX3_sortOf_42, dX3_sortOf_43, dX3_sortOf_46, dX3_sortOf_47, rOK_i, rOK_z, v_bipush_122, v_bipush_32, v_bipush_48, v_bipush_57, v_bipush_59, v_bipush_97, v_goto, v_ic_gt, v_ic_lt, v_ic_ne, v_iconst_0, v_iconst_1, v_iconst_2, v_iconst_3, v_iconst_4, v_iload_0, v_ireturn, vc_d, rr_0, rr_1, csT_h, csT_t, csT_n, bI_0, bI_1, bI_z, bT, List.mem_cons, List.not_mem_nil, List.length_cons, List.length_nil, ite_not, ↓reduceIte, true_and, and_true, not_true_eq_false, not_false_eq_true, false_or, or_false, or_true, true_or, Nat.reduceAdd, Nat.reduceEqDiff, Nat.reduceBEq, Nat.reduceLeDiff, Nat.reduceLT, Nat.reduceSub, Int.reduceAdd, Int.reduceLE, Int.reduceLT, Int.reduceToNat, Int.reduceNeg, Int.reduceNatCast', reduceCtorEq, Int32.reduceOfInt, Int32.reduceOfNat, Int32.reduceToNatClampNeg, Int32.reduceToInt, i10, i01]
  repeat' split
  all_goals first | (simpa [*] using h) | (exfalso; simp_all) | (simp only [Int32.lt_iff_toInt_lt, Int32.le_iff_toInt_le, Int32.reduceToInt] at *; omega)
theorem s_X3_sortOf {d : Nat} (hd : 1 ≤ d) : Snd d 39 pf_X3_sortOf := by
  intro args M k h
  unfold pf_X3_sortOf at h
  split at h
  · exact c_X3_sortOf hd h
  · exact h.elim
def pf_X3_isWord : PF := fun args M k => match args with
  | [.ref o, .int w] => (o = 44) ∧ (k (.int (bI (M 44 8 = 1 ∧ M 44 9 = w))) M)
  | _ => False
theorem pe_X3_isWord {o : Nat} {w : Int32} {M : Mem} {k : Value → Mem → Prop} : pf_X3_isWord [.ref o, .int w] M k = ((o = 44) ∧ (k (.int (bI (M 44 8 = 1 ∧ M 44 9 = w))) M)) := rfl
set_option maxRecDepth 100000 in
set_option maxHeartbeats 4000000 in
theorem c_X3_isWord {d : Nat} (hd : 1 ≤ d) {o : Nat} {w : Int32} {M : Mem} {k : Value → Mem → Prop} (h : (o = 44) ∧ (k (.int (bI (M 44 8 = 1 ∧ M 44 9 = w))) M)) : CallP d 36 [.ref o, .int w] M k := by
  obtain ⟨hp, h⟩ := h
  obtain ⟨d, rfl⟩ : ∃ d', d = d' + 1 := ⟨d - 1, by omega⟩
  subst hp
  · refine enterV (n := 80) [] [] mI_36 (by decide) (Nat.le_of_ble_eq_true rfl) T_nil ?_
    rw [show lent 2 ([.ref 44, .int w] : List Value) = [.ref 44, .int w] from rfl]
    simp only [dX3_isWord_0, dX3_isWord_1, dX3_isWord_4, dX3_isWord_5, dX3_isWord_8, dX3_isWord_9, dX3_isWord_12, dX3_isWord_13, dX3_isWord_16, dX3_isWord_17, dX3_isWord_20, dX3_isWord_21, fr_3_37, fr_3_40, gf_2_8_44, gf_2_9_44, pft_2_8, pft_2_9, rOK_i, rOK_z, v_aload_0, v_getfield, v_goto, v_ic_ne, v_iconst_0, v_iconst_1, v_iload_1, v_ireturn, vgf_i, vgf_r, vgf_s, vc_d, rr_0, rr_1, csT_h, csT_t, csT_n, bI_0, bI_1, bI_z, bT, List.mem_cons, List.not_mem_nil, List.length_cons, List.length_nil, ite_not, ↓reduceIte, true_and, and_true, not_true_eq_false, not_false_eq_true, false_or, or_false, or_true, true_or, Nat.reduceAdd, Nat.reduceEqDiff, Nat.reduceBEq, Nat.reduceLeDiff, Nat.reduceLT, Nat.reduceSub, Int.reduceAdd, Int.reduceLE, Int.reduceLT, Int.reduceToNat, Int.reduceNeg, Int.reduceNatCast', reduceCtorEq, Int32.reduceOfInt, Int32.reduceOfNat, Int32.reduceToNatClampNeg, Int32.reduceToInt, i10, i01]
    repeat' split
    all_goals simpa [bI, *] using h

theorem s_X3_isWord {d : Nat} (hd : 1 ≤ d) : Snd d 36 pf_X3_isWord := by
  intro args M k h
  unfold pf_X3_isWord at h
  split at h
  · exact c_X3_isWord hd h
  · exact h.elim
def pf_X3_isNumber : PF := fun args M k => match args with
  | [.ref o, .int w] => (o = 44) ∧ (k (.int (bI (M 44 8 = 2 ∧ ¬ M 44 9 < 0 ∧ ¬ w < M 44 9))) M)
  | _ => False
theorem pe_X3_isNumber {o : Nat} {w : Int32} {M : Mem} {k : Value → Mem → Prop} : pf_X3_isNumber [.ref o, .int w] M k = ((o = 44) ∧ (k (.int (bI (M 44 8 = 2 ∧ ¬ M 44 9 < 0 ∧ ¬ w < M 44 9))) M)) := rfl
set_option maxRecDepth 100000 in
set_option maxHeartbeats 4000000 in
theorem c_X3_isNumber {d : Nat} (hd : 1 ≤ d) {o : Nat} {w : Int32} {M : Mem} {k : Value → Mem → Prop} (h : (o = 44) ∧ (k (.int (bI (M 44 8 = 2 ∧ ¬ M 44 9 < 0 ∧ ¬ w < M 44 9))) M)) : CallP d 37 [.ref o, .int w] M k := by
  obtain ⟨hp, h⟩ := h
  obtain ⟨d, rfl⟩ : ∃ d', d = d' + 1 := ⟨d - 1, by omega⟩
  subst hp
  · refine enterV (n := 80) [] [] mI_37 (by decide) (Nat.le_of_ble_eq_true rfl) T_nil ?_
    rw [show lent 2 ([.ref 44, .int w] : List Value) = [.ref 44, .int w] from rfl]
    simp only [dX3_isNumber_0, dX3_isNumber_1, dX3_isNumber_4, dX3_isNumber_5, dX3_isNumber_8, dX3_isNumber_9, dX3_isNumber_12, dX3_isNumber_15, dX3_isNumber_16, dX3_isNumber_19, dX3_isNumber_20, dX3_isNumber_23, dX3_isNumber_24, dX3_isNumber_27, dX3_isNumber_28, fr_3_37, fr_3_40, gf_2_8_44, gf_2_9_44, pft_2_8, pft_2_9, rOK_i, rOK_z, v_aload_0, v_getfield, v_goto, v_ic_gt, v_ic_ne, v_iconst_0, v_iconst_1, v_iconst_2, v_if_lt, v_iload_1, v_ireturn, vgf_i, vgf_r, vgf_s, vc_d, rr_0, rr_1, csT_h, csT_t, csT_n, bI_0, bI_1, bI_z, bT, List.mem_cons, List.not_mem_nil, List.length_cons, List.length_nil, ite_not, ↓reduceIte, true_and, and_true, not_true_eq_false, not_false_eq_true, false_or, or_false, or_true, true_or, Nat.reduceAdd, Nat.reduceEqDiff, Nat.reduceBEq, Nat.reduceLeDiff, Nat.reduceLT, Nat.reduceSub, Int.reduceAdd, Int.reduceLE, Int.reduceLT, Int.reduceToNat, Int.reduceNeg, Int.reduceNatCast', reduceCtorEq, Int32.reduceOfInt, Int32.reduceOfNat, Int32.reduceToNatClampNeg, Int32.reduceToInt, i10, i01]
    repeat' split
    all_goals simpa [bI, *] using h

theorem s_X3_isNumber {d : Nat} (hd : 1 ≤ d) : Snd d 37 pf_X3_isNumber := by
  intro args M k h
  unfold pf_X3_isNumber at h
  split at h
  · exact c_X3_isNumber hd h
  · exact h.elim
abbrev thr (M : Mem) (t : Int32) : Prop := ¬ t < 0 ∧ ¬ M 44 6 ≤ t ∧ ¬ 121 ≤ t
def lkM (M : Mem) (t : Int32) : Mem := mset (mset (mset M 44 7 t) 44 8 (if thr M t then M 46 (t).toNatClampNeg else 5)) 44 9 (if thr M t then M 49 (t).toNatClampNeg else 0)
def pf_X3_look : PF := fun args M k => match args with
  | [.ref o, .int t] => (o = 44) ∧ (k (.int 0) (lkM M t))
  | _ => False
theorem pe_X3_look {o : Nat} {t : Int32} {M : Mem} {k : Value → Mem → Prop} : pf_X3_look [.ref o, .int t] M k = ((o = 44) ∧ (k (.int 0) (lkM M t))) := rfl
set_option maxRecDepth 100000 in
set_option maxHeartbeats 4000000 in
theorem c_X3_look {d : Nat} (hd : 1 ≤ d) {o : Nat} {t : Int32} {M : Mem} {k : Value → Mem → Prop} (h : (o = 44) ∧ (k (.int 0) (lkM M t))) : CallP d 31 [.ref o, .int t] M k := by
  obtain ⟨hp, h⟩ := h
  obtain ⟨d, rfl⟩ : ∃ d', d = d' + 1 := ⟨d - 1, by omega⟩
  subst hp
  · refine enterV (n := 80) [] [] mI_31 (by decide) (Nat.le_of_ble_eq_true rfl) T_nil ?_
    rw [show lent 3 ([.ref 44, .int t] : List Value) = [.ref 44, .int t, .retAddr 0] from rfl]
    unfold lkM at h
    by_cases h1 : t < 0
    · rw [if_neg (fun z : thr M t => z.1 h1), if_neg (fun z : thr M t => z.1 h1)] at h
      simp only [dX3_look_0, dX3_look_1, dX3_look_2, dX3_look_5, dX3_look_6, dX3_look_9, dX3_look_10, dX3_look_11, dX3_look_14, dX3_look_17, dX3_look_18, dX3_look_20, dX3_look_23, dX3_look_24, dX3_look_27, dX3_look_28, dX3_look_29, dX3_look_30, dX3_look_31, dX3_look_34, dX3_look_35, dX3_look_38, dX3_look_39, dX3_look_40, dX3_look_43, dX3_look_44, dX3_look_47, dX3_look_48, dX3_look_49, dX3_look_52, dX3_look_53, dX3_look_56, dX3_look_57, dX3_look_58, dX3_look_61, dX3_look_62, dX3_look_65, fr_3_19, fr_3_28, fr_3_31, fr_3_34, fr_3_37, fr_3_40, al_10, al_11, al_12, al_13, al_14, al_16, al_17, al_18, al_19, al_2, al_20, al_21, al_23, al_24, al_27, al_28, al_29, al_3, al_30, al_31, al_32, al_34, al_36, al_37, al_38, al_39, al_4, al_40, al_41, al_42, al_43, al_45, al_46, al_47, al_48, al_49, al_5, al_52, al_53, al_54, al_55, al_56, al_57, al_58, al_6, al_60, al_61, al_62, al_63, al_64, al_65, al_66, al_67, al_69, al_7, al_70, al_71, al_72, al_73, al_9, cat_i, cat_l, cat_r, cat_u, gf_2_2_44, gf_2_5_44, gf_2_6_44, gf_2_7_44, gf_2_8_44, gf_2_9_44, pft_2_6, pft_2_7, pft_2_8, pft_2_9, v_aload_0, v_bipush_121, v_getfield, v_goto, v_iaload, v_ic_ge, v_iconst_0, v_iconst_1, v_iconst_5, v_if_eq, v_if_lt, v_iload_1, v_iload_2, v_istore_2, v_putfield, v_return, vgf_i, vgf_r, vgf_s, vpf_s, vc_d, rr_0, rr_1, csT_h, csT_t, csT_n, bI_0, bI_1, bI_z, bT, List.mem_cons, List.not_mem_nil, List.length_cons, List.length_nil, ite_not, ↓reduceIte, true_and, and_true, not_true_eq_false, not_false_eq_true, false_or, or_false, or_true, true_or, Nat.reduceAdd, Nat.reduceEqDiff, Nat.reduceBEq, Nat.reduceLeDiff, Nat.reduceLT, Nat.reduceSub, Int.reduceAdd, Int.reduceLE, Int.reduceLT, Int.reduceToNat, Int.reduceNeg, Int.reduceNatCast', reduceCtorEq, Int32.reduceOfInt, Int32.reduceOfNat, Int32.reduceToNatClampNeg, Int32.reduceToInt, i10, i01, mset_n, mset_s, upd_n, upd_s, h1]
      exact h
    by_cases h2 : M 44 6 ≤ t
    · rw [if_neg (fun z : thr M t => z.2.1 h2), if_neg (fun z : thr M t => z.2.1 h2)] at h
      simp only [dX3_look_0, dX3_look_1, dX3_look_2, dX3_look_5, dX3_look_6, dX3_look_9, dX3_look_10, dX3_look_11, dX3_look_14, dX3_look_17, dX3_look_18, dX3_look_20, dX3_look_23, dX3_look_24, dX3_look_27, dX3_look_28, dX3_look_29, dX3_look_30, dX3_look_31, dX3_look_34, dX3_look_35, dX3_look_38, dX3_look_39, dX3_look_40, dX3_look_43, dX3_look_44, dX3_look_47, dX3_look_48, dX3_look_49, dX3_look_52, dX3_look_53, dX3_look_56, dX3_look_57, dX3_look_58, dX3_look_61, dX3_look_62, dX3_look_65, fr_3_19, fr_3_28, fr_3_31, fr_3_34, fr_3_37, fr_3_40, al_10, al_11, al_12, al_13, al_14, al_16, al_17, al_18, al_19, al_2, al_20, al_21, al_23, al_24, al_27, al_28, al_29, al_3, al_30, al_31, al_32, al_34, al_36, al_37, al_38, al_39, al_4, al_40, al_41, al_42, al_43, al_45, al_46, al_47, al_48, al_49, al_5, al_52, al_53, al_54, al_55, al_56, al_57, al_58, al_6, al_60, al_61, al_62, al_63, al_64, al_65, al_66, al_67, al_69, al_7, al_70, al_71, al_72, al_73, al_9, cat_i, cat_l, cat_r, cat_u, gf_2_2_44, gf_2_5_44, gf_2_6_44, gf_2_7_44, gf_2_8_44, gf_2_9_44, pft_2_6, pft_2_7, pft_2_8, pft_2_9, v_aload_0, v_bipush_121, v_getfield, v_goto, v_iaload, v_ic_ge, v_iconst_0, v_iconst_1, v_iconst_5, v_if_eq, v_if_lt, v_iload_1, v_iload_2, v_istore_2, v_putfield, v_return, vgf_i, vgf_r, vgf_s, vpf_s, vc_d, rr_0, rr_1, csT_h, csT_t, csT_n, bI_0, bI_1, bI_z, bT, List.mem_cons, List.not_mem_nil, List.length_cons, List.length_nil, ite_not, ↓reduceIte, true_and, and_true, not_true_eq_false, not_false_eq_true, false_or, or_false, or_true, true_or, Nat.reduceAdd, Nat.reduceEqDiff, Nat.reduceBEq, Nat.reduceLeDiff, Nat.reduceLT, Nat.reduceSub, Int.reduceAdd, Int.reduceLE, Int.reduceLT, Int.reduceToNat, Int.reduceNeg, Int.reduceNatCast', reduceCtorEq, Int32.reduceOfInt, Int32.reduceOfNat, Int32.reduceToNatClampNeg, Int32.reduceToInt, i10, i01, mset_n, mset_s, upd_n, upd_s, h1, h2]
      exact h
    by_cases h3 : 121 ≤ t
    · rw [if_neg (fun z : thr M t => z.2.2 h3), if_neg (fun z : thr M t => z.2.2 h3)] at h
      simp only [dX3_look_0, dX3_look_1, dX3_look_2, dX3_look_5, dX3_look_6, dX3_look_9, dX3_look_10, dX3_look_11, dX3_look_14, dX3_look_17, dX3_look_18, dX3_look_20, dX3_look_23, dX3_look_24, dX3_look_27, dX3_look_28, dX3_look_29, dX3_look_30, dX3_look_31, dX3_look_34, dX3_look_35, dX3_look_38, dX3_look_39, dX3_look_40, dX3_look_43, dX3_look_44, dX3_look_47, dX3_look_48, dX3_look_49, dX3_look_52, dX3_look_53, dX3_look_56, dX3_look_57, dX3_look_58, dX3_look_61, dX3_look_62, dX3_look_65, fr_3_19, fr_3_28, fr_3_31, fr_3_34, fr_3_37, fr_3_40, al_10, al_11, al_12, al_13, al_14, al_16, al_17, al_18, al_19, al_2, al_20, al_21, al_23, al_24, al_27, al_28, al_29, al_3, al_30, al_31, al_32, al_34, al_36, al_37, al_38, al_39, al_4, al_40, al_41, al_42, al_43, al_45, al_46, al_47, al_48, al_49, al_5, al_52, al_53, al_54, al_55, al_56, al_57, al_58, al_6, al_60, al_61, al_62, al_63, al_64, al_65, al_66, al_67, al_69, al_7, al_70, al_71, al_72, al_73, al_9, cat_i, cat_l, cat_r, cat_u, gf_2_2_44, gf_2_5_44, gf_2_6_44, gf_2_7_44, gf_2_8_44, gf_2_9_44, pft_2_6, pft_2_7, pft_2_8, pft_2_9, v_aload_0, v_bipush_121, v_getfield, v_goto, v_iaload, v_ic_ge, v_iconst_0, v_iconst_1, v_iconst_5, v_if_eq, v_if_lt, v_iload_1, v_iload_2, v_istore_2, v_putfield, v_return, vgf_i, vgf_r, vgf_s, vpf_s, vc_d, rr_0, rr_1, csT_h, csT_t, csT_n, bI_0, bI_1, bI_z, bT, List.mem_cons, List.not_mem_nil, List.length_cons, List.length_nil, ite_not, ↓reduceIte, true_and, and_true, not_true_eq_false, not_false_eq_true, false_or, or_false, or_true, true_or, Nat.reduceAdd, Nat.reduceEqDiff, Nat.reduceBEq, Nat.reduceLeDiff, Nat.reduceLT, Nat.reduceSub, Int.reduceAdd, Int.reduceLE, Int.reduceLT, Int.reduceToNat, Int.reduceNeg, Int.reduceNatCast', reduceCtorEq, Int32.reduceOfInt, Int32.reduceOfNat, Int32.reduceToNatClampNeg, Int32.reduceToInt, i10, i01, mset_n, mset_s, upd_n, upd_s, h1, h2, h3]
      exact h
    rw [if_pos (show thr M t from ⟨h1, h2, h3⟩), if_pos (show thr M t from ⟨h1, h2, h3⟩)] at h
    simp only [dX3_look_0, dX3_look_1, dX3_look_2, dX3_look_5, dX3_look_6, dX3_look_9, dX3_look_10, dX3_look_11, dX3_look_14, dX3_look_17, dX3_look_18, dX3_look_20, dX3_look_23, dX3_look_24, dX3_look_27, dX3_look_28, dX3_look_29, dX3_look_30, dX3_look_31, dX3_look_34, dX3_look_35, dX3_look_38, dX3_look_39, dX3_look_40, dX3_look_43, dX3_look_44, dX3_look_47, dX3_look_48, dX3_look_49, dX3_look_52, dX3_look_53, dX3_look_56, dX3_look_57, dX3_look_58, dX3_look_61, dX3_look_62, dX3_look_65, fr_3_19, fr_3_28, fr_3_31, fr_3_34, fr_3_37, fr_3_40, al_10, al_11, al_12, al_13, al_14, al_16, al_17, al_18, al_19, al_2, al_20, al_21, al_23, al_24, al_27, al_28, al_29, al_3, al_30, al_31, al_32, al_34, al_36, al_37, al_38, al_39, al_4, al_40, al_41, al_42, al_43, al_45, al_46, al_47, al_48, al_49, al_5, al_52, al_53, al_54, al_55, al_56, al_57, al_58, al_6, al_60, al_61, al_62, al_63, al_64, al_65, al_66, al_67, al_69, al_7, al_70, al_71, al_72, al_73, al_9, cat_i, cat_l, cat_r, cat_u, gf_2_2_44, gf_2_5_44, gf_2_6_44, gf_2_7_44, gf_2_8_44, gf_2_9_44, pft_2_6, pft_2_7, pft_2_8, pft_2_9, v_aload_0, v_bipush_121, v_getfield, v_goto, v_iaload, v_ic_ge, v_iconst_0, v_iconst_1, v_iconst_5, v_if_eq, v_if_lt, v_iload_1, v_iload_2, v_istore_2, v_putfield, v_return, vgf_i, vgf_r, vgf_s, vpf_s, vc_d, rr_0, rr_1, csT_h, csT_t, csT_n, bI_0, bI_1, bI_z, bT, List.mem_cons, List.not_mem_nil, List.length_cons, List.length_nil, ite_not, ↓reduceIte, true_and, and_true, not_true_eq_false, not_false_eq_true, false_or, or_false, or_true, true_or, Nat.reduceAdd, Nat.reduceEqDiff, Nat.reduceBEq, Nat.reduceLeDiff, Nat.reduceLT, Nat.reduceSub, Int.reduceAdd, Int.reduceLE, Int.reduceLT, Int.reduceToNat, Int.reduceNeg, Int.reduceNatCast', reduceCtorEq, Int32.reduceOfInt, Int32.reduceOfNat, Int32.reduceToNatClampNeg, Int32.reduceToInt, i10, i01, mset_n, mset_s, upd_n, upd_s, h1, h2, h3]
    exact ⟨bd h1 h3 rfl, bd h1 h3 rfl, h⟩

theorem s_X3_look {d : Nat} (hd : 1 ≤ d) : Snd d 31 pf_X3_look := by
  intro args M k h
  unfold pf_X3_look at h
  split at h
  · exact c_X3_look hd h
  · exact h.elim
def pf_X3_place : PF := fun args M k => match args with
  | [.ref o] => (o = 44 ∧ (¬ M 44 7 < 0 → ¬ M 44 6 ≤ M 44 7 → ¬ 121 ≤ M 44 7)) ∧ (k (.int (if ¬ M 44 7 < 0 ∧ ¬ M 44 6 ≤ M 44 7 then M 47 (M 44 7).toNatClampNeg else M 44 1)) M)
  | _ => False
theorem pe_X3_place {o : Nat} {M : Mem} {k : Value → Mem → Prop} : pf_X3_place [.ref o] M k = ((o = 44 ∧ (¬ M 44 7 < 0 → ¬ M 44 6 ≤ M 44 7 → ¬ 121 ≤ M 44 7)) ∧ (k (.int (if ¬ M 44 7 < 0 ∧ ¬ M 44 6 ≤ M 44 7 then M 47 (M 44 7).toNatClampNeg else M 44 1)) M)) := rfl
set_option maxRecDepth 100000 in
set_option maxHeartbeats 4000000 in
theorem c_X3_place {d : Nat} (hd : 1 ≤ d) {o : Nat} {M : Mem} {k : Value → Mem → Prop} (h : (o = 44 ∧ (¬ M 44 7 < 0 → ¬ M 44 6 ≤ M 44 7 → ¬ 121 ≤ M 44 7)) ∧ (k (.int (if ¬ M 44 7 < 0 ∧ ¬ M 44 6 ≤ M 44 7 then M 47 (M 44 7).toNatClampNeg else M 44 1)) M)) : CallP d 30 [.ref o] M k := by
  obtain ⟨hp, h⟩ := h
  obtain ⟨d, rfl⟩ : ∃ d', d = d' + 1 := ⟨d - 1, by omega⟩
  obtain ⟨rfl, h0⟩ := hp
  · refine enterV (n := 80) [] [] mI_30 (by decide) (Nat.le_of_ble_eq_true rfl) T_nil ?_
    rw [show lent 1 ([.ref 44] : List Value) = [.ref 44] from rfl]
    by_cases h1 : M 44 7 < 0
    · rw [if_neg (fun z => z.1 h1)] at h
      simp only [dX3_place_0, dX3_place_1, dX3_place_4, dX3_place_7, dX3_place_8, dX3_place_11, dX3_place_12, dX3_place_15, dX3_place_18, dX3_place_19, dX3_place_22, dX3_place_23, dX3_place_26, dX3_place_27, dX3_place_30, dX3_place_31, dX3_place_34, fr_3_15, fr_3_22, fr_3_31, fr_3_34, al_10, al_11, al_12, al_13, al_14, al_16, al_17, al_18, al_19, al_2, al_20, al_21, al_23, al_24, al_27, al_28, al_29, al_3, al_30, al_31, al_32, al_34, al_36, al_37, al_38, al_39, al_4, al_40, al_41, al_42, al_43, al_45, al_46, al_47, al_48, al_49, al_5, al_52, al_53, al_54, al_55, al_56, al_57, al_58, al_6, al_60, al_61, al_62, al_63, al_64, al_65, al_66, al_67, al_69, al_7, al_70, al_71, al_72, al_73, al_9, gf_2_1_44, gf_2_3_44, gf_2_6_44, gf_2_7_44, pft_2_1, pft_2_6, pft_2_7, rOK_i, rOK_z, v_aload_0, v_getfield, v_goto, v_iaload, v_ic_ge, v_if_lt, v_ireturn, vgf_i, vgf_r, vgf_s, vc_d, rr_0, rr_1, csT_h, csT_t, csT_n, bI_0, bI_1, bI_z, bT, List.mem_cons, List.not_mem_nil, List.length_cons, List.length_nil, ite_not, ↓reduceIte, true_and, and_true, not_true_eq_false, not_false_eq_true, false_or, or_false, or_true, true_or, Nat.reduceAdd, Nat.reduceEqDiff, Nat.reduceBEq, Nat.reduceLeDiff, Nat.reduceLT, Nat.reduceSub, Int.reduceAdd, Int.reduceLE, Int.reduceLT, Int.reduceToNat, Int.reduceNeg, Int.reduceNatCast', reduceCtorEq, Int32.reduceOfInt, Int32.reduceOfNat, Int32.reduceToNatClampNeg, Int32.reduceToInt, i10, i01, h1]
      exact h
    by_cases h2 : M 44 6 ≤ M 44 7
    · rw [if_neg (fun z => z.2 h2)] at h
      simp only [dX3_place_0, dX3_place_1, dX3_place_4, dX3_place_7, dX3_place_8, dX3_place_11, dX3_place_12, dX3_place_15, dX3_place_18, dX3_place_19, dX3_place_22, dX3_place_23, dX3_place_26, dX3_place_27, dX3_place_30, dX3_place_31, dX3_place_34, fr_3_15, fr_3_22, fr_3_31, fr_3_34, al_10, al_11, al_12, al_13, al_14, al_16, al_17, al_18, al_19, al_2, al_20, al_21, al_23, al_24, al_27, al_28, al_29, al_3, al_30, al_31, al_32, al_34, al_36, al_37, al_38, al_39, al_4, al_40, al_41, al_42, al_43, al_45, al_46, al_47, al_48, al_49, al_5, al_52, al_53, al_54, al_55, al_56, al_57, al_58, al_6, al_60, al_61, al_62, al_63, al_64, al_65, al_66, al_67, al_69, al_7, al_70, al_71, al_72, al_73, al_9, gf_2_1_44, gf_2_3_44, gf_2_6_44, gf_2_7_44, pft_2_1, pft_2_6, pft_2_7, rOK_i, rOK_z, v_aload_0, v_getfield, v_goto, v_iaload, v_ic_ge, v_if_lt, v_ireturn, vgf_i, vgf_r, vgf_s, vc_d, rr_0, rr_1, csT_h, csT_t, csT_n, bI_0, bI_1, bI_z, bT, List.mem_cons, List.not_mem_nil, List.length_cons, List.length_nil, ite_not, ↓reduceIte, true_and, and_true, not_true_eq_false, not_false_eq_true, false_or, or_false, or_true, true_or, Nat.reduceAdd, Nat.reduceEqDiff, Nat.reduceBEq, Nat.reduceLeDiff, Nat.reduceLT, Nat.reduceSub, Int.reduceAdd, Int.reduceLE, Int.reduceLT, Int.reduceToNat, Int.reduceNeg, Int.reduceNatCast', reduceCtorEq, Int32.reduceOfInt, Int32.reduceOfNat, Int32.reduceToNatClampNeg, Int32.reduceToInt, i10, i01, h1, h2]
      exact h
    rw [if_pos ⟨h1, h2⟩] at h
    simp only [dX3_place_0, dX3_place_1, dX3_place_4, dX3_place_7, dX3_place_8, dX3_place_11, dX3_place_12, dX3_place_15, dX3_place_18, dX3_place_19, dX3_place_22, dX3_place_23, dX3_place_26, dX3_place_27, dX3_place_30, dX3_place_31, dX3_place_34, fr_3_15, fr_3_22, fr_3_31, fr_3_34, al_10, al_11, al_12, al_13, al_14, al_16, al_17, al_18, al_19, al_2, al_20, al_21, al_23, al_24, al_27, al_28, al_29, al_3, al_30, al_31, al_32, al_34, al_36, al_37, al_38, al_39, al_4, al_40, al_41, al_42, al_43, al_45, al_46, al_47, al_48, al_49, al_5, al_52, al_53, al_54, al_55, al_56, al_57, al_58, al_6, al_60, al_61, al_62, al_63, al_64, al_65, al_66, al_67, al_69, al_7, al_70, al_71, al_72, al_73, al_9, gf_2_1_44, gf_2_3_44, gf_2_6_44, gf_2_7_44, pft_2_1, pft_2_6, pft_2_7, rOK_i, rOK_z, v_aload_0, v_getfield, v_goto, v_iaload, v_ic_ge, v_if_lt, v_ireturn, vgf_i, vgf_r, vgf_s, vc_d, rr_0, rr_1, csT_h, csT_t, csT_n, bI_0, bI_1, bI_z, bT, List.mem_cons, List.not_mem_nil, List.length_cons, List.length_nil, ite_not, ↓reduceIte, true_and, and_true, not_true_eq_false, not_false_eq_true, false_or, or_false, or_true, true_or, Nat.reduceAdd, Nat.reduceEqDiff, Nat.reduceBEq, Nat.reduceLeDiff, Nat.reduceLT, Nat.reduceSub, Int.reduceAdd, Int.reduceLE, Int.reduceLT, Int.reduceToNat, Int.reduceNeg, Int.reduceNatCast', reduceCtorEq, Int32.reduceOfInt, Int32.reduceOfNat, Int32.reduceToNatClampNeg, Int32.reduceToInt, i10, i01, h1, h2]
    exact ⟨bd h1 (h0 h1 h2) rfl, h⟩

theorem s_X3_place {d : Nat} (hd : 1 ≤ d) : Snd d 30 pf_X3_place := by
  intro args M k h
  unfold pf_X3_place at h
  split at h
  · exact c_X3_place hd h
  · exact h.elim
def bgM (M : Mem) (s b : Int32) : Mem := mset (mset (mset (mset (mset M 46 (M 44 6).toNatClampNeg s) 47 (M 44 6).toNatClampNeg b) 48 (M 44 6).toNatClampNeg b) 49 (M 44 6).toNatClampNeg 0) 44 6 (M 44 6 + 1)
def pf_X3_begin : PF := fun args M k => match args with
  | [.ref o, .int s, .int b] => (o = 44 ∧ ¬ M 44 6 < 0 ∧ ¬ 121 ≤ M 44 6) ∧ (k (.int 0) (bgM M s b))
  | _ => False
theorem pe_X3_begin {o : Nat} {s : Int32} {b : Int32} {M : Mem} {k : Value → Mem → Prop} : pf_X3_begin [.ref o, .int s, .int b] M k = ((o = 44 ∧ ¬ M 44 6 < 0 ∧ ¬ 121 ≤ M 44 6) ∧ (k (.int 0) (bgM M s b))) := rfl
set_option maxRecDepth 100000 in
set_option maxHeartbeats 4000000 in
theorem c_X3_begin {d : Nat} (hd : 1 ≤ d) {o : Nat} {s : Int32} {b : Int32} {M : Mem} {k : Value → Mem → Prop} (h : (o = 44 ∧ ¬ M 44 6 < 0 ∧ ¬ 121 ≤ M 44 6) ∧ (k (.int 0) (bgM M s b))) : CallP d 40 [.ref o, .int s, .int b] M k := by
  obtain ⟨hp, h⟩ := h
  obtain ⟨d, rfl⟩ : ∃ d', d = d' + 1 := ⟨d - 1, by omega⟩
  obtain ⟨rfl, h1, h2⟩ := hp
  · refine enterV (n := 80) [] [] mI_40 (by decide) (Nat.le_of_ble_eq_true rfl) T_nil ?_
    rw [show lent 3 ([.ref 44, .int s, .int b] : List Value) = [.ref 44, .int s, .int b] from rfl]
    unfold bgM at h
    simp only [dX3_begin_0, dX3_begin_1, dX3_begin_4, dX3_begin_7, dX3_begin_8, dX3_begin_11, dX3_begin_13, dX3_begin_16, dX3_begin_17, dX3_begin_20, dX3_begin_21, dX3_begin_24, dX3_begin_25, dX3_begin_26, dX3_begin_27, dX3_begin_30, dX3_begin_31, dX3_begin_34, dX3_begin_35, dX3_begin_36, dX3_begin_37, dX3_begin_40, dX3_begin_41, dX3_begin_44, dX3_begin_45, dX3_begin_46, dX3_begin_47, dX3_begin_50, dX3_begin_51, dX3_begin_54, dX3_begin_55, dX3_begin_56, dX3_begin_57, dX3_begin_58, dX3_begin_61, dX3_begin_62, dX3_begin_63, dX3_begin_66, fr_3_19, fr_3_22, fr_3_25, fr_3_28, fr_3_31, al_10, al_11, al_12, al_13, al_14, al_16, al_17, al_18, al_19, al_2, al_20, al_21, al_23, al_24, al_27, al_28, al_29, al_3, al_30, al_31, al_32, al_34, al_36, al_37, al_38, al_39, al_4, al_40, al_41, al_42, al_43, al_45, al_46, al_47, al_48, al_49, al_5, al_52, al_53, al_54, al_55, al_56, al_57, al_58, al_6, al_60, al_61, al_62, al_63, al_64, al_65, al_66, al_67, al_69, al_7, al_70, al_71, al_72, al_73, al_9, cat_i, cat_l, cat_r, cat_u, gf_2_2_44, gf_2_3_44, gf_2_4_44, gf_2_5_44, gf_2_6_44, pft_2_6, v_aload_0, v_bipush_121, v_dup, v_getfield, v_iadd, v_iastore, v_ic_ge, v_iconst_0, v_iconst_1, v_if_lt, v_iload_1, v_iload_2, v_putfield, v_return, vgf_i, vgf_r, vgf_s, vpf_s, vc_d, rr_0, rr_1, csT_h, csT_t, csT_n, bI_0, bI_1, bI_z, bT, List.mem_cons, List.not_mem_nil, List.length_cons, List.length_nil, ite_not, ↓reduceIte, true_and, and_true, not_true_eq_false, not_false_eq_true, false_or, or_false, or_true, true_or, Nat.reduceAdd, Nat.reduceEqDiff, Nat.reduceBEq, Nat.reduceLeDiff, Nat.reduceLT, Nat.reduceSub, Int.reduceAdd, Int.reduceLE, Int.reduceLT, Int.reduceToNat, Int.reduceNeg, Int.reduceNatCast', reduceCtorEq, Int32.reduceOfInt, Int32.reduceOfNat, Int32.reduceToNatClampNeg, Int32.reduceToInt, i10, i01, mset_n, mset_s, upd_n, upd_s, h1, h2]
    exact ⟨bd h1 h2 rfl, bd h1 h2 rfl, bd h1 h2 rfl, bd h1 h2 rfl, h⟩

theorem s_X3_begin {d : Nat} (hd : 1 ≤ d) : Snd d 40 pf_X3_begin := by
  intro args M k h
  unfold pf_X3_begin at h
  split at h
  · exact c_X3_begin hd h
  · exact h.elim
/-- the last token takes one more byte -/
def gwM (M : Mem) (v : Int32) (l : Nat) : Mem := if M 46 l = 2 then mset (mset M 48 l (M 48 l + 1)) 49 l (if M 49 l * 10 + v - 48 < 1000 then M 49 l * 10 + v - 48 else 1000) else mset M 48 l (M 48 l + 1)
def pf_X3_grow : PF := fun args M k => match args with
  | [.ref o, .int v] => (o = 44 ∧ ¬ M 44 6 - 1 < 0 ∧ ¬ 121 ≤ M 44 6 - 1) ∧ (k (.int 0) (gwM M v (M 44 6 - 1).toNatClampNeg))
  | _ => False
theorem pe_X3_grow {o : Nat} {v : Int32} {M : Mem} {k : Value → Mem → Prop} : pf_X3_grow [.ref o, .int v] M k = ((o = 44 ∧ ¬ M 44 6 - 1 < 0 ∧ ¬ 121 ≤ M 44 6 - 1) ∧ (k (.int 0) (gwM M v (M 44 6 - 1).toNatClampNeg))) := rfl
set_option maxRecDepth 100000 in
set_option maxHeartbeats 4000000 in
theorem c_X3_grow {d : Nat} (hd : 1 ≤ d) {o : Nat} {v : Int32} {M : Mem} {k : Value → Mem → Prop} (h : (o = 44 ∧ ¬ M 44 6 - 1 < 0 ∧ ¬ 121 ≤ M 44 6 - 1) ∧ (k (.int 0) (gwM M v (M 44 6 - 1).toNatClampNeg))) : CallP d 41 [.ref o, .int v] M k := by
  obtain ⟨hp, h⟩ := h
  obtain ⟨d, rfl⟩ : ∃ d', d = d' + 1 := ⟨d - 1, by omega⟩
  obtain ⟨rfl, h1, h2⟩ := hp
  · refine enterV (n := 80) [] [] mI_41 (by decide) (Nat.le_of_ble_eq_true rfl) T_nil ?_
    rw [show lent 3 ([.ref 44, .int v] : List Value) = [.ref 44, .int v, .retAddr 0] from rfl]
    unfold gwM at h
    by_cases h3 : M 46 (M 44 6 - 1).toNatClampNeg = 2
    · rw [if_pos h3] at h
      simp only [dX3_grow_0, dX3_grow_1, dX3_grow_4, dX3_grow_5, dX3_grow_6, dX3_grow_7, dX3_grow_8, dX3_grow_11, dX3_grow_12, dX3_grow_14, dX3_grow_17, dX3_grow_18, dX3_grow_21, dX3_grow_22, dX3_grow_23, dX3_grow_24, dX3_grow_25, dX3_grow_26, dX3_grow_27, dX3_grow_28, dX3_grow_31, dX3_grow_32, dX3_grow_33, dX3_grow_34, dX3_grow_37, dX3_grow_38, dX3_grow_41, dX3_grow_42, dX3_grow_45, dX3_grow_46, dX3_grow_49, dX3_grow_50, dX3_grow_51, dX3_grow_53, dX3_grow_54, dX3_grow_55, dX3_grow_56, dX3_grow_58, dX3_grow_59, dX3_grow_62, dX3_grow_63, cr_3_107, fr_3_19, fr_3_25, fr_3_28, fr_3_31, al_10, al_11, al_12, al_13, al_14, al_16, al_17, al_18, al_19, al_2, al_20, al_21, al_23, al_24, al_27, al_28, al_29, al_3, al_30, al_31, al_32, al_34, al_36, al_37, al_38, al_39, al_4, al_40, al_41, al_42, al_43, al_45, al_46, al_47, al_48, al_49, al_5, al_52, al_53, al_54, al_55, al_56, al_57, al_58, al_6, al_60, al_61, al_62, al_63, al_64, al_65, al_66, al_67, al_69, al_7, al_70, al_71, al_72, al_73, al_9, cat_i, cat_l, cat_r, cat_u, gf_2_2_44, gf_2_4_44, gf_2_5_44, gf_2_6_44, pft_2_6, v_aload_0, v_bipush_10, v_bipush_121, v_bipush_48, v_dup2, v_getfield, v_iadd, v_iaload, v_iastore, v_ic_ge, v_ic_ne, v_iconst_1, v_iconst_2, v_if_lt, v_iload_1, v_iload_2, v_imul, v_invs, v_istore_2, v_isub, v_return, v_sipush_1000, vcS_min, vgf_i, vgf_r, vgf_s, vc_d, rr_0, rr_1, csT_h, csT_t, csT_n, bI_0, bI_1, bI_z, bT, List.mem_cons, List.not_mem_nil, List.length_cons, List.length_nil, ite_not, ↓reduceIte, true_and, and_true, not_true_eq_false, not_false_eq_true, false_or, or_false, or_true, true_or, Nat.reduceAdd, Nat.reduceEqDiff, Nat.reduceBEq, Nat.reduceLeDiff, Nat.reduceLT, Nat.reduceSub, Int.reduceAdd, Int.reduceLE, Int.reduceLT, Int.reduceToNat, Int.reduceNeg, Int.reduceNatCast', reduceCtorEq, Int32.reduceOfInt, Int32.reduceOfNat, Int32.reduceToNatClampNeg, Int32.reduceToInt, i10, i01, mset_n, mset_s, upd_n, upd_s, h1, h2, h3]
      exact ⟨bd h1 h2 rfl, bd h1 h2 rfl, bd h1 h2 rfl, bd h1 h2 rfl, bd h1 h2 rfl, h⟩
    · rw [if_neg h3] at h
      simp only [dX3_grow_0, dX3_grow_1, dX3_grow_4, dX3_grow_5, dX3_grow_6, dX3_grow_7, dX3_grow_8, dX3_grow_11, dX3_grow_12, dX3_grow_14, dX3_grow_17, dX3_grow_18, dX3_grow_21, dX3_grow_22, dX3_grow_23, dX3_grow_24, dX3_grow_25, dX3_grow_26, dX3_grow_27, dX3_grow_28, dX3_grow_31, dX3_grow_32, dX3_grow_33, dX3_grow_34, dX3_grow_37, dX3_grow_38, dX3_grow_41, dX3_grow_42, dX3_grow_45, dX3_grow_46, dX3_grow_49, dX3_grow_50, dX3_grow_51, dX3_grow_53, dX3_grow_54, dX3_grow_55, dX3_grow_56, dX3_grow_58, dX3_grow_59, dX3_grow_62, dX3_grow_63, cr_3_107, fr_3_19, fr_3_25, fr_3_28, fr_3_31, al_10, al_11, al_12, al_13, al_14, al_16, al_17, al_18, al_19, al_2, al_20, al_21, al_23, al_24, al_27, al_28, al_29, al_3, al_30, al_31, al_32, al_34, al_36, al_37, al_38, al_39, al_4, al_40, al_41, al_42, al_43, al_45, al_46, al_47, al_48, al_49, al_5, al_52, al_53, al_54, al_55, al_56, al_57, al_58, al_6, al_60, al_61, al_62, al_63, al_64, al_65, al_66, al_67, al_69, al_7, al_70, al_71, al_72, al_73, al_9, cat_i, cat_l, cat_r, cat_u, gf_2_2_44, gf_2_4_44, gf_2_5_44, gf_2_6_44, pft_2_6, v_aload_0, v_bipush_10, v_bipush_121, v_bipush_48, v_dup2, v_getfield, v_iadd, v_iaload, v_iastore, v_ic_ge, v_ic_ne, v_iconst_1, v_iconst_2, v_if_lt, v_iload_1, v_iload_2, v_imul, v_invs, v_istore_2, v_isub, v_return, v_sipush_1000, vcS_min, vgf_i, vgf_r, vgf_s, vc_d, rr_0, rr_1, csT_h, csT_t, csT_n, bI_0, bI_1, bI_z, bT, List.mem_cons, List.not_mem_nil, List.length_cons, List.length_nil, ite_not, ↓reduceIte, true_and, and_true, not_true_eq_false, not_false_eq_true, false_or, or_false, or_true, true_or, Nat.reduceAdd, Nat.reduceEqDiff, Nat.reduceBEq, Nat.reduceLeDiff, Nat.reduceLT, Nat.reduceSub, Int.reduceAdd, Int.reduceLE, Int.reduceLT, Int.reduceToNat, Int.reduceNeg, Int.reduceNatCast', reduceCtorEq, Int32.reduceOfInt, Int32.reduceOfNat, Int32.reduceToNatClampNeg, Int32.reduceToInt, i10, i01, mset_n, mset_s, upd_n, upd_s, h1, h2, h3]
      exact ⟨bd h1 h2 rfl, bd h1 h2 rfl, bd h1 h2 rfl, h⟩

theorem s_X3_grow {d : Nat} (hd : 1 ≤ d) : Snd d 41 pf_X3_grow := by
  intro args M k h
  unfold pf_X3_grow at h
  split at h
  · exact c_X3_grow hd h
  · exact h.elim
