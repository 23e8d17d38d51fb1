/-! M: acts on planks and walkers -/
theorem isP_m {p : Int32} : (¬ p < 0 ∧ ¬ 11 < p) = isP p := by
  apply propext
  unfold isP
  rw [Int32.lt_iff_toInt_lt, Int32.lt_iff_toInt_lt, Int32.le_iff_toInt_le]
  simp only [Int32.reduceToInt]
  omega
theorem isS_m {p : Int32} : (¬ p < 0 ∧ ¬ 9 < p) = isS p := by
  apply propext
  unfold isS
  rw [Int32.lt_iff_toInt_lt, Int32.lt_iff_toInt_lt, Int32.le_iff_toInt_le]
  simp only [Int32.reduceToInt]
  omega
theorem sh_m {p : Int32} : (¬ p < 0 ∧ ¬ 3 < p) = shOK p := by
  apply propext
  unfold shOK
  rw [Int32.lt_iff_toInt_lt, Int32.lt_iff_toInt_lt, Int32.le_iff_toInt_le]
  simp only [Int32.reduceToInt]
  omega
def pf_X7_plank : PF := fun args M k => match args with
  | [.ref o, .int p, .int v] => (o = 59) ∧ (if isP p ∧ isG v then k (.int (M 60 (14 + (p).toNatClampNeg))) (mset M 60 (14 + (p).toNatClampNeg) v) else k (.int (-1000001)) (fndM M 0))
  | _ => False
theorem pe_X7_plank {o : Nat} {p : Int32} {v : Int32} {M : Mem} {k : Value → Mem → Prop} : pf_X7_plank [.ref o, .int p, .int v] M k = ((o = 59) ∧ (if isP p ∧ isG v then k (.int (M 60 (14 + (p).toNatClampNeg))) (mset M 60 (14 + (p).toNatClampNeg) v) else k (.int (-1000001)) (fndM M 0))) := rfl
theorem le_X7_plank {o : Nat} {p : Int32} {v : Int32} : lent 3 ([.ref o, .int p, .int v] : List Value) = [.ref o, .int p, .int v] := rfl
set_option maxRecDepth 100000 in
set_option maxHeartbeats 4000000 in
theorem c_X7_plank {d : Nat} (hd : 3 ≤ d) {o : Nat} {p : Int32} {v : Int32} {M : Mem} {k : Value → Mem → Prop} (h : (o = 59) ∧ (if isP p ∧ isG v then k (.int (M 60 (14 + (p).toNatClampNeg))) (mset M 60 (14 + (p).toNatClampNeg) v) else k (.int (-1000001)) (fndM M 0))) : CallP d 140 [.ref o, .int p, .int v] M k := by
  obtain ⟨hp, h⟩ := h
  obtain ⟨d, rfl⟩ : ∃ d', d = d' + 1 := ⟨d - 1, by omega⟩
  obtain rfl := hp
  · refine enterV (n := 80) [(134, pf_X7_isPlank), (135, pf_X7_isGait), (127, pf_X7_become), (125, pf_X7_finding)] [] mI_140 (by decide) (Nat.le_of_ble_eq_true rfl) (T_cons (s_X7_isPlank (by omega)) (T_cons (s_X7_isGait (by omega)) (T_cons (s_X7_become (by omega)) (T_cons (s_X7_finding (by omega)) T_nil)))) ?_
    rw [le_X7_plank]
    simp only [dX7_plank_0, dX7_plank_1, dX7_plank_4, dX7_plank_7, dX7_plank_8, dX7_plank_11, dX7_plank_14, dX7_plank_15, dX7_plank_17, dX7_plank_18, dX7_plank_19, dX7_plank_20, dX7_plank_23, dX7_plank_26, dX7_plank_27, dX7_plank_29, dX7_plank_32, cr_7_102, cr_7_75, cr_7_95, cr_7_99, kr_7_69, skr_7_69, al_10, al_11, al_12, al_13, al_14, al_16, al_17, al_18, al_19, al_2, al_20, al_21, al_23, al_24, al_27, al_28, al_29, al_3, al_30, al_31, al_32, al_34, al_36, al_37, al_38, al_39, al_4, al_40, al_41, al_42, al_43, al_45, al_46, al_47, al_48, al_49, al_5, al_52, al_53, al_54, al_55, al_56, al_57, al_58, al_6, al_60, al_61, al_62, al_63, al_64, al_65, al_66, al_67, al_69, al_7, al_70, al_71, al_72, al_73, al_9, pcl_0, pcl_1, pcl_100, pcl_101, pcl_102, pcl_103, pcl_104, pcl_105, pcl_106, pcl_107, pcl_108, pcl_109, pcl_110, pcl_111, pcl_112, pcl_15, pcl_22, pcl_25, pcl_26, pcl_33, pcl_44, pcl_50, pcl_59, pcl_8, rOK_i, rOK_z, v_aload_0, v_bipush_14, v_goto, v_iadd, v_if_eq, v_iload_1, v_iload_2, v_invs, v_invv, v_ireturn, v_ldc, vcS_1_1, vcV_2_6, vcV_3_6, vld_i, vld_s, vc_d, rr_0, rr_1, csT_h, csT_t, csT_n, bI_0, bI_1, bI_z, bT, List.mem_cons, List.not_mem_nil, List.length_cons, List.length_nil, ite_not, ↓reduceIte, true_and, and_true, not_true_eq_false, not_false_eq_true, false_or, or_false, or_true, true_or, Nat.reduceAdd, Nat.reduceEqDiff, Nat.reduceBEq, Nat.reduceLeDiff, Nat.reduceLT, Nat.reduceSub, Int.reduceAdd, Int.reduceLE, Int.reduceLT, Int.reduceToNat, Int.reduceNeg, Int.reduceNatCast', reduceCtorEq, Int32.reduceOfInt, Int32.reduceOfNat, Int32.reduceToNatClampNeg, Int32.reduceToInt, i10, i01, nEM, pe_X7_isPlank, pe_X7_isGait, pe_X7_become, fn_0, fn_1, fn_2, fn_3, fn_4, fn_5, fn_6, isP_m]
    by_cases h1 : isP p
    · rw [if_pos h1]
      by_cases h2 : isG v
      · rw [if_pos ⟨h1, h2⟩] at h
        rw [if_pos h2]
        obtain ⟨t, ht, rfl⟩ := i32_14 h1.1 h1.2
        rw [nI_clamp (by omega)] at h
        rw [p14, nI_clamp (by omega)]
        exact ⟨⟨nI_pos (by omega), nI_ge (b := 50) (by omega) (by decide)⟩, h⟩
      · rw [if_neg (fun z => h2 z.2)] at h
        rw [if_neg h2]
        exact h
    · rw [if_neg (fun z => h1 z.1)] at h
      rw [if_neg h1]
      exact h

theorem s_X7_plank {d : Nat} (hd : 3 ≤ d) : Snd d 140 pf_X7_plank := by
  intro args M k h
  unfold pf_X7_plank at h
  split at h
  · exact c_X7_plank hd h
  · exact h.elim
def pf_X7_keeps : PF := fun args M k => match args with
  | [.ref o, .int p] => (o = 59) ∧ (if isP p then k (.int (M 60 (14 + (p).toNatClampNeg))) M else k (.int (-1000001)) (fndM M 0))
  | _ => False
theorem pe_X7_keeps {o : Nat} {p : Int32} {M : Mem} {k : Value → Mem → Prop} : pf_X7_keeps [.ref o, .int p] M k = ((o = 59) ∧ (if isP p then k (.int (M 60 (14 + (p).toNatClampNeg))) M else k (.int (-1000001)) (fndM M 0))) := rfl
theorem le_X7_keeps {o : Nat} {p : Int32} : lent 2 ([.ref o, .int p] : List Value) = [.ref o, .int p] := rfl
set_option maxRecDepth 100000 in
set_option maxHeartbeats 4000000 in
theorem c_X7_keeps {d : Nat} (hd : 3 ≤ d) {o : Nat} {p : Int32} {M : Mem} {k : Value → Mem → Prop} (h : (o = 59) ∧ (if isP p then k (.int (M 60 (14 + (p).toNatClampNeg))) M else k (.int (-1000001)) (fndM M 0))) : CallP d 141 [.ref o, .int p] M k := by
  obtain ⟨hp, h⟩ := h
  obtain ⟨d, rfl⟩ : ∃ d', d = d' + 1 := ⟨d - 1, by omega⟩
  obtain rfl := hp
  · refine enterV (n := 80) [(134, pf_X7_isPlank), (125, pf_X7_finding)] [] mI_141 (by decide) (Nat.le_of_ble_eq_true rfl) (T_cons (s_X7_isPlank (by omega)) (T_cons (s_X7_finding (by omega)) T_nil)) ?_
    rw [le_X7_keeps]
    simp only [dX7_keeps_0, dX7_keeps_1, dX7_keeps_4, dX7_keeps_7, dX7_keeps_8, dX7_keeps_11, dX7_keeps_13, dX7_keeps_14, dX7_keeps_15, dX7_keeps_16, dX7_keeps_19, dX7_keeps_20, dX7_keeps_22, dX7_keeps_25, cr_7_75, cr_7_95, fr_7_9, kr_7_69, skr_7_69, al_10, al_11, al_12, al_13, al_14, al_16, al_17, al_18, al_19, al_2, al_20, al_21, al_23, al_24, al_27, al_28, al_29, al_3, al_30, al_31, al_32, al_34, al_36, al_37, al_38, al_39, al_4, al_40, al_41, al_42, al_43, al_45, al_46, al_47, al_48, al_49, al_5, al_52, al_53, al_54, al_55, al_56, al_57, al_58, al_6, al_60, al_61, al_62, al_63, al_64, al_65, al_66, al_67, al_69, al_7, al_70, al_71, al_72, al_73, al_9, gf_6_0_59, pcl_0, pcl_1, pcl_100, pcl_101, pcl_102, pcl_103, pcl_104, pcl_105, pcl_106, pcl_107, pcl_108, pcl_109, pcl_110, pcl_111, pcl_112, pcl_15, pcl_22, pcl_25, pcl_26, pcl_33, pcl_44, pcl_50, pcl_59, pcl_8, rOK_i, rOK_z, v_aload_0, v_bipush_14, v_getfield, v_goto, v_iadd, v_iaload, v_if_eq, v_iload_1, v_invs, v_invv, v_ireturn, v_ldc, vcS_1_1, vcV_2_6, vgf_i, vgf_r, vgf_s, vld_i, vld_s, vc_d, rr_0, rr_1, csT_h, csT_t, csT_n, bI_0, bI_1, bI_z, bT, List.mem_cons, List.not_mem_nil, List.length_cons, List.length_nil, ite_not, ↓reduceIte, true_and, and_true, not_true_eq_false, not_false_eq_true, false_or, or_false, or_true, true_or, Nat.reduceAdd, Nat.reduceEqDiff, Nat.reduceBEq, Nat.reduceLeDiff, Nat.reduceLT, Nat.reduceSub, Int.reduceAdd, Int.reduceLE, Int.reduceLT, Int.reduceToNat, Int.reduceNeg, Int.reduceNatCast', reduceCtorEq, Int32.reduceOfInt, Int32.reduceOfNat, Int32.reduceToNatClampNeg, Int32.reduceToInt, i10, i01, nEM, pe_X7_isPlank, fn_0, fn_1, fn_2, fn_3, fn_4, fn_5, fn_6, isP_m]
    by_cases h1 : isP p
    · rw [if_pos h1] at h ⊢
      obtain ⟨t, ht, rfl⟩ := i32_14 h1.1 h1.2
      rw [nI_clamp (by omega)] at h
      rw [p14, nI_clamp (by omega), nI_toInt (by omega)]
      exact ⟨by omega, h⟩
    · rw [if_neg h1] at h ⊢
      exact h

theorem s_X7_keeps {d : Nat} (hd : 3 ≤ d) : Snd d 141 pf_X7_keeps := by
  intro args M k h
  unfold pf_X7_keeps at h
  split at h
  · exact c_X7_keeps hd h
  · exact h.elim
/-- a row with one walker more -/
def cmR (r : Nat → Int32) (kd g bl : Int32) : Nat → Int32 := upd (upd (upd (upd (upd r (wf (r 1).toNatClampNeg 0) kd) (wf (r 1).toNatClampNeg 1) g) (wf (r 1).toNatClampNeg 2) bl) (wf (r 1).toNatClampNeg 3) 0) 1 (r 1 + 1)
def pf_X7_comes : PF := fun args M k => match args with
  | [.ref o, .int kd, .int g, .int bl] => (o = 59 ∧ wOK (M 60 1)) ∧ (k (.int (M 60 1)) (mrow M 60 (cmR (M 60) kd g bl)))
  | _ => False
theorem pe_X7_comes {o : Nat} {kd : Int32} {g : Int32} {bl : Int32} {M : Mem} {k : Value → Mem → Prop} : pf_X7_comes [.ref o, .int kd, .int g, .int bl] M k = ((o = 59 ∧ wOK (M 60 1)) ∧ (k (.int (M 60 1)) (mrow M 60 (cmR (M 60) kd g bl)))) := rfl
theorem le_X7_comes {o : Nat} {kd : Int32} {g : Int32} {bl : Int32} : lent 5 ([.ref o, .int kd, .int g, .int bl] : List Value) = [.ref o, .int kd, .int g, .int bl, .retAddr 0] := rfl
set_option maxRecDepth 100000 in
set_option maxHeartbeats 4000000 in
theorem c_X7_comes {d : Nat} (hd : 2 ≤ d) {o : Nat} {kd : Int32} {g : Int32} {bl : Int32} {M : Mem} {k : Value → Mem → Prop} (h : (o = 59 ∧ wOK (M 60 1)) ∧ (k (.int (M 60 1)) (mrow M 60 (cmR (M 60) kd g bl)))) : CallP d 142 [.ref o, .int kd, .int g, .int bl] M k := by
  obtain ⟨hp, h⟩ := h
  obtain ⟨d, rfl⟩ : ∃ d', d = d' + 1 := ⟨d - 1, by omega⟩
  obtain ⟨rfl, hw⟩ := hp
  obtain ⟨i, hi, e⟩ := wOK_n hw
  have ci : (nI i).toNatClampNeg = i := nI_clamp (by omega)
  have ho := nOK hi
  have q0 := wf_c hi (f := 0) (by decide)
  have q1 := wf_c hi (f := 1) (by decide)
  have q2 := wf_c hi (f := 2) (by decide)
  have q3 := wf_c hi (f := 3) (by decide)
  have n0 : (1 == wf i 0) = false := bq (by unfold wf; omega)
  have n1 : (1 == wf i 1) = false := bq (by unfold wf; omega)
  have n2 : (1 == wf i 2) = false := bq (by unfold wf; omega)
  have n3 : (1 == wf i 3) = false := bq (by unfold wf; omega)
  unfold cmR at h
  rw [e, ci] at h
  · refine enterV (n := 80) [(138, pf_X7_place)] [] mI_142 (by decide) (Nat.le_of_ble_eq_true rfl) (T_cons (s_X7_place (by omega)) T_nil) ?_
    rw [le_X7_comes]
    simp only [dX7_comes_0, dX7_comes_1, dX7_comes_4, dX7_comes_5, dX7_comes_6, dX7_comes_8, dX7_comes_9, dX7_comes_12, dX7_comes_14, dX7_comes_15, dX7_comes_18, dX7_comes_19, dX7_comes_20, dX7_comes_21, dX7_comes_24, dX7_comes_26, dX7_comes_27, dX7_comes_30, dX7_comes_31, dX7_comes_32, dX7_comes_33, dX7_comes_36, dX7_comes_38, dX7_comes_39, dX7_comes_42, dX7_comes_43, dX7_comes_44, dX7_comes_45, dX7_comes_48, dX7_comes_50, dX7_comes_51, dX7_comes_54, dX7_comes_55, dX7_comes_56, dX7_comes_57, dX7_comes_60, dX7_comes_61, dX7_comes_62, dX7_comes_63, dX7_comes_64, dX7_comes_65, dX7_comes_66, dX7_comes_68, cr_7_92, fr_7_9, al_10, al_11, al_12, al_13, al_14, al_16, al_17, al_18, al_19, al_2, al_20, al_21, al_23, al_24, al_27, al_28, al_29, al_3, al_30, al_31, al_32, al_34, al_36, al_37, al_38, al_39, al_4, al_40, al_41, al_42, al_43, al_45, al_46, al_47, al_48, al_49, al_5, al_52, al_53, al_54, al_55, al_56, al_57, al_58, al_6, al_60, al_61, al_62, al_63, al_64, al_65, al_66, al_67, al_69, al_7, al_70, al_71, al_72, al_73, al_9, cat_i, cat_l, cat_r, cat_u, gf_6_0_59, rOK_i, rOK_z, v_aload_0, v_dup2, v_getfield, v_iadd, v_iaload, v_iastore, v_iconst_0, v_iconst_1, v_iconst_2, v_iconst_3, v_iload_1, v_iload_2, v_iload_3, v_iload_4, v_invs, v_ireturn, v_istore_4, vcS_2_1, vgf_i, vgf_r, vgf_s, vc_d, rr_0, rr_1, csT_h, csT_t, csT_n, bI_0, bI_1, bI_z, bT, List.mem_cons, List.not_mem_nil, List.length_cons, List.length_nil, ite_not, ↓reduceIte, true_and, and_true, not_true_eq_false, not_false_eq_true, false_or, or_false, or_true, true_or, Nat.reduceAdd, Nat.reduceEqDiff, Nat.reduceBEq, Nat.reduceLeDiff, Nat.reduceLT, Nat.reduceSub, Int.reduceAdd, Int.reduceLE, Int.reduceLT, Int.reduceToNat, Int.reduceNeg, Int.reduceNatCast', reduceCtorEq, Int32.reduceOfInt, Int32.reduceOfNat, Int32.reduceToNatClampNeg, Int32.reduceToInt, i10, i01, nEM, pe_X7_place, e, ho, ci, Int32.reduceLT, Int32.reduceLE, not_false_eq_true, q0, q1, q2, q3, n0, n1, n2, n3, mset, mrow_s, mrow_mrow, upd_n]
    exact ⟨wf_t hi (by decide), wf_t hi (by decide), wf_t hi (by decide), wf_t hi (by decide), h⟩

theorem s_X7_comes {d : Nat} (hd : 2 ≤ d) : Snd d 142 pf_X7_comes := by
  intro args M k h
  unfold pf_X7_comes at h
  split at h
  · exact c_X7_comes hd h
  · exact h.elim
def pf_X7_walker : PF := fun args M k => match args with
  | [.ref o, .int kd, .int g] => (o = 59 ∧ IM (M 60)) ∧ (if isK kd ∧ isG g then (if M 60 1 = 6 then k (.int (-1000002)) (fndM M 1) else k (.int (M 60 1)) (mrow M 60 (cmR (M 60) kd g 30))) else k (.int (-1000001)) (fndM M 0))
  | _ => False
theorem pe_X7_walker {o : Nat} {kd : Int32} {g : Int32} {M : Mem} {k : Value → Mem → Prop} : pf_X7_walker [.ref o, .int kd, .int g] M k = ((o = 59 ∧ IM (M 60)) ∧ (if isK kd ∧ isG g then (if M 60 1 = 6 then k (.int (-1000002)) (fndM M 1) else k (.int (M 60 1)) (mrow M 60 (cmR (M 60) kd g 30))) else k (.int (-1000001)) (fndM M 0))) := rfl
theorem le_X7_walker {o : Nat} {kd : Int32} {g : Int32} : lent 3 ([.ref o, .int kd, .int g] : List Value) = [.ref o, .int kd, .int g] := rfl
set_option maxRecDepth 100000 in
set_option maxHeartbeats 4000000 in
theorem c_X7_walker {d : Nat} (hd : 3 ≤ d) {o : Nat} {kd : Int32} {g : Int32} {M : Mem} {k : Value → Mem → Prop} (h : (o = 59 ∧ IM (M 60)) ∧ (if isK kd ∧ isG g then (if M 60 1 = 6 then k (.int (-1000002)) (fndM M 1) else k (.int (M 60 1)) (mrow M 60 (cmR (M 60) kd g 30))) else k (.int (-1000001)) (fndM M 0))) : CallP d 143 [.ref o, .int kd, .int g] M k := by
  obtain ⟨hp, h⟩ := h
  obtain ⟨d, rfl⟩ : ∃ d', d = d' + 1 := ⟨d - 1, by omega⟩
  obtain ⟨rfl, m, hm, he⟩ := hp
  · refine enterV (n := 80) [(137, pf_X7_isKind), (135, pf_X7_isGait), (125, pf_X7_finding), (142, pf_X7_comes)] [] mI_143 (by decide) (Nat.le_of_ble_eq_true rfl) (T_cons (s_X7_isKind (by omega)) (T_cons (s_X7_isGait (by omega)) (T_cons (s_X7_finding (by omega)) (T_cons (s_X7_comes (by omega)) T_nil)))) ?_
    rw [le_X7_walker]
    simp only [dX7_walker_0, dX7_walker_1, dX7_walker_4, dX7_walker_7, dX7_walker_8, dX7_walker_11, dX7_walker_14, dX7_walker_15, dX7_walker_17, dX7_walker_20, dX7_walker_21, dX7_walker_22, dX7_walker_25, dX7_walker_26, dX7_walker_27, dX7_walker_29, dX7_walker_32, dX7_walker_33, dX7_walker_35, dX7_walker_38, dX7_walker_41, dX7_walker_42, dX7_walker_43, dX7_walker_44, dX7_walker_46, dX7_walker_49, cr_7_105, cr_7_109, cr_7_75, cr_7_99, fr_7_9, kr_7_108, kr_7_69, skr_7_108, skr_7_69, al_10, al_11, al_12, al_13, al_14, al_16, al_17, al_18, al_19, al_2, al_20, al_21, al_23, al_24, al_27, al_28, al_29, al_3, al_30, al_31, al_32, al_34, al_36, al_37, al_38, al_39, al_4, al_40, al_41, al_42, al_43, al_45, al_46, al_47, al_48, al_49, al_5, al_52, al_53, al_54, al_55, al_56, al_57, al_58, al_6, al_60, al_61, al_62, al_63, al_64, al_65, al_66, al_67, al_69, al_7, al_70, al_71, al_72, al_73, al_9, gf_6_0_59, pcl_0, pcl_1, pcl_100, pcl_101, pcl_102, pcl_103, pcl_104, pcl_105, pcl_106, pcl_107, pcl_108, pcl_109, pcl_110, pcl_111, pcl_112, pcl_15, pcl_22, pcl_25, pcl_26, pcl_33, pcl_44, pcl_50, pcl_59, pcl_8, rOK_i, rOK_z, v_aload_0, v_bipush_30, v_bipush_6, v_getfield, v_goto, v_iaload, v_ic_ne, v_iconst_1, v_if_eq, v_if_ne, v_iload_1, v_iload_2, v_invs, v_invv, v_ireturn, v_ldc, vcS_1_1, vcV_2_6, vcV_4_6, vgf_i, vgf_r, vgf_s, vld_i, vld_s, vc_d, rr_0, rr_1, csT_h, csT_t, csT_n, bI_0, bI_1, bI_z, bT, List.mem_cons, List.not_mem_nil, List.length_cons, List.length_nil, ite_not, ↓reduceIte, true_and, and_true, not_true_eq_false, not_false_eq_true, false_or, or_false, or_true, true_or, Nat.reduceAdd, Nat.reduceEqDiff, Nat.reduceBEq, Nat.reduceLeDiff, Nat.reduceLT, Nat.reduceSub, Int.reduceAdd, Int.reduceLE, Int.reduceLT, Int.reduceToNat, Int.reduceNeg, Int.reduceNatCast', reduceCtorEq, Int32.reduceOfInt, Int32.reduceOfNat, Int32.reduceToNatClampNeg, Int32.reduceToInt, i10, i01, nEM, pe_X7_isKind, pe_X7_isGait, fn_0, fn_1, fn_2, fn_3, fn_4, fn_5, fn_6, pe_X7_comes]
    by_cases h1 : isK kd
    · rw [if_pos h1]
      by_cases h2 : isG g
      · rw [if_pos ⟨h1, h2⟩] at h
        rw [if_pos h2]
        by_cases h3 : M 60 1 = 6
        · rw [if_pos h3] at h ⊢
          exact h
        · rw [if_neg h3] at h ⊢
          refine ⟨?_, h⟩
          rw [he] at h3 ⊢
          refine nOK (Nat.lt_of_le_of_ne hm (fun z => h3 ?_))
          rw [z]
          rfl
      · rw [if_neg (fun z => h2 z.2)] at h
        rw [if_neg h2]
        exact h
    · rw [if_neg (fun z => h1 z.1)] at h
      rw [if_neg h1]
      exact h

theorem s_X7_walker {d : Nat} (hd : 3 ≤ d) : Snd d 143 pf_X7_walker := by
  intro args M k h
  unfold pf_X7_walker at h
  split at h
  · exact c_X7_walker hd h
  · exact h.elim
theorem hasM_o {r : Nat → Int32} {w : Int32} (h : hasM r w) : wOK w := And.intro h.1 h.2.2
def pf_X7_of : PF := fun args M k => match args with
  | [.ref o, .int w, .int q] => (o = 59 ∧ IM (M 60)) ∧ (if hasM (M 60) w ∧ ¬ q < 0 ∧ ¬ 5 < q then (if q = 4 then k (.int (brs (M 60 (wf (w).toNatClampNeg 0)) (M 60 (wf (w).toNatClampNeg 2)) (M 60 3))) M else if q = 5 then k (.int (unfF (M 60 (wf (w).toNatClampNeg 1)) (brs (M 60 (wf (w).toNatClampNeg 0)) (M 60 (wf (w).toNatClampNeg 2)) (M 60 3)) (plr (M 60)) 12 0 0)) M else k (.int (M 60 (wf (w).toNatClampNeg (q).toNatClampNeg))) M) else k (.int (-1000001)) (fndM M 0))
  | _ => False
theorem pe_X7_of {o : Nat} {w : Int32} {q : Int32} {M : Mem} {k : Value → Mem → Prop} : pf_X7_of [.ref o, .int w, .int q] M k = ((o = 59 ∧ IM (M 60)) ∧ (if hasM (M 60) w ∧ ¬ q < 0 ∧ ¬ 5 < q then (if q = 4 then k (.int (brs (M 60 (wf (w).toNatClampNeg 0)) (M 60 (wf (w).toNatClampNeg 2)) (M 60 3))) M else if q = 5 then k (.int (unfF (M 60 (wf (w).toNatClampNeg 1)) (brs (M 60 (wf (w).toNatClampNeg 0)) (M 60 (wf (w).toNatClampNeg 2)) (M 60 3)) (plr (M 60)) 12 0 0)) M else k (.int (M 60 (wf (w).toNatClampNeg (q).toNatClampNeg))) M) else k (.int (-1000001)) (fndM M 0))) := rfl
theorem le_X7_of {o : Nat} {w : Int32} {q : Int32} : lent 3 ([.ref o, .int w, .int q] : List Value) = [.ref o, .int w, .int q] := rfl
set_option maxRecDepth 100000 in
set_option maxHeartbeats 4000000 in
theorem c_X7_of {d : Nat} (hd : 6 ≤ d) {o : Nat} {w : Int32} {q : Int32} {M : Mem} {k : Value → Mem → Prop} (h : (o = 59 ∧ IM (M 60)) ∧ (if hasM (M 60) w ∧ ¬ q < 0 ∧ ¬ 5 < q then (if q = 4 then k (.int (brs (M 60 (wf (w).toNatClampNeg 0)) (M 60 (wf (w).toNatClampNeg 2)) (M 60 3))) M else if q = 5 then k (.int (unfF (M 60 (wf (w).toNatClampNeg 1)) (brs (M 60 (wf (w).toNatClampNeg 0)) (M 60 (wf (w).toNatClampNeg 2)) (M 60 3)) (plr (M 60)) 12 0 0)) M else k (.int (M 60 (wf (w).toNatClampNeg (q).toNatClampNeg))) M) else k (.int (-1000001)) (fndM M 0))) : CallP d 147 [.ref o, .int w, .int q] M k := by
  obtain ⟨hp, h⟩ := h
  obtain ⟨d, rfl⟩ : ∃ d', d = d' + 1 := ⟨d - 1, by omega⟩
  obtain ⟨rfl, hI⟩ := hp
  · refine enterV (n := 80) [(136, pf_X7_isWalker), (126, pf_X7_within), (125, pf_X7_finding), (144, pf_X7_bears), (146, pf_X7_fallsOn), (139, pf_X7_walkerIs)] [] mI_147 (by decide) (Nat.le_of_ble_eq_true rfl) (T_cons (s_X7_isWalker (by omega)) (T_cons (s_X7_within (by omega)) (T_cons (s_X7_finding (by omega)) (T_cons (s_X7_bears (by omega)) (T_cons (s_X7_fallsOn (by omega)) (T_cons (s_X7_walkerIs (by omega)) T_nil)))))) ?_
    rw [le_X7_of]
    simp only [dX7_of_0, dX7_of_1, dX7_of_2, dX7_of_5, dX7_of_8, dX7_of_9, dX7_of_10, dX7_of_11, dX7_of_14, dX7_of_17, dX7_of_18, dX7_of_20, dX7_of_23, dX7_of_24, dX7_of_25, dX7_of_26, dX7_of_29, dX7_of_30, dX7_of_31, dX7_of_34, dX7_of_37, dX7_of_38, dX7_of_39, dX7_of_42, dX7_of_43, dX7_of_44, dX7_of_47, dX7_of_50, dX7_of_51, dX7_of_52, dX7_of_53, dX7_of_56, cr_7_113, cr_7_119, cr_7_126, cr_7_129, cr_7_75, cr_7_88, kr_7_69, skr_7_69, al_10, al_11, al_12, al_13, al_14, al_16, al_17, al_18, al_19, al_2, al_20, al_21, al_23, al_24, al_27, al_28, al_29, al_3, al_30, al_31, al_32, al_34, al_36, al_37, al_38, al_39, al_4, al_40, al_41, al_42, al_43, al_45, al_46, al_47, al_48, al_49, al_5, al_52, al_53, al_54, al_55, al_56, al_57, al_58, al_6, al_60, al_61, al_62, al_63, al_64, al_65, al_66, al_67, al_69, al_7, al_70, al_71, al_72, al_73, al_9, pcl_0, pcl_1, pcl_100, pcl_101, pcl_102, pcl_103, pcl_104, pcl_105, pcl_106, pcl_107, pcl_108, pcl_109, pcl_110, pcl_111, pcl_112, pcl_15, pcl_22, pcl_25, pcl_26, pcl_33, pcl_44, pcl_50, pcl_59, pcl_8, rOK_i, rOK_z, v_aload_0, v_goto, v_ic_ne, v_iconst_0, v_iconst_4, v_iconst_5, v_if_eq, v_if_ne, v_iload_1, v_iload_2, v_invs, v_invv, v_ireturn, v_ldc, vcS_3_1, vcV_2_6, vcV_3_6, vld_i, vld_s, vc_d, rr_0, rr_1, csT_h, csT_t, csT_n, bI_0, bI_1, bI_z, bT, List.mem_cons, List.not_mem_nil, List.length_cons, List.length_nil, ite_not, ↓reduceIte, true_and, and_true, not_true_eq_false, not_false_eq_true, false_or, or_false, or_true, true_or, Nat.reduceAdd, Nat.reduceEqDiff, Nat.reduceBEq, Nat.reduceLeDiff, Nat.reduceLT, Nat.reduceSub, Int.reduceAdd, Int.reduceLE, Int.reduceLT, Int.reduceToNat, Int.reduceNeg, Int.reduceNatCast', reduceCtorEq, Int32.reduceOfInt, Int32.reduceOfNat, Int32.reduceToNatClampNeg, Int32.reduceToInt, i10, i01, nEM, pe_X7_isWalker, pe_X7_within, fn_0, fn_1, fn_2, fn_3, fn_4, fn_5, fn_6, pe_X7_bears, pe_X7_fallsOn, pe_X7_walkerIs, hI]
    by_cases h1 : hasM (M 60) w
    · rw [if_pos h1]
      have hw := hasM_o h1
      by_cases h2 : ¬ q < 0 ∧ ¬ 5 < q
      · rw [if_pos ⟨h1, h2⟩] at h
        rw [if_pos h2]
        by_cases h3 : q = 4
        · rw [if_pos h3] at h ⊢
          exact ⟨hw, h⟩
        · rw [if_neg h3] at h ⊢
          by_cases h4 : q = 5
          · rw [if_pos h4] at h ⊢
            exact ⟨hw, h⟩
          · rw [if_neg h4] at h ⊢
            refine ⟨⟨hw, h2.1, fun z => ?_⟩, h⟩
            obtain ⟨j, hj, rfl⟩ := nI_of2 (M := 5) (n := 5) rfl h2.1 (Int32.not_lt.mp h2.2)
            rw [show (4 : Int32) = nI 4 from rfl, nI_leI (by omega) (by omega)] at z
            have : j = 4 ∨ j = 5 := by omega
            rcases this with rfl | rfl
            · exact h3 rfl
            · exact h4 rfl
      · rw [if_neg (fun z => h2 z.2)] at h
        rw [if_neg h2]
        exact h
    · rw [if_neg (fun z => h1 z.1)] at h
      rw [if_neg h1]
      exact h

theorem s_X7_of {d : Nat} (hd : 6 ≤ d) : Snd d 147 pf_X7_of := by
  intro args M k h
  unfold pf_X7_of at h
  split at h
  · exact c_X7_of hd h
  · exact h.elim
abbrev mbF (q v : Int32) : Prop := (q = 0 ∧ isK v) ∨ (q = 1 ∧ isG v) ∨ (q = 2 ∧ isG v) ∨ (q = 3 ∧ ¬ v < 0 ∧ ¬ 9999 < v)
def pf_X7_mayBe : PF := fun args M k => match args with
  | [.int q, .int v] => (True) ∧ (k (.int (bI (mbF q v))) M)
  | _ => False
theorem pe_X7_mayBe {q : Int32} {v : Int32} {M : Mem} {k : Value → Mem → Prop} : pf_X7_mayBe [.int q, .int v] M k = ((True) ∧ (k (.int (bI (mbF q v))) M)) := rfl
theorem le_X7_mayBe {q : Int32} {v : Int32} : lent 2 ([.int q, .int v] : List Value) = [.int q, .int v] := rfl
set_option maxRecDepth 100000 in
set_option maxHeartbeats 4000000 in
theorem c_X7_mayBe {d : Nat} (hd : 3 ≤ d) {q : Int32} {v : Int32} {M : Mem} {k : Value → Mem → Prop} (h : (True) ∧ (k (.int (bI (mbF q v))) M)) : CallP d 148 [.int q, .int v] M k := by
  obtain ⟨hp, h⟩ := h
  obtain ⟨d, rfl⟩ : ∃ d', d = d' + 1 := ⟨d - 1, by omega⟩
  refine enterV (n := 80) [(137, pf_X7_isKind), (135, pf_X7_isGait), (126, pf_X7_within)] [] mI_148 (by decide) (Nat.le_of_ble_eq_true rfl) (T_cons (s_X7_isKind (by omega)) (T_cons (s_X7_isGait (by omega)) (T_cons (s_X7_within (by omega)) T_nil))) ?_
  rw [le_X7_mayBe]
  simp only [dX7_mayBe_0, dX7_mayBe_1, dX7_mayBe_32, dX7_mayBe_33, dX7_mayBe_36, dX7_mayBe_37, dX7_mayBe_38, dX7_mayBe_41, dX7_mayBe_42, dX7_mayBe_43, dX7_mayBe_44, dX7_mayBe_47, dX7_mayBe_50, dX7_mayBe_51, dX7_mayBe_52, cr_7_105, cr_7_88, cr_7_99, al_10, al_11, al_12, al_13, al_14, al_16, al_17, al_18, al_19, al_2, al_20, al_21, al_23, al_24, al_27, al_28, al_29, al_3, al_30, al_31, al_32, al_34, al_36, al_37, al_38, al_39, al_4, al_40, al_41, al_42, al_43, al_45, al_46, al_47, al_48, al_49, al_5, al_52, al_53, al_54, al_55, al_56, al_57, al_58, al_6, al_60, al_61, al_62, al_63, al_64, al_65, al_66, al_67, al_69, al_7, al_70, al_71, al_72, al_73, al_9, rOK_i, rOK_z, v_iconst_0, v_iload_0, v_iload_1, v_invs, v_ireturn, v_sipush_9999, v_table, vcS_1_1, vcS_3_1, vtab_c, vtab_n, vc_d, rr_0, rr_1, csT_h, csT_t, csT_n, bI_0, bI_1, bI_z, bT, List.mem_cons, List.not_mem_nil, List.length_cons, List.length_nil, ite_not, ↓reduceIte, true_and, and_true, not_true_eq_false, not_false_eq_true, false_or, or_false, or_true, true_or, Nat.reduceAdd, Nat.reduceEqDiff, Nat.reduceBEq, Nat.reduceLeDiff, Nat.reduceLT, Nat.reduceSub, Int.reduceAdd, Int.reduceLE, Int.reduceLT, Int.reduceToNat, Int.reduceNeg, Int.reduceNatCast', reduceCtorEq, Int32.reduceOfInt, Int32.reduceOfNat, Int32.reduceToNatClampNeg, Int32.reduceToInt, i10, i01, nEM, pe_X7_isKind, pe_X7_isGait, pe_X7_within, Array.toList, List.length_cons, Int.reduceSub]
  by_cases h0 : q = 0
  · have e : bI (mbF q v) = bI (isK v) := bI_c (by subst h0; unfold mbF; simp)
    rw [e] at h
    simp only [h0, ↓reduceIte]
    exact h
  · by_cases h1 : q = 1
    · have e : bI (mbF q v) = bI (isG v) := bI_c (by subst h1; unfold mbF; simp)
      rw [e] at h
      simp only [h1, Int32.reduceLT, Int32.reduceLE, not_false_eq_true, ↓reduceIte]
      exact h
    · by_cases h2 : q = 2
      · have e : bI (mbF q v) = bI (isG v) := bI_c (by subst h2; unfold mbF; simp)
        rw [e] at h
        simp only [h2, Int32.reduceLT, Int32.reduceLE, not_false_eq_true, ↓reduceIte]
        exact h
      · by_cases h3 : q = 3
        · have e : bI (mbF q v) = bI (¬ v < 0 ∧ ¬ 9999 < v) := bI_c (by subst h3; unfold mbF; simp)
          rw [e] at h
          simp only [h3, Int32.reduceLT, Int32.reduceLE, not_false_eq_true, ↓reduceIte]
          exact h
        · have e : ¬ mbF q v := by unfold mbF; simp [h0, h1, h2, h3]
          rw [bI_f e] at h
          simp only [h0, h1, h2, h3, ↓reduceIte]
          exact h
theorem s_X7_mayBe {d : Nat} (hd : 3 ≤ d) : Snd d 148 pf_X7_mayBe := by
  intro args M k h
  unfold pf_X7_mayBe at h
  split at h
  · exact c_X7_mayBe hd h
  · exact h.elim
def pf_X7_change : PF := fun args M k => match args with
  | [.ref o, .int w, .int q, .int v] => (o = 59 ∧ IM (M 60)) ∧ (if hasM (M 60) w ∧ mbF q v then k (.int (M 60 (wf (w).toNatClampNeg (q).toNatClampNeg))) (mset M 60 (wf (w).toNatClampNeg (q).toNatClampNeg) v) else k (.int (-1000001)) (fndM M 0))
  | _ => False
theorem pe_X7_change {o : Nat} {w : Int32} {q : Int32} {v : Int32} {M : Mem} {k : Value → Mem → Prop} : pf_X7_change [.ref o, .int w, .int q, .int v] M k = ((o = 59 ∧ IM (M 60)) ∧ (if hasM (M 60) w ∧ mbF q v then k (.int (M 60 (wf (w).toNatClampNeg (q).toNatClampNeg))) (mset M 60 (wf (w).toNatClampNeg (q).toNatClampNeg) v) else k (.int (-1000001)) (fndM M 0))) := rfl
theorem le_X7_change {o : Nat} {w : Int32} {q : Int32} {v : Int32} : lent 4 ([.ref o, .int w, .int q, .int v] : List Value) = [.ref o, .int w, .int q, .int v] := rfl
set_option maxRecDepth 100000 in
set_option maxHeartbeats 4000000 in
theorem c_X7_change {d : Nat} (hd : 4 ≤ d) {o : Nat} {w : Int32} {q : Int32} {v : Int32} {M : Mem} {k : Value → Mem → Prop} (h : (o = 59 ∧ IM (M 60)) ∧ (if hasM (M 60) w ∧ mbF q v then k (.int (M 60 (wf (w).toNatClampNeg (q).toNatClampNeg))) (mset M 60 (wf (w).toNatClampNeg (q).toNatClampNeg) v) else k (.int (-1000001)) (fndM M 0))) : CallP d 149 [.ref o, .int w, .int q, .int v] M k := by
  obtain ⟨hp, h⟩ := h
  obtain ⟨d, rfl⟩ : ∃ d', d = d' + 1 := ⟨d - 1, by omega⟩
  obtain ⟨rfl, hI⟩ := hp
  · refine enterV (n := 80) [(136, pf_X7_isWalker), (148, pf_X7_mayBe), (138, pf_X7_place), (127, pf_X7_become), (125, pf_X7_finding)] [] mI_149 (by decide) (Nat.le_of_ble_eq_true rfl) (T_cons (s_X7_isWalker (by omega)) (T_cons (s_X7_mayBe (by omega)) (T_cons (s_X7_place (by omega)) (T_cons (s_X7_become (by omega)) (T_cons (s_X7_finding (by omega)) T_nil))))) ?_
    rw [le_X7_change]
    simp only [dX7_change_0, dX7_change_1, dX7_change_2, dX7_change_5, dX7_change_8, dX7_change_9, dX7_change_10, dX7_change_13, dX7_change_16, dX7_change_17, dX7_change_18, dX7_change_19, dX7_change_22, dX7_change_23, dX7_change_26, dX7_change_29, dX7_change_30, dX7_change_32, dX7_change_35, cr_7_102, cr_7_126, cr_7_132, cr_7_75, cr_7_92, kr_7_69, skr_7_69, al_10, al_11, al_12, al_13, al_14, al_16, al_17, al_18, al_19, al_2, al_20, al_21, al_23, al_24, al_27, al_28, al_29, al_3, al_30, al_31, al_32, al_34, al_36, al_37, al_38, al_39, al_4, al_40, al_41, al_42, al_43, al_45, al_46, al_47, al_48, al_49, al_5, al_52, al_53, al_54, al_55, al_56, al_57, al_58, al_6, al_60, al_61, al_62, al_63, al_64, al_65, al_66, al_67, al_69, al_7, al_70, al_71, al_72, al_73, al_9, pcl_0, pcl_1, pcl_100, pcl_101, pcl_102, pcl_103, pcl_104, pcl_105, pcl_106, pcl_107, pcl_108, pcl_109, pcl_110, pcl_111, pcl_112, pcl_15, pcl_22, pcl_25, pcl_26, pcl_33, pcl_44, pcl_50, pcl_59, pcl_8, rOK_i, rOK_z, v_aload_0, v_goto, v_if_eq, v_iload_1, v_iload_2, v_iload_3, v_invs, v_invv, v_ireturn, v_ldc, vcS_2_1, vcV_2_6, vcV_3_6, vld_i, vld_s, vc_d, rr_0, rr_1, csT_h, csT_t, csT_n, bI_0, bI_1, bI_z, bT, List.mem_cons, List.not_mem_nil, List.length_cons, List.length_nil, ite_not, ↓reduceIte, true_and, and_true, not_true_eq_false, not_false_eq_true, false_or, or_false, or_true, true_or, Nat.reduceAdd, Nat.reduceEqDiff, Nat.reduceBEq, Nat.reduceLeDiff, Nat.reduceLT, Nat.reduceSub, Int.reduceAdd, Int.reduceLE, Int.reduceLT, Int.reduceToNat, Int.reduceNeg, Int.reduceNatCast', reduceCtorEq, Int32.reduceOfInt, Int32.reduceOfNat, Int32.reduceToNatClampNeg, Int32.reduceToInt, i10, i01, nEM, pe_X7_isWalker, pe_X7_mayBe, pe_X7_place, pe_X7_become, fn_0, fn_1, fn_2, fn_3, fn_4, fn_5, fn_6, hI]
    by_cases h1 : hasM (M 60) w
    · rw [if_pos h1]
      have hw := hasM_o h1
      by_cases h2 : mbF q v
      · rw [if_pos ⟨h1, h2⟩] at h
        rw [if_pos h2]
        have hq : ∃ j, j < 4 ∧ q = nI j := by
          rcases h2 with z | z | z | z
          · exact ⟨0, by decide, z.1⟩
          · exact ⟨1, by decide, z.1⟩
          · exact ⟨2, by decide, z.1⟩
          · exact ⟨3, by decide, z.1⟩
        obtain ⟨j, hj, rfl⟩ := hq
        obtain ⟨i, hi, rfl⟩ := wOK_n hw
        rw [nI_clamp (show j < 2 ^ 31 by omega), nI_clamp (show i < 2 ^ 31 by omega)] at h ⊢
        rw [wf_c hi hj]
        have := wf_lt hi hj
        exact ⟨⟨hw, nI_pos (by omega), nI_ge (b := 4) hj (by decide)⟩, ⟨nI_pos (by omega), nI_ge (b := 50) this (by decide)⟩, h⟩
      · rw [if_neg (fun z => h2 z.2)] at h
        rw [if_neg h2]
        exact h
    · rw [if_neg (fun z => h1 z.1)] at h
      rw [if_neg h1]
      exact h

theorem s_X7_change {d : Nat} (hd : 4 ≤ d) : Snd d 149 pf_X7_change := by
  intro args M k h
  unfold pf_X7_change at h
  split at h
  · exact c_X7_change hd h
  · exact h.elim
theorem v01 {v : Int32} : (¬ v < 0 ∧ ¬ 1 < v) = (v = 0 ∨ v = 1) := by
  apply propext
  constructor
  · rintro ⟨a, b⟩
    obtain ⟨j, hj, rfl⟩ := nI_of2 (M := 1) (n := 1) rfl a (Int32.not_lt.mp b)
    have : j = 0 ∨ j = 1 := by omega
    rcases this with rfl | rfl
    · exact Or.inl rfl
    · exact Or.inr rfl
  · rintro (rfl | rfl) <;> decide
def pf_X7_night : PF := fun args M k => match args with
  | [.ref o, .int v] => (o = 59) ∧ (if v = 0 ∨ v = 1 then k (.int (M 60 3)) (mset M 60 3 v) else k (.int (-1000001)) (fndM M 0))
  | _ => False
theorem pe_X7_night {o : Nat} {v : Int32} {M : Mem} {k : Value → Mem → Prop} : pf_X7_night [.ref o, .int v] M k = ((o = 59) ∧ (if v = 0 ∨ v = 1 then k (.int (M 60 3)) (mset M 60 3 v) else k (.int (-1000001)) (fndM M 0))) := rfl
theorem le_X7_night {o : Nat} {v : Int32} : lent 2 ([.ref o, .int v] : List Value) = [.ref o, .int v] := rfl
set_option maxRecDepth 100000 in
set_option maxHeartbeats 4000000 in
theorem c_X7_night {d : Nat} (hd : 2 ≤ d) {o : Nat} {v : Int32} {M : Mem} {k : Value → Mem → Prop} (h : (o = 59) ∧ (if v = 0 ∨ v = 1 then k (.int (M 60 3)) (mset M 60 3 v) else k (.int (-1000001)) (fndM M 0))) : CallP d 150 [.ref o, .int v] M k := by
  obtain ⟨hp, h⟩ := h
  obtain ⟨d, rfl⟩ : ∃ d', d = d' + 1 := ⟨d - 1, by omega⟩
  obtain rfl := hp
  · refine enterV (n := 80) [(126, pf_X7_within), (127, pf_X7_become), (125, pf_X7_finding)] [] mI_150 (by decide) (Nat.le_of_ble_eq_true rfl) (T_cons (s_X7_within (by omega)) (T_cons (s_X7_become (by omega)) (T_cons (s_X7_finding (by omega)) T_nil))) ?_
    rw [le_X7_night]
    simp only [dX7_night_0, dX7_night_1, dX7_night_2, dX7_night_3, dX7_night_6, dX7_night_9, dX7_night_10, dX7_night_11, dX7_night_12, dX7_night_15, dX7_night_18, dX7_night_19, dX7_night_21, dX7_night_24, cr_7_102, cr_7_75, cr_7_88, kr_7_69, skr_7_69, al_10, al_11, al_12, al_13, al_14, al_16, al_17, al_18, al_19, al_2, al_20, al_21, al_23, al_24, al_27, al_28, al_29, al_3, al_30, al_31, al_32, al_34, al_36, al_37, al_38, al_39, al_4, al_40, al_41, al_42, al_43, al_45, al_46, al_47, al_48, al_49, al_5, al_52, al_53, al_54, al_55, al_56, al_57, al_58, al_6, al_60, al_61, al_62, al_63, al_64, al_65, al_66, al_67, al_69, al_7, al_70, al_71, al_72, al_73, al_9, pcl_0, pcl_1, pcl_100, pcl_101, pcl_102, pcl_103, pcl_104, pcl_105, pcl_106, pcl_107, pcl_108, pcl_109, pcl_110, pcl_111, pcl_112, pcl_15, pcl_22, pcl_25, pcl_26, pcl_33, pcl_44, pcl_50, pcl_59, pcl_8, rOK_i, rOK_z, v_aload_0, v_goto, v_iconst_0, v_iconst_1, v_iconst_3, v_if_eq, v_iload_1, v_invs, v_invv, v_ireturn, v_ldc, vcS_3_1, vcV_2_6, vcV_3_6, vld_i, vld_s, vc_d, rr_0, rr_1, csT_h, csT_t, csT_n, bI_0, bI_1, bI_z, bT, List.mem_cons, List.not_mem_nil, List.length_cons, List.length_nil, ite_not, ↓reduceIte, true_and, and_true, not_true_eq_false, not_false_eq_true, false_or, or_false, or_true, true_or, Nat.reduceAdd, Nat.reduceEqDiff, Nat.reduceBEq, Nat.reduceLeDiff, Nat.reduceLT, Nat.reduceSub, Int.reduceAdd, Int.reduceLE, Int.reduceLT, Int.reduceToNat, Int.reduceNeg, Int.reduceNatCast', reduceCtorEq, Int32.reduceOfInt, Int32.reduceOfNat, Int32.reduceToNatClampNeg, Int32.reduceToInt, i10, i01, nEM, pe_X7_within, pe_X7_become, fn_0, fn_1, fn_2, fn_3, fn_4, fn_5, fn_6, v01, Int32.reduceLT, Int32.reduceLE, not_false_eq_true]
    by_cases h1 : v = 0 ∨ v = 1
    · rw [if_pos h1] at h ⊢
      exact h
    · rw [if_neg h1] at h ⊢
      exact h

theorem s_X7_night {d : Nat} (hd : 2 ≤ d) : Snd d 150 pf_X7_night := by
  intro args M k h
  unfold pf_X7_night at h
  split at h
  · exact c_X7_night hd h
  · exact h.elim
def pf_X7_seed : PF := fun args M k => match args with
  | [.ref o, .int v] => (o = 59) ∧ (k (.int (M 60 2)) (mset M 60 2 v))
  | _ => False
theorem pe_X7_seed {o : Nat} {v : Int32} {M : Mem} {k : Value → Mem → Prop} : pf_X7_seed [.ref o, .int v] M k = ((o = 59) ∧ (k (.int (M 60 2)) (mset M 60 2 v))) := rfl
theorem le_X7_seed {o : Nat} {v : Int32} : lent 2 ([.ref o, .int v] : List Value) = [.ref o, .int v] := rfl
set_option maxRecDepth 100000 in
set_option maxHeartbeats 4000000 in
theorem c_X7_seed {d : Nat} (hd : 2 ≤ d) {o : Nat} {v : Int32} {M : Mem} {k : Value → Mem → Prop} (h : (o = 59) ∧ (k (.int (M 60 2)) (mset M 60 2 v))) : CallP d 199 [.ref o, .int v] M k := by
  obtain ⟨hp, h⟩ := h
  obtain ⟨d, rfl⟩ : ∃ d', d = d' + 1 := ⟨d - 1, by omega⟩
  obtain rfl := hp
  · refine enterV (n := 80) [(127, pf_X7_become)] [] mI_199 (by decide) (Nat.le_of_ble_eq_true rfl) (T_cons (s_X7_become (by omega)) T_nil) ?_
    rw [le_X7_seed]
    simp only [dX7_seed_0, dX7_seed_1, dX7_seed_2, dX7_seed_3, dX7_seed_6, cr_7_102, al_10, al_11, al_12, al_13, al_14, al_16, al_17, al_18, al_19, al_2, al_20, al_21, al_23, al_24, al_27, al_28, al_29, al_3, al_30, al_31, al_32, al_34, al_36, al_37, al_38, al_39, al_4, al_40, al_41, al_42, al_43, al_45, al_46, al_47, al_48, al_49, al_5, al_52, al_53, al_54, al_55, al_56, al_57, al_58, al_6, al_60, al_61, al_62, al_63, al_64, al_65, al_66, al_67, al_69, al_7, al_70, al_71, al_72, al_73, al_9, pcl_0, pcl_1, pcl_100, pcl_101, pcl_102, pcl_103, pcl_104, pcl_105, pcl_106, pcl_107, pcl_108, pcl_109, pcl_110, pcl_111, pcl_112, pcl_15, pcl_22, pcl_25, pcl_26, pcl_33, pcl_44, pcl_50, pcl_59, pcl_8, rOK_i, rOK_z, v_aload_0, v_iconst_2, v_iload_1, v_invv, v_ireturn, vcV_3_6, vc_d, rr_0, rr_1, csT_h, csT_t, csT_n, bI_0, bI_1, bI_z, bT, List.mem_cons, List.not_mem_nil, List.length_cons, List.length_nil, ite_not, ↓reduceIte, true_and, and_true, not_true_eq_false, not_false_eq_true, false_or, or_false, or_true, true_or, Nat.reduceAdd, Nat.reduceEqDiff, Nat.reduceBEq, Nat.reduceLeDiff, Nat.reduceLT, Nat.reduceSub, Int.reduceAdd, Int.reduceLE, Int.reduceLT, Int.reduceToNat, Int.reduceNeg, Int.reduceNatCast', reduceCtorEq, Int32.reduceOfInt, Int32.reduceOfNat, Int32.reduceToNatClampNeg, Int32.reduceToInt, i10, i01, nEM, pe_X7_become, Int32.reduceLT, Int32.reduceLE, not_false_eq_true]
    exact h

theorem s_X7_seed {d : Nat} (hd : 2 ≤ d) : Snd d 199 pf_X7_seed := by
  intro args M k h
  unfold pf_X7_seed at h
  split at h
  · exact c_X7_seed hd h
  · exact h.elim
def pf_X7_wipe : PF := fun args M k => match args with
  | [.ref o] => (o = 59) ∧ (k (.int (M 59 12)) (mset M 59 12 0))
  | _ => False
theorem pe_X7_wipe {o : Nat} {M : Mem} {k : Value → Mem → Prop} : pf_X7_wipe [.ref o] M k = ((o = 59) ∧ (k (.int (M 59 12)) (mset M 59 12 0))) := rfl
theorem le_X7_wipe {o : Nat} : lent 2 ([.ref o] : List Value) = [.ref o, .retAddr 0] := rfl
set_option maxRecDepth 100000 in
set_option maxHeartbeats 4000000 in
theorem c_X7_wipe {d : Nat} (hd : 1 ≤ d) {o : Nat} {M : Mem} {k : Value → Mem → Prop} (h : (o = 59) ∧ (k (.int (M 59 12)) (mset M 59 12 0))) : CallP d 201 [.ref o] M k := by
  obtain ⟨hp, h⟩ := h
  obtain ⟨d, rfl⟩ : ∃ d', d = d' + 1 := ⟨d - 1, by omega⟩
  obtain rfl := hp
  · refine enterV (n := 80) [] [] mI_201 (by decide) (Nat.le_of_ble_eq_true rfl) T_nil ?_
    rw [le_X7_wipe]
    simp only [dX7_wipe_0, dX7_wipe_1, dX7_wipe_4, dX7_wipe_5, dX7_wipe_6, dX7_wipe_7, dX7_wipe_10, dX7_wipe_11, fr_7_243, cat_i, cat_l, cat_r, cat_u, gf_6_12_59, pft_6_12, rOK_i, rOK_z, v_aload_0, v_getfield, v_iconst_0, v_iload_1, v_ireturn, v_istore_1, v_putfield, vgf_i, vgf_r, vgf_s, vpf_s, vc_d, rr_0, rr_1, csT_h, csT_t, csT_n, bI_0, bI_1, bI_z, bT, List.mem_cons, List.not_mem_nil, List.length_cons, List.length_nil, ite_not, ↓reduceIte, true_and, and_true, not_true_eq_false, not_false_eq_true, false_or, or_false, or_true, true_or, Nat.reduceAdd, Nat.reduceEqDiff, Nat.reduceBEq, Nat.reduceLeDiff, Nat.reduceLT, Nat.reduceSub, Int.reduceAdd, Int.reduceLE, Int.reduceLT, Int.reduceToNat, Int.reduceNeg, Int.reduceNatCast', reduceCtorEq, Int32.reduceOfInt, Int32.reduceOfNat, Int32.reduceToNatClampNeg, Int32.reduceToInt, i10, i01, nEM]
    exact h

theorem s_X7_wipe {d : Nat} (hd : 1 ≤ d) : Snd d 201 pf_X7_wipe := by
  intro args M k h
  unfold pf_X7_wipe at h
  split at h
  · exact c_X7_wipe hd h
  · exact h.elim
def pf_X7_hold : PF := fun args M k => match args with
  | [.ref o, .int s, .int w] => (o = 59 ∧ IM (M 60)) ∧ (if isS s ∧ (w = -1 ∨ hasM (M 60) w) then k (.int 1) (mset M 60 (4 + (s).toNatClampNeg) w) else k (.int (-1000001)) (fndM M 0))
  | _ => False
theorem pe_X7_hold {o : Nat} {s : Int32} {w : Int32} {M : Mem} {k : Value → Mem → Prop} : pf_X7_hold [.ref o, .int s, .int w] M k = ((o = 59 ∧ IM (M 60)) ∧ (if isS s ∧ (w = -1 ∨ hasM (M 60) w) then k (.int 1) (mset M 60 (4 + (s).toNatClampNeg) w) else k (.int (-1000001)) (fndM M 0))) := rfl
theorem le_X7_hold {o : Nat} {s : Int32} {w : Int32} : lent 3 ([.ref o, .int s, .int w] : List Value) = [.ref o, .int s, .int w] := rfl
set_option maxRecDepth 100000 in
set_option maxHeartbeats 4000000 in
theorem c_X7_hold {d : Nat} (hd : 3 ≤ d) {o : Nat} {s : Int32} {w : Int32} {M : Mem} {k : Value → Mem → Prop} (h : (o = 59 ∧ IM (M 60)) ∧ (if isS s ∧ (w = -1 ∨ hasM (M 60) w) then k (.int 1) (mset M 60 (4 + (s).toNatClampNeg) w) else k (.int (-1000001)) (fndM M 0))) : CallP d 214 [.ref o, .int s, .int w] M k := by
  obtain ⟨hp, h⟩ := h
  obtain ⟨d, rfl⟩ : ∃ d', d = d' + 1 := ⟨d - 1, by omega⟩
  obtain ⟨rfl, hI⟩ := hp
  · refine enterV (n := 80) [(213, pf_X7_isSpot), (136, pf_X7_isWalker), (125, pf_X7_finding)] [] mI_214 (by decide) (Nat.le_of_ble_eq_true rfl) (T_cons (s_X7_isSpot (by omega)) (T_cons (s_X7_isWalker (by omega)) (T_cons (s_X7_finding (by omega)) T_nil))) ?_
    rw [le_X7_hold]
    simp only [dX7_hold_0, dX7_hold_1, dX7_hold_4, dX7_hold_7, dX7_hold_8, dX7_hold_9, dX7_hold_12, dX7_hold_13, dX7_hold_14, dX7_hold_17, dX7_hold_20, dX7_hold_21, dX7_hold_23, dX7_hold_26, dX7_hold_27, dX7_hold_28, dX7_hold_31, dX7_hold_32, dX7_hold_33, dX7_hold_34, dX7_hold_35, dX7_hold_36, dX7_hold_37, cr_7_126, cr_7_321, cr_7_75, fr_7_9, kr_7_69, skr_7_69, al_10, al_11, al_12, al_13, al_14, al_16, al_17, al_18, al_19, al_2, al_20, al_21, al_23, al_24, al_27, al_28, al_29, al_3, al_30, al_31, al_32, al_34, al_36, al_37, al_38, al_39, al_4, al_40, al_41, al_42, al_43, al_45, al_46, al_47, al_48, al_49, al_5, al_52, al_53, al_54, al_55, al_56, al_57, al_58, al_6, al_60, al_61, al_62, al_63, al_64, al_65, al_66, al_67, al_69, al_7, al_70, al_71, al_72, al_73, al_9, gf_6_0_59, pcl_0, pcl_1, pcl_100, pcl_101, pcl_102, pcl_103, pcl_104, pcl_105, pcl_106, pcl_107, pcl_108, pcl_109, pcl_110, pcl_111, pcl_112, pcl_15, pcl_22, pcl_25, pcl_26, pcl_33, pcl_44, pcl_50, pcl_59, pcl_8, rOK_i, rOK_z, v_aload_0, v_getfield, v_iadd, v_iastore, v_ic_eq, v_iconst_1, v_iconst_4, v_iconst_m1, v_if_eq, v_if_ne, v_iload_1, v_iload_2, v_invs, v_invv, v_ireturn, v_ldc, vcS_1_1, vcV_2_6, vgf_i, vgf_r, vgf_s, vld_i, vld_s, vc_d, rr_0, rr_1, csT_h, csT_t, csT_n, bI_0, bI_1, bI_z, bT, List.mem_cons, List.not_mem_nil, List.length_cons, List.length_nil, ite_not, ↓reduceIte, true_and, and_true, not_true_eq_false, not_false_eq_true, false_or, or_false, or_true, true_or, Nat.reduceAdd, Nat.reduceEqDiff, Nat.reduceBEq, Nat.reduceLeDiff, Nat.reduceLT, Nat.reduceSub, Int.reduceAdd, Int.reduceLE, Int.reduceLT, Int.reduceToNat, Int.reduceNeg, Int.reduceNatCast', reduceCtorEq, Int32.reduceOfInt, Int32.reduceOfNat, Int32.reduceToNatClampNeg, Int32.reduceToInt, i10, i01, nEM, pe_X7_isSpot, pe_X7_isWalker, fn_0, fn_1, fn_2, fn_3, fn_4, fn_5, fn_6, hI, isS_m]
    by_cases h1 : isS s
    · rw [if_pos h1]
      obtain ⟨t, ht, e⟩ : ∃ t, t < 10 ∧ s = nI t := by
        obtain ⟨i, hi, e⟩ := nI_of h1.1
        have := h1.2
        rw [e, show (10 : Int32) = nI 10 from rfl, nI_leI (by omega) hi] at this
        exact ⟨i, by omega, e⟩
      have e4 : (4 : Int32) + s = nI (4 + t) := by rw [e, show (4 : Int32) = nI 4 from rfl, nI_add]
      have es : s.toNatClampNeg = t := by rw [e]; exact nI_clamp (by omega)
      have c1 : (nI (4 + t)).toNatClampNeg = 4 + t := nI_clamp (by omega)
      have c2 : (nI (4 + t)).toInt = ((4 + t : Nat) : Int) := nI_toInt (by omega)
      rw [es] at h
      simp only [e4, c1, c2]
      by_cases h2 : w = -1
      · rw [if_pos ⟨h1, Or.inl h2⟩] at h
        rw [if_pos h2]
        exact ⟨by omega, h⟩
      · rw [if_neg h2]
        by_cases h3 : hasM (M 60) w
        · rw [if_pos ⟨h1, Or.inr h3⟩] at h
          rw [if_pos h3]
          exact ⟨by omega, h⟩
        · rw [if_neg (fun z => z.2.elim h2 h3)] at h
          rw [if_neg h3]
          exact h
    · rw [if_neg (fun z => h1 z.1)] at h
      rw [if_neg h1]
      exact h

theorem s_X7_hold {d : Nat} (hd : 3 ≤ d) : Snd d 214 pf_X7_hold := by
  intro args M k h
  unfold pf_X7_hold at h
  split at h
  · exact c_X7_hold hd h
  · exact h.elim
def pf_X7_cross : PF := fun args M k => match args with
  | [.ref o, .int w] => (o = 59 ∧ IM (M 60)) ∧ (if hasM (M 60) w then (if M 60 0 = 99999 then k (.int (-1000005)) (fndM M 4) else k (.int (nI (crx (M 60) (w).toNatClampNeg).1)) (mrow M 60 (crr (M 60) (w).toNatClampNeg))) else k (.int (-1000001)) (fndM M 0))
  | _ => False
theorem pe_X7_cross {o : Nat} {w : Int32} {M : Mem} {k : Value → Mem → Prop} : pf_X7_cross [.ref o, .int w] M k = ((o = 59 ∧ IM (M 60)) ∧ (if hasM (M 60) w then (if M 60 0 = 99999 then k (.int (-1000005)) (fndM M 4) else k (.int (nI (crx (M 60) (w).toNatClampNeg).1)) (mrow M 60 (crr (M 60) (w).toNatClampNeg))) else k (.int (-1000001)) (fndM M 0))) := rfl
theorem le_X7_cross {o : Nat} {w : Int32} : lent 2 ([.ref o, .int w] : List Value) = [.ref o, .int w] := rfl
set_option maxRecDepth 100000 in
set_option maxHeartbeats 4000000 in
theorem c_X7_cross {d : Nat} (hd : 7 ≤ d) {o : Nat} {w : Int32} {M : Mem} {k : Value → Mem → Prop} (h : (o = 59 ∧ IM (M 60)) ∧ (if hasM (M 60) w then (if M 60 0 = 99999 then k (.int (-1000005)) (fndM M 4) else k (.int (nI (crx (M 60) (w).toNatClampNeg).1)) (mrow M 60 (crr (M 60) (w).toNatClampNeg))) else k (.int (-1000001)) (fndM M 0))) : CallP d 154 [.ref o, .int w] M k := by
  obtain ⟨hp, h⟩ := h
  obtain ⟨d, rfl⟩ : ∃ d', d = d' + 1 := ⟨d - 1, by omega⟩
  obtain ⟨rfl, hI⟩ := hp
  · refine enterV (n := 80) [(136, pf_X7_isWalker), (125, pf_X7_finding), (153, pf_X7_crosses)] [] mI_154 (by decide) (Nat.le_of_ble_eq_true rfl) (T_cons (s_X7_isWalker (by omega)) (T_cons (s_X7_finding (by omega)) (T_cons (s_X7_crosses (by omega)) T_nil))) ?_
    rw [le_X7_cross]
    simp only [dX7_cross_0, dX7_cross_1, dX7_cross_2, dX7_cross_5, dX7_cross_8, dX7_cross_9, dX7_cross_11, dX7_cross_14, dX7_cross_15, dX7_cross_16, dX7_cross_19, dX7_cross_20, dX7_cross_21, dX7_cross_23, dX7_cross_26, dX7_cross_27, dX7_cross_29, dX7_cross_32, dX7_cross_35, dX7_cross_36, dX7_cross_37, dX7_cross_40, cr_7_126, cr_7_146, cr_7_75, fr_7_9, kr_7_144, kr_7_145, kr_7_69, skr_7_144, skr_7_145, skr_7_69, al_10, al_11, al_12, al_13, al_14, al_16, al_17, al_18, al_19, al_2, al_20, al_21, al_23, al_24, al_27, al_28, al_29, al_3, al_30, al_31, al_32, al_34, al_36, al_37, al_38, al_39, al_4, al_40, al_41, al_42, al_43, al_45, al_46, al_47, al_48, al_49, al_5, al_52, al_53, al_54, al_55, al_56, al_57, al_58, al_6, al_60, al_61, al_62, al_63, al_64, al_65, al_66, al_67, al_69, al_7, al_70, al_71, al_72, al_73, al_9, gf_6_0_59, pcl_0, pcl_1, pcl_100, pcl_101, pcl_102, pcl_103, pcl_104, pcl_105, pcl_106, pcl_107, pcl_108, pcl_109, pcl_110, pcl_111, pcl_112, pcl_15, pcl_22, pcl_25, pcl_26, pcl_33, pcl_44, pcl_50, pcl_59, pcl_8, rOK_i, rOK_z, v_aload_0, v_getfield, v_goto, v_iaload, v_ic_ne, v_iconst_0, v_if_ne, v_iload_1, v_invv, v_ireturn, v_ldc, vcV_2_6, vgf_i, vgf_r, vgf_s, vld_i, vld_s, vc_d, rr_0, rr_1, csT_h, csT_t, csT_n, bI_0, bI_1, bI_z, bT, List.mem_cons, List.not_mem_nil, List.length_cons, List.length_nil, ite_not, ↓reduceIte, true_and, and_true, not_true_eq_false, not_false_eq_true, false_or, or_false, or_true, true_or, Nat.reduceAdd, Nat.reduceEqDiff, Nat.reduceBEq, Nat.reduceLeDiff, Nat.reduceLT, Nat.reduceSub, Int.reduceAdd, Int.reduceLE, Int.reduceLT, Int.reduceToNat, Int.reduceNeg, Int.reduceNatCast', reduceCtorEq, Int32.reduceOfInt, Int32.reduceOfNat, Int32.reduceToNatClampNeg, Int32.reduceToInt, i10, i01, nEM, pe_X7_isWalker, fn_0, fn_1, fn_2, fn_3, fn_4, fn_5, fn_6, pe_X7_crosses, hI]
    by_cases h1 : hasM (M 60) w
    · rw [if_pos h1] at h ⊢
      by_cases h2 : M 60 0 = 99999
      · rw [if_pos h2] at h ⊢
        exact h
      · rw [if_neg h2] at h ⊢
        exact ⟨hasM_o h1, h⟩
    · rw [if_neg h1] at h ⊢
      exact h

theorem s_X7_cross {d : Nat} (hd : 7 ≤ d) : Snd d 154 pf_X7_cross := by
  intro args M k h
  unfold pf_X7_cross at h
  split at h
  · exact c_X7_cross hd h
  · exact h.elim
