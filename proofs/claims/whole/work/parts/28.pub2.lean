/-! X: more acts -/
def pf_X6_change : PF := fun args M k => match args with
  | [.ref o, .int w, .int q, .int v] => (o = 0) ∧ (if hasW M 1 w ∧ 0 ≤ v then (if q = 0 then (if 6 < v then k (.int (-1000001)) (tellM M 0) else k (.int (M 3 (w).toNatClampNeg)) (mset M 3 (w).toNatClampNeg v)) else if q = 1 then (if 99 < v then k (.int (-1000001)) (tellM M 0) else k (.int (M 4 (w).toNatClampNeg)) (mset M 4 (w).toNatClampNeg v)) else if q = 2 then (if 99 < v then k (.int (-1000001)) (tellM M 0) else k (.int (M 5 (w).toNatClampNeg)) (mset M 5 (w).toNatClampNeg v)) else if q = 3 then (if 9999 < v then k (.int (-1000001)) (tellM M 0) else k (.int (M 6 (w).toNatClampNeg)) (mset M 6 (w).toNatClampNeg v)) else k (.int (-1000001)) (tellM M 0)) else k (.int (-1000001)) (tellM M 0))
  | _ => False
theorem pe_X6_change {o : Nat} {w : Int32} {q : Int32} {v : Int32} {M : Mem} {k : Value → Mem → Prop} : pf_X6_change [.ref o, .int w, .int q, .int v] M k = ((o = 0) ∧ (if hasW M 1 w ∧ 0 ≤ v then (if q = 0 then (if 6 < v then k (.int (-1000001)) (tellM M 0) else k (.int (M 3 (w).toNatClampNeg)) (mset M 3 (w).toNatClampNeg v)) else if q = 1 then (if 99 < v then k (.int (-1000001)) (tellM M 0) else k (.int (M 4 (w).toNatClampNeg)) (mset M 4 (w).toNatClampNeg v)) else if q = 2 then (if 99 < v then k (.int (-1000001)) (tellM M 0) else k (.int (M 5 (w).toNatClampNeg)) (mset M 5 (w).toNatClampNeg v)) else if q = 3 then (if 9999 < v then k (.int (-1000001)) (tellM M 0) else k (.int (M 6 (w).toNatClampNeg)) (mset M 6 (w).toNatClampNeg v)) else k (.int (-1000001)) (tellM M 0)) else k (.int (-1000001)) (tellM M 0))) := rfl
set_option maxRecDepth 100000 in
set_option maxHeartbeats 4000000 in
theorem c_X6_change {d : Nat} (hd : 2 ≤ d) {o : Nat} {w : Int32} {q : Int32} {v : Int32} {M : Mem} {k : Value → Mem → Prop} (h : (o = 0) ∧ (if hasW M 1 w ∧ 0 ≤ v then (if q = 0 then (if 6 < v then k (.int (-1000001)) (tellM M 0) else k (.int (M 3 (w).toNatClampNeg)) (mset M 3 (w).toNatClampNeg v)) else if q = 1 then (if 99 < v then k (.int (-1000001)) (tellM M 0) else k (.int (M 4 (w).toNatClampNeg)) (mset M 4 (w).toNatClampNeg v)) else if q = 2 then (if 99 < v then k (.int (-1000001)) (tellM M 0) else k (.int (M 5 (w).toNatClampNeg)) (mset M 5 (w).toNatClampNeg v)) else if q = 3 then (if 9999 < v then k (.int (-1000001)) (tellM M 0) else k (.int (M 6 (w).toNatClampNeg)) (mset M 6 (w).toNatClampNeg v)) else k (.int (-1000001)) (tellM M 0)) else k (.int (-1000001)) (tellM M 0))) : CallP d 60 [.ref o, .int w, .int q, .int v] M k := by
  obtain ⟨hp, h⟩ := h
  obtain ⟨d, rfl⟩ : ∃ d', d = d' + 1 := ⟨d - 1, by omega⟩
  obtain rfl := hp
  · refine enterV (n := 80) [(2, pf_X0_has), (103, pf_X6_tell), (112, pf_X6_replace)] [] mI_60 (by decide) (Nat.le_of_ble_eq_true rfl) (T_cons (s_X0_has (by omega)) (T_cons (s_X6_tell (by omega)) (T_cons (s_X6_replace (by omega)) T_nil))) ?_
    rw [show lent 4 ([.ref 0, .int w, .int q, .int v] : List Value) = [.ref 0, .int w, .int q, .int v] from rfl]
    simp only [dX6_change_0, dX6_change_1, dX6_change_4, dX6_change_5, dX6_change_8, dX6_change_11, dX6_change_12, dX6_change_15, dX6_change_16, dX6_change_18, dX6_change_21, dX6_change_22, dX6_change_23, dX6_change_52, dX6_change_53, dX6_change_55, dX6_change_58, dX6_change_59, dX6_change_62, dX6_change_65, dX6_change_66, dX6_change_67, dX6_change_70, dX6_change_73, dX6_change_74, dX6_change_76, dX6_change_79, dX6_change_80, dX6_change_81, dX6_change_83, dX6_change_86, dX6_change_87, dX6_change_90, dX6_change_93, dX6_change_94, dX6_change_95, dX6_change_98, dX6_change_101, dX6_change_102, dX6_change_104, dX6_change_107, dX6_change_108, dX6_change_109, dX6_change_111, dX6_change_114, dX6_change_115, dX6_change_118, dX6_change_121, dX6_change_122, dX6_change_123, dX6_change_126, dX6_change_129, dX6_change_130, dX6_change_132, dX6_change_135, dX6_change_136, dX6_change_137, dX6_change_140, dX6_change_143, dX6_change_144, dX6_change_147, dX6_change_150, dX6_change_151, dX6_change_152, dX6_change_155, dX6_change_158, dX6_change_159, dX6_change_161, dX6_change_164, dX6_change_165, dX6_change_166, dX6_change_168, dX6_change_171, cr_6_109, cr_6_69, cr_6_88, fr_6_100, fr_6_12, fr_6_91, fr_6_94, fr_6_97, kr_6_68, skr_6_68, al_10, al_11, al_12, al_13, al_14, al_16, al_17, al_18, al_19, al_2, al_20, al_21, al_23, al_24, al_27, al_28, al_29, al_3, al_30, al_31, al_32, al_34, al_36, al_37, al_38, al_39, al_4, al_40, al_41, al_42, al_43, al_45, al_46, al_47, al_48, al_49, al_5, al_52, al_53, al_54, al_55, al_56, al_57, al_58, al_6, al_60, al_61, al_62, al_63, al_64, al_65, al_66, al_67, al_69, al_7, al_70, al_71, al_72, al_73, al_9, gf_0_1_1, gf_0_1_15, gf_0_1_26, gf_0_1_8, gf_0_2_1, gf_0_2_15, gf_0_2_26, gf_0_2_8, gf_0_3_1, gf_0_3_15, gf_0_3_26, gf_0_3_8, gf_0_4_1, gf_0_4_15, gf_0_4_26, gf_0_4_8, gf_5_0_0, pcl_0, pcl_1, pcl_100, pcl_101, pcl_102, pcl_103, pcl_104, pcl_105, pcl_106, pcl_107, pcl_108, pcl_109, pcl_110, pcl_111, pcl_112, pcl_15, pcl_22, pcl_25, pcl_26, pcl_33, pcl_44, pcl_50, pcl_59, pcl_8, rOK_i, rOK_z, v_aload_0, v_bipush_6, v_bipush_99, v_getfield, v_goto, v_ic_gt, v_if_eq, v_if_ge, v_iload_1, v_iload_2, v_iload_3, v_invs, v_invv, v_ireturn, v_ldc, v_sipush_9999, v_table, vcS_3_1, vcV_2_0, vcV_2_5, vgf_i, vgf_r, vgf_s, vld_i, vld_s, vtab_c, vtab_n, vc_0, vc_s, rr_0, rr_1, csT_h, csT_t, csT_n, bI_0, bI_1, bI_z, bT, List.mem_cons, List.not_mem_nil, List.length_cons, List.length_nil, ite_not, ↓reduceIte, true_and, and_true, not_true_eq_false, not_false_eq_true, false_or, or_false, or_true, true_or, Nat.reduceAdd, Nat.reduceEqDiff, Nat.reduceBEq, Nat.reduceLeDiff, Nat.reduceLT, Nat.reduceSub, Int.reduceAdd, Int.reduceLE, Int.reduceLT, Int.reduceToNat, Int.reduceNeg, Int.reduceNatCast', reduceCtorEq, Int32.reduceOfInt, Int32.reduceOfNat, Int32.reduceToNatClampNeg, Int32.reduceToInt, i10, i01, pe_X0_has, tl_0, tl_1, tl_2, tl_3, tl_4, tl_5, tl_6, pe_X6_replace, BR, Array.toList, List.length_cons, Int.reduceSub]
    by_cases h1 : hasW M 1 w
    · rw [if_pos h1]
      by_cases h2 : 0 ≤ v
      · rw [if_pos ⟨h1, h2⟩] at h
        rw [if_pos h2]
        have w1 := h1.1
        have w2 := h1.2.2
        simp only [w1, w2, not_false_eq_true, true_and]
        exact h
      · rw [if_neg (fun z => h2 z.2)] at h
        rw [if_neg h2]
        exact h
    · rw [if_neg (fun z => h1 z.1)] at h
      rw [if_neg h1]
      exact h

theorem s_X6_change {d : Nat} (hd : 2 ≤ d) : Snd d 60 pf_X6_change := by
  intro args M k h
  unfold pf_X6_change at h
  split at h
  · exact c_X6_change hd h
  · exact h.elim
def pf_X6_seed : PF := fun args M k => match args with
  | [.ref o, .int v] => (o = 0) ∧ (k (.int (M 1 9)) (mset M 1 9 v))
  | _ => False
theorem pe_X6_seed {o : Nat} {v : Int32} {M : Mem} {k : Value → Mem → Prop} : pf_X6_seed [.ref o, .int v] M k = ((o = 0) ∧ (k (.int (M 1 9)) (mset M 1 9 v))) := rfl
set_option maxRecDepth 100000 in
set_option maxHeartbeats 4000000 in
theorem c_X6_seed {d : Nat} (hd : 1 ≤ d) {o : Nat} {v : Int32} {M : Mem} {k : Value → Mem → Prop} (h : (o = 0) ∧ (k (.int (M 1 9)) (mset M 1 9 v))) : CallP d 87 [.ref o, .int v] M k := by
  obtain ⟨hp, h⟩ := h
  obtain ⟨d, rfl⟩ : ∃ d', d = d' + 1 := ⟨d - 1, by omega⟩
  obtain rfl := hp
  · refine enterV (n := 80) [] [] mI_87 (by decide) (Nat.le_of_ble_eq_true rfl) T_nil ?_
    rw [show lent 3 ([.ref 0, .int v] : List Value) = [.ref 0, .int v, .retAddr 0] from rfl]
    simp only [dX6_seed_0, dX6_seed_1, dX6_seed_4, dX6_seed_7, dX6_seed_8, dX6_seed_9, dX6_seed_12, dX6_seed_13, dX6_seed_16, dX6_seed_17, fr_6_12, fr_6_231, cat_i, cat_l, cat_r, cat_u, gf_0_9_1, gf_0_9_15, gf_0_9_26, gf_0_9_8, gf_5_0_0, pft_0_9, rOK_i, rOK_z, v_aload_0, v_getfield, v_iload_1, v_iload_2, v_ireturn, v_istore_2, v_putfield, vgf_i, vgf_r, vgf_s, vpf_s, vc_0, vc_s, rr_0, rr_1, csT_h, csT_t, csT_n, bI_0, bI_1, bI_z, bT, List.mem_cons, List.not_mem_nil, List.length_cons, List.length_nil, ite_not, ↓reduceIte, true_and, and_true, not_true_eq_false, not_false_eq_true, false_or, or_false, or_true, true_or, Nat.reduceAdd, Nat.reduceEqDiff, Nat.reduceBEq, Nat.reduceLeDiff, Nat.reduceLT, Nat.reduceSub, Int.reduceAdd, Int.reduceLE, Int.reduceLT, Int.reduceToNat, Int.reduceNeg, Int.reduceNatCast', reduceCtorEq, Int32.reduceOfInt, Int32.reduceOfNat, Int32.reduceToNatClampNeg, Int32.reduceToInt, i10, i01]
    exact h

theorem s_X6_seed {d : Nat} (hd : 1 ≤ d) : Snd d 87 pf_X6_seed := by
  intro args M k h
  unfold pf_X6_seed at h
  split at h
  · exact c_X6_seed hd h
  · exact h.elim
def pf_X6_wipe : PF := fun args M k => match args with
  | [.ref o] => (o = 0) ∧ (k (.int (M 44 1)) (mset M 44 1 0))
  | _ => False
theorem pe_X6_wipe {o : Nat} {M : Mem} {k : Value → Mem → Prop} : pf_X6_wipe [.ref o] M k = ((o = 0) ∧ (k (.int (M 44 1)) (mset M 44 1 0))) := rfl
set_option maxRecDepth 100000 in
set_option maxHeartbeats 4000000 in
theorem c_X6_wipe {d : Nat} (hd : 1 ≤ d) {o : Nat} {M : Mem} {k : Value → Mem → Prop} (h : (o = 0) ∧ (k (.int (M 44 1)) (mset M 44 1 0))) : CallP d 89 [.ref o] M k := by
  obtain ⟨hp, h⟩ := h
  obtain ⟨d, rfl⟩ : ∃ d', d = d' + 1 := ⟨d - 1, by omega⟩
  obtain rfl := hp
  · refine enterV (n := 80) [] [] mI_89 (by decide) (Nat.le_of_ble_eq_true rfl) T_nil ?_
    rw [show lent 2 ([.ref 0] : List Value) = [.ref 0, .retAddr 0] from rfl]
    simp only [dX6_wipe_0, dX6_wipe_1, dX6_wipe_4, dX6_wipe_7, dX6_wipe_8, dX6_wipe_9, dX6_wipe_12, dX6_wipe_13, dX6_wipe_16, dX6_wipe_17, fr_6_234, fr_6_43, cat_i, cat_l, cat_r, cat_u, gf_2_1_44, gf_5_6_0, pft_2_1, rOK_i, rOK_z, v_aload_0, v_getfield, v_iconst_0, v_iload_1, v_ireturn, v_istore_1, v_putfield, vgf_i, vgf_r, vgf_s, vpf_s, vc_0, vc_s, rr_0, rr_1, csT_h, csT_t, csT_n, bI_0, bI_1, bI_z, bT, List.mem_cons, List.not_mem_nil, List.length_cons, List.length_nil, ite_not, ↓reduceIte, true_and, and_true, not_true_eq_false, not_false_eq_true, false_or, or_false, or_true, true_or, Nat.reduceAdd, Nat.reduceEqDiff, Nat.reduceBEq, Nat.reduceLeDiff, Nat.reduceLT, Nat.reduceSub, Int.reduceAdd, Int.reduceLE, Int.reduceLT, Int.reduceToNat, Int.reduceNeg, Int.reduceNatCast', reduceCtorEq, Int32.reduceOfInt, Int32.reduceOfNat, Int32.reduceToNatClampNeg, Int32.reduceToInt, i10, i01]
    exact h

theorem s_X6_wipe {d : Nat} (hd : 1 ≤ d) : Snd d 89 pf_X6_wipe := by
  intro args M k h
  unfold pf_X6_wipe at h
  split at h
  · exact c_X6_wipe hd h
  · exact h.elim
abbrev isS (s : Int32) : Prop := ¬ s < 0 ∧ ¬ 10 ≤ s
def pf_X6_hold : PF := fun args M k => match args with
  | [.ref o, .int s, .int w] => (o = 0) ∧ (if isS s ∧ (w = -1 ∨ hasW M 1 w) then k (.int 1) (mset M 7 (s).toNatClampNeg w) else k (.int (-1000001)) (tellM M 0))
  | _ => False
theorem pe_X6_hold {o : Nat} {s : Int32} {w : Int32} {M : Mem} {k : Value → Mem → Prop} : pf_X6_hold [.ref o, .int s, .int w] M k = ((o = 0) ∧ (if isS s ∧ (w = -1 ∨ hasW M 1 w) then k (.int 1) (mset M 7 (s).toNatClampNeg w) else k (.int (-1000001)) (tellM M 0))) := rfl
set_option maxRecDepth 100000 in
set_option maxHeartbeats 4000000 in
theorem c_X6_hold {d : Nat} (hd : 2 ≤ d) {o : Nat} {s : Int32} {w : Int32} {M : Mem} {k : Value → Mem → Prop} (h : (o = 0) ∧ (if isS s ∧ (w = -1 ∨ hasW M 1 w) then k (.int 1) (mset M 7 (s).toNatClampNeg w) else k (.int (-1000001)) (tellM M 0))) : CallP d 91 [.ref o, .int s, .int w] M k := by
  obtain ⟨hp, h⟩ := h
  obtain ⟨d, rfl⟩ : ∃ d', d = d' + 1 := ⟨d - 1, by omega⟩
  obtain rfl := hp
  · refine enterV (n := 80) [(107, pf_X6_isSpot), (2, pf_X0_has), (103, pf_X6_tell)] [] mI_91 (by decide) (Nat.le_of_ble_eq_true rfl) (T_cons (s_X6_isSpot (by omega)) (T_cons (s_X0_has (by omega)) (T_cons (s_X6_tell (by omega)) T_nil))) ?_
    rw [show lent 3 ([.ref 0, .int s, .int w] : List Value) = [.ref 0, .int s, .int w] from rfl]
    simp only [dX6_hold_0, dX6_hold_1, dX6_hold_4, dX6_hold_7, dX6_hold_8, dX6_hold_9, dX6_hold_12, dX6_hold_13, dX6_hold_16, dX6_hold_17, dX6_hold_20, dX6_hold_23, dX6_hold_24, dX6_hold_26, dX6_hold_29, dX6_hold_30, dX6_hold_31, dX6_hold_34, dX6_hold_37, dX6_hold_38, dX6_hold_39, dX6_hold_40, dX6_hold_41, cr_6_246, cr_6_69, cr_6_88, fr_6_12, fr_6_249, kr_6_68, skr_6_68, al_10, al_11, al_12, al_13, al_14, al_16, al_17, al_18, al_19, al_2, al_20, al_21, al_23, al_24, al_27, al_28, al_29, al_3, al_30, al_31, al_32, al_34, al_36, al_37, al_38, al_39, al_4, al_40, al_41, al_42, al_43, al_45, al_46, al_47, al_48, al_49, al_5, al_52, al_53, al_54, al_55, al_56, al_57, al_58, al_6, al_60, al_61, al_62, al_63, al_64, al_65, al_66, al_67, al_69, al_7, al_70, al_71, al_72, al_73, al_9, gf_0_5_1, gf_0_5_15, gf_0_5_26, gf_0_5_8, gf_5_0_0, pcl_0, pcl_1, pcl_100, pcl_101, pcl_102, pcl_103, pcl_104, pcl_105, pcl_106, pcl_107, pcl_108, pcl_109, pcl_110, pcl_111, pcl_112, pcl_15, pcl_22, pcl_25, pcl_26, pcl_33, pcl_44, pcl_50, pcl_59, pcl_8, rOK_i, rOK_z, v_aload_0, v_getfield, v_iastore, v_ic_eq, v_iconst_1, v_iconst_m1, v_if_eq, v_if_ne, v_iload_1, v_iload_2, v_invs, v_invv, v_ireturn, v_ldc, vcS_1_1, vcV_2_0, vcV_2_5, vgf_i, vgf_r, vgf_s, vld_i, vld_s, vc_0, vc_s, rr_0, rr_1, csT_h, csT_t, csT_n, bI_0, bI_1, bI_z, bT, List.mem_cons, List.not_mem_nil, List.length_cons, List.length_nil, ite_not, ↓reduceIte, true_and, and_true, not_true_eq_false, not_false_eq_true, false_or, or_false, or_true, true_or, Nat.reduceAdd, Nat.reduceEqDiff, Nat.reduceBEq, Nat.reduceLeDiff, Nat.reduceLT, Nat.reduceSub, Int.reduceAdd, Int.reduceLE, Int.reduceLT, Int.reduceToNat, Int.reduceNeg, Int.reduceNatCast', reduceCtorEq, Int32.reduceOfInt, Int32.reduceOfNat, Int32.reduceToNatClampNeg, Int32.reduceToInt, i10, i01, pe_X6_isSpot, pe_X0_has, tl_0, tl_1, tl_2, tl_3, tl_4, tl_5, tl_6, BR]
    by_cases h1 : isS s
    · rw [if_pos h1]
      by_cases h2 : w = -1
      · rw [if_pos ⟨h1, Or.inl h2⟩] at h
        rw [if_pos h2]
        exact ⟨bd h1.1 h1.2 rfl, h⟩
      · rw [if_neg h2]
        by_cases h3 : hasW M 1 w
        · rw [if_pos ⟨h1, Or.inr h3⟩] at h
          rw [if_pos h3]
          exact ⟨bd h1.1 h1.2 rfl, h⟩
        · rw [if_neg (fun z => z.2.elim h2 h3)] at h
          rw [if_neg h3]
          exact h
    · rw [if_neg (fun z => h1 z.1)] at h
      rw [if_neg h1]
      exact h

theorem s_X6_hold {d : Nat} (hd : 2 ≤ d) : Snd d 91 pf_X6_hold := by
  intro args M k h
  unfold pf_X6_hold at h
  split at h
  · exact c_X6_hold hd h
  · exact h.elim
/-- kind kd is q, or under it -/
def undF (kd q : Int32) : Prop := kd = q ∨ q = 0 ∨ (kd = 3 ∧ q = 2) ∨ (kd = 4 ∧ (q = 3 ∨ q = 2)) ∨ (kd = 6 ∧ q = 1)
theorem k7 {s : Int32} (h : isK s) : s = 0 ∨ s = 1 ∨ s = 2 ∨ s = 3 ∨ s = 4 ∨ s = 5 ∨ s = 6 := by
  obtain ⟨m, hm, rfl⟩ := nI_of2 (M := 6) (n := 6) rfl h.1 (Int32.not_lt.mp h.2)
  have hc : m = 0 ∨ m = 1 ∨ m = 2 ∨ m = 3 ∨ m = 4 ∨ m = 5 ∨ m = 6 := by omega
  rcases hc with rfl | rfl | rfl | rfl | rfl | rfl | rfl <;> decide
abbrev okB (b : Int32) : Prop := b = 0 ∨ b = 8 ∨ b = 16 ∨ b = 32
theorem fd0 {M : Mem} {s : Int32} (h : fdF M s = 0) : shOK s := by
  by_cases q : shOK s
  · exact q
  · unfold fdF at h
    rw [if_neg q] at h
    exact absurd h (by decide)
theorem fd_tell {M : Mem} {s : Int32} (h : ¬ fdF M s = 0) {k : Value → Mem → Prop} : pf_X6_tell [.ref 0, .int (fdF M s)] M k = k (.int (fdF M s)) (tellM M (-1000001 - fdF M s).toNatClampNeg) := by
  unfold fdF at h ⊢
  split
  · rename_i q
    rw [if_pos q] at h
    split
    · exact tl_5
    · rename_i z
      rw [if_neg z] at h
      exact absurd rfl h
  · exact tl_0
def pf_X6_write : PF := fun args M k => match args with
  | [.ref o, .int s, .int i, .int v] => (o = 0 ∧ ∀ t, t < 4 → ∃ m, m ≤ 40 ∧ M 57 t = nI m) ∧ (if ¬ fdF M s = 0 then k (.int (fdF M s)) (tellM M (-1000001 - fdF M s).toNatClampNeg) else if ¬ i < 0 ∧ ¬ M 57 (s).toNatClampNeg ≤ i then k (.int 1) (mset M (52 + (s).toNatClampNeg) (i).toNatClampNeg (cutF (M 56 (s).toNatClampNeg) v)) else k (.int (-1000001)) (tellM M 0))
  | _ => False
theorem pe_X6_write {o : Nat} {s : Int32} {i : Int32} {v : Int32} {M : Mem} {k : Value → Mem → Prop} : pf_X6_write [.ref o, .int s, .int i, .int v] M k = ((o = 0 ∧ ∀ t, t < 4 → ∃ m, m ≤ 40 ∧ M 57 t = nI m) ∧ (if ¬ fdF M s = 0 then k (.int (fdF M s)) (tellM M (-1000001 - fdF M s).toNatClampNeg) else if ¬ i < 0 ∧ ¬ M 57 (s).toNatClampNeg ≤ i then k (.int 1) (mset M (52 + (s).toNatClampNeg) (i).toNatClampNeg (cutF (M 56 (s).toNatClampNeg) v)) else k (.int (-1000001)) (tellM M 0))) := rfl
set_option maxRecDepth 100000 in
set_option maxHeartbeats 4000000 in
theorem c_X6_write {d : Nat} (hd : 3 ≤ d) {o : Nat} {s : Int32} {i : Int32} {v : Int32} {M : Mem} {k : Value → Mem → Prop} (h : (o = 0 ∧ ∀ t, t < 4 → ∃ m, m ≤ 40 ∧ M 57 t = nI m) ∧ (if ¬ fdF M s = 0 then k (.int (fdF M s)) (tellM M (-1000001 - fdF M s).toNatClampNeg) else if ¬ i < 0 ∧ ¬ M 57 (s).toNatClampNeg ≤ i then k (.int 1) (mset M (52 + (s).toNatClampNeg) (i).toNatClampNeg (cutF (M 56 (s).toNatClampNeg) v)) else k (.int (-1000001)) (tellM M 0))) : CallP d 94 [.ref o, .int s, .int i, .int v] M k := by
  obtain ⟨hp, h⟩ := h
  obtain ⟨d, rfl⟩ : ∃ d', d = d' + 1 := ⟨d - 1, by omega⟩
  obtain ⟨rfl, hz⟩ := hp
  · refine enterV (n := 80) [(46, pf_X4_finding), (48, pf_X4_put), (103, pf_X6_tell)] [] mI_94 (by decide) (Nat.le_of_ble_eq_true rfl) (T_cons (s_X4_finding (by omega)) (T_cons (s_X4_put (by omega)) (T_cons (s_X6_tell (by omega)) T_nil))) ?_
    rw [show lent 5 ([.ref 0, .int s, .int i, .int v] : List Value) = [.ref 0, .int s, .int i, .int v, .retAddr 0] from rfl]
    simp only [dX6_write_0, dX6_write_1, dX6_write_4, dX6_write_5, dX6_write_8, dX6_write_10, dX6_write_12, dX6_write_15, dX6_write_16, dX6_write_18, dX6_write_21, dX6_write_22, dX6_write_23, dX6_write_26, dX6_write_27, dX6_write_28, dX6_write_31, dX6_write_34, dX6_write_35, dX6_write_36, dX6_write_39, dX6_write_40, dX6_write_42, dX6_write_45, dX6_write_46, dX6_write_47, dX6_write_50, dX6_write_51, dX6_write_52, dX6_write_53, dX6_write_56, dX6_write_57, cr_6_215, cr_6_267, cr_6_69, fr_6_218, fr_6_50, kr_6_68, skr_6_68, al_10, al_11, al_12, al_13, al_14, al_16, al_17, al_18, al_19, al_2, al_20, al_21, al_23, al_24, al_27, al_28, al_29, al_3, al_30, al_31, al_32, al_34, al_36, al_37, al_38, al_39, al_4, al_40, al_41, al_42, al_43, al_45, al_46, al_47, al_48, al_49, al_5, al_52, al_53, al_54, al_55, al_56, al_57, al_58, al_6, al_60, al_61, al_62, al_63, al_64, al_65, al_66, al_67, al_69, al_7, al_70, al_71, al_72, al_73, al_9, cat_i, cat_l, cat_r, cat_u, gf_3_2_50, gf_5_7_0, pcl_0, pcl_1, pcl_100, pcl_101, pcl_102, pcl_103, pcl_104, pcl_105, pcl_106, pcl_107, pcl_108, pcl_109, pcl_110, pcl_111, pcl_112, pcl_15, pcl_22, pcl_25, pcl_26, pcl_33, pcl_44, pcl_50, pcl_59, pcl_8, rOK_i, rOK_z, v_aload_0, v_getfield, v_iaload, v_ic_lt, v_iconst_1, v_if_eq, v_if_lt, v_iload_1, v_iload_2, v_iload_3, v_iload_4, v_invv, v_ireturn, v_istore_4, v_ldc, vcV_2_3, vcV_2_5, vcV_4_3, vgf_i, vgf_r, vgf_s, vld_i, vld_s, vc_0, vc_s, rr_0, rr_1, csT_h, csT_t, csT_n, bI_0, bI_1, bI_z, bT, List.mem_cons, List.not_mem_nil, List.length_cons, List.length_nil, ite_not, ↓reduceIte, true_and, and_true, not_true_eq_false, not_false_eq_true, false_or, or_false, or_true, true_or, Nat.reduceAdd, Nat.reduceEqDiff, Nat.reduceBEq, Nat.reduceLeDiff, Nat.reduceLT, Nat.reduceSub, Int.reduceAdd, Int.reduceLE, Int.reduceLT, Int.reduceToNat, Int.reduceNeg, Int.reduceNatCast', reduceCtorEq, Int32.reduceOfInt, Int32.reduceOfNat, Int32.reduceToNatClampNeg, Int32.reduceToInt, i10, i01, pe_X4_finding, pe_X4_put, tl_0, tl_1, tl_2, tl_3, tl_4, tl_5, tl_6]
    by_cases h0 : fdF M s = 0
    · have hs := fd0 h0
      rw [if_pos h0]
      rw [if_neg (fun z => z h0)] at h
      by_cases h1 : i < 0
      · rw [if_neg (fun z => z.1 h1)] at h
        rw [if_pos h1]
        exact h
      · rw [if_neg h1]
        refine ⟨bd hs.1 hs.2 rfl, ?_⟩
        by_cases h2 : M 57 (s).toNatClampNeg ≤ i
        · rw [if_neg (fun z => z.2 h2)] at h
          rw [if_neg (Int32.not_lt.mpr h2)]
          exact h
        · rw [if_pos ⟨h1, h2⟩] at h
          rw [if_pos (Int32.not_le.mp h2)]
          refine ⟨⟨hs, h1, fun z => h2 ?_⟩, h⟩
          obtain ⟨m, hm, e⟩ := hz (s).toNatClampNeg (by rcases sh4 hs with rfl | rfl | rfl | rfl <;> decide)
          rw [e]
          have : nI m ≤ 40 := nI_le (b := 40) (by omega) (by decide)
          rw [Int32.le_iff_toInt_le] at *
          omega
    · rw [if_neg h0, fd_tell h0]
      rw [if_pos h0] at h
      simp only [dX6_write_0, dX6_write_1, dX6_write_4, dX6_write_5, dX6_write_8, dX6_write_10, dX6_write_12, dX6_write_15, dX6_write_16, dX6_write_18, dX6_write_21, dX6_write_22, dX6_write_23, dX6_write_26, dX6_write_27, dX6_write_28, dX6_write_31, dX6_write_34, dX6_write_35, dX6_write_36, dX6_write_39, dX6_write_40, dX6_write_42, dX6_write_45, dX6_write_46, dX6_write_47, dX6_write_50, dX6_write_51, dX6_write_52, dX6_write_53, dX6_write_56, dX6_write_57, cr_6_215, cr_6_267, cr_6_69, fr_6_218, fr_6_50, kr_6_68, skr_6_68, al_10, al_11, al_12, al_13, al_14, al_16, al_17, al_18, al_19, al_2, al_20, al_21, al_23, al_24, al_27, al_28, al_29, al_3, al_30, al_31, al_32, al_34, al_36, al_37, al_38, al_39, al_4, al_40, al_41, al_42, al_43, al_45, al_46, al_47, al_48, al_49, al_5, al_52, al_53, al_54, al_55, al_56, al_57, al_58, al_6, al_60, al_61, al_62, al_63, al_64, al_65, al_66, al_67, al_69, al_7, al_70, al_71, al_72, al_73, al_9, cat_i, cat_l, cat_r, cat_u, gf_3_2_50, gf_5_7_0, pcl_0, pcl_1, pcl_100, pcl_101, pcl_102, pcl_103, pcl_104, pcl_105, pcl_106, pcl_107, pcl_108, pcl_109, pcl_110, pcl_111, pcl_112, pcl_15, pcl_22, pcl_25, pcl_26, pcl_33, pcl_44, pcl_50, pcl_59, pcl_8, rOK_i, rOK_z, v_aload_0, v_getfield, v_iaload, v_ic_lt, v_iconst_1, v_if_eq, v_if_lt, v_iload_1, v_iload_2, v_iload_3, v_iload_4, v_invv, v_ireturn, v_istore_4, v_ldc, vcV_2_3, vcV_2_5, vcV_4_3, vgf_i, vgf_r, vgf_s, vld_i, vld_s, vc_0, vc_s, rr_0, rr_1, csT_h, csT_t, csT_n, bI_0, bI_1, bI_z, bT, List.mem_cons, List.not_mem_nil, List.length_cons, List.length_nil, ite_not, ↓reduceIte, true_and, and_true, not_true_eq_false, not_false_eq_true, false_or, or_false, or_true, true_or, Nat.reduceAdd, Nat.reduceEqDiff, Nat.reduceBEq, Nat.reduceLeDiff, Nat.reduceLT, Nat.reduceSub, Int.reduceAdd, Int.reduceLE, Int.reduceLT, Int.reduceToNat, Int.reduceNeg, Int.reduceNatCast', reduceCtorEq, Int32.reduceOfInt, Int32.reduceOfNat, Int32.reduceToNatClampNeg, Int32.reduceToInt, i10, i01, pe_X4_finding, pe_X4_put, tl_0, tl_1, tl_2, tl_3, tl_4, tl_5, tl_6]
      exact h

theorem s_X6_write {d : Nat} (hd : 3 ≤ d) : Snd d 94 pf_X6_write := by
  intro args M k h
  unfold pf_X6_write at h
  split at h
  · exact c_X6_write hd h
  · exact h.elim
def pf_X6_copy : PF := fun args M k => match args with
  | [.ref o, .int s, .int f, .int t, .int g, .int n] => (o = 0 ∧ ∀ t, t < 4 → ∃ m, m ≤ 40 ∧ M 57 t = nI m) ∧ (if shOK s ∧ shOK t then (if M 56 (s).toNatClampNeg = 0 ∨ M 56 (t).toNatClampNeg = 0 then k (.int (-1000006)) (tellM M 5) else if M 56 (s).toNatClampNeg = M 56 (t).toNatClampNeg then (if (¬ f < 0 ∧ ¬ n < 0 ∧ ¬ M 57 (s).toNatClampNeg < n ∧ ¬ M 57 (s).toNatClampNeg - n < f) ∧ (¬ g < 0 ∧ ¬ n < 0 ∧ ¬ M 57 (t).toNatClampNeg < n ∧ ¬ M 57 (t).toNatClampNeg - n < g) then k (.int n) (mrow M (52 + (t).toNatClampNeg) (va_cpy (M (52 + (s).toNatClampNeg)) (M (52 + (t).toNatClampNeg)) (f).toNatClampNeg (g).toNatClampNeg (n).toNatClampNeg)) else k (.int (-1000001)) (tellM M 0)) else k (.int (-1000003)) (tellM M 2)) else k (.int (-1000001)) (tellM M 0))
  | _ => False
theorem pe_X6_copy {o : Nat} {s : Int32} {f : Int32} {t : Int32} {g : Int32} {n : Int32} {M : Mem} {k : Value → Mem → Prop} : pf_X6_copy [.ref o, .int s, .int f, .int t, .int g, .int n] M k = ((o = 0 ∧ ∀ t, t < 4 → ∃ m, m ≤ 40 ∧ M 57 t = nI m) ∧ (if shOK s ∧ shOK t then (if M 56 (s).toNatClampNeg = 0 ∨ M 56 (t).toNatClampNeg = 0 then k (.int (-1000006)) (tellM M 5) else if M 56 (s).toNatClampNeg = M 56 (t).toNatClampNeg then (if (¬ f < 0 ∧ ¬ n < 0 ∧ ¬ M 57 (s).toNatClampNeg < n ∧ ¬ M 57 (s).toNatClampNeg - n < f) ∧ (¬ g < 0 ∧ ¬ n < 0 ∧ ¬ M 57 (t).toNatClampNeg < n ∧ ¬ M 57 (t).toNatClampNeg - n < g) then k (.int n) (mrow M (52 + (t).toNatClampNeg) (va_cpy (M (52 + (s).toNatClampNeg)) (M (52 + (t).toNatClampNeg)) (f).toNatClampNeg (g).toNatClampNeg (n).toNatClampNeg)) else k (.int (-1000001)) (tellM M 0)) else k (.int (-1000003)) (tellM M 2)) else k (.int (-1000001)) (tellM M 0))) := rfl
set_option maxRecDepth 100000 in
set_option maxHeartbeats 4000000 in
theorem c_X6_copy {d : Nat} (hd : 3 ≤ d) {o : Nat} {s : Int32} {f : Int32} {t : Int32} {g : Int32} {n : Int32} {M : Mem} {k : Value → Mem → Prop} (h : (o = 0 ∧ ∀ t, t < 4 → ∃ m, m ≤ 40 ∧ M 57 t = nI m) ∧ (if shOK s ∧ shOK t then (if M 56 (s).toNatClampNeg = 0 ∨ M 56 (t).toNatClampNeg = 0 then k (.int (-1000006)) (tellM M 5) else if M 56 (s).toNatClampNeg = M 56 (t).toNatClampNeg then (if (¬ f < 0 ∧ ¬ n < 0 ∧ ¬ M 57 (s).toNatClampNeg < n ∧ ¬ M 57 (s).toNatClampNeg - n < f) ∧ (¬ g < 0 ∧ ¬ n < 0 ∧ ¬ M 57 (t).toNatClampNeg < n ∧ ¬ M 57 (t).toNatClampNeg - n < g) then k (.int n) (mrow M (52 + (t).toNatClampNeg) (va_cpy (M (52 + (s).toNatClampNeg)) (M (52 + (t).toNatClampNeg)) (f).toNatClampNeg (g).toNatClampNeg (n).toNatClampNeg)) else k (.int (-1000001)) (tellM M 0)) else k (.int (-1000003)) (tellM M 2)) else k (.int (-1000001)) (tellM M 0))) : CallP d 95 [.ref o, .int s, .int f, .int t, .int g, .int n] M k := by
  obtain ⟨hp, h⟩ := h
  obtain ⟨d, rfl⟩ : ∃ d', d = d' + 1 := ⟨d - 1, by omega⟩
  obtain ⟨rfl, hz⟩ := hp
  · refine enterV (n := 120) [(108, pf_X6_isSheet), (103, pf_X6_tell), (46, pf_X4_finding), (49, pf_X4_hasPart)] [] mI_95 (by decide) (Nat.le_of_ble_eq_true rfl) (T_cons (s_X6_isSheet (by omega)) (T_cons (s_X6_tell (by omega)) (T_cons (s_X4_finding (by omega)) (T_cons (s_X4_hasPart (by omega)) T_nil)))) ?_
    rw [show lent 6 ([.ref 0, .int s, .int f, .int t, .int g, .int n] : List Value) = [.ref 0, .int s, .int f, .int t, .int g, .int n] from rfl]
    simp only [dX6_copy_0, dX6_copy_1, dX6_copy_4, dX6_copy_7, dX6_copy_8, dX6_copy_11, dX6_copy_14, dX6_copy_15, dX6_copy_17, dX6_copy_20, dX6_copy_21, dX6_copy_22, dX6_copy_25, dX6_copy_26, dX6_copy_29, dX6_copy_32, dX6_copy_33, dX6_copy_36, dX6_copy_37, dX6_copy_40, dX6_copy_43, dX6_copy_44, dX6_copy_46, dX6_copy_49, dX6_copy_50, dX6_copy_51, dX6_copy_54, dX6_copy_57, dX6_copy_58, dX6_copy_59, dX6_copy_60, dX6_copy_63, dX6_copy_66, dX6_copy_67, dX6_copy_68, dX6_copy_71, dX6_copy_72, dX6_copy_75, dX6_copy_78, dX6_copy_79, dX6_copy_80, dX6_copy_83, dX6_copy_84, dX6_copy_85, dX6_copy_87, dX6_copy_90, dX6_copy_93, dX6_copy_94, dX6_copy_97, dX6_copy_98, dX6_copy_100, dX6_copy_102, dX6_copy_105, dX6_copy_108, dX6_copy_109, dX6_copy_111, dX6_copy_114, dX6_copy_115, dX6_copy_116, dX6_copy_119, dX6_copy_122, dX6_copy_123, dX6_copy_124, dX6_copy_125, dX6_copy_126, dX6_copy_129, dX6_copy_132, dX6_copy_133, dX6_copy_134, dX6_copy_136, dX6_copy_138, dX6_copy_141, dX6_copy_143, cr_6_215, cr_6_259, cr_6_272, cr_6_280, cr_6_69, fr_6_269, fr_6_276, fr_6_50, kr_6_252, kr_6_258, kr_6_68, skr_6_252, skr_6_258, skr_6_68, al_10, al_11, al_12, al_13, al_14, al_16, al_17, al_18, al_19, al_2, al_20, al_21, al_23, al_24, al_27, al_28, al_29, al_3, al_30, al_31, al_32, al_34, al_36, al_37, al_38, al_39, al_4, al_40, al_41, al_42, al_43, al_45, al_46, al_47, al_48, al_49, al_5, al_52, al_53, al_54, al_55, al_56, al_57, al_58, al_6, al_60, al_61, al_62, al_63, al_64, al_65, al_66, al_67, al_69, al_7, al_70, al_71, al_72, al_73, al_9, gf_3_0_50, gf_3_1_50, gf_5_7_0, pcl_0, pcl_1, pcl_100, pcl_101, pcl_102, pcl_103, pcl_104, pcl_105, pcl_106, pcl_107, pcl_108, pcl_109, pcl_110, pcl_111, pcl_112, pcl_15, pcl_22, pcl_25, pcl_26, pcl_33, pcl_44, pcl_50, pcl_59, pcl_8, rOK_i, rOK_z, ra_35, ra_51, ra_68, v_aaload, v_aload_0, v_getfield, v_iaload, v_ic_eq, v_if_eq, v_if_ne, v_iload_1, v_iload_2, v_iload_3, v_iload_4, v_iload_5, v_invs, v_invv, v_ireturn, v_ldc, v_ldcw, vaa_s, vcS_1_1, vcS_cp, vcV_2_3, vcV_2_5, vcV_4_3, vgf_i, vgf_r, vgf_s, vld_i, vld_s, vc_0, vc_s, rr_0, rr_1, csT_h, csT_t, csT_n, bI_0, bI_1, bI_z, bT, List.mem_cons, List.not_mem_nil, List.length_cons, List.length_nil, ite_not, ↓reduceIte, true_and, and_true, not_true_eq_false, not_false_eq_true, false_or, or_false, or_true, true_or, Nat.reduceAdd, Nat.reduceEqDiff, Nat.reduceBEq, Nat.reduceLeDiff, Nat.reduceLT, Nat.reduceSub, Int.reduceAdd, Int.reduceLE, Int.reduceLT, Int.reduceToNat, Int.reduceNeg, Int.reduceNatCast', reduceCtorEq, Int32.reduceOfInt, Int32.reduceOfNat, Int32.reduceToNatClampNeg, Int32.reduceToInt, i10, i01, pe_X6_isSheet, tl_0, tl_1, tl_2, tl_3, tl_4, tl_5, tl_6, pe_X4_finding, pe_X4_hasPart]
    by_cases h1 : shOK s
    · rw [if_pos h1]
      by_cases h2 : shOK t
      · rw [if_pos ⟨h1, h2⟩] at h
        rw [if_pos h2]
        have f1 : (fdF M s = 0) = ¬ M 56 (s).toNatClampNeg = 0 := by
          unfold fdF
          rw [if_pos h1]
          by_cases q : M 56 (s).toNatClampNeg = 0 <;> simp [q]
        have f2 : (fdF M t = 0) = ¬ M 56 (t).toNatClampNeg = 0 := by
          unfold fdF
          rw [if_pos h2]
          by_cases q : M 56 (t).toNatClampNeg = 0 <;> simp [q]
        simp only [f1, f2]
        by_cases h3 : M 56 (s).toNatClampNeg = 0
        · rw [if_pos (Or.inl h3)] at h
          rw [if_neg (fun z => z h3)]
          exact h
        · rw [if_pos h3]
          by_cases h4 : M 56 (t).toNatClampNeg = 0
          · rw [if_pos (Or.inr h4)] at h
            rw [if_neg (fun z => z h4)]
            exact h
          · rw [if_neg (fun z => z.elim h3 h4)] at h
            rw [if_pos h4]
            refine ⟨bd h1.1 h1.2 rfl, bd h2.1 h2.2 rfl, ?_⟩
            by_cases h5 : M 56 (s).toNatClampNeg = M 56 (t).toNatClampNeg
            · rw [if_pos h5] at h ⊢
              refine ⟨h1, ?_⟩
              by_cases h6 : ¬ f < 0 ∧ ¬ n < 0 ∧ ¬ M 57 (s).toNatClampNeg < n ∧ ¬ M 57 (s).toNatClampNeg - n < f
              · rw [if_pos h6]
                refine ⟨h2, ?_⟩
                by_cases h7 : ¬ g < 0 ∧ ¬ n < 0 ∧ ¬ M 57 (t).toNatClampNeg < n ∧ ¬ M 57 (t).toNatClampNeg - n < g
                · rw [if_pos ⟨h6, h7⟩] at h
                  rw [if_pos h7]
                  have a1 : al (52 + (s).toNatClampNeg) = 40 := by rcases sh4 h1 with rfl | rfl | rfl | rfl <;> decide +kernel
                  have a2 : al (52 + (t).toNatClampNeg) = 40 := by rcases sh4 h2 with rfl | rfl | rfl | rfl <;> decide +kernel
                  obtain ⟨m1, hm1, e1⟩ := hz (s).toNatClampNeg (by rcases sh4 h1 with rfl | rfl | rfl | rfl <;> decide)
                  obtain ⟨m2, hm2, e2⟩ := hz (t).toNatClampNeg (by rcases sh4 h2 with rfl | rfl | rfl | rfl <;> decide)
                  rw [e1] at h6
                  rw [e2] at h7
                  obtain ⟨n', hn', rfl⟩ := nI_of h6.2.1
                  obtain ⟨f', hf', rfl⟩ := nI_of h6.1
                  obtain ⟨g', hg', rfl⟩ := nI_of h7.1
                  have b1 : n' ≤ m1 := by
                    have := h6.2.2.1
                    rw [nI_ltI (by omega) (by omega)] at this
                    omega
                  have b2 : n' ≤ m2 := by
                    have := h7.2.2.1
                    rw [nI_ltI (by omega) (by omega)] at this
                    omega
                  have b3 : f' + n' ≤ m1 := by
                    have := h6.2.2.2
                    rw [pk_sub b1, nI_ltI (by omega) (by omega)] at this
                    omega
                  have b4 : g' + n' ≤ m2 := by
                    have := h7.2.2.2
                    rw [pk_sub b2, nI_ltI (by omega) (by omega)] at this
                    omega
                  have t1 : (nI n').toInt = n' := nI_toInt hn'
                  have t2 : (nI f').toInt = f' := nI_toInt hf'
                  have t3 : (nI g').toInt = g' := nI_toInt hg'
                  rw [a1, a2, t1, t2, t3]
                  exact ⟨bd h1.1 h1.2 rfl, bd h2.1 h2.2 rfl, ⟨by omega, by omega, by omega, by omega, by omega⟩, h⟩
                · rw [if_neg (fun z => h7 z.2)] at h
                  rw [if_neg h7]
                  exact h
              · rw [if_neg (fun z => h6 z.1)] at h
                rw [if_neg h6]
                exact h
            · rw [if_neg h5] at h ⊢
              exact h
      · rw [if_neg (fun z => h2 z.2)] at h
        rw [if_neg h2]
        exact h
    · rw [if_neg (fun z => h1 z.1)] at h
      rw [if_neg h1]
      exact h

theorem s_X6_copy {d : Nat} (hd : 3 ≤ d) : Snd d 95 pf_X6_copy := by
  intro args M k h
  unfold pf_X6_copy at h
  split at h
  · exact c_X6_copy hd h
  · exact h.elim
def pf_X6_image : PF := fun args M k => match args with
  | [.ref o] => (o = 0) ∧ (k (.int 1) (mset (becM M 8 1) 0 9 1))
  | _ => False
theorem pe_X6_image {o : Nat} {M : Mem} {k : Value → Mem → Prop} : pf_X6_image [.ref o] M k = ((o = 0) ∧ (k (.int 1) (mset (becM M 8 1) 0 9 1))) := rfl
set_option maxRecDepth 100000 in
set_option maxHeartbeats 4000000 in
theorem c_X6_image {d : Nat} (hd : 2 ≤ d) {o : Nat} {M : Mem} {k : Value → Mem → Prop} (h : (o = 0) ∧ (k (.int 1) (mset (becM M 8 1) 0 9 1))) : CallP d 98 [.ref o] M k := by
  obtain ⟨hp, h⟩ := h
  obtain ⟨d, rfl⟩ : ∃ d', d = d' + 1 := ⟨d - 1, by omega⟩
  obtain rfl := hp
  · refine enterV (n := 80) [(1, pf_X0_become)] [] mI_98 (by decide) (Nat.le_of_ble_eq_true rfl) (T_cons (s_X0_become (by omega)) T_nil) ?_
    rw [show lent 1 ([.ref 0] : List Value) = [.ref 0] from rfl]
    simp only [dX6_image_0, dX6_image_1, dX6_image_4, dX6_image_5, dX6_image_8, dX6_image_11, dX6_image_12, dX6_image_13, dX6_image_16, dX6_image_17, cr_6_240, fr_6_12, fr_6_16, fr_6_57, al_10, al_11, al_12, al_13, al_14, al_16, al_17, al_18, al_19, al_2, al_20, al_21, al_23, al_24, al_27, al_28, al_29, al_3, al_30, al_31, al_32, al_34, al_36, al_37, al_38, al_39, al_4, al_40, al_41, al_42, al_43, al_45, al_46, al_47, al_48, al_49, al_5, al_52, al_53, al_54, al_55, al_56, al_57, al_58, al_6, al_60, al_61, al_62, al_63, al_64, al_65, al_66, al_67, al_69, al_7, al_70, al_71, al_72, al_73, al_9, gf_5_0_0, gf_5_1_0, gf_5_9_0, pcl_0, pcl_1, pcl_100, pcl_101, pcl_102, pcl_103, pcl_104, pcl_105, pcl_106, pcl_107, pcl_108, pcl_109, pcl_110, pcl_111, pcl_112, pcl_15, pcl_22, pcl_25, pcl_26, pcl_33, pcl_44, pcl_50, pcl_59, pcl_8, pft_5_9, rOK_i, rOK_z, v_aload_0, v_getfield, v_iconst_1, v_invv, v_ireturn, v_putfield, vcV_2_0, vgf_i, vgf_r, vgf_s, vpf_s, vc_0, vc_s, rr_0, rr_1, csT_h, csT_t, csT_n, bI_0, bI_1, bI_z, bT, List.mem_cons, List.not_mem_nil, List.length_cons, List.length_nil, ite_not, ↓reduceIte, true_and, and_true, not_true_eq_false, not_false_eq_true, false_or, or_false, or_true, true_or, Nat.reduceAdd, Nat.reduceEqDiff, Nat.reduceBEq, Nat.reduceLeDiff, Nat.reduceLT, Nat.reduceSub, Int.reduceAdd, Int.reduceLE, Int.reduceLT, Int.reduceToNat, Int.reduceNeg, Int.reduceNatCast', reduceCtorEq, Int32.reduceOfInt, Int32.reduceOfNat, Int32.reduceToNatClampNeg, Int32.reduceToInt, i10, i01, pe_X0_become]
    exact h

theorem s_X6_image {d : Nat} (hd : 2 ≤ d) : Snd d 98 pf_X6_image := by
  intro args M k h
  unfold pf_X6_image at h
  split at h
  · exact c_X6_image hd h
  · exact h.elim
def pf_X6_undo : PF := fun args M k => match args with
  | [.ref o] => (o = 0) ∧ (if M 0 9 = 0 then k (.int (-1000004)) (tellM M 3) else k (.int (M 8 8)) (becM M 1 8))
  | _ => False
theorem pe_X6_undo {o : Nat} {M : Mem} {k : Value → Mem → Prop} : pf_X6_undo [.ref o] M k = ((o = 0) ∧ (if M 0 9 = 0 then k (.int (-1000004)) (tellM M 3) else k (.int (M 8 8)) (becM M 1 8))) := rfl
set_option maxRecDepth 100000 in
set_option maxHeartbeats 4000000 in
theorem c_X6_undo {d : Nat} (hd : 2 ≤ d) {o : Nat} {M : Mem} {k : Value → Mem → Prop} (h : (o = 0) ∧ (if M 0 9 = 0 then k (.int (-1000004)) (tellM M 3) else k (.int (M 8 8)) (becM M 1 8))) : CallP d 99 [.ref o] M k := by
  obtain ⟨hp, h⟩ := h
  obtain ⟨d, rfl⟩ : ∃ d', d = d' + 1 := ⟨d - 1, by omega⟩
  obtain rfl := hp
  · refine enterV (n := 80) [(1, pf_X0_become), (103, pf_X6_tell)] [] mI_99 (by decide) (Nat.le_of_ble_eq_true rfl) (T_cons (s_X0_become (by omega)) (T_cons (s_X6_tell (by omega)) T_nil)) ?_
    rw [show lent 1 ([.ref 0] : List Value) = [.ref 0] from rfl]
    simp only [dX6_undo_0, dX6_undo_1, dX6_undo_4, dX6_undo_7, dX6_undo_8, dX6_undo_10, dX6_undo_13, dX6_undo_14, dX6_undo_15, dX6_undo_18, dX6_undo_19, dX6_undo_22, dX6_undo_25, dX6_undo_26, dX6_undo_29, dX6_undo_32, cr_6_240, cr_6_69, fr_6_117, fr_6_12, fr_6_16, fr_6_57, kr_6_172, skr_6_172, al_10, al_11, al_12, al_13, al_14, al_16, al_17, al_18, al_19, al_2, al_20, al_21, al_23, al_24, al_27, al_28, al_29, al_3, al_30, al_31, al_32, al_34, al_36, al_37, al_38, al_39, al_4, al_40, al_41, al_42, al_43, al_45, al_46, al_47, al_48, al_49, al_5, al_52, al_53, al_54, al_55, al_56, al_57, al_58, al_6, al_60, al_61, al_62, al_63, al_64, al_65, al_66, al_67, al_69, al_7, al_70, al_71, al_72, al_73, al_9, gf_0_8_1, gf_0_8_15, gf_0_8_26, gf_0_8_8, gf_5_0_0, gf_5_1_0, gf_5_9_0, pcl_0, pcl_1, pcl_100, pcl_101, pcl_102, pcl_103, pcl_104, pcl_105, pcl_106, pcl_107, pcl_108, pcl_109, pcl_110, pcl_111, pcl_112, pcl_15, pcl_22, pcl_25, pcl_26, pcl_33, pcl_44, pcl_50, pcl_59, pcl_8, pft_0_8, pft_5_9, rOK_i, rOK_z, v_aload_0, v_getfield, v_if_ne, v_invv, v_ireturn, v_ldc, vcV_2_0, vcV_2_5, vgf_i, vgf_r, vgf_s, vld_i, vld_s, vc_0, vc_s, rr_0, rr_1, csT_h, csT_t, csT_n, bI_0, bI_1, bI_z, bT, List.mem_cons, List.not_mem_nil, List.length_cons, List.length_nil, ite_not, ↓reduceIte, true_and, and_true, not_true_eq_false, not_false_eq_true, false_or, or_false, or_true, true_or, Nat.reduceAdd, Nat.reduceEqDiff, Nat.reduceBEq, Nat.reduceLeDiff, Nat.reduceLT, Nat.reduceSub, Int.reduceAdd, Int.reduceLE, Int.reduceLT, Int.reduceToNat, Int.reduceNeg, Int.reduceNatCast', reduceCtorEq, Int32.reduceOfInt, Int32.reduceOfNat, Int32.reduceToNatClampNeg, Int32.reduceToInt, i10, i01, pe_X0_become, tl_0, tl_1, tl_2, tl_3, tl_4, tl_5, tl_6]
    by_cases h1 : M 0 9 = 0
    · rw [if_pos h1] at h ⊢
      exact h
    · rw [if_neg h1] at h ⊢
      exact h

theorem s_X6_undo {d : Nat} (hd : 2 ≤ d) : Snd d 99 pf_X6_undo := by
  intro args M k h
  unfold pf_X6_undo at h
  split at h
  · exact c_X6_undo hd h
  · exact h.elim
def pf_X6_tear : PF := fun args M k => match args with
  | [.ref o] => (o = 0 ∧ (M 0 9 = 0 ∨ M 0 9 = 1)) ∧ (k (.int (M 0 9)) (mset M 0 9 0))
  | _ => False
theorem pe_X6_tear {o : Nat} {M : Mem} {k : Value → Mem → Prop} : pf_X6_tear [.ref o] M k = ((o = 0 ∧ (M 0 9 = 0 ∨ M 0 9 = 1)) ∧ (k (.int (M 0 9)) (mset M 0 9 0))) := rfl
set_option maxRecDepth 100000 in
set_option maxHeartbeats 4000000 in
theorem c_X6_tear {d : Nat} (hd : 1 ≤ d) {o : Nat} {M : Mem} {k : Value → Mem → Prop} (h : (o = 0 ∧ (M 0 9 = 0 ∨ M 0 9 = 1)) ∧ (k (.int (M 0 9)) (mset M 0 9 0))) : CallP d 100 [.ref o] M k := by
  obtain ⟨hp, h⟩ := h
  obtain ⟨d, rfl⟩ : ∃ d', d = d' + 1 := ⟨d - 1, by omega⟩
  obtain ⟨rfl, hz⟩ := hp
  · refine enterV (n := 80) [] [] mI_100 (by decide) (Nat.le_of_ble_eq_true rfl) T_nil ?_
    rw [show lent 2 ([.ref 0] : List Value) = [.ref 0, .retAddr 0] from rfl]
    simp only [dX6_tear_0, dX6_tear_1, dX6_tear_4, dX6_tear_7, dX6_tear_8, dX6_tear_11, dX6_tear_12, dX6_tear_13, dX6_tear_14, dX6_tear_15, dX6_tear_18, dX6_tear_19, fr_6_57, cat_i, cat_l, cat_r, cat_u, gf_5_9_0, pft_5_9, rOK_i, rOK_z, v_aload_0, v_getfield, v_goto, v_iconst_0, v_iconst_1, v_if_eq, v_iload_1, v_ireturn, v_istore_1, v_putfield, vgf_i, vgf_r, vgf_s, vpf_s, vc_0, vc_s, rr_0, rr_1, csT_h, csT_t, csT_n, bI_0, bI_1, bI_z, bT, List.mem_cons, List.not_mem_nil, List.length_cons, List.length_nil, ite_not, ↓reduceIte, true_and, and_true, not_true_eq_false, not_false_eq_true, false_or, or_false, or_true, true_or, Nat.reduceAdd, Nat.reduceEqDiff, Nat.reduceBEq, Nat.reduceLeDiff, Nat.reduceLT, Nat.reduceSub, Int.reduceAdd, Int.reduceLE, Int.reduceLT, Int.reduceToNat, Int.reduceNeg, Int.reduceNatCast', reduceCtorEq, Int32.reduceOfInt, Int32.reduceOfNat, Int32.reduceToNatClampNeg, Int32.reduceToInt, i10, i01]
    rcases hz with hz | hz
    · rw [hz] at h ⊢
      rw [if_pos rfl]
      exact h
    · rw [hz] at h ⊢
      rw [if_neg (by decide)]
      exact h

theorem s_X6_tear {d : Nat} (hd : 1 ≤ d) : Snd d 100 pf_X6_tear := by
  intro args M k h
  unfold pf_X6_tear at h
  split at h
  · exact c_X6_tear hd h
  · exact h.elim
def pf_X6_status : PF := fun args M k => match args with
  | [.ref o, .int q] => (o = 0) ∧ (if q = -1 then k (.int (sumF (M 58) 7 0 0)) M else if ¬ q < 0 ∧ ¬ 7 ≤ q then k (.int (M 58 (q).toNatClampNeg)) M else k (.int (-1000001)) (tellM M 0))
  | _ => False
theorem pe_X6_status {o : Nat} {q : Int32} {M : Mem} {k : Value → Mem → Prop} : pf_X6_status [.ref o, .int q] M k = ((o = 0) ∧ (if q = -1 then k (.int (sumF (M 58) 7 0 0)) M else if ¬ q < 0 ∧ ¬ 7 ≤ q then k (.int (M 58 (q).toNatClampNeg)) M else k (.int (-1000001)) (tellM M 0))) := rfl
set_option maxRecDepth 100000 in
set_option maxHeartbeats 4000000 in
theorem c_X6_status {d : Nat} (hd : 2 ≤ d) {o : Nat} {q : Int32} {M : Mem} {k : Value → Mem → Prop} (h : (o = 0) ∧ (if q = -1 then k (.int (sumF (M 58) 7 0 0)) M else if ¬ q < 0 ∧ ¬ 7 ≤ q then k (.int (M 58 (q).toNatClampNeg)) M else k (.int (-1000001)) (tellM M 0))) : CallP d 102 [.ref o, .int q] M k := by
  obtain ⟨hp, h⟩ := h
  obtain ⟨d, rfl⟩ : ∃ d', d = d' + 1 := ⟨d - 1, by omega⟩
  obtain rfl := hp
  · refine enterV (n := 80) [(111, pf_X6_sum), (103, pf_X6_tell)] [] mI_102 (by decide) (Nat.le_of_ble_eq_true rfl) (T_cons (s_X6_sum (by omega)) (T_cons (s_X6_tell (by omega)) T_nil)) ?_
    rw [show lent 2 ([.ref 0, .int q] : List Value) = [.ref 0, .int q] from rfl]
    simp only [dX6_status_0, dX6_status_1, dX6_status_2, dX6_status_5, dX6_status_6, dX6_status_9, dX6_status_11, dX6_status_14, dX6_status_15, dX6_status_16, dX6_status_19, dX6_status_20, dX6_status_22, dX6_status_25, dX6_status_26, dX6_status_29, dX6_status_30, dX6_status_31, dX6_status_34, dX6_status_35, dX6_status_37, dX6_status_40, cr_6_137, cr_6_69, fr_6_54, kr_6_68, skr_6_68, al_10, al_11, al_12, al_13, al_14, al_16, al_17, al_18, al_19, al_2, al_20, al_21, al_23, al_24, al_27, al_28, al_29, al_3, al_30, al_31, al_32, al_34, al_36, al_37, al_38, al_39, al_4, al_40, al_41, al_42, al_43, al_45, al_46, al_47, al_48, al_49, al_5, al_52, al_53, al_54, al_55, al_56, al_57, al_58, al_6, al_60, al_61, al_62, al_63, al_64, al_65, al_66, al_67, al_69, al_7, al_70, al_71, al_72, al_73, al_9, gf_5_8_0, pcl_0, pcl_1, pcl_100, pcl_101, pcl_102, pcl_103, pcl_104, pcl_105, pcl_106, pcl_107, pcl_108, pcl_109, pcl_110, pcl_111, pcl_112, pcl_15, pcl_22, pcl_25, pcl_26, pcl_33, pcl_44, pcl_50, pcl_59, pcl_8, rOK_i, rOK_z, v_aload_0, v_bipush_7, v_getfield, v_goto, v_iaload, v_ic_ge, v_ic_ne, v_iconst_m1, v_if_lt, v_iload_1, v_invs, v_invv, v_ireturn, v_ldc, vcS_2_1, vcV_2_5, vgf_i, vgf_r, vgf_s, vld_i, vld_s, vc_0, vc_s, rr_0, rr_1, csT_h, csT_t, csT_n, bI_0, bI_1, bI_z, bT, List.mem_cons, List.not_mem_nil, List.length_cons, List.length_nil, ite_not, ↓reduceIte, true_and, and_true, not_true_eq_false, not_false_eq_true, false_or, or_false, or_true, true_or, Nat.reduceAdd, Nat.reduceEqDiff, Nat.reduceBEq, Nat.reduceLeDiff, Nat.reduceLT, Nat.reduceSub, Int.reduceAdd, Int.reduceLE, Int.reduceLT, Int.reduceToNat, Int.reduceNeg, Int.reduceNatCast', reduceCtorEq, Int32.reduceOfInt, Int32.reduceOfNat, Int32.reduceToNatClampNeg, Int32.reduceToInt, i10, i01, pe_X6_sum, tl_0, tl_1, tl_2, tl_3, tl_4, tl_5, tl_6, Int32.reduceLT]
    by_cases h1 : q = -1
    · rw [if_pos h1] at h ⊢
      simpa using h
    · rw [if_neg h1] at h ⊢
      by_cases h2 : q < 0
      · rw [if_neg (fun z => z.1 h2)] at h
        rw [if_pos h2]
        exact h
      · rw [if_neg h2]
        by_cases h3 : 7 ≤ q
        · rw [if_neg (fun z => z.2 h3)] at h
          rw [if_pos h3]
          exact h
        · rw [if_pos ⟨h2, h3⟩] at h
          rw [if_neg h3]
          exact ⟨bd h2 h3 rfl, h⟩

theorem s_X6_status {d : Nat} (hd : 2 ≤ d) : Snd d 102 pf_X6_status := by
  intro args M k h
  unfold pf_X6_status at h
  split at h
  · exact c_X6_status hd h
  · exact h.elim
def pf_X6_unlike : PF := fun args M k => match args with
  | [.ref o, .int x, .int y] => (o = 0) ∧ (if hasW M 1 x ∧ hasW M 1 y ∧ ¬ x = y then ∀ a b c, k (.int (dfF (xw M (y).toNatClampNeg).2.2 (xw M (x).toNatClampNeg).2.2 12 0 0)) (mrow (jk M a b) 24 c) else k (.int (-1000001)) (tellM M 0))
  | _ => False
theorem pe_X6_unlike {o : Nat} {x : Int32} {y : Int32} {M : Mem} {k : Value → Mem → Prop} : pf_X6_unlike [.ref o, .int x, .int y] M k = ((o = 0) ∧ (if hasW M 1 x ∧ hasW M 1 y ∧ ¬ x = y then ∀ a b c, k (.int (dfF (xw M (y).toNatClampNeg).2.2 (xw M (x).toNatClampNeg).2.2 12 0 0)) (mrow (jk M a b) 24 c) else k (.int (-1000001)) (tellM M 0))) := rfl
set_option maxRecDepth 100000 in
set_option maxHeartbeats 4000000 in
theorem c_X6_unlike {d : Nat} (hd : 6 ≤ d) {o : Nat} {x : Int32} {y : Int32} {M : Mem} {k : Value → Mem → Prop} (h : (o = 0) ∧ (if hasW M 1 x ∧ hasW M 1 y ∧ ¬ x = y then ∀ a b c, k (.int (dfF (xw M (y).toNatClampNeg).2.2 (xw M (x).toNatClampNeg).2.2 12 0 0)) (mrow (jk M a b) 24 c) else k (.int (-1000001)) (tellM M 0))) : CallP d 80 [.ref o, .int x, .int y] M k := by
  obtain ⟨hp, h⟩ := h
  obtain ⟨d, rfl⟩ : ∃ d', d = d' + 1 := ⟨d - 1, by omega⟩
  obtain rfl := hp
  · refine enterV (n := 80) [(2, pf_X0_has), (103, pf_X6_tell), (120, pf_X6_difference)] [] mI_80 (by decide) (Nat.le_of_ble_eq_true rfl) (T_cons (s_X0_has (by omega)) (T_cons (s_X6_tell (by omega)) (T_cons (s_X6_difference (by omega)) T_nil))) ?_
    rw [show lent 3 ([.ref 0, .int x, .int y] : List Value) = [.ref 0, .int x, .int y] from rfl]
    simp only [dX6_unlike_0, dX6_unlike_1, dX6_unlike_4, dX6_unlike_5, dX6_unlike_8, dX6_unlike_11, dX6_unlike_12, dX6_unlike_15, dX6_unlike_16, dX6_unlike_19, dX6_unlike_22, dX6_unlike_23, dX6_unlike_24, dX6_unlike_27, dX6_unlike_28, dX6_unlike_30, dX6_unlike_33, dX6_unlike_34, dX6_unlike_35, dX6_unlike_36, dX6_unlike_37, dX6_unlike_40, cr_6_205, cr_6_69, cr_6_88, fr_6_12, kr_6_68, skr_6_68, al_10, al_11, al_12, al_13, al_14, al_16, al_17, al_18, al_19, al_2, al_20, al_21, al_23, al_24, al_27, al_28, al_29, al_3, al_30, al_31, al_32, al_34, al_36, al_37, al_38, al_39, al_4, al_40, al_41, al_42, al_43, al_45, al_46, al_47, al_48, al_49, al_5, al_52, al_53, al_54, al_55, al_56, al_57, al_58, al_6, al_60, al_61, al_62, al_63, al_64, al_65, al_66, al_67, al_69, al_7, al_70, al_71, al_72, al_73, al_9, gf_5_0_0, pcl_0, pcl_1, pcl_100, pcl_101, pcl_102, pcl_103, pcl_104, pcl_105, pcl_106, pcl_107, pcl_108, pcl_109, pcl_110, pcl_111, pcl_112, pcl_15, pcl_22, pcl_25, pcl_26, pcl_33, pcl_44, pcl_50, pcl_59, pcl_8, rOK_i, rOK_z, v_aload_0, v_getfield, v_ic_ne, v_if_eq, v_iload_1, v_iload_2, v_invv, v_ireturn, v_ldc, vcV_2_0, vcV_2_5, vcV_3_5, vgf_i, vgf_r, vgf_s, vld_i, vld_s, vc_0, vc_s, rr_0, rr_1, csT_h, csT_t, csT_n, bI_0, bI_1, bI_z, bT, List.mem_cons, List.not_mem_nil, List.length_cons, List.length_nil, ite_not, ↓reduceIte, true_and, and_true, not_true_eq_false, not_false_eq_true, false_or, or_false, or_true, true_or, Nat.reduceAdd, Nat.reduceEqDiff, Nat.reduceBEq, Nat.reduceLeDiff, Nat.reduceLT, Nat.reduceSub, Int.reduceAdd, Int.reduceLE, Int.reduceLT, Int.reduceToNat, Int.reduceNeg, Int.reduceNatCast', reduceCtorEq, Int32.reduceOfInt, Int32.reduceOfNat, Int32.reduceToNatClampNeg, Int32.reduceToInt, i10, i01, pe_X0_has, tl_0, tl_1, tl_2, tl_3, tl_4, tl_5, tl_6, pe_X6_difference, BR]
    by_cases h1 : hasW M 1 x
    · rw [if_pos h1]
      by_cases h2 : hasW M 1 y
      · rw [if_pos h2]
        by_cases h3 : x = y
        · rw [if_neg (fun z => z.2.2 h3)] at h
          rw [if_pos h3]
          exact h
        · rw [if_pos ⟨h1, h2, h3⟩] at h
          rw [if_neg h3]
          exact ⟨⟨h1, h2⟩, h⟩
      · rw [if_neg (fun z => h2 z.2.1)] at h
        rw [if_neg h2]
        exact h
    · rw [if_neg (fun z => h1 z.1)] at h
      rw [if_neg h1]
      exact h

theorem s_X6_unlike {d : Nat} (hd : 6 ≤ d) : Snd d 80 pf_X6_unlike := by
  intro args M k h
  unfold pf_X6_unlike at h
  split at h
  · exact c_X6_unlike hd h
  · exact h.elim
