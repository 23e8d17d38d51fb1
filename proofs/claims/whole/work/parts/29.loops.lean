/-! X: acts with loops -/
def cntF (c : Nat → Prop) [DecidablePred c] : Nat → Nat → Int32 → Int32
  | 0, _, s => s
  | n + 1, i, s => cntF c n (i + 1) (if c i then s + 1 else s)
def lstF (c : Nat → Prop) [DecidablePred c] : Nat → Nat → Int32
  | 0, _ => -1
  | n + 1, i => if c i then nI i else lstF c n (i + 1)
theorem lstF_neg {c : Nat → Prop} [DecidablePred c] : ∀ (n i : Nat), i + n < 2 ^ 31 → (lstF c n i = -1) = ∀ j, i ≤ j → j < i + n → ¬ c j := by
  intro n
  induction n with
  | zero => intro i hi; rw [lstF]; exact propext ⟨fun _ j h1 h2 => by omega, fun _ => rfl⟩
  | succ n ih =>
    intro i hi
    rw [lstF]
    by_cases hc : c i
    · rw [if_pos hc]
      refine propext ⟨fun z => ?_, fun z => absurd hc (z i (Nat.le_refl _) (by omega))⟩
      have := nI_pos' (n := i) (by omega)
      rw [z] at this
      exact absurd this (by decide)
    · rw [if_neg hc, ih (i + 1) (by omega)]
      refine propext ⟨fun z j h1 h2 => ?_, fun z j h1 h2 => z j (by omega) (by omega)⟩
      by_cases e : j = i
      · rw [e]; exact hc
      · exact z j (by omega) (by omega)
theorem gt99 {i n : Nat} (h : i < n) (hn : n ≤ 100) : (99 < nI i) = False := eq_false (nI_nlt (a := 99) (b := i) (by omega) (by decide))
set_option maxRecDepth 100000 in
set_option maxHeartbeats 4000000 in
theorem lp_gaits {d : Nat} (hd : 4 ≤ d) {M : Mem} {k : Value → Mem → Prop} {w : Int32} (hw : hasW M 1 w) : ∀ (n i : Nat) (s : Int32) (a b : Nat → Int32), i + n = 100 → (∀ a b, k (.int (cntF (fun g => ¬ (xwg M (w).toNatClampNeg (nI g)).1 < 12) n i s)) (jk M a b)) → WP (6, yX6_gaits, cX6_gaits, 4, (some .int)) (d + 1) k 22 [.ref 0, .int w, .int s, .int (nI i)] [] (jk M a b) := by
  obtain ⟨w1, w2, w3⟩ := hw
  intro n
  induction n with
  | zero =>
    intro i s a b hi h
    have : i = 100 := by omega
    subst this
    refine goV (n := 80) [(117, pf_X6_tryGait)] [22] (T_cons (s_X6_tryGait hd) T_nil) ?_
    simp only [dX6_gaits_0, dX6_gaits_1, dX6_gaits_4, dX6_gaits_5, dX6_gaits_8, dX6_gaits_11, dX6_gaits_12, dX6_gaits_14, dX6_gaits_17, dX6_gaits_18, dX6_gaits_19, dX6_gaits_20, dX6_gaits_21, dX6_gaits_22, dX6_gaits_23, dX6_gaits_25, dX6_gaits_28, dX6_gaits_29, dX6_gaits_30, dX6_gaits_31, dX6_gaits_34, dX6_gaits_36, dX6_gaits_39, dX6_gaits_42, dX6_gaits_45, dX6_gaits_48, dX6_gaits_49, cr_6_173, cr_6_69, cr_6_88, fr_6_12, kr_6_68, skr_6_68, al_10, al_11, al_12, al_13, al_14, al_16, al_17, al_18, al_19, al_2, al_20, al_21, al_23, al_24, al_27, al_28, al_29, al_3, al_30, al_31, al_32, al_34, al_36, al_37, al_38, al_39, al_4, al_40, al_41, al_42, al_43, al_45, al_46, al_47, al_48, al_49, al_5, al_52, al_53, al_54, al_55, al_56, al_57, al_58, al_6, al_60, al_61, al_62, al_63, al_64, al_65, al_66, al_67, al_69, al_7, al_70, al_71, al_72, al_73, al_9, cat_i, cat_l, cat_r, cat_u, gf_5_0_0, pcl_0, pcl_1, pcl_100, pcl_101, pcl_102, pcl_103, pcl_104, pcl_105, pcl_106, pcl_107, pcl_108, pcl_109, pcl_110, pcl_111, pcl_112, pcl_15, pcl_22, pcl_25, pcl_26, pcl_33, pcl_44, pcl_50, pcl_59, pcl_8, rOK_i, rOK_z, v_aload_0, v_bipush_12, v_bipush_99, v_getfield, v_goto, v_ic_gt, v_ic_ne, v_iconst_0, v_if_ne, v_iinc_2, v_iinc_3, v_iload_1, v_iload_2, v_iload_3, v_invv, v_ireturn, v_istore_2, v_istore_3, v_ldc, vcV_2_0, vcV_2_5, vcV_3_5, vgf_i, vgf_r, vgf_s, vld_i, vld_s, vc_d, rr_0, rr_1, csT_h, csT_t, csT_n, bI_0, bI_1, bI_z, bT, List.mem_cons, List.not_mem_nil, List.length_cons, List.length_nil, ite_not, ↓reduceIte, true_and, and_true, not_true_eq_false, not_false_eq_true, false_or, or_false, or_true, true_or, Nat.reduceAdd, Nat.reduceEqDiff, Nat.reduceBEq, Nat.reduceLeDiff, Nat.reduceLT, Nat.reduceSub, Int.reduceAdd, Int.reduceLE, Int.reduceLT, Int.reduceToNat, Int.reduceNeg, Int.reduceNatCast', reduceCtorEq, Int32.reduceOfInt, Int32.reduceOfNat, Int32.reduceToNatClampNeg, Int32.reduceToInt, i10, i01, show ((99 : Int32) < nI 100) = True from by decide]
    exact h a b
  | succ n ih =>
    intro i s a b hi h
    refine goV (n := 80) [(117, pf_X6_tryGait)] [22] (T_cons (s_X6_tryGait hd) T_nil) ?_
    simp only [dX6_gaits_0, dX6_gaits_1, dX6_gaits_4, dX6_gaits_5, dX6_gaits_8, dX6_gaits_11, dX6_gaits_12, dX6_gaits_14, dX6_gaits_17, dX6_gaits_18, dX6_gaits_19, dX6_gaits_20, dX6_gaits_21, dX6_gaits_22, dX6_gaits_23, dX6_gaits_25, dX6_gaits_28, dX6_gaits_29, dX6_gaits_30, dX6_gaits_31, dX6_gaits_34, dX6_gaits_36, dX6_gaits_39, dX6_gaits_42, dX6_gaits_45, dX6_gaits_48, dX6_gaits_49, cr_6_173, cr_6_69, cr_6_88, fr_6_12, kr_6_68, skr_6_68, al_10, al_11, al_12, al_13, al_14, al_16, al_17, al_18, al_19, al_2, al_20, al_21, al_23, al_24, al_27, al_28, al_29, al_3, al_30, al_31, al_32, al_34, al_36, al_37, al_38, al_39, al_4, al_40, al_41, al_42, al_43, al_45, al_46, al_47, al_48, al_49, al_5, al_52, al_53, al_54, al_55, al_56, al_57, al_58, al_6, al_60, al_61, al_62, al_63, al_64, al_65, al_66, al_67, al_69, al_7, al_70, al_71, al_72, al_73, al_9, cat_i, cat_l, cat_r, cat_u, gf_5_0_0, pcl_0, pcl_1, pcl_100, pcl_101, pcl_102, pcl_103, pcl_104, pcl_105, pcl_106, pcl_107, pcl_108, pcl_109, pcl_110, pcl_111, pcl_112, pcl_15, pcl_22, pcl_25, pcl_26, pcl_33, pcl_44, pcl_50, pcl_59, pcl_8, rOK_i, rOK_z, v_aload_0, v_bipush_12, v_bipush_99, v_getfield, v_goto, v_ic_gt, v_ic_ne, v_iconst_0, v_if_ne, v_iinc_2, v_iinc_3, v_iload_1, v_iload_2, v_iload_3, v_invv, v_ireturn, v_istore_2, v_istore_3, v_ldc, vcV_2_0, vcV_2_5, vcV_3_5, vgf_i, vgf_r, vgf_s, vld_i, vld_s, vc_d, rr_0, rr_1, csT_h, csT_t, csT_n, bI_0, bI_1, bI_z, bT, List.mem_cons, List.not_mem_nil, List.length_cons, List.length_nil, ite_not, ↓reduceIte, true_and, and_true, not_true_eq_false, not_false_eq_true, false_or, or_false, or_true, true_or, Nat.reduceAdd, Nat.reduceEqDiff, Nat.reduceBEq, Nat.reduceLeDiff, Nat.reduceLT, Nat.reduceSub, Int.reduceAdd, Int.reduceLE, Int.reduceLT, Int.reduceToNat, Int.reduceNeg, Int.reduceNatCast', reduceCtorEq, Int32.reduceOfInt, Int32.reduceOfNat, Int32.reduceToNatClampNeg, Int32.reduceToInt, i10, i01, pe_X6_tryGait, jk_n, w1, w2, w3, hasW, gt99 (show i < 100 by omega) (Nat.le_refl _), xwg_jk, nI_1, eq12 (show (xwg M (w).toNatClampNeg (nI i)).1 ≤ 12 from wk_le), jk_jk]
    intro a' b' _
    by_cases hc : (xwg M (w).toNatClampNeg (nI i)).1 < 12
    · rw [if_pos hc]
      exact ih (i + 1) _ _ _ (by omega) (fun a b => by have := h a b; rw [cntF, if_neg (fun z => z hc)] at this; exact this)
    · rw [if_neg hc]
      exact ih (i + 1) _ _ _ (by omega) (fun a b => by have := h a b; rw [cntF, if_pos hc] at this; exact this)
def pf_X6_gaits : PF := fun args M k => match args with
  | [.ref o, .int w] => (o = 0) ∧ (if hasW M 1 w then ∀ a b, k (.int (cntF (fun g => ¬ (xwg M (w).toNatClampNeg (nI g)).1 < 12) 100 0 0)) (jk M a b) else k (.int (-1000001)) (tellM M 0))
  | _ => False
theorem pe_X6_gaits {o : Nat} {w : Int32} {M : Mem} {k : Value → Mem → Prop} : pf_X6_gaits [.ref o, .int w] M k = ((o = 0) ∧ (if hasW M 1 w then ∀ a b, k (.int (cntF (fun g => ¬ (xwg M (w).toNatClampNeg (nI g)).1 < 12) 100 0 0)) (jk M a b) else k (.int (-1000001)) (tellM M 0))) := rfl
set_option maxRecDepth 100000 in
set_option maxHeartbeats 4000000 in
theorem c_X6_gaits {d : Nat} (hd : 5 ≤ d) {o : Nat} {w : Int32} {M : Mem} {k : Value → Mem → Prop} (h : (o = 0) ∧ (if hasW M 1 w then ∀ a b, k (.int (cntF (fun g => ¬ (xwg M (w).toNatClampNeg (nI g)).1 < 12) 100 0 0)) (jk M a b) else k (.int (-1000001)) (tellM M 0))) : CallP d 71 [.ref o, .int w] M k := by
  obtain ⟨hp, h⟩ := h
  obtain ⟨d, rfl⟩ : ∃ d', d = d' + 1 := ⟨d - 1, by omega⟩
  obtain rfl := hp
  · refine enterV (n := 80) [(2, pf_X0_has), (103, pf_X6_tell)] [22] mI_71 (by decide) (Nat.le_of_ble_eq_true rfl) (T_cons (s_X0_has (by omega)) (T_cons (s_X6_tell (by omega)) T_nil)) ?_
    rw [show lent 4 ([.ref 0, .int w] : List Value) = [.ref 0, .int w, .retAddr 0, .retAddr 0] from rfl]
    simp only [dX6_gaits_0, dX6_gaits_1, dX6_gaits_4, dX6_gaits_5, dX6_gaits_8, dX6_gaits_11, dX6_gaits_12, dX6_gaits_14, dX6_gaits_17, dX6_gaits_18, dX6_gaits_19, dX6_gaits_20, dX6_gaits_21, dX6_gaits_22, dX6_gaits_23, dX6_gaits_25, dX6_gaits_28, dX6_gaits_29, dX6_gaits_30, dX6_gaits_31, dX6_gaits_34, dX6_gaits_36, dX6_gaits_39, dX6_gaits_42, dX6_gaits_45, dX6_gaits_48, dX6_gaits_49, cr_6_173, cr_6_69, cr_6_88, fr_6_12, kr_6_68, skr_6_68, al_10, al_11, al_12, al_13, al_14, al_16, al_17, al_18, al_19, al_2, al_20, al_21, al_23, al_24, al_27, al_28, al_29, al_3, al_30, al_31, al_32, al_34, al_36, al_37, al_38, al_39, al_4, al_40, al_41, al_42, al_43, al_45, al_46, al_47, al_48, al_49, al_5, al_52, al_53, al_54, al_55, al_56, al_57, al_58, al_6, al_60, al_61, al_62, al_63, al_64, al_65, al_66, al_67, al_69, al_7, al_70, al_71, al_72, al_73, al_9, cat_i, cat_l, cat_r, cat_u, gf_5_0_0, pcl_0, pcl_1, pcl_100, pcl_101, pcl_102, pcl_103, pcl_104, pcl_105, pcl_106, pcl_107, pcl_108, pcl_109, pcl_110, pcl_111, pcl_112, pcl_15, pcl_22, pcl_25, pcl_26, pcl_33, pcl_44, pcl_50, pcl_59, pcl_8, rOK_i, rOK_z, v_aload_0, v_bipush_12, v_bipush_99, v_getfield, v_goto, v_ic_gt, v_ic_ne, v_iconst_0, v_if_ne, v_iinc_2, v_iinc_3, v_iload_1, v_iload_2, v_iload_3, v_invv, v_ireturn, v_istore_2, v_istore_3, v_ldc, vcV_2_0, vcV_2_5, vcV_3_5, vgf_i, vgf_r, vgf_s, vld_i, vld_s, vc_d, rr_0, rr_1, csT_h, csT_t, csT_n, bI_0, bI_1, bI_z, bT, List.mem_cons, List.not_mem_nil, List.length_cons, List.length_nil, ite_not, ↓reduceIte, true_and, and_true, not_true_eq_false, not_false_eq_true, false_or, or_false, or_true, true_or, Nat.reduceAdd, Nat.reduceEqDiff, Nat.reduceBEq, Nat.reduceLeDiff, Nat.reduceLT, Nat.reduceSub, Int.reduceAdd, Int.reduceLE, Int.reduceLT, Int.reduceToNat, Int.reduceNeg, Int.reduceNatCast', reduceCtorEq, Int32.reduceOfInt, Int32.reduceOfNat, Int32.reduceToNatClampNeg, Int32.reduceToInt, i10, i01, pe_X0_has, tl_0, tl_1, tl_2, tl_3, tl_4, tl_5, tl_6, BR]
    by_cases h1 : hasW M 1 w
    · rw [if_pos h1] at h ⊢
      have := lp_gaits (d := d) (by omega) (k := k) h1 100 0 0 (M 22) (M 23) rfl h
      rw [jk_self] at this
      exact this
    · rw [if_neg h1] at h ⊢
      exact h

theorem s_X6_gaits {d : Nat} (hd : 5 ≤ d) : Snd d 71 pf_X6_gaits := by
  intro args M k h
  unfold pf_X6_gaits at h
  split at h
  · exact c_X6_gaits hd h
  · exact h.elim
set_option maxRecDepth 100000 in
set_option maxHeartbeats 4000000 in
theorem lp_gaitFor {d : Nat} (hd : 4 ≤ d) {M : Mem} {k : Value → Mem → Prop} {w : Int32} (hw : hasW M 1 w) : ∀ (n i : Nat) (a b : Nat → Int32), i + n = 100 → (∀ a b, if lstF (fun g => ¬ (xwg M (w).toNatClampNeg (nI g)).1 < 12) n i = -1 then k (.int (-1000004)) (tellM (jk M a b) 3) else k (.int (lstF (fun g => ¬ (xwg M (w).toNatClampNeg (nI g)).1 < 12) n i)) (jk M a b)) → WP (6, yX6_gaitFor, cX6_gaitFor, 3, (some .int)) (d + 1) k 20 [.ref 0, .int w, .int (nI i)] [] (jk M a b) := by
  obtain ⟨w1, w2, w3⟩ := hw
  intro n
  induction n with
  | zero =>
    intro i a b hi h
    have : i = 100 := by omega
    subst this
    refine goV (n := 80) [(117, pf_X6_tryGait), (103, pf_X6_tell)] [20] (T_cons (s_X6_tryGait hd) (T_cons (s_X6_tell (by omega)) T_nil)) ?_
    simp only [dX6_gaitFor_0, dX6_gaitFor_1, dX6_gaitFor_4, dX6_gaitFor_5, dX6_gaitFor_8, dX6_gaitFor_11, dX6_gaitFor_12, dX6_gaitFor_14, dX6_gaitFor_17, dX6_gaitFor_18, dX6_gaitFor_19, dX6_gaitFor_20, dX6_gaitFor_21, dX6_gaitFor_23, dX6_gaitFor_26, dX6_gaitFor_27, dX6_gaitFor_28, dX6_gaitFor_29, dX6_gaitFor_32, dX6_gaitFor_34, dX6_gaitFor_37, dX6_gaitFor_38, dX6_gaitFor_39, dX6_gaitFor_42, dX6_gaitFor_45, dX6_gaitFor_46, dX6_gaitFor_48, dX6_gaitFor_51, cr_6_173, cr_6_69, cr_6_88, fr_6_12, kr_6_172, kr_6_68, skr_6_172, skr_6_68, al_10, al_11, al_12, al_13, al_14, al_16, al_17, al_18, al_19, al_2, al_20, al_21, al_23, al_24, al_27, al_28, al_29, al_3, al_30, al_31, al_32, al_34, al_36, al_37, al_38, al_39, al_4, al_40, al_41, al_42, al_43, al_45, al_46, al_47, al_48, al_49, al_5, al_52, al_53, al_54, al_55, al_56, al_57, al_58, al_6, al_60, al_61, al_62, al_63, al_64, al_65, al_66, al_67, al_69, al_7, al_70, al_71, al_72, al_73, al_9, cat_i, cat_l, cat_r, cat_u, gf_5_0_0, pcl_0, pcl_1, pcl_100, pcl_101, pcl_102, pcl_103, pcl_104, pcl_105, pcl_106, pcl_107, pcl_108, pcl_109, pcl_110, pcl_111, pcl_112, pcl_15, pcl_22, pcl_25, pcl_26, pcl_33, pcl_44, pcl_50, pcl_59, pcl_8, rOK_i, rOK_z, v_aload_0, v_bipush_12, v_bipush_99, v_getfield, v_goto, v_ic_gt, v_ic_ne, v_iconst_0, v_if_ne, v_iinc_2, v_iload_1, v_iload_2, v_invv, v_ireturn, v_istore_2, v_ldc, vcV_2_0, vcV_2_5, vcV_3_5, vgf_i, vgf_r, vgf_s, vld_i, vld_s, vc_d, rr_0, rr_1, csT_h, csT_t, csT_n, bI_0, bI_1, bI_z, bT, List.mem_cons, List.not_mem_nil, List.length_cons, List.length_nil, ite_not, ↓reduceIte, true_and, and_true, not_true_eq_false, not_false_eq_true, false_or, or_false, or_true, true_or, Nat.reduceAdd, Nat.reduceEqDiff, Nat.reduceBEq, Nat.reduceLeDiff, Nat.reduceLT, Nat.reduceSub, Int.reduceAdd, Int.reduceLE, Int.reduceLT, Int.reduceToNat, Int.reduceNeg, Int.reduceNatCast', reduceCtorEq, Int32.reduceOfInt, Int32.reduceOfNat, Int32.reduceToNatClampNeg, Int32.reduceToInt, i10, i01, tl_3, show ((99 : Int32) < nI 100) = True from by decide]
    have := h a b
    rw [lstF, if_pos rfl] at this
    exact this
  | succ n ih =>
    intro i a b hi h
    refine goV (n := 80) [(117, pf_X6_tryGait), (103, pf_X6_tell)] [20] (T_cons (s_X6_tryGait hd) (T_cons (s_X6_tell (by omega)) T_nil)) ?_
    simp only [dX6_gaitFor_0, dX6_gaitFor_1, dX6_gaitFor_4, dX6_gaitFor_5, dX6_gaitFor_8, dX6_gaitFor_11, dX6_gaitFor_12, dX6_gaitFor_14, dX6_gaitFor_17, dX6_gaitFor_18, dX6_gaitFor_19, dX6_gaitFor_20, dX6_gaitFor_21, dX6_gaitFor_23, dX6_gaitFor_26, dX6_gaitFor_27, dX6_gaitFor_28, dX6_gaitFor_29, dX6_gaitFor_32, dX6_gaitFor_34, dX6_gaitFor_37, dX6_gaitFor_38, dX6_gaitFor_39, dX6_gaitFor_42, dX6_gaitFor_45, dX6_gaitFor_46, dX6_gaitFor_48, dX6_gaitFor_51, cr_6_173, cr_6_69, cr_6_88, fr_6_12, kr_6_172, kr_6_68, skr_6_172, skr_6_68, al_10, al_11, al_12, al_13, al_14, al_16, al_17, al_18, al_19, al_2, al_20, al_21, al_23, al_24, al_27, al_28, al_29, al_3, al_30, al_31, al_32, al_34, al_36, al_37, al_38, al_39, al_4, al_40, al_41, al_42, al_43, al_45, al_46, al_47, al_48, al_49, al_5, al_52, al_53, al_54, al_55, al_56, al_57, al_58, al_6, al_60, al_61, al_62, al_63, al_64, al_65, al_66, al_67, al_69, al_7, al_70, al_71, al_72, al_73, al_9, cat_i, cat_l, cat_r, cat_u, gf_5_0_0, pcl_0, pcl_1, pcl_100, pcl_101, pcl_102, pcl_103, pcl_104, pcl_105, pcl_106, pcl_107, pcl_108, pcl_109, pcl_110, pcl_111, pcl_112, pcl_15, pcl_22, pcl_25, pcl_26, pcl_33, pcl_44, pcl_50, pcl_59, pcl_8, rOK_i, rOK_z, v_aload_0, v_bipush_12, v_bipush_99, v_getfield, v_goto, v_ic_gt, v_ic_ne, v_iconst_0, v_if_ne, v_iinc_2, v_iload_1, v_iload_2, v_invv, v_ireturn, v_istore_2, v_ldc, vcV_2_0, vcV_2_5, vcV_3_5, vgf_i, vgf_r, vgf_s, vld_i, vld_s, vc_d, rr_0, rr_1, csT_h, csT_t, csT_n, bI_0, bI_1, bI_z, bT, List.mem_cons, List.not_mem_nil, List.length_cons, List.length_nil, ite_not, ↓reduceIte, true_and, and_true, not_true_eq_false, not_false_eq_true, false_or, or_false, or_true, true_or, Nat.reduceAdd, Nat.reduceEqDiff, Nat.reduceBEq, Nat.reduceLeDiff, Nat.reduceLT, Nat.reduceSub, Int.reduceAdd, Int.reduceLE, Int.reduceLT, Int.reduceToNat, Int.reduceNeg, Int.reduceNatCast', reduceCtorEq, Int32.reduceOfInt, Int32.reduceOfNat, Int32.reduceToNatClampNeg, Int32.reduceToInt, i10, i01, pe_X6_tryGait, jk_n, w1, w2, w3, hasW, gt99 (show i < 100 by omega) (Nat.le_refl _), xwg_jk, nI_1, eq12 (show (xwg M (w).toNatClampNeg (nI i)).1 ≤ 12 from wk_le), jk_jk]
    intro a' b' _
    by_cases hc : (xwg M (w).toNatClampNeg (nI i)).1 < 12
    · rw [if_pos hc]
      exact ih (i + 1) _ _ (by omega) (fun a b => by have := h a b; rw [lstF, if_neg (show ¬ ¬ (xwg M (w).toNatClampNeg (nI i)).1 < 12 from fun z => z hc)] at this; exact this)
    · rw [if_neg hc]
      have := h a' b'
      rw [lstF, if_pos hc, if_neg (fun z => absurd (z ▸ nI_pos' (n := i) (by omega)) (by decide))] at this
      exact this
def pf_X6_gaitFor : PF := fun args M k => match args with
  | [.ref o, .int w] => (o = 0) ∧ (if hasW M 1 w then (∀ a b, if lstF (fun g => ¬ (xwg M (w).toNatClampNeg (nI g)).1 < 12) 100 0 = -1 then k (.int (-1000004)) (tellM (jk M a b) 3) else k (.int (lstF (fun g => ¬ (xwg M (w).toNatClampNeg (nI g)).1 < 12) 100 0)) (jk M a b)) else k (.int (-1000001)) (tellM M 0))
  | _ => False
theorem pe_X6_gaitFor {o : Nat} {w : Int32} {M : Mem} {k : Value → Mem → Prop} : pf_X6_gaitFor [.ref o, .int w] M k = ((o = 0) ∧ (if hasW M 1 w then (∀ a b, if lstF (fun g => ¬ (xwg M (w).toNatClampNeg (nI g)).1 < 12) 100 0 = -1 then k (.int (-1000004)) (tellM (jk M a b) 3) else k (.int (lstF (fun g => ¬ (xwg M (w).toNatClampNeg (nI g)).1 < 12) 100 0)) (jk M a b)) else k (.int (-1000001)) (tellM M 0))) := rfl
set_option maxRecDepth 100000 in
set_option maxHeartbeats 4000000 in
theorem c_X6_gaitFor {d : Nat} (hd : 5 ≤ d) {o : Nat} {w : Int32} {M : Mem} {k : Value → Mem → Prop} (h : (o = 0) ∧ (if hasW M 1 w then (∀ a b, if lstF (fun g => ¬ (xwg M (w).toNatClampNeg (nI g)).1 < 12) 100 0 = -1 then k (.int (-1000004)) (tellM (jk M a b) 3) else k (.int (lstF (fun g => ¬ (xwg M (w).toNatClampNeg (nI g)).1 < 12) 100 0)) (jk M a b)) else k (.int (-1000001)) (tellM M 0))) : CallP d 72 [.ref o, .int w] M k := by
  obtain ⟨hp, h⟩ := h
  obtain ⟨d, rfl⟩ : ∃ d', d = d' + 1 := ⟨d - 1, by omega⟩
  obtain rfl := hp
  · refine enterV (n := 80) [(2, pf_X0_has), (103, pf_X6_tell)] [20] mI_72 (by decide) (Nat.le_of_ble_eq_true rfl) (T_cons (s_X0_has (by omega)) (T_cons (s_X6_tell (by omega)) T_nil)) ?_
    rw [show lent 3 ([.ref 0, .int w] : List Value) = [.ref 0, .int w, .retAddr 0] from rfl]
    simp only [dX6_gaitFor_0, dX6_gaitFor_1, dX6_gaitFor_4, dX6_gaitFor_5, dX6_gaitFor_8, dX6_gaitFor_11, dX6_gaitFor_12, dX6_gaitFor_14, dX6_gaitFor_17, dX6_gaitFor_18, dX6_gaitFor_19, dX6_gaitFor_20, dX6_gaitFor_21, dX6_gaitFor_23, dX6_gaitFor_26, dX6_gaitFor_27, dX6_gaitFor_28, dX6_gaitFor_29, dX6_gaitFor_32, dX6_gaitFor_34, dX6_gaitFor_37, dX6_gaitFor_38, dX6_gaitFor_39, dX6_gaitFor_42, dX6_gaitFor_45, dX6_gaitFor_46, dX6_gaitFor_48, dX6_gaitFor_51, cr_6_173, cr_6_69, cr_6_88, fr_6_12, kr_6_172, kr_6_68, skr_6_172, skr_6_68, al_10, al_11, al_12, al_13, al_14, al_16, al_17, al_18, al_19, al_2, al_20, al_21, al_23, al_24, al_27, al_28, al_29, al_3, al_30, al_31, al_32, al_34, al_36, al_37, al_38, al_39, al_4, al_40, al_41, al_42, al_43, al_45, al_46, al_47, al_48, al_49, al_5, al_52, al_53, al_54, al_55, al_56, al_57, al_58, al_6, al_60, al_61, al_62, al_63, al_64, al_65, al_66, al_67, al_69, al_7, al_70, al_71, al_72, al_73, al_9, cat_i, cat_l, cat_r, cat_u, gf_5_0_0, pcl_0, pcl_1, pcl_100, pcl_101, pcl_102, pcl_103, pcl_104, pcl_105, pcl_106, pcl_107, pcl_108, pcl_109, pcl_110, pcl_111, pcl_112, pcl_15, pcl_22, pcl_25, pcl_26, pcl_33, pcl_44, pcl_50, pcl_59, pcl_8, rOK_i, rOK_z, v_aload_0, v_bipush_12, v_bipush_99, v_getfield, v_goto, v_ic_gt, v_ic_ne, v_iconst_0, v_if_ne, v_iinc_2, v_iload_1, v_iload_2, v_invv, v_ireturn, v_istore_2, v_ldc, vcV_2_0, vcV_2_5, vcV_3_5, vgf_i, vgf_r, vgf_s, vld_i, vld_s, vc_d, rr_0, rr_1, csT_h, csT_t, csT_n, bI_0, bI_1, bI_z, bT, List.mem_cons, List.not_mem_nil, List.length_cons, List.length_nil, ite_not, ↓reduceIte, true_and, and_true, not_true_eq_false, not_false_eq_true, false_or, or_false, or_true, true_or, Nat.reduceAdd, Nat.reduceEqDiff, Nat.reduceBEq, Nat.reduceLeDiff, Nat.reduceLT, Nat.reduceSub, Int.reduceAdd, Int.reduceLE, Int.reduceLT, Int.reduceToNat, Int.reduceNeg, Int.reduceNatCast', reduceCtorEq, Int32.reduceOfInt, Int32.reduceOfNat, Int32.reduceToNatClampNeg, Int32.reduceToInt, i10, i01, pe_X0_has, tl_0, tl_1, tl_2, tl_3, tl_4, tl_5, tl_6, BR]
    by_cases h1 : hasW M 1 w
    · rw [if_pos h1] at h ⊢
      have := lp_gaitFor (d := d) (by omega) (k := k) h1 100 0 (M 22) (M 23) rfl h
      rw [jk_self] at this
      exact this
    · rw [if_neg h1] at h ⊢
      exact h

theorem s_X6_gaitFor {d : Nat} (hd : 5 ≤ d) : Snd d 72 pf_X6_gaitFor := by
  intro args M k h
  unfold pf_X6_gaitFor at h
  split at h
  · exact c_X6_gaitFor hd h
  · exact h.elim
/-- walker i crosses with another balance; as another kind -/
def xwb (M : Mem) (i : Nat) (bl : Int32) : Nat × Int32 × (Nat → Int32) := wk (M 3 i) bl (M 1 7) (M 4 i) (M 2)
def xwk (M : Mem) (i : Nat) (kd : Int32) : Nat × Int32 × (Nat → Int32) := wk kd (M 5 i) (M 1 7) (M 4 i) (M 2)
set_option maxRecDepth 100000 in
set_option maxHeartbeats 4000000 in
theorem lp_balanceFor {d : Nat} (hd : 4 ≤ d) {M : Mem} {k : Value → Mem → Prop} {w : Int32} (hw : hasW M 1 w) : ∀ (n i : Nat) (a b : Nat → Int32), i + n = 100 → (∀ a b, if lstF (fun g => ¬ (xwb M (w).toNatClampNeg (nI g)).1 < 12) n i = -1 then k (.int (-1000004)) (tellM (jk M a b) 3) else k (.int (lstF (fun g => ¬ (xwb M (w).toNatClampNeg (nI g)).1 < 12) n i)) (jk M a b)) → WP (6, yX6_balanceFor, cX6_balanceFor, 3, (some .int)) (d + 1) k 20 [.ref 0, .int w, .int (nI i)] [] (jk M a b) := by
  obtain ⟨w1, w2, w3⟩ := hw
  intro n
  induction n with
  | zero =>
    intro i a b hi h
    have : i = 100 := by omega
    subst this
    refine goV (n := 80) [(115, pf_X6_prepare), (54, pf_X5_go), (103, pf_X6_tell)] [20] (T_cons (s_X6_prepare (by omega)) (T_cons (s_X5_go (by omega)) (T_cons (s_X6_tell (by omega)) T_nil))) ?_
    simp only [dX6_balanceFor_0, dX6_balanceFor_1, dX6_balanceFor_4, dX6_balanceFor_5, dX6_balanceFor_8, dX6_balanceFor_11, dX6_balanceFor_12, dX6_balanceFor_14, dX6_balanceFor_17, dX6_balanceFor_18, dX6_balanceFor_19, dX6_balanceFor_20, dX6_balanceFor_21, dX6_balanceFor_23, dX6_balanceFor_26, dX6_balanceFor_27, dX6_balanceFor_28, dX6_balanceFor_31, dX6_balanceFor_32, dX6_balanceFor_35, dX6_balanceFor_36, dX6_balanceFor_39, dX6_balanceFor_40, dX6_balanceFor_43, dX6_balanceFor_44, dX6_balanceFor_47, dX6_balanceFor_50, dX6_balanceFor_53, dX6_balanceFor_55, dX6_balanceFor_58, dX6_balanceFor_59, dX6_balanceFor_60, dX6_balanceFor_63, dX6_balanceFor_66, dX6_balanceFor_67, dX6_balanceFor_69, dX6_balanceFor_72, cr_6_161, cr_6_165, cr_6_69, cr_6_88, fr_6_12, fr_6_154, fr_6_169, fr_6_25, kr_6_172, kr_6_68, skr_6_172, skr_6_68, al_10, al_11, al_12, al_13, al_14, al_16, al_17, al_18, al_19, al_2, al_20, al_21, al_23, al_24, al_27, al_28, al_29, al_3, al_30, al_31, al_32, al_34, al_36, al_37, al_38, al_39, al_4, al_40, al_41, al_42, al_43, al_45, al_46, al_47, al_48, al_49, al_5, al_52, al_53, al_54, al_55, al_56, al_57, al_58, al_6, al_60, al_61, al_62, al_63, al_64, al_65, al_66, al_67, al_69, al_7, al_70, al_71, al_72, al_73, al_9, cat_i, cat_l, cat_r, cat_u, gf_4_0_22, gf_4_0_33, gf_4_3_22, gf_4_3_33, gf_5_0_0, gf_5_3_0, pcl_0, pcl_1, pcl_100, pcl_101, pcl_102, pcl_103, pcl_104, pcl_105, pcl_106, pcl_107, pcl_108, pcl_109, pcl_110, pcl_111, pcl_112, pcl_15, pcl_22, pcl_25, pcl_26, pcl_33, pcl_44, pcl_50, pcl_59, pcl_8, pft_4_3, rOK_i, rOK_z, v_aload_0, v_bipush_12, v_bipush_99, v_getfield, v_goto, v_ic_gt, v_ic_ne, v_iconst_0, v_if_ne, v_iinc_2, v_iload_1, v_iload_2, v_invv, v_ireturn, v_istore_2, v_ldc, v_putfield, vcV_2_0, vcV_2_4, vcV_2_5, vgf_i, vgf_r, vgf_s, vld_i, vld_s, vpf_s, vc_d, rr_0, rr_1, csT_h, csT_t, csT_n, bI_0, bI_1, bI_z, bT, List.mem_cons, List.not_mem_nil, List.length_cons, List.length_nil, ite_not, ↓reduceIte, true_and, and_true, not_true_eq_false, not_false_eq_true, false_or, or_false, or_true, true_or, Nat.reduceAdd, Nat.reduceEqDiff, Nat.reduceBEq, Nat.reduceLeDiff, Nat.reduceLT, Nat.reduceSub, Int.reduceAdd, Int.reduceLE, Int.reduceLT, Int.reduceToNat, Int.reduceNeg, Int.reduceNatCast', reduceCtorEq, Int32.reduceOfInt, Int32.reduceOfNat, Int32.reduceToNatClampNeg, Int32.reduceToInt, i10, i01, tl_3, show ((99 : Int32) < nI 100) = True from by decide]
    have := h a b
    rw [lstF, if_pos rfl] at this
    exact this
  | succ n ih =>
    intro i a b hi h
    refine goV (n := 80) [(115, pf_X6_prepare), (54, pf_X5_go), (103, pf_X6_tell)] [20] (T_cons (s_X6_prepare (by omega)) (T_cons (s_X5_go (by omega)) (T_cons (s_X6_tell (by omega)) T_nil))) ?_
    simp only [dX6_balanceFor_0, dX6_balanceFor_1, dX6_balanceFor_4, dX6_balanceFor_5, dX6_balanceFor_8, dX6_balanceFor_11, dX6_balanceFor_12, dX6_balanceFor_14, dX6_balanceFor_17, dX6_balanceFor_18, dX6_balanceFor_19, dX6_balanceFor_20, dX6_balanceFor_21, dX6_balanceFor_23, dX6_balanceFor_26, dX6_balanceFor_27, dX6_balanceFor_28, dX6_balanceFor_31, dX6_balanceFor_32, dX6_balanceFor_35, dX6_balanceFor_36, dX6_balanceFor_39, dX6_balanceFor_40, dX6_balanceFor_43, dX6_balanceFor_44, dX6_balanceFor_47, dX6_balanceFor_50, dX6_balanceFor_53, dX6_balanceFor_55, dX6_balanceFor_58, dX6_balanceFor_59, dX6_balanceFor_60, dX6_balanceFor_63, dX6_balanceFor_66, dX6_balanceFor_67, dX6_balanceFor_69, dX6_balanceFor_72, cr_6_161, cr_6_165, cr_6_69, cr_6_88, fr_6_12, fr_6_154, fr_6_169, fr_6_25, kr_6_172, kr_6_68, skr_6_172, skr_6_68, al_10, al_11, al_12, al_13, al_14, al_16, al_17, al_18, al_19, al_2, al_20, al_21, al_23, al_24, al_27, al_28, al_29, al_3, al_30, al_31, al_32, al_34, al_36, al_37, al_38, al_39, al_4, al_40, al_41, al_42, al_43, al_45, al_46, al_47, al_48, al_49, al_5, al_52, al_53, al_54, al_55, al_56, al_57, al_58, al_6, al_60, al_61, al_62, al_63, al_64, al_65, al_66, al_67, al_69, al_7, al_70, al_71, al_72, al_73, al_9, cat_i, cat_l, cat_r, cat_u, gf_4_0_22, gf_4_0_33, gf_4_3_22, gf_4_3_33, gf_5_0_0, gf_5_3_0, pcl_0, pcl_1, pcl_100, pcl_101, pcl_102, pcl_103, pcl_104, pcl_105, pcl_106, pcl_107, pcl_108, pcl_109, pcl_110, pcl_111, pcl_112, pcl_15, pcl_22, pcl_25, pcl_26, pcl_33, pcl_44, pcl_50, pcl_59, pcl_8, pft_4_3, rOK_i, rOK_z, v_aload_0, v_bipush_12, v_bipush_99, v_getfield, v_goto, v_ic_gt, v_ic_ne, v_iconst_0, v_if_ne, v_iinc_2, v_iload_1, v_iload_2, v_invv, v_ireturn, v_istore_2, v_ldc, v_putfield, vcV_2_0, vcV_2_4, vcV_2_5, vgf_i, vgf_r, vgf_s, vld_i, vld_s, vpf_s, vc_d, rr_0, rr_1, csT_h, csT_t, csT_n, bI_0, bI_1, bI_z, bT, List.mem_cons, List.not_mem_nil, List.length_cons, List.length_nil, ite_not, ↓reduceIte, true_and, and_true, not_true_eq_false, not_false_eq_true, false_or, or_false, or_true, true_or, Nat.reduceAdd, Nat.reduceEqDiff, Nat.reduceBEq, Nat.reduceLeDiff, Nat.reduceLT, Nat.reduceSub, Int.reduceAdd, Int.reduceLE, Int.reduceLT, Int.reduceToNat, Int.reduceNeg, Int.reduceNatCast', reduceCtorEq, Int32.reduceOfInt, Int32.reduceOfNat, Int32.reduceToNatClampNeg, Int32.reduceToInt, i10, i01, pe_X6_prepare, pe_X5_go, jk_n, w1, w2, w3, hasW, gt99 (show i < 100 by omega) (Nat.le_refl _), nI_1, jk_jk]
    intro a' b' ⟨a1, a2, a3, a4⟩ hb
    rw [jk_n (by decide) (by decide)] at a1 a2 a4
    have e0 : mset (jk M a' b') 22 3 (nI i) = jk M (upd a' 3 (nI i)) b' := by
      unfold mset
      rw [jk_22, jk_m22]
    rw [e0, goM_jk]
    have hr : goR (jk M (upd a' 3 (nI i)) b') 22 23 = goF (M 3 (w).toNatClampNeg) (brs (M 3 (w).toNatClampNeg) (nI i) (M 1 7)) 12 0 (M 4 (w).toNatClampNeg) b' := by
      unfold goR
      rw [jk_22, jk_23, upd_s, upd_n (by decide), upd_n (by decide), upd_n (by decide), a1, a2, a4]
    have e : (goR (jk M (upd a' 3 (nI i)) b') 22 23).1 = (xwb M (w).toNatClampNeg (nI i)).1 := by
      rw [hr]
      exact (goF_congr 12 0 _ _ _ (by decide) hb).1
    rw [e]
    simp only [eq12 (show (xwb M (w).toNatClampNeg (nI i)).1 ≤ 12 from wk_le), ite_not]
    by_cases hc : (xwb M (w).toNatClampNeg (nI i)).1 < 12
    · simp only [hc, if_true]
      exact ih (i + 1) _ _ (by omega) (fun a b => by have := h a b; rw [lstF, if_neg (show ¬ ¬ (xwb M (w).toNatClampNeg (nI i)).1 < 12 from fun z => z hc)] at this; exact this)
    · simp only [hc, if_false]
      have := h (upd (upd a' 3 (nI i)) 2 (goR (jk M (upd a' 3 (nI i)) b') 22 23).2.1) (goR (jk M (upd a' 3 (nI i)) b') 22 23).2.2
      rw [lstF, if_pos hc, if_neg (fun z => absurd (z ▸ nI_pos' (n := i) (by omega)) (by decide))] at this
      exact this
def pf_X6_balanceFor : PF := fun args M k => match args with
  | [.ref o, .int w] => (o = 0) ∧ (if hasW M 1 w then (∀ a b, if lstF (fun g => ¬ (xwb M (w).toNatClampNeg (nI g)).1 < 12) 100 0 = -1 then k (.int (-1000004)) (tellM (jk M a b) 3) else k (.int (lstF (fun g => ¬ (xwb M (w).toNatClampNeg (nI g)).1 < 12) 100 0)) (jk M a b)) else k (.int (-1000001)) (tellM M 0))
  | _ => False
theorem pe_X6_balanceFor {o : Nat} {w : Int32} {M : Mem} {k : Value → Mem → Prop} : pf_X6_balanceFor [.ref o, .int w] M k = ((o = 0) ∧ (if hasW M 1 w then (∀ a b, if lstF (fun g => ¬ (xwb M (w).toNatClampNeg (nI g)).1 < 12) 100 0 = -1 then k (.int (-1000004)) (tellM (jk M a b) 3) else k (.int (lstF (fun g => ¬ (xwb M (w).toNatClampNeg (nI g)).1 < 12) 100 0)) (jk M a b)) else k (.int (-1000001)) (tellM M 0))) := rfl
set_option maxRecDepth 100000 in
set_option maxHeartbeats 4000000 in
theorem c_X6_balanceFor {d : Nat} (hd : 5 ≤ d) {o : Nat} {w : Int32} {M : Mem} {k : Value → Mem → Prop} (h : (o = 0) ∧ (if hasW M 1 w then (∀ a b, if lstF (fun g => ¬ (xwb M (w).toNatClampNeg (nI g)).1 < 12) 100 0 = -1 then k (.int (-1000004)) (tellM (jk M a b) 3) else k (.int (lstF (fun g => ¬ (xwb M (w).toNatClampNeg (nI g)).1 < 12) 100 0)) (jk M a b)) else k (.int (-1000001)) (tellM M 0))) : CallP d 70 [.ref o, .int w] M k := by
  obtain ⟨hp, h⟩ := h
  obtain ⟨d, rfl⟩ : ∃ d', d = d' + 1 := ⟨d - 1, by omega⟩
  obtain rfl := hp
  · refine enterV (n := 80) [(2, pf_X0_has), (103, pf_X6_tell)] [20] mI_70 (by decide) (Nat.le_of_ble_eq_true rfl) (T_cons (s_X0_has (by omega)) (T_cons (s_X6_tell (by omega)) T_nil)) ?_
    rw [show lent 3 ([.ref 0, .int w] : List Value) = [.ref 0, .int w, .retAddr 0] from rfl]
    simp only [dX6_balanceFor_0, dX6_balanceFor_1, dX6_balanceFor_4, dX6_balanceFor_5, dX6_balanceFor_8, dX6_balanceFor_11, dX6_balanceFor_12, dX6_balanceFor_14, dX6_balanceFor_17, dX6_balanceFor_18, dX6_balanceFor_19, dX6_balanceFor_20, dX6_balanceFor_21, dX6_balanceFor_23, dX6_balanceFor_26, dX6_balanceFor_27, dX6_balanceFor_28, dX6_balanceFor_31, dX6_balanceFor_32, dX6_balanceFor_35, dX6_balanceFor_36, dX6_balanceFor_39, dX6_balanceFor_40, dX6_balanceFor_43, dX6_balanceFor_44, dX6_balanceFor_47, dX6_balanceFor_50, dX6_balanceFor_53, dX6_balanceFor_55, dX6_balanceFor_58, dX6_balanceFor_59, dX6_balanceFor_60, dX6_balanceFor_63, dX6_balanceFor_66, dX6_balanceFor_67, dX6_balanceFor_69, dX6_balanceFor_72, cr_6_161, cr_6_165, cr_6_69, cr_6_88, fr_6_12, fr_6_154, fr_6_169, fr_6_25, kr_6_172, kr_6_68, skr_6_172, skr_6_68, al_10, al_11, al_12, al_13, al_14, al_16, al_17, al_18, al_19, al_2, al_20, al_21, al_23, al_24, al_27, al_28, al_29, al_3, al_30, al_31, al_32, al_34, al_36, al_37, al_38, al_39, al_4, al_40, al_41, al_42, al_43, al_45, al_46, al_47, al_48, al_49, al_5, al_52, al_53, al_54, al_55, al_56, al_57, al_58, al_6, al_60, al_61, al_62, al_63, al_64, al_65, al_66, al_67, al_69, al_7, al_70, al_71, al_72, al_73, al_9, cat_i, cat_l, cat_r, cat_u, gf_4_0_22, gf_4_0_33, gf_4_3_22, gf_4_3_33, gf_5_0_0, gf_5_3_0, pcl_0, pcl_1, pcl_100, pcl_101, pcl_102, pcl_103, pcl_104, pcl_105, pcl_106, pcl_107, pcl_108, pcl_109, pcl_110, pcl_111, pcl_112, pcl_15, pcl_22, pcl_25, pcl_26, pcl_33, pcl_44, pcl_50, pcl_59, pcl_8, pft_4_3, rOK_i, rOK_z, v_aload_0, v_bipush_12, v_bipush_99, v_getfield, v_goto, v_ic_gt, v_ic_ne, v_iconst_0, v_if_ne, v_iinc_2, v_iload_1, v_iload_2, v_invv, v_ireturn, v_istore_2, v_ldc, v_putfield, vcV_2_0, vcV_2_4, vcV_2_5, vgf_i, vgf_r, vgf_s, vld_i, vld_s, vpf_s, vc_d, rr_0, rr_1, csT_h, csT_t, csT_n, bI_0, bI_1, bI_z, bT, List.mem_cons, List.not_mem_nil, List.length_cons, List.length_nil, ite_not, ↓reduceIte, true_and, and_true, not_true_eq_false, not_false_eq_true, false_or, or_false, or_true, true_or, Nat.reduceAdd, Nat.reduceEqDiff, Nat.reduceBEq, Nat.reduceLeDiff, Nat.reduceLT, Nat.reduceSub, Int.reduceAdd, Int.reduceLE, Int.reduceLT, Int.reduceToNat, Int.reduceNeg, Int.reduceNatCast', reduceCtorEq, Int32.reduceOfInt, Int32.reduceOfNat, Int32.reduceToNatClampNeg, Int32.reduceToInt, i10, i01, pe_X0_has, tl_0, tl_1, tl_2, tl_3, tl_4, tl_5, tl_6, BR]
    by_cases h1 : hasW M 1 w
    · rw [if_pos h1] at h ⊢
      have := lp_balanceFor (d := d) (by omega) (k := k) h1 100 0 (M 22) (M 23) rfl h
      rw [jk_self] at this
      exact this
    · rw [if_neg h1] at h ⊢
      exact h

theorem s_X6_balanceFor {d : Nat} (hd : 5 ≤ d) : Snd d 70 pf_X6_balanceFor := by
  intro args M k h
  unfold pf_X6_balanceFor at h
  split at h
  · exact c_X6_balanceFor hd h
  · exact h.elim
set_option maxRecDepth 100000 in
set_option maxHeartbeats 4000000 in
theorem lp_kindsFor {d : Nat} (hd : 4 ≤ d) {M : Mem} {k : Value → Mem → Prop} {w : Int32} (hw : hasW M 1 w) : ∀ (n i : Nat) (s : Int32) (a b : Nat → Int32), i + n = 7 → (∀ a b, k (.int (stF (fun g => ¬ (xwk M (w).toNatClampNeg (nI g)).1 < 12) n i s)) (jk M a b)) → WP (6, yX6_kindsFor, cX6_kindsFor, 4, (some .int)) (d + 1) k 22 [.ref 0, .int w, .int s, .int (nI i)] [] (jk M a b) := by
  obtain ⟨w1, w2, w3⟩ := hw
  intro n
  induction n with
  | zero =>
    intro i s a b hi h
    have : i = 7 := by omega
    subst this
    refine goV (n := 80) [(115, pf_X6_prepare), (54, pf_X5_go)] [22] (T_cons (s_X6_prepare (by omega)) (T_cons (s_X5_go (by omega)) T_nil)) ?_
    simp only [dX6_kindsFor_0, dX6_kindsFor_1, dX6_kindsFor_4, dX6_kindsFor_5, dX6_kindsFor_8, dX6_kindsFor_11, dX6_kindsFor_12, dX6_kindsFor_14, dX6_kindsFor_17, dX6_kindsFor_18, dX6_kindsFor_19, dX6_kindsFor_20, dX6_kindsFor_21, dX6_kindsFor_22, dX6_kindsFor_23, dX6_kindsFor_25, dX6_kindsFor_28, dX6_kindsFor_29, dX6_kindsFor_30, dX6_kindsFor_33, dX6_kindsFor_34, dX6_kindsFor_37, dX6_kindsFor_38, dX6_kindsFor_41, dX6_kindsFor_42, dX6_kindsFor_45, dX6_kindsFor_46, dX6_kindsFor_49, dX6_kindsFor_52, dX6_kindsFor_55, dX6_kindsFor_57, dX6_kindsFor_60, dX6_kindsFor_61, dX6_kindsFor_62, dX6_kindsFor_63, dX6_kindsFor_64, dX6_kindsFor_65, dX6_kindsFor_66, dX6_kindsFor_69, dX6_kindsFor_72, dX6_kindsFor_73, cr_6_161, cr_6_165, cr_6_69, cr_6_88, fr_6_12, fr_6_154, fr_6_177, fr_6_25, kr_6_68, skr_6_68, al_10, al_11, al_12, al_13, al_14, al_16, al_17, al_18, al_19, al_2, al_20, al_21, al_23, al_24, al_27, al_28, al_29, al_3, al_30, al_31, al_32, al_34, al_36, al_37, al_38, al_39, al_4, al_40, al_41, al_42, al_43, al_45, al_46, al_47, al_48, al_49, al_5, al_52, al_53, al_54, al_55, al_56, al_57, al_58, al_6, al_60, al_61, al_62, al_63, al_64, al_65, al_66, al_67, al_69, al_7, al_70, al_71, al_72, al_73, al_9, cat_i, cat_l, cat_r, cat_u, gf_4_0_22, gf_4_0_33, gf_4_1_22, gf_4_1_33, gf_5_0_0, gf_5_3_0, pcl_0, pcl_1, pcl_100, pcl_101, pcl_102, pcl_103, pcl_104, pcl_105, pcl_106, pcl_107, pcl_108, pcl_109, pcl_110, pcl_111, pcl_112, pcl_15, pcl_22, pcl_25, pcl_26, pcl_33, pcl_44, pcl_50, pcl_59, pcl_8, pft_4_1, rOK_i, rOK_z, v_aload_0, v_bipush_12, v_bipush_6, v_getfield, v_goto, v_ic_gt, v_ic_ne, v_iconst_0, v_iconst_1, v_if_ne, v_iinc_3, v_iload_1, v_iload_2, v_iload_3, v_invv, v_ior, v_ireturn, v_ishl, v_istore_2, v_istore_3, v_ldc, v_putfield, vcV_2_0, vcV_2_4, vcV_2_5, vgf_i, vgf_r, vgf_s, vld_i, vld_s, vpf_s, vc_d, rr_0, rr_1, csT_h, csT_t, csT_n, bI_0, bI_1, bI_z, bT, List.mem_cons, List.not_mem_nil, List.length_cons, List.length_nil, ite_not, ↓reduceIte, true_and, and_true, not_true_eq_false, not_false_eq_true, false_or, or_false, or_true, true_or, Nat.reduceAdd, Nat.reduceEqDiff, Nat.reduceBEq, Nat.reduceLeDiff, Nat.reduceLT, Nat.reduceSub, Int.reduceAdd, Int.reduceLE, Int.reduceLT, Int.reduceToNat, Int.reduceNeg, Int.reduceNatCast', reduceCtorEq, Int32.reduceOfInt, Int32.reduceOfNat, Int32.reduceToNatClampNeg, Int32.reduceToInt, i10, i01, show ((6 : Int32) < nI 7) = True from by decide]
    exact h a b
  | succ n ih =>
    intro i s a b hi h
    refine goV (n := 80) [(115, pf_X6_prepare), (54, pf_X5_go)] [22] (T_cons (s_X6_prepare (by omega)) (T_cons (s_X5_go (by omega)) T_nil)) ?_
    have c1 : ((6 : Int32) < nI i) = False := eq_false (nI_nlt (a := 6) (b := i) (by omega) (by decide))
    simp only [dX6_kindsFor_0, dX6_kindsFor_1, dX6_kindsFor_4, dX6_kindsFor_5, dX6_kindsFor_8, dX6_kindsFor_11, dX6_kindsFor_12, dX6_kindsFor_14, dX6_kindsFor_17, dX6_kindsFor_18, dX6_kindsFor_19, dX6_kindsFor_20, dX6_kindsFor_21, dX6_kindsFor_22, dX6_kindsFor_23, dX6_kindsFor_25, dX6_kindsFor_28, dX6_kindsFor_29, dX6_kindsFor_30, dX6_kindsFor_33, dX6_kindsFor_34, dX6_kindsFor_37, dX6_kindsFor_38, dX6_kindsFor_41, dX6_kindsFor_42, dX6_kindsFor_45, dX6_kindsFor_46, dX6_kindsFor_49, dX6_kindsFor_52, dX6_kindsFor_55, dX6_kindsFor_57, dX6_kindsFor_60, dX6_kindsFor_61, dX6_kindsFor_62, dX6_kindsFor_63, dX6_kindsFor_64, dX6_kindsFor_65, dX6_kindsFor_66, dX6_kindsFor_69, dX6_kindsFor_72, dX6_kindsFor_73, cr_6_161, cr_6_165, cr_6_69, cr_6_88, fr_6_12, fr_6_154, fr_6_177, fr_6_25, kr_6_68, skr_6_68, al_10, al_11, al_12, al_13, al_14, al_16, al_17, al_18, al_19, al_2, al_20, al_21, al_23, al_24, al_27, al_28, al_29, al_3, al_30, al_31, al_32, al_34, al_36, al_37, al_38, al_39, al_4, al_40, al_41, al_42, al_43, al_45, al_46, al_47, al_48, al_49, al_5, al_52, al_53, al_54, al_55, al_56, al_57, al_58, al_6, al_60, al_61, al_62, al_63, al_64, al_65, al_66, al_67, al_69, al_7, al_70, al_71, al_72, al_73, al_9, cat_i, cat_l, cat_r, cat_u, gf_4_0_22, gf_4_0_33, gf_4_1_22, gf_4_1_33, gf_5_0_0, gf_5_3_0, pcl_0, pcl_1, pcl_100, pcl_101, pcl_102, pcl_103, pcl_104, pcl_105, pcl_106, pcl_107, pcl_108, pcl_109, pcl_110, pcl_111, pcl_112, pcl_15, pcl_22, pcl_25, pcl_26, pcl_33, pcl_44, pcl_50, pcl_59, pcl_8, pft_4_1, rOK_i, rOK_z, v_aload_0, v_bipush_12, v_bipush_6, v_getfield, v_goto, v_ic_gt, v_ic_ne, v_iconst_0, v_iconst_1, v_if_ne, v_iinc_3, v_iload_1, v_iload_2, v_iload_3, v_invv, v_ior, v_ireturn, v_ishl, v_istore_2, v_istore_3, v_ldc, v_putfield, vcV_2_0, vcV_2_4, vcV_2_5, vgf_i, vgf_r, vgf_s, vld_i, vld_s, vpf_s, vc_d, rr_0, rr_1, csT_h, csT_t, csT_n, bI_0, bI_1, bI_z, bT, List.mem_cons, List.not_mem_nil, List.length_cons, List.length_nil, ite_not, ↓reduceIte, true_and, and_true, not_true_eq_false, not_false_eq_true, false_or, or_false, or_true, true_or, Nat.reduceAdd, Nat.reduceEqDiff, Nat.reduceBEq, Nat.reduceLeDiff, Nat.reduceLT, Nat.reduceSub, Int.reduceAdd, Int.reduceLE, Int.reduceLT, Int.reduceToNat, Int.reduceNeg, Int.reduceNatCast', reduceCtorEq, Int32.reduceOfInt, Int32.reduceOfNat, Int32.reduceToNatClampNeg, Int32.reduceToInt, i10, i01, pe_X6_prepare, pe_X5_go, jk_n, w1, w2, w3, hasW, c1, nI_1, jk_jk]
    intro a' b' ⟨a1, a2, a3, a4⟩ hb
    rw [jk_n (by decide) (by decide)] at a2 a3 a4
    have e0 : mset (jk M a' b') 22 1 (nI i) = jk M (upd a' 1 (nI i)) b' := by
      unfold mset
      rw [jk_22, jk_m22]
    rw [e0, goM_jk]
    have hr : goR (jk M (upd a' 1 (nI i)) b') 22 23 = goF (nI i) (brs (nI i) (M 5 (w).toNatClampNeg) (M 1 7)) 12 0 (M 4 (w).toNatClampNeg) b' := by
      unfold goR
      rw [jk_22, jk_23, upd_s, upd_n (by decide), upd_n (by decide), upd_n (by decide), a2, a3, a4]
    have e : (goR (jk M (upd a' 1 (nI i)) b') 22 23).1 = (xwk M (w).toNatClampNeg (nI i)).1 := by
      rw [hr]
      exact (goF_congr 12 0 _ _ _ (by decide) hb).1
    rw [e]
    simp only [eq12 (show (xwk M (w).toNatClampNeg (nI i)).1 ≤ 12 from wk_le), ite_not]
    by_cases hc : (xwk M (w).toNatClampNeg (nI i)).1 < 12
    · simp only [hc, if_true]
      exact ih (i + 1) _ _ _ (by omega) (fun a b => by have := h a b; rw [stF, if_neg (fun z => z hc)] at this; exact this)
    · simp only [hc, if_false]
      exact ih (i + 1) _ _ _ (by omega) (fun a b => by have := h a b; rw [stF, if_pos hc] at this; exact this)
def pf_X6_kindsFor : PF := fun args M k => match args with
  | [.ref o, .int w] => (o = 0) ∧ (if hasW M 1 w then ∀ a b, k (.int (stF (fun g => ¬ (xwk M (w).toNatClampNeg (nI g)).1 < 12) 7 0 0)) (jk M a b) else k (.int (-1000001)) (tellM M 0))
  | _ => False
theorem pe_X6_kindsFor {o : Nat} {w : Int32} {M : Mem} {k : Value → Mem → Prop} : pf_X6_kindsFor [.ref o, .int w] M k = ((o = 0) ∧ (if hasW M 1 w then ∀ a b, k (.int (stF (fun g => ¬ (xwk M (w).toNatClampNeg (nI g)).1 < 12) 7 0 0)) (jk M a b) else k (.int (-1000001)) (tellM M 0))) := rfl
set_option maxRecDepth 100000 in
set_option maxHeartbeats 4000000 in
theorem c_X6_kindsFor {d : Nat} (hd : 5 ≤ d) {o : Nat} {w : Int32} {M : Mem} {k : Value → Mem → Prop} (h : (o = 0) ∧ (if hasW M 1 w then ∀ a b, k (.int (stF (fun g => ¬ (xwk M (w).toNatClampNeg (nI g)).1 < 12) 7 0 0)) (jk M a b) else k (.int (-1000001)) (tellM M 0))) : CallP d 73 [.ref o, .int w] M k := by
  obtain ⟨hp, h⟩ := h
  obtain ⟨d, rfl⟩ : ∃ d', d = d' + 1 := ⟨d - 1, by omega⟩
  obtain rfl := hp
  · refine enterV (n := 80) [(2, pf_X0_has), (103, pf_X6_tell)] [22] mI_73 (by decide) (Nat.le_of_ble_eq_true rfl) (T_cons (s_X0_has (by omega)) (T_cons (s_X6_tell (by omega)) T_nil)) ?_
    rw [show lent 4 ([.ref 0, .int w] : List Value) = [.ref 0, .int w, .retAddr 0, .retAddr 0] from rfl]
    simp only [dX6_kindsFor_0, dX6_kindsFor_1, dX6_kindsFor_4, dX6_kindsFor_5, dX6_kindsFor_8, dX6_kindsFor_11, dX6_kindsFor_12, dX6_kindsFor_14, dX6_kindsFor_17, dX6_kindsFor_18, dX6_kindsFor_19, dX6_kindsFor_20, dX6_kindsFor_21, dX6_kindsFor_22, dX6_kindsFor_23, dX6_kindsFor_25, dX6_kindsFor_28, dX6_kindsFor_29, dX6_kindsFor_30, dX6_kindsFor_33, dX6_kindsFor_34, dX6_kindsFor_37, dX6_kindsFor_38, dX6_kindsFor_41, dX6_kindsFor_42, dX6_kindsFor_45, dX6_kindsFor_46, dX6_kindsFor_49, dX6_kindsFor_52, dX6_kindsFor_55, dX6_kindsFor_57, dX6_kindsFor_60, dX6_kindsFor_61, dX6_kindsFor_62, dX6_kindsFor_63, dX6_kindsFor_64, dX6_kindsFor_65, dX6_kindsFor_66, dX6_kindsFor_69, dX6_kindsFor_72, dX6_kindsFor_73, cr_6_161, cr_6_165, cr_6_69, cr_6_88, fr_6_12, fr_6_154, fr_6_177, fr_6_25, kr_6_68, skr_6_68, al_10, al_11, al_12, al_13, al_14, al_16, al_17, al_18, al_19, al_2, al_20, al_21, al_23, al_24, al_27, al_28, al_29, al_3, al_30, al_31, al_32, al_34, al_36, al_37, al_38, al_39, al_4, al_40, al_41, al_42, al_43, al_45, al_46, al_47, al_48, al_49, al_5, al_52, al_53, al_54, al_55, al_56, al_57, al_58, al_6, al_60, al_61, al_62, al_63, al_64, al_65, al_66, al_67, al_69, al_7, al_70, al_71, al_72, al_73, al_9, cat_i, cat_l, cat_r, cat_u, gf_4_0_22, gf_4_0_33, gf_4_1_22, gf_4_1_33, gf_5_0_0, gf_5_3_0, pcl_0, pcl_1, pcl_100, pcl_101, pcl_102, pcl_103, pcl_104, pcl_105, pcl_106, pcl_107, pcl_108, pcl_109, pcl_110, pcl_111, pcl_112, pcl_15, pcl_22, pcl_25, pcl_26, pcl_33, pcl_44, pcl_50, pcl_59, pcl_8, pft_4_1, rOK_i, rOK_z, v_aload_0, v_bipush_12, v_bipush_6, v_getfield, v_goto, v_ic_gt, v_ic_ne, v_iconst_0, v_iconst_1, v_if_ne, v_iinc_3, v_iload_1, v_iload_2, v_iload_3, v_invv, v_ior, v_ireturn, v_ishl, v_istore_2, v_istore_3, v_ldc, v_putfield, vcV_2_0, vcV_2_4, vcV_2_5, vgf_i, vgf_r, vgf_s, vld_i, vld_s, vpf_s, vc_d, rr_0, rr_1, csT_h, csT_t, csT_n, bI_0, bI_1, bI_z, bT, List.mem_cons, List.not_mem_nil, List.length_cons, List.length_nil, ite_not, ↓reduceIte, true_and, and_true, not_true_eq_false, not_false_eq_true, false_or, or_false, or_true, true_or, Nat.reduceAdd, Nat.reduceEqDiff, Nat.reduceBEq, Nat.reduceLeDiff, Nat.reduceLT, Nat.reduceSub, Int.reduceAdd, Int.reduceLE, Int.reduceLT, Int.reduceToNat, Int.reduceNeg, Int.reduceNatCast', reduceCtorEq, Int32.reduceOfInt, Int32.reduceOfNat, Int32.reduceToNatClampNeg, Int32.reduceToInt, i10, i01, pe_X0_has, tl_0, tl_1, tl_2, tl_3, tl_4, tl_5, tl_6, BR]
    by_cases h1 : hasW M 1 w
    · rw [if_pos h1] at h ⊢
      have := lp_kindsFor (d := d) (by omega) (k := k) h1 7 0 0 (M 22) (M 23) rfl h
      rw [jk_self] at this
      exact this
    · rw [if_neg h1] at h ⊢
      exact h

theorem s_X6_kindsFor {d : Nat} (hd : 5 ≤ d) : Snd d 73 pf_X6_kindsFor := by
  intro args M k h
  unfold pf_X6_kindsFor at h
  split at h
  · exact c_X6_kindsFor hd h
  · exact h.elim
