/-! X: still more loops -/
/-- how often one can cross, again and again -/
def ofF (kd bs : Int32) : Nat → Nat → Int32 → (Nat → Int32) → Nat
  | 0, i, _, _ => i
  | n + 1, i, g, r => if (goF kd bs 12 0 g r).1 < 12 then i else ofF kd bs n (i + 1) (goF kd bs 12 0 g r).2.1 (goF kd bs 12 0 g r).2.2
set_option maxRecDepth 100000 in
set_option maxHeartbeats 4000000 in
theorem lp_often {d : Nat} (hd : 2 ≤ d) {M : Mem} {k : Value → Mem → Prop} {w kd bl nt : Int32} : ∀ (n i : Nat) (g : Int32) (r a b : Nat → Int32), i + n = 60 → a 1 = kd → a 2 = g → a 3 = bl → a 4 = nt → (∀ j, j < 12 → b j = r j) → (∀ a b, k (.int (nI (ofF kd (brs kd bl nt) n i g r))) (jk M a b)) → WP (6, yX6_often, cX6_often, 3, (some .int)) (d + 1) k 25 [.ref 0, .int w, .int (nI i)] [] (jk M a b) := by
  intro n
  induction n with
  | zero =>
    intro i g r a b hi _ _ _ _ _ h
    have : i = 60 := by omega
    subst this
    refine goV (n := 80) [(54, pf_X5_go)] [25] (T_cons (s_X5_go hd) T_nil) ?_
    simp only [dX6_often_0, dX6_often_1, dX6_often_4, dX6_often_5, dX6_often_8, dX6_often_11, dX6_often_12, dX6_often_14, dX6_often_17, dX6_often_18, dX6_often_19, dX6_often_20, dX6_often_23, dX6_often_24, dX6_often_25, dX6_often_26, dX6_often_28, dX6_often_31, dX6_often_32, dX6_often_35, dX6_often_36, dX6_often_39, dX6_often_42, dX6_often_45, dX6_often_47, dX6_often_50, dX6_often_53, dX6_often_56, dX6_often_57, cr_6_161, cr_6_165, cr_6_69, cr_6_88, fr_6_12, fr_6_154, fr_6_25, kr_6_68, skr_6_68, al_10, al_11, al_12, al_13, al_14, al_16, al_17, al_18, al_19, al_2, al_20, al_21, al_23, al_24, al_27, al_28, al_29, al_3, al_30, al_31, al_32, al_34, al_36, al_37, al_38, al_39, al_4, al_40, al_41, al_42, al_43, al_45, al_46, al_47, al_48, al_49, al_5, al_52, al_53, al_54, al_55, al_56, al_57, al_58, al_6, al_60, al_61, al_62, al_63, al_64, al_65, al_66, al_67, al_69, al_7, al_70, al_71, al_72, al_73, al_9, cat_i, cat_l, cat_r, cat_u, gf_4_0_22, gf_4_0_33, gf_5_0_0, gf_5_3_0, pcl_0, pcl_1, pcl_100, pcl_101, pcl_102, pcl_103, pcl_104, pcl_105, pcl_106, pcl_107, pcl_108, pcl_109, pcl_110, pcl_111, pcl_112, pcl_15, pcl_22, pcl_25, pcl_26, pcl_33, pcl_44, pcl_50, pcl_59, pcl_8, rOK_i, rOK_z, v_aload_0, v_bipush_12, v_bipush_60, v_getfield, v_goto, v_ic_ge, v_ic_ne, v_iconst_0, v_if_ne, v_iinc_2, v_iload_1, v_iload_2, v_invv, v_ireturn, v_istore_2, v_ldc, vcV_2_0, vcV_2_4, vcV_2_5, vgf_i, vgf_r, vgf_s, vld_i, vld_s, vc_d, rr_0, rr_1, csT_h, csT_t, csT_n, bI_0, bI_1, bI_z, bT, List.mem_cons, List.not_mem_nil, List.length_cons, List.length_nil, ite_not, ↓reduceIte, true_and, and_true, not_true_eq_false, not_false_eq_true, false_or, or_false, or_true, true_or, Nat.reduceAdd, Nat.reduceEqDiff, Nat.reduceBEq, Nat.reduceLeDiff, Nat.reduceLT, Nat.reduceSub, Int.reduceAdd, Int.reduceLE, Int.reduceLT, Int.reduceToNat, Int.reduceNeg, Int.reduceNatCast', reduceCtorEq, Int32.reduceOfInt, Int32.reduceOfNat, Int32.reduceToNatClampNeg, Int32.reduceToInt, i10, i01, show ((60 : Int32) ≤ nI 60) = True from by decide]
    exact h a b
  | succ n ih =>
    intro i g r a b hi a1 a2 a3 a4 hb h
    have c1 : ¬ (60 : Int32) ≤ nI i := nI_ge (b := 60) (by omega) (by decide)
    have hc := goF_congr (kd := kd) (bs := brs kd bl nt) 12 0 g b r (by decide) hb
    have hr : goR (jk M a b) 22 23 = goF kd (brs kd bl nt) 12 0 g b := by
      unfold goR
      rw [jk_22, jk_23, a1, a2, a3, a4]
    refine goV (n := 80) [(54, pf_X5_go)] [25] (T_cons (s_X5_go hd) T_nil) ?_
    simp only [dX6_often_0, dX6_often_1, dX6_often_4, dX6_often_5, dX6_often_8, dX6_often_11, dX6_often_12, dX6_often_14, dX6_often_17, dX6_often_18, dX6_often_19, dX6_often_20, dX6_often_23, dX6_often_24, dX6_often_25, dX6_often_26, dX6_often_28, dX6_often_31, dX6_often_32, dX6_often_35, dX6_often_36, dX6_often_39, dX6_often_42, dX6_often_45, dX6_often_47, dX6_often_50, dX6_often_53, dX6_often_56, dX6_often_57, cr_6_161, cr_6_165, cr_6_69, cr_6_88, fr_6_12, fr_6_154, fr_6_25, kr_6_68, skr_6_68, al_10, al_11, al_12, al_13, al_14, al_16, al_17, al_18, al_19, al_2, al_20, al_21, al_23, al_24, al_27, al_28, al_29, al_3, al_30, al_31, al_32, al_34, al_36, al_37, al_38, al_39, al_4, al_40, al_41, al_42, al_43, al_45, al_46, al_47, al_48, al_49, al_5, al_52, al_53, al_54, al_55, al_56, al_57, al_58, al_6, al_60, al_61, al_62, al_63, al_64, al_65, al_66, al_67, al_69, al_7, al_70, al_71, al_72, al_73, al_9, cat_i, cat_l, cat_r, cat_u, gf_4_0_22, gf_4_0_33, gf_5_0_0, gf_5_3_0, pcl_0, pcl_1, pcl_100, pcl_101, pcl_102, pcl_103, pcl_104, pcl_105, pcl_106, pcl_107, pcl_108, pcl_109, pcl_110, pcl_111, pcl_112, pcl_15, pcl_22, pcl_25, pcl_26, pcl_33, pcl_44, pcl_50, pcl_59, pcl_8, rOK_i, rOK_z, v_aload_0, v_bipush_12, v_bipush_60, v_getfield, v_goto, v_ic_ge, v_ic_ne, v_iconst_0, v_if_ne, v_iinc_2, v_iload_1, v_iload_2, v_invv, v_ireturn, v_istore_2, v_ldc, vcV_2_0, vcV_2_4, vcV_2_5, vgf_i, vgf_r, vgf_s, vld_i, vld_s, vc_d, rr_0, rr_1, csT_h, csT_t, csT_n, bI_0, bI_1, bI_z, bT, List.mem_cons, List.not_mem_nil, List.length_cons, List.length_nil, ite_not, ↓reduceIte, true_and, and_true, not_true_eq_false, not_false_eq_true, false_or, or_false, or_true, true_or, Nat.reduceAdd, Nat.reduceEqDiff, Nat.reduceBEq, Nat.reduceLeDiff, Nat.reduceLT, Nat.reduceSub, Int.reduceAdd, Int.reduceLE, Int.reduceLT, Int.reduceToNat, Int.reduceNeg, Int.reduceNatCast', reduceCtorEq, Int32.reduceOfInt, Int32.reduceOfNat, Int32.reduceToNatClampNeg, Int32.reduceToInt, i10, i01, pe_X5_go, c1, nI_1, goM_jk, eq12 (show (goR (jk M a b) 22 23).1 ≤ 12 from goF_le 12 0 _ _)]
    rw [hr]
    by_cases hlt : (goF kd (brs kd bl nt) 12 0 g b).1 < 12
    · rw [if_pos hlt]
      have hlt2 : (goF kd (brs kd bl nt) 12 0 g r).1 < 12 := by rw [← hc.1]; exact hlt
      have := h (upd a 2 (if (goF kd (brs kd bl nt) 12 0 g b).1 < 12 then a 2 else (goF kd (brs kd bl nt) 12 0 g b).2.1)) (goF kd (brs kd bl nt) 12 0 g b).2.2
      rw [ofF, if_pos hlt2] at this
      exact this
    · rw [if_neg hlt]
      have hlt2 : ¬ (goF kd (brs kd bl nt) 12 0 g r).1 < 12 := by rw [← hc.1]; exact hlt
      refine ih (i + 1) (goF kd (brs kd bl nt) 12 0 g r).2.1 (goF kd (brs kd bl nt) 12 0 g r).2.2 _ _ (by omega) ?_ ?_ ?_ ?_ hc.2.2 (fun a b => by have := h a b; rw [ofF, if_neg hlt2] at this; exact this)
      · rw [upd_n (by decide)]; exact a1
      · rw [upd_s, if_neg hlt]; exact hc.2.1
      · rw [upd_n (by decide)]; exact a3
      · rw [upd_n (by decide)]; exact a4
def pf_X6_often : PF := fun args M k => match args with
  | [.ref o, .int w] => (o = 0) ∧ (if hasW M 1 w then ∀ a b, k (.int (nI (ofF (M 3 (w).toNatClampNeg) (brs (M 3 (w).toNatClampNeg) (M 5 (w).toNatClampNeg) (M 1 7)) 60 0 (M 4 (w).toNatClampNeg) (M 2)))) (jk M a b) else k (.int (-1000001)) (tellM M 0))
  | _ => False
theorem pe_X6_often {o : Nat} {w : Int32} {M : Mem} {k : Value → Mem → Prop} : pf_X6_often [.ref o, .int w] M k = ((o = 0) ∧ (if hasW M 1 w then ∀ a b, k (.int (nI (ofF (M 3 (w).toNatClampNeg) (brs (M 3 (w).toNatClampNeg) (M 5 (w).toNatClampNeg) (M 1 7)) 60 0 (M 4 (w).toNatClampNeg) (M 2)))) (jk M a b) else k (.int (-1000001)) (tellM M 0))) := rfl
set_option maxRecDepth 100000 in
set_option maxHeartbeats 4000000 in
theorem c_X6_often {d : Nat} (hd : 5 ≤ d) {o : Nat} {w : Int32} {M : Mem} {k : Value → Mem → Prop} (h : (o = 0) ∧ (if hasW M 1 w then ∀ a b, k (.int (nI (ofF (M 3 (w).toNatClampNeg) (brs (M 3 (w).toNatClampNeg) (M 5 (w).toNatClampNeg) (M 1 7)) 60 0 (M 4 (w).toNatClampNeg) (M 2)))) (jk M a b) else k (.int (-1000001)) (tellM M 0))) : CallP d 69 [.ref o, .int w] M k := by
  obtain ⟨hp, h⟩ := h
  obtain ⟨d, rfl⟩ : ∃ d', d = d' + 1 := ⟨d - 1, by omega⟩
  obtain rfl := hp
  · refine enterV (n := 80) [(2, pf_X0_has), (103, pf_X6_tell), (115, pf_X6_prepare)] [25] mI_69 (by decide) (Nat.le_of_ble_eq_true rfl) (T_cons (s_X0_has (by omega)) (T_cons (s_X6_tell (by omega)) (T_cons (s_X6_prepare (by omega)) T_nil))) ?_
    rw [show lent 3 ([.ref 0, .int w] : List Value) = [.ref 0, .int w, .retAddr 0] from rfl]
    simp only [dX6_often_0, dX6_often_1, dX6_often_4, dX6_often_5, dX6_often_8, dX6_often_11, dX6_often_12, dX6_often_14, dX6_often_17, dX6_often_18, dX6_often_19, dX6_often_20, dX6_often_23, dX6_often_24, dX6_often_25, dX6_often_26, dX6_often_28, dX6_often_31, dX6_often_32, dX6_often_35, dX6_often_36, dX6_often_39, dX6_often_42, dX6_often_45, dX6_often_47, dX6_often_50, dX6_often_53, dX6_often_56, dX6_often_57, cr_6_161, cr_6_165, cr_6_69, cr_6_88, fr_6_12, fr_6_154, fr_6_25, kr_6_68, skr_6_68, al_10, al_11, al_12, al_13, al_14, al_16, al_17, al_18, al_19, al_2, al_20, al_21, al_23, al_24, al_27, al_28, al_29, al_3, al_30, al_31, al_32, al_34, al_36, al_37, al_38, al_39, al_4, al_40, al_41, al_42, al_43, al_45, al_46, al_47, al_48, al_49, al_5, al_52, al_53, al_54, al_55, al_56, al_57, al_58, al_6, al_60, al_61, al_62, al_63, al_64, al_65, al_66, al_67, al_69, al_7, al_70, al_71, al_72, al_73, al_9, cat_i, cat_l, cat_r, cat_u, gf_4_0_22, gf_4_0_33, gf_5_0_0, gf_5_3_0, pcl_0, pcl_1, pcl_100, pcl_101, pcl_102, pcl_103, pcl_104, pcl_105, pcl_106, pcl_107, pcl_108, pcl_109, pcl_110, pcl_111, pcl_112, pcl_15, pcl_22, pcl_25, pcl_26, pcl_33, pcl_44, pcl_50, pcl_59, pcl_8, rOK_i, rOK_z, v_aload_0, v_bipush_12, v_bipush_60, v_getfield, v_goto, v_ic_ge, v_ic_ne, v_iconst_0, v_if_ne, v_iinc_2, v_iload_1, v_iload_2, v_invv, v_ireturn, v_istore_2, v_ldc, vcV_2_0, vcV_2_4, vcV_2_5, vgf_i, vgf_r, vgf_s, vld_i, vld_s, vc_d, rr_0, rr_1, csT_h, csT_t, csT_n, bI_0, bI_1, bI_z, bT, List.mem_cons, List.not_mem_nil, List.length_cons, List.length_nil, ite_not, ↓reduceIte, true_and, and_true, not_true_eq_false, not_false_eq_true, false_or, or_false, or_true, true_or, Nat.reduceAdd, Nat.reduceEqDiff, Nat.reduceBEq, Nat.reduceLeDiff, Nat.reduceLT, Nat.reduceSub, Int.reduceAdd, Int.reduceLE, Int.reduceLT, Int.reduceToNat, Int.reduceNeg, Int.reduceNatCast', reduceCtorEq, Int32.reduceOfInt, Int32.reduceOfNat, Int32.reduceToNatClampNeg, Int32.reduceToInt, i10, i01, pe_X0_has, tl_0, tl_1, tl_2, tl_3, tl_4, tl_5, tl_6, pe_X6_prepare, BR]
    by_cases h1 : hasW M 1 w
    · rw [if_pos h1] at h ⊢
      exact ⟨h1, fun a b ⟨a1, a2, a3, a4⟩ hb => lp_often (by omega) 60 0 _ _ a b rfl a1 a2 a3 a4 hb h⟩
    · rw [if_neg h1] at h ⊢
      exact h

theorem s_X6_often {d : Nat} (hd : 5 ≤ d) : Snd d 69 pf_X6_often := by
  intro args M k h
  unfold pf_X6_often at h
  split at h
  · exact c_X6_often hd h
  · exact h.elim
/-- the set of planks for one walker, or -1 -/
def lyF (M : Mem) (i : Nat) (n j : Nat) : Int32 := fstF (fun m => lmF (fun s => ¬ (xwl M i s).1 < 12) m 0 12) n j
set_option maxRecDepth 100000 in
set_option maxHeartbeats 4000000 in
theorem lp_lay {d : Nat} (hd : 8 ≤ d) {M : Mem} {k : Value → Mem → Prop} {w : Int32} (hw : hasW M 1 w) : ∀ (n i : Nat) (x3 : Value) (a b : Nat → Int32), i + n = 4 → (∀ a b, if 0 ≤ lyF M (w).toNatClampNeg n i then k (.int (lyF M (w).toNatClampNeg n i)) (jk M a b) else k (.int (-1000004)) (tellM (jk M a b) 3)) → WP (6, yX6_lay, cX6_lay, 4, (some .int)) (d + 1) k 20 [.ref 0, .int w, .int (nI i), x3] [] (jk M a b) := by
  intro n
  induction n with
  | zero =>
    intro i x3 a b hi h
    have : i = 4 := by omega
    subst this
    refine goV (n := 80) [(103, pf_X6_tell)] [20] (T_cons (s_X6_tell (by omega)) T_nil) ?_
    simp only [dX6_lay_0, dX6_lay_1, dX6_lay_4, dX6_lay_5, dX6_lay_8, dX6_lay_11, dX6_lay_12, dX6_lay_14, dX6_lay_17, dX6_lay_18, dX6_lay_19, dX6_lay_20, dX6_lay_21, dX6_lay_22, dX6_lay_25, dX6_lay_26, dX6_lay_27, dX6_lay_28, dX6_lay_30, dX6_lay_31, dX6_lay_34, dX6_lay_35, dX6_lay_36, dX6_lay_39, dX6_lay_40, dX6_lay_41, dX6_lay_44, dX6_lay_47, dX6_lay_48, dX6_lay_50, dX6_lay_53, cr_6_198, cr_6_69, cr_6_88, fr_6_12, kr_6_172, kr_6_68, skr_6_172, skr_6_68, al_10, al_11, al_12, al_13, al_14, al_16, al_17, al_18, al_19, al_2, al_20, al_21, al_23, al_24, al_27, al_28, al_29, al_3, al_30, al_31, al_32, al_34, al_36, al_37, al_38, al_39, al_4, al_40, al_41, al_42, al_43, al_45, al_46, al_47, al_48, al_49, al_5, al_52, al_53, al_54, al_55, al_56, al_57, al_58, al_6, al_60, al_61, al_62, al_63, al_64, al_65, al_66, al_67, al_69, al_7, al_70, al_71, al_72, al_73, al_9, cat_i, cat_l, cat_r, cat_u, gf_5_0_0, pcl_0, pcl_1, pcl_100, pcl_101, pcl_102, pcl_103, pcl_104, pcl_105, pcl_106, pcl_107, pcl_108, pcl_109, pcl_110, pcl_111, pcl_112, pcl_15, pcl_22, pcl_25, pcl_26, pcl_33, pcl_44, pcl_50, pcl_59, pcl_8, rOK_i, rOK_z, v_aload_0, v_bipush_12, v_getfield, v_goto, v_ic_gt, v_iconst_0, v_iconst_3, v_if_lt, v_if_ne, v_iinc_2, v_iload_1, v_iload_2, v_iload_3, v_invv, v_ireturn, v_istore_2, v_istore_3, v_ldc, vcV_2_0, vcV_2_5, vcV_5_5, vgf_i, vgf_r, vgf_s, vld_i, vld_s, vc_d, rr_0, rr_1, csT_h, csT_t, csT_n, bI_0, bI_1, bI_z, bT, List.mem_cons, List.not_mem_nil, List.length_cons, List.length_nil, ite_not, ↓reduceIte, true_and, and_true, not_true_eq_false, not_false_eq_true, false_or, or_false, or_true, true_or, Nat.reduceAdd, Nat.reduceEqDiff, Nat.reduceBEq, Nat.reduceLeDiff, Nat.reduceLT, Nat.reduceSub, Int.reduceAdd, Int.reduceLE, Int.reduceLT, Int.reduceToNat, Int.reduceNeg, Int.reduceNatCast', reduceCtorEq, Int32.reduceOfInt, Int32.reduceOfNat, Int32.reduceToNatClampNeg, Int32.reduceToInt, i10, i01, tl_3, show ((3 : Int32) < nI 4) = True from by decide]
    have := h a b
    rw [lyF, fstF, if_neg (by decide)] at this
    exact this
  | succ n ih =>
    intro i x3 a b hi h
    have c1 : ((3 : Int32) < nI i) = False := eq_false (nI_nlt (a := 3) (b := i) (by omega) (by decide))
    refine goV (n := 80) [(103, pf_X6_tell)] [20] (T_cons (s_X6_tell (by omega)) T_nil) ?_
    simp only [dX6_lay_0, dX6_lay_1, dX6_lay_4, dX6_lay_5, dX6_lay_8, dX6_lay_11, dX6_lay_12, dX6_lay_14, dX6_lay_17, dX6_lay_18, dX6_lay_19, dX6_lay_20, dX6_lay_21, dX6_lay_22, dX6_lay_25, dX6_lay_26, dX6_lay_27, dX6_lay_28, dX6_lay_30, dX6_lay_31, dX6_lay_34, dX6_lay_35, dX6_lay_36, dX6_lay_39, dX6_lay_40, dX6_lay_41, dX6_lay_44, dX6_lay_47, dX6_lay_48, dX6_lay_50, dX6_lay_53, cr_6_198, cr_6_69, cr_6_88, fr_6_12, kr_6_172, kr_6_68, skr_6_172, skr_6_68, al_10, al_11, al_12, al_13, al_14, al_16, al_17, al_18, al_19, al_2, al_20, al_21, al_23, al_24, al_27, al_28, al_29, al_3, al_30, al_31, al_32, al_34, al_36, al_37, al_38, al_39, al_4, al_40, al_41, al_42, al_43, al_45, al_46, al_47, al_48, al_49, al_5, al_52, al_53, al_54, al_55, al_56, al_57, al_58, al_6, al_60, al_61, al_62, al_63, al_64, al_65, al_66, al_67, al_69, al_7, al_70, al_71, al_72, al_73, al_9, cat_i, cat_l, cat_r, cat_u, gf_5_0_0, pcl_0, pcl_1, pcl_100, pcl_101, pcl_102, pcl_103, pcl_104, pcl_105, pcl_106, pcl_107, pcl_108, pcl_109, pcl_110, pcl_111, pcl_112, pcl_15, pcl_22, pcl_25, pcl_26, pcl_33, pcl_44, pcl_50, pcl_59, pcl_8, rOK_i, rOK_z, v_aload_0, v_bipush_12, v_getfield, v_goto, v_ic_gt, v_iconst_0, v_iconst_3, v_if_lt, v_if_ne, v_iinc_2, v_iload_1, v_iload_2, v_iload_3, v_invv, v_ireturn, v_istore_2, v_istore_3, v_ldc, vcV_2_0, vcV_2_5, vcV_5_5, vgf_i, vgf_r, vgf_s, vld_i, vld_s, vc_d, rr_0, rr_1, csT_h, csT_t, csT_n, bI_0, bI_1, bI_z, bT, List.mem_cons, List.not_mem_nil, List.length_cons, List.length_nil, ite_not, ↓reduceIte, true_and, and_true, not_true_eq_false, not_false_eq_true, false_or, or_false, or_true, true_or, Nat.reduceAdd, Nat.reduceEqDiff, Nat.reduceBEq, Nat.reduceLeDiff, Nat.reduceLT, Nat.reduceSub, Int.reduceAdd, Int.reduceLE, Int.reduceLT, Int.reduceToNat, Int.reduceNeg, Int.reduceNatCast', reduceCtorEq, Int32.reduceOfInt, Int32.reduceOfNat, Int32.reduceToNatClampNeg, Int32.reduceToInt, i10, i01, c1]
    refine lp_layMore hw i (by omega) d (by omega) 0 12 a b _ (Nat.le_refl _) (fun a b => ?_)
    simp only [dX6_lay_0, dX6_lay_1, dX6_lay_4, dX6_lay_5, dX6_lay_8, dX6_lay_11, dX6_lay_12, dX6_lay_14, dX6_lay_17, dX6_lay_18, dX6_lay_19, dX6_lay_20, dX6_lay_21, dX6_lay_22, dX6_lay_25, dX6_lay_26, dX6_lay_27, dX6_lay_28, dX6_lay_30, dX6_lay_31, dX6_lay_34, dX6_lay_35, dX6_lay_36, dX6_lay_39, dX6_lay_40, dX6_lay_41, dX6_lay_44, dX6_lay_47, dX6_lay_48, dX6_lay_50, dX6_lay_53, cr_6_198, cr_6_69, cr_6_88, fr_6_12, kr_6_172, kr_6_68, skr_6_172, skr_6_68, al_10, al_11, al_12, al_13, al_14, al_16, al_17, al_18, al_19, al_2, al_20, al_21, al_23, al_24, al_27, al_28, al_29, al_3, al_30, al_31, al_32, al_34, al_36, al_37, al_38, al_39, al_4, al_40, al_41, al_42, al_43, al_45, al_46, al_47, al_48, al_49, al_5, al_52, al_53, al_54, al_55, al_56, al_57, al_58, al_6, al_60, al_61, al_62, al_63, al_64, al_65, al_66, al_67, al_69, al_7, al_70, al_71, al_72, al_73, al_9, cat_i, cat_l, cat_r, cat_u, gf_5_0_0, pcl_0, pcl_1, pcl_100, pcl_101, pcl_102, pcl_103, pcl_104, pcl_105, pcl_106, pcl_107, pcl_108, pcl_109, pcl_110, pcl_111, pcl_112, pcl_15, pcl_22, pcl_25, pcl_26, pcl_33, pcl_44, pcl_50, pcl_59, pcl_8, rOK_i, rOK_z, v_aload_0, v_bipush_12, v_getfield, v_goto, v_ic_gt, v_iconst_0, v_iconst_3, v_if_lt, v_if_ne, v_iinc_2, v_iload_1, v_iload_2, v_iload_3, v_invv, v_ireturn, v_istore_2, v_istore_3, v_ldc, vcV_2_0, vcV_2_5, vcV_5_5, vgf_i, vgf_r, vgf_s, vld_i, vld_s, vc_d, rr_0, rr_1, csT_h, csT_t, csT_n, bI_0, bI_1, bI_z, bT, List.mem_cons, List.not_mem_nil, List.length_cons, List.length_nil, ite_not, ↓reduceIte, true_and, and_true, not_true_eq_false, not_false_eq_true, false_or, or_false, or_true, true_or, Nat.reduceAdd, Nat.reduceEqDiff, Nat.reduceBEq, Nat.reduceLeDiff, Nat.reduceLT, Nat.reduceSub, Int.reduceAdd, Int.reduceLE, Int.reduceLT, Int.reduceToNat, Int.reduceNeg, Int.reduceNatCast', reduceCtorEq, Int32.reduceOfInt, Int32.reduceOfNat, Int32.reduceToNatClampNeg, Int32.reduceToInt, i10, i01, nI_1]
    by_cases hc : (0 : Int32) ≤ lmF (fun s => ¬ (xwl M (w).toNatClampNeg s).1 < 12) i 0 12
    · rw [if_neg (fun z => Int32.not_lt.mpr hc z)]
      have := h a b
      rw [lyF, fstF, if_pos hc, if_pos hc] at this
      exact this
    · rw [if_pos (Int32.not_le.mp hc)]
      refine ih (i + 1) _ a b (by omega) (fun a b => ?_)
      have := h a b
      rw [lyF, fstF, if_neg hc] at this
      exact this
def pf_X6_lay : PF := fun args M k => match args with
  | [.ref o, .int w] => (o = 0) ∧ (if hasW M 1 w then (∀ a b, if 0 ≤ lyF M (w).toNatClampNeg 4 0 then k (.int (lyF M (w).toNatClampNeg 4 0)) (jk M a b) else k (.int (-1000004)) (tellM (jk M a b) 3)) else k (.int (-1000001)) (tellM M 0))
  | _ => False
theorem pe_X6_lay {o : Nat} {w : Int32} {M : Mem} {k : Value → Mem → Prop} : pf_X6_lay [.ref o, .int w] M k = ((o = 0) ∧ (if hasW M 1 w then (∀ a b, if 0 ≤ lyF M (w).toNatClampNeg 4 0 then k (.int (lyF M (w).toNatClampNeg 4 0)) (jk M a b) else k (.int (-1000004)) (tellM (jk M a b) 3)) else k (.int (-1000001)) (tellM M 0))) := rfl
set_option maxRecDepth 100000 in
set_option maxHeartbeats 4000000 in
theorem c_X6_lay {d : Nat} (hd : 9 ≤ d) {o : Nat} {w : Int32} {M : Mem} {k : Value → Mem → Prop} (h : (o = 0) ∧ (if hasW M 1 w then (∀ a b, if 0 ≤ lyF M (w).toNatClampNeg 4 0 then k (.int (lyF M (w).toNatClampNeg 4 0)) (jk M a b) else k (.int (-1000004)) (tellM (jk M a b) 3)) else k (.int (-1000001)) (tellM M 0))) : CallP d 78 [.ref o, .int w] M k := by
  obtain ⟨hp, h⟩ := h
  obtain ⟨d, rfl⟩ : ∃ d', d = d' + 1 := ⟨d - 1, by omega⟩
  obtain rfl := hp
  · refine enterV (n := 80) [(2, pf_X0_has), (103, pf_X6_tell)] [20] mI_78 (by decide) (Nat.le_of_ble_eq_true rfl) (T_cons (s_X0_has (by omega)) (T_cons (s_X6_tell (by omega)) T_nil)) ?_
    rw [show lent 4 ([.ref 0, .int w] : List Value) = [.ref 0, .int w, .retAddr 0, .retAddr 0] from rfl]
    simp only [dX6_lay_0, dX6_lay_1, dX6_lay_4, dX6_lay_5, dX6_lay_8, dX6_lay_11, dX6_lay_12, dX6_lay_14, dX6_lay_17, dX6_lay_18, dX6_lay_19, dX6_lay_20, dX6_lay_21, dX6_lay_22, dX6_lay_25, dX6_lay_26, dX6_lay_27, dX6_lay_28, dX6_lay_30, dX6_lay_31, dX6_lay_34, dX6_lay_35, dX6_lay_36, dX6_lay_39, dX6_lay_40, dX6_lay_41, dX6_lay_44, dX6_lay_47, dX6_lay_48, dX6_lay_50, dX6_lay_53, cr_6_198, cr_6_69, cr_6_88, fr_6_12, kr_6_172, kr_6_68, skr_6_172, skr_6_68, al_10, al_11, al_12, al_13, al_14, al_16, al_17, al_18, al_19, al_2, al_20, al_21, al_23, al_24, al_27, al_28, al_29, al_3, al_30, al_31, al_32, al_34, al_36, al_37, al_38, al_39, al_4, al_40, al_41, al_42, al_43, al_45, al_46, al_47, al_48, al_49, al_5, al_52, al_53, al_54, al_55, al_56, al_57, al_58, al_6, al_60, al_61, al_62, al_63, al_64, al_65, al_66, al_67, al_69, al_7, al_70, al_71, al_72, al_73, al_9, cat_i, cat_l, cat_r, cat_u, gf_5_0_0, pcl_0, pcl_1, pcl_100, pcl_101, pcl_102, pcl_103, pcl_104, pcl_105, pcl_106, pcl_107, pcl_108, pcl_109, pcl_110, pcl_111, pcl_112, pcl_15, pcl_22, pcl_25, pcl_26, pcl_33, pcl_44, pcl_50, pcl_59, pcl_8, rOK_i, rOK_z, v_aload_0, v_bipush_12, v_getfield, v_goto, v_ic_gt, v_iconst_0, v_iconst_3, v_if_lt, v_if_ne, v_iinc_2, v_iload_1, v_iload_2, v_iload_3, v_invv, v_ireturn, v_istore_2, v_istore_3, v_ldc, vcV_2_0, vcV_2_5, vcV_5_5, vgf_i, vgf_r, vgf_s, vld_i, vld_s, vc_d, rr_0, rr_1, csT_h, csT_t, csT_n, bI_0, bI_1, bI_z, bT, List.mem_cons, List.not_mem_nil, List.length_cons, List.length_nil, ite_not, ↓reduceIte, true_and, and_true, not_true_eq_false, not_false_eq_true, false_or, or_false, or_true, true_or, Nat.reduceAdd, Nat.reduceEqDiff, Nat.reduceBEq, Nat.reduceLeDiff, Nat.reduceLT, Nat.reduceSub, Int.reduceAdd, Int.reduceLE, Int.reduceLT, Int.reduceToNat, Int.reduceNeg, Int.reduceNatCast', reduceCtorEq, Int32.reduceOfInt, Int32.reduceOfNat, Int32.reduceToNatClampNeg, Int32.reduceToInt, i10, i01, pe_X0_has, tl_0, tl_1, tl_2, tl_3, tl_4, tl_5, tl_6, BR]
    by_cases h1 : hasW M 1 w
    · rw [if_pos h1] at h ⊢
      have := lp_lay (d := d) (by omega) (k := k) h1 4 0 (.retAddr 0) (M 22) (M 23) rfl h
      rw [jk_self] at this
      exact this
    · rw [if_neg h1] at h ⊢
      exact h

theorem s_X6_lay {d : Nat} (hd : 9 ≤ d) : Snd d 78 pf_X6_lay := by
  intro args M k h
  unfold pf_X6_lay at h
  split at h
  · exact c_X6_lay hd h
  · exact h.elim
/-- how many of the first m walkers fall if plank p is new -/
def bcN (M : Mem) (m p : Nat) : Int32 := cntF (fun i => (xwl M i (1 <<< (nI p &&& 31))).1 < 12) m 0 0
def bsF (f : Nat → Int32) : Nat → Nat → Int32 → Int32 → Int32
  | 0, _, b, _ => b
  | n + 1, i, b, l => if f i < l then bsF f n (i + 1) (nI i) (f i) else bsF f n (i + 1) b l
set_option maxRecDepth 100000 in
set_option maxHeartbeats 4000000 in
theorem lp_best1 {d : Nat} (hd : 4 ≤ d) {M : Mem} {k : Value → Mem → Prop} {x1 x2 : Int32} {p q : Nat} (hq : q ≤ 6) (hn : M 1 6 = nI q) : ∀ (n i : Nat) (c : Int32) (a b : Nat → Int32), i + n = q → (∀ a b, WP (6, yX6_best, cX6_best, 6, (some .int)) (d + 1) k 52 [.ref 0, .int x1, .int x2, .int (nI p), .int (cntF (fun i => (xwl M i (1 <<< (nI p &&& 31))).1 < 12) n i c), .int (nI q)] [] (jk M a b)) → WP (6, yX6_best, cX6_best, 6, (some .int)) (d + 1) k 19 [.ref 0, .int x1, .int x2, .int (nI p), .int c, .int (nI i)] [] (jk M a b) := by
  intro n
  induction n with
  | zero =>
    intro i c a b hi h
    have e : i = q := by omega
    subst e
    have c1 : nI i ≤ nI i := nI_le (Nat.le_refl _) (by omega)
    refine goV (n := 80) [(118, pf_X6_crossesLaid)] [19, 52] (T_cons (s_X6_crossesLaid hd) T_nil) ?_
    simp only [dX6_best_0, dX6_best_1, dX6_best_2, dX6_best_4, dX6_best_5, dX6_best_6, dX6_best_7, dX6_best_8, dX6_best_10, dX6_best_13, dX6_best_14, dX6_best_16, dX6_best_17, dX6_best_19, dX6_best_21, dX6_best_22, dX6_best_25, dX6_best_28, dX6_best_31, dX6_best_32, dX6_best_34, dX6_best_35, dX6_best_36, dX6_best_37, dX6_best_40, dX6_best_43, dX6_best_46, dX6_best_49, dX6_best_52, dX6_best_54, dX6_best_55, dX6_best_58, dX6_best_60, dX6_best_61, dX6_best_62, dX6_best_63, dX6_best_66, dX6_best_69, dX6_best_70, cr_6_202, fr_6_12, fr_6_145, al_10, al_11, al_12, al_13, al_14, al_16, al_17, al_18, al_19, al_2, al_20, al_21, al_23, al_24, al_27, al_28, al_29, al_3, al_30, al_31, al_32, al_34, al_36, al_37, al_38, al_39, al_4, al_40, al_41, al_42, al_43, al_45, al_46, al_47, al_48, al_49, al_5, al_52, al_53, al_54, al_55, al_56, al_57, al_58, al_6, al_60, al_61, al_62, al_63, al_64, al_65, al_66, al_67, al_69, al_7, al_70, al_71, al_72, al_73, al_9, cat_i, cat_l, cat_r, cat_u, gf_0_6_1, gf_0_6_15, gf_0_6_26, gf_0_6_8, gf_5_0_0, pcl_0, pcl_1, pcl_100, pcl_101, pcl_102, pcl_103, pcl_104, pcl_105, pcl_106, pcl_107, pcl_108, pcl_109, pcl_110, pcl_111, pcl_112, pcl_15, pcl_22, pcl_25, pcl_26, pcl_33, pcl_44, pcl_50, pcl_59, pcl_8, pft_0_6, rOK_i, rOK_z, v_aload_0, v_bipush_12, v_bipush_7, v_getfield, v_goto, v_ic_ge, v_iconst_0, v_iconst_1, v_if_ne, v_iinc_3, v_iinc_4, v_iinc_5, v_iload_1, v_iload_2, v_iload_3, v_iload_4, v_iload_5, v_invv, v_ireturn, v_ishl, v_istore_1, v_istore_2, v_istore_3, v_istore_4, v_istore_5, vcV_3_5, vgf_i, vgf_r, vgf_s, vc_d, rr_0, rr_1, csT_h, csT_t, csT_n, bI_0, bI_1, bI_z, bT, List.mem_cons, List.not_mem_nil, List.length_cons, List.length_nil, ite_not, ↓reduceIte, true_and, and_true, not_true_eq_false, not_false_eq_true, false_or, or_false, or_true, true_or, Nat.reduceAdd, Nat.reduceEqDiff, Nat.reduceBEq, Nat.reduceLeDiff, Nat.reduceLT, Nat.reduceSub, Int.reduceAdd, Int.reduceLE, Int.reduceLT, Int.reduceToNat, Int.reduceNeg, Int.reduceNatCast', reduceCtorEq, Int32.reduceOfInt, Int32.reduceOfNat, Int32.reduceToNatClampNeg, Int32.reduceToInt, i10, i01, jk_n, hn, c1]
    exact h a b
  | succ n ih =>
    intro i c a b hi h
    have c1 : ¬ nI q ≤ nI i := nI_ge (by omega) (by omega)
    have c3 : (nI i).toNatClampNeg = i := nI_clamp (by omega)
    obtain ⟨w1, w2, w3⟩ := has_nI hq hn (show i < q by omega)
    rw [hn] at w2
    refine goV (n := 80) [(118, pf_X6_crossesLaid)] [19, 52] (T_cons (s_X6_crossesLaid hd) T_nil) ?_
    simp only [dX6_best_0, dX6_best_1, dX6_best_2, dX6_best_4, dX6_best_5, dX6_best_6, dX6_best_7, dX6_best_8, dX6_best_10, dX6_best_13, dX6_best_14, dX6_best_16, dX6_best_17, dX6_best_19, dX6_best_21, dX6_best_22, dX6_best_25, dX6_best_28, dX6_best_31, dX6_best_32, dX6_best_34, dX6_best_35, dX6_best_36, dX6_best_37, dX6_best_40, dX6_best_43, dX6_best_46, dX6_best_49, dX6_best_52, dX6_best_54, dX6_best_55, dX6_best_58, dX6_best_60, dX6_best_61, dX6_best_62, dX6_best_63, dX6_best_66, dX6_best_69, dX6_best_70, cr_6_202, fr_6_12, fr_6_145, al_10, al_11, al_12, al_13, al_14, al_16, al_17, al_18, al_19, al_2, al_20, al_21, al_23, al_24, al_27, al_28, al_29, al_3, al_30, al_31, al_32, al_34, al_36, al_37, al_38, al_39, al_4, al_40, al_41, al_42, al_43, al_45, al_46, al_47, al_48, al_49, al_5, al_52, al_53, al_54, al_55, al_56, al_57, al_58, al_6, al_60, al_61, al_62, al_63, al_64, al_65, al_66, al_67, al_69, al_7, al_70, al_71, al_72, al_73, al_9, cat_i, cat_l, cat_r, cat_u, gf_0_6_1, gf_0_6_15, gf_0_6_26, gf_0_6_8, gf_5_0_0, pcl_0, pcl_1, pcl_100, pcl_101, pcl_102, pcl_103, pcl_104, pcl_105, pcl_106, pcl_107, pcl_108, pcl_109, pcl_110, pcl_111, pcl_112, pcl_15, pcl_22, pcl_25, pcl_26, pcl_33, pcl_44, pcl_50, pcl_59, pcl_8, pft_0_6, rOK_i, rOK_z, v_aload_0, v_bipush_12, v_bipush_7, v_getfield, v_goto, v_ic_ge, v_iconst_0, v_iconst_1, v_if_ne, v_iinc_3, v_iinc_4, v_iinc_5, v_iload_1, v_iload_2, v_iload_3, v_iload_4, v_iload_5, v_invv, v_ireturn, v_ishl, v_istore_1, v_istore_2, v_istore_3, v_istore_4, v_istore_5, vcV_3_5, vgf_i, vgf_r, vgf_s, vc_d, rr_0, rr_1, csT_h, csT_t, csT_n, bI_0, bI_1, bI_z, bT, List.mem_cons, List.not_mem_nil, List.length_cons, List.length_nil, ite_not, ↓reduceIte, true_and, and_true, not_true_eq_false, not_false_eq_true, false_or, or_false, or_true, true_or, Nat.reduceAdd, Nat.reduceEqDiff, Nat.reduceBEq, Nat.reduceLeDiff, Nat.reduceLT, Nat.reduceSub, Int.reduceAdd, Int.reduceLE, Int.reduceLT, Int.reduceToNat, Int.reduceNeg, Int.reduceNatCast', reduceCtorEq, Int32.reduceOfInt, Int32.reduceOfNat, Int32.reduceToNatClampNeg, Int32.reduceToInt, i10, i01, pe_X6_crossesLaid, jk_n, hn, c1, c3, w1, w2, w3, hasW, xwl_jk, nI_1, jk_jk]
    intro a' b'
    by_cases hc : (xwl M i (1 <<< (nI p &&& 31))).1 < 12
    · simp only [hc, if_true, if_false, not_true_eq_false, ↓reduceIte]
      exact ih (i + 1) _ _ _ (by omega) (fun a b => by have := h a b; rw [cntF, if_pos hc] at this; exact this)
    · simp only [hc, if_true, if_false, not_false_eq_true, ↓reduceIte]
      exact ih (i + 1) _ _ _ (by omega) (fun a b => by have := h a b; rw [cntF, if_neg hc] at this; exact this)
set_option maxRecDepth 100000 in
set_option maxHeartbeats 4000000 in
theorem lp_best {d : Nat} (hd : 4 ≤ d) {M : Mem} {k : Value → Mem → Prop} {q : Nat} (hq : q ≤ 6) (hn : M 1 6 = nI q) : ∀ (n i : Nat) (x1 x2 : Int32) (x4 x5 : Value) (a b : Nat → Int32), x4.category = 1 → i + n = 12 → (∀ a b, k (.int (bsF (bcN M q) n i x1 x2)) (jk M a b)) → WP (6, yX6_best, cX6_best, 6, (some .int)) (d + 1) k 7 [.ref 0, .int x1, .int x2, .int (nI i), x4, x5] [] (jk M a b) := by
  intro n
  induction n with
  | zero =>
    intro i x1 x2 x4 x5 a b h4 hi h
    have : i = 12 := by omega
    subst this
    refine goV (n := 80) [] [7, 19] T_nil ?_
    simp only [dX6_best_0, dX6_best_1, dX6_best_2, dX6_best_4, dX6_best_5, dX6_best_6, dX6_best_7, dX6_best_8, dX6_best_10, dX6_best_13, dX6_best_14, dX6_best_16, dX6_best_17, dX6_best_19, dX6_best_21, dX6_best_22, dX6_best_25, dX6_best_28, dX6_best_31, dX6_best_32, dX6_best_34, dX6_best_35, dX6_best_36, dX6_best_37, dX6_best_40, dX6_best_43, dX6_best_46, dX6_best_49, dX6_best_52, dX6_best_54, dX6_best_55, dX6_best_58, dX6_best_60, dX6_best_61, dX6_best_62, dX6_best_63, dX6_best_66, dX6_best_69, dX6_best_70, cr_6_202, fr_6_12, fr_6_145, al_10, al_11, al_12, al_13, al_14, al_16, al_17, al_18, al_19, al_2, al_20, al_21, al_23, al_24, al_27, al_28, al_29, al_3, al_30, al_31, al_32, al_34, al_36, al_37, al_38, al_39, al_4, al_40, al_41, al_42, al_43, al_45, al_46, al_47, al_48, al_49, al_5, al_52, al_53, al_54, al_55, al_56, al_57, al_58, al_6, al_60, al_61, al_62, al_63, al_64, al_65, al_66, al_67, al_69, al_7, al_70, al_71, al_72, al_73, al_9, cat_i, cat_l, cat_r, cat_u, gf_0_6_1, gf_0_6_15, gf_0_6_26, gf_0_6_8, gf_5_0_0, pcl_0, pcl_1, pcl_100, pcl_101, pcl_102, pcl_103, pcl_104, pcl_105, pcl_106, pcl_107, pcl_108, pcl_109, pcl_110, pcl_111, pcl_112, pcl_15, pcl_22, pcl_25, pcl_26, pcl_33, pcl_44, pcl_50, pcl_59, pcl_8, pft_0_6, rOK_i, rOK_z, v_aload_0, v_bipush_12, v_bipush_7, v_getfield, v_goto, v_ic_ge, v_iconst_0, v_iconst_1, v_if_ne, v_iinc_3, v_iinc_4, v_iinc_5, v_iload_1, v_iload_2, v_iload_3, v_iload_4, v_iload_5, v_invv, v_ireturn, v_ishl, v_istore_1, v_istore_2, v_istore_3, v_istore_4, v_istore_5, vcV_3_5, vgf_i, vgf_r, vgf_s, vc_d, rr_0, rr_1, csT_h, csT_t, csT_n, bI_0, bI_1, bI_z, bT, List.mem_cons, List.not_mem_nil, List.length_cons, List.length_nil, ite_not, ↓reduceIte, true_and, and_true, not_true_eq_false, not_false_eq_true, false_or, or_false, or_true, true_or, Nat.reduceAdd, Nat.reduceEqDiff, Nat.reduceBEq, Nat.reduceLeDiff, Nat.reduceLT, Nat.reduceSub, Int.reduceAdd, Int.reduceLE, Int.reduceLT, Int.reduceToNat, Int.reduceNeg, Int.reduceNatCast', reduceCtorEq, Int32.reduceOfInt, Int32.reduceOfNat, Int32.reduceToNatClampNeg, Int32.reduceToInt, i10, i01, show ((12 : Int32) ≤ nI 12) = True from by decide]
    exact h a b
  | succ n ih =>
    intro i x1 x2 x4 x5 a b h4 hi h
    have c1 : ¬ (12 : Int32) ≤ nI i := nI_ge (b := 12) (by omega) (by decide)
    refine goV (n := 80) [] [7, 19] T_nil ?_
    simp only [dX6_best_0, dX6_best_1, dX6_best_2, dX6_best_4, dX6_best_5, dX6_best_6, dX6_best_7, dX6_best_8, dX6_best_10, dX6_best_13, dX6_best_14, dX6_best_16, dX6_best_17, dX6_best_19, dX6_best_21, dX6_best_22, dX6_best_25, dX6_best_28, dX6_best_31, dX6_best_32, dX6_best_34, dX6_best_35, dX6_best_36, dX6_best_37, dX6_best_40, dX6_best_43, dX6_best_46, dX6_best_49, dX6_best_52, dX6_best_54, dX6_best_55, dX6_best_58, dX6_best_60, dX6_best_61, dX6_best_62, dX6_best_63, dX6_best_66, dX6_best_69, dX6_best_70, cr_6_202, fr_6_12, fr_6_145, al_10, al_11, al_12, al_13, al_14, al_16, al_17, al_18, al_19, al_2, al_20, al_21, al_23, al_24, al_27, al_28, al_29, al_3, al_30, al_31, al_32, al_34, al_36, al_37, al_38, al_39, al_4, al_40, al_41, al_42, al_43, al_45, al_46, al_47, al_48, al_49, al_5, al_52, al_53, al_54, al_55, al_56, al_57, al_58, al_6, al_60, al_61, al_62, al_63, al_64, al_65, al_66, al_67, al_69, al_7, al_70, al_71, al_72, al_73, al_9, cat_i, cat_l, cat_r, cat_u, gf_0_6_1, gf_0_6_15, gf_0_6_26, gf_0_6_8, gf_5_0_0, pcl_0, pcl_1, pcl_100, pcl_101, pcl_102, pcl_103, pcl_104, pcl_105, pcl_106, pcl_107, pcl_108, pcl_109, pcl_110, pcl_111, pcl_112, pcl_15, pcl_22, pcl_25, pcl_26, pcl_33, pcl_44, pcl_50, pcl_59, pcl_8, pft_0_6, rOK_i, rOK_z, v_aload_0, v_bipush_12, v_bipush_7, v_getfield, v_goto, v_ic_ge, v_iconst_0, v_iconst_1, v_if_ne, v_iinc_3, v_iinc_4, v_iinc_5, v_iload_1, v_iload_2, v_iload_3, v_iload_4, v_iload_5, v_invv, v_ireturn, v_ishl, v_istore_1, v_istore_2, v_istore_3, v_istore_4, v_istore_5, vcV_3_5, vgf_i, vgf_r, vgf_s, vc_d, rr_0, rr_1, csT_h, csT_t, csT_n, bI_0, bI_1, bI_z, bT, List.mem_cons, List.not_mem_nil, List.length_cons, List.length_nil, ite_not, ↓reduceIte, true_and, and_true, not_true_eq_false, not_false_eq_true, false_or, or_false, or_true, true_or, Nat.reduceAdd, Nat.reduceEqDiff, Nat.reduceBEq, Nat.reduceLeDiff, Nat.reduceLT, Nat.reduceSub, Int.reduceAdd, Int.reduceLE, Int.reduceLT, Int.reduceToNat, Int.reduceNeg, Int.reduceNatCast', reduceCtorEq, Int32.reduceOfInt, Int32.reduceOfNat, Int32.reduceToNatClampNeg, Int32.reduceToInt, i10, i01, c1, h4]
    refine lp_best1 hd hq hn q 0 0 a b (by omega) (fun a b => ?_)
    refine goV (n := 80) [] [7, 19] T_nil ?_
    simp only [dX6_best_0, dX6_best_1, dX6_best_2, dX6_best_4, dX6_best_5, dX6_best_6, dX6_best_7, dX6_best_8, dX6_best_10, dX6_best_13, dX6_best_14, dX6_best_16, dX6_best_17, dX6_best_19, dX6_best_21, dX6_best_22, dX6_best_25, dX6_best_28, dX6_best_31, dX6_best_32, dX6_best_34, dX6_best_35, dX6_best_36, dX6_best_37, dX6_best_40, dX6_best_43, dX6_best_46, dX6_best_49, dX6_best_52, dX6_best_54, dX6_best_55, dX6_best_58, dX6_best_60, dX6_best_61, dX6_best_62, dX6_best_63, dX6_best_66, dX6_best_69, dX6_best_70, cr_6_202, fr_6_12, fr_6_145, al_10, al_11, al_12, al_13, al_14, al_16, al_17, al_18, al_19, al_2, al_20, al_21, al_23, al_24, al_27, al_28, al_29, al_3, al_30, al_31, al_32, al_34, al_36, al_37, al_38, al_39, al_4, al_40, al_41, al_42, al_43, al_45, al_46, al_47, al_48, al_49, al_5, al_52, al_53, al_54, al_55, al_56, al_57, al_58, al_6, al_60, al_61, al_62, al_63, al_64, al_65, al_66, al_67, al_69, al_7, al_70, al_71, al_72, al_73, al_9, cat_i, cat_l, cat_r, cat_u, gf_0_6_1, gf_0_6_15, gf_0_6_26, gf_0_6_8, gf_5_0_0, pcl_0, pcl_1, pcl_100, pcl_101, pcl_102, pcl_103, pcl_104, pcl_105, pcl_106, pcl_107, pcl_108, pcl_109, pcl_110, pcl_111, pcl_112, pcl_15, pcl_22, pcl_25, pcl_26, pcl_33, pcl_44, pcl_50, pcl_59, pcl_8, pft_0_6, rOK_i, rOK_z, v_aload_0, v_bipush_12, v_bipush_7, v_getfield, v_goto, v_ic_ge, v_iconst_0, v_iconst_1, v_if_ne, v_iinc_3, v_iinc_4, v_iinc_5, v_iload_1, v_iload_2, v_iload_3, v_iload_4, v_iload_5, v_invv, v_ireturn, v_ishl, v_istore_1, v_istore_2, v_istore_3, v_istore_4, v_istore_5, vcV_3_5, vgf_i, vgf_r, vgf_s, vc_d, rr_0, rr_1, csT_h, csT_t, csT_n, bI_0, bI_1, bI_z, bT, List.mem_cons, List.not_mem_nil, List.length_cons, List.length_nil, ite_not, ↓reduceIte, true_and, and_true, not_true_eq_false, not_false_eq_true, false_or, or_false, or_true, true_or, Nat.reduceAdd, Nat.reduceEqDiff, Nat.reduceBEq, Nat.reduceLeDiff, Nat.reduceLT, Nat.reduceSub, Int.reduceAdd, Int.reduceLE, Int.reduceLT, Int.reduceToNat, Int.reduceNeg, Int.reduceNatCast', reduceCtorEq, Int32.reduceOfInt, Int32.reduceOfNat, Int32.reduceToNatClampNeg, Int32.reduceToInt, i10, i01, nI_1]
    have e : cntF (fun j => (xwl M j (1 <<< (nI i &&& 31))).1 < 12) q 0 0 = bcN M q i := rfl
    rw [e]
    by_cases hc : bcN M q i < x2
    · rw [if_neg (fun z => Int32.not_lt.mpr z hc)]
      exact ih (i + 1) _ _ _ _ a b rfl (by omega) (fun a b => by have := h a b; rw [bsF, if_pos hc] at this; exact this)
    · rw [if_pos (Int32.not_lt.mp hc)]
      exact ih (i + 1) _ _ _ _ a b rfl (by omega) (fun a b => by have := h a b; rw [bsF, if_neg hc] at this; exact this)
def pf_X6_best : PF := fun args M k => match args with
  | [.ref o] => (o = 0 ∧ IV M) ∧ (∀ a b, k (.int (bsF (bcN M (M 1 6).toNatClampNeg) 12 0 0 7)) (jk M a b))
  | _ => False
theorem pe_X6_best {o : Nat} {M : Mem} {k : Value → Mem → Prop} : pf_X6_best [.ref o] M k = ((o = 0 ∧ IV M) ∧ (∀ a b, k (.int (bsF (bcN M (M 1 6).toNatClampNeg) 12 0 0 7)) (jk M a b))) := rfl
set_option maxRecDepth 100000 in
set_option maxHeartbeats 4000000 in
theorem c_X6_best {d : Nat} (hd : 5 ≤ d) {o : Nat} {M : Mem} {k : Value → Mem → Prop} (h : (o = 0 ∧ IV M) ∧ (∀ a b, k (.int (bsF (bcN M (M 1 6).toNatClampNeg) 12 0 0 7)) (jk M a b))) : CallP d 79 [.ref o] M k := by
  obtain ⟨hp, h⟩ := h
  obtain ⟨d, rfl⟩ : ∃ d', d = d' + 1 := ⟨d - 1, by omega⟩
  obtain ⟨rfl, q, hq, hn⟩ := hp
  · refine enterV (n := 80) [] [7] mI_79 (by decide) (Nat.le_of_ble_eq_true rfl) T_nil ?_
    rw [show lent 6 ([.ref 0] : List Value) = [.ref 0, .retAddr 0, .retAddr 0, .retAddr 0, .retAddr 0, .retAddr 0] from rfl]
    simp only [dX6_best_0, dX6_best_1, dX6_best_2, dX6_best_4, dX6_best_5, dX6_best_6, dX6_best_7, dX6_best_8, dX6_best_10, dX6_best_13, dX6_best_14, dX6_best_16, dX6_best_17, dX6_best_19, dX6_best_21, dX6_best_22, dX6_best_25, dX6_best_28, dX6_best_31, dX6_best_32, dX6_best_34, dX6_best_35, dX6_best_36, dX6_best_37, dX6_best_40, dX6_best_43, dX6_best_46, dX6_best_49, dX6_best_52, dX6_best_54, dX6_best_55, dX6_best_58, dX6_best_60, dX6_best_61, dX6_best_62, dX6_best_63, dX6_best_66, dX6_best_69, dX6_best_70, cr_6_202, fr_6_12, fr_6_145, al_10, al_11, al_12, al_13, al_14, al_16, al_17, al_18, al_19, al_2, al_20, al_21, al_23, al_24, al_27, al_28, al_29, al_3, al_30, al_31, al_32, al_34, al_36, al_37, al_38, al_39, al_4, al_40, al_41, al_42, al_43, al_45, al_46, al_47, al_48, al_49, al_5, al_52, al_53, al_54, al_55, al_56, al_57, al_58, al_6, al_60, al_61, al_62, al_63, al_64, al_65, al_66, al_67, al_69, al_7, al_70, al_71, al_72, al_73, al_9, cat_i, cat_l, cat_r, cat_u, gf_0_6_1, gf_0_6_15, gf_0_6_26, gf_0_6_8, gf_5_0_0, pcl_0, pcl_1, pcl_100, pcl_101, pcl_102, pcl_103, pcl_104, pcl_105, pcl_106, pcl_107, pcl_108, pcl_109, pcl_110, pcl_111, pcl_112, pcl_15, pcl_22, pcl_25, pcl_26, pcl_33, pcl_44, pcl_50, pcl_59, pcl_8, pft_0_6, rOK_i, rOK_z, v_aload_0, v_bipush_12, v_bipush_7, v_getfield, v_goto, v_ic_ge, v_iconst_0, v_iconst_1, v_if_ne, v_iinc_3, v_iinc_4, v_iinc_5, v_iload_1, v_iload_2, v_iload_3, v_iload_4, v_iload_5, v_invv, v_ireturn, v_ishl, v_istore_1, v_istore_2, v_istore_3, v_istore_4, v_istore_5, vcV_3_5, vgf_i, vgf_r, vgf_s, vc_d, rr_0, rr_1, csT_h, csT_t, csT_n, bI_0, bI_1, bI_z, bT, List.mem_cons, List.not_mem_nil, List.length_cons, List.length_nil, ite_not, ↓reduceIte, true_and, and_true, not_true_eq_false, not_false_eq_true, false_or, or_false, or_true, true_or, Nat.reduceAdd, Nat.reduceEqDiff, Nat.reduceBEq, Nat.reduceLeDiff, Nat.reduceLT, Nat.reduceSub, Int.reduceAdd, Int.reduceLE, Int.reduceLT, Int.reduceToNat, Int.reduceNeg, Int.reduceNatCast', reduceCtorEq, Int32.reduceOfInt, Int32.reduceOfNat, Int32.reduceToNatClampNeg, Int32.reduceToInt, i10, i01]
    rw [hn, nI_clamp (by omega)] at h
    have := lp_best (d := d) (by omega) (k := k) hq hn 12 0 0 7 (.retAddr 0) (.retAddr 0) (M 22) (M 23) rfl rfl h
    rw [jk_self] at this
    exact this

theorem s_X6_best {d : Nat} (hd : 5 ≤ d) : Snd d 79 pf_X6_best := by
  intro args M k h
  unfold pf_X6_best at h
  split at h
  · exact c_X6_best hd h
  · exact h.elim
def jk3 (M : Mem) (a b c : Nat → Int32) : Mem := mrow (jk M a b) 24 c
theorem jk3_n {M : Mem} {a b c : Nat → Int32} {p : Nat} (h1 : (p == 22) = false) (h2 : (p == 23) = false) (h3 : (p == 24) = false) : jk3 M a b c p = M p := by
  unfold jk3
  rw [mrow_n h3, jk_n h1 h2]
theorem jk3_self {M : Mem} : jk3 M (M 22) (M 23) (M 24) = M := by
  unfold jk3
  rw [jk_self, mrow_self]
theorem jk3_3 {M : Mem} {a b c a' b' c' : Nat → Int32} : mrow (jk (jk3 M a b c) a' b') 24 c' = jk3 M a' b' c' := by
  unfold jk3
  funext z
  unfold jk mrow
  by_cases z1 : z = 22 <;> by_cases z2 : z = 23 <;> by_cases z3 : z = 24 <;> simp [z1, z2, z3] <;> omega
theorem xw_jk3 {M : Mem} {a b c : Nat → Int32} {i : Nat} : xw (jk3 M a b c) i = xw M i := by
  unfold jk3
  rw [xw_24, xw_jk]
def tkF (f : Nat → Int32) (w : Int32) : Nat → Nat → Int32 → Int32 → Int32
  | 0, _, r, _ => r
  | n + 1, i, r, l => if nI i = w then tkF f w n (i + 1) r l else if r = -1 ∨ f i < l then tkF f w n (i + 1) (nI i) (f i) else tkF f w n (i + 1) r l
/-- how unlike walker x is walker i -/
def dfW (M : Mem) (x i : Nat) : Int32 := dfF (xw M i).2.2 (xw M x).2.2 12 0 0
set_option maxRecDepth 100000 in
set_option maxHeartbeats 4000000 in
theorem lp_taken {d : Nat} (hd : 5 ≤ d) {M : Mem} {k : Value → Mem → Prop} {w : Int32} {q : Nat} (hw : hasW M 1 w) (hq : q ≤ 6) (hn : M 1 6 = nI q) : ∀ (n i : Nat) (r l : Int32) (x5 : Value) (a b c : Nat → Int32), i + n = q → (∀ a b c, if tkF (dfW M (w).toNatClampNeg) w n i r l = -1 then k (.int (-1000004)) (tellM (jk3 M a b c) 3) else k (.int (tkF (dfW M (w).toNatClampNeg) w n i r l)) (jk3 M a b c)) → WP (6, yX6_taken, cX6_taken, 6, (some .int)) (d + 1) k 25 [.ref 0, .int w, .int r, .int l, .int (nI i), x5] [] (jk3 M a b c) := by
  obtain ⟨v1, v2, v3⟩ := hw
  rw [hn] at v2
  intro n
  induction n with
  | zero =>
    intro i r l x5 a b c hi h
    have c1 : nI q ≤ nI i := nI_le (by omega) (by omega)
    refine goV (n := 80) [(120, pf_X6_difference), (103, pf_X6_tell)] [25] (T_cons (s_X6_difference hd) (T_cons (s_X6_tell (by omega)) T_nil)) ?_
    simp only [dX6_taken_0, dX6_taken_1, dX6_taken_4, dX6_taken_5, dX6_taken_8, dX6_taken_11, dX6_taken_12, dX6_taken_14, dX6_taken_17, dX6_taken_18, dX6_taken_19, dX6_taken_20, dX6_taken_21, dX6_taken_22, dX6_taken_23, dX6_taken_25, dX6_taken_27, dX6_taken_28, dX6_taken_31, dX6_taken_34, dX6_taken_37, dX6_taken_39, dX6_taken_40, dX6_taken_43, dX6_taken_44, dX6_taken_45, dX6_taken_47, dX6_taken_50, dX6_taken_52, dX6_taken_53, dX6_taken_54, dX6_taken_57, dX6_taken_59, dX6_taken_60, dX6_taken_63, dX6_taken_65, dX6_taken_66, dX6_taken_68, dX6_taken_69, dX6_taken_72, dX6_taken_75, dX6_taken_76, dX6_taken_77, dX6_taken_80, dX6_taken_81, dX6_taken_83, dX6_taken_86, dX6_taken_89, dX6_taken_90, cr_6_205, cr_6_69, cr_6_88, fr_6_12, fr_6_145, kr_6_172, kr_6_68, skr_6_172, skr_6_68, al_10, al_11, al_12, al_13, al_14, al_16, al_17, al_18, al_19, al_2, al_20, al_21, al_23, al_24, al_27, al_28, al_29, al_3, al_30, al_31, al_32, al_34, al_36, al_37, al_38, al_39, al_4, al_40, al_41, al_42, al_43, al_45, al_46, al_47, al_48, al_49, al_5, al_52, al_53, al_54, al_55, al_56, al_57, al_58, al_6, al_60, al_61, al_62, al_63, al_64, al_65, al_66, al_67, al_69, al_7, al_70, al_71, al_72, al_73, al_9, cat_i, cat_l, cat_r, cat_u, gf_0_6_1, gf_0_6_15, gf_0_6_26, gf_0_6_8, gf_5_0_0, pcl_0, pcl_1, pcl_100, pcl_101, pcl_102, pcl_103, pcl_104, pcl_105, pcl_106, pcl_107, pcl_108, pcl_109, pcl_110, pcl_111, pcl_112, pcl_15, pcl_22, pcl_25, pcl_26, pcl_33, pcl_44, pcl_50, pcl_59, pcl_8, pft_0_6, rOK_i, rOK_z, v_aload_0, v_getfield, v_goto, v_ic_eq, v_ic_ge, v_ic_ne, v_iconst_0, v_iconst_m1, v_if_ne, v_iinc_4, v_iload_1, v_iload_2, v_iload_3, v_iload_4, v_iload_5, v_invv, v_ireturn, v_istore_2, v_istore_3, v_istore_4, v_istore_5, v_ldc, vcV_2_0, vcV_2_5, vcV_3_5, vgf_i, vgf_r, vgf_s, vld_i, vld_s, vc_d, rr_0, rr_1, csT_h, csT_t, csT_n, bI_0, bI_1, bI_z, bT, List.mem_cons, List.not_mem_nil, List.length_cons, List.length_nil, ite_not, ↓reduceIte, true_and, and_true, not_true_eq_false, not_false_eq_true, false_or, or_false, or_true, true_or, Nat.reduceAdd, Nat.reduceEqDiff, Nat.reduceBEq, Nat.reduceLeDiff, Nat.reduceLT, Nat.reduceSub, Int.reduceAdd, Int.reduceLE, Int.reduceLT, Int.reduceToNat, Int.reduceNeg, Int.reduceNatCast', reduceCtorEq, Int32.reduceOfInt, Int32.reduceOfNat, Int32.reduceToNatClampNeg, Int32.reduceToInt, i10, i01, jk3_n, hn, c1, tl_3]
    have := h a b c
    rw [tkF] at this
    exact this
  | succ n ih =>
    intro i r l x5 a b c hi h
    have c1 : ¬ nI q ≤ nI i := nI_ge (by omega) (by omega)
    have c3 : (nI i).toNatClampNeg = i := nI_clamp (by omega)
    obtain ⟨w1, w2, w3⟩ := has_nI hq hn (show i < q by omega)
    rw [hn] at w2
    refine goV (n := 80) [(120, pf_X6_difference), (103, pf_X6_tell)] [25] (T_cons (s_X6_difference hd) (T_cons (s_X6_tell (by omega)) T_nil)) ?_
    simp only [dX6_taken_0, dX6_taken_1, dX6_taken_4, dX6_taken_5, dX6_taken_8, dX6_taken_11, dX6_taken_12, dX6_taken_14, dX6_taken_17, dX6_taken_18, dX6_taken_19, dX6_taken_20, dX6_taken_21, dX6_taken_22, dX6_taken_23, dX6_taken_25, dX6_taken_27, dX6_taken_28, dX6_taken_31, dX6_taken_34, dX6_taken_37, dX6_taken_39, dX6_taken_40, dX6_taken_43, dX6_taken_44, dX6_taken_45, dX6_taken_47, dX6_taken_50, dX6_taken_52, dX6_taken_53, dX6_taken_54, dX6_taken_57, dX6_taken_59, dX6_taken_60, dX6_taken_63, dX6_taken_65, dX6_taken_66, dX6_taken_68, dX6_taken_69, dX6_taken_72, dX6_taken_75, dX6_taken_76, dX6_taken_77, dX6_taken_80, dX6_taken_81, dX6_taken_83, dX6_taken_86, dX6_taken_89, dX6_taken_90, cr_6_205, cr_6_69, cr_6_88, fr_6_12, fr_6_145, kr_6_172, kr_6_68, skr_6_172, skr_6_68, al_10, al_11, al_12, al_13, al_14, al_16, al_17, al_18, al_19, al_2, al_20, al_21, al_23, al_24, al_27, al_28, al_29, al_3, al_30, al_31, al_32, al_34, al_36, al_37, al_38, al_39, al_4, al_40, al_41, al_42, al_43, al_45, al_46, al_47, al_48, al_49, al_5, al_52, al_53, al_54, al_55, al_56, al_57, al_58, al_6, al_60, al_61, al_62, al_63, al_64, al_65, al_66, al_67, al_69, al_7, al_70, al_71, al_72, al_73, al_9, cat_i, cat_l, cat_r, cat_u, gf_0_6_1, gf_0_6_15, gf_0_6_26, gf_0_6_8, gf_5_0_0, pcl_0, pcl_1, pcl_100, pcl_101, pcl_102, pcl_103, pcl_104, pcl_105, pcl_106, pcl_107, pcl_108, pcl_109, pcl_110, pcl_111, pcl_112, pcl_15, pcl_22, pcl_25, pcl_26, pcl_33, pcl_44, pcl_50, pcl_59, pcl_8, pft_0_6, rOK_i, rOK_z, v_aload_0, v_getfield, v_goto, v_ic_eq, v_ic_ge, v_ic_ne, v_iconst_0, v_iconst_m1, v_if_ne, v_iinc_4, v_iload_1, v_iload_2, v_iload_3, v_iload_4, v_iload_5, v_invv, v_ireturn, v_istore_2, v_istore_3, v_istore_4, v_istore_5, v_ldc, vcV_2_0, vcV_2_5, vcV_3_5, vgf_i, vgf_r, vgf_s, vld_i, vld_s, vc_d, rr_0, rr_1, csT_h, csT_t, csT_n, bI_0, bI_1, bI_z, bT, List.mem_cons, List.not_mem_nil, List.length_cons, List.length_nil, ite_not, ↓reduceIte, true_and, and_true, not_true_eq_false, not_false_eq_true, false_or, or_false, or_true, true_or, Nat.reduceAdd, Nat.reduceEqDiff, Nat.reduceBEq, Nat.reduceLeDiff, Nat.reduceLT, Nat.reduceSub, Int.reduceAdd, Int.reduceLE, Int.reduceLT, Int.reduceToNat, Int.reduceNeg, Int.reduceNatCast', reduceCtorEq, Int32.reduceOfInt, Int32.reduceOfNat, Int32.reduceToNatClampNeg, Int32.reduceToInt, i10, i01, pe_X6_difference, jk3_n, hn, c1, c3, v1, v2, v3, w1, w2, w3, hasW, xw_jk3, nI_1, jk3_3]
    have e : dfF (xw M i).2.2 (xw M (w).toNatClampNeg).2.2 12 0 0 = dfW M (w).toNatClampNeg i := rfl
    rw [e]
    by_cases h1 : nI i = w
    · rw [if_pos h1]
      exact ih (i + 1) _ _ _ a b c (by omega) (fun a b c => by have := h a b c; rw [tkF, if_pos h1] at this; exact this)
    · rw [if_neg h1]
      intro a' b' c'
      by_cases h2 : r = -1
      · rw [if_pos h2]
        exact ih (i + 1) _ _ _ _ _ _ (by omega) (fun a b c => by have := h a b c; rw [tkF, if_neg h1, if_pos (Or.inl h2)] at this; exact this)
      · rw [if_neg h2]
        by_cases h3 : dfW M (w).toNatClampNeg i < l
        · rw [if_neg (fun z => Int32.not_lt.mpr z h3)]
          exact ih (i + 1) _ _ _ _ _ _ (by omega) (fun a b c => by have := h a b c; rw [tkF, if_neg h1, if_pos (Or.inr h3)] at this; exact this)
        · rw [if_pos (Int32.not_lt.mp h3)]
          exact ih (i + 1) _ _ _ _ _ _ (by omega) (fun a b c => by have := h a b c; rw [tkF, if_neg h1, if_neg (show ¬ (r = -1 ∨ dfW M (w).toNatClampNeg i < l) from fun z => z.elim h2 h3)] at this; exact this)
def pf_X6_taken : PF := fun args M k => match args with
  | [.ref o, .int w] => (o = 0 ∧ IV M) ∧ (if hasW M 1 w then (∀ a b c, if tkF (dfW M (w).toNatClampNeg) w (M 1 6).toNatClampNeg 0 (-1) 0 = -1 then k (.int (-1000004)) (tellM (jk3 M a b c) 3) else k (.int (tkF (dfW M (w).toNatClampNeg) w (M 1 6).toNatClampNeg 0 (-1) 0)) (jk3 M a b c)) else k (.int (-1000001)) (tellM M 0))
  | _ => False
theorem pe_X6_taken {o : Nat} {w : Int32} {M : Mem} {k : Value → Mem → Prop} : pf_X6_taken [.ref o, .int w] M k = ((o = 0 ∧ IV M) ∧ (if hasW M 1 w then (∀ a b c, if tkF (dfW M (w).toNatClampNeg) w (M 1 6).toNatClampNeg 0 (-1) 0 = -1 then k (.int (-1000004)) (tellM (jk3 M a b c) 3) else k (.int (tkF (dfW M (w).toNatClampNeg) w (M 1 6).toNatClampNeg 0 (-1) 0)) (jk3 M a b c)) else k (.int (-1000001)) (tellM M 0))) := rfl
set_option maxRecDepth 100000 in
set_option maxHeartbeats 4000000 in
theorem c_X6_taken {d : Nat} (hd : 6 ≤ d) {o : Nat} {w : Int32} {M : Mem} {k : Value → Mem → Prop} (h : (o = 0 ∧ IV M) ∧ (if hasW M 1 w then (∀ a b c, if tkF (dfW M (w).toNatClampNeg) w (M 1 6).toNatClampNeg 0 (-1) 0 = -1 then k (.int (-1000004)) (tellM (jk3 M a b c) 3) else k (.int (tkF (dfW M (w).toNatClampNeg) w (M 1 6).toNatClampNeg 0 (-1) 0)) (jk3 M a b c)) else k (.int (-1000001)) (tellM M 0))) : CallP d 81 [.ref o, .int w] M k := by
  obtain ⟨hp, h⟩ := h
  obtain ⟨d, rfl⟩ : ∃ d', d = d' + 1 := ⟨d - 1, by omega⟩
  obtain ⟨rfl, q, hq, hn⟩ := hp
  · refine enterV (n := 80) [(2, pf_X0_has), (103, pf_X6_tell)] [25] mI_81 (by decide) (Nat.le_of_ble_eq_true rfl) (T_cons (s_X0_has (by omega)) (T_cons (s_X6_tell (by omega)) T_nil)) ?_
    rw [show lent 6 ([.ref 0, .int w] : List Value) = [.ref 0, .int w, .retAddr 0, .retAddr 0, .retAddr 0, .retAddr 0] from rfl]
    simp only [dX6_taken_0, dX6_taken_1, dX6_taken_4, dX6_taken_5, dX6_taken_8, dX6_taken_11, dX6_taken_12, dX6_taken_14, dX6_taken_17, dX6_taken_18, dX6_taken_19, dX6_taken_20, dX6_taken_21, dX6_taken_22, dX6_taken_23, dX6_taken_25, dX6_taken_27, dX6_taken_28, dX6_taken_31, dX6_taken_34, dX6_taken_37, dX6_taken_39, dX6_taken_40, dX6_taken_43, dX6_taken_44, dX6_taken_45, dX6_taken_47, dX6_taken_50, dX6_taken_52, dX6_taken_53, dX6_taken_54, dX6_taken_57, dX6_taken_59, dX6_taken_60, dX6_taken_63, dX6_taken_65, dX6_taken_66, dX6_taken_68, dX6_taken_69, dX6_taken_72, dX6_taken_75, dX6_taken_76, dX6_taken_77, dX6_taken_80, dX6_taken_81, dX6_taken_83, dX6_taken_86, dX6_taken_89, dX6_taken_90, cr_6_205, cr_6_69, cr_6_88, fr_6_12, fr_6_145, kr_6_172, kr_6_68, skr_6_172, skr_6_68, al_10, al_11, al_12, al_13, al_14, al_16, al_17, al_18, al_19, al_2, al_20, al_21, al_23, al_24, al_27, al_28, al_29, al_3, al_30, al_31, al_32, al_34, al_36, al_37, al_38, al_39, al_4, al_40, al_41, al_42, al_43, al_45, al_46, al_47, al_48, al_49, al_5, al_52, al_53, al_54, al_55, al_56, al_57, al_58, al_6, al_60, al_61, al_62, al_63, al_64, al_65, al_66, al_67, al_69, al_7, al_70, al_71, al_72, al_73, al_9, cat_i, cat_l, cat_r, cat_u, gf_0_6_1, gf_0_6_15, gf_0_6_26, gf_0_6_8, gf_5_0_0, pcl_0, pcl_1, pcl_100, pcl_101, pcl_102, pcl_103, pcl_104, pcl_105, pcl_106, pcl_107, pcl_108, pcl_109, pcl_110, pcl_111, pcl_112, pcl_15, pcl_22, pcl_25, pcl_26, pcl_33, pcl_44, pcl_50, pcl_59, pcl_8, pft_0_6, rOK_i, rOK_z, v_aload_0, v_getfield, v_goto, v_ic_eq, v_ic_ge, v_ic_ne, v_iconst_0, v_iconst_m1, v_if_ne, v_iinc_4, v_iload_1, v_iload_2, v_iload_3, v_iload_4, v_iload_5, v_invv, v_ireturn, v_istore_2, v_istore_3, v_istore_4, v_istore_5, v_ldc, vcV_2_0, vcV_2_5, vcV_3_5, vgf_i, vgf_r, vgf_s, vld_i, vld_s, vc_d, rr_0, rr_1, csT_h, csT_t, csT_n, bI_0, bI_1, bI_z, bT, List.mem_cons, List.not_mem_nil, List.length_cons, List.length_nil, ite_not, ↓reduceIte, true_and, and_true, not_true_eq_false, not_false_eq_true, false_or, or_false, or_true, true_or, Nat.reduceAdd, Nat.reduceEqDiff, Nat.reduceBEq, Nat.reduceLeDiff, Nat.reduceLT, Nat.reduceSub, Int.reduceAdd, Int.reduceLE, Int.reduceLT, Int.reduceToNat, Int.reduceNeg, Int.reduceNatCast', reduceCtorEq, Int32.reduceOfInt, Int32.reduceOfNat, Int32.reduceToNatClampNeg, Int32.reduceToInt, i10, i01, pe_X0_has, tl_0, tl_1, tl_2, tl_3, tl_4, tl_5, tl_6, BR]
    by_cases h1 : hasW M 1 w
    · rw [if_pos h1] at h ⊢
      rw [hn, nI_clamp (by omega)] at h
      have := lp_taken (d := d) (by omega) (k := k) h1 hq hn q 0 (-1) 0 (.retAddr 0) (M 22) (M 23) (M 24) (by omega) h
      rw [jk3_self] at this
      exact this
    · rw [if_neg h1] at h ⊢
      exact h

theorem s_X6_taken {d : Nat} (hd : 6 ≤ d) : Snd d 81 pf_X6_taken := by
  intro args M k h
  unfold pf_X6_taken at h
  split at h
  · exact c_X6_taken hd h
  · exact h.elim
