/-! X: more loops -/
theorem telB_congr {f r s : Nat → Int32} (h : ∀ j, j < 12 → r j = s j) : ∀ (n i : Nat), i + n ≤ 12 → telB f r n i = telB f s n i := by
  intro n
  induction n with
  | zero => intro i _; rfl
  | succ n ih =>
    intro i hi
    rw [telB, telB, h i (by omega), ih (i + 1) (by omega)]
theorem sf_tell {M : Mem} {s w : Int32} (h : ¬ sfF M s w = 0) {k : Value → Mem → Prop} : pf_X6_tell [.ref 0, .int (sfF M s w)] M k = k (.int (sfF M s w)) (tellM M (-1000001 - sfF M s w).toNatClampNeg) := by
  unfold sfF at h ⊢
  by_cases h0 : fdF M s = 0
  · rw [if_neg (fun z => z h0)] at h ⊢
    by_cases h1 : hasW M 1 w
    · rw [if_pos h1] at h ⊢
      by_cases h2 : M 57 (s).toNatClampNeg ≤ 12
      · rw [if_pos h2] at h
        exact absurd rfl h
      · rw [if_neg h2]
        exact tl_4
    · rw [if_neg h1]
      exact tl_0
  · rw [if_pos h0]
    exact fd_tell h0
theorem sf0 {M : Mem} {s w : Int32} (h : sfF M s w = 0) : fdF M s = 0 ∧ hasW M 1 w ∧ M 57 (s).toNatClampNeg ≤ 12 := by
  unfold sfF at h
  by_cases h0 : fdF M s = 0
  · rw [if_neg (fun z => z h0)] at h
    by_cases h1 : hasW M 1 w
    · rw [if_pos h1] at h
      by_cases h2 : M 57 (s).toNatClampNeg ≤ 12
      · exact ⟨h0, h1, h2⟩
      · rw [if_neg h2] at h
        exact absurd h (by decide)
    · rw [if_neg h1] at h
      exact absurd h (by decide)
  · rw [if_pos h0] at h
    exact absurd h h0
/-- sizes of sheets -/
def ZV (M : Mem) : Prop := ∀ t, t < 4 → ∃ m, m ≤ 40 ∧ M 57 t = nI m
theorem zv12 {M : Mem} {s : Int32} (hz : ZV M) (hs : shOK s) (h : M 57 (s).toNatClampNeg ≤ 12) : ∃ m, m ≤ 12 ∧ M 57 (s).toNatClampNeg = nI m := by
  obtain ⟨m, hm, e⟩ := hz (s).toNatClampNeg (by rcases sh4 hs with rfl | rfl | rfl | rfl <;> decide)
  rw [e] at h
  exact ⟨m, (nI_leI (b := 12) (by omega) (by decide)).mp h, e⟩
theorem sh_jk {M : Mem} {s : Int32} {a b : Nat → Int32} (hs : shOK s) : jk M a b (52 + (s).toNatClampNeg) = M (52 + (s).toNatClampNeg) := by
  rcases sh4 hs with rfl | rfl | rfl | rfl <;> exact jk_n (by decide) (by decide)
set_option maxRecDepth 100000 in
set_option maxHeartbeats 4000000 in
theorem lp_fits {d : Nat} (hd : 4 ≤ d) {M : Mem} {k : Value → Mem → Prop} {s w f : Int32} {m : Nat} (hw : hasW M 1 w) (hs : shOK s) (hm : m ≤ 12) (he : M 57 (s).toNatClampNeg = nI m) : ∀ (n i : Nat) (c : Int32) (a b : Nat → Int32), i + n = 100 → (∀ a b, k (.int (cntF (fun g => telB (M (52 + (s).toNatClampNeg)) (xwg M (w).toNatClampNeg (nI g)).2.2 m 0 = true) n i c)) (jk M a b)) → WP (6, yX6_fits, cX6_fits, 6, (some .int)) (d + 1) k 23 [.ref 0, .int s, .int w, .int f, .int c, .int (nI i)] [] (jk M a b) := by
  obtain ⟨w1, w2, w3⟩ := hw
  intro n
  induction n with
  | zero =>
    intro i c a b hi h
    have : i = 100 := by omega
    subst this
    refine goV (n := 80) [(117, pf_X6_tryGait), (50, pf_X4_tells)] [23] (T_cons (s_X6_tryGait hd) (T_cons (s_X4_tells (by omega)) T_nil)) ?_
    simp only [dX6_fits_0, dX6_fits_1, dX6_fits_2, dX6_fits_3, dX6_fits_6, dX6_fits_7, dX6_fits_8, dX6_fits_11, dX6_fits_12, dX6_fits_13, dX6_fits_16, dX6_fits_17, dX6_fits_18, dX6_fits_20, dX6_fits_21, dX6_fits_23, dX6_fits_25, dX6_fits_27, dX6_fits_30, dX6_fits_31, dX6_fits_32, dX6_fits_34, dX6_fits_37, dX6_fits_38, dX6_fits_39, dX6_fits_42, dX6_fits_43, dX6_fits_44, dX6_fits_47, dX6_fits_50, dX6_fits_53, dX6_fits_56, dX6_fits_59, dX6_fits_62, dX6_fits_65, dX6_fits_67, cr_6_173, cr_6_208, cr_6_211, cr_6_69, fr_6_154, fr_6_25, fr_6_50, al_10, al_11, al_12, al_13, al_14, al_16, al_17, al_18, al_19, al_2, al_20, al_21, al_23, al_24, al_27, al_28, al_29, al_3, al_30, al_31, al_32, al_34, al_36, al_37, al_38, al_39, al_4, al_40, al_41, al_42, al_43, al_45, al_46, al_47, al_48, al_49, al_5, al_52, al_53, al_54, al_55, al_56, al_57, al_58, al_6, al_60, al_61, al_62, al_63, al_64, al_65, al_66, al_67, al_69, al_7, al_70, al_71, al_72, al_73, al_9, cat_i, cat_l, cat_r, cat_u, gf_4_0_22, gf_4_0_33, gf_5_3_0, gf_5_7_0, pcl_0, pcl_1, pcl_100, pcl_101, pcl_102, pcl_103, pcl_104, pcl_105, pcl_106, pcl_107, pcl_108, pcl_109, pcl_110, pcl_111, pcl_112, pcl_15, pcl_22, pcl_25, pcl_26, pcl_33, pcl_44, pcl_50, pcl_59, pcl_8, rOK_i, rOK_z, v_aload_0, v_bipush_99, v_getfield, v_goto, v_ic_gt, v_iconst_0, v_if_eq, v_iinc_4, v_iinc_5, v_iload_1, v_iload_2, v_iload_3, v_iload_4, v_iload_5, v_invv, v_ireturn, v_istore_3, v_istore_4, v_istore_5, v_pop, vcV_2_5, vcV_3_3, vcV_3_5, vgf_i, vgf_r, vgf_s, vc_d, rr_0, rr_1, csT_h, csT_t, csT_n, bI_0, bI_1, bI_z, bT, List.mem_cons, List.not_mem_nil, List.length_cons, List.length_nil, ite_not, ↓reduceIte, true_and, and_true, not_true_eq_false, not_false_eq_true, false_or, or_false, or_true, true_or, Nat.reduceAdd, Nat.reduceEqDiff, Nat.reduceBEq, Nat.reduceLeDiff, Nat.reduceLT, Nat.reduceSub, Int.reduceAdd, Int.reduceLE, Int.reduceLT, Int.reduceToNat, Int.reduceNeg, Int.reduceNatCast', reduceCtorEq, Int32.reduceOfInt, Int32.reduceOfNat, Int32.reduceToNatClampNeg, Int32.reduceToInt, i10, i01, show ((99 : Int32) < nI 100) = True from by decide]
    exact h a b
  | succ n ih =>
    intro i c a b hi h
    refine goV (n := 80) [(117, pf_X6_tryGait), (50, pf_X4_tells)] [23] (T_cons (s_X6_tryGait hd) (T_cons (s_X4_tells (by omega)) T_nil)) ?_
    simp only [dX6_fits_0, dX6_fits_1, dX6_fits_2, dX6_fits_3, dX6_fits_6, dX6_fits_7, dX6_fits_8, dX6_fits_11, dX6_fits_12, dX6_fits_13, dX6_fits_16, dX6_fits_17, dX6_fits_18, dX6_fits_20, dX6_fits_21, dX6_fits_23, dX6_fits_25, dX6_fits_27, dX6_fits_30, dX6_fits_31, dX6_fits_32, dX6_fits_34, dX6_fits_37, dX6_fits_38, dX6_fits_39, dX6_fits_42, dX6_fits_43, dX6_fits_44, dX6_fits_47, dX6_fits_50, dX6_fits_53, dX6_fits_56, dX6_fits_59, dX6_fits_62, dX6_fits_65, dX6_fits_67, cr_6_173, cr_6_208, cr_6_211, cr_6_69, fr_6_154, fr_6_25, fr_6_50, al_10, al_11, al_12, al_13, al_14, al_16, al_17, al_18, al_19, al_2, al_20, al_21, al_23, al_24, al_27, al_28, al_29, al_3, al_30, al_31, al_32, al_34, al_36, al_37, al_38, al_39, al_4, al_40, al_41, al_42, al_43, al_45, al_46, al_47, al_48, al_49, al_5, al_52, al_53, al_54, al_55, al_56, al_57, al_58, al_6, al_60, al_61, al_62, al_63, al_64, al_65, al_66, al_67, al_69, al_7, al_70, al_71, al_72, al_73, al_9, cat_i, cat_l, cat_r, cat_u, gf_4_0_22, gf_4_0_33, gf_5_3_0, gf_5_7_0, pcl_0, pcl_1, pcl_100, pcl_101, pcl_102, pcl_103, pcl_104, pcl_105, pcl_106, pcl_107, pcl_108, pcl_109, pcl_110, pcl_111, pcl_112, pcl_15, pcl_22, pcl_25, pcl_26, pcl_33, pcl_44, pcl_50, pcl_59, pcl_8, rOK_i, rOK_z, v_aload_0, v_bipush_99, v_getfield, v_goto, v_ic_gt, v_iconst_0, v_if_eq, v_iinc_4, v_iinc_5, v_iload_1, v_iload_2, v_iload_3, v_iload_4, v_iload_5, v_invv, v_ireturn, v_istore_3, v_istore_4, v_istore_5, v_pop, vcV_2_5, vcV_3_3, vcV_3_5, vgf_i, vgf_r, vgf_s, vc_d, rr_0, rr_1, csT_h, csT_t, csT_n, bI_0, bI_1, bI_z, bT, List.mem_cons, List.not_mem_nil, List.length_cons, List.length_nil, ite_not, ↓reduceIte, true_and, and_true, not_true_eq_false, not_false_eq_true, false_or, or_false, or_true, true_or, Nat.reduceAdd, Nat.reduceEqDiff, Nat.reduceBEq, Nat.reduceLeDiff, Nat.reduceLT, Nat.reduceSub, Int.reduceAdd, Int.reduceLE, Int.reduceLT, Int.reduceToNat, Int.reduceNeg, Int.reduceNatCast', reduceCtorEq, Int32.reduceOfInt, Int32.reduceOfNat, Int32.reduceToNatClampNeg, Int32.reduceToInt, i10, i01, pe_X6_tryGait, pe_X4_tells, jk_n, w1, w2, w3, hasW, gt99 (show i < 100 by omega) (Nat.le_refl _), xwg_jk, nI_1, jk_jk, jk_23, sh_jk hs, he, nI_clamp (show m < 2 ^ 31 by omega)]
    intro a' b' hb
    refine ⟨⟨hs, m, hm, rfl⟩, ?_⟩
    rw [telB_congr hb m 0 (by omega)]
    by_cases hc : telB (M (52 + (s).toNatClampNeg)) (xwg M (w).toNatClampNeg (nI i)).2.2 m 0 = true
    · rw [if_pos hc]
      exact ih (i + 1) _ _ _ (by omega) (fun a b => by have := h a b; rw [cntF, if_pos hc] at this; exact this)
    · rw [if_neg hc]
      exact ih (i + 1) _ _ _ (by omega) (fun a b => by have := h a b; rw [cntF, if_neg hc] at this; exact this)
def pf_X6_fits : PF := fun args M k => match args with
  | [.ref o, .int s, .int w] => (o = 0 ∧ ZV M) ∧ (if sfF M s w = 0 then ∀ a b, k (.int (cntF (fun g => telB (M (52 + (s).toNatClampNeg)) (xwg M (w).toNatClampNeg (nI g)).2.2 (M 57 (s).toNatClampNeg).toNatClampNeg 0 = true) 100 0 0)) (jk M a b) else k (.int (sfF M s w)) (tellM M (-1000001 - sfF M s w).toNatClampNeg))
  | _ => False
theorem pe_X6_fits {o : Nat} {s : Int32} {w : Int32} {M : Mem} {k : Value → Mem → Prop} : pf_X6_fits [.ref o, .int s, .int w] M k = ((o = 0 ∧ ZV M) ∧ (if sfF M s w = 0 then ∀ a b, k (.int (cntF (fun g => telB (M (52 + (s).toNatClampNeg)) (xwg M (w).toNatClampNeg (nI g)).2.2 (M 57 (s).toNatClampNeg).toNatClampNeg 0 = true) 100 0 0)) (jk M a b) else k (.int (sfF M s w)) (tellM M (-1000001 - sfF M s w).toNatClampNeg))) := rfl
set_option maxRecDepth 100000 in
set_option maxHeartbeats 4000000 in
theorem c_X6_fits {d : Nat} (hd : 5 ≤ d) {o : Nat} {s : Int32} {w : Int32} {M : Mem} {k : Value → Mem → Prop} (h : (o = 0 ∧ ZV M) ∧ (if sfF M s w = 0 then ∀ a b, k (.int (cntF (fun g => telB (M (52 + (s).toNatClampNeg)) (xwg M (w).toNatClampNeg (nI g)).2.2 (M 57 (s).toNatClampNeg).toNatClampNeg 0 = true) 100 0 0)) (jk M a b) else k (.int (sfF M s w)) (tellM M (-1000001 - sfF M s w).toNatClampNeg))) : CallP d 82 [.ref o, .int s, .int w] M k := by
  obtain ⟨hp, h⟩ := h
  obtain ⟨d, rfl⟩ : ∃ d', d = d' + 1 := ⟨d - 1, by omega⟩
  obtain ⟨rfl, hz⟩ := hp
  · refine enterV (n := 80) [(121, pf_X6_swayFinding), (103, pf_X6_tell)] [23] mI_82 (by decide) (Nat.le_of_ble_eq_true rfl) (T_cons (s_X6_swayFinding (by omega)) (T_cons (s_X6_tell (by omega)) T_nil)) ?_
    rw [show lent 6 ([.ref 0, .int s, .int w] : List Value) = [.ref 0, .int s, .int w, .retAddr 0, .retAddr 0, .retAddr 0] from rfl]
    simp only [dX6_fits_0, dX6_fits_1, dX6_fits_2, dX6_fits_3, dX6_fits_6, dX6_fits_7, dX6_fits_8, dX6_fits_11, dX6_fits_12, dX6_fits_13, dX6_fits_16, dX6_fits_17, dX6_fits_18, dX6_fits_20, dX6_fits_21, dX6_fits_23, dX6_fits_25, dX6_fits_27, dX6_fits_30, dX6_fits_31, dX6_fits_32, dX6_fits_34, dX6_fits_37, dX6_fits_38, dX6_fits_39, dX6_fits_42, dX6_fits_43, dX6_fits_44, dX6_fits_47, dX6_fits_50, dX6_fits_53, dX6_fits_56, dX6_fits_59, dX6_fits_62, dX6_fits_65, dX6_fits_67, cr_6_173, cr_6_208, cr_6_211, cr_6_69, fr_6_154, fr_6_25, fr_6_50, al_10, al_11, al_12, al_13, al_14, al_16, al_17, al_18, al_19, al_2, al_20, al_21, al_23, al_24, al_27, al_28, al_29, al_3, al_30, al_31, al_32, al_34, al_36, al_37, al_38, al_39, al_4, al_40, al_41, al_42, al_43, al_45, al_46, al_47, al_48, al_49, al_5, al_52, al_53, al_54, al_55, al_56, al_57, al_58, al_6, al_60, al_61, al_62, al_63, al_64, al_65, al_66, al_67, al_69, al_7, al_70, al_71, al_72, al_73, al_9, cat_i, cat_l, cat_r, cat_u, gf_4_0_22, gf_4_0_33, gf_5_3_0, gf_5_7_0, pcl_0, pcl_1, pcl_100, pcl_101, pcl_102, pcl_103, pcl_104, pcl_105, pcl_106, pcl_107, pcl_108, pcl_109, pcl_110, pcl_111, pcl_112, pcl_15, pcl_22, pcl_25, pcl_26, pcl_33, pcl_44, pcl_50, pcl_59, pcl_8, rOK_i, rOK_z, v_aload_0, v_bipush_99, v_getfield, v_goto, v_ic_gt, v_iconst_0, v_if_eq, v_iinc_4, v_iinc_5, v_iload_1, v_iload_2, v_iload_3, v_iload_4, v_iload_5, v_invv, v_ireturn, v_istore_3, v_istore_4, v_istore_5, v_pop, vcV_2_5, vcV_3_3, vcV_3_5, vgf_i, vgf_r, vgf_s, vc_d, rr_0, rr_1, csT_h, csT_t, csT_n, bI_0, bI_1, bI_z, bT, List.mem_cons, List.not_mem_nil, List.length_cons, List.length_nil, ite_not, ↓reduceIte, true_and, and_true, not_true_eq_false, not_false_eq_true, false_or, or_false, or_true, true_or, Nat.reduceAdd, Nat.reduceEqDiff, Nat.reduceBEq, Nat.reduceLeDiff, Nat.reduceLT, Nat.reduceSub, Int.reduceAdd, Int.reduceLE, Int.reduceLT, Int.reduceToNat, Int.reduceNeg, Int.reduceNatCast', reduceCtorEq, Int32.reduceOfInt, Int32.reduceOfNat, Int32.reduceToNatClampNeg, Int32.reduceToInt, i10, i01, pe_X6_swayFinding, tl_0, tl_1, tl_2, tl_3, tl_4, tl_5, tl_6]
    by_cases h0 : sfF M s w = 0
    · rw [if_pos h0] at h ⊢
      obtain ⟨h1, h2, h3⟩ := sf0 h0
      have hs := fd0 h1
      obtain ⟨m, hm, he⟩ := zv12 hz hs h3
      rw [he, nI_clamp (by omega)] at h
      have := lp_fits (d := d) (by omega) (k := k) (f := sfF M s w) h2 hs hm he 100 0 0 (M 22) (M 23) rfl h
      rw [jk_self] at this
      exact this
    · rw [if_neg h0] at h ⊢
      rw [sf_tell h0]
      simp only [dX6_fits_0, dX6_fits_1, dX6_fits_2, dX6_fits_3, dX6_fits_6, dX6_fits_7, dX6_fits_8, dX6_fits_11, dX6_fits_12, dX6_fits_13, dX6_fits_16, dX6_fits_17, dX6_fits_18, dX6_fits_20, dX6_fits_21, dX6_fits_23, dX6_fits_25, dX6_fits_27, dX6_fits_30, dX6_fits_31, dX6_fits_32, dX6_fits_34, dX6_fits_37, dX6_fits_38, dX6_fits_39, dX6_fits_42, dX6_fits_43, dX6_fits_44, dX6_fits_47, dX6_fits_50, dX6_fits_53, dX6_fits_56, dX6_fits_59, dX6_fits_62, dX6_fits_65, dX6_fits_67, cr_6_173, cr_6_208, cr_6_211, cr_6_69, fr_6_154, fr_6_25, fr_6_50, al_10, al_11, al_12, al_13, al_14, al_16, al_17, al_18, al_19, al_2, al_20, al_21, al_23, al_24, al_27, al_28, al_29, al_3, al_30, al_31, al_32, al_34, al_36, al_37, al_38, al_39, al_4, al_40, al_41, al_42, al_43, al_45, al_46, al_47, al_48, al_49, al_5, al_52, al_53, al_54, al_55, al_56, al_57, al_58, al_6, al_60, al_61, al_62, al_63, al_64, al_65, al_66, al_67, al_69, al_7, al_70, al_71, al_72, al_73, al_9, cat_i, cat_l, cat_r, cat_u, gf_4_0_22, gf_4_0_33, gf_5_3_0, gf_5_7_0, pcl_0, pcl_1, pcl_100, pcl_101, pcl_102, pcl_103, pcl_104, pcl_105, pcl_106, pcl_107, pcl_108, pcl_109, pcl_110, pcl_111, pcl_112, pcl_15, pcl_22, pcl_25, pcl_26, pcl_33, pcl_44, pcl_50, pcl_59, pcl_8, rOK_i, rOK_z, v_aload_0, v_bipush_99, v_getfield, v_goto, v_ic_gt, v_iconst_0, v_if_eq, v_iinc_4, v_iinc_5, v_iload_1, v_iload_2, v_iload_3, v_iload_4, v_iload_5, v_invv, v_ireturn, v_istore_3, v_istore_4, v_istore_5, v_pop, vcV_2_5, vcV_3_3, vcV_3_5, vgf_i, vgf_r, vgf_s, vc_d, rr_0, rr_1, csT_h, csT_t, csT_n, bI_0, bI_1, bI_z, bT, List.mem_cons, List.not_mem_nil, List.length_cons, List.length_nil, ite_not, ↓reduceIte, true_and, and_true, not_true_eq_false, not_false_eq_true, false_or, or_false, or_true, true_or, Nat.reduceAdd, Nat.reduceEqDiff, Nat.reduceBEq, Nat.reduceLeDiff, Nat.reduceLT, Nat.reduceSub, Int.reduceAdd, Int.reduceLE, Int.reduceLT, Int.reduceToNat, Int.reduceNeg, Int.reduceNatCast', reduceCtorEq, Int32.reduceOfInt, Int32.reduceOfNat, Int32.reduceToNatClampNeg, Int32.reduceToInt, i10, i01, pe_X6_swayFinding, tl_0, tl_1, tl_2, tl_3, tl_4, tl_5, tl_6]
      exact h

theorem s_X6_fits {d : Nat} (hd : 5 ≤ d) : Snd d 82 pf_X6_fits := by
  intro args M k h
  unfold pf_X6_fits at h
  split at h
  · exact c_X6_fits hd h
  · exact h.elim
set_option maxRecDepth 100000 in
set_option maxHeartbeats 4000000 in
theorem lp_gait {d : Nat} (hd : 4 ≤ d) {M : Mem} {k : Value → Mem → Prop} {s w f : Int32} {m : Nat} (hw : hasW M 1 w) (hs : shOK s) (hm : m ≤ 12) (he : M 57 (s).toNatClampNeg = nI m) : ∀ (n i : Nat) (a b : Nat → Int32), i + n = 100 → (∀ a b, if lstF (fun g => telB (M (52 + (s).toNatClampNeg)) (xwg M (w).toNatClampNeg (nI g)).2.2 m 0 = true) n i = -1 then k (.int (-1000004)) (tellM (jk M a b) 3) else k (.int (lstF (fun g => telB (M (52 + (s).toNatClampNeg)) (xwg M (w).toNatClampNeg (nI g)).2.2 m 0 = true) n i)) (jk M a b)) → WP (6, yX6_gait, cX6_gait, 5, (some .int)) (d + 1) k 20 [.ref 0, .int s, .int w, .int f, .int (nI i)] [] (jk M a b) := by
  obtain ⟨w1, w2, w3⟩ := hw
  intro n
  induction n with
  | zero =>
    intro i a b hi h
    have : i = 100 := by omega
    subst this
    refine goV (n := 80) [(117, pf_X6_tryGait), (50, pf_X4_tells), (103, pf_X6_tell)] [20] (T_cons (s_X6_tryGait hd) (T_cons (s_X4_tells (by omega)) (T_cons (s_X6_tell (by omega)) T_nil))) ?_
    simp only [dX6_gait_0, dX6_gait_1, dX6_gait_2, dX6_gait_3, dX6_gait_6, dX6_gait_7, dX6_gait_8, dX6_gait_11, dX6_gait_12, dX6_gait_13, dX6_gait_16, dX6_gait_17, dX6_gait_18, dX6_gait_20, dX6_gait_22, dX6_gait_24, dX6_gait_27, dX6_gait_28, dX6_gait_29, dX6_gait_31, dX6_gait_34, dX6_gait_35, dX6_gait_36, dX6_gait_39, dX6_gait_40, dX6_gait_41, dX6_gait_44, dX6_gait_47, dX6_gait_50, dX6_gait_53, dX6_gait_55, dX6_gait_56, dX6_gait_59, dX6_gait_62, dX6_gait_63, dX6_gait_65, dX6_gait_68, cr_6_173, cr_6_208, cr_6_211, cr_6_69, fr_6_154, fr_6_25, fr_6_50, kr_6_172, skr_6_172, al_10, al_11, al_12, al_13, al_14, al_16, al_17, al_18, al_19, al_2, al_20, al_21, al_23, al_24, al_27, al_28, al_29, al_3, al_30, al_31, al_32, al_34, al_36, al_37, al_38, al_39, al_4, al_40, al_41, al_42, al_43, al_45, al_46, al_47, al_48, al_49, al_5, al_52, al_53, al_54, al_55, al_56, al_57, al_58, al_6, al_60, al_61, al_62, al_63, al_64, al_65, al_66, al_67, al_69, al_7, al_70, al_71, al_72, al_73, al_9, cat_i, cat_l, cat_r, cat_u, gf_4_0_22, gf_4_0_33, gf_5_3_0, gf_5_7_0, pcl_0, pcl_1, pcl_100, pcl_101, pcl_102, pcl_103, pcl_104, pcl_105, pcl_106, pcl_107, pcl_108, pcl_109, pcl_110, pcl_111, pcl_112, pcl_15, pcl_22, pcl_25, pcl_26, pcl_33, pcl_44, pcl_50, pcl_59, pcl_8, rOK_i, rOK_z, v_aload_0, v_bipush_99, v_getfield, v_goto, v_ic_gt, v_iconst_0, v_if_eq, v_iinc_4, v_iload_1, v_iload_2, v_iload_3, v_iload_4, v_invv, v_ireturn, v_istore_3, v_istore_4, v_ldc, v_pop, vcV_2_5, vcV_3_3, vcV_3_5, vgf_i, vgf_r, vgf_s, vld_i, vld_s, vc_d, rr_0, rr_1, csT_h, csT_t, csT_n, bI_0, bI_1, bI_z, bT, List.mem_cons, List.not_mem_nil, List.length_cons, List.length_nil, ite_not, ↓reduceIte, true_and, and_true, not_true_eq_false, not_false_eq_true, false_or, or_false, or_true, true_or, Nat.reduceAdd, Nat.reduceEqDiff, Nat.reduceBEq, Nat.reduceLeDiff, Nat.reduceLT, Nat.reduceSub, Int.reduceAdd, Int.reduceLE, Int.reduceLT, Int.reduceToNat, Int.reduceNeg, Int.reduceNatCast', reduceCtorEq, Int32.reduceOfInt, Int32.reduceOfNat, Int32.reduceToNatClampNeg, Int32.reduceToInt, i10, i01, tl_3, show ((99 : Int32) < nI 100) = True from by decide]
    have := h a b
    rw [lstF, if_pos rfl] at this
    exact this
  | succ n ih =>
    intro i a b hi h
    refine goV (n := 80) [(117, pf_X6_tryGait), (50, pf_X4_tells), (103, pf_X6_tell)] [20] (T_cons (s_X6_tryGait hd) (T_cons (s_X4_tells (by omega)) (T_cons (s_X6_tell (by omega)) T_nil))) ?_
    simp only [dX6_gait_0, dX6_gait_1, dX6_gait_2, dX6_gait_3, dX6_gait_6, dX6_gait_7, dX6_gait_8, dX6_gait_11, dX6_gait_12, dX6_gait_13, dX6_gait_16, dX6_gait_17, dX6_gait_18, dX6_gait_20, dX6_gait_22, dX6_gait_24, dX6_gait_27, dX6_gait_28, dX6_gait_29, dX6_gait_31, dX6_gait_34, dX6_gait_35, dX6_gait_36, dX6_gait_39, dX6_gait_40, dX6_gait_41, dX6_gait_44, dX6_gait_47, dX6_gait_50, dX6_gait_53, dX6_gait_55, dX6_gait_56, dX6_gait_59, dX6_gait_62, dX6_gait_63, dX6_gait_65, dX6_gait_68, cr_6_173, cr_6_208, cr_6_211, cr_6_69, fr_6_154, fr_6_25, fr_6_50, kr_6_172, skr_6_172, al_10, al_11, al_12, al_13, al_14, al_16, al_17, al_18, al_19, al_2, al_20, al_21, al_23, al_24, al_27, al_28, al_29, al_3, al_30, al_31, al_32, al_34, al_36, al_37, al_38, al_39, al_4, al_40, al_41, al_42, al_43, al_45, al_46, al_47, al_48, al_49, al_5, al_52, al_53, al_54, al_55, al_56, al_57, al_58, al_6, al_60, al_61, al_62, al_63, al_64, al_65, al_66, al_67, al_69, al_7, al_70, al_71, al_72, al_73, al_9, cat_i, cat_l, cat_r, cat_u, gf_4_0_22, gf_4_0_33, gf_5_3_0, gf_5_7_0, pcl_0, pcl_1, pcl_100, pcl_101, pcl_102, pcl_103, pcl_104, pcl_105, pcl_106, pcl_107, pcl_108, pcl_109, pcl_110, pcl_111, pcl_112, pcl_15, pcl_22, pcl_25, pcl_26, pcl_33, pcl_44, pcl_50, pcl_59, pcl_8, rOK_i, rOK_z, v_aload_0, v_bipush_99, v_getfield, v_goto, v_ic_gt, v_iconst_0, v_if_eq, v_iinc_4, v_iload_1, v_iload_2, v_iload_3, v_iload_4, v_invv, v_ireturn, v_istore_3, v_istore_4, v_ldc, v_pop, vcV_2_5, vcV_3_3, vcV_3_5, vgf_i, vgf_r, vgf_s, vld_i, vld_s, vc_d, rr_0, rr_1, csT_h, csT_t, csT_n, bI_0, bI_1, bI_z, bT, List.mem_cons, List.not_mem_nil, List.length_cons, List.length_nil, ite_not, ↓reduceIte, true_and, and_true, not_true_eq_false, not_false_eq_true, false_or, or_false, or_true, true_or, Nat.reduceAdd, Nat.reduceEqDiff, Nat.reduceBEq, Nat.reduceLeDiff, Nat.reduceLT, Nat.reduceSub, Int.reduceAdd, Int.reduceLE, Int.reduceLT, Int.reduceToNat, Int.reduceNeg, Int.reduceNatCast', reduceCtorEq, Int32.reduceOfInt, Int32.reduceOfNat, Int32.reduceToNatClampNeg, Int32.reduceToInt, i10, i01, pe_X6_tryGait, pe_X4_tells, jk_n, w1, w2, w3, hasW, gt99 (show i < 100 by omega) (Nat.le_refl _), xwg_jk, nI_1, jk_jk, jk_23, sh_jk hs, he, nI_clamp (show m < 2 ^ 31 by omega)]
    intro a' b' hb
    refine ⟨⟨hs, m, hm, rfl⟩, ?_⟩
    rw [telB_congr hb m 0 (by omega)]
    by_cases hc : telB (M (52 + (s).toNatClampNeg)) (xwg M (w).toNatClampNeg (nI i)).2.2 m 0 = true
    · rw [if_pos hc]
      have := h a' b'
      rw [lstF, if_pos hc, if_neg (fun z => absurd (z ▸ nI_pos' (n := i) (by omega)) (by decide))] at this
      exact this
    · rw [if_neg hc]
      exact ih (i + 1) _ _ (by omega) (fun a b => by have := h a b; rw [lstF, if_neg hc] at this; exact this)
def pf_X6_gait : PF := fun args M k => match args with
  | [.ref o, .int s, .int w] => (o = 0 ∧ ZV M) ∧ (if sfF M s w = 0 then (∀ a b, if lstF (fun g => telB (M (52 + (s).toNatClampNeg)) (xwg M (w).toNatClampNeg (nI g)).2.2 (M 57 (s).toNatClampNeg).toNatClampNeg 0 = true) 100 0 = -1 then k (.int (-1000004)) (tellM (jk M a b) 3) else k (.int (lstF (fun g => telB (M (52 + (s).toNatClampNeg)) (xwg M (w).toNatClampNeg (nI g)).2.2 (M 57 (s).toNatClampNeg).toNatClampNeg 0 = true) 100 0)) (jk M a b)) else k (.int (sfF M s w)) (tellM M (-1000001 - sfF M s w).toNatClampNeg))
  | _ => False
theorem pe_X6_gait {o : Nat} {s : Int32} {w : Int32} {M : Mem} {k : Value → Mem → Prop} : pf_X6_gait [.ref o, .int s, .int w] M k = ((o = 0 ∧ ZV M) ∧ (if sfF M s w = 0 then (∀ a b, if lstF (fun g => telB (M (52 + (s).toNatClampNeg)) (xwg M (w).toNatClampNeg (nI g)).2.2 (M 57 (s).toNatClampNeg).toNatClampNeg 0 = true) 100 0 = -1 then k (.int (-1000004)) (tellM (jk M a b) 3) else k (.int (lstF (fun g => telB (M (52 + (s).toNatClampNeg)) (xwg M (w).toNatClampNeg (nI g)).2.2 (M 57 (s).toNatClampNeg).toNatClampNeg 0 = true) 100 0)) (jk M a b)) else k (.int (sfF M s w)) (tellM M (-1000001 - sfF M s w).toNatClampNeg))) := rfl
set_option maxRecDepth 100000 in
set_option maxHeartbeats 4000000 in
theorem c_X6_gait {d : Nat} (hd : 5 ≤ d) {o : Nat} {s : Int32} {w : Int32} {M : Mem} {k : Value → Mem → Prop} (h : (o = 0 ∧ ZV M) ∧ (if sfF M s w = 0 then (∀ a b, if lstF (fun g => telB (M (52 + (s).toNatClampNeg)) (xwg M (w).toNatClampNeg (nI g)).2.2 (M 57 (s).toNatClampNeg).toNatClampNeg 0 = true) 100 0 = -1 then k (.int (-1000004)) (tellM (jk M a b) 3) else k (.int (lstF (fun g => telB (M (52 + (s).toNatClampNeg)) (xwg M (w).toNatClampNeg (nI g)).2.2 (M 57 (s).toNatClampNeg).toNatClampNeg 0 = true) 100 0)) (jk M a b)) else k (.int (sfF M s w)) (tellM M (-1000001 - sfF M s w).toNatClampNeg))) : CallP d 83 [.ref o, .int s, .int w] M k := by
  obtain ⟨hp, h⟩ := h
  obtain ⟨d, rfl⟩ : ∃ d', d = d' + 1 := ⟨d - 1, by omega⟩
  obtain ⟨rfl, hz⟩ := hp
  · refine enterV (n := 80) [(121, pf_X6_swayFinding), (103, pf_X6_tell)] [20] mI_83 (by decide) (Nat.le_of_ble_eq_true rfl) (T_cons (s_X6_swayFinding (by omega)) (T_cons (s_X6_tell (by omega)) T_nil)) ?_
    rw [show lent 5 ([.ref 0, .int s, .int w] : List Value) = [.ref 0, .int s, .int w, .retAddr 0, .retAddr 0] from rfl]
    simp only [dX6_gait_0, dX6_gait_1, dX6_gait_2, dX6_gait_3, dX6_gait_6, dX6_gait_7, dX6_gait_8, dX6_gait_11, dX6_gait_12, dX6_gait_13, dX6_gait_16, dX6_gait_17, dX6_gait_18, dX6_gait_20, dX6_gait_22, dX6_gait_24, dX6_gait_27, dX6_gait_28, dX6_gait_29, dX6_gait_31, dX6_gait_34, dX6_gait_35, dX6_gait_36, dX6_gait_39, dX6_gait_40, dX6_gait_41, dX6_gait_44, dX6_gait_47, dX6_gait_50, dX6_gait_53, dX6_gait_55, dX6_gait_56, dX6_gait_59, dX6_gait_62, dX6_gait_63, dX6_gait_65, dX6_gait_68, cr_6_173, cr_6_208, cr_6_211, cr_6_69, fr_6_154, fr_6_25, fr_6_50, kr_6_172, skr_6_172, al_10, al_11, al_12, al_13, al_14, al_16, al_17, al_18, al_19, al_2, al_20, al_21, al_23, al_24, al_27, al_28, al_29, al_3, al_30, al_31, al_32, al_34, al_36, al_37, al_38, al_39, al_4, al_40, al_41, al_42, al_43, al_45, al_46, al_47, al_48, al_49, al_5, al_52, al_53, al_54, al_55, al_56, al_57, al_58, al_6, al_60, al_61, al_62, al_63, al_64, al_65, al_66, al_67, al_69, al_7, al_70, al_71, al_72, al_73, al_9, cat_i, cat_l, cat_r, cat_u, gf_4_0_22, gf_4_0_33, gf_5_3_0, gf_5_7_0, pcl_0, pcl_1, pcl_100, pcl_101, pcl_102, pcl_103, pcl_104, pcl_105, pcl_106, pcl_107, pcl_108, pcl_109, pcl_110, pcl_111, pcl_112, pcl_15, pcl_22, pcl_25, pcl_26, pcl_33, pcl_44, pcl_50, pcl_59, pcl_8, rOK_i, rOK_z, v_aload_0, v_bipush_99, v_getfield, v_goto, v_ic_gt, v_iconst_0, v_if_eq, v_iinc_4, v_iload_1, v_iload_2, v_iload_3, v_iload_4, v_invv, v_ireturn, v_istore_3, v_istore_4, v_ldc, v_pop, vcV_2_5, vcV_3_3, vcV_3_5, vgf_i, vgf_r, vgf_s, vld_i, vld_s, vc_d, rr_0, rr_1, csT_h, csT_t, csT_n, bI_0, bI_1, bI_z, bT, List.mem_cons, List.not_mem_nil, List.length_cons, List.length_nil, ite_not, ↓reduceIte, true_and, and_true, not_true_eq_false, not_false_eq_true, false_or, or_false, or_true, true_or, Nat.reduceAdd, Nat.reduceEqDiff, Nat.reduceBEq, Nat.reduceLeDiff, Nat.reduceLT, Nat.reduceSub, Int.reduceAdd, Int.reduceLE, Int.reduceLT, Int.reduceToNat, Int.reduceNeg, Int.reduceNatCast', reduceCtorEq, Int32.reduceOfInt, Int32.reduceOfNat, Int32.reduceToNatClampNeg, Int32.reduceToInt, i10, i01, pe_X6_swayFinding, tl_0, tl_1, tl_2, tl_3, tl_4, tl_5, tl_6]
    by_cases h0 : sfF M s w = 0
    · rw [if_pos h0] at h ⊢
      obtain ⟨h1, h2, h3⟩ := sf0 h0
      have hs := fd0 h1
      obtain ⟨m, hm, he⟩ := zv12 hz hs h3
      rw [he, nI_clamp (by omega)] at h
      have := lp_gait (d := d) (by omega) (k := k) (f := sfF M s w) h2 hs hm he 100 0 (M 22) (M 23) rfl h
      rw [jk_self] at this
      exact this
    · rw [if_neg h0] at h ⊢
      rw [sf_tell h0]
      simp only [dX6_gait_0, dX6_gait_1, dX6_gait_2, dX6_gait_3, dX6_gait_6, dX6_gait_7, dX6_gait_8, dX6_gait_11, dX6_gait_12, dX6_gait_13, dX6_gait_16, dX6_gait_17, dX6_gait_18, dX6_gait_20, dX6_gait_22, dX6_gait_24, dX6_gait_27, dX6_gait_28, dX6_gait_29, dX6_gait_31, dX6_gait_34, dX6_gait_35, dX6_gait_36, dX6_gait_39, dX6_gait_40, dX6_gait_41, dX6_gait_44, dX6_gait_47, dX6_gait_50, dX6_gait_53, dX6_gait_55, dX6_gait_56, dX6_gait_59, dX6_gait_62, dX6_gait_63, dX6_gait_65, dX6_gait_68, cr_6_173, cr_6_208, cr_6_211, cr_6_69, fr_6_154, fr_6_25, fr_6_50, kr_6_172, skr_6_172, al_10, al_11, al_12, al_13, al_14, al_16, al_17, al_18, al_19, al_2, al_20, al_21, al_23, al_24, al_27, al_28, al_29, al_3, al_30, al_31, al_32, al_34, al_36, al_37, al_38, al_39, al_4, al_40, al_41, al_42, al_43, al_45, al_46, al_47, al_48, al_49, al_5, al_52, al_53, al_54, al_55, al_56, al_57, al_58, al_6, al_60, al_61, al_62, al_63, al_64, al_65, al_66, al_67, al_69, al_7, al_70, al_71, al_72, al_73, al_9, cat_i, cat_l, cat_r, cat_u, gf_4_0_22, gf_4_0_33, gf_5_3_0, gf_5_7_0, pcl_0, pcl_1, pcl_100, pcl_101, pcl_102, pcl_103, pcl_104, pcl_105, pcl_106, pcl_107, pcl_108, pcl_109, pcl_110, pcl_111, pcl_112, pcl_15, pcl_22, pcl_25, pcl_26, pcl_33, pcl_44, pcl_50, pcl_59, pcl_8, rOK_i, rOK_z, v_aload_0, v_bipush_99, v_getfield, v_goto, v_ic_gt, v_iconst_0, v_if_eq, v_iinc_4, v_iload_1, v_iload_2, v_iload_3, v_iload_4, v_invv, v_ireturn, v_istore_3, v_istore_4, v_ldc, v_pop, vcV_2_5, vcV_3_3, vcV_3_5, vgf_i, vgf_r, vgf_s, vld_i, vld_s, vc_d, rr_0, rr_1, csT_h, csT_t, csT_n, bI_0, bI_1, bI_z, bT, List.mem_cons, List.not_mem_nil, List.length_cons, List.length_nil, ite_not, ↓reduceIte, true_and, and_true, not_true_eq_false, not_false_eq_true, false_or, or_false, or_true, true_or, Nat.reduceAdd, Nat.reduceEqDiff, Nat.reduceBEq, Nat.reduceLeDiff, Nat.reduceLT, Nat.reduceSub, Int.reduceAdd, Int.reduceLE, Int.reduceLT, Int.reduceToNat, Int.reduceNeg, Int.reduceNatCast', reduceCtorEq, Int32.reduceOfInt, Int32.reduceOfNat, Int32.reduceToNatClampNeg, Int32.reduceToInt, i10, i01, pe_X6_swayFinding, tl_0, tl_1, tl_2, tl_3, tl_4, tl_5, tl_6]
      exact h

theorem s_X6_gait {d : Nat} (hd : 5 ≤ d) : Snd d 83 pf_X6_gait := by
  intro args M k h
  unfold pf_X6_gait at h
  split at h
  · exact c_X6_gait hd h
  · exact h.elim
set_option maxRecDepth 100000 in
set_option maxHeartbeats 4000000 in
theorem lp_who {d : Nat} (hd : 4 ≤ d) {M : Mem} {k : Value → Mem → Prop} {s f : Int32} {m q : Nat} (hq : q ≤ 6) (hn : M 1 6 = nI q) (hs : shOK s) (hm : m ≤ 12) (he : M 57 (s).toNatClampNeg = nI m) : ∀ (n i : Nat) (c : Int32) (a b : Nat → Int32), i + n = q → (∀ a b, k (.int (stF (fun j => telB (M (52 + (s).toNatClampNeg)) (xw M j).2.2 m 0 = true) n i c)) (jk M a b)) → WP (6, yX6_who, cX6_who, 5, (some .int)) (d + 1) k 45 [.ref 0, .int s, .int f, .int c, .int (nI i)] [] (jk M a b) := by
  intro n
  induction n with
  | zero =>
    intro i c a b hi h
    have c1 : nI q ≤ nI i := nI_le (by omega) (by omega)
    refine goV (n := 80) [(116, pf_X6_tryWalk), (50, pf_X4_tells)] [45] (T_cons (s_X6_tryWalk hd) (T_cons (s_X4_tells (by omega)) T_nil)) ?_
    simp only [dX6_who_0, dX6_who_1, dX6_who_4, dX6_who_5, dX6_who_8, dX6_who_9, dX6_who_10, dX6_who_13, dX6_who_14, dX6_who_15, dX6_who_18, dX6_who_19, dX6_who_20, dX6_who_23, dX6_who_26, dX6_who_27, dX6_who_28, dX6_who_30, dX6_who_33, dX6_who_34, dX6_who_36, dX6_who_39, dX6_who_40, dX6_who_41, dX6_who_42, dX6_who_43, dX6_who_45, dX6_who_47, dX6_who_48, dX6_who_51, dX6_who_54, dX6_who_57, dX6_who_58, dX6_who_60, dX6_who_63, dX6_who_64, dX6_who_65, dX6_who_68, dX6_who_69, dX6_who_70, dX6_who_73, dX6_who_76, dX6_who_79, dX6_who_82, dX6_who_83, dX6_who_84, dX6_who_86, dX6_who_87, dX6_who_88, dX6_who_89, dX6_who_92, dX6_who_95, dX6_who_96, cr_6_148, cr_6_211, cr_6_215, cr_6_69, fr_6_12, fr_6_145, fr_6_154, fr_6_218, fr_6_25, fr_6_50, kr_6_121, skr_6_121, al_10, al_11, al_12, al_13, al_14, al_16, al_17, al_18, al_19, al_2, al_20, al_21, al_23, al_24, al_27, al_28, al_29, al_3, al_30, al_31, al_32, al_34, al_36, al_37, al_38, al_39, al_4, al_40, al_41, al_42, al_43, al_45, al_46, al_47, al_48, al_49, al_5, al_52, al_53, al_54, al_55, al_56, al_57, al_58, al_6, al_60, al_61, al_62, al_63, al_64, al_65, al_66, al_67, al_69, al_7, al_70, al_71, al_72, al_73, al_9, cat_i, cat_l, cat_r, cat_u, gf_0_6_1, gf_0_6_15, gf_0_6_26, gf_0_6_8, gf_3_2_50, gf_4_0_22, gf_4_0_33, gf_5_0_0, gf_5_3_0, gf_5_7_0, pcl_0, pcl_1, pcl_100, pcl_101, pcl_102, pcl_103, pcl_104, pcl_105, pcl_106, pcl_107, pcl_108, pcl_109, pcl_110, pcl_111, pcl_112, pcl_15, pcl_22, pcl_25, pcl_26, pcl_33, pcl_44, pcl_50, pcl_59, pcl_8, pft_0_6, rOK_i, rOK_z, v_aload_0, v_bipush_12, v_getfield, v_goto, v_iaload, v_ic_ge, v_ic_le, v_iconst_0, v_iconst_1, v_if_eq, v_iinc_4, v_iload_1, v_iload_2, v_iload_3, v_iload_4, v_invv, v_ior, v_ireturn, v_ishl, v_istore_2, v_istore_3, v_istore_4, v_ldc, v_pop, vcV_2_3, vcV_2_5, vcV_3_3, vgf_i, vgf_r, vgf_s, vld_i, vld_s, vc_d, rr_0, rr_1, csT_h, csT_t, csT_n, bI_0, bI_1, bI_z, bT, List.mem_cons, List.not_mem_nil, List.length_cons, List.length_nil, ite_not, ↓reduceIte, true_and, and_true, not_true_eq_false, not_false_eq_true, false_or, or_false, or_true, true_or, Nat.reduceAdd, Nat.reduceEqDiff, Nat.reduceBEq, Nat.reduceLeDiff, Nat.reduceLT, Nat.reduceSub, Int.reduceAdd, Int.reduceLE, Int.reduceLT, Int.reduceToNat, Int.reduceNeg, Int.reduceNatCast', reduceCtorEq, Int32.reduceOfInt, Int32.reduceOfNat, Int32.reduceToNatClampNeg, Int32.reduceToInt, i10, i01, jk_n, hn, c1]
    exact h a b
  | succ n ih =>
    intro i c a b hi h
    have c1 : ¬ nI q ≤ nI i := nI_ge (by omega) (by omega)
    have c3 : (nI i).toNatClampNeg = i := nI_clamp (by omega)
    obtain ⟨w1, w2, w3⟩ := has_nI hq hn (show i < q by omega)
    rw [hn] at w2
    refine goV (n := 80) [(116, pf_X6_tryWalk), (50, pf_X4_tells)] [45] (T_cons (s_X6_tryWalk hd) (T_cons (s_X4_tells (by omega)) T_nil)) ?_
    simp only [dX6_who_0, dX6_who_1, dX6_who_4, dX6_who_5, dX6_who_8, dX6_who_9, dX6_who_10, dX6_who_13, dX6_who_14, dX6_who_15, dX6_who_18, dX6_who_19, dX6_who_20, dX6_who_23, dX6_who_26, dX6_who_27, dX6_who_28, dX6_who_30, dX6_who_33, dX6_who_34, dX6_who_36, dX6_who_39, dX6_who_40, dX6_who_41, dX6_who_42, dX6_who_43, dX6_who_45, dX6_who_47, dX6_who_48, dX6_who_51, dX6_who_54, dX6_who_57, dX6_who_58, dX6_who_60, dX6_who_63, dX6_who_64, dX6_who_65, dX6_who_68, dX6_who_69, dX6_who_70, dX6_who_73, dX6_who_76, dX6_who_79, dX6_who_82, dX6_who_83, dX6_who_84, dX6_who_86, dX6_who_87, dX6_who_88, dX6_who_89, dX6_who_92, dX6_who_95, dX6_who_96, cr_6_148, cr_6_211, cr_6_215, cr_6_69, fr_6_12, fr_6_145, fr_6_154, fr_6_218, fr_6_25, fr_6_50, kr_6_121, skr_6_121, al_10, al_11, al_12, al_13, al_14, al_16, al_17, al_18, al_19, al_2, al_20, al_21, al_23, al_24, al_27, al_28, al_29, al_3, al_30, al_31, al_32, al_34, al_36, al_37, al_38, al_39, al_4, al_40, al_41, al_42, al_43, al_45, al_46, al_47, al_48, al_49, al_5, al_52, al_53, al_54, al_55, al_56, al_57, al_58, al_6, al_60, al_61, al_62, al_63, al_64, al_65, al_66, al_67, al_69, al_7, al_70, al_71, al_72, al_73, al_9, cat_i, cat_l, cat_r, cat_u, gf_0_6_1, gf_0_6_15, gf_0_6_26, gf_0_6_8, gf_3_2_50, gf_4_0_22, gf_4_0_33, gf_5_0_0, gf_5_3_0, gf_5_7_0, pcl_0, pcl_1, pcl_100, pcl_101, pcl_102, pcl_103, pcl_104, pcl_105, pcl_106, pcl_107, pcl_108, pcl_109, pcl_110, pcl_111, pcl_112, pcl_15, pcl_22, pcl_25, pcl_26, pcl_33, pcl_44, pcl_50, pcl_59, pcl_8, pft_0_6, rOK_i, rOK_z, v_aload_0, v_bipush_12, v_getfield, v_goto, v_iaload, v_ic_ge, v_ic_le, v_iconst_0, v_iconst_1, v_if_eq, v_iinc_4, v_iload_1, v_iload_2, v_iload_3, v_iload_4, v_invv, v_ior, v_ireturn, v_ishl, v_istore_2, v_istore_3, v_istore_4, v_ldc, v_pop, vcV_2_3, vcV_2_5, vcV_3_3, vgf_i, vgf_r, vgf_s, vld_i, vld_s, vc_d, rr_0, rr_1, csT_h, csT_t, csT_n, bI_0, bI_1, bI_z, bT, List.mem_cons, List.not_mem_nil, List.length_cons, List.length_nil, ite_not, ↓reduceIte, true_and, and_true, not_true_eq_false, not_false_eq_true, false_or, or_false, or_true, true_or, Nat.reduceAdd, Nat.reduceEqDiff, Nat.reduceBEq, Nat.reduceLeDiff, Nat.reduceLT, Nat.reduceSub, Int.reduceAdd, Int.reduceLE, Int.reduceLT, Int.reduceToNat, Int.reduceNeg, Int.reduceNatCast', reduceCtorEq, Int32.reduceOfInt, Int32.reduceOfNat, Int32.reduceToNatClampNeg, Int32.reduceToInt, i10, i01, pe_X6_tryWalk, pe_X4_tells, jk_n, hn, c1, c3, w1, w2, w3, hasW, xw_jk, nI_1, jk_jk, jk_23, sh_jk hs, he, nI_clamp (show m < 2 ^ 31 by omega)]
    intro a' b' _ hb
    refine ⟨⟨hs, m, hm, rfl⟩, ?_⟩
    rw [telB_congr hb m 0 (by omega)]
    by_cases hc : telB (M (52 + (s).toNatClampNeg)) (xw M i).2.2 m 0 = true
    · rw [if_pos hc]
      exact ih (i + 1) _ _ _ (by omega) (fun a b => by have := h a b; rw [stF, if_pos hc] at this; exact this)
    · rw [if_neg hc]
      exact ih (i + 1) _ _ _ (by omega) (fun a b => by have := h a b; rw [stF, if_neg hc] at this; exact this)
def pf_X6_who : PF := fun args M k => match args with
  | [.ref o, .int s] => (o = 0 ∧ ZV M ∧ IV M) ∧ (if fdF M s = 0 then (if M 57 (s).toNatClampNeg ≤ 12 then ∀ a b, k (.int (stF (fun j => telB (M (52 + (s).toNatClampNeg)) (xw M j).2.2 (M 57 (s).toNatClampNeg).toNatClampNeg 0 = true) (M 1 6).toNatClampNeg 0 0)) (jk M a b) else k (.int (-1000005)) (tellM M 4)) else k (.int (fdF M s)) (tellM M (-1000001 - fdF M s).toNatClampNeg))
  | _ => False
theorem pe_X6_who {o : Nat} {s : Int32} {M : Mem} {k : Value → Mem → Prop} : pf_X6_who [.ref o, .int s] M k = ((o = 0 ∧ ZV M ∧ IV M) ∧ (if fdF M s = 0 then (if M 57 (s).toNatClampNeg ≤ 12 then ∀ a b, k (.int (stF (fun j => telB (M (52 + (s).toNatClampNeg)) (xw M j).2.2 (M 57 (s).toNatClampNeg).toNatClampNeg 0 = true) (M 1 6).toNatClampNeg 0 0)) (jk M a b) else k (.int (-1000005)) (tellM M 4)) else k (.int (fdF M s)) (tellM M (-1000001 - fdF M s).toNatClampNeg))) := rfl
set_option maxRecDepth 100000 in
set_option maxHeartbeats 4000000 in
theorem c_X6_who {d : Nat} (hd : 5 ≤ d) {o : Nat} {s : Int32} {M : Mem} {k : Value → Mem → Prop} (h : (o = 0 ∧ ZV M ∧ IV M) ∧ (if fdF M s = 0 then (if M 57 (s).toNatClampNeg ≤ 12 then ∀ a b, k (.int (stF (fun j => telB (M (52 + (s).toNatClampNeg)) (xw M j).2.2 (M 57 (s).toNatClampNeg).toNatClampNeg 0 = true) (M 1 6).toNatClampNeg 0 0)) (jk M a b) else k (.int (-1000005)) (tellM M 4)) else k (.int (fdF M s)) (tellM M (-1000001 - fdF M s).toNatClampNeg))) : CallP d 84 [.ref o, .int s] M k := by
  obtain ⟨hp, h⟩ := h
  obtain ⟨d, rfl⟩ : ∃ d', d = d' + 1 := ⟨d - 1, by omega⟩
  obtain ⟨rfl, hz, q, hq, hn⟩ := hp
  · refine enterV (n := 80) [(46, pf_X4_finding), (103, pf_X6_tell)] [45] mI_84 (by decide) (Nat.le_of_ble_eq_true rfl) (T_cons (s_X4_finding (by omega)) (T_cons (s_X6_tell (by omega)) T_nil)) ?_
    rw [show lent 5 ([.ref 0, .int s] : List Value) = [.ref 0, .int s, .retAddr 0, .retAddr 0, .retAddr 0] from rfl]
    simp only [dX6_who_0, dX6_who_1, dX6_who_4, dX6_who_5, dX6_who_8, dX6_who_9, dX6_who_10, dX6_who_13, dX6_who_14, dX6_who_15, dX6_who_18, dX6_who_19, dX6_who_20, dX6_who_23, dX6_who_26, dX6_who_27, dX6_who_28, dX6_who_30, dX6_who_33, dX6_who_34, dX6_who_36, dX6_who_39, dX6_who_40, dX6_who_41, dX6_who_42, dX6_who_43, dX6_who_45, dX6_who_47, dX6_who_48, dX6_who_51, dX6_who_54, dX6_who_57, dX6_who_58, dX6_who_60, dX6_who_63, dX6_who_64, dX6_who_65, dX6_who_68, dX6_who_69, dX6_who_70, dX6_who_73, dX6_who_76, dX6_who_79, dX6_who_82, dX6_who_83, dX6_who_84, dX6_who_86, dX6_who_87, dX6_who_88, dX6_who_89, dX6_who_92, dX6_who_95, dX6_who_96, cr_6_148, cr_6_211, cr_6_215, cr_6_69, fr_6_12, fr_6_145, fr_6_154, fr_6_218, fr_6_25, fr_6_50, kr_6_121, skr_6_121, al_10, al_11, al_12, al_13, al_14, al_16, al_17, al_18, al_19, al_2, al_20, al_21, al_23, al_24, al_27, al_28, al_29, al_3, al_30, al_31, al_32, al_34, al_36, al_37, al_38, al_39, al_4, al_40, al_41, al_42, al_43, al_45, al_46, al_47, al_48, al_49, al_5, al_52, al_53, al_54, al_55, al_56, al_57, al_58, al_6, al_60, al_61, al_62, al_63, al_64, al_65, al_66, al_67, al_69, al_7, al_70, al_71, al_72, al_73, al_9, cat_i, cat_l, cat_r, cat_u, gf_0_6_1, gf_0_6_15, gf_0_6_26, gf_0_6_8, gf_3_2_50, gf_4_0_22, gf_4_0_33, gf_5_0_0, gf_5_3_0, gf_5_7_0, pcl_0, pcl_1, pcl_100, pcl_101, pcl_102, pcl_103, pcl_104, pcl_105, pcl_106, pcl_107, pcl_108, pcl_109, pcl_110, pcl_111, pcl_112, pcl_15, pcl_22, pcl_25, pcl_26, pcl_33, pcl_44, pcl_50, pcl_59, pcl_8, pft_0_6, rOK_i, rOK_z, v_aload_0, v_bipush_12, v_getfield, v_goto, v_iaload, v_ic_ge, v_ic_le, v_iconst_0, v_iconst_1, v_if_eq, v_iinc_4, v_iload_1, v_iload_2, v_iload_3, v_iload_4, v_invv, v_ior, v_ireturn, v_ishl, v_istore_2, v_istore_3, v_istore_4, v_ldc, v_pop, vcV_2_3, vcV_2_5, vcV_3_3, vgf_i, vgf_r, vgf_s, vld_i, vld_s, vc_d, rr_0, rr_1, csT_h, csT_t, csT_n, bI_0, bI_1, bI_z, bT, List.mem_cons, List.not_mem_nil, List.length_cons, List.length_nil, ite_not, ↓reduceIte, true_and, and_true, not_true_eq_false, not_false_eq_true, false_or, or_false, or_true, true_or, Nat.reduceAdd, Nat.reduceEqDiff, Nat.reduceBEq, Nat.reduceLeDiff, Nat.reduceLT, Nat.reduceSub, Int.reduceAdd, Int.reduceLE, Int.reduceLT, Int.reduceToNat, Int.reduceNeg, Int.reduceNatCast', reduceCtorEq, Int32.reduceOfInt, Int32.reduceOfNat, Int32.reduceToNatClampNeg, Int32.reduceToInt, i10, i01, pe_X4_finding, tl_0, tl_1, tl_2, tl_3, tl_4, tl_5, tl_6]
    by_cases h0 : fdF M s = 0
    · rw [if_pos h0] at h ⊢
      have hs := fd0 h0
      refine ⟨bd hs.1 hs.2 rfl, ?_⟩
      by_cases h3 : M 57 (s).toNatClampNeg ≤ 12
      · rw [if_pos h3] at h ⊢
        obtain ⟨m, hm, he⟩ := zv12 hz hs h3
        rw [he, nI_clamp (show m < 2 ^ 31 by omega), hn, nI_clamp (by omega)] at h
        have := lp_who (d := d) (by omega) (k := k) (f := fdF M s) hq hn hs hm he q 0 0 (M 22) (M 23) (by omega) h
        rw [jk_self] at this
        exact this
      · rw [if_neg h3] at h ⊢
        exact h
    · rw [if_neg h0] at h ⊢
      rw [fd_tell h0]
      simp only [dX6_who_0, dX6_who_1, dX6_who_4, dX6_who_5, dX6_who_8, dX6_who_9, dX6_who_10, dX6_who_13, dX6_who_14, dX6_who_15, dX6_who_18, dX6_who_19, dX6_who_20, dX6_who_23, dX6_who_26, dX6_who_27, dX6_who_28, dX6_who_30, dX6_who_33, dX6_who_34, dX6_who_36, dX6_who_39, dX6_who_40, dX6_who_41, dX6_who_42, dX6_who_43, dX6_who_45, dX6_who_47, dX6_who_48, dX6_who_51, dX6_who_54, dX6_who_57, dX6_who_58, dX6_who_60, dX6_who_63, dX6_who_64, dX6_who_65, dX6_who_68, dX6_who_69, dX6_who_70, dX6_who_73, dX6_who_76, dX6_who_79, dX6_who_82, dX6_who_83, dX6_who_84, dX6_who_86, dX6_who_87, dX6_who_88, dX6_who_89, dX6_who_92, dX6_who_95, dX6_who_96, cr_6_148, cr_6_211, cr_6_215, cr_6_69, fr_6_12, fr_6_145, fr_6_154, fr_6_218, fr_6_25, fr_6_50, kr_6_121, skr_6_121, al_10, al_11, al_12, al_13, al_14, al_16, al_17, al_18, al_19, al_2, al_20, al_21, al_23, al_24, al_27, al_28, al_29, al_3, al_30, al_31, al_32, al_34, al_36, al_37, al_38, al_39, al_4, al_40, al_41, al_42, al_43, al_45, al_46, al_47, al_48, al_49, al_5, al_52, al_53, al_54, al_55, al_56, al_57, al_58, al_6, al_60, al_61, al_62, al_63, al_64, al_65, al_66, al_67, al_69, al_7, al_70, al_71, al_72, al_73, al_9, cat_i, cat_l, cat_r, cat_u, gf_0_6_1, gf_0_6_15, gf_0_6_26, gf_0_6_8, gf_3_2_50, gf_4_0_22, gf_4_0_33, gf_5_0_0, gf_5_3_0, gf_5_7_0, pcl_0, pcl_1, pcl_100, pcl_101, pcl_102, pcl_103, pcl_104, pcl_105, pcl_106, pcl_107, pcl_108, pcl_109, pcl_110, pcl_111, pcl_112, pcl_15, pcl_22, pcl_25, pcl_26, pcl_33, pcl_44, pcl_50, pcl_59, pcl_8, pft_0_6, rOK_i, rOK_z, v_aload_0, v_bipush_12, v_getfield, v_goto, v_iaload, v_ic_ge, v_ic_le, v_iconst_0, v_iconst_1, v_if_eq, v_iinc_4, v_iload_1, v_iload_2, v_iload_3, v_iload_4, v_invv, v_ior, v_ireturn, v_ishl, v_istore_2, v_istore_3, v_istore_4, v_ldc, v_pop, vcV_2_3, vcV_2_5, vcV_3_3, vgf_i, vgf_r, vgf_s, vld_i, vld_s, vc_d, rr_0, rr_1, csT_h, csT_t, csT_n, bI_0, bI_1, bI_z, bT, List.mem_cons, List.not_mem_nil, List.length_cons, List.length_nil, ite_not, ↓reduceIte, true_and, and_true, not_true_eq_false, not_false_eq_true, false_or, or_false, or_true, true_or, Nat.reduceAdd, Nat.reduceEqDiff, Nat.reduceBEq, Nat.reduceLeDiff, Nat.reduceLT, Nat.reduceSub, Int.reduceAdd, Int.reduceLE, Int.reduceLT, Int.reduceToNat, Int.reduceNeg, Int.reduceNatCast', reduceCtorEq, Int32.reduceOfInt, Int32.reduceOfNat, Int32.reduceToNatClampNeg, Int32.reduceToInt, i10, i01, pe_X4_finding, tl_0, tl_1, tl_2, tl_3, tl_4, tl_5, tl_6]
      exact h

theorem s_X6_who {d : Nat} (hd : 5 ≤ d) : Snd d 84 pf_X6_who := by
  intro args M k h
  unfold pf_X6_who at h
  split at h
  · exact c_X6_who hd h
  · exact h.elim
