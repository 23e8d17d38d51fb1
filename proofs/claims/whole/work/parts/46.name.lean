/-! X: the reader names the words -/
def nwM : Nat → Nat → Mem → Mem
  | 0, _, M => M
  | n + 1, i, M => nwM n (i + 1) (if M 46 i = 1 then mset M 49 i (wnG M (M 47 i).toNatClampNeg (M 48 i).toNatClampNeg 13 0) else M)
/-- there are T tokens, and the words among them lie on the tape -/
def tkOK (M : Mem) (T : Nat) : Prop := M 44 6 = nI T ∧ T ≤ 121 ∧ ∀ i, i < T → M 46 i = 1 → ∃ a b, M 47 i = nI a ∧ M 48 i = nI b ∧ a ≤ b ∧ b ≤ 120
theorem tkOK_49 {M : Mem} {T i : Nat} {v : Int32} (h : tkOK M T) : tkOK (mset M 49 i v) T := by
  obtain ⟨h1, h2, h3⟩ := h
  have e : ∀ p, p ≠ 49 → mset M 49 i v p = M p := fun p hp => by
    unfold mset
    rw [mrow_n (bq hp)]
  refine ⟨by rw [e 44 (by decide)]; exact h1, h2, fun j hj => ?_⟩
  rw [e 46 (by decide), e 47 (by decide), e 48 (by decide)]
  exact h3 j hj
set_option maxRecDepth 100000 in
set_option maxHeartbeats 4000000 in
theorem lp_name {d : Nat} (hd : 5 ≤ d) {k : Value → Mem → Prop} {T : Nat} : ∀ (n i : Nat) (M : Mem), i + n = T → tkOK M T → k (.int 0) (nwM n i M) → WP (3, yX3_nameWords, cX3_nameWords, 2, none) (d + 1) k 2 [.ref 44, .int (nI i)] [] M := by
  intro n
  induction n with
  | zero =>
    intro i M hi hT h
    obtain ⟨h6, hT1, -⟩ := hT
    have c1 : (nI T ≤ nI i) = True := eq_true (nI_le (by omega) (by omega))
    refine goV (n := 80) [(43, pf_X3_wordNumber)] [2] (T_cons (s_X3_wordNumber hd) T_nil) ?_
    simp only [dX3_nameWords_0, dX3_nameWords_1, dX3_nameWords_2, dX3_nameWords_3, dX3_nameWords_4, dX3_nameWords_7, dX3_nameWords_10, dX3_nameWords_11, dX3_nameWords_13, dX3_nameWords_16, dX3_nameWords_17, dX3_nameWords_20, dX3_nameWords_21, dX3_nameWords_22, dX3_nameWords_23, dX3_nameWords_26, dX3_nameWords_27, dX3_nameWords_30, dX3_nameWords_31, dX3_nameWords_32, dX3_nameWords_33, dX3_nameWords_36, dX3_nameWords_37, dX3_nameWords_38, dX3_nameWords_39, dX3_nameWords_42, dX3_nameWords_43, dX3_nameWords_44, dX3_nameWords_47, dX3_nameWords_48, dX3_nameWords_51, dX3_nameWords_54, cr_3_113, fr_3_19, fr_3_22, fr_3_25, fr_3_28, fr_3_31, al_10, al_11, al_12, al_13, al_14, al_16, al_17, al_18, al_19, al_2, al_20, al_21, al_23, al_24, al_27, al_28, al_29, al_3, al_30, al_31, al_32, al_34, al_36, al_37, al_38, al_39, al_4, al_40, al_41, al_42, al_43, al_45, al_46, al_47, al_48, al_49, al_5, al_52, al_53, al_54, al_55, al_56, al_57, al_58, al_6, al_60, al_61, al_62, al_63, al_64, al_65, al_66, al_67, al_69, al_7, al_70, al_71, al_72, al_73, al_9, cat_i, cat_l, cat_r, cat_u, gf_2_2_44, gf_2_3_44, gf_2_4_44, gf_2_5_44, gf_2_6_44, pcl_0, pcl_1, pcl_100, pcl_101, pcl_102, pcl_103, pcl_104, pcl_105, pcl_106, pcl_107, pcl_108, pcl_109, pcl_110, pcl_111, pcl_112, pcl_15, pcl_22, pcl_25, pcl_26, pcl_33, pcl_44, pcl_50, pcl_59, pcl_8, pft_2_6, v_aload_0, v_bipush_121, v_getfield, v_goto, v_iaload, v_iastore, v_ic_ge, v_ic_ne, v_iconst_0, v_iconst_1, v_iinc_1, v_iload_1, v_invv, v_istore_1, v_return, vcV_3_2, vgf_i, vgf_r, vgf_s, vc_d, rr_0, rr_1, csT_h, csT_t, csT_n, bI_0, bI_1, bI_z, bT, List.mem_cons, List.not_mem_nil, List.length_cons, List.length_nil, ite_not, ↓reduceIte, true_and, and_true, not_true_eq_false, not_false_eq_true, false_or, or_false, or_true, true_or, Nat.reduceAdd, Nat.reduceEqDiff, Nat.reduceBEq, Nat.reduceLeDiff, Nat.reduceLT, Nat.reduceSub, Int.reduceAdd, Int.reduceLE, Int.reduceLT, Int.reduceToNat, Int.reduceNeg, Int.reduceNatCast', reduceCtorEq, Int32.reduceOfInt, Int32.reduceOfNat, Int32.reduceToNatClampNeg, Int32.reduceToInt, i10, i01, h6, c1]
    exact h
  | succ n ih =>
    intro i M hi hT h
    have hT0 := hT
    obtain ⟨h6, hT1, hw⟩ := hT
    have c1 : (nI T ≤ nI i) = False := eq_false (nI_ge (by omega) (by omega))
    have c2 : (121 ≤ nI i) = False := eq_false (nI_ge (b := 121) (by omega) (by decide))
    have c3 : (nI i).toInt = (i : Nat) := nI_toInt (by omega)
    have c4 : (nI i).toNatClampNeg = i := nI_clamp (by omega)
    have c5 : ((i : Int) < 121) = True := eq_true (by omega)
    have c6 : (0 ≤ (i : Int)) = True := eq_true (by omega)
    rw [nwM] at h
    refine goV (n := 80) [(43, pf_X3_wordNumber)] [2] (T_cons (s_X3_wordNumber hd) T_nil) ?_
    by_cases h1 : M 46 i = 1
    · rw [if_pos h1] at h
      have hx := eq_true (hw i (by omega) h1)
      simp only [dX3_nameWords_0, dX3_nameWords_1, dX3_nameWords_2, dX3_nameWords_3, dX3_nameWords_4, dX3_nameWords_7, dX3_nameWords_10, dX3_nameWords_11, dX3_nameWords_13, dX3_nameWords_16, dX3_nameWords_17, dX3_nameWords_20, dX3_nameWords_21, dX3_nameWords_22, dX3_nameWords_23, dX3_nameWords_26, dX3_nameWords_27, dX3_nameWords_30, dX3_nameWords_31, dX3_nameWords_32, dX3_nameWords_33, dX3_nameWords_36, dX3_nameWords_37, dX3_nameWords_38, dX3_nameWords_39, dX3_nameWords_42, dX3_nameWords_43, dX3_nameWords_44, dX3_nameWords_47, dX3_nameWords_48, dX3_nameWords_51, dX3_nameWords_54, cr_3_113, fr_3_19, fr_3_22, fr_3_25, fr_3_28, fr_3_31, al_10, al_11, al_12, al_13, al_14, al_16, al_17, al_18, al_19, al_2, al_20, al_21, al_23, al_24, al_27, al_28, al_29, al_3, al_30, al_31, al_32, al_34, al_36, al_37, al_38, al_39, al_4, al_40, al_41, al_42, al_43, al_45, al_46, al_47, al_48, al_49, al_5, al_52, al_53, al_54, al_55, al_56, al_57, al_58, al_6, al_60, al_61, al_62, al_63, al_64, al_65, al_66, al_67, al_69, al_7, al_70, al_71, al_72, al_73, al_9, cat_i, cat_l, cat_r, cat_u, gf_2_2_44, gf_2_3_44, gf_2_4_44, gf_2_5_44, gf_2_6_44, pcl_0, pcl_1, pcl_100, pcl_101, pcl_102, pcl_103, pcl_104, pcl_105, pcl_106, pcl_107, pcl_108, pcl_109, pcl_110, pcl_111, pcl_112, pcl_15, pcl_22, pcl_25, pcl_26, pcl_33, pcl_44, pcl_50, pcl_59, pcl_8, pft_2_6, v_aload_0, v_bipush_121, v_getfield, v_goto, v_iaload, v_iastore, v_ic_ge, v_ic_ne, v_iconst_0, v_iconst_1, v_iinc_1, v_iload_1, v_invv, v_istore_1, v_return, vcV_3_2, vgf_i, vgf_r, vgf_s, vc_d, rr_0, rr_1, csT_h, csT_t, csT_n, bI_0, bI_1, bI_z, bT, List.mem_cons, List.not_mem_nil, List.length_cons, List.length_nil, ite_not, ↓reduceIte, true_and, and_true, not_true_eq_false, not_false_eq_true, false_or, or_false, or_true, true_or, Nat.reduceAdd, Nat.reduceEqDiff, Nat.reduceBEq, Nat.reduceLeDiff, Nat.reduceLT, Nat.reduceSub, Int.reduceAdd, Int.reduceLE, Int.reduceLT, Int.reduceToNat, Int.reduceNeg, Int.reduceNatCast', reduceCtorEq, Int32.reduceOfInt, Int32.reduceOfNat, Int32.reduceToNatClampNeg, Int32.reduceToInt, i10, i01, pe_X3_wordNumber, h6, c1, c2, c3, c4, c5, c6, h1, hx, nI_1]
      exact ih (i + 1) _ (by omega) (tkOK_49 hT0) h
    · rw [if_neg h1] at h
      simp only [dX3_nameWords_0, dX3_nameWords_1, dX3_nameWords_2, dX3_nameWords_3, dX3_nameWords_4, dX3_nameWords_7, dX3_nameWords_10, dX3_nameWords_11, dX3_nameWords_13, dX3_nameWords_16, dX3_nameWords_17, dX3_nameWords_20, dX3_nameWords_21, dX3_nameWords_22, dX3_nameWords_23, dX3_nameWords_26, dX3_nameWords_27, dX3_nameWords_30, dX3_nameWords_31, dX3_nameWords_32, dX3_nameWords_33, dX3_nameWords_36, dX3_nameWords_37, dX3_nameWords_38, dX3_nameWords_39, dX3_nameWords_42, dX3_nameWords_43, dX3_nameWords_44, dX3_nameWords_47, dX3_nameWords_48, dX3_nameWords_51, dX3_nameWords_54, cr_3_113, fr_3_19, fr_3_22, fr_3_25, fr_3_28, fr_3_31, al_10, al_11, al_12, al_13, al_14, al_16, al_17, al_18, al_19, al_2, al_20, al_21, al_23, al_24, al_27, al_28, al_29, al_3, al_30, al_31, al_32, al_34, al_36, al_37, al_38, al_39, al_4, al_40, al_41, al_42, al_43, al_45, al_46, al_47, al_48, al_49, al_5, al_52, al_53, al_54, al_55, al_56, al_57, al_58, al_6, al_60, al_61, al_62, al_63, al_64, al_65, al_66, al_67, al_69, al_7, al_70, al_71, al_72, al_73, al_9, cat_i, cat_l, cat_r, cat_u, gf_2_2_44, gf_2_3_44, gf_2_4_44, gf_2_5_44, gf_2_6_44, pcl_0, pcl_1, pcl_100, pcl_101, pcl_102, pcl_103, pcl_104, pcl_105, pcl_106, pcl_107, pcl_108, pcl_109, pcl_110, pcl_111, pcl_112, pcl_15, pcl_22, pcl_25, pcl_26, pcl_33, pcl_44, pcl_50, pcl_59, pcl_8, pft_2_6, v_aload_0, v_bipush_121, v_getfield, v_goto, v_iaload, v_iastore, v_ic_ge, v_ic_ne, v_iconst_0, v_iconst_1, v_iinc_1, v_iload_1, v_invv, v_istore_1, v_return, vcV_3_2, vgf_i, vgf_r, vgf_s, vc_d, rr_0, rr_1, csT_h, csT_t, csT_n, bI_0, bI_1, bI_z, bT, List.mem_cons, List.not_mem_nil, List.length_cons, List.length_nil, ite_not, ↓reduceIte, true_and, and_true, not_true_eq_false, not_false_eq_true, false_or, or_false, or_true, true_or, Nat.reduceAdd, Nat.reduceEqDiff, Nat.reduceBEq, Nat.reduceLeDiff, Nat.reduceLT, Nat.reduceSub, Int.reduceAdd, Int.reduceLE, Int.reduceLT, Int.reduceToNat, Int.reduceNeg, Int.reduceNatCast', reduceCtorEq, Int32.reduceOfInt, Int32.reduceOfNat, Int32.reduceToNatClampNeg, Int32.reduceToInt, i10, i01, pe_X3_wordNumber, h6, c1, c2, c3, c4, c5, c6, h1, nI_1]
      exact ih (i + 1) _ (by omega) hT0 h
def pf_X3_nameWords : PF := fun args M k => match args with
  | [.ref o] => (o = 44 ∧ ∃ T, tkOK M T) ∧ (k (.int 0) (nwM (M 44 6).toNatClampNeg 0 M))
  | _ => False
theorem pe_X3_nameWords {o : Nat} {M : Mem} {k : Value → Mem → Prop} : pf_X3_nameWords [.ref o] M k = ((o = 44 ∧ ∃ T, tkOK M T) ∧ (k (.int 0) (nwM (M 44 6).toNatClampNeg 0 M))) := rfl
set_option maxRecDepth 100000 in
set_option maxHeartbeats 4000000 in
theorem c_X3_nameWords {d : Nat} (hd : 6 ≤ d) {o : Nat} {M : Mem} {k : Value → Mem → Prop} (h : (o = 44 ∧ ∃ T, tkOK M T) ∧ (k (.int 0) (nwM (M 44 6).toNatClampNeg 0 M))) : CallP d 42 [.ref o] M k := by
  obtain ⟨hp, h⟩ := h
  obtain ⟨d, rfl⟩ : ∃ d', d = d' + 1 := ⟨d - 1, by omega⟩
  obtain ⟨rfl, T, hT⟩ := hp
  · refine enterV (n := 80) [] [2] mI_42 (by decide) (Nat.le_of_ble_eq_true rfl) T_nil ?_
    rw [show lent 2 ([.ref 44] : List Value) = [.ref 44, .retAddr 0] from rfl]
    rw [hT.1, nI_clamp (by have := hT.2.1; omega)] at h
    simp only [dX3_nameWords_0, dX3_nameWords_1, dX3_nameWords_2, dX3_nameWords_3, dX3_nameWords_4, dX3_nameWords_7, dX3_nameWords_10, dX3_nameWords_11, dX3_nameWords_13, dX3_nameWords_16, dX3_nameWords_17, dX3_nameWords_20, dX3_nameWords_21, dX3_nameWords_22, dX3_nameWords_23, dX3_nameWords_26, dX3_nameWords_27, dX3_nameWords_30, dX3_nameWords_31, dX3_nameWords_32, dX3_nameWords_33, dX3_nameWords_36, dX3_nameWords_37, dX3_nameWords_38, dX3_nameWords_39, dX3_nameWords_42, dX3_nameWords_43, dX3_nameWords_44, dX3_nameWords_47, dX3_nameWords_48, dX3_nameWords_51, dX3_nameWords_54, cr_3_113, fr_3_19, fr_3_22, fr_3_25, fr_3_28, fr_3_31, al_10, al_11, al_12, al_13, al_14, al_16, al_17, al_18, al_19, al_2, al_20, al_21, al_23, al_24, al_27, al_28, al_29, al_3, al_30, al_31, al_32, al_34, al_36, al_37, al_38, al_39, al_4, al_40, al_41, al_42, al_43, al_45, al_46, al_47, al_48, al_49, al_5, al_52, al_53, al_54, al_55, al_56, al_57, al_58, al_6, al_60, al_61, al_62, al_63, al_64, al_65, al_66, al_67, al_69, al_7, al_70, al_71, al_72, al_73, al_9, cat_i, cat_l, cat_r, cat_u, gf_2_2_44, gf_2_3_44, gf_2_4_44, gf_2_5_44, gf_2_6_44, pcl_0, pcl_1, pcl_100, pcl_101, pcl_102, pcl_103, pcl_104, pcl_105, pcl_106, pcl_107, pcl_108, pcl_109, pcl_110, pcl_111, pcl_112, pcl_15, pcl_22, pcl_25, pcl_26, pcl_33, pcl_44, pcl_50, pcl_59, pcl_8, pft_2_6, v_aload_0, v_bipush_121, v_getfield, v_goto, v_iaload, v_iastore, v_ic_ge, v_ic_ne, v_iconst_0, v_iconst_1, v_iinc_1, v_iload_1, v_invv, v_istore_1, v_return, vcV_3_2, vgf_i, vgf_r, vgf_s, vc_d, rr_0, rr_1, csT_h, csT_t, csT_n, bI_0, bI_1, bI_z, bT, List.mem_cons, List.not_mem_nil, List.length_cons, List.length_nil, ite_not, ↓reduceIte, true_and, and_true, not_true_eq_false, not_false_eq_true, false_or, or_false, or_true, true_or, Nat.reduceAdd, Nat.reduceEqDiff, Nat.reduceBEq, Nat.reduceLeDiff, Nat.reduceLT, Nat.reduceSub, Int.reduceAdd, Int.reduceLE, Int.reduceLT, Int.reduceToNat, Int.reduceNeg, Int.reduceNatCast', reduceCtorEq, Int32.reduceOfInt, Int32.reduceOfNat, Int32.reduceToNatClampNeg, Int32.reduceToInt, i10, i01]
    exact lp_name (d := d) (by omega) T 0 M (by omega) hT h

theorem s_X3_nameWords {d : Nat} (hd : 6 ≤ d) : Snd d 42 pf_X3_nameWords := by
  intro args M k h
  unfold pf_X3_nameWords at h
  split at h
  · exact c_X3_nameWords hd h
  · exact h.elim
