/-! X: words -/
/-- the bytes from a on are the string j -/
abbrev spD (M : Mem) (a j : Nat) : Prop := ∀ q, q < sbl j → M 45 (a + q) = sbt j q
theorem nI_subN {a b : Nat} (h : a ≤ b) : nI b - nI a = nI (b - a) := by
  have e : nI b = nI (b - a) + nI a := by rw [nI_add, Nat.sub_add_cancel h]
  rw [e, Int32.add_sub_cancel]
theorem pcl_s : ∀ j, j < 13 → pcl (100 + j) = 7 := by decide +kernel
set_option maxRecDepth 100000 in
set_option maxHeartbeats 4000000 in
theorem lp_spells {d : Nat} (hd : 3 ≤ d) {k : Value → Mem → Prop} {M : Mem} {a j : Nat} {e : Int32} (hj : j < 13) (ha : a + sbl j ≤ 120) (h : k (.int (bI (spD M a j))) M) : ∀ (n i : Nat), i + n = sbl j → (∀ q, q < i → M 45 (a + q) = sbt j q) → WP (3, yX3_spells, cX3_spells, 5, (some .boolean)) (d + 1) k 25 [.ref 44, .int (nI a), .int e, .ref (100 + j), .int (nI i)] [] M := by
  have hpc := pcl_s j hj
  have hpl : (100 ≤ 100 + j ∧ 100 + j < 113) = True := eq_true ⟨by omega, by omega⟩
  have hsb : 100 + j - 100 = j := by omega
  have hs8 := sbl_le j hj
  intro n
  induction n with
  | zero =>
    intro i hi hq
    have c1 : (nI (sbl j) ≤ nI i) = True := eq_true (nI_le (by omega) (by omega))
    have hall : spD M a j := fun q hq2 => hq q (by omega)
    rw [bI_t hall] at h
    refine goV (n := 80) [(231, pf_J0_length), (232, pf_J0_charAt)] [25] (T_cons (s_J0_length (by omega)) (T_cons (s_J0_charAt hd) T_nil)) ?_
    simp only [dX3_spells_0, dX3_spells_1, dX3_spells_4, dX3_spells_5, dX3_spells_7, dX3_spells_10, dX3_spells_11, dX3_spells_12, dX3_spells_13, dX3_spells_14, dX3_spells_17, dX3_spells_20, dX3_spells_21, dX3_spells_22, dX3_spells_23, dX3_spells_25, dX3_spells_27, dX3_spells_28, dX3_spells_31, dX3_spells_34, dX3_spells_35, dX3_spells_38, dX3_spells_39, dX3_spells_41, dX3_spells_42, dX3_spells_43, dX3_spells_44, dX3_spells_46, dX3_spells_49, dX3_spells_52, dX3_spells_53, dX3_spells_54, dX3_spells_57, dX3_spells_60, dX3_spells_61, cr_3_145, cr_3_150, fr_3_9, al_10, al_11, al_12, al_13, al_14, al_16, al_17, al_18, al_19, al_2, al_20, al_21, al_23, al_24, al_27, al_28, al_29, al_3, al_30, al_31, al_32, al_34, al_36, al_37, al_38, al_39, al_4, al_40, al_41, al_42, al_43, al_45, al_46, al_47, al_48, al_49, al_5, al_52, al_53, al_54, al_55, al_56, al_57, al_58, al_6, al_60, al_61, al_62, al_63, al_64, al_65, al_66, al_67, al_69, al_7, al_70, al_71, al_72, al_73, al_9, cat_i, cat_l, cat_r, cat_u, gf_2_0_44, pcl_0, pcl_1, pcl_100, pcl_101, pcl_102, pcl_103, pcl_104, pcl_105, pcl_106, pcl_107, pcl_108, pcl_109, pcl_110, pcl_111, pcl_112, pcl_15, pcl_22, pcl_25, pcl_26, pcl_33, pcl_44, pcl_50, pcl_59, pcl_8, rOK_i, rOK_z, v_aload_0, v_aload_3, v_bipush_120, v_getfield, v_goto, v_iadd, v_iaload, v_ic_eq, v_ic_ge, v_ic_gt, v_iconst_0, v_iconst_1, v_if_lt, v_iinc_4, v_iload_1, v_iload_2, v_iload_4, v_invv, v_ireturn, v_istore_4, v_isub, vcV_1_7, vcV_2_7, vgf_i, vgf_r, vgf_s, vc_d, rr_0, rr_1, csT_h, csT_t, csT_n, bI_0, bI_1, bI_z, bT, List.mem_cons, List.not_mem_nil, List.length_cons, List.length_nil, ite_not, ↓reduceIte, true_and, and_true, not_true_eq_false, not_false_eq_true, false_or, or_false, or_true, true_or, Nat.reduceAdd, Nat.reduceEqDiff, Nat.reduceBEq, Nat.reduceLeDiff, Nat.reduceLT, Nat.reduceSub, Int.reduceAdd, Int.reduceLE, Int.reduceLT, Int.reduceToNat, Int.reduceNeg, Int.reduceNatCast', reduceCtorEq, Int32.reduceOfInt, Int32.reduceOfNat, Int32.reduceToNatClampNeg, Int32.reduceToInt, i10, i01, pe_J0_length, pe_J0_charAt, hpc, hpl, hsb, hj, c1]
    exact h
  | succ n ih =>
    intro i hi hq
    have c1 : (nI (sbl j) ≤ nI i) = False := eq_false (nI_ge (by omega) (by omega))
    have c2 : (nI (a + i)).toInt = (a + i : Nat) := nI_toInt (by omega)
    have c3 : (nI (a + i)).toNatClampNeg = a + i := nI_clamp (by omega)
    have c4 : (nI i).toInt = (i : Nat) := nI_toInt (by omega)
    have c5 : (nI i).toNatClampNeg = i := nI_clamp (by omega)
    refine goV (n := 80) [(231, pf_J0_length), (232, pf_J0_charAt)] [25] (T_cons (s_J0_length (by omega)) (T_cons (s_J0_charAt hd) T_nil)) ?_
    by_cases h1 : M 45 (a + i) = sbt j i
    · simp only [dX3_spells_0, dX3_spells_1, dX3_spells_4, dX3_spells_5, dX3_spells_7, dX3_spells_10, dX3_spells_11, dX3_spells_12, dX3_spells_13, dX3_spells_14, dX3_spells_17, dX3_spells_20, dX3_spells_21, dX3_spells_22, dX3_spells_23, dX3_spells_25, dX3_spells_27, dX3_spells_28, dX3_spells_31, dX3_spells_34, dX3_spells_35, dX3_spells_38, dX3_spells_39, dX3_spells_41, dX3_spells_42, dX3_spells_43, dX3_spells_44, dX3_spells_46, dX3_spells_49, dX3_spells_52, dX3_spells_53, dX3_spells_54, dX3_spells_57, dX3_spells_60, dX3_spells_61, cr_3_145, cr_3_150, fr_3_9, al_10, al_11, al_12, al_13, al_14, al_16, al_17, al_18, al_19, al_2, al_20, al_21, al_23, al_24, al_27, al_28, al_29, al_3, al_30, al_31, al_32, al_34, al_36, al_37, al_38, al_39, al_4, al_40, al_41, al_42, al_43, al_45, al_46, al_47, al_48, al_49, al_5, al_52, al_53, al_54, al_55, al_56, al_57, al_58, al_6, al_60, al_61, al_62, al_63, al_64, al_65, al_66, al_67, al_69, al_7, al_70, al_71, al_72, al_73, al_9, cat_i, cat_l, cat_r, cat_u, gf_2_0_44, pcl_0, pcl_1, pcl_100, pcl_101, pcl_102, pcl_103, pcl_104, pcl_105, pcl_106, pcl_107, pcl_108, pcl_109, pcl_110, pcl_111, pcl_112, pcl_15, pcl_22, pcl_25, pcl_26, pcl_33, pcl_44, pcl_50, pcl_59, pcl_8, rOK_i, rOK_z, v_aload_0, v_aload_3, v_bipush_120, v_getfield, v_goto, v_iadd, v_iaload, v_ic_eq, v_ic_ge, v_ic_gt, v_iconst_0, v_iconst_1, v_if_lt, v_iinc_4, v_iload_1, v_iload_2, v_iload_4, v_invv, v_ireturn, v_istore_4, v_isub, vcV_1_7, vcV_2_7, vgf_i, vgf_r, vgf_s, vc_d, rr_0, rr_1, csT_h, csT_t, csT_n, bI_0, bI_1, bI_z, bT, List.mem_cons, List.not_mem_nil, List.length_cons, List.length_nil, ite_not, ↓reduceIte, true_and, and_true, not_true_eq_false, not_false_eq_true, false_or, or_false, or_true, true_or, Nat.reduceAdd, Nat.reduceEqDiff, Nat.reduceBEq, Nat.reduceLeDiff, Nat.reduceLT, Nat.reduceSub, Int.reduceAdd, Int.reduceLE, Int.reduceLT, Int.reduceToNat, Int.reduceNeg, Int.reduceNatCast', reduceCtorEq, Int32.reduceOfInt, Int32.reduceOfNat, Int32.reduceToNatClampNeg, Int32.reduceToInt, i10, i01, pe_J0_length, pe_J0_charAt, hpc, hpl, hsb, hj, c1, nI_add, c2, c3, c4, c5, h1, nI_1]
      refine ⟨⟨by omega, by omega⟩, ⟨by omega, by omega⟩, ?_⟩
      exact ih (i + 1) (by omega) (fun q hq2 => by
        by_cases e : q = i
        · rw [e]; exact h1
        · exact hq q (by omega))
    · have hno : ¬ spD M a j := fun z => h1 (z i (by omega))
      rw [bI_f hno] at h
      simp only [dX3_spells_0, dX3_spells_1, dX3_spells_4, dX3_spells_5, dX3_spells_7, dX3_spells_10, dX3_spells_11, dX3_spells_12, dX3_spells_13, dX3_spells_14, dX3_spells_17, dX3_spells_20, dX3_spells_21, dX3_spells_22, dX3_spells_23, dX3_spells_25, dX3_spells_27, dX3_spells_28, dX3_spells_31, dX3_spells_34, dX3_spells_35, dX3_spells_38, dX3_spells_39, dX3_spells_41, dX3_spells_42, dX3_spells_43, dX3_spells_44, dX3_spells_46, dX3_spells_49, dX3_spells_52, dX3_spells_53, dX3_spells_54, dX3_spells_57, dX3_spells_60, dX3_spells_61, cr_3_145, cr_3_150, fr_3_9, al_10, al_11, al_12, al_13, al_14, al_16, al_17, al_18, al_19, al_2, al_20, al_21, al_23, al_24, al_27, al_28, al_29, al_3, al_30, al_31, al_32, al_34, al_36, al_37, al_38, al_39, al_4, al_40, al_41, al_42, al_43, al_45, al_46, al_47, al_48, al_49, al_5, al_52, al_53, al_54, al_55, al_56, al_57, al_58, al_6, al_60, al_61, al_62, al_63, al_64, al_65, al_66, al_67, al_69, al_7, al_70, al_71, al_72, al_73, al_9, cat_i, cat_l, cat_r, cat_u, gf_2_0_44, pcl_0, pcl_1, pcl_100, pcl_101, pcl_102, pcl_103, pcl_104, pcl_105, pcl_106, pcl_107, pcl_108, pcl_109, pcl_110, pcl_111, pcl_112, pcl_15, pcl_22, pcl_25, pcl_26, pcl_33, pcl_44, pcl_50, pcl_59, pcl_8, rOK_i, rOK_z, v_aload_0, v_aload_3, v_bipush_120, v_getfield, v_goto, v_iadd, v_iaload, v_ic_eq, v_ic_ge, v_ic_gt, v_iconst_0, v_iconst_1, v_if_lt, v_iinc_4, v_iload_1, v_iload_2, v_iload_4, v_invv, v_ireturn, v_istore_4, v_isub, vcV_1_7, vcV_2_7, vgf_i, vgf_r, vgf_s, vc_d, rr_0, rr_1, csT_h, csT_t, csT_n, bI_0, bI_1, bI_z, bT, List.mem_cons, List.not_mem_nil, List.length_cons, List.length_nil, ite_not, ↓reduceIte, true_and, and_true, not_true_eq_false, not_false_eq_true, false_or, or_false, or_true, true_or, Nat.reduceAdd, Nat.reduceEqDiff, Nat.reduceBEq, Nat.reduceLeDiff, Nat.reduceLT, Nat.reduceSub, Int.reduceAdd, Int.reduceLE, Int.reduceLT, Int.reduceToNat, Int.reduceNeg, Int.reduceNatCast', reduceCtorEq, Int32.reduceOfInt, Int32.reduceOfNat, Int32.reduceToNatClampNeg, Int32.reduceToInt, i10, i01, pe_J0_length, pe_J0_charAt, hpc, hpl, hsb, hj, c1, nI_add, c2, c3, c4, c5, h1]
      exact ⟨⟨by omega, by omega⟩, ⟨by omega, by omega⟩, h⟩
def pf_X3_spells : PF := fun args M k => match args with
  | [.ref o, .int s, .int e, .ref w] => (o = 44 ∧ (∃ a b, s = nI a ∧ e = nI b ∧ a ≤ b ∧ b ≤ 120) ∧ 100 ≤ w ∧ w < 113) ∧ (k (.int (bI ((e).toNatClampNeg - (s).toNatClampNeg = sbl (w - 100) ∧ spD M (s).toNatClampNeg (w - 100)))) M)
  | _ => False
theorem pe_X3_spells {o : Nat} {s : Int32} {e : Int32} {w : Nat} {M : Mem} {k : Value → Mem → Prop} : pf_X3_spells [.ref o, .int s, .int e, .ref w] M k = ((o = 44 ∧ (∃ a b, s = nI a ∧ e = nI b ∧ a ≤ b ∧ b ≤ 120) ∧ 100 ≤ w ∧ w < 113) ∧ (k (.int (bI ((e).toNatClampNeg - (s).toNatClampNeg = sbl (w - 100) ∧ spD M (s).toNatClampNeg (w - 100)))) M)) := rfl
set_option maxRecDepth 100000 in
set_option maxHeartbeats 4000000 in
theorem c_X3_spells {d : Nat} (hd : 4 ≤ d) {o : Nat} {s : Int32} {e : Int32} {w : Nat} {M : Mem} {k : Value → Mem → Prop} (h : (o = 44 ∧ (∃ a b, s = nI a ∧ e = nI b ∧ a ≤ b ∧ b ≤ 120) ∧ 100 ≤ w ∧ w < 113) ∧ (k (.int (bI ((e).toNatClampNeg - (s).toNatClampNeg = sbl (w - 100) ∧ spD M (s).toNatClampNeg (w - 100)))) M)) : CallP d 44 [.ref o, .int s, .int e, .ref w] M k := by
  obtain ⟨hp, h⟩ := h
  obtain ⟨d, rfl⟩ : ∃ d', d = d' + 1 := ⟨d - 1, by omega⟩
  obtain ⟨rfl, ⟨a, b, rfl, rfl, hab, hb⟩, hw⟩ := hp
  obtain ⟨j, hj, rfl⟩ := j_pl hw
  have hpc := pcl_s j hj
  have hpl : (100 ≤ 100 + j ∧ 100 + j < 113) = True := eq_true ⟨by omega, by omega⟩
  have hsb : 100 + j - 100 = j := by omega
  have hs8 := sbl_le j hj
  rw [hsb, nI_clamp (by omega), nI_clamp (by omega)] at h
  have c1 : (nI a < 0) = False := eq_false (nI_pos (by omega))
  have c2 : (120 < nI b) = False := eq_false (fun z => absurd (nI_le (a := b) (b := 120) hb (by decide)) (Int32.not_le.mpr z))
  have c3 : nI b - nI a = nI (b - a) := nI_subN hab
  have c4 : (nI (b - a) = nI (sbl j)) = (b - a = sbl j) := propext ⟨fun z => (nI_eq (by omega) (by omega)).mp z, fun z => by rw [z]⟩
  refine enterV (n := 80) [(231, pf_J0_length), (232, pf_J0_charAt)] [25] mI_44 (by decide) (Nat.le_of_ble_eq_true rfl) (T_cons (s_J0_length (by omega)) (T_cons (s_J0_charAt (by omega)) T_nil)) ?_
  rw [show lent 5 ([.ref 44, .int (nI a), .int (nI b), .ref (100 + j)] : List Value) = [.ref 44, .int (nI a), .int (nI b), .ref (100 + j), .retAddr 0] from rfl]
  by_cases h1 : b - a = sbl j
  · simp only [dX3_spells_0, dX3_spells_1, dX3_spells_4, dX3_spells_5, dX3_spells_7, dX3_spells_10, dX3_spells_11, dX3_spells_12, dX3_spells_13, dX3_spells_14, dX3_spells_17, dX3_spells_20, dX3_spells_21, dX3_spells_22, dX3_spells_23, dX3_spells_25, dX3_spells_27, dX3_spells_28, dX3_spells_31, dX3_spells_34, dX3_spells_35, dX3_spells_38, dX3_spells_39, dX3_spells_41, dX3_spells_42, dX3_spells_43, dX3_spells_44, dX3_spells_46, dX3_spells_49, dX3_spells_52, dX3_spells_53, dX3_spells_54, dX3_spells_57, dX3_spells_60, dX3_spells_61, cr_3_145, cr_3_150, fr_3_9, al_10, al_11, al_12, al_13, al_14, al_16, al_17, al_18, al_19, al_2, al_20, al_21, al_23, al_24, al_27, al_28, al_29, al_3, al_30, al_31, al_32, al_34, al_36, al_37, al_38, al_39, al_4, al_40, al_41, al_42, al_43, al_45, al_46, al_47, al_48, al_49, al_5, al_52, al_53, al_54, al_55, al_56, al_57, al_58, al_6, al_60, al_61, al_62, al_63, al_64, al_65, al_66, al_67, al_69, al_7, al_70, al_71, al_72, al_73, al_9, cat_i, cat_l, cat_r, cat_u, gf_2_0_44, pcl_0, pcl_1, pcl_100, pcl_101, pcl_102, pcl_103, pcl_104, pcl_105, pcl_106, pcl_107, pcl_108, pcl_109, pcl_110, pcl_111, pcl_112, pcl_15, pcl_22, pcl_25, pcl_26, pcl_33, pcl_44, pcl_50, pcl_59, pcl_8, rOK_i, rOK_z, v_aload_0, v_aload_3, v_bipush_120, v_getfield, v_goto, v_iadd, v_iaload, v_ic_eq, v_ic_ge, v_ic_gt, v_iconst_0, v_iconst_1, v_if_lt, v_iinc_4, v_iload_1, v_iload_2, v_iload_4, v_invv, v_ireturn, v_istore_4, v_isub, vcV_1_7, vcV_2_7, vgf_i, vgf_r, vgf_s, vc_d, rr_0, rr_1, csT_h, csT_t, csT_n, bI_0, bI_1, bI_z, bT, List.mem_cons, List.not_mem_nil, List.length_cons, List.length_nil, ite_not, ↓reduceIte, true_and, and_true, not_true_eq_false, not_false_eq_true, false_or, or_false, or_true, true_or, Nat.reduceAdd, Nat.reduceEqDiff, Nat.reduceBEq, Nat.reduceLeDiff, Nat.reduceLT, Nat.reduceSub, Int.reduceAdd, Int.reduceLE, Int.reduceLT, Int.reduceToNat, Int.reduceNeg, Int.reduceNatCast', reduceCtorEq, Int32.reduceOfInt, Int32.reduceOfNat, Int32.reduceToNatClampNeg, Int32.reduceToInt, i10, i01, pe_J0_length, pe_J0_charAt, hpc, hpl, hsb, hj, c1, c2, c3, c4, h1]
    have h2 : bI (b - a = sbl j ∧ spD M a j) = bI (spD M a j) := by
      by_cases z : spD M a j
      · rw [bI_t z, bI_t ⟨h1, z⟩]
      · rw [bI_f z, bI_f (fun y => z y.2)]
    rw [h2] at h
    exact lp_spells (d := d) (by omega) hj (by omega) h (sbl j) 0 (by omega) (fun q hq => by omega)
  · rw [bI_f (fun z => h1 z.1)] at h
    simp only [dX3_spells_0, dX3_spells_1, dX3_spells_4, dX3_spells_5, dX3_spells_7, dX3_spells_10, dX3_spells_11, dX3_spells_12, dX3_spells_13, dX3_spells_14, dX3_spells_17, dX3_spells_20, dX3_spells_21, dX3_spells_22, dX3_spells_23, dX3_spells_25, dX3_spells_27, dX3_spells_28, dX3_spells_31, dX3_spells_34, dX3_spells_35, dX3_spells_38, dX3_spells_39, dX3_spells_41, dX3_spells_42, dX3_spells_43, dX3_spells_44, dX3_spells_46, dX3_spells_49, dX3_spells_52, dX3_spells_53, dX3_spells_54, dX3_spells_57, dX3_spells_60, dX3_spells_61, cr_3_145, cr_3_150, fr_3_9, al_10, al_11, al_12, al_13, al_14, al_16, al_17, al_18, al_19, al_2, al_20, al_21, al_23, al_24, al_27, al_28, al_29, al_3, al_30, al_31, al_32, al_34, al_36, al_37, al_38, al_39, al_4, al_40, al_41, al_42, al_43, al_45, al_46, al_47, al_48, al_49, al_5, al_52, al_53, al_54, al_55, al_56, al_57, al_58, al_6, al_60, al_61, al_62, al_63, al_64, al_65, al_66, al_67, al_69, al_7, al_70, al_71, al_72, al_73, al_9, cat_i, cat_l, cat_r, cat_u, gf_2_0_44, pcl_0, pcl_1, pcl_100, pcl_101, pcl_102, pcl_103, pcl_104, pcl_105, pcl_106, pcl_107, pcl_108, pcl_109, pcl_110, pcl_111, pcl_112, pcl_15, pcl_22, pcl_25, pcl_26, pcl_33, pcl_44, pcl_50, pcl_59, pcl_8, rOK_i, rOK_z, v_aload_0, v_aload_3, v_bipush_120, v_getfield, v_goto, v_iadd, v_iaload, v_ic_eq, v_ic_ge, v_ic_gt, v_iconst_0, v_iconst_1, v_if_lt, v_iinc_4, v_iload_1, v_iload_2, v_iload_4, v_invv, v_ireturn, v_istore_4, v_isub, vcV_1_7, vcV_2_7, vgf_i, vgf_r, vgf_s, vc_d, rr_0, rr_1, csT_h, csT_t, csT_n, bI_0, bI_1, bI_z, bT, List.mem_cons, List.not_mem_nil, List.length_cons, List.length_nil, ite_not, ↓reduceIte, true_and, and_true, not_true_eq_false, not_false_eq_true, false_or, or_false, or_true, true_or, Nat.reduceAdd, Nat.reduceEqDiff, Nat.reduceBEq, Nat.reduceLeDiff, Nat.reduceLT, Nat.reduceSub, Int.reduceAdd, Int.reduceLE, Int.reduceLT, Int.reduceToNat, Int.reduceNeg, Int.reduceNatCast', reduceCtorEq, Int32.reduceOfInt, Int32.reduceOfNat, Int32.reduceToNatClampNeg, Int32.reduceToInt, i10, i01, pe_J0_length, pe_J0_charAt, hpc, hpl, hsb, hj, c1, c2, c3, c4, h1]
    exact h
theorem s_X3_spells {d : Nat} (hd : 4 ≤ d) : Snd d 44 pf_X3_spells := by
  intro args M k h
  unfold pf_X3_spells at h
  split at h
  · exact c_X3_spells hd h
  · exact h.elim
