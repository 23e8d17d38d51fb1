/-! M: judging, copying -/
def jdM (f : Nat → Int32) : Nat → Nat → Int32 → (Nat → Int32) → Int32
  | 0, _, _, _ => 0
  | n + 1, i, c, r => if hasM r (f i) ∧ (c >>> (f i &&& 31)) &&& 1 = 0 ∧ ¬ (crx r (f i).toNatClampNeg).1 < 12 then jdM f n (i + 1) (c ||| 1 <<< (f i &&& 31)) (crr r (f i).toNatClampNeg) else 1 + nI i
set_option maxRecDepth 100000 in
set_option maxHeartbeats 4000000 in
theorem lp_judge0 {d : Nat} (hd : 2 ≤ d) {M : Mem} {k : Value → Mem → Prop} {s m i : Nat} {c : Int32} {a r0 r : Nat → Int32} {x5 : Value} (hs : s < 4) (hm : m ≤ 40) (he : M 71 s = nI m) (hi : i < m) (hr : ∀ j, 50 ≤ j → r j = r0 j) (h : k (.int (1 + nI i)) (j2 M (cpN 50 r0 a) r0)) : WP (7, yX7_judge, cX7_judge, 6, (some .int)) (d + 1) k 36 [.ref 59, .int (nI s), .int (nI i), .int c, .int 0, x5] [] (j2 M (cpN 50 r0 a) r) := by
  have cs : (nI s).toNatClampNeg = s := nI_clamp (by omega)
  have ct : (nI s).toInt = (s : Int) := nI_toInt (by omega)
  have c1 : ¬ nI m ≤ nI i := nI_ge (by omega) (by omega)
  refine goV (n := 80) [(129, pf_X7_putBack)] [36] (T_cons (s_X7_putBack (by omega)) T_nil) ?_
  simp only [dX7_judge_0, dX7_judge_1, dX7_judge_2, dX7_judge_5, dX7_judge_8, dX7_judge_9, dX7_judge_10, dX7_judge_11, dX7_judge_14, dX7_judge_17, dX7_judge_18, dX7_judge_19, dX7_judge_22, dX7_judge_23, dX7_judge_26, dX7_judge_29, dX7_judge_30, dX7_judge_31, dX7_judge_32, dX7_judge_33, dX7_judge_34, dX7_judge_36, dX7_judge_37, dX7_judge_38, dX7_judge_41, dX7_judge_42, dX7_judge_43, dX7_judge_46, dX7_judge_48, dX7_judge_51, dX7_judge_52, dX7_judge_55, dX7_judge_57, dX7_judge_58, dX7_judge_59, dX7_judge_60, dX7_judge_61, dX7_judge_62, dX7_judge_64, dX7_judge_65, dX7_judge_67, dX7_judge_70, dX7_judge_73, dX7_judge_74, dX7_judge_76, dX7_judge_79, dX7_judge_82, dX7_judge_83, dX7_judge_85, dX7_judge_88, dX7_judge_90, dX7_judge_93, dX7_judge_94, dX7_judge_97, dX7_judge_98, dX7_judge_100, dX7_judge_101, dX7_judge_103, dX7_judge_106, dX7_judge_107, dX7_judge_109, dX7_judge_110, dX7_judge_113, dX7_judge_114, dX7_judge_115, dX7_judge_116, dX7_judge_117, dX7_judge_119, dX7_judge_122, dX7_judge_123, dX7_judge_126, dX7_judge_127, dX7_judge_128, dX7_judge_129, dX7_judge_132, dX7_judge_133, dX7_judge_135, dX7_judge_138, dX7_judge_139, dX7_judge_142, dX7_judge_143, dX7_judge_144, dX7_judge_145, dX7_judge_148, cr_7_126, cr_7_146, cr_7_155, cr_7_158, cr_7_224, cr_7_70, cr_7_75, fr_7_16, fr_7_60, fr_7_63, fr_7_9, al_10, al_11, al_12, al_13, al_14, al_16, al_17, al_18, al_19, al_2, al_20, al_21, al_23, al_24, al_27, al_28, al_29, al_3, al_30, al_31, al_32, al_34, al_36, al_37, al_38, al_39, al_4, al_40, al_41, al_42, al_43, al_45, al_46, al_47, al_48, al_49, al_5, al_52, al_53, al_54, al_55, al_56, al_57, al_58, al_6, al_60, al_61, al_62, al_63, al_64, al_65, al_66, al_67, al_69, al_7, al_70, al_71, al_72, al_73, al_9, cat_i, cat_l, cat_r, cat_u, gf_6_0_59, gf_6_23_59, gf_6_24_59, gf_6_2_59, pcl_0, pcl_1, pcl_100, pcl_101, pcl_102, pcl_103, pcl_104, pcl_105, pcl_106, pcl_107, pcl_108, pcl_109, pcl_110, pcl_111, pcl_112, pcl_15, pcl_22, pcl_25, pcl_26, pcl_33, pcl_44, pcl_50, pcl_59, pcl_8, rOK_i, rOK_z, v_aload_0, v_bipush_12, v_bipush_40, v_getfield, v_goto, v_iadd, v_iaload, v_ic_ge, v_ic_ne, v_iconst_0, v_iconst_1, v_if_eq, v_if_ne, v_iload_1, v_iload_2, v_iload_3, v_iload_4, v_iload_5, v_imul, v_invs, v_invv, v_ior, v_ireturn, v_ishl, v_istore_2, v_istore_3, v_istore_4, v_istore_5, vcS_2_1, vcV_2_6, vgf_i, vgf_r, vgf_s, vc_d, rr_0, rr_1, csT_h, csT_t, csT_n, bI_0, bI_1, bI_z, bT, List.mem_cons, List.not_mem_nil, List.length_cons, List.length_nil, ite_not, ↓reduceIte, true_and, and_true, not_true_eq_false, not_false_eq_true, false_or, or_false, or_true, true_or, Nat.reduceAdd, Nat.reduceEqDiff, Nat.reduceBEq, Nat.reduceLeDiff, Nat.reduceLT, Nat.reduceSub, Int.reduceAdd, Int.reduceLE, Int.reduceLT, Int.reduceToNat, Int.reduceNeg, Int.reduceNatCast', reduceCtorEq, Int32.reduceOfInt, Int32.reduceOfNat, Int32.reduceToNatClampNeg, Int32.reduceToInt, i10, i01, nEM, pe_X7_putBack, cs, ct, j2_n, he, c1, j2_60, j2_62, j2_m60, back hr]
  exact ⟨by omega, h⟩
set_option maxRecDepth 100000 in
set_option maxHeartbeats 4000000 in
theorem lp_judgeM {d : Nat} (hd : 6 ≤ d) {M : Mem} {k : Value → Mem → Prop} {s m : Nat} {a r0 : Nat → Int32} (hs : s < 4) (hm : m ≤ 40) (he : M 71 s = nI m) : ∀ (n i : Nat) (c : Int32) (r : Nat → Int32) (x5 : Value), i + n = m → IM r → (∀ j, 50 ≤ j → r j = r0 j) → k (.int (jdM (shR M s) n i c r)) (j2 M (cpN 50 r0 a) r0) → WP (7, yX7_judge, cX7_judge, 6, (some .int)) (d + 1) k 36 [.ref 59, .int (nI s), .int (nI i), .int c, .int 1, x5] [] (j2 M (cpN 50 r0 a) r) := by
  have cs : (nI s).toNatClampNeg = s := nI_clamp (by omega)
  have ct : (nI s).toInt = (s : Int) := nI_toInt (by omega)
  intro n
  induction n with
  | zero =>
    intro i c r x5 hi hI hr h
    have c1 : nI m ≤ nI i := nI_le (by omega) (by omega)
    refine goV (n := 80) [(129, pf_X7_putBack)] [36] (T_cons (s_X7_putBack (by omega)) T_nil) ?_
    simp only [dX7_judge_0, dX7_judge_1, dX7_judge_2, dX7_judge_5, dX7_judge_8, dX7_judge_9, dX7_judge_10, dX7_judge_11, dX7_judge_14, dX7_judge_17, dX7_judge_18, dX7_judge_19, dX7_judge_22, dX7_judge_23, dX7_judge_26, dX7_judge_29, dX7_judge_30, dX7_judge_31, dX7_judge_32, dX7_judge_33, dX7_judge_34, dX7_judge_36, dX7_judge_37, dX7_judge_38, dX7_judge_41, dX7_judge_42, dX7_judge_43, dX7_judge_46, dX7_judge_48, dX7_judge_51, dX7_judge_52, dX7_judge_55, dX7_judge_57, dX7_judge_58, dX7_judge_59, dX7_judge_60, dX7_judge_61, dX7_judge_62, dX7_judge_64, dX7_judge_65, dX7_judge_67, dX7_judge_70, dX7_judge_73, dX7_judge_74, dX7_judge_76, dX7_judge_79, dX7_judge_82, dX7_judge_83, dX7_judge_85, dX7_judge_88, dX7_judge_90, dX7_judge_93, dX7_judge_94, dX7_judge_97, dX7_judge_98, dX7_judge_100, dX7_judge_101, dX7_judge_103, dX7_judge_106, dX7_judge_107, dX7_judge_109, dX7_judge_110, dX7_judge_113, dX7_judge_114, dX7_judge_115, dX7_judge_116, dX7_judge_117, dX7_judge_119, dX7_judge_122, dX7_judge_123, dX7_judge_126, dX7_judge_127, dX7_judge_128, dX7_judge_129, dX7_judge_132, dX7_judge_133, dX7_judge_135, dX7_judge_138, dX7_judge_139, dX7_judge_142, dX7_judge_143, dX7_judge_144, dX7_judge_145, dX7_judge_148, cr_7_126, cr_7_146, cr_7_155, cr_7_158, cr_7_224, cr_7_70, cr_7_75, fr_7_16, fr_7_60, fr_7_63, fr_7_9, al_10, al_11, al_12, al_13, al_14, al_16, al_17, al_18, al_19, al_2, al_20, al_21, al_23, al_24, al_27, al_28, al_29, al_3, al_30, al_31, al_32, al_34, al_36, al_37, al_38, al_39, al_4, al_40, al_41, al_42, al_43, al_45, al_46, al_47, al_48, al_49, al_5, al_52, al_53, al_54, al_55, al_56, al_57, al_58, al_6, al_60, al_61, al_62, al_63, al_64, al_65, al_66, al_67, al_69, al_7, al_70, al_71, al_72, al_73, al_9, cat_i, cat_l, cat_r, cat_u, gf_6_0_59, gf_6_23_59, gf_6_24_59, gf_6_2_59, pcl_0, pcl_1, pcl_100, pcl_101, pcl_102, pcl_103, pcl_104, pcl_105, pcl_106, pcl_107, pcl_108, pcl_109, pcl_110, pcl_111, pcl_112, pcl_15, pcl_22, pcl_25, pcl_26, pcl_33, pcl_44, pcl_50, pcl_59, pcl_8, rOK_i, rOK_z, v_aload_0, v_bipush_12, v_bipush_40, v_getfield, v_goto, v_iadd, v_iaload, v_ic_ge, v_ic_ne, v_iconst_0, v_iconst_1, v_if_eq, v_if_ne, v_iload_1, v_iload_2, v_iload_3, v_iload_4, v_iload_5, v_imul, v_invs, v_invv, v_ior, v_ireturn, v_ishl, v_istore_2, v_istore_3, v_istore_4, v_istore_5, vcS_2_1, vcV_2_6, vgf_i, vgf_r, vgf_s, vc_d, rr_0, rr_1, csT_h, csT_t, csT_n, bI_0, bI_1, bI_z, bT, List.mem_cons, List.not_mem_nil, List.length_cons, List.length_nil, ite_not, ↓reduceIte, true_and, and_true, not_true_eq_false, not_false_eq_true, false_or, or_false, or_true, true_or, Nat.reduceAdd, Nat.reduceEqDiff, Nat.reduceBEq, Nat.reduceLeDiff, Nat.reduceLT, Nat.reduceSub, Int.reduceAdd, Int.reduceLE, Int.reduceLT, Int.reduceToNat, Int.reduceNeg, Int.reduceNatCast', reduceCtorEq, Int32.reduceOfInt, Int32.reduceOfNat, Int32.reduceToNatClampNeg, Int32.reduceToInt, i10, i01, nEM, pe_X7_putBack, cs, ct, j2_n, he, c1, j2_60, j2_62, j2_m60, back hr]
    exact ⟨by omega, h⟩
  | succ n ih =>
    intro i c r x5 hi hI hr h
    have c1 : ¬ nI m ≤ nI i := nI_ge (by omega) (by omega)
    have c2 : (nI (40 * s + i)).toInt = ((40 * s + i : Nat) : Int) := nI_toInt (by omega)
    have c3 : (nI (40 * s + i)).toNatClampNeg = 40 * s + i := nI_clamp (by omega)
    have c0 : nI i + 0 = nI i := Int32.add_zero _
    refine goV (n := 80) [(136, pf_X7_isWalker), (131, pf_X7_has), (153, pf_X7_crosses)] [36] (T_cons (s_X7_isWalker (by omega)) (T_cons (s_X7_has (by omega)) (T_cons (s_X7_crosses (by omega)) T_nil))) ?_
    simp only [dX7_judge_0, dX7_judge_1, dX7_judge_2, dX7_judge_5, dX7_judge_8, dX7_judge_9, dX7_judge_10, dX7_judge_11, dX7_judge_14, dX7_judge_17, dX7_judge_18, dX7_judge_19, dX7_judge_22, dX7_judge_23, dX7_judge_26, dX7_judge_29, dX7_judge_30, dX7_judge_31, dX7_judge_32, dX7_judge_33, dX7_judge_34, dX7_judge_36, dX7_judge_37, dX7_judge_38, dX7_judge_41, dX7_judge_42, dX7_judge_43, dX7_judge_46, dX7_judge_48, dX7_judge_51, dX7_judge_52, dX7_judge_55, dX7_judge_57, dX7_judge_58, dX7_judge_59, dX7_judge_60, dX7_judge_61, dX7_judge_62, dX7_judge_64, dX7_judge_65, dX7_judge_67, dX7_judge_70, dX7_judge_73, dX7_judge_74, dX7_judge_76, dX7_judge_79, dX7_judge_82, dX7_judge_83, dX7_judge_85, dX7_judge_88, dX7_judge_90, dX7_judge_93, dX7_judge_94, dX7_judge_97, dX7_judge_98, dX7_judge_100, dX7_judge_101, dX7_judge_103, dX7_judge_106, dX7_judge_107, dX7_judge_109, dX7_judge_110, dX7_judge_113, dX7_judge_114, dX7_judge_115, dX7_judge_116, dX7_judge_117, dX7_judge_119, dX7_judge_122, dX7_judge_123, dX7_judge_126, dX7_judge_127, dX7_judge_128, dX7_judge_129, dX7_judge_132, dX7_judge_133, dX7_judge_135, dX7_judge_138, dX7_judge_139, dX7_judge_142, dX7_judge_143, dX7_judge_144, dX7_judge_145, dX7_judge_148, cr_7_126, cr_7_146, cr_7_155, cr_7_158, cr_7_224, cr_7_70, cr_7_75, fr_7_16, fr_7_60, fr_7_63, fr_7_9, al_10, al_11, al_12, al_13, al_14, al_16, al_17, al_18, al_19, al_2, al_20, al_21, al_23, al_24, al_27, al_28, al_29, al_3, al_30, al_31, al_32, al_34, al_36, al_37, al_38, al_39, al_4, al_40, al_41, al_42, al_43, al_45, al_46, al_47, al_48, al_49, al_5, al_52, al_53, al_54, al_55, al_56, al_57, al_58, al_6, al_60, al_61, al_62, al_63, al_64, al_65, al_66, al_67, al_69, al_7, al_70, al_71, al_72, al_73, al_9, cat_i, cat_l, cat_r, cat_u, gf_6_0_59, gf_6_23_59, gf_6_24_59, gf_6_2_59, pcl_0, pcl_1, pcl_100, pcl_101, pcl_102, pcl_103, pcl_104, pcl_105, pcl_106, pcl_107, pcl_108, pcl_109, pcl_110, pcl_111, pcl_112, pcl_15, pcl_22, pcl_25, pcl_26, pcl_33, pcl_44, pcl_50, pcl_59, pcl_8, rOK_i, rOK_z, v_aload_0, v_bipush_12, v_bipush_40, v_getfield, v_goto, v_iadd, v_iaload, v_ic_ge, v_ic_ne, v_iconst_0, v_iconst_1, v_if_eq, v_if_ne, v_iload_1, v_iload_2, v_iload_3, v_iload_4, v_iload_5, v_imul, v_invs, v_invv, v_ior, v_ireturn, v_ishl, v_istore_2, v_istore_3, v_istore_4, v_istore_5, vcS_2_1, vcV_2_6, vgf_i, vgf_r, vgf_s, vc_d, rr_0, rr_1, csT_h, csT_t, csT_n, bI_0, bI_1, bI_z, bT, List.mem_cons, List.not_mem_nil, List.length_cons, List.length_nil, ite_not, ↓reduceIte, true_and, and_true, not_true_eq_false, not_false_eq_true, false_or, or_false, or_true, true_or, Nat.reduceAdd, Nat.reduceEqDiff, Nat.reduceBEq, Nat.reduceLeDiff, Nat.reduceLT, Nat.reduceSub, Int.reduceAdd, Int.reduceLE, Int.reduceLT, Int.reduceToNat, Int.reduceNeg, Int.reduceNatCast', reduceCtorEq, Int32.reduceOfInt, Int32.reduceOfNat, Int32.reduceToNatClampNeg, Int32.reduceToInt, i10, i01, nEM, pe_X7_isWalker, pe_X7_has, pe_X7_crosses, cs, ct, j2_n, he, c0, c1, c2, c3, p40, hI, j2_60, j2_m60, eq12 crx_le, nI_1, or0, Classical.not_not]
    refine ⟨by omega, by omega, ?_⟩
    have hsh : shR M s i = M 72 (40 * s + i) := rfl
    rw [jdM, hsh] at h
    generalize M 72 (40 * s + i) = v at h ⊢
    by_cases h1 : hasM r v
    · rw [if_pos h1]
      have hw := hasM_o h1
      obtain ⟨x, hx, rfl⟩ := wOK_n hw
      rw [nI_clamp (show x < 2 ^ 31 by omega)] at h ⊢
      by_cases h2 : (c >>> (nI x &&& 31)) &&& 1 = 0
      · rw [if_pos h2]
        refine ⟨hw, ?_⟩
        by_cases h3 : (crx r x).1 < 12
        · rw [if_neg (fun z => z.2.2 h3)] at h
          rw [if_pos h3]
          exact lp_judge0 (by omega) hs hm he (by omega) (fun j hj => (crr_hi hx hj).trans (hr j hj)) h
        · rw [if_pos ⟨h1, h2, h3⟩] at h
          rw [if_neg h3]
          refine ih (i + 1) _ _ _ (by omega) ?_ (fun j hj => (crr_hi hx hj).trans (hr j hj)) h
          obtain ⟨q, hq, e⟩ := hI
          exact ⟨q, hq, by rw [crr_1]; exact e⟩
      · rw [if_neg (fun z => h2 z.2.1)] at h
        rw [if_neg h2]
        exact lp_judge0 (by omega) hs hm he (by omega) hr h
    · rw [if_neg (fun z => h1 z.1)] at h
      rw [if_neg h1]
      exact lp_judge0 (by omega) hs hm he (by omega) hr h
def pf_X7_judge : PF := fun args M k => match args with
  | [.ref o, .int s] => (o = 59 ∧ IM (M 60) ∧ ZM M) ∧ (if fdG M s = 0 then ∀ a, k (.int (jdM (shR M (s).toNatClampNeg) (M 71 (s).toNatClampNeg).toNatClampNeg 0 0 (M 60))) (j2 M a (M 60)) else k (.int (fdG M s)) (fndM M (-1000001 - fdG M s).toNatClampNeg))
  | _ => False
theorem pe_X7_judge {o : Nat} {s : Int32} {M : Mem} {k : Value → Mem → Prop} : pf_X7_judge [.ref o, .int s] M k = ((o = 59 ∧ IM (M 60) ∧ ZM M) ∧ (if fdG M s = 0 then ∀ a, k (.int (jdM (shR M (s).toNatClampNeg) (M 71 (s).toNatClampNeg).toNatClampNeg 0 0 (M 60))) (j2 M a (M 60)) else k (.int (fdG M s)) (fndM M (-1000001 - fdG M s).toNatClampNeg))) := rfl
theorem le_X7_judge {o : Nat} {s : Int32} : lent 6 ([.ref o, .int s] : List Value) = [.ref o, .int s, .retAddr 0, .retAddr 0, .retAddr 0, .retAddr 0] := rfl
set_option maxRecDepth 100000 in
set_option maxHeartbeats 4000000 in
theorem c_X7_judge {d : Nat} (hd : 7 ≤ d) {o : Nat} {s : Int32} {M : Mem} {k : Value → Mem → Prop} (h : (o = 59 ∧ IM (M 60) ∧ ZM M) ∧ (if fdG M s = 0 then ∀ a, k (.int (jdM (shR M (s).toNatClampNeg) (M 71 (s).toNatClampNeg).toNatClampNeg 0 0 (M 60))) (j2 M a (M 60)) else k (.int (fdG M s)) (fndM M (-1000001 - fdG M s).toNatClampNeg))) : CallP d 224 [.ref o, .int s] M k := by
  obtain ⟨hp, h⟩ := h
  obtain ⟨d, rfl⟩ : ∃ d', d = d' + 1 := ⟨d - 1, by omega⟩
  obtain ⟨rfl, hI, hz⟩ := hp
  · refine enterV (n := 80) [(189, pf_X7_lacks), (125, pf_X7_finding), (128, pf_X7_copyRow)] [36] mI_224 (by decide) (Nat.le_of_ble_eq_true rfl) (T_cons (s_X7_lacks (by omega)) (T_cons (s_X7_finding (by omega)) (T_cons (s_X7_copyRow (by omega)) T_nil))) ?_
    rw [le_X7_judge]
    simp only [dX7_judge_0, dX7_judge_1, dX7_judge_2, dX7_judge_5, dX7_judge_8, dX7_judge_9, dX7_judge_10, dX7_judge_11, dX7_judge_14, dX7_judge_17, dX7_judge_18, dX7_judge_19, dX7_judge_22, dX7_judge_23, dX7_judge_26, dX7_judge_29, dX7_judge_30, dX7_judge_31, dX7_judge_32, dX7_judge_33, dX7_judge_34, dX7_judge_36, dX7_judge_37, dX7_judge_38, dX7_judge_41, dX7_judge_42, dX7_judge_43, dX7_judge_46, dX7_judge_48, dX7_judge_51, dX7_judge_52, dX7_judge_55, dX7_judge_57, dX7_judge_58, dX7_judge_59, dX7_judge_60, dX7_judge_61, dX7_judge_62, dX7_judge_64, dX7_judge_65, dX7_judge_67, dX7_judge_70, dX7_judge_73, dX7_judge_74, dX7_judge_76, dX7_judge_79, dX7_judge_82, dX7_judge_83, dX7_judge_85, dX7_judge_88, dX7_judge_90, dX7_judge_93, dX7_judge_94, dX7_judge_97, dX7_judge_98, dX7_judge_100, dX7_judge_101, dX7_judge_103, dX7_judge_106, dX7_judge_107, dX7_judge_109, dX7_judge_110, dX7_judge_113, dX7_judge_114, dX7_judge_115, dX7_judge_116, dX7_judge_117, dX7_judge_119, dX7_judge_122, dX7_judge_123, dX7_judge_126, dX7_judge_127, dX7_judge_128, dX7_judge_129, dX7_judge_132, dX7_judge_133, dX7_judge_135, dX7_judge_138, dX7_judge_139, dX7_judge_142, dX7_judge_143, dX7_judge_144, dX7_judge_145, dX7_judge_148, cr_7_126, cr_7_146, cr_7_155, cr_7_158, cr_7_224, cr_7_70, cr_7_75, fr_7_16, fr_7_60, fr_7_63, fr_7_9, al_10, al_11, al_12, al_13, al_14, al_16, al_17, al_18, al_19, al_2, al_20, al_21, al_23, al_24, al_27, al_28, al_29, al_3, al_30, al_31, al_32, al_34, al_36, al_37, al_38, al_39, al_4, al_40, al_41, al_42, al_43, al_45, al_46, al_47, al_48, al_49, al_5, al_52, al_53, al_54, al_55, al_56, al_57, al_58, al_6, al_60, al_61, al_62, al_63, al_64, al_65, al_66, al_67, al_69, al_7, al_70, al_71, al_72, al_73, al_9, cat_i, cat_l, cat_r, cat_u, gf_6_0_59, gf_6_23_59, gf_6_24_59, gf_6_2_59, pcl_0, pcl_1, pcl_100, pcl_101, pcl_102, pcl_103, pcl_104, pcl_105, pcl_106, pcl_107, pcl_108, pcl_109, pcl_110, pcl_111, pcl_112, pcl_15, pcl_22, pcl_25, pcl_26, pcl_33, pcl_44, pcl_50, pcl_59, pcl_8, rOK_i, rOK_z, v_aload_0, v_bipush_12, v_bipush_40, v_getfield, v_goto, v_iadd, v_iaload, v_ic_ge, v_ic_ne, v_iconst_0, v_iconst_1, v_if_eq, v_if_ne, v_iload_1, v_iload_2, v_iload_3, v_iload_4, v_iload_5, v_imul, v_invs, v_invv, v_ior, v_ireturn, v_ishl, v_istore_2, v_istore_3, v_istore_4, v_istore_5, vcS_2_1, vcV_2_6, vgf_i, vgf_r, vgf_s, vc_d, rr_0, rr_1, csT_h, csT_t, csT_n, bI_0, bI_1, bI_z, bT, List.mem_cons, List.not_mem_nil, List.length_cons, List.length_nil, ite_not, ↓reduceIte, true_and, and_true, not_true_eq_false, not_false_eq_true, false_or, or_false, or_true, true_or, Nat.reduceAdd, Nat.reduceEqDiff, Nat.reduceBEq, Nat.reduceLeDiff, Nat.reduceLT, Nat.reduceSub, Int.reduceAdd, Int.reduceLE, Int.reduceLT, Int.reduceToNat, Int.reduceNeg, Int.reduceNatCast', reduceCtorEq, Int32.reduceOfInt, Int32.reduceOfNat, Int32.reduceToNatClampNeg, Int32.reduceToInt, i10, i01, nEM, pe_X7_lacks, fn_0, fn_1, fn_2, fn_3, fn_4, fn_5, fn_6, pe_X7_copyRow, j2_a]
    by_cases h0 : fdG M s = 0
    · rw [if_pos h0] at h ⊢
      have hs := (fg0 h0).1
      obtain ⟨t, ht, rfl⟩ := s4_n hs
      obtain ⟨m, hm, he⟩ := hz t ht
      rw [nI_clamp (show t < 2 ^ 31 by omega), he, nI_clamp (show m < 2 ^ 31 by omega)] at h
      exact lp_judgeM (by omega) ht hm he m 0 0 (M 60) (.retAddr 0) (by omega) hI (fun _ _ => rfl) (h _)
    · rw [if_neg h0] at h ⊢
      rw [fg_fn h0]
      simp only [dX7_judge_0, dX7_judge_1, dX7_judge_2, dX7_judge_5, dX7_judge_8, dX7_judge_9, dX7_judge_10, dX7_judge_11, dX7_judge_14, dX7_judge_17, dX7_judge_18, dX7_judge_19, dX7_judge_22, dX7_judge_23, dX7_judge_26, dX7_judge_29, dX7_judge_30, dX7_judge_31, dX7_judge_32, dX7_judge_33, dX7_judge_34, dX7_judge_36, dX7_judge_37, dX7_judge_38, dX7_judge_41, dX7_judge_42, dX7_judge_43, dX7_judge_46, dX7_judge_48, dX7_judge_51, dX7_judge_52, dX7_judge_55, dX7_judge_57, dX7_judge_58, dX7_judge_59, dX7_judge_60, dX7_judge_61, dX7_judge_62, dX7_judge_64, dX7_judge_65, dX7_judge_67, dX7_judge_70, dX7_judge_73, dX7_judge_74, dX7_judge_76, dX7_judge_79, dX7_judge_82, dX7_judge_83, dX7_judge_85, dX7_judge_88, dX7_judge_90, dX7_judge_93, dX7_judge_94, dX7_judge_97, dX7_judge_98, dX7_judge_100, dX7_judge_101, dX7_judge_103, dX7_judge_106, dX7_judge_107, dX7_judge_109, dX7_judge_110, dX7_judge_113, dX7_judge_114, dX7_judge_115, dX7_judge_116, dX7_judge_117, dX7_judge_119, dX7_judge_122, dX7_judge_123, dX7_judge_126, dX7_judge_127, dX7_judge_128, dX7_judge_129, dX7_judge_132, dX7_judge_133, dX7_judge_135, dX7_judge_138, dX7_judge_139, dX7_judge_142, dX7_judge_143, dX7_judge_144, dX7_judge_145, dX7_judge_148, cr_7_126, cr_7_146, cr_7_155, cr_7_158, cr_7_224, cr_7_70, cr_7_75, fr_7_16, fr_7_60, fr_7_63, fr_7_9, al_10, al_11, al_12, al_13, al_14, al_16, al_17, al_18, al_19, al_2, al_20, al_21, al_23, al_24, al_27, al_28, al_29, al_3, al_30, al_31, al_32, al_34, al_36, al_37, al_38, al_39, al_4, al_40, al_41, al_42, al_43, al_45, al_46, al_47, al_48, al_49, al_5, al_52, al_53, al_54, al_55, al_56, al_57, al_58, al_6, al_60, al_61, al_62, al_63, al_64, al_65, al_66, al_67, al_69, al_7, al_70, al_71, al_72, al_73, al_9, cat_i, cat_l, cat_r, cat_u, gf_6_0_59, gf_6_23_59, gf_6_24_59, gf_6_2_59, pcl_0, pcl_1, pcl_100, pcl_101, pcl_102, pcl_103, pcl_104, pcl_105, pcl_106, pcl_107, pcl_108, pcl_109, pcl_110, pcl_111, pcl_112, pcl_15, pcl_22, pcl_25, pcl_26, pcl_33, pcl_44, pcl_50, pcl_59, pcl_8, rOK_i, rOK_z, v_aload_0, v_bipush_12, v_bipush_40, v_getfield, v_goto, v_iadd, v_iaload, v_ic_ge, v_ic_ne, v_iconst_0, v_iconst_1, v_if_eq, v_if_ne, v_iload_1, v_iload_2, v_iload_3, v_iload_4, v_iload_5, v_imul, v_invs, v_invv, v_ior, v_ireturn, v_ishl, v_istore_2, v_istore_3, v_istore_4, v_istore_5, vcS_2_1, vcV_2_6, vgf_i, vgf_r, vgf_s, vc_d, rr_0, rr_1, csT_h, csT_t, csT_n, bI_0, bI_1, bI_z, bT, List.mem_cons, List.not_mem_nil, List.length_cons, List.length_nil, ite_not, ↓reduceIte, true_and, and_true, not_true_eq_false, not_false_eq_true, false_or, or_false, or_true, true_or, Nat.reduceAdd, Nat.reduceEqDiff, Nat.reduceBEq, Nat.reduceLeDiff, Nat.reduceLT, Nat.reduceSub, Int.reduceAdd, Int.reduceLE, Int.reduceLT, Int.reduceToNat, Int.reduceNeg, Int.reduceNatCast', reduceCtorEq, Int32.reduceOfInt, Int32.reduceOfNat, Int32.reduceToNatClampNeg, Int32.reduceToInt, i10, i01, nEM, pe_X7_lacks, fn_0, fn_1, fn_2, fn_3, fn_4, fn_5, fn_6, pe_X7_copyRow]
      exact h

theorem s_X7_judge {d : Nat} (hd : 7 ≤ d) : Snd d 224 pf_X7_judge := by
  intro args M k h
  unfold pf_X7_judge at h
  split at h
  · exact c_X7_judge hd h
  · exact h.elim
theorem cpy_0 {f g : Nat → Int32} {a b : Nat} : va_cpy f g a b 0 = g := by
  funext j
  unfold va_cpy
  rw [if_neg (by omega)]
theorem cpy_s {f g : Nat → Int32} {a b n : Nat} : upd (va_cpy f g a b n) (b + n) (f (a + n)) = va_cpy f g a b (n + 1) := by
  funext j
  unfold upd va_cpy
  by_cases h : j = b + n
  · subst h
    rw [if_pos rfl, if_pos (by omega), show a + (b + n - b) = a + n by omega]
  · rw [if_neg h]
    by_cases h2 : b ≤ j ∧ j < b + n
    · rw [if_pos h2, if_pos (by omega)]
    · rw [if_neg h2, if_neg (by omega)]
theorem p40b (s f t : Nat) : (40 : Int32) * nI s + nI f + nI t = nI (40 * s + f + t) := by
  rw [p40, nI_add]
set_option maxRecDepth 100000 in
set_option maxHeartbeats 4000000 in
theorem lp_copy2 {d : Nat} {M : Mem} {k : Value → Mem → Prop} {s f t g m : Nat} {q : Nat → Int32} (ht : t < 4) (hg : g + m ≤ 40) (hq : ∀ j, j < m → M 73 j = q j) (h : k (.int (nI m)) (mrow M 72 (va_cpy q (M 72) 0 (40 * t + g) m))) : ∀ (n i : Nat), i + n = m → WP (7, yX7_copy, cX7_copy, 7, (some .int)) (d + 1) k 165 [.ref 59, .int (nI s), .int (nI f), .int (nI t), .int (nI g), .int (nI m), .int (nI i)] [] (mrow M 72 (va_cpy q (M 72) 0 (40 * t + g) i)) := by
  intro n
  induction n with
  | zero =>
    intro i hi
    have e : i = m := by omega
    subst e
    have c1 : nI i ≤ nI i := nI_le (Nat.le_refl _) (by omega)
    refine goV (n := 80) [] [165] T_nil ?_
    simp only [dX7_copy_0, dX7_copy_1, dX7_copy_4, dX7_copy_7, dX7_copy_8, dX7_copy_11, dX7_copy_14, dX7_copy_15, dX7_copy_17, dX7_copy_20, dX7_copy_21, dX7_copy_22, dX7_copy_25, dX7_copy_26, dX7_copy_27, dX7_copy_30, dX7_copy_31, dX7_copy_34, dX7_copy_35, dX7_copy_36, dX7_copy_39, dX7_copy_40, dX7_copy_42, dX7_copy_45, dX7_copy_46, dX7_copy_47, dX7_copy_50, dX7_copy_51, dX7_copy_52, dX7_copy_53, dX7_copy_56, dX7_copy_57, dX7_copy_58, dX7_copy_61, dX7_copy_62, dX7_copy_65, dX7_copy_68, dX7_copy_69, dX7_copy_70, dX7_copy_73, dX7_copy_75, dX7_copy_78, dX7_copy_80, dX7_copy_83, dX7_copy_84, dX7_copy_85, dX7_copy_87, dX7_copy_88, dX7_copy_89, dX7_copy_90, dX7_copy_93, dX7_copy_94, dX7_copy_95, dX7_copy_96, dX7_copy_97, dX7_copy_100, dX7_copy_102, dX7_copy_103, dX7_copy_105, dX7_copy_106, dX7_copy_107, dX7_copy_108, dX7_copy_111, dX7_copy_112, dX7_copy_113, dX7_copy_114, dX7_copy_115, dX7_copy_118, dX7_copy_119, dX7_copy_121, dX7_copy_124, dX7_copy_125, dX7_copy_126, dX7_copy_128, dX7_copy_130, dX7_copy_132, dX7_copy_135, dX7_copy_136, dX7_copy_139, dX7_copy_141, dX7_copy_142, dX7_copy_145, dX7_copy_147, dX7_copy_148, dX7_copy_149, dX7_copy_150, dX7_copy_151, dX7_copy_153, dX7_copy_154, dX7_copy_155, dX7_copy_156, dX7_copy_159, dX7_copy_162, dX7_copy_163, dX7_copy_165, dX7_copy_167, dX7_copy_169, dX7_copy_172, dX7_copy_173, dX7_copy_176, dX7_copy_178, dX7_copy_179, dX7_copy_180, dX7_copy_182, dX7_copy_183, dX7_copy_185, dX7_copy_186, dX7_copy_187, dX7_copy_190, dX7_copy_192, dX7_copy_193, dX7_copy_194, dX7_copy_197, dX7_copy_200, dX7_copy_202, cr_7_220, cr_7_75, fr_7_57, fr_7_60, fr_7_63, fr_7_66, kr_7_223, kr_7_327, kr_7_69, skr_7_223, skr_7_327, skr_7_69, al_10, al_11, al_12, al_13, al_14, al_16, al_17, al_18, al_19, al_2, al_20, al_21, al_23, al_24, al_27, al_28, al_29, al_3, al_30, al_31, al_32, al_34, al_36, al_37, al_38, al_39, al_4, al_40, al_41, al_42, al_43, al_45, al_46, al_47, al_48, al_49, al_5, al_52, al_53, al_54, al_55, al_56, al_57, al_58, al_6, al_60, al_61, al_62, al_63, al_64, al_65, al_66, al_67, al_69, al_7, al_70, al_71, al_72, al_73, al_9, cat_i, cat_l, cat_r, cat_u, gf_6_22_59, gf_6_23_59, gf_6_24_59, gf_6_25_59, pcl_0, pcl_1, pcl_100, pcl_101, pcl_102, pcl_103, pcl_104, pcl_105, pcl_106, pcl_107, pcl_108, pcl_109, pcl_110, pcl_111, pcl_112, pcl_15, pcl_22, pcl_25, pcl_26, pcl_33, pcl_44, pcl_50, pcl_59, pcl_8, rOK_i, rOK_z, v_aload_0, v_bipush_40, v_getfield, v_goto, v_i2l, v_iadd, v_iaload, v_iastore, v_ic_eq, v_ic_ge, v_iconst_0, v_if_eq, v_if_gt, v_if_le, v_if_lt, v_if_ne, v_iinc_6, v_iload_1, v_iload_2, v_iload_3, v_iload_4, v_iload_5, v_iload_6, v_imul, v_invs, v_invv, v_ireturn, v_istore_6, v_ladd, v_lcmp, v_ldc, v_ldcw, vcS_1_1, vcV_2_6, vgf_i, vgf_r, vgf_s, vld_i, vld_s, vc_d, rr_0, rr_1, csT_h, csT_t, csT_n, bI_0, bI_1, bI_z, bT, List.mem_cons, List.not_mem_nil, List.length_cons, List.length_nil, ite_not, ↓reduceIte, true_and, and_true, not_true_eq_false, not_false_eq_true, false_or, or_false, or_true, true_or, Nat.reduceAdd, Nat.reduceEqDiff, Nat.reduceBEq, Nat.reduceLeDiff, Nat.reduceLT, Nat.reduceSub, Int.reduceAdd, Int.reduceLE, Int.reduceLT, Int.reduceToNat, Int.reduceNeg, Int.reduceNatCast', reduceCtorEq, Int32.reduceOfInt, Int32.reduceOfNat, Int32.reduceToNatClampNeg, Int32.reduceToInt, i10, i01, nEM, c1]
    exact h
  | succ n ih =>
    intro i hi
    have c1 : ¬ nI m ≤ nI i := nI_ge (by omega) (by omega)
    have c2 : (nI (40 * t + g + i)).toInt = ((40 * t + g + i : Nat) : Int) := nI_toInt (by omega)
    have c3 : (nI (40 * t + g + i)).toNatClampNeg = 40 * t + g + i := nI_clamp (by omega)
    have c4 : (nI i).toInt = (i : Int) := nI_toInt (by omega)
    have c5 : (nI i).toNatClampNeg = i := nI_clamp (by omega)
    refine goV (n := 80) [] [165] T_nil ?_
    simp only [dX7_copy_0, dX7_copy_1, dX7_copy_4, dX7_copy_7, dX7_copy_8, dX7_copy_11, dX7_copy_14, dX7_copy_15, dX7_copy_17, dX7_copy_20, dX7_copy_21, dX7_copy_22, dX7_copy_25, dX7_copy_26, dX7_copy_27, dX7_copy_30, dX7_copy_31, dX7_copy_34, dX7_copy_35, dX7_copy_36, dX7_copy_39, dX7_copy_40, dX7_copy_42, dX7_copy_45, dX7_copy_46, dX7_copy_47, dX7_copy_50, dX7_copy_51, dX7_copy_52, dX7_copy_53, dX7_copy_56, dX7_copy_57, dX7_copy_58, dX7_copy_61, dX7_copy_62, dX7_copy_65, dX7_copy_68, dX7_copy_69, dX7_copy_70, dX7_copy_73, dX7_copy_75, dX7_copy_78, dX7_copy_80, dX7_copy_83, dX7_copy_84, dX7_copy_85, dX7_copy_87, dX7_copy_88, dX7_copy_89, dX7_copy_90, dX7_copy_93, dX7_copy_94, dX7_copy_95, dX7_copy_96, dX7_copy_97, dX7_copy_100, dX7_copy_102, dX7_copy_103, dX7_copy_105, dX7_copy_106, dX7_copy_107, dX7_copy_108, dX7_copy_111, dX7_copy_112, dX7_copy_113, dX7_copy_114, dX7_copy_115, dX7_copy_118, dX7_copy_119, dX7_copy_121, dX7_copy_124, dX7_copy_125, dX7_copy_126, dX7_copy_128, dX7_copy_130, dX7_copy_132, dX7_copy_135, dX7_copy_136, dX7_copy_139, dX7_copy_141, dX7_copy_142, dX7_copy_145, dX7_copy_147, dX7_copy_148, dX7_copy_149, dX7_copy_150, dX7_copy_151, dX7_copy_153, dX7_copy_154, dX7_copy_155, dX7_copy_156, dX7_copy_159, dX7_copy_162, dX7_copy_163, dX7_copy_165, dX7_copy_167, dX7_copy_169, dX7_copy_172, dX7_copy_173, dX7_copy_176, dX7_copy_178, dX7_copy_179, dX7_copy_180, dX7_copy_182, dX7_copy_183, dX7_copy_185, dX7_copy_186, dX7_copy_187, dX7_copy_190, dX7_copy_192, dX7_copy_193, dX7_copy_194, dX7_copy_197, dX7_copy_200, dX7_copy_202, cr_7_220, cr_7_75, fr_7_57, fr_7_60, fr_7_63, fr_7_66, kr_7_223, kr_7_327, kr_7_69, skr_7_223, skr_7_327, skr_7_69, al_10, al_11, al_12, al_13, al_14, al_16, al_17, al_18, al_19, al_2, al_20, al_21, al_23, al_24, al_27, al_28, al_29, al_3, al_30, al_31, al_32, al_34, al_36, al_37, al_38, al_39, al_4, al_40, al_41, al_42, al_43, al_45, al_46, al_47, al_48, al_49, al_5, al_52, al_53, al_54, al_55, al_56, al_57, al_58, al_6, al_60, al_61, al_62, al_63, al_64, al_65, al_66, al_67, al_69, al_7, al_70, al_71, al_72, al_73, al_9, cat_i, cat_l, cat_r, cat_u, gf_6_22_59, gf_6_23_59, gf_6_24_59, gf_6_25_59, pcl_0, pcl_1, pcl_100, pcl_101, pcl_102, pcl_103, pcl_104, pcl_105, pcl_106, pcl_107, pcl_108, pcl_109, pcl_110, pcl_111, pcl_112, pcl_15, pcl_22, pcl_25, pcl_26, pcl_33, pcl_44, pcl_50, pcl_59, pcl_8, rOK_i, rOK_z, v_aload_0, v_bipush_40, v_getfield, v_goto, v_i2l, v_iadd, v_iaload, v_iastore, v_ic_eq, v_ic_ge, v_iconst_0, v_if_eq, v_if_gt, v_if_le, v_if_lt, v_if_ne, v_iinc_6, v_iload_1, v_iload_2, v_iload_3, v_iload_4, v_iload_5, v_iload_6, v_imul, v_invs, v_invv, v_ireturn, v_istore_6, v_ladd, v_lcmp, v_ldc, v_ldcw, vcS_1_1, vcV_2_6, vgf_i, vgf_r, vgf_s, vld_i, vld_s, vc_d, rr_0, rr_1, csT_h, csT_t, csT_n, bI_0, bI_1, bI_z, bT, List.mem_cons, List.not_mem_nil, List.length_cons, List.length_nil, ite_not, ↓reduceIte, true_and, and_true, not_true_eq_false, not_false_eq_true, false_or, or_false, or_true, true_or, Nat.reduceAdd, Nat.reduceEqDiff, Nat.reduceBEq, Nat.reduceLeDiff, Nat.reduceLT, Nat.reduceSub, Int.reduceAdd, Int.reduceLE, Int.reduceLT, Int.reduceToNat, Int.reduceNeg, Int.reduceNatCast', reduceCtorEq, Int32.reduceOfInt, Int32.reduceOfNat, Int32.reduceToNatClampNeg, Int32.reduceToInt, i10, i01, nEM, c1, p40b, c2, c3, c4, c5, nI_1, mset, mrow_s, mrow_n, mrow_mrow]
    refine ⟨by omega, by omega, ?_⟩
    have e := cpy_s (f := q) (g := M 72) (a := 0) (b := 40 * t + g) (n := i)
    rw [Nat.zero_add] at e
    rw [hq i (by omega), e]
    exact ih (i + 1) (by omega)
set_option maxRecDepth 100000 in
set_option maxHeartbeats 4000000 in
theorem lp_copy1 {d : Nat} {M : Mem} {k : Value → Mem → Prop} {s f t g m : Nat} (hs : s < 4) (hf : f + m ≤ 40) (ht : t < 4) (hg : g + m ≤ 40) (h : ∀ a, k (.int (nI m)) (mrow (mrow M 73 a) 72 (va_cpy (M 72) (M 72) (40 * s + f) (40 * t + g) m))) : ∀ (n i : Nat) (a : Nat → Int32), i + n = m → (∀ j, j < i → a j = M 72 (40 * s + f + j)) → WP (7, yX7_copy, cX7_copy, 7, (some .int)) (d + 1) k 128 [.ref 59, .int (nI s), .int (nI f), .int (nI t), .int (nI g), .int (nI m), .int (nI i)] [] (mrow M 73 a) := by
  intro n
  induction n with
  | zero =>
    intro i a hi ha
    have e : i = m := by omega
    subst e
    have c1 : nI i ≤ nI i := nI_le (Nat.le_refl _) (by omega)
    refine goV (n := 80) [] [128, 165] T_nil ?_
    simp only [dX7_copy_0, dX7_copy_1, dX7_copy_4, dX7_copy_7, dX7_copy_8, dX7_copy_11, dX7_copy_14, dX7_copy_15, dX7_copy_17, dX7_copy_20, dX7_copy_21, dX7_copy_22, dX7_copy_25, dX7_copy_26, dX7_copy_27, dX7_copy_30, dX7_copy_31, dX7_copy_34, dX7_copy_35, dX7_copy_36, dX7_copy_39, dX7_copy_40, dX7_copy_42, dX7_copy_45, dX7_copy_46, dX7_copy_47, dX7_copy_50, dX7_copy_51, dX7_copy_52, dX7_copy_53, dX7_copy_56, dX7_copy_57, dX7_copy_58, dX7_copy_61, dX7_copy_62, dX7_copy_65, dX7_copy_68, dX7_copy_69, dX7_copy_70, dX7_copy_73, dX7_copy_75, dX7_copy_78, dX7_copy_80, dX7_copy_83, dX7_copy_84, dX7_copy_85, dX7_copy_87, dX7_copy_88, dX7_copy_89, dX7_copy_90, dX7_copy_93, dX7_copy_94, dX7_copy_95, dX7_copy_96, dX7_copy_97, dX7_copy_100, dX7_copy_102, dX7_copy_103, dX7_copy_105, dX7_copy_106, dX7_copy_107, dX7_copy_108, dX7_copy_111, dX7_copy_112, dX7_copy_113, dX7_copy_114, dX7_copy_115, dX7_copy_118, dX7_copy_119, dX7_copy_121, dX7_copy_124, dX7_copy_125, dX7_copy_126, dX7_copy_128, dX7_copy_130, dX7_copy_132, dX7_copy_135, dX7_copy_136, dX7_copy_139, dX7_copy_141, dX7_copy_142, dX7_copy_145, dX7_copy_147, dX7_copy_148, dX7_copy_149, dX7_copy_150, dX7_copy_151, dX7_copy_153, dX7_copy_154, dX7_copy_155, dX7_copy_156, dX7_copy_159, dX7_copy_162, dX7_copy_163, dX7_copy_165, dX7_copy_167, dX7_copy_169, dX7_copy_172, dX7_copy_173, dX7_copy_176, dX7_copy_178, dX7_copy_179, dX7_copy_180, dX7_copy_182, dX7_copy_183, dX7_copy_185, dX7_copy_186, dX7_copy_187, dX7_copy_190, dX7_copy_192, dX7_copy_193, dX7_copy_194, dX7_copy_197, dX7_copy_200, dX7_copy_202, cr_7_220, cr_7_75, fr_7_57, fr_7_60, fr_7_63, fr_7_66, kr_7_223, kr_7_327, kr_7_69, skr_7_223, skr_7_327, skr_7_69, al_10, al_11, al_12, al_13, al_14, al_16, al_17, al_18, al_19, al_2, al_20, al_21, al_23, al_24, al_27, al_28, al_29, al_3, al_30, al_31, al_32, al_34, al_36, al_37, al_38, al_39, al_4, al_40, al_41, al_42, al_43, al_45, al_46, al_47, al_48, al_49, al_5, al_52, al_53, al_54, al_55, al_56, al_57, al_58, al_6, al_60, al_61, al_62, al_63, al_64, al_65, al_66, al_67, al_69, al_7, al_70, al_71, al_72, al_73, al_9, cat_i, cat_l, cat_r, cat_u, gf_6_22_59, gf_6_23_59, gf_6_24_59, gf_6_25_59, pcl_0, pcl_1, pcl_100, pcl_101, pcl_102, pcl_103, pcl_104, pcl_105, pcl_106, pcl_107, pcl_108, pcl_109, pcl_110, pcl_111, pcl_112, pcl_15, pcl_22, pcl_25, pcl_26, pcl_33, pcl_44, pcl_50, pcl_59, pcl_8, rOK_i, rOK_z, v_aload_0, v_bipush_40, v_getfield, v_goto, v_i2l, v_iadd, v_iaload, v_iastore, v_ic_eq, v_ic_ge, v_iconst_0, v_if_eq, v_if_gt, v_if_le, v_if_lt, v_if_ne, v_iinc_6, v_iload_1, v_iload_2, v_iload_3, v_iload_4, v_iload_5, v_iload_6, v_imul, v_invs, v_invv, v_ireturn, v_istore_6, v_ladd, v_lcmp, v_ldc, v_ldcw, vcS_1_1, vcV_2_6, vgf_i, vgf_r, vgf_s, vld_i, vld_s, vc_d, rr_0, rr_1, csT_h, csT_t, csT_n, bI_0, bI_1, bI_z, bT, List.mem_cons, List.not_mem_nil, List.length_cons, List.length_nil, ite_not, ↓reduceIte, true_and, and_true, not_true_eq_false, not_false_eq_true, false_or, or_false, or_true, true_or, Nat.reduceAdd, Nat.reduceEqDiff, Nat.reduceBEq, Nat.reduceLeDiff, Nat.reduceLT, Nat.reduceSub, Int.reduceAdd, Int.reduceLE, Int.reduceLT, Int.reduceToNat, Int.reduceNeg, Int.reduceNatCast', reduceCtorEq, Int32.reduceOfInt, Int32.reduceOfNat, Int32.reduceToNatClampNeg, Int32.reduceToInt, i10, i01, nEM, c1]
    have key := lp_copy2 (d := d) (M := mrow M 73 a) (k := k) (s := s) (f := f) (q := fun j => M 72 (40 * s + f + j)) ht hg (fun j hj => by rw [mrow_s]; exact ha j hj) (by
      rw [mrow_n (by decide)]
      have e : va_cpy (fun j => M 72 (40 * s + f + j)) (M 72) 0 (40 * t + g) i = va_cpy (M 72) (M 72) (40 * s + f) (40 * t + g) i := by
        funext j
        unfold va_cpy
        by_cases h2 : 40 * t + g ≤ j ∧ j < 40 * t + g + i
        · rw [if_pos h2, if_pos h2]
          show M 72 _ = M 72 _
          rw [Nat.zero_add]
        · rw [if_neg h2, if_neg h2]
      rw [e]
      exact h a) i 0 (by omega)
    rw [cpy_0, mrow_self] at key
    exact key
  | succ n ih =>
    intro i a hi ha
    have c1 : ¬ nI m ≤ nI i := nI_ge (by omega) (by omega)
    have c2 : (nI (40 * s + f + i)).toInt = ((40 * s + f + i : Nat) : Int) := nI_toInt (by omega)
    have c3 : (nI (40 * s + f + i)).toNatClampNeg = 40 * s + f + i := nI_clamp (by omega)
    have c4 : (nI i).toInt = (i : Int) := nI_toInt (by omega)
    have c5 : (nI i).toNatClampNeg = i := nI_clamp (by omega)
    refine goV (n := 80) [] [128, 165] T_nil ?_
    simp only [dX7_copy_0, dX7_copy_1, dX7_copy_4, dX7_copy_7, dX7_copy_8, dX7_copy_11, dX7_copy_14, dX7_copy_15, dX7_copy_17, dX7_copy_20, dX7_copy_21, dX7_copy_22, dX7_copy_25, dX7_copy_26, dX7_copy_27, dX7_copy_30, dX7_copy_31, dX7_copy_34, dX7_copy_35, dX7_copy_36, dX7_copy_39, dX7_copy_40, dX7_copy_42, dX7_copy_45, dX7_copy_46, dX7_copy_47, dX7_copy_50, dX7_copy_51, dX7_copy_52, dX7_copy_53, dX7_copy_56, dX7_copy_57, dX7_copy_58, dX7_copy_61, dX7_copy_62, dX7_copy_65, dX7_copy_68, dX7_copy_69, dX7_copy_70, dX7_copy_73, dX7_copy_75, dX7_copy_78, dX7_copy_80, dX7_copy_83, dX7_copy_84, dX7_copy_85, dX7_copy_87, dX7_copy_88, dX7_copy_89, dX7_copy_90, dX7_copy_93, dX7_copy_94, dX7_copy_95, dX7_copy_96, dX7_copy_97, dX7_copy_100, dX7_copy_102, dX7_copy_103, dX7_copy_105, dX7_copy_106, dX7_copy_107, dX7_copy_108, dX7_copy_111, dX7_copy_112, dX7_copy_113, dX7_copy_114, dX7_copy_115, dX7_copy_118, dX7_copy_119, dX7_copy_121, dX7_copy_124, dX7_copy_125, dX7_copy_126, dX7_copy_128, dX7_copy_130, dX7_copy_132, dX7_copy_135, dX7_copy_136, dX7_copy_139, dX7_copy_141, dX7_copy_142, dX7_copy_145, dX7_copy_147, dX7_copy_148, dX7_copy_149, dX7_copy_150, dX7_copy_151, dX7_copy_153, dX7_copy_154, dX7_copy_155, dX7_copy_156, dX7_copy_159, dX7_copy_162, dX7_copy_163, dX7_copy_165, dX7_copy_167, dX7_copy_169, dX7_copy_172, dX7_copy_173, dX7_copy_176, dX7_copy_178, dX7_copy_179, dX7_copy_180, dX7_copy_182, dX7_copy_183, dX7_copy_185, dX7_copy_186, dX7_copy_187, dX7_copy_190, dX7_copy_192, dX7_copy_193, dX7_copy_194, dX7_copy_197, dX7_copy_200, dX7_copy_202, cr_7_220, cr_7_75, fr_7_57, fr_7_60, fr_7_63, fr_7_66, kr_7_223, kr_7_327, kr_7_69, skr_7_223, skr_7_327, skr_7_69, al_10, al_11, al_12, al_13, al_14, al_16, al_17, al_18, al_19, al_2, al_20, al_21, al_23, al_24, al_27, al_28, al_29, al_3, al_30, al_31, al_32, al_34, al_36, al_37, al_38, al_39, al_4, al_40, al_41, al_42, al_43, al_45, al_46, al_47, al_48, al_49, al_5, al_52, al_53, al_54, al_55, al_56, al_57, al_58, al_6, al_60, al_61, al_62, al_63, al_64, al_65, al_66, al_67, al_69, al_7, al_70, al_71, al_72, al_73, al_9, cat_i, cat_l, cat_r, cat_u, gf_6_22_59, gf_6_23_59, gf_6_24_59, gf_6_25_59, pcl_0, pcl_1, pcl_100, pcl_101, pcl_102, pcl_103, pcl_104, pcl_105, pcl_106, pcl_107, pcl_108, pcl_109, pcl_110, pcl_111, pcl_112, pcl_15, pcl_22, pcl_25, pcl_26, pcl_33, pcl_44, pcl_50, pcl_59, pcl_8, rOK_i, rOK_z, v_aload_0, v_bipush_40, v_getfield, v_goto, v_i2l, v_iadd, v_iaload, v_iastore, v_ic_eq, v_ic_ge, v_iconst_0, v_if_eq, v_if_gt, v_if_le, v_if_lt, v_if_ne, v_iinc_6, v_iload_1, v_iload_2, v_iload_3, v_iload_4, v_iload_5, v_iload_6, v_imul, v_invs, v_invv, v_ireturn, v_istore_6, v_ladd, v_lcmp, v_ldc, v_ldcw, vcS_1_1, vcV_2_6, vgf_i, vgf_r, vgf_s, vld_i, vld_s, vc_d, rr_0, rr_1, csT_h, csT_t, csT_n, bI_0, bI_1, bI_z, bT, List.mem_cons, List.not_mem_nil, List.length_cons, List.length_nil, ite_not, ↓reduceIte, true_and, and_true, not_true_eq_false, not_false_eq_true, false_or, or_false, or_true, true_or, Nat.reduceAdd, Nat.reduceEqDiff, Nat.reduceBEq, Nat.reduceLeDiff, Nat.reduceLT, Nat.reduceSub, Int.reduceAdd, Int.reduceLE, Int.reduceLT, Int.reduceToNat, Int.reduceNeg, Int.reduceNatCast', reduceCtorEq, Int32.reduceOfInt, Int32.reduceOfNat, Int32.reduceToNatClampNeg, Int32.reduceToInt, i10, i01, nEM, c1, p40b, c2, c3, c4, c5, nI_1, mset, mrow_s, mrow_n, mrow_mrow]
    refine ⟨by omega, by omega, ih (i + 1) _ (by omega) (fun j hj => ?_)⟩
    unfold upd
    by_cases e : j = i
    · rw [if_pos e, e]
    · rw [if_neg e]
      exact ha j (by omega)
theorem lcm_le {a b m : Nat} (ha : a < 2 ^ 31) (hb : b < 2 ^ 31) (hm : m < 2 ^ 31) : (0 < lg_cmp ((nI a).toInt64 + (nI b).toInt64) (nI m).toInt64) = ¬ a + b ≤ m := by
  rw [nI_l ha, nI_l hb, nI_l hm]
  have e : lN a + lN b = lN (a + b) := (Int64.ofNat_add a b).symm
  rw [e]
  unfold lg_cmp
  rcases Nat.lt_trichotomy (a + b) m with h | h | h
  · have h1 : ¬ lN (a + b) > lN m := fun z => absurd ((pk_lLT (by omega) (by omega)).mp z) (by omega)
    have h2 : ¬ lN (a + b) = lN m := fun z => absurd ((pk_lEQ (by omega) (by omega)).mp z) (by omega)
    rw [if_neg h1, if_neg h2]
    exact propext ⟨fun z => absurd z (by decide), fun z => absurd (by omega) z⟩
  · rw [h]
    have h1 : ¬ lN m > lN m := fun z => absurd ((pk_lLT (by omega) (by omega)).mp z) (by omega)
    rw [if_neg h1, if_pos rfl]
    exact propext ⟨fun z => absurd z (by decide), fun z => absurd (Nat.le_refl _) z⟩
  · have h3 : lN (a + b) > lN m := (pk_lLT (by omega) (by omega)).mpr h
    rw [if_pos h3]
    exact propext ⟨fun z => by omega, fun z => by decide⟩
def pf_X7_copy : PF := fun args M k => match args with
  | [.ref o, .int s, .int f, .int t, .int g, .int n] => (o = 59 ∧ ZM M) ∧ (if shOK s ∧ shOK t then (if M 70 (s).toNatClampNeg = 0 ∨ M 70 (t).toNatClampNeg = 0 then k (.int (-1000006)) (fndM M 5) else if M 70 (s).toNatClampNeg = M 70 (t).toNatClampNeg then (if (¬ f < 0 ∧ ¬ n < 0 ∧ ¬ M 71 (s).toNatClampNeg < n ∧ ¬ M 71 (s).toNatClampNeg - n < f) ∧ (¬ g < 0 ∧ ¬ n < 0 ∧ ¬ M 71 (t).toNatClampNeg < n ∧ ¬ M 71 (t).toNatClampNeg - n < g) then ∀ a, k (.int n) (mrow (mrow M 73 a) 72 (va_cpy (M 72) (M 72) (40 * (s).toNatClampNeg + (f).toNatClampNeg) (40 * (t).toNatClampNeg + (g).toNatClampNeg) (n).toNatClampNeg)) else k (.int (-1000001)) (fndM M 0)) else k (.int (-1000003)) (fndM M 2)) else k (.int (-1000001)) (fndM M 0))
  | _ => False
theorem pe_X7_copy {o : Nat} {s : Int32} {f : Int32} {t : Int32} {g : Int32} {n : Int32} {M : Mem} {k : Value → Mem → Prop} : pf_X7_copy [.ref o, .int s, .int f, .int t, .int g, .int n] M k = ((o = 59 ∧ ZM M) ∧ (if shOK s ∧ shOK t then (if M 70 (s).toNatClampNeg = 0 ∨ M 70 (t).toNatClampNeg = 0 then k (.int (-1000006)) (fndM M 5) else if M 70 (s).toNatClampNeg = M 70 (t).toNatClampNeg then (if (¬ f < 0 ∧ ¬ n < 0 ∧ ¬ M 71 (s).toNatClampNeg < n ∧ ¬ M 71 (s).toNatClampNeg - n < f) ∧ (¬ g < 0 ∧ ¬ n < 0 ∧ ¬ M 71 (t).toNatClampNeg < n ∧ ¬ M 71 (t).toNatClampNeg - n < g) then ∀ a, k (.int n) (mrow (mrow M 73 a) 72 (va_cpy (M 72) (M 72) (40 * (s).toNatClampNeg + (f).toNatClampNeg) (40 * (t).toNatClampNeg + (g).toNatClampNeg) (n).toNatClampNeg)) else k (.int (-1000001)) (fndM M 0)) else k (.int (-1000003)) (fndM M 2)) else k (.int (-1000001)) (fndM M 0))) := rfl
theorem le_X7_copy {o : Nat} {s : Int32} {f : Int32} {t : Int32} {g : Int32} {n : Int32} : lent 7 ([.ref o, .int s, .int f, .int t, .int g, .int n] : List Value) = [.ref o, .int s, .int f, .int t, .int g, .int n, .retAddr 0] := rfl
set_option maxRecDepth 100000 in
set_option maxHeartbeats 4000000 in
theorem c_X7_copy {d : Nat} (hd : 3 ≤ d) {o : Nat} {s : Int32} {f : Int32} {t : Int32} {g : Int32} {n : Int32} {M : Mem} {k : Value → Mem → Prop} (h : (o = 59 ∧ ZM M) ∧ (if shOK s ∧ shOK t then (if M 70 (s).toNatClampNeg = 0 ∨ M 70 (t).toNatClampNeg = 0 then k (.int (-1000006)) (fndM M 5) else if M 70 (s).toNatClampNeg = M 70 (t).toNatClampNeg then (if (¬ f < 0 ∧ ¬ n < 0 ∧ ¬ M 71 (s).toNatClampNeg < n ∧ ¬ M 71 (s).toNatClampNeg - n < f) ∧ (¬ g < 0 ∧ ¬ n < 0 ∧ ¬ M 71 (t).toNatClampNeg < n ∧ ¬ M 71 (t).toNatClampNeg - n < g) then ∀ a, k (.int n) (mrow (mrow M 73 a) 72 (va_cpy (M 72) (M 72) (40 * (s).toNatClampNeg + (f).toNatClampNeg) (40 * (t).toNatClampNeg + (g).toNatClampNeg) (n).toNatClampNeg)) else k (.int (-1000001)) (fndM M 0)) else k (.int (-1000003)) (fndM M 2)) else k (.int (-1000001)) (fndM M 0))) : CallP d 220 [.ref o, .int s, .int f, .int t, .int g, .int n] M k := by
  obtain ⟨hp, h⟩ := h
  obtain ⟨d, rfl⟩ : ∃ d', d = d' + 1 := ⟨d - 1, by omega⟩
  obtain ⟨rfl, hz⟩ := hp
  · refine enterV (n := 120) [(216, pf_X7_isSheet), (125, pf_X7_finding)] [128] mI_220 (by decide) (Nat.le_of_ble_eq_true rfl) (T_cons (s_X7_isSheet (by omega)) (T_cons (s_X7_finding (by omega)) T_nil)) ?_
    rw [le_X7_copy]
    simp only [dX7_copy_0, dX7_copy_1, dX7_copy_4, dX7_copy_7, dX7_copy_8, dX7_copy_11, dX7_copy_14, dX7_copy_15, dX7_copy_17, dX7_copy_20, dX7_copy_21, dX7_copy_22, dX7_copy_25, dX7_copy_26, dX7_copy_27, dX7_copy_30, dX7_copy_31, dX7_copy_34, dX7_copy_35, dX7_copy_36, dX7_copy_39, dX7_copy_40, dX7_copy_42, dX7_copy_45, dX7_copy_46, dX7_copy_47, dX7_copy_50, dX7_copy_51, dX7_copy_52, dX7_copy_53, dX7_copy_56, dX7_copy_57, dX7_copy_58, dX7_copy_61, dX7_copy_62, dX7_copy_65, dX7_copy_68, dX7_copy_69, dX7_copy_70, dX7_copy_73, dX7_copy_75, dX7_copy_78, dX7_copy_80, dX7_copy_83, dX7_copy_84, dX7_copy_85, dX7_copy_87, dX7_copy_88, dX7_copy_89, dX7_copy_90, dX7_copy_93, dX7_copy_94, dX7_copy_95, dX7_copy_96, dX7_copy_97, dX7_copy_100, dX7_copy_102, dX7_copy_103, dX7_copy_105, dX7_copy_106, dX7_copy_107, dX7_copy_108, dX7_copy_111, dX7_copy_112, dX7_copy_113, dX7_copy_114, dX7_copy_115, dX7_copy_118, dX7_copy_119, dX7_copy_121, dX7_copy_124, dX7_copy_125, dX7_copy_126, dX7_copy_128, dX7_copy_130, dX7_copy_132, dX7_copy_135, dX7_copy_136, dX7_copy_139, dX7_copy_141, dX7_copy_142, dX7_copy_145, dX7_copy_147, dX7_copy_148, dX7_copy_149, dX7_copy_150, dX7_copy_151, dX7_copy_153, dX7_copy_154, dX7_copy_155, dX7_copy_156, dX7_copy_159, dX7_copy_162, dX7_copy_163, dX7_copy_165, dX7_copy_167, dX7_copy_169, dX7_copy_172, dX7_copy_173, dX7_copy_176, dX7_copy_178, dX7_copy_179, dX7_copy_180, dX7_copy_182, dX7_copy_183, dX7_copy_185, dX7_copy_186, dX7_copy_187, dX7_copy_190, dX7_copy_192, dX7_copy_193, dX7_copy_194, dX7_copy_197, dX7_copy_200, dX7_copy_202, cr_7_220, cr_7_75, fr_7_57, fr_7_60, fr_7_63, fr_7_66, kr_7_223, kr_7_327, kr_7_69, skr_7_223, skr_7_327, skr_7_69, al_10, al_11, al_12, al_13, al_14, al_16, al_17, al_18, al_19, al_2, al_20, al_21, al_23, al_24, al_27, al_28, al_29, al_3, al_30, al_31, al_32, al_34, al_36, al_37, al_38, al_39, al_4, al_40, al_41, al_42, al_43, al_45, al_46, al_47, al_48, al_49, al_5, al_52, al_53, al_54, al_55, al_56, al_57, al_58, al_6, al_60, al_61, al_62, al_63, al_64, al_65, al_66, al_67, al_69, al_7, al_70, al_71, al_72, al_73, al_9, cat_i, cat_l, cat_r, cat_u, gf_6_22_59, gf_6_23_59, gf_6_24_59, gf_6_25_59, pcl_0, pcl_1, pcl_100, pcl_101, pcl_102, pcl_103, pcl_104, pcl_105, pcl_106, pcl_107, pcl_108, pcl_109, pcl_110, pcl_111, pcl_112, pcl_15, pcl_22, pcl_25, pcl_26, pcl_33, pcl_44, pcl_50, pcl_59, pcl_8, rOK_i, rOK_z, v_aload_0, v_bipush_40, v_getfield, v_goto, v_i2l, v_iadd, v_iaload, v_iastore, v_ic_eq, v_ic_ge, v_iconst_0, v_if_eq, v_if_gt, v_if_le, v_if_lt, v_if_ne, v_iinc_6, v_iload_1, v_iload_2, v_iload_3, v_iload_4, v_iload_5, v_iload_6, v_imul, v_invs, v_invv, v_ireturn, v_istore_6, v_ladd, v_lcmp, v_ldc, v_ldcw, vcS_1_1, vcV_2_6, vgf_i, vgf_r, vgf_s, vld_i, vld_s, vc_d, rr_0, rr_1, csT_h, csT_t, csT_n, bI_0, bI_1, bI_z, bT, List.mem_cons, List.not_mem_nil, List.length_cons, List.length_nil, ite_not, ↓reduceIte, true_and, and_true, not_true_eq_false, not_false_eq_true, false_or, or_false, or_true, true_or, Nat.reduceAdd, Nat.reduceEqDiff, Nat.reduceBEq, Nat.reduceLeDiff, Nat.reduceLT, Nat.reduceSub, Int.reduceAdd, Int.reduceLE, Int.reduceLT, Int.reduceToNat, Int.reduceNeg, Int.reduceNatCast', reduceCtorEq, Int32.reduceOfInt, Int32.reduceOfNat, Int32.reduceToNatClampNeg, Int32.reduceToInt, i10, i01, nEM, pe_X7_isSheet, fn_0, fn_1, fn_2, fn_3, fn_4, fn_5, fn_6, sh_m]
    by_cases h1 : shOK s
    · rw [if_pos h1]
      by_cases h2 : shOK t
      · rw [if_pos ⟨h1, h2⟩] at h
        rw [if_pos h2]
        obtain ⟨s', hs, rfl⟩ := s4_n h1
        obtain ⟨t', ht, rfl⟩ := s4_n h2
        have es : (nI s').toNatClampNeg = s' := nI_clamp (by omega)
        have et : (nI t').toNatClampNeg = t' := nI_clamp (by omega)
        have ds : (nI s').toInt = (s' : Int) := nI_toInt (by omega)
        have dt : (nI t').toInt = (t' : Int) := nI_toInt (by omega)
        simp only [es, et] at h
        simp only [es, et, ds, dt]
        obtain ⟨m1, hm1, e1⟩ := hz s' hs
        obtain ⟨m2, hm2, e2⟩ := hz t' ht
        rw [e1, e2] at h
        simp only [e1, e2]
        refine ⟨by omega, ?_⟩
        by_cases h3 : M 70 s' = 0
        · rw [if_pos (Or.inl h3)] at h
          rw [if_pos h3]
          exact h
        · rw [if_neg h3]
          refine ⟨by omega, ?_⟩
          by_cases h4 : M 70 t' = 0
          · rw [if_pos (Or.inr h4)] at h
            rw [if_pos h4]
            exact h
          · rw [if_neg (fun z => z.elim h3 h4)] at h
            rw [if_neg h4]
            refine ⟨by omega, by omega, ?_⟩
            by_cases h5 : M 70 s' = M 70 t'
            · rw [if_pos h5] at h ⊢
              by_cases h6 : f < 0
              · rw [if_neg (fun z => z.1.1 h6)] at h
                rw [if_pos h6]
                exact h
              · rw [if_neg h6]
                by_cases h7 : g < 0
                · rw [if_neg (fun z => z.2.1 h7)] at h
                  rw [if_pos h7]
                  exact h
                · rw [if_neg h7]
                  by_cases h8 : n < 0
                  · rw [if_neg (fun z => z.1.2.1 h8)] at h
                    rw [if_pos h8]
                    exact h
                  · rw [if_neg h8]
                    obtain ⟨f', hf, rfl⟩ := nI_of h6
                    obtain ⟨g', hg, rfl⟩ := nI_of h7
                    obtain ⟨n', hn, rfl⟩ := nI_of h8
                    have kf : ∀ (m x : Nat), m ≤ 40 → x < 2 ^ 31 → ((¬ nI m < nI n' ∧ ¬ nI m - nI n' < nI x) ↔ x + n' ≤ m) := by
                      intro m x hm hx
                      rw [nI_ltI (by omega) hn]
                      constructor
                      · rintro ⟨a, b⟩
                        rw [pk_sub (by omega), nI_ltI (by omega) hx] at b
                        omega
                      · intro a
                        refine ⟨by omega, ?_⟩
                        rw [pk_sub (by omega), nI_ltI (by omega) hx]
                        omega
                    rw [nI_clamp hf, nI_clamp hg, nI_clamp hn] at h
                    refine ⟨by omega, ?_⟩
                    have l1 := lcm_le hf hn (show m1 < 2 ^ 31 by omega)
                    have l2 := lcm_le hg hn (show m2 < 2 ^ 31 by omega)
                    by_cases h9 : f' + n' ≤ m1
                    · rw [if_neg (by rw [l1]; exact fun z => z h9)]
                      refine ⟨by omega, ?_⟩
                      by_cases h10 : g' + n' ≤ m2
                      · rw [if_pos ⟨⟨h6, h8, (kf m1 f' hm1 hf).mpr h9⟩, ⟨h7, h8, (kf m2 g' hm2 hg).mpr h10⟩⟩] at h
                        rw [if_pos (Int32.not_lt.mp (by rw [l2]; exact fun z => z h10))]
                        have := lp_copy1 (d := d) (M := M) (k := k) hs (by omega) ht (by omega) h n' 0 (M 73) (by omega) (fun j hj => absurd hj (Nat.not_lt_zero _))
                        rw [mrow_self] at this
                        exact this
                      · rw [if_neg (fun z => h10 ((kf m2 g' hm2 hg).mp z.2.2.2))] at h
                        rw [if_neg (fun z => Int32.not_lt.mpr z (by rw [l2]; exact h10))]
                        exact h
                    · rw [if_neg (fun z => h9 ((kf m1 f' hm1 hf).mp z.1.2.2))] at h
                      rw [if_pos (by rw [l1]; exact h9)]
                      exact h
            · rw [if_neg h5] at h ⊢
              exact h
      · rw [if_neg (fun z => h2 z.2)] at h
        rw [if_neg h2]
        exact h
    · rw [if_neg (fun z => h1 z.1)] at h
      rw [if_neg h1]
      exact h

theorem s_X7_copy {d : Nat} (hd : 3 ≤ d) : Snd d 220 pf_X7_copy := by
  intro args M k h
  unfold pf_X7_copy at h
  split at h
  · exact c_X7_copy hd h
  · exact h.elim
