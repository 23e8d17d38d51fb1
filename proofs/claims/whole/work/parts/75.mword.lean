/-! M: the next token; words -/
set_option maxRecDepth 100000 in
set_option maxHeartbeats 4000000 in
theorem call_next {d : Nat} (hd : 2 ≤ d) {M : Mem} {k : Value → Mem → Prop} {N e : Nat} (hN : N ≤ 120) (h12 : M 59 12 = nI N) (h14 : M 59 14 = nI e) (he : e ≤ N) (hb : ∀ i, i < N → ¬ M 67 i < 0) (h : ∀ G, TS (M 67) N G (scT (M 67) (N - e) e none) → (∀ j, j ≠ 13 → j ≠ 14 → j ≠ 15 → j ≠ 16 → G j = M 59 j) → k (.int 0) (mrow M 59 G)) : CallP d 203 [.ref 59] M k := by
  obtain ⟨d, rfl⟩ : ∃ d', d = d' + 1 := ⟨d - 1, by omega⟩
  refine enterV (n := 80) [] [8] mI_203 (by decide) (Nat.le_of_ble_eq_true rfl) T_nil ?_
  rw [show lent 2 ([.ref 59] : List Value) = [.ref 59, .retAddr 0] from rfl]
  simp only [dX7_next_0, dX7_next_1, dX7_next_2, dX7_next_5, dX7_next_8, dX7_next_9, dX7_next_10, dX7_next_13, dX7_next_16, dX7_next_18, dX7_next_21, dX7_next_22, dX7_next_23, dX7_next_26, dX7_next_27, dX7_next_28, dX7_next_31, dX7_next_34, dX7_next_35, dX7_next_36, dX7_next_39, dX7_next_42, dX7_next_43, dX7_next_44, dX7_next_45, dX7_next_48, dX7_next_51, dX7_next_52, dX7_next_53, dX7_next_56, dX7_next_57, dX7_next_60, dX7_next_61, dX7_next_62, dX7_next_65, dX7_next_68, dX7_next_69, dX7_next_71, dX7_next_73, dX7_next_76, dX7_next_79, dX7_next_80, dX7_next_81, dX7_next_84, dX7_next_85, dX7_next_86, dX7_next_89, dX7_next_92, dX7_next_94, dX7_next_96, dX7_next_99, dX7_next_102, dX7_next_103, dX7_next_104, dX7_next_107, dX7_next_108, dX7_next_109, dX7_next_112, dX7_next_115, dX7_next_116, dX7_next_118, dX7_next_120, dX7_next_123, dX7_next_126, dX7_next_127, dX7_next_128, dX7_next_131, dX7_next_132, dX7_next_133, dX7_next_136, dX7_next_139, dX7_next_141, dX7_next_143, dX7_next_146, dX7_next_149, dX7_next_150, dX7_next_153, dX7_next_155, dX7_next_156, dX7_next_159, dX7_next_160, dX7_next_161, dX7_next_162, dX7_next_165, dX7_next_168, dX7_next_169, dX7_next_171, dX7_next_172, dX7_next_175, dX7_next_178, dX7_next_179, dX7_next_180, dX7_next_183, dX7_next_184, dX7_next_185, dX7_next_188, dX7_next_191, dX7_next_192, dX7_next_193, dX7_next_196, dX7_next_197, dX7_next_198, dX7_next_201, dX7_next_202, dX7_next_203, dX7_next_206, cr_7_252, cr_7_79, cr_7_88, fr_7_246, fr_7_249, fr_7_255, fr_7_258, al_10, al_11, al_12, al_13, al_14, al_16, al_17, al_18, al_19, al_2, al_20, al_21, al_23, al_24, al_27, al_28, al_29, al_3, al_30, al_31, al_32, al_34, al_36, al_37, al_38, al_39, al_4, al_40, al_41, al_42, al_43, al_45, al_46, al_47, al_48, al_49, al_5, al_52, al_53, al_54, al_55, al_56, al_57, al_58, al_6, al_60, al_61, al_62, al_63, al_64, al_65, al_66, al_67, al_69, al_7, al_70, al_71, al_72, al_73, al_9, cat_i, cat_l, cat_r, cat_u, gf_6_13_59, gf_6_14_59, gf_6_15_59, gf_6_16_59, pcl_0, pcl_1, pcl_100, pcl_101, pcl_102, pcl_103, pcl_104, pcl_105, pcl_106, pcl_107, pcl_108, pcl_109, pcl_110, pcl_111, pcl_112, pcl_15, pcl_22, pcl_25, pcl_26, pcl_33, pcl_44, pcl_50, pcl_59, pcl_8, pft_6_13, pft_6_14, pft_6_15, pft_6_16, v_aload_0, v_bipush_10, v_bipush_122, v_bipush_32, v_bipush_48, v_bipush_57, v_bipush_97, v_dup, v_getfield, v_goto, v_iadd, v_ic_ne, v_iconst_0, v_iconst_1, v_iconst_2, v_iconst_3, v_if_eq, v_if_ge, v_iload_1, v_imul, v_invs, v_invv, v_istore_1, v_isub, v_putfield, v_return, v_sipush_1000, vcS_3_1, vcS_min, vcV_2_6, vgf_i, vgf_r, vgf_s, vpf_s, vc_d, rr_0, rr_1, csT_h, csT_t, csT_n, bI_0, bI_1, bI_z, bT, List.mem_cons, List.not_mem_nil, List.length_cons, List.length_nil, ite_not, ↓reduceIte, true_and, and_true, not_true_eq_false, not_false_eq_true, false_or, or_false, or_true, true_or, Nat.reduceAdd, Nat.reduceEqDiff, Nat.reduceBEq, Nat.reduceLeDiff, Nat.reduceLT, Nat.reduceSub, Int.reduceAdd, Int.reduceLE, Int.reduceLT, Int.reduceToNat, Int.reduceNeg, Int.reduceNatCast', reduceCtorEq, Int32.reduceOfInt, Int32.reduceOfNat, Int32.reduceToNatClampNeg, Int32.reduceToInt, i10, i01, nEM, h14, mset]
  refine lp_next1 (e0 := e) (by omega) hN (N - e) e _ (by omega) (by rw [upd_n (by decide)]; exact h12) upd_s (fun b q1 q2 q3 q4 => ?_)
  rw [upd_upd]
  have hx : (∃ N', N' ≤ 120 ∧ nI N = nI N') = True := eq_true ⟨N, hN, rfl⟩
  have hp : ¬ nI b < 0 := nI_pos (by omega)
  rw [q3] at h
  refine goV (n := 80) [(202, pf_X7_byteAt), (126, pf_X7_within)] [84, 131] (T_cons (s_X7_byteAt (by omega)) (T_cons (s_X7_within (by omega)) T_nil)) ?_
  rcases Nat.lt_or_ge b N with hlt | hge
  · have eb := bt_in (f := M 67) hN hlt
    have hnn := hb b hlt
    have hn0 := q4 hlt
    have hge0 : (0 ≤ M 67 b) = True := eq_true (Int32.not_lt.mp hnn)
    simp only [dX7_next_0, dX7_next_1, dX7_next_2, dX7_next_5, dX7_next_8, dX7_next_9, dX7_next_10, dX7_next_13, dX7_next_16, dX7_next_18, dX7_next_21, dX7_next_22, dX7_next_23, dX7_next_26, dX7_next_27, dX7_next_28, dX7_next_31, dX7_next_34, dX7_next_35, dX7_next_36, dX7_next_39, dX7_next_42, dX7_next_43, dX7_next_44, dX7_next_45, dX7_next_48, dX7_next_51, dX7_next_52, dX7_next_53, dX7_next_56, dX7_next_57, dX7_next_60, dX7_next_61, dX7_next_62, dX7_next_65, dX7_next_68, dX7_next_69, dX7_next_71, dX7_next_73, dX7_next_76, dX7_next_79, dX7_next_80, dX7_next_81, dX7_next_84, dX7_next_85, dX7_next_86, dX7_next_89, dX7_next_92, dX7_next_94, dX7_next_96, dX7_next_99, dX7_next_102, dX7_next_103, dX7_next_104, dX7_next_107, dX7_next_108, dX7_next_109, dX7_next_112, dX7_next_115, dX7_next_116, dX7_next_118, dX7_next_120, dX7_next_123, dX7_next_126, dX7_next_127, dX7_next_128, dX7_next_131, dX7_next_132, dX7_next_133, dX7_next_136, dX7_next_139, dX7_next_141, dX7_next_143, dX7_next_146, dX7_next_149, dX7_next_150, dX7_next_153, dX7_next_155, dX7_next_156, dX7_next_159, dX7_next_160, dX7_next_161, dX7_next_162, dX7_next_165, dX7_next_168, dX7_next_169, dX7_next_171, dX7_next_172, dX7_next_175, dX7_next_178, dX7_next_179, dX7_next_180, dX7_next_183, dX7_next_184, dX7_next_185, dX7_next_188, dX7_next_191, dX7_next_192, dX7_next_193, dX7_next_196, dX7_next_197, dX7_next_198, dX7_next_201, dX7_next_202, dX7_next_203, dX7_next_206, cr_7_252, cr_7_79, cr_7_88, fr_7_246, fr_7_249, fr_7_255, fr_7_258, al_10, al_11, al_12, al_13, al_14, al_16, al_17, al_18, al_19, al_2, al_20, al_21, al_23, al_24, al_27, al_28, al_29, al_3, al_30, al_31, al_32, al_34, al_36, al_37, al_38, al_39, al_4, al_40, al_41, al_42, al_43, al_45, al_46, al_47, al_48, al_49, al_5, al_52, al_53, al_54, al_55, al_56, al_57, al_58, al_6, al_60, al_61, al_62, al_63, al_64, al_65, al_66, al_67, al_69, al_7, al_70, al_71, al_72, al_73, al_9, cat_i, cat_l, cat_r, cat_u, gf_6_13_59, gf_6_14_59, gf_6_15_59, gf_6_16_59, pcl_0, pcl_1, pcl_100, pcl_101, pcl_102, pcl_103, pcl_104, pcl_105, pcl_106, pcl_107, pcl_108, pcl_109, pcl_110, pcl_111, pcl_112, pcl_15, pcl_22, pcl_25, pcl_26, pcl_33, pcl_44, pcl_50, pcl_59, pcl_8, pft_6_13, pft_6_14, pft_6_15, pft_6_16, v_aload_0, v_bipush_10, v_bipush_122, v_bipush_32, v_bipush_48, v_bipush_57, v_bipush_97, v_dup, v_getfield, v_goto, v_iadd, v_ic_ne, v_iconst_0, v_iconst_1, v_iconst_2, v_iconst_3, v_if_eq, v_if_ge, v_iload_1, v_imul, v_invs, v_invv, v_istore_1, v_isub, v_putfield, v_return, v_sipush_1000, vcS_3_1, vcS_min, vcV_2_6, vgf_i, vgf_r, vgf_s, vpf_s, vc_d, rr_0, rr_1, csT_h, csT_t, csT_n, bI_0, bI_1, bI_z, bT, List.mem_cons, List.not_mem_nil, List.length_cons, List.length_nil, ite_not, ↓reduceIte, true_and, and_true, not_true_eq_false, not_false_eq_true, false_or, or_false, or_true, true_or, Nat.reduceAdd, Nat.reduceEqDiff, Nat.reduceBEq, Nat.reduceLeDiff, Nat.reduceLT, Nat.reduceSub, Int.reduceAdd, Int.reduceLE, Int.reduceLT, Int.reduceToNat, Int.reduceNeg, Int.reduceNatCast', reduceCtorEq, Int32.reduceOfInt, Int32.reduceOfNat, Int32.reduceToNatClampNeg, Int32.reduceToInt, i10, i01, nEM, pe_X7_byteAt, pe_X7_within, mrow_s, mrow_n, upd_s, upd_n, h12, eb, hx, hp, hge0, nI_1, mset, mrow_mrow]
    by_cases h1 : ¬ M 67 b < 97 ∧ ¬ 122 < M 67 b
    · rw [if_pos h1]
      have hs : stO (M 67 b) = 1 := by rw [stO_1]; exact h1
      refine lp_next2 (s := b) (by omega) hN (N - b) b _ (by omega) (by rw [upd_n (by decide), upd_n (by decide), upd_n (by decide), upd_n (by decide)]; exact h12) (by rw [upd_n (by decide), upd_n (by decide), upd_s]) (fun e' z1 z2 z3 => ?_)
      rw [show N - b = (N - b - 1) + 1 by omega, sc_w hs, show N - b - 1 + 1 = N - b by omega, z3] at h
      have hbe : b < e' := by
        rcases Nat.lt_or_ge b e' with z | z
        · exact z
        · exfalso
          have : e' = b := by omega
          subst this
          rw [show N - e' = (N - e' - 1) + 1 by omega, sc_go hs, sc_w hs, sc_go hs] at z3
          have hl := congrArg List.length z3
          simp at hl
      refine h _ ⟨e', z2, upd_s, rfl, hbe, ?_, ?_, ?_, Or.inl rfl, hs, rfl⟩ (fun j j1 j2 j3 j4 => ?_)
      · rw [upd_n (by decide), upd_n (by decide), upd_n (by decide), upd_n (by decide), upd_s]
      · rw [upd_n (by decide), upd_s]
        rfl
      · rw [upd_n (by decide), upd_n (by decide), upd_s]
      · rw [un j2, un j3, un j4, un j2, un j1]
    · rw [if_neg h1]
      have hs1 : ¬ stO (M 67 b) = 1 := by rw [stO_1]; exact h1
      by_cases h2 : ¬ M 67 b < 48 ∧ ¬ 57 < M 67 b
      · rw [if_pos h2]
        have hs : stO (M 67 b) = 2 := by rw [stO_2]; exact h2
        refine lp_next3 (s := b) (by omega) hN (N - b) b _ (by omega) (by rw [upd_n (by decide), upd_n (by decide), upd_n (by decide), upd_n (by decide)]; exact h12) (by rw [upd_n (by decide), upd_n (by decide), upd_s]) (fun e' v z1 z2 z3 => ?_)
        rw [upd_n (by decide), upd_s] at z3
        rw [show N - b = (N - b - 1) + 1 by omega, sc_n hs, show N - b - 1 + 1 = N - b by omega, z3] at h
        have hbe : b < e' := by
          rcases Nat.lt_or_ge b e' with z | z
          · exact z
          · exfalso
            have : e' = b := by omega
            subst this
            rw [show N - e' = (N - e' - 1) + 1 by omega, sc_go hs, sc_n hs, sc_go hs] at z3
            have hl := congrArg List.length z3
            simp at hl
        refine h _ ⟨e', z2, upd_s, rfl, hbe, ?_, ?_, ?_, Or.inr (Or.inl rfl), hs, rfl⟩ (fun j j1 j2 j3 j4 => ?_)
        · rw [upd_n (by decide), upd_n (by decide), upd_n (by decide), upd_n (by decide), upd_n (by decide), upd_s]
        · rw [upd_n (by decide), upd_n (by decide), upd_s]
          rfl
        · rw [upd_n (by decide), upd_s]
        · rw [un j2, un j4, un j3, un j4, un j2, un j1]
      · rw [if_neg h2]
        have hs2 : ¬ stO (M 67 b) = 2 := by rw [stO_2]; exact h2
        rw [show N - b = (N - (b + 1)) + 1 by omega, sc_s hn0 hs1 hs2] at h
        have h34 : stO (M 67 b) = 3 ∨ stO (M 67 b) = 4 := by
          rcases stO_5 (M 67 b) with z | z | z | z | z
          · exact absurd z hn0
          · exact absurd z hs1
          · exact absurd z hs2
          · exact Or.inl z
          · exact Or.inr z
        refine h _ ⟨b + 1, by omega, upd_s, rfl, by omega, ?_, ?_, ?_, Or.inr (Or.inr h34), rfl, rfl⟩ (fun j j1 j2 j3 j4 => ?_)
        · rw [upd_n (by decide), upd_n (by decide), upd_n (by decide), upd_n (by decide), upd_s]
        · rw [upd_n (by decide), upd_s]
          unfold ms
          rw [if_neg hs1, if_neg hs2]
        · rw [upd_n (by decide), upd_n (by decide), upd_s]
        · rw [un j2, un j3, un j4, un j2, un j1]
  · have hbN : b = N := by omega
    subst hbN
    have eb := bt_out (f := M 67) hN (Nat.le_refl b) (by omega)
    simp only [dX7_next_0, dX7_next_1, dX7_next_2, dX7_next_5, dX7_next_8, dX7_next_9, dX7_next_10, dX7_next_13, dX7_next_16, dX7_next_18, dX7_next_21, dX7_next_22, dX7_next_23, dX7_next_26, dX7_next_27, dX7_next_28, dX7_next_31, dX7_next_34, dX7_next_35, dX7_next_36, dX7_next_39, dX7_next_42, dX7_next_43, dX7_next_44, dX7_next_45, dX7_next_48, dX7_next_51, dX7_next_52, dX7_next_53, dX7_next_56, dX7_next_57, dX7_next_60, dX7_next_61, dX7_next_62, dX7_next_65, dX7_next_68, dX7_next_69, dX7_next_71, dX7_next_73, dX7_next_76, dX7_next_79, dX7_next_80, dX7_next_81, dX7_next_84, dX7_next_85, dX7_next_86, dX7_next_89, dX7_next_92, dX7_next_94, dX7_next_96, dX7_next_99, dX7_next_102, dX7_next_103, dX7_next_104, dX7_next_107, dX7_next_108, dX7_next_109, dX7_next_112, dX7_next_115, dX7_next_116, dX7_next_118, dX7_next_120, dX7_next_123, dX7_next_126, dX7_next_127, dX7_next_128, dX7_next_131, dX7_next_132, dX7_next_133, dX7_next_136, dX7_next_139, dX7_next_141, dX7_next_143, dX7_next_146, dX7_next_149, dX7_next_150, dX7_next_153, dX7_next_155, dX7_next_156, dX7_next_159, dX7_next_160, dX7_next_161, dX7_next_162, dX7_next_165, dX7_next_168, dX7_next_169, dX7_next_171, dX7_next_172, dX7_next_175, dX7_next_178, dX7_next_179, dX7_next_180, dX7_next_183, dX7_next_184, dX7_next_185, dX7_next_188, dX7_next_191, dX7_next_192, dX7_next_193, dX7_next_196, dX7_next_197, dX7_next_198, dX7_next_201, dX7_next_202, dX7_next_203, dX7_next_206, cr_7_252, cr_7_79, cr_7_88, fr_7_246, fr_7_249, fr_7_255, fr_7_258, al_10, al_11, al_12, al_13, al_14, al_16, al_17, al_18, al_19, al_2, al_20, al_21, al_23, al_24, al_27, al_28, al_29, al_3, al_30, al_31, al_32, al_34, al_36, al_37, al_38, al_39, al_4, al_40, al_41, al_42, al_43, al_45, al_46, al_47, al_48, al_49, al_5, al_52, al_53, al_54, al_55, al_56, al_57, al_58, al_6, al_60, al_61, al_62, al_63, al_64, al_65, al_66, al_67, al_69, al_7, al_70, al_71, al_72, al_73, al_9, cat_i, cat_l, cat_r, cat_u, gf_6_13_59, gf_6_14_59, gf_6_15_59, gf_6_16_59, pcl_0, pcl_1, pcl_100, pcl_101, pcl_102, pcl_103, pcl_104, pcl_105, pcl_106, pcl_107, pcl_108, pcl_109, pcl_110, pcl_111, pcl_112, pcl_15, pcl_22, pcl_25, pcl_26, pcl_33, pcl_44, pcl_50, pcl_59, pcl_8, pft_6_13, pft_6_14, pft_6_15, pft_6_16, v_aload_0, v_bipush_10, v_bipush_122, v_bipush_32, v_bipush_48, v_bipush_57, v_bipush_97, v_dup, v_getfield, v_goto, v_iadd, v_ic_ne, v_iconst_0, v_iconst_1, v_iconst_2, v_iconst_3, v_if_eq, v_if_ge, v_iload_1, v_imul, v_invs, v_invv, v_istore_1, v_isub, v_putfield, v_return, v_sipush_1000, vcS_3_1, vcS_min, vcV_2_6, vgf_i, vgf_r, vgf_s, vpf_s, vc_d, rr_0, rr_1, csT_h, csT_t, csT_n, bI_0, bI_1, bI_z, bT, List.mem_cons, List.not_mem_nil, List.length_cons, List.length_nil, ite_not, ↓reduceIte, true_and, and_true, not_true_eq_false, not_false_eq_true, false_or, or_false, or_true, true_or, Nat.reduceAdd, Nat.reduceEqDiff, Nat.reduceBEq, Nat.reduceLeDiff, Nat.reduceLT, Nat.reduceSub, Int.reduceAdd, Int.reduceLE, Int.reduceLT, Int.reduceToNat, Int.reduceNeg, Int.reduceNatCast', reduceCtorEq, Int32.reduceOfInt, Int32.reduceOfNat, Int32.reduceToNatClampNeg, Int32.reduceToInt, i10, i01, nEM, pe_X7_byteAt, pe_X7_within, mrow_s, mrow_n, upd_s, upd_n, h12, eb, hx, hp, show ((0 : Int32) ≤ -1) = False from by decide, nI_1, mset, mrow_mrow]
    rw [Nat.sub_self] at h
    refine h _ ⟨b, Nat.le_refl _, ?_, rfl, ?_, ?_⟩ (fun j j1 j2 j3 j4 => ?_)
    · rw [upd_n (by decide), upd_n (by decide), upd_s]
    · rw [upd_n (by decide), upd_n (by decide), upd_n (by decide), upd_s]
    · rw [upd_s]
    · rw [un j3, un j4, un j2, un j1]
/-- the model reads: it looks at the first of L, and nothing is wrong -/
def ST (M : Mem) (N : Nat) (L : List Tok) : Prop := N ≤ 120 ∧ M 59 12 = nI N ∧ M 59 17 = 0 ∧ (∀ i, i < N → ¬ M 67 i < 0) ∧ TS (M 67) N (M 59) L
theorem ST.e {M : Mem} {N : Nat} {L : List Tok} (h : ST M N L) : ∃ e, e ≤ N ∧ M 59 14 = nI e ∧ L.tail = scT (M 67) (N - e) e none := by
  obtain ⟨h1, h2, h3, h4, e, he, h14, h5⟩ := h
  refine ⟨e, he, h14, ?_⟩
  match L, h5 with
  | [], h5 =>
    obtain ⟨rfl, h6, h7⟩ := h5
    rw [Nat.sub_self]
    rfl
  | (s, b, e', v) :: L', h5 => exact h5.2.2.2.2.2.2.2
set_option maxRecDepth 100000 in
set_option maxHeartbeats 4000000 in
theorem call_mustT {d : Nat} (hd : 3 ≤ d) {M : Mem} {k : Value → Mem → Prop} {N : Nat} {L : List Tok} (hS : ST M N L) (h : ∀ G, ST (mrow M 59 G) N L.tail → (∀ j, j ≠ 13 → j ≠ 14 → j ≠ 15 → j ≠ 16 → G j = M 59 j) → k (.int 0) (mrow M 59 G)) : CallP d 205 [.ref 59, .int 1] M k := by
  obtain ⟨e, he, h14, hL⟩ := hS.e
  obtain ⟨h1, h2, h3, h4, h5⟩ := hS
  obtain ⟨d, rfl⟩ : ∃ d', d = d' + 1 := ⟨d - 1, by omega⟩
  refine enterV (n := 80) [] [] mI_205 (by decide) (Nat.le_of_ble_eq_true rfl) T_nil ?_
  rw [show lent 2 ([.ref 59, .int 1] : List Value) = [.ref 59, .int 1] from rfl]
  have e17 : mset M 59 17 0 = M := by
    unfold mset
    rw [← h3, upd_self, mrow_self]
  simp only [dX7_must_0, dX7_must_1, dX7_must_2, dX7_must_5, dX7_must_8, dX7_must_9, dX7_must_12, dX7_must_13, dX7_must_16, dX7_must_17, dX7_must_20, dX7_must_21, dX7_must_24, dX7_must_27, dX7_must_28, dX7_must_31, cr_7_272, fr_7_268, al_10, al_11, al_12, al_13, al_14, al_16, al_17, al_18, al_19, al_2, al_20, al_21, al_23, al_24, al_27, al_28, al_29, al_3, al_30, al_31, al_32, al_34, al_36, al_37, al_38, al_39, al_4, al_40, al_41, al_42, al_43, al_45, al_46, al_47, al_48, al_49, al_5, al_52, al_53, al_54, al_55, al_56, al_57, al_58, al_6, al_60, al_61, al_62, al_63, al_64, al_65, al_66, al_67, al_69, al_7, al_70, al_71, al_72, al_73, al_9, gf_6_17_59, pcl_0, pcl_1, pcl_100, pcl_101, pcl_102, pcl_103, pcl_104, pcl_105, pcl_106, pcl_107, pcl_108, pcl_109, pcl_110, pcl_111, pcl_112, pcl_15, pcl_22, pcl_25, pcl_26, pcl_33, pcl_44, pcl_50, pcl_59, pcl_8, pft_6_17, v_aload_0, v_getfield, v_goto, v_iconst_0, v_iconst_1, v_if_ne, v_iload_1, v_invv, v_putfield, v_return, vcV_1_6, vgf_i, vgf_r, vgf_s, vpf_s, vc_d, rr_0, rr_1, csT_h, csT_t, csT_n, bI_0, bI_1, bI_z, bT, List.mem_cons, List.not_mem_nil, List.length_cons, List.length_nil, ite_not, ↓reduceIte, true_and, and_true, not_true_eq_false, not_false_eq_true, false_or, or_false, or_true, true_or, Nat.reduceAdd, Nat.reduceEqDiff, Nat.reduceBEq, Nat.reduceLeDiff, Nat.reduceLT, Nat.reduceSub, Int.reduceAdd, Int.reduceLE, Int.reduceLT, Int.reduceToNat, Int.reduceNeg, Int.reduceNatCast', reduceCtorEq, Int32.reduceOfInt, Int32.reduceOfNat, Int32.reduceToNatClampNeg, Int32.reduceToInt, i10, i01, nEM, h3, e17, mset_s, upd_s]
  refine call_next (by omega) h1 h2 h14 he h4 (fun G hG hj => ?_)
  rw [← hL] at hG
  refine h G ⟨h1, ?_, ?_, ?_, ?_⟩ hj
  · rw [mrow_s, hj 12 (by decide) (by decide) (by decide) (by decide)]
    exact h2
  · rw [mrow_s, hj 17 (by decide) (by decide) (by decide) (by decide)]
    exact h3
  · rw [mrow_n (by decide)]
    exact h4
  · rw [mrow_n (by decide), mrow_s]
    exact hG
set_option maxRecDepth 100000 in
set_option maxHeartbeats 4000000 in
theorem call_mustF {d : Nat} (hd : 1 ≤ d) {M : Mem} {k : Value → Mem → Prop} {x : Int32} (hx : x = 0 ∨ x = 1) (hw : M 59 17 = 1 ∨ (M 59 17 = 0 ∧ x = 0)) (h : k (.int 0) (mset M 59 17 1)) : CallP d 205 [.ref 59, .int x] M k := by
  obtain ⟨d, rfl⟩ : ∃ d', d = d' + 1 := ⟨d - 1, by omega⟩
  refine enterV (n := 80) [] [] mI_205 (by decide) (Nat.le_of_ble_eq_true rfl) T_nil ?_
  rw [show lent 2 ([.ref 59, .int x] : List Value) = [.ref 59, .int x] from rfl]
  rcases hw with h1 | ⟨h1, h2⟩
  · simp only [dX7_must_0, dX7_must_1, dX7_must_2, dX7_must_5, dX7_must_8, dX7_must_9, dX7_must_12, dX7_must_13, dX7_must_16, dX7_must_17, dX7_must_20, dX7_must_21, dX7_must_24, dX7_must_27, dX7_must_28, dX7_must_31, cr_7_272, fr_7_268, al_10, al_11, al_12, al_13, al_14, al_16, al_17, al_18, al_19, al_2, al_20, al_21, al_23, al_24, al_27, al_28, al_29, al_3, al_30, al_31, al_32, al_34, al_36, al_37, al_38, al_39, al_4, al_40, al_41, al_42, al_43, al_45, al_46, al_47, al_48, al_49, al_5, al_52, al_53, al_54, al_55, al_56, al_57, al_58, al_6, al_60, al_61, al_62, al_63, al_64, al_65, al_66, al_67, al_69, al_7, al_70, al_71, al_72, al_73, al_9, gf_6_17_59, pcl_0, pcl_1, pcl_100, pcl_101, pcl_102, pcl_103, pcl_104, pcl_105, pcl_106, pcl_107, pcl_108, pcl_109, pcl_110, pcl_111, pcl_112, pcl_15, pcl_22, pcl_25, pcl_26, pcl_33, pcl_44, pcl_50, pcl_59, pcl_8, pft_6_17, v_aload_0, v_getfield, v_goto, v_iconst_0, v_iconst_1, v_if_ne, v_iload_1, v_invv, v_putfield, v_return, vcV_1_6, vgf_i, vgf_r, vgf_s, vpf_s, vc_d, rr_0, rr_1, csT_h, csT_t, csT_n, bI_0, bI_1, bI_z, bT, List.mem_cons, List.not_mem_nil, List.length_cons, List.length_nil, ite_not, ↓reduceIte, true_and, and_true, not_true_eq_false, not_false_eq_true, false_or, or_false, or_true, true_or, Nat.reduceAdd, Nat.reduceEqDiff, Nat.reduceBEq, Nat.reduceLeDiff, Nat.reduceLT, Nat.reduceSub, Int.reduceAdd, Int.reduceLE, Int.reduceLT, Int.reduceToNat, Int.reduceNeg, Int.reduceNatCast', reduceCtorEq, Int32.reduceOfInt, Int32.reduceOfNat, Int32.reduceToNatClampNeg, Int32.reduceToInt, i10, i01, nEM, h1, mset_s, upd_s]
    exact h
  · simp only [dX7_must_0, dX7_must_1, dX7_must_2, dX7_must_5, dX7_must_8, dX7_must_9, dX7_must_12, dX7_must_13, dX7_must_16, dX7_must_17, dX7_must_20, dX7_must_21, dX7_must_24, dX7_must_27, dX7_must_28, dX7_must_31, cr_7_272, fr_7_268, al_10, al_11, al_12, al_13, al_14, al_16, al_17, al_18, al_19, al_2, al_20, al_21, al_23, al_24, al_27, al_28, al_29, al_3, al_30, al_31, al_32, al_34, al_36, al_37, al_38, al_39, al_4, al_40, al_41, al_42, al_43, al_45, al_46, al_47, al_48, al_49, al_5, al_52, al_53, al_54, al_55, al_56, al_57, al_58, al_6, al_60, al_61, al_62, al_63, al_64, al_65, al_66, al_67, al_69, al_7, al_70, al_71, al_72, al_73, al_9, gf_6_17_59, pcl_0, pcl_1, pcl_100, pcl_101, pcl_102, pcl_103, pcl_104, pcl_105, pcl_106, pcl_107, pcl_108, pcl_109, pcl_110, pcl_111, pcl_112, pcl_15, pcl_22, pcl_25, pcl_26, pcl_33, pcl_44, pcl_50, pcl_59, pcl_8, pft_6_17, v_aload_0, v_getfield, v_goto, v_iconst_0, v_iconst_1, v_if_ne, v_iload_1, v_invv, v_putfield, v_return, vcV_1_6, vgf_i, vgf_r, vgf_s, vpf_s, vc_d, rr_0, rr_1, csT_h, csT_t, csT_n, bI_0, bI_1, bI_z, bT, List.mem_cons, List.not_mem_nil, List.length_cons, List.length_nil, ite_not, ↓reduceIte, true_and, and_true, not_true_eq_false, not_false_eq_true, false_or, or_false, or_true, true_or, Nat.reduceAdd, Nat.reduceEqDiff, Nat.reduceBEq, Nat.reduceLeDiff, Nat.reduceLT, Nat.reduceSub, Int.reduceAdd, Int.reduceLE, Int.reduceLT, Int.reduceToNat, Int.reduceNeg, Int.reduceNatCast', reduceCtorEq, Int32.reduceOfInt, Int32.reduceOfNat, Int32.reduceToNatClampNeg, Int32.reduceToInt, i10, i01, nEM, h1, h2, mset_s, upd_s]
    exact h
set_option maxRecDepth 100000 in
set_option maxHeartbeats 4000000 in
theorem call_numT {d : Nat} (hd : 4 ≤ d) {M : Mem} {k : Value → Mem → Prop} {N : Nat} {L : List Tok} {lo hi : Int32} (hS : ST M N L) (h2 : M 59 15 = 2) (hr : ¬ M 59 16 < lo ∧ ¬ hi < M 59 16) (h : ∀ G, ST (mrow M 59 G) N L.tail → (∀ j, j ≠ 13 → j ≠ 14 → j ≠ 15 → j ≠ 16 → G j = M 59 j) → k (.int (M 59 16)) (mrow M 59 G)) : CallP d 206 [.ref 59, .int lo, .int hi] M k := by
  obtain ⟨d, rfl⟩ : ∃ d', d = d' + 1 := ⟨d - 1, by omega⟩
  refine enterV (n := 80) [(126, pf_X7_within)] [] mI_206 (by decide) (Nat.le_of_ble_eq_true rfl) (T_cons (s_X7_within (by omega)) T_nil) ?_
  rw [show lent 4 ([.ref 59, .int lo, .int hi] : List Value) = [.ref 59, .int lo, .int hi, .retAddr 0] from rfl]
  simp only [dX7_number_0, dX7_number_1, dX7_number_4, dX7_number_5, dX7_number_6, dX7_number_7, dX7_number_10, dX7_number_11, dX7_number_14, dX7_number_15, dX7_number_16, dX7_number_17, dX7_number_20, dX7_number_23, dX7_number_24, dX7_number_27, dX7_number_28, dX7_number_31, dX7_number_32, cr_7_275, cr_7_88, fr_7_255, fr_7_258, al_10, al_11, al_12, al_13, al_14, al_16, al_17, al_18, al_19, al_2, al_20, al_21, al_23, al_24, al_27, al_28, al_29, al_3, al_30, al_31, al_32, al_34, al_36, al_37, al_38, al_39, al_4, al_40, al_41, al_42, al_43, al_45, al_46, al_47, al_48, al_49, al_5, al_52, al_53, al_54, al_55, al_56, al_57, al_58, al_6, al_60, al_61, al_62, al_63, al_64, al_65, al_66, al_67, al_69, al_7, al_70, al_71, al_72, al_73, al_9, cat_i, cat_l, cat_r, cat_u, gf_6_15_59, gf_6_16_59, pcl_0, pcl_1, pcl_100, pcl_101, pcl_102, pcl_103, pcl_104, pcl_105, pcl_106, pcl_107, pcl_108, pcl_109, pcl_110, pcl_111, pcl_112, pcl_15, pcl_22, pcl_25, pcl_26, pcl_33, pcl_44, pcl_50, pcl_59, pcl_8, pft_6_15, pft_6_16, rOK_i, rOK_z, v_aload_0, v_getfield, v_goto, v_ic_ne, v_iconst_0, v_iconst_1, v_iconst_2, v_if_eq, v_iload_1, v_iload_2, v_iload_3, v_invs, v_invv, v_ireturn, v_istore_3, vcS_3_1, vcV_2_6, vgf_i, vgf_r, vgf_s, vc_d, rr_0, rr_1, csT_h, csT_t, csT_n, bI_0, bI_1, bI_z, bT, List.mem_cons, List.not_mem_nil, List.length_cons, List.length_nil, ite_not, ↓reduceIte, true_and, and_true, not_true_eq_false, not_false_eq_true, false_or, or_false, or_true, true_or, Nat.reduceAdd, Nat.reduceEqDiff, Nat.reduceBEq, Nat.reduceLeDiff, Nat.reduceLT, Nat.reduceSub, Int.reduceAdd, Int.reduceLE, Int.reduceLT, Int.reduceToNat, Int.reduceNeg, Int.reduceNatCast', reduceCtorEq, Int32.reduceOfInt, Int32.reduceOfNat, Int32.reduceToNatClampNeg, Int32.reduceToInt, i10, i01, nEM, pe_X7_within, h2, hr]
  exact call_mustT (by omega) hS (fun G hG hj => h G hG hj)
set_option maxRecDepth 100000 in
set_option maxHeartbeats 4000000 in
theorem call_numF {d : Nat} (hd : 2 ≤ d) {M : Mem} {k : Value → Mem → Prop} {lo hi : Int32} (h0 : M 59 17 = 0 ∨ M 59 17 = 1) (hw : M 59 17 = 1 ∨ ¬ (M 59 15 = 2 ∧ ¬ M 59 16 < lo ∧ ¬ hi < M 59 16)) (h : k (.int (M 59 16)) (mset M 59 17 1)) : CallP d 206 [.ref 59, .int lo, .int hi] M k := by
  obtain ⟨d, rfl⟩ : ∃ d', d = d' + 1 := ⟨d - 1, by omega⟩
  refine enterV (n := 80) [(126, pf_X7_within)] [] mI_206 (by decide) (Nat.le_of_ble_eq_true rfl) (T_cons (s_X7_within (by omega)) T_nil) ?_
  rw [show lent 4 ([.ref 59, .int lo, .int hi] : List Value) = [.ref 59, .int lo, .int hi, .retAddr 0] from rfl]
  simp only [dX7_number_0, dX7_number_1, dX7_number_4, dX7_number_5, dX7_number_6, dX7_number_7, dX7_number_10, dX7_number_11, dX7_number_14, dX7_number_15, dX7_number_16, dX7_number_17, dX7_number_20, dX7_number_23, dX7_number_24, dX7_number_27, dX7_number_28, dX7_number_31, dX7_number_32, cr_7_275, cr_7_88, fr_7_255, fr_7_258, al_10, al_11, al_12, al_13, al_14, al_16, al_17, al_18, al_19, al_2, al_20, al_21, al_23, al_24, al_27, al_28, al_29, al_3, al_30, al_31, al_32, al_34, al_36, al_37, al_38, al_39, al_4, al_40, al_41, al_42, al_43, al_45, al_46, al_47, al_48, al_49, al_5, al_52, al_53, al_54, al_55, al_56, al_57, al_58, al_6, al_60, al_61, al_62, al_63, al_64, al_65, al_66, al_67, al_69, al_7, al_70, al_71, al_72, al_73, al_9, cat_i, cat_l, cat_r, cat_u, gf_6_15_59, gf_6_16_59, pcl_0, pcl_1, pcl_100, pcl_101, pcl_102, pcl_103, pcl_104, pcl_105, pcl_106, pcl_107, pcl_108, pcl_109, pcl_110, pcl_111, pcl_112, pcl_15, pcl_22, pcl_25, pcl_26, pcl_33, pcl_44, pcl_50, pcl_59, pcl_8, pft_6_15, pft_6_16, rOK_i, rOK_z, v_aload_0, v_getfield, v_goto, v_ic_ne, v_iconst_0, v_iconst_1, v_iconst_2, v_if_eq, v_iload_1, v_iload_2, v_iload_3, v_invs, v_invv, v_ireturn, v_istore_3, vcS_3_1, vcV_2_6, vgf_i, vgf_r, vgf_s, vc_d, rr_0, rr_1, csT_h, csT_t, csT_n, bI_0, bI_1, bI_z, bT, List.mem_cons, List.not_mem_nil, List.length_cons, List.length_nil, ite_not, ↓reduceIte, true_and, and_true, not_true_eq_false, not_false_eq_true, false_or, or_false, or_true, true_or, Nat.reduceAdd, Nat.reduceEqDiff, Nat.reduceBEq, Nat.reduceLeDiff, Nat.reduceLT, Nat.reduceSub, Int.reduceAdd, Int.reduceLE, Int.reduceLT, Int.reduceToNat, Int.reduceNeg, Int.reduceNatCast', reduceCtorEq, Int32.reduceOfInt, Int32.reduceOfNat, Int32.reduceToNatClampNeg, Int32.reduceToInt, i10, i01, nEM, pe_X7_within]
  by_cases h2 : M 59 15 = 2
  · rw [if_pos h2]
    by_cases h3 : ¬ M 59 16 < lo ∧ ¬ hi < M 59 16
    · rw [if_pos h3]
      have h17 : M 59 17 = 1 := hw.resolve_right (fun z => z ⟨h2, h3⟩)
      exact call_mustF (by omega) (Or.inr rfl) (Or.inl h17) h
    · rw [if_neg h3]
      exact call_mustF (by omega) (Or.inl rfl) (h0.elim (fun z => Or.inr ⟨z, rfl⟩) Or.inl) h
  · rw [if_neg h2]
    exact call_mustF (by omega) (Or.inl rfl) (h0.elim (fun z => Or.inr ⟨z, rfl⟩) Or.inl) h
