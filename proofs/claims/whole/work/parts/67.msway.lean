/-! M: which gait fits, loads, judging, copying -/
def sfG (M : Mem) (s w : Int32) : Int32 := if ¬ fdG M s = 0 then fdG M s else if hasM (M 60) w then (if M 71 (s).toNatClampNeg ≤ 12 then 0 else -1000005) else -1000001
def pf_X7_lacksFor : PF := fun args M k => match args with
  | [.ref o, .int s, .int w] => (o = 59 ∧ IM (M 60)) ∧ (k (.int (sfG M s w)) M)
  | _ => False
theorem pe_X7_lacksFor {o : Nat} {s : Int32} {w : Int32} {M : Mem} {k : Value → Mem → Prop} : pf_X7_lacksFor [.ref o, .int s, .int w] M k = ((o = 59 ∧ IM (M 60)) ∧ (k (.int (sfG M s w)) M)) := rfl
theorem le_X7_lacksFor {o : Nat} {s : Int32} {w : Int32} : lent 3 ([.ref o, .int s, .int w] : List Value) = [.ref o, .int s, .int w] := rfl
set_option maxRecDepth 100000 in
set_option maxHeartbeats 4000000 in
theorem c_X7_lacksFor {d : Nat} (hd : 4 ≤ d) {o : Nat} {s : Int32} {w : Int32} {M : Mem} {k : Value → Mem → Prop} (h : (o = 59 ∧ IM (M 60)) ∧ (k (.int (sfG M s w)) M)) : CallP d 190 [.ref o, .int s, .int w] M k := by
  obtain ⟨hp, h⟩ := h
  obtain ⟨d, rfl⟩ : ∃ d', d = d' + 1 := ⟨d - 1, by omega⟩
  obtain ⟨rfl, hI⟩ := hp
  · refine enterV (n := 80) [(189, pf_X7_lacks), (136, pf_X7_isWalker)] [] mI_190 (by decide) (Nat.le_of_ble_eq_true rfl) (T_cons (s_X7_lacks (by omega)) (T_cons (s_X7_isWalker (by omega)) T_nil)) ?_
    rw [le_X7_lacksFor]
    simp only [dX7_lacksFor_0, dX7_lacksFor_1, dX7_lacksFor_2, dX7_lacksFor_5, dX7_lacksFor_8, dX7_lacksFor_9, dX7_lacksFor_10, dX7_lacksFor_13, dX7_lacksFor_16, dX7_lacksFor_17, dX7_lacksFor_18, dX7_lacksFor_21, dX7_lacksFor_24, dX7_lacksFor_26, dX7_lacksFor_29, dX7_lacksFor_30, dX7_lacksFor_33, dX7_lacksFor_34, dX7_lacksFor_35, dX7_lacksFor_37, dX7_lacksFor_40, dX7_lacksFor_42, dX7_lacksFor_45, dX7_lacksFor_46, cr_7_126, cr_7_224, fr_7_60, kr_7_145, kr_7_69, skr_7_145, skr_7_69, al_10, al_11, al_12, al_13, al_14, al_16, al_17, al_18, al_19, al_2, al_20, al_21, al_23, al_24, al_27, al_28, al_29, al_3, al_30, al_31, al_32, al_34, al_36, al_37, al_38, al_39, al_4, al_40, al_41, al_42, al_43, al_45, al_46, al_47, al_48, al_49, al_5, al_52, al_53, al_54, al_55, al_56, al_57, al_58, al_6, al_60, al_61, al_62, al_63, al_64, al_65, al_66, al_67, al_69, al_7, al_70, al_71, al_72, al_73, al_9, gf_6_23_59, pcl_0, pcl_1, pcl_100, pcl_101, pcl_102, pcl_103, pcl_104, pcl_105, pcl_106, pcl_107, pcl_108, pcl_109, pcl_110, pcl_111, pcl_112, pcl_15, pcl_22, pcl_25, pcl_26, pcl_33, pcl_44, pcl_50, pcl_59, pcl_8, rOK_i, rOK_z, v_aload_0, v_bipush_12, v_getfield, v_goto, v_iaload, v_ic_le, v_iconst_0, v_if_eq, v_if_ne, v_iload_1, v_iload_2, v_invv, v_ireturn, v_ldc, vcV_2_6, vgf_i, vgf_r, vgf_s, vld_i, vld_s, vc_d, rr_0, rr_1, csT_h, csT_t, csT_n, bI_0, bI_1, bI_z, bT, List.mem_cons, List.not_mem_nil, List.length_cons, List.length_nil, ite_not, ↓reduceIte, true_and, and_true, not_true_eq_false, not_false_eq_true, false_or, or_false, or_true, true_or, Nat.reduceAdd, Nat.reduceEqDiff, Nat.reduceBEq, Nat.reduceLeDiff, Nat.reduceLT, Nat.reduceSub, Int.reduceAdd, Int.reduceLE, Int.reduceLT, Int.reduceToNat, Int.reduceNeg, Int.reduceNatCast', reduceCtorEq, Int32.reduceOfInt, Int32.reduceOfNat, Int32.reduceToNatClampNeg, Int32.reduceToInt, i10, i01, nEM, pe_X7_lacks, pe_X7_isWalker, hI]
    unfold sfG at h
    by_cases h0 : fdG M s = 0
    · have hs := (fg0 h0).1
      rw [if_pos h0]
      rw [if_neg (fun z => z h0)] at h
      by_cases hw : hasM (M 60) w
      · rw [if_pos hw] at h ⊢
        refine ⟨bd hs.1 hs.2 rfl, ?_⟩
        by_cases h5 : M 71 (s).toNatClampNeg ≤ 12
        · rw [if_pos h5] at h ⊢
          exact h
        · rw [if_neg h5] at h ⊢
          exact h
      · rw [if_neg hw] at h ⊢
        exact h
    · rw [if_neg h0]
      rw [if_pos h0] at h
      exact h

theorem s_X7_lacksFor {d : Nat} (hd : 4 ≤ d) : Snd d 190 pf_X7_lacksFor := by
  intro args M k h
  unfold pf_X7_lacksFor at h
  split at h
  · exact c_X7_lacksFor hd h
  · exact h.elim
theorem sg_fn {M : Mem} {s w : Int32} (h : ¬ sfG M s w = 0) {k : Value → Mem → Prop} : pf_X7_finding [.ref 59, .int (sfG M s w)] M k = k (.int (sfG M s w)) (fndM M (-1000001 - sfG M s w).toNatClampNeg) := by
  unfold sfG at h ⊢
  by_cases h0 : fdG M s = 0
  · rw [if_neg (fun z => z h0)] at h ⊢
    by_cases h1 : hasM (M 60) w
    · rw [if_pos h1] at h ⊢
      by_cases h2 : M 71 (s).toNatClampNeg ≤ 12
      · rw [if_pos h2] at h
        exact absurd rfl h
      · rw [if_neg h2]
        exact fn_4
    · rw [if_neg h1]
      exact fn_0
  · rw [if_pos h0]
    exact fg_fn h0
theorem sg0 {M : Mem} {s w : Int32} (h : sfG M s w = 0) : shOK s ∧ hasM (M 60) w ∧ M 71 (s).toNatClampNeg ≤ 12 := by
  unfold sfG at h
  by_cases h0 : fdG M s = 0
  · rw [if_neg (fun z => z h0)] at h
    by_cases h1 : hasM (M 60) w
    · rw [if_pos h1] at h
      by_cases h2 : M 71 (s).toNatClampNeg ≤ 12
      · exact ⟨(fg0 h0).1, h1, h2⟩
      · rw [if_neg h2] at h
        exact absurd h (by decide)
    · rw [if_neg h1] at h
      exact absurd h (by decide)
  · rw [if_pos h0] at h
    exact absurd h h0
theorem zm12 {M : Mem} {s : Nat} (hz : ZM M) (hs : s < 4) (h : M 71 s ≤ 12) : ∃ m, m ≤ 12 ∧ M 71 s = nI m := by
  obtain ⟨m, hm, e⟩ := hz s hs
  rw [e] at h
  exact ⟨m, (nI_leI (b := 12) (by omega) (by decide)).mp h, e⟩
/-- the numbers of sheet s -/
def shR (M : Mem) (s : Nat) : Nat → Int32 := fun j => M 72 (40 * s + j)
set_option maxRecDepth 100000 in
set_option maxHeartbeats 4000000 in
theorem lp_swaysSo {d : Nat} (hd : 1 ≤ d) {M : Mem} {k : Value → Mem → Prop} {w x3 : Int32} {s m : Nat} {a r0 r : Nat → Int32} (hs : s < 4) (hm : m ≤ 12) (he : M 71 s = nI m) (hr : ∀ j, 50 ≤ j → r j = r0 j) : ∀ (n i : Nat) (b : Bool) (x6 : Value), i + n = m → k (.int (bI ((b && telB (shR M s) (plr r) n i) = true))) (j2 M (cpN 50 r0 a) r0) → WP (7, yX7_swaysSo, cX7_swaysSo, 7, (some .boolean)) (d + 1) k 31 [.ref 59, .int (nI s), .int w, .int x3, .int (bI (b = true)), .int (nI i), x6] [] (j2 M (cpN 50 r0 a) r) := by
  have cs : (nI s).toNatClampNeg = s := nI_clamp (by omega)
  have ct : (nI s).toInt = (s : Int) := nI_toInt (by omega)
  intro n
  induction n with
  | zero =>
    intro i b x6 hi h
    have c1 : nI m ≤ nI i := nI_le (by omega) (by omega)
    refine goV (n := 80) [(128, pf_X7_copyRow)] [31] (T_cons (s_X7_copyRow hd) T_nil) ?_
    simp only [dX7_swaysSo_0, dX7_swaysSo_1, dX7_swaysSo_4, dX7_swaysSo_5, dX7_swaysSo_8, dX7_swaysSo_11, dX7_swaysSo_12, dX7_swaysSo_13, dX7_swaysSo_16, dX7_swaysSo_17, dX7_swaysSo_18, dX7_swaysSo_21, dX7_swaysSo_22, dX7_swaysSo_25, dX7_swaysSo_26, dX7_swaysSo_28, dX7_swaysSo_29, dX7_swaysSo_31, dX7_swaysSo_33, dX7_swaysSo_34, dX7_swaysSo_37, dX7_swaysSo_38, dX7_swaysSo_39, dX7_swaysSo_42, dX7_swaysSo_43, dX7_swaysSo_46, dX7_swaysSo_48, dX7_swaysSo_49, dX7_swaysSo_50, dX7_swaysSo_52, dX7_swaysSo_53, dX7_swaysSo_54, dX7_swaysSo_56, dX7_swaysSo_58, dX7_swaysSo_61, dX7_swaysSo_63, dX7_swaysSo_64, dX7_swaysSo_67, dX7_swaysSo_69, dX7_swaysSo_70, dX7_swaysSo_73, dX7_swaysSo_75, dX7_swaysSo_77, dX7_swaysSo_78, dX7_swaysSo_79, dX7_swaysSo_82, dX7_swaysSo_83, dX7_swaysSo_86, dX7_swaysSo_87, dX7_swaysSo_89, dX7_swaysSo_92, dX7_swaysSo_95, dX7_swaysSo_96, dX7_swaysSo_99, dX7_swaysSo_100, dX7_swaysSo_103, dX7_swaysSo_106, dX7_swaysSo_108, cr_7_146, cr_7_70, fr_7_16, fr_7_60, fr_7_63, fr_7_9, al_10, al_11, al_12, al_13, al_14, al_16, al_17, al_18, al_19, al_2, al_20, al_21, al_23, al_24, al_27, al_28, al_29, al_3, al_30, al_31, al_32, al_34, al_36, al_37, al_38, al_39, al_4, al_40, al_41, al_42, al_43, al_45, al_46, al_47, al_48, al_49, al_5, al_52, al_53, al_54, al_55, al_56, al_57, al_58, al_6, al_60, al_61, al_62, al_63, al_64, al_65, al_66, al_67, al_69, al_7, al_70, al_71, al_72, al_73, al_9, cat_i, cat_l, cat_r, cat_u, gf_6_0_59, gf_6_23_59, gf_6_24_59, gf_6_2_59, pcl_0, pcl_1, pcl_100, pcl_101, pcl_102, pcl_103, pcl_104, pcl_105, pcl_106, pcl_107, pcl_108, pcl_109, pcl_110, pcl_111, pcl_112, pcl_15, pcl_22, pcl_25, pcl_26, pcl_33, pcl_44, pcl_50, pcl_59, pcl_8, rOK_i, rOK_z, v_aload_0, v_bipush_14, v_bipush_40, v_getfield, v_goto, v_iadd, v_iaload, v_ic_eq, v_ic_ge, v_ic_ne, v_iconst_0, v_iconst_1, v_iconst_m1, v_if_eq, v_if_lt, v_iinc_5, v_iload_1, v_iload_2, v_iload_3, v_iload_4, v_iload_5, v_iload_6, v_imul, v_invs, v_invv, v_ireturn, v_istore_3, v_istore_4, v_istore_5, v_istore_6, vcS_2_1, vcV_2_6, vgf_i, vgf_r, vgf_s, vc_d, rr_0, rr_1, csT_h, csT_t, csT_n, bI_0, bI_1, bI_z, bT, List.mem_cons, List.not_mem_nil, List.length_cons, List.length_nil, ite_not, ↓reduceIte, true_and, and_true, not_true_eq_false, not_false_eq_true, false_or, or_false, or_true, true_or, Nat.reduceAdd, Nat.reduceEqDiff, Nat.reduceBEq, Nat.reduceLeDiff, Nat.reduceLT, Nat.reduceSub, Int.reduceAdd, Int.reduceLE, Int.reduceLT, Int.reduceToNat, Int.reduceNeg, Int.reduceNatCast', reduceCtorEq, Int32.reduceOfInt, Int32.reduceOfNat, Int32.reduceToNatClampNeg, Int32.reduceToInt, i10, i01, nEM, pe_X7_copyRow, cs, ct, he, c1, j2_n, j2_60, j2_62, j2_m60, back hr]
    rw [telB, Bool.and_true] at h
    exact ⟨by omega, h⟩
  | succ n ih =>
    intro i b x6 hi h
    have c1 : ¬ nI m ≤ nI i := nI_ge (by omega) (by omega)
    have c2 : (nI (40 * s + i)).toInt = ((40 * s + i : Nat) : Int) := nI_toInt (by omega)
    have c3 : (nI (40 * s + i)).toNatClampNeg = 40 * s + i := nI_clamp (by omega)
    have c4 : (nI (14 + i)).toInt = ((14 + i : Nat) : Int) := nI_toInt (by omega)
    have c5 : (nI (14 + i)).toNatClampNeg = 14 + i := nI_clamp (by omega)
    refine goV (n := 80) [(128, pf_X7_copyRow)] [31] (T_cons (s_X7_copyRow hd) T_nil) ?_
    simp only [dX7_swaysSo_0, dX7_swaysSo_1, dX7_swaysSo_4, dX7_swaysSo_5, dX7_swaysSo_8, dX7_swaysSo_11, dX7_swaysSo_12, dX7_swaysSo_13, dX7_swaysSo_16, dX7_swaysSo_17, dX7_swaysSo_18, dX7_swaysSo_21, dX7_swaysSo_22, dX7_swaysSo_25, dX7_swaysSo_26, dX7_swaysSo_28, dX7_swaysSo_29, dX7_swaysSo_31, dX7_swaysSo_33, dX7_swaysSo_34, dX7_swaysSo_37, dX7_swaysSo_38, dX7_swaysSo_39, dX7_swaysSo_42, dX7_swaysSo_43, dX7_swaysSo_46, dX7_swaysSo_48, dX7_swaysSo_49, dX7_swaysSo_50, dX7_swaysSo_52, dX7_swaysSo_53, dX7_swaysSo_54, dX7_swaysSo_56, dX7_swaysSo_58, dX7_swaysSo_61, dX7_swaysSo_63, dX7_swaysSo_64, dX7_swaysSo_67, dX7_swaysSo_69, dX7_swaysSo_70, dX7_swaysSo_73, dX7_swaysSo_75, dX7_swaysSo_77, dX7_swaysSo_78, dX7_swaysSo_79, dX7_swaysSo_82, dX7_swaysSo_83, dX7_swaysSo_86, dX7_swaysSo_87, dX7_swaysSo_89, dX7_swaysSo_92, dX7_swaysSo_95, dX7_swaysSo_96, dX7_swaysSo_99, dX7_swaysSo_100, dX7_swaysSo_103, dX7_swaysSo_106, dX7_swaysSo_108, cr_7_146, cr_7_70, fr_7_16, fr_7_60, fr_7_63, fr_7_9, al_10, al_11, al_12, al_13, al_14, al_16, al_17, al_18, al_19, al_2, al_20, al_21, al_23, al_24, al_27, al_28, al_29, al_3, al_30, al_31, al_32, al_34, al_36, al_37, al_38, al_39, al_4, al_40, al_41, al_42, al_43, al_45, al_46, al_47, al_48, al_49, al_5, al_52, al_53, al_54, al_55, al_56, al_57, al_58, al_6, al_60, al_61, al_62, al_63, al_64, al_65, al_66, al_67, al_69, al_7, al_70, al_71, al_72, al_73, al_9, cat_i, cat_l, cat_r, cat_u, gf_6_0_59, gf_6_23_59, gf_6_24_59, gf_6_2_59, pcl_0, pcl_1, pcl_100, pcl_101, pcl_102, pcl_103, pcl_104, pcl_105, pcl_106, pcl_107, pcl_108, pcl_109, pcl_110, pcl_111, pcl_112, pcl_15, pcl_22, pcl_25, pcl_26, pcl_33, pcl_44, pcl_50, pcl_59, pcl_8, rOK_i, rOK_z, v_aload_0, v_bipush_14, v_bipush_40, v_getfield, v_goto, v_iadd, v_iaload, v_ic_eq, v_ic_ge, v_ic_ne, v_iconst_0, v_iconst_1, v_iconst_m1, v_if_eq, v_if_lt, v_iinc_5, v_iload_1, v_iload_2, v_iload_3, v_iload_4, v_iload_5, v_iload_6, v_imul, v_invs, v_invv, v_ireturn, v_istore_3, v_istore_4, v_istore_5, v_istore_6, vcS_2_1, vcV_2_6, vgf_i, vgf_r, vgf_s, vc_d, rr_0, rr_1, csT_h, csT_t, csT_n, bI_0, bI_1, bI_z, bT, List.mem_cons, List.not_mem_nil, List.length_cons, List.length_nil, ite_not, ↓reduceIte, true_and, and_true, not_true_eq_false, not_false_eq_true, false_or, or_false, or_true, true_or, Nat.reduceAdd, Nat.reduceEqDiff, Nat.reduceBEq, Nat.reduceLeDiff, Nat.reduceLT, Nat.reduceSub, Int.reduceAdd, Int.reduceLE, Int.reduceLT, Int.reduceToNat, Int.reduceNeg, Int.reduceNatCast', reduceCtorEq, Int32.reduceOfInt, Int32.reduceOfNat, Int32.reduceToNatClampNeg, Int32.reduceToInt, i10, i01, nEM, cs, ct, he, c1, c2, c3, c4, c5, p40, p14, j2_n, j2_60, nI_1]
    refine ⟨by omega, by omega, ?_⟩
    have hsh : shR M s i = M 72 (40 * s + i) := rfl
    have hpl : plr r i = r (14 + i) := rfl
    rw [telB, hsh, hpl] at h
    cases b with
    | false =>
      have key := ih (i + 1) false (.int (M 72 (40 * s + i))) (by omega) (by rw [Bool.false_and] at h ⊢; exact h)
      rw [bI_f (by decide)] at key
      simp only [Bool.false_eq_true, not_false_eq_true, if_true, if_false, ↓reduceIte]
      exact key
    | true =>
      rw [Bool.true_and] at h
      simp only [not_true_eq_false, if_true, if_false, ↓reduceIte]
      by_cases e1 : M 72 (40 * s + i) = -1
      · rw [if_pos (Or.inl e1)] at h
        rw [if_pos e1]
        have key := ih (i + 1) true (.int (M 72 (40 * s + i))) (by omega) (by rw [Bool.true_and]; exact h)
        rw [bI_t rfl] at key
        exact key
      · rw [if_neg e1]
        refine ⟨by omega, ?_⟩
        by_cases e2 : M 72 (40 * s + i) = r (14 + i)
        · rw [if_pos (Or.inr e2)] at h
          rw [if_pos e2]
          have key := ih (i + 1) true (.int (M 72 (40 * s + i))) (by omega) (by rw [Bool.true_and]; exact h)
          rw [bI_t rfl] at key
          exact key
        · rw [if_neg (fun z => z.elim e1 e2)] at h
          rw [if_neg e2]
          have key := ih (i + 1) false (.int (M 72 (40 * s + i))) (by omega) (by rw [Bool.false_and]; exact h)
          rw [bI_f (by decide)] at key
          exact key
def pf_X7_swaysSo : PF := fun args M k => match args with
  | [.ref o, .int s, .int w] => (o = 59 ∧ shOK s ∧ wOK w ∧ ∃ m, m ≤ 12 ∧ M 71 (s).toNatClampNeg = nI m) ∧ (∀ a, k (.int (bI (telB (shR M (s).toNatClampNeg) (plr (crr (M 60) (w).toNatClampNeg)) (M 71 (s).toNatClampNeg).toNatClampNeg 0 = true))) (j2 M a (M 60)))
  | _ => False
theorem pe_X7_swaysSo {o : Nat} {s : Int32} {w : Int32} {M : Mem} {k : Value → Mem → Prop} : pf_X7_swaysSo [.ref o, .int s, .int w] M k = ((o = 59 ∧ shOK s ∧ wOK w ∧ ∃ m, m ≤ 12 ∧ M 71 (s).toNatClampNeg = nI m) ∧ (∀ a, k (.int (bI (telB (shR M (s).toNatClampNeg) (plr (crr (M 60) (w).toNatClampNeg)) (M 71 (s).toNatClampNeg).toNatClampNeg 0 = true))) (j2 M a (M 60)))) := rfl
theorem le_X7_swaysSo {o : Nat} {s : Int32} {w : Int32} : lent 7 ([.ref o, .int s, .int w] : List Value) = [.ref o, .int s, .int w, .retAddr 0, .retAddr 0, .retAddr 0, .retAddr 0] := rfl
set_option maxRecDepth 100000 in
set_option maxHeartbeats 4000000 in
theorem c_X7_swaysSo {d : Nat} (hd : 7 ≤ d) {o : Nat} {s : Int32} {w : Int32} {M : Mem} {k : Value → Mem → Prop} (h : (o = 59 ∧ shOK s ∧ wOK w ∧ ∃ m, m ≤ 12 ∧ M 71 (s).toNatClampNeg = nI m) ∧ (∀ a, k (.int (bI (telB (shR M (s).toNatClampNeg) (plr (crr (M 60) (w).toNatClampNeg)) (M 71 (s).toNatClampNeg).toNatClampNeg 0 = true))) (j2 M a (M 60)))) : CallP d 191 [.ref o, .int s, .int w] M k := by
  obtain ⟨hp, h⟩ := h
  obtain ⟨d, rfl⟩ : ∃ d', d = d' + 1 := ⟨d - 1, by omega⟩
  obtain ⟨rfl, h1, hw, m, hm, he⟩ := hp
  · refine enterV (n := 80) [(128, pf_X7_copyRow), (153, pf_X7_crosses)] [31] mI_191 (by decide) (Nat.le_of_ble_eq_true rfl) (T_cons (s_X7_copyRow (by omega)) (T_cons (s_X7_crosses (by omega)) T_nil)) ?_
    rw [le_X7_swaysSo]
    simp only [dX7_swaysSo_0, dX7_swaysSo_1, dX7_swaysSo_4, dX7_swaysSo_5, dX7_swaysSo_8, dX7_swaysSo_11, dX7_swaysSo_12, dX7_swaysSo_13, dX7_swaysSo_16, dX7_swaysSo_17, dX7_swaysSo_18, dX7_swaysSo_21, dX7_swaysSo_22, dX7_swaysSo_25, dX7_swaysSo_26, dX7_swaysSo_28, dX7_swaysSo_29, dX7_swaysSo_31, dX7_swaysSo_33, dX7_swaysSo_34, dX7_swaysSo_37, dX7_swaysSo_38, dX7_swaysSo_39, dX7_swaysSo_42, dX7_swaysSo_43, dX7_swaysSo_46, dX7_swaysSo_48, dX7_swaysSo_49, dX7_swaysSo_50, dX7_swaysSo_52, dX7_swaysSo_53, dX7_swaysSo_54, dX7_swaysSo_56, dX7_swaysSo_58, dX7_swaysSo_61, dX7_swaysSo_63, dX7_swaysSo_64, dX7_swaysSo_67, dX7_swaysSo_69, dX7_swaysSo_70, dX7_swaysSo_73, dX7_swaysSo_75, dX7_swaysSo_77, dX7_swaysSo_78, dX7_swaysSo_79, dX7_swaysSo_82, dX7_swaysSo_83, dX7_swaysSo_86, dX7_swaysSo_87, dX7_swaysSo_89, dX7_swaysSo_92, dX7_swaysSo_95, dX7_swaysSo_96, dX7_swaysSo_99, dX7_swaysSo_100, dX7_swaysSo_103, dX7_swaysSo_106, dX7_swaysSo_108, cr_7_146, cr_7_70, fr_7_16, fr_7_60, fr_7_63, fr_7_9, al_10, al_11, al_12, al_13, al_14, al_16, al_17, al_18, al_19, al_2, al_20, al_21, al_23, al_24, al_27, al_28, al_29, al_3, al_30, al_31, al_32, al_34, al_36, al_37, al_38, al_39, al_4, al_40, al_41, al_42, al_43, al_45, al_46, al_47, al_48, al_49, al_5, al_52, al_53, al_54, al_55, al_56, al_57, al_58, al_6, al_60, al_61, al_62, al_63, al_64, al_65, al_66, al_67, al_69, al_7, al_70, al_71, al_72, al_73, al_9, cat_i, cat_l, cat_r, cat_u, gf_6_0_59, gf_6_23_59, gf_6_24_59, gf_6_2_59, pcl_0, pcl_1, pcl_100, pcl_101, pcl_102, pcl_103, pcl_104, pcl_105, pcl_106, pcl_107, pcl_108, pcl_109, pcl_110, pcl_111, pcl_112, pcl_15, pcl_22, pcl_25, pcl_26, pcl_33, pcl_44, pcl_50, pcl_59, pcl_8, rOK_i, rOK_z, v_aload_0, v_bipush_14, v_bipush_40, v_getfield, v_goto, v_iadd, v_iaload, v_ic_eq, v_ic_ge, v_ic_ne, v_iconst_0, v_iconst_1, v_iconst_m1, v_if_eq, v_if_lt, v_iinc_5, v_iload_1, v_iload_2, v_iload_3, v_iload_4, v_iload_5, v_iload_6, v_imul, v_invs, v_invv, v_ireturn, v_istore_3, v_istore_4, v_istore_5, v_istore_6, vcS_2_1, vcV_2_6, vgf_i, vgf_r, vgf_s, vc_d, rr_0, rr_1, csT_h, csT_t, csT_n, bI_0, bI_1, bI_z, bT, List.mem_cons, List.not_mem_nil, List.length_cons, List.length_nil, ite_not, ↓reduceIte, true_and, and_true, not_true_eq_false, not_false_eq_true, false_or, or_false, or_true, true_or, Nat.reduceAdd, Nat.reduceEqDiff, Nat.reduceBEq, Nat.reduceLeDiff, Nat.reduceLT, Nat.reduceSub, Int.reduceAdd, Int.reduceLE, Int.reduceLT, Int.reduceToNat, Int.reduceNeg, Int.reduceNatCast', reduceCtorEq, Int32.reduceOfInt, Int32.reduceOfNat, Int32.reduceToNatClampNeg, Int32.reduceToInt, i10, i01, nEM, pe_X7_copyRow, pe_X7_crosses, hw, (Int32.not_lt.mpr (nI_pos' (n := (crx (M 60) (w).toNatClampNeg).1) (by have := crx_le (r := M 60) (i := (w).toNatClampNeg); omega)) : ¬ nI (crx (M 60) (w).toNatClampNeg).1 < 0), j2_a, j2_60, j2_m60]
    obtain ⟨i, hi, rfl⟩ := wOK_n hw
    obtain ⟨s', hs, rfl⟩ := s4_n h1
    rw [nI_clamp (show s' < 2 ^ 31 by omega)] at he
    rw [nI_clamp (show s' < 2 ^ 31 by omega), nI_clamp (show i < 2 ^ 31 by omega), he, nI_clamp (show m < 2 ^ 31 by omega)] at h
    rw [nI_clamp (show i < 2 ^ 31 by omega)]
    have key := lp_swaysSo (d := d) (by omega) (M := M) (k := k) (w := nI i) (x3 := nI (crx (M 60) i).1) (a := M 62) hs hm he (fun j hj => crr_hi (r := M 60) hi hj) m 0 true (.retAddr 0) (by omega) (by rw [Bool.true_and]; exact h _)
    rw [bI_t rfl] at key
    exact key

theorem s_X7_swaysSo {d : Nat} (hd : 7 ≤ d) : Snd d 191 pf_X7_swaysSo := by
  intro args M k h
  unfold pf_X7_swaysSo at h
  split at h
  · exact c_X7_swaysSo hd h
  · exact h.elim
theorem cntF_s {c : Nat → Prop} [DecidablePred c] : ∀ (n i : Nat) (s x : Int32), cntF c n i (s + x) = cntF c n i s + x := by
  intro n
  induction n with
  | zero => intro i s x; rfl
  | succ n ih =>
    intro i s x
    rw [cntF, cntF]
    by_cases h : c i
    · rw [if_pos h, if_pos h, ← ih, Int32.add_assoc, Int32.add_comm x 1, ← Int32.add_assoc]
    · rw [if_neg h, if_neg h, ih]
/-- with gait v of walker i the planks would keep what sheet s tells -/
abbrev fitC (M : Mem) (s i m : Nat) (v : Nat) : Prop := telB (shR M s) (plr (crr (upd (M 60) (wf i 1) (nI v)) i)) m 0 = true
def jf (M : Mem) (a r : Nat → Int32) (c : Int32) : Mem := mset (j2 M a r) 59 10 c
theorem jf_60 {M : Mem} {a r : Nat → Int32} {c : Int32} : jf M a r c 60 = r := by
  unfold jf
  rw [mset_n (by decide), j2_60]
theorem jf_59 {M : Mem} {a r : Nat → Int32} {c : Int32} : jf M a r c 59 = upd (M 59) 10 c := by
  unfold jf
  rw [mset_s, j2_n (by decide) (by decide)]
theorem jf_n {M : Mem} {a r : Nat → Int32} {c : Int32} {p : Nat} (h1 : (p == 60) = false) (h2 : (p == 62) = false) (h3 : (p == 59) = false) : jf M a r c p = M p := by
  unfold jf
  rw [mset_n h3, j2_n h1 h2]
theorem jf_s {M : Mem} {a r : Nat → Int32} {c v : Int32} {i : Nat} : mset (jf M a r c) 60 i v = jf M a (upd r i v) c := by
  funext z
  unfold jf mset j2 mrow
  by_cases h1 : z = 60 <;> by_cases h2 : z = 62 <;> by_cases h3 : z = 59 <;> simp [h1, h2, h3] <;> omega
theorem jf_c {M : Mem} {a r : Nat → Int32} {c v : Int32} : mset (jf M a r c) 59 10 v = jf M a r v := by
  unfold jf
  rw [mset_mset]
theorem jf_j {M : Mem} {a r a' : Nat → Int32} {c : Int32} : j2 (jf M a r c) a' r = jf M a' r c := by
  funext z
  unfold jf mset j2 mrow
  by_cases h1 : z = 60 <;> by_cases h2 : z = 62 <;> by_cases h3 : z = 59 <;> simp [h1, h2, h3] <;> omega
theorem shR_jf {M : Mem} {a r : Nat → Int32} {c : Int32} {s : Nat} : shR (jf M a r c) s = shR M s := by
  unfold shR
  rw [jf_n (by decide) (by decide) (by decide)]
set_option maxRecDepth 100000 in
set_option maxHeartbeats 4000000 in
theorem lp_fitting {d : Nat} (hd : 7 ≤ d) {M : Mem} {k : Value → Mem → Prop} {s i m : Nat} (hs : s < 4) (hi : i < 6) (hm : m ≤ 12) (he : M 71 s = nI m) : ∀ (t : Nat) (a : Nat → Int32) (v : Int32) (x7 : Value), t ≤ 100 → (∀ a, k (.int (lstF (fitC M s i m) 100 0)) (jf M a (M 60) (cntF (fitC M s i m) 100 0 0))) → WP (7, yX7_fitting, cX7_fitting, 8, (some .int)) (d + 1) k 26 [.ref 59, .int (nI s), .int (nI i), .int (nI (wf i 1)), .int (M 60 (wf i 1)), .int (lstF (fitC M s i m) (100 - t) t), .int (nI t - 1), x7] [] (jf M a (upd (M 60) (wf i 1) v) (cntF (fitC M s i m) (100 - t) t 0)) := by
  have ci : (nI i).toNatClampNeg = i := nI_clamp (by omega)
  have cs : (nI s).toNatClampNeg = s := nI_clamp (by omega)
  have cm : (nI m).toNatClampNeg = m := nI_clamp (by omega)
  have cp := wf_c hi (f := 1) (by decide)
  have cq := wf_t hi (f := 1) (by decide)
  have ho := nOK hi
  have hso : shOK (nI s) := ⟨nI_pos (by omega), nI_ge (b := 4) hs (by decide)⟩
  have hx : (∃ m', m' ≤ 12 ∧ nI m = nI m') = True := eq_true ⟨m, hm, rfl⟩
  intro t
  induction t with
  | zero =>
    intro a v x7 ht h
    refine goV (n := 80) [(191, pf_X7_swaysSo)] [26] (T_cons (s_X7_swaysSo hd) T_nil) ?_
    simp only [dX7_fitting_0, dX7_fitting_1, dX7_fitting_2, dX7_fitting_5, dX7_fitting_6, dX7_fitting_7, dX7_fitting_10, dX7_fitting_11, dX7_fitting_12, dX7_fitting_14, dX7_fitting_15, dX7_fitting_17, dX7_fitting_18, dX7_fitting_19, dX7_fitting_22, dX7_fitting_24, dX7_fitting_26, dX7_fitting_28, dX7_fitting_31, dX7_fitting_32, dX7_fitting_35, dX7_fitting_36, dX7_fitting_38, dX7_fitting_39, dX7_fitting_40, dX7_fitting_41, dX7_fitting_42, dX7_fitting_45, dX7_fitting_47, dX7_fitting_49, dX7_fitting_52, dX7_fitting_54, dX7_fitting_57, dX7_fitting_59, dX7_fitting_61, dX7_fitting_62, dX7_fitting_63, dX7_fitting_66, dX7_fitting_68, dX7_fitting_71, dX7_fitting_72, dX7_fitting_75, dX7_fitting_76, dX7_fitting_77, dX7_fitting_80, dX7_fitting_83, dX7_fitting_86, dX7_fitting_87, dX7_fitting_90, dX7_fitting_91, dX7_fitting_93, dX7_fitting_94, dX7_fitting_96, cr_7_230, cr_7_92, fr_7_227, fr_7_9, al_10, al_11, al_12, al_13, al_14, al_16, al_17, al_18, al_19, al_2, al_20, al_21, al_23, al_24, al_27, al_28, al_29, al_3, al_30, al_31, al_32, al_34, al_36, al_37, al_38, al_39, al_4, al_40, al_41, al_42, al_43, al_45, al_46, al_47, al_48, al_49, al_5, al_52, al_53, al_54, al_55, al_56, al_57, al_58, al_6, al_60, al_61, al_62, al_63, al_64, al_65, al_66, al_67, al_69, al_7, al_70, al_71, al_72, al_73, al_9, cat_i, cat_l, cat_r, cat_u, gf_6_0_59, gf_6_10_59, pcl_0, pcl_1, pcl_100, pcl_101, pcl_102, pcl_103, pcl_104, pcl_105, pcl_106, pcl_107, pcl_108, pcl_109, pcl_110, pcl_111, pcl_112, pcl_15, pcl_22, pcl_25, pcl_26, pcl_33, pcl_44, pcl_50, pcl_59, pcl_8, pft_6_10, rOK_i, rOK_z, v_aload_0, v_bipush_99, v_dup, v_getfield, v_goto, v_iadd, v_iaload, v_iastore, v_iconst_0, v_iconst_1, v_iconst_m1, v_if_eq, v_if_lt, v_iinc_6, v_iload_1, v_iload_2, v_iload_3, v_iload_4, v_iload_5, v_iload_6, v_iload_7, v_invs, v_invv, v_ireturn, v_istore_3, v_istore_4, v_istore_5, v_istore_6, v_istore_7, v_putfield, vcS_2_1, vcV_3_6, vgf_i, vgf_r, vgf_s, vpf_s, vc_d, rr_0, rr_1, csT_h, csT_t, csT_n, bI_0, bI_1, bI_z, bT, List.mem_cons, List.not_mem_nil, List.length_cons, List.length_nil, ite_not, ↓reduceIte, true_and, and_true, not_true_eq_false, not_false_eq_true, false_or, or_false, or_true, true_or, Nat.reduceAdd, Nat.reduceEqDiff, Nat.reduceBEq, Nat.reduceLeDiff, Nat.reduceLT, Nat.reduceSub, Int.reduceAdd, Int.reduceLE, Int.reduceLT, Int.reduceToNat, Int.reduceNeg, Int.reduceNatCast', reduceCtorEq, Int32.reduceOfInt, Int32.reduceOfNat, Int32.reduceToNatClampNeg, Int32.reduceToInt, i10, i01, nEM, show (nI 0 - 1 < 0) = True from by decide, cp, jf_s, upd_upd, upd_self]
    exact ⟨cq, h a⟩
  | succ t ih =>
    intro a v x7 ht h
    have c1 : ¬ nI t < 0 := nI_pos (by omega)
    have e2 : nI t + -1 = nI t - 1 := (Int32.sub_eq_add_neg _ _).symm
    refine goV (n := 80) [(191, pf_X7_swaysSo)] [26] (T_cons (s_X7_swaysSo hd) T_nil) ?_
    simp only [dX7_fitting_0, dX7_fitting_1, dX7_fitting_2, dX7_fitting_5, dX7_fitting_6, dX7_fitting_7, dX7_fitting_10, dX7_fitting_11, dX7_fitting_12, dX7_fitting_14, dX7_fitting_15, dX7_fitting_17, dX7_fitting_18, dX7_fitting_19, dX7_fitting_22, dX7_fitting_24, dX7_fitting_26, dX7_fitting_28, dX7_fitting_31, dX7_fitting_32, dX7_fitting_35, dX7_fitting_36, dX7_fitting_38, dX7_fitting_39, dX7_fitting_40, dX7_fitting_41, dX7_fitting_42, dX7_fitting_45, dX7_fitting_47, dX7_fitting_49, dX7_fitting_52, dX7_fitting_54, dX7_fitting_57, dX7_fitting_59, dX7_fitting_61, dX7_fitting_62, dX7_fitting_63, dX7_fitting_66, dX7_fitting_68, dX7_fitting_71, dX7_fitting_72, dX7_fitting_75, dX7_fitting_76, dX7_fitting_77, dX7_fitting_80, dX7_fitting_83, dX7_fitting_86, dX7_fitting_87, dX7_fitting_90, dX7_fitting_91, dX7_fitting_93, dX7_fitting_94, dX7_fitting_96, cr_7_230, cr_7_92, fr_7_227, fr_7_9, al_10, al_11, al_12, al_13, al_14, al_16, al_17, al_18, al_19, al_2, al_20, al_21, al_23, al_24, al_27, al_28, al_29, al_3, al_30, al_31, al_32, al_34, al_36, al_37, al_38, al_39, al_4, al_40, al_41, al_42, al_43, al_45, al_46, al_47, al_48, al_49, al_5, al_52, al_53, al_54, al_55, al_56, al_57, al_58, al_6, al_60, al_61, al_62, al_63, al_64, al_65, al_66, al_67, al_69, al_7, al_70, al_71, al_72, al_73, al_9, cat_i, cat_l, cat_r, cat_u, gf_6_0_59, gf_6_10_59, pcl_0, pcl_1, pcl_100, pcl_101, pcl_102, pcl_103, pcl_104, pcl_105, pcl_106, pcl_107, pcl_108, pcl_109, pcl_110, pcl_111, pcl_112, pcl_15, pcl_22, pcl_25, pcl_26, pcl_33, pcl_44, pcl_50, pcl_59, pcl_8, pft_6_10, rOK_i, rOK_z, v_aload_0, v_bipush_99, v_dup, v_getfield, v_goto, v_iadd, v_iaload, v_iastore, v_iconst_0, v_iconst_1, v_iconst_m1, v_if_eq, v_if_lt, v_iinc_6, v_iload_1, v_iload_2, v_iload_3, v_iload_4, v_iload_5, v_iload_6, v_iload_7, v_invs, v_invv, v_ireturn, v_istore_3, v_istore_4, v_istore_5, v_istore_6, v_istore_7, v_putfield, vcS_2_1, vcV_3_6, vgf_i, vgf_r, vgf_s, vpf_s, vc_d, rr_0, rr_1, csT_h, csT_t, csT_n, bI_0, bI_1, bI_z, bT, List.mem_cons, List.not_mem_nil, List.length_cons, List.length_nil, ite_not, ↓reduceIte, true_and, and_true, not_true_eq_false, not_false_eq_true, false_or, or_false, or_true, true_or, Nat.reduceAdd, Nat.reduceEqDiff, Nat.reduceBEq, Nat.reduceLeDiff, Nat.reduceLT, Nat.reduceSub, Int.reduceAdd, Int.reduceLE, Int.reduceLT, Int.reduceToNat, Int.reduceNeg, Int.reduceNatCast', reduceCtorEq, Int32.reduceOfInt, Int32.reduceOfNat, Int32.reduceToNatClampNeg, Int32.reduceToInt, i10, i01, nEM, pe_X7_swaysSo, nI_pred, c1, cp, ci, cs, cm, ho, hso, shOK, hx, he, e2, jf_s, jf_60, jf_j, jf_n, shR_jf, upd_upd]
    refine ⟨cq, fun a' => ?_⟩
    have key := ih a' (nI t) (.int (bI (telB (shR M s) (plr (crr (upd (M 60) (wf i 1) (nI t)) i)) m 0 = true))) (by omega) h
    rw [show 100 - t = (100 - (t + 1)) + 1 by omega, lstF, cntF] at key
    by_cases hc : telB (shR M s) (plr (crr (upd (M 60) (wf i 1) (nI t)) i)) m 0 = true
    · rw [if_pos (show fitC M s i m t from hc), if_pos (show fitC M s i m t from hc), cntF_s] at key
      simp only [if_pos hc, jf_59, upd_s, jf_c]
      exact key
    · rw [if_neg (show ¬ fitC M s i m t from hc), if_neg (show ¬ fitC M s i m t from hc)] at key
      simp only [if_neg hc, jf_59, upd_s, jf_c, Int32.add_zero]
      exact key
def pf_X7_fitting : PF := fun args M k => match args with
  | [.ref o, .int s, .int w] => (o = 59 ∧ shOK s ∧ wOK w ∧ ∃ m, m ≤ 12 ∧ M 71 (s).toNatClampNeg = nI m) ∧ (∀ a, k (.int (lstF (fitC M (s).toNatClampNeg (w).toNatClampNeg (M 71 (s).toNatClampNeg).toNatClampNeg) 100 0)) (jf M a (M 60) (cntF (fitC M (s).toNatClampNeg (w).toNatClampNeg (M 71 (s).toNatClampNeg).toNatClampNeg) 100 0 0)))
  | _ => False
theorem pe_X7_fitting {o : Nat} {s : Int32} {w : Int32} {M : Mem} {k : Value → Mem → Prop} : pf_X7_fitting [.ref o, .int s, .int w] M k = ((o = 59 ∧ shOK s ∧ wOK w ∧ ∃ m, m ≤ 12 ∧ M 71 (s).toNatClampNeg = nI m) ∧ (∀ a, k (.int (lstF (fitC M (s).toNatClampNeg (w).toNatClampNeg (M 71 (s).toNatClampNeg).toNatClampNeg) 100 0)) (jf M a (M 60) (cntF (fitC M (s).toNatClampNeg (w).toNatClampNeg (M 71 (s).toNatClampNeg).toNatClampNeg) 100 0 0)))) := rfl
theorem le_X7_fitting {o : Nat} {s : Int32} {w : Int32} : lent 8 ([.ref o, .int s, .int w] : List Value) = [.ref o, .int s, .int w, .retAddr 0, .retAddr 0, .retAddr 0, .retAddr 0, .retAddr 0] := rfl
set_option maxRecDepth 100000 in
set_option maxHeartbeats 4000000 in
theorem c_X7_fitting {d : Nat} (hd : 8 ≤ d) {o : Nat} {s : Int32} {w : Int32} {M : Mem} {k : Value → Mem → Prop} (h : (o = 59 ∧ shOK s ∧ wOK w ∧ ∃ m, m ≤ 12 ∧ M 71 (s).toNatClampNeg = nI m) ∧ (∀ a, k (.int (lstF (fitC M (s).toNatClampNeg (w).toNatClampNeg (M 71 (s).toNatClampNeg).toNatClampNeg) 100 0)) (jf M a (M 60) (cntF (fitC M (s).toNatClampNeg (w).toNatClampNeg (M 71 (s).toNatClampNeg).toNatClampNeg) 100 0 0)))) : CallP d 192 [.ref o, .int s, .int w] M k := by
  obtain ⟨hp, h⟩ := h
  obtain ⟨d, rfl⟩ : ∃ d', d = d' + 1 := ⟨d - 1, by omega⟩
  obtain ⟨rfl, h1, hw, m, hm, he⟩ := hp
  · refine enterV (n := 80) [(138, pf_X7_place)] [26] mI_192 (by decide) (Nat.le_of_ble_eq_true rfl) (T_cons (s_X7_place (by omega)) T_nil) ?_
    rw [le_X7_fitting]
    simp only [dX7_fitting_0, dX7_fitting_1, dX7_fitting_2, dX7_fitting_5, dX7_fitting_6, dX7_fitting_7, dX7_fitting_10, dX7_fitting_11, dX7_fitting_12, dX7_fitting_14, dX7_fitting_15, dX7_fitting_17, dX7_fitting_18, dX7_fitting_19, dX7_fitting_22, dX7_fitting_24, dX7_fitting_26, dX7_fitting_28, dX7_fitting_31, dX7_fitting_32, dX7_fitting_35, dX7_fitting_36, dX7_fitting_38, dX7_fitting_39, dX7_fitting_40, dX7_fitting_41, dX7_fitting_42, dX7_fitting_45, dX7_fitting_47, dX7_fitting_49, dX7_fitting_52, dX7_fitting_54, dX7_fitting_57, dX7_fitting_59, dX7_fitting_61, dX7_fitting_62, dX7_fitting_63, dX7_fitting_66, dX7_fitting_68, dX7_fitting_71, dX7_fitting_72, dX7_fitting_75, dX7_fitting_76, dX7_fitting_77, dX7_fitting_80, dX7_fitting_83, dX7_fitting_86, dX7_fitting_87, dX7_fitting_90, dX7_fitting_91, dX7_fitting_93, dX7_fitting_94, dX7_fitting_96, cr_7_230, cr_7_92, fr_7_227, fr_7_9, al_10, al_11, al_12, al_13, al_14, al_16, al_17, al_18, al_19, al_2, al_20, al_21, al_23, al_24, al_27, al_28, al_29, al_3, al_30, al_31, al_32, al_34, al_36, al_37, al_38, al_39, al_4, al_40, al_41, al_42, al_43, al_45, al_46, al_47, al_48, al_49, al_5, al_52, al_53, al_54, al_55, al_56, al_57, al_58, al_6, al_60, al_61, al_62, al_63, al_64, al_65, al_66, al_67, al_69, al_7, al_70, al_71, al_72, al_73, al_9, cat_i, cat_l, cat_r, cat_u, gf_6_0_59, gf_6_10_59, pcl_0, pcl_1, pcl_100, pcl_101, pcl_102, pcl_103, pcl_104, pcl_105, pcl_106, pcl_107, pcl_108, pcl_109, pcl_110, pcl_111, pcl_112, pcl_15, pcl_22, pcl_25, pcl_26, pcl_33, pcl_44, pcl_50, pcl_59, pcl_8, pft_6_10, rOK_i, rOK_z, v_aload_0, v_bipush_99, v_dup, v_getfield, v_goto, v_iadd, v_iaload, v_iastore, v_iconst_0, v_iconst_1, v_iconst_m1, v_if_eq, v_if_lt, v_iinc_6, v_iload_1, v_iload_2, v_iload_3, v_iload_4, v_iload_5, v_iload_6, v_iload_7, v_invs, v_invv, v_ireturn, v_istore_3, v_istore_4, v_istore_5, v_istore_6, v_istore_7, v_putfield, vcS_2_1, vcV_3_6, vgf_i, vgf_r, vgf_s, vpf_s, vc_d, rr_0, rr_1, csT_h, csT_t, csT_n, bI_0, bI_1, bI_z, bT, List.mem_cons, List.not_mem_nil, List.length_cons, List.length_nil, ite_not, ↓reduceIte, true_and, and_true, not_true_eq_false, not_false_eq_true, false_or, or_false, or_true, true_or, Nat.reduceAdd, Nat.reduceEqDiff, Nat.reduceBEq, Nat.reduceLeDiff, Nat.reduceLT, Nat.reduceSub, Int.reduceAdd, Int.reduceLE, Int.reduceLT, Int.reduceToNat, Int.reduceNeg, Int.reduceNatCast', reduceCtorEq, Int32.reduceOfInt, Int32.reduceOfNat, Int32.reduceToNatClampNeg, Int32.reduceToInt, i10, i01, nEM, pe_X7_place, hw, Int32.reduceLT, Int32.reduceLE, not_false_eq_true]
    obtain ⟨i, hi, rfl⟩ := wOK_n hw
    obtain ⟨s', hs, rfl⟩ := s4_n h1
    rw [nI_clamp (show s' < 2 ^ 31 by omega)] at he
    rw [nI_clamp (show s' < 2 ^ 31 by omega), nI_clamp (show i < 2 ^ 31 by omega), he, nI_clamp (show m < 2 ^ 31 by omega)] at h
    rw [nI_clamp (show i < 2 ^ 31 by omega), wf_c hi (by decide)]
    refine ⟨wf_t hi (by decide), ?_⟩
    have key := lp_fitting (d := d) (by omega) (M := M) (k := k) hs hi hm he 100 (M 62) (M 60 (wf i 1)) (.retAddr 0) (Nat.le_refl _) h
    unfold jf at key
    rw [j2_0] at key
    exact key

theorem s_X7_fitting {d : Nat} (hd : 8 ≤ d) : Snd d 192 pf_X7_fitting := by
  intro args M k h
  unfold pf_X7_fitting at h
  split at h
  · exact c_X7_fitting hd h
  · exact h.elim
theorem cnt0 {c : Nat → Prop} [DecidablePred c] : ∀ (n i : Nat) (s : Int32), (∀ j, i ≤ j → j < i + n → ¬ c j) → cntF c n i s = s := by
  intro n
  induction n with
  | zero => intro i s _; rfl
  | succ n ih =>
    intro i s h
    rw [cntF, if_neg (h i (Nat.le_refl _) (by omega))]
    exact ih (i + 1) s (fun j h1 h2 => h j (by omega) (by omega))
theorem lst_n {c : Nat → Prop} [DecidablePred c] : ∀ (n i : Nat), i + n < 2 ^ 31 → (lstF c n i < 0) = (lstF c n i = -1) := by
  intro n
  induction n with
  | zero => intro i _; rw [lstF]; exact propext ⟨fun _ => rfl, fun _ => by decide⟩
  | succ n ih =>
    intro i hi
    rw [lstF]
    by_cases hc : c i
    · rw [if_pos hc]
      exact propext ⟨fun z => absurd z (nI_pos (by omega)), fun z => absurd (z ▸ nI_pos' (n := i) (by omega)) (by decide)⟩
    · rw [if_neg hc]
      exact ih (i + 1) (by omega)
def pf_X7_fits : PF := fun args M k => match args with
  | [.ref o, .int s, .int w] => (o = 59 ∧ IM (M 60) ∧ ZM M) ∧ (if sfG M s w = 0 then ∀ a c, k (.int (cntF (fitC M (s).toNatClampNeg (w).toNatClampNeg (M 71 (s).toNatClampNeg).toNatClampNeg) 100 0 0)) (jf M a (M 60) c) else k (.int (sfG M s w)) (fndM M (-1000001 - sfG M s w).toNatClampNeg))
  | _ => False
theorem pe_X7_fits {o : Nat} {s : Int32} {w : Int32} {M : Mem} {k : Value → Mem → Prop} : pf_X7_fits [.ref o, .int s, .int w] M k = ((o = 59 ∧ IM (M 60) ∧ ZM M) ∧ (if sfG M s w = 0 then ∀ a c, k (.int (cntF (fitC M (s).toNatClampNeg (w).toNatClampNeg (M 71 (s).toNatClampNeg).toNatClampNeg) 100 0 0)) (jf M a (M 60) c) else k (.int (sfG M s w)) (fndM M (-1000001 - sfG M s w).toNatClampNeg))) := rfl
theorem le_X7_fits {o : Nat} {s : Int32} {w : Int32} : lent 4 ([.ref o, .int s, .int w] : List Value) = [.ref o, .int s, .int w, .retAddr 0] := rfl
set_option maxRecDepth 100000 in
set_option maxHeartbeats 4000000 in
theorem c_X7_fits {d : Nat} (hd : 9 ≤ d) {o : Nat} {s : Int32} {w : Int32} {M : Mem} {k : Value → Mem → Prop} (h : (o = 59 ∧ IM (M 60) ∧ ZM M) ∧ (if sfG M s w = 0 then ∀ a c, k (.int (cntF (fitC M (s).toNatClampNeg (w).toNatClampNeg (M 71 (s).toNatClampNeg).toNatClampNeg) 100 0 0)) (jf M a (M 60) c) else k (.int (sfG M s w)) (fndM M (-1000001 - sfG M s w).toNatClampNeg))) : CallP d 193 [.ref o, .int s, .int w] M k := by
  obtain ⟨hp, h⟩ := h
  obtain ⟨d, rfl⟩ : ∃ d', d = d' + 1 := ⟨d - 1, by omega⟩
  obtain ⟨rfl, hI, hz⟩ := hp
  · refine enterV (n := 80) [(190, pf_X7_lacksFor), (125, pf_X7_finding), (192, pf_X7_fitting)] [] mI_193 (by decide) (Nat.le_of_ble_eq_true rfl) (T_cons (s_X7_lacksFor (by omega)) (T_cons (s_X7_finding (by omega)) (T_cons (s_X7_fitting (by omega)) T_nil))) ?_
    rw [le_X7_fits]
    simp only [dX7_fits_0, dX7_fits_1, dX7_fits_2, dX7_fits_3, dX7_fits_6, dX7_fits_9, dX7_fits_10, dX7_fits_11, dX7_fits_12, dX7_fits_13, dX7_fits_16, dX7_fits_19, dX7_fits_20, dX7_fits_21, dX7_fits_22, dX7_fits_23, dX7_fits_26, dX7_fits_27, dX7_fits_28, dX7_fits_31, dX7_fits_32, dX7_fits_35, dX7_fits_36, dX7_fits_39, cr_7_233, cr_7_236, cr_7_75, fr_7_227, al_10, al_11, al_12, al_13, al_14, al_16, al_17, al_18, al_19, al_2, al_20, al_21, al_23, al_24, al_27, al_28, al_29, al_3, al_30, al_31, al_32, al_34, al_36, al_37, al_38, al_39, al_4, al_40, al_41, al_42, al_43, al_45, al_46, al_47, al_48, al_49, al_5, al_52, al_53, al_54, al_55, al_56, al_57, al_58, al_6, al_60, al_61, al_62, al_63, al_64, al_65, al_66, al_67, al_69, al_7, al_70, al_71, al_72, al_73, al_9, cat_i, cat_l, cat_r, cat_u, gf_6_10_59, pcl_0, pcl_1, pcl_100, pcl_101, pcl_102, pcl_103, pcl_104, pcl_105, pcl_106, pcl_107, pcl_108, pcl_109, pcl_110, pcl_111, pcl_112, pcl_15, pcl_22, pcl_25, pcl_26, pcl_33, pcl_44, pcl_50, pcl_59, pcl_8, pft_6_10, rOK_i, rOK_z, v_aload_0, v_getfield, v_goto, v_iconst_0, v_if_eq, v_if_ge, v_iload_1, v_iload_2, v_iload_3, v_invv, v_ireturn, v_istore_3, vcV_2_6, vcV_3_6, vgf_i, vgf_r, vgf_s, vc_d, rr_0, rr_1, csT_h, csT_t, csT_n, bI_0, bI_1, bI_z, bT, List.mem_cons, List.not_mem_nil, List.length_cons, List.length_nil, ite_not, ↓reduceIte, true_and, and_true, not_true_eq_false, not_false_eq_true, false_or, or_false, or_true, true_or, Nat.reduceAdd, Nat.reduceEqDiff, Nat.reduceBEq, Nat.reduceLeDiff, Nat.reduceLT, Nat.reduceSub, Int.reduceAdd, Int.reduceLE, Int.reduceLT, Int.reduceToNat, Int.reduceNeg, Int.reduceNatCast', reduceCtorEq, Int32.reduceOfInt, Int32.reduceOfNat, Int32.reduceToNatClampNeg, Int32.reduceToInt, i10, i01, nEM, pe_X7_lacksFor, fn_0, fn_1, fn_2, fn_3, fn_4, fn_5, fn_6, pe_X7_fitting, hI]
    by_cases h0 : sfG M s w = 0
    · rw [if_pos h0] at h ⊢
      obtain ⟨h1, h2, h3⟩ := sg0 h0
      have hm := zm12 hz (by obtain ⟨t, ht, rfl⟩ := s4_n h1; rw [nI_clamp (by omega)]; exact ht) h3
      refine ⟨⟨h1, hasM_o h2, hm⟩, fun a => ?_⟩
      have hk := h a (cntF (fitC M (s).toNatClampNeg (w).toNatClampNeg (M 71 (s).toNatClampNeg).toNatClampNeg) 100 0 0)
      simp only [jf_59, upd_s]
      by_cases hc : lstF (fitC M (s).toNatClampNeg (w).toNatClampNeg (M 71 (s).toNatClampNeg).toNatClampNeg) 100 0 < 0
      · rw [if_neg (fun z => Int32.not_lt.mpr z hc)]
        rw [lst_n 100 0 (by decide), lstF_neg 100 0 (by decide)] at hc
        have e := cnt0 100 0 0 hc
        have hk2 := h a
        rw [e] at hk2
        exact hk2 _
      · rw [if_pos (Int32.not_lt.mp hc)]
        exact hk
    · rw [if_neg h0] at h ⊢
      rw [sg_fn h0]
      simp only [dX7_fits_0, dX7_fits_1, dX7_fits_2, dX7_fits_3, dX7_fits_6, dX7_fits_9, dX7_fits_10, dX7_fits_11, dX7_fits_12, dX7_fits_13, dX7_fits_16, dX7_fits_19, dX7_fits_20, dX7_fits_21, dX7_fits_22, dX7_fits_23, dX7_fits_26, dX7_fits_27, dX7_fits_28, dX7_fits_31, dX7_fits_32, dX7_fits_35, dX7_fits_36, dX7_fits_39, cr_7_233, cr_7_236, cr_7_75, fr_7_227, al_10, al_11, al_12, al_13, al_14, al_16, al_17, al_18, al_19, al_2, al_20, al_21, al_23, al_24, al_27, al_28, al_29, al_3, al_30, al_31, al_32, al_34, al_36, al_37, al_38, al_39, al_4, al_40, al_41, al_42, al_43, al_45, al_46, al_47, al_48, al_49, al_5, al_52, al_53, al_54, al_55, al_56, al_57, al_58, al_6, al_60, al_61, al_62, al_63, al_64, al_65, al_66, al_67, al_69, al_7, al_70, al_71, al_72, al_73, al_9, cat_i, cat_l, cat_r, cat_u, gf_6_10_59, pcl_0, pcl_1, pcl_100, pcl_101, pcl_102, pcl_103, pcl_104, pcl_105, pcl_106, pcl_107, pcl_108, pcl_109, pcl_110, pcl_111, pcl_112, pcl_15, pcl_22, pcl_25, pcl_26, pcl_33, pcl_44, pcl_50, pcl_59, pcl_8, pft_6_10, rOK_i, rOK_z, v_aload_0, v_getfield, v_goto, v_iconst_0, v_if_eq, v_if_ge, v_iload_1, v_iload_2, v_iload_3, v_invv, v_ireturn, v_istore_3, vcV_2_6, vcV_3_6, vgf_i, vgf_r, vgf_s, vc_d, rr_0, rr_1, csT_h, csT_t, csT_n, bI_0, bI_1, bI_z, bT, List.mem_cons, List.not_mem_nil, List.length_cons, List.length_nil, ite_not, ↓reduceIte, true_and, and_true, not_true_eq_false, not_false_eq_true, false_or, or_false, or_true, true_or, Nat.reduceAdd, Nat.reduceEqDiff, Nat.reduceBEq, Nat.reduceLeDiff, Nat.reduceLT, Nat.reduceSub, Int.reduceAdd, Int.reduceLE, Int.reduceLT, Int.reduceToNat, Int.reduceNeg, Int.reduceNatCast', reduceCtorEq, Int32.reduceOfInt, Int32.reduceOfNat, Int32.reduceToNatClampNeg, Int32.reduceToInt, i10, i01, nEM, pe_X7_lacksFor, fn_0, fn_1, fn_2, fn_3, fn_4, fn_5, fn_6, pe_X7_fitting]
      exact h

theorem s_X7_fits {d : Nat} (hd : 9 ≤ d) : Snd d 193 pf_X7_fits := by
  intro args M k h
  unfold pf_X7_fits at h
  split at h
  · exact c_X7_fits hd h
  · exact h.elim
def pf_X7_gait : PF := fun args M k => match args with
  | [.ref o, .int s, .int w] => (o = 59 ∧ IM (M 60) ∧ ZM M) ∧ (if sfG M s w = 0 then (∀ a c, if lstF (fitC M (s).toNatClampNeg (w).toNatClampNeg (M 71 (s).toNatClampNeg).toNatClampNeg) 100 0 = -1 then k (.int (-1000004)) (fndM (jf M a (M 60) c) 3) else k (.int (lstF (fitC M (s).toNatClampNeg (w).toNatClampNeg (M 71 (s).toNatClampNeg).toNatClampNeg) 100 0)) (jf M a (M 60) c)) else k (.int (sfG M s w)) (fndM M (-1000001 - sfG M s w).toNatClampNeg))
  | _ => False
theorem pe_X7_gait {o : Nat} {s : Int32} {w : Int32} {M : Mem} {k : Value → Mem → Prop} : pf_X7_gait [.ref o, .int s, .int w] M k = ((o = 59 ∧ IM (M 60) ∧ ZM M) ∧ (if sfG M s w = 0 then (∀ a c, if lstF (fitC M (s).toNatClampNeg (w).toNatClampNeg (M 71 (s).toNatClampNeg).toNatClampNeg) 100 0 = -1 then k (.int (-1000004)) (fndM (jf M a (M 60) c) 3) else k (.int (lstF (fitC M (s).toNatClampNeg (w).toNatClampNeg (M 71 (s).toNatClampNeg).toNatClampNeg) 100 0)) (jf M a (M 60) c)) else k (.int (sfG M s w)) (fndM M (-1000001 - sfG M s w).toNatClampNeg))) := rfl
theorem le_X7_gait {o : Nat} {s : Int32} {w : Int32} : lent 3 ([.ref o, .int s, .int w] : List Value) = [.ref o, .int s, .int w] := rfl
set_option maxRecDepth 100000 in
set_option maxHeartbeats 4000000 in
theorem c_X7_gait {d : Nat} (hd : 9 ≤ d) {o : Nat} {s : Int32} {w : Int32} {M : Mem} {k : Value → Mem → Prop} (h : (o = 59 ∧ IM (M 60) ∧ ZM M) ∧ (if sfG M s w = 0 then (∀ a c, if lstF (fitC M (s).toNatClampNeg (w).toNatClampNeg (M 71 (s).toNatClampNeg).toNatClampNeg) 100 0 = -1 then k (.int (-1000004)) (fndM (jf M a (M 60) c) 3) else k (.int (lstF (fitC M (s).toNatClampNeg (w).toNatClampNeg (M 71 (s).toNatClampNeg).toNatClampNeg) 100 0)) (jf M a (M 60) c)) else k (.int (sfG M s w)) (fndM M (-1000001 - sfG M s w).toNatClampNeg))) : CallP d 194 [.ref o, .int s, .int w] M k := by
  obtain ⟨hp, h⟩ := h
  obtain ⟨d, rfl⟩ : ∃ d', d = d' + 1 := ⟨d - 1, by omega⟩
  obtain ⟨rfl, hI, hz⟩ := hp
  · refine enterV (n := 80) [(190, pf_X7_lacksFor), (125, pf_X7_finding), (192, pf_X7_fitting), (130, pf_X7_orNone)] [] mI_194 (by decide) (Nat.le_of_ble_eq_true rfl) (T_cons (s_X7_lacksFor (by omega)) (T_cons (s_X7_finding (by omega)) (T_cons (s_X7_fitting (by omega)) (T_cons (s_X7_orNone (by omega)) T_nil)))) ?_
    rw [le_X7_gait]
    simp only [dX7_gait_0, dX7_gait_1, dX7_gait_2, dX7_gait_3, dX7_gait_6, dX7_gait_9, dX7_gait_10, dX7_gait_11, dX7_gait_12, dX7_gait_13, dX7_gait_16, dX7_gait_19, dX7_gait_22, dX7_gait_23, dX7_gait_24, dX7_gait_25, dX7_gait_26, dX7_gait_29, dX7_gait_32, cr_7_183, cr_7_233, cr_7_236, cr_7_75, al_10, al_11, al_12, al_13, al_14, al_16, al_17, al_18, al_19, al_2, al_20, al_21, al_23, al_24, al_27, al_28, al_29, al_3, al_30, al_31, al_32, al_34, al_36, al_37, al_38, al_39, al_4, al_40, al_41, al_42, al_43, al_45, al_46, al_47, al_48, al_49, al_5, al_52, al_53, al_54, al_55, al_56, al_57, al_58, al_6, al_60, al_61, al_62, al_63, al_64, al_65, al_66, al_67, al_69, al_7, al_70, al_71, al_72, al_73, al_9, pcl_0, pcl_1, pcl_100, pcl_101, pcl_102, pcl_103, pcl_104, pcl_105, pcl_106, pcl_107, pcl_108, pcl_109, pcl_110, pcl_111, pcl_112, pcl_15, pcl_22, pcl_25, pcl_26, pcl_33, pcl_44, pcl_50, pcl_59, pcl_8, rOK_i, rOK_z, v_aload_0, v_goto, v_if_eq, v_iload_1, v_iload_2, v_invv, v_ireturn, vcV_2_6, vcV_3_6, vc_d, rr_0, rr_1, csT_h, csT_t, csT_n, bI_0, bI_1, bI_z, bT, List.mem_cons, List.not_mem_nil, List.length_cons, List.length_nil, ite_not, ↓reduceIte, true_and, and_true, not_true_eq_false, not_false_eq_true, false_or, or_false, or_true, true_or, Nat.reduceAdd, Nat.reduceEqDiff, Nat.reduceBEq, Nat.reduceLeDiff, Nat.reduceLT, Nat.reduceSub, Int.reduceAdd, Int.reduceLE, Int.reduceLT, Int.reduceToNat, Int.reduceNeg, Int.reduceNatCast', reduceCtorEq, Int32.reduceOfInt, Int32.reduceOfNat, Int32.reduceToNatClampNeg, Int32.reduceToInt, i10, i01, nEM, pe_X7_lacksFor, fn_0, fn_1, fn_2, fn_3, fn_4, fn_5, fn_6, pe_X7_fitting, pe_X7_orNone, hI]
    by_cases h0 : sfG M s w = 0
    · rw [if_pos h0] at h ⊢
      obtain ⟨h1, h2, h3⟩ := sg0 h0
      have hm := zm12 hz (by obtain ⟨t, ht, rfl⟩ := s4_n h1; rw [nI_clamp (by omega)]; exact ht) h3
      refine ⟨⟨h1, hasM_o h2, hm⟩, fun a => ?_⟩
      have hk := h a (cntF (fitC M (s).toNatClampNeg (w).toNatClampNeg (M 71 (s).toNatClampNeg).toNatClampNeg) 100 0 0)
      simp only [lst_n 100 0 (by decide)]
      exact hk
    · rw [if_neg h0] at h ⊢
      rw [sg_fn h0]
      simp only [dX7_gait_0, dX7_gait_1, dX7_gait_2, dX7_gait_3, dX7_gait_6, dX7_gait_9, dX7_gait_10, dX7_gait_11, dX7_gait_12, dX7_gait_13, dX7_gait_16, dX7_gait_19, dX7_gait_22, dX7_gait_23, dX7_gait_24, dX7_gait_25, dX7_gait_26, dX7_gait_29, dX7_gait_32, cr_7_183, cr_7_233, cr_7_236, cr_7_75, al_10, al_11, al_12, al_13, al_14, al_16, al_17, al_18, al_19, al_2, al_20, al_21, al_23, al_24, al_27, al_28, al_29, al_3, al_30, al_31, al_32, al_34, al_36, al_37, al_38, al_39, al_4, al_40, al_41, al_42, al_43, al_45, al_46, al_47, al_48, al_49, al_5, al_52, al_53, al_54, al_55, al_56, al_57, al_58, al_6, al_60, al_61, al_62, al_63, al_64, al_65, al_66, al_67, al_69, al_7, al_70, al_71, al_72, al_73, al_9, pcl_0, pcl_1, pcl_100, pcl_101, pcl_102, pcl_103, pcl_104, pcl_105, pcl_106, pcl_107, pcl_108, pcl_109, pcl_110, pcl_111, pcl_112, pcl_15, pcl_22, pcl_25, pcl_26, pcl_33, pcl_44, pcl_50, pcl_59, pcl_8, rOK_i, rOK_z, v_aload_0, v_goto, v_if_eq, v_iload_1, v_iload_2, v_invv, v_ireturn, vcV_2_6, vcV_3_6, vc_d, rr_0, rr_1, csT_h, csT_t, csT_n, bI_0, bI_1, bI_z, bT, List.mem_cons, List.not_mem_nil, List.length_cons, List.length_nil, ite_not, ↓reduceIte, true_and, and_true, not_true_eq_false, not_false_eq_true, false_or, or_false, or_true, true_or, Nat.reduceAdd, Nat.reduceEqDiff, Nat.reduceBEq, Nat.reduceLeDiff, Nat.reduceLT, Nat.reduceSub, Int.reduceAdd, Int.reduceLE, Int.reduceLT, Int.reduceToNat, Int.reduceNeg, Int.reduceNatCast', reduceCtorEq, Int32.reduceOfInt, Int32.reduceOfNat, Int32.reduceToNatClampNeg, Int32.reduceToInt, i10, i01, nEM, pe_X7_lacksFor, fn_0, fn_1, fn_2, fn_3, fn_4, fn_5, fn_6, pe_X7_fitting, pe_X7_orNone]
      exact h

theorem s_X7_gait {d : Nat} (hd : 9 ≤ d) : Snd d 194 pf_X7_gait := by
  intro args M k h
  unfold pf_X7_gait at h
  split at h
  · exact c_X7_gait hd h
  · exact h.elim
theorem shR_j2 {M : Mem} {a r : Nat → Int32} {s : Nat} : shR (j2 M a r) s = shR M s := by
  unfold shR
  rw [j2_n (by decide) (by decide)]
set_option maxRecDepth 100000 in
set_option maxHeartbeats 4000000 in
theorem lp_whoM {d : Nat} (hd : 7 ≤ d) {M : Mem} {k : Value → Mem → Prop} {s m q : Nat} (hs : s < 4) (hm : m ≤ 12) (he : M 71 s = nI m) (hq : q ≤ 6) (hn : M 60 1 = nI q) : ∀ (n i : Nat) (c : Int32) (a : Nat → Int32), i + n = q → (∀ a, k (.int (stF (fun i => telB (shR M s) (plr (crr (M 60) i)) m 0 = true) n i c)) (j2 M a (M 60))) → WP (7, yX7_who, cX7_who, 4, (some .int)) (d + 1) k 46 [.ref 59, .int (nI s), .int c, .int (nI i)] [] (j2 M a (M 60)) := by
  have cs : (nI s).toNatClampNeg = s := nI_clamp (by omega)
  have cm : (nI m).toNatClampNeg = m := nI_clamp (by omega)
  have hso : shOK (nI s) := ⟨nI_pos (by omega), nI_ge (b := 4) hs (by decide)⟩
  have hx : (∃ m', m' ≤ 12 ∧ nI m = nI m') = True := eq_true ⟨m, hm, rfl⟩
  intro n
  induction n with
  | zero =>
    intro i c a hi h
    have c1 : nI q ≤ nI i := nI_le (by omega) (by omega)
    refine goV (n := 80) [(191, pf_X7_swaysSo)] [46] (T_cons (s_X7_swaysSo hd) T_nil) ?_
    simp only [dX7_who_0, dX7_who_1, dX7_who_2, dX7_who_5, dX7_who_8, dX7_who_9, dX7_who_12, dX7_who_13, dX7_who_14, dX7_who_16, dX7_who_19, dX7_who_20, dX7_who_21, dX7_who_22, dX7_who_25, dX7_who_28, dX7_who_29, dX7_who_30, dX7_who_33, dX7_who_36, dX7_who_38, dX7_who_41, dX7_who_42, dX7_who_43, dX7_who_44, dX7_who_45, dX7_who_46, dX7_who_47, dX7_who_48, dX7_who_51, dX7_who_52, dX7_who_53, dX7_who_56, dX7_who_57, dX7_who_58, dX7_who_59, dX7_who_60, dX7_who_63, dX7_who_66, dX7_who_67, dX7_who_68, dX7_who_69, dX7_who_72, dX7_who_73, dX7_who_74, dX7_who_75, dX7_who_78, dX7_who_81, dX7_who_82, cr_7_224, cr_7_230, cr_7_75, fr_7_60, fr_7_9, kr_7_145, skr_7_145, al_10, al_11, al_12, al_13, al_14, al_16, al_17, al_18, al_19, al_2, al_20, al_21, al_23, al_24, al_27, al_28, al_29, al_3, al_30, al_31, al_32, al_34, al_36, al_37, al_38, al_39, al_4, al_40, al_41, al_42, al_43, al_45, al_46, al_47, al_48, al_49, al_5, al_52, al_53, al_54, al_55, al_56, al_57, al_58, al_6, al_60, al_61, al_62, al_63, al_64, al_65, al_66, al_67, al_69, al_7, al_70, al_71, al_72, al_73, al_9, cat_i, cat_l, cat_r, cat_u, gf_6_0_59, gf_6_23_59, pcl_0, pcl_1, pcl_100, pcl_101, pcl_102, pcl_103, pcl_104, pcl_105, pcl_106, pcl_107, pcl_108, pcl_109, pcl_110, pcl_111, pcl_112, pcl_15, pcl_22, pcl_25, pcl_26, pcl_33, pcl_44, pcl_50, pcl_59, pcl_8, rOK_i, rOK_z, v_aload_0, v_bipush_12, v_getfield, v_goto, v_iaload, v_ic_ge, v_ic_le, v_iconst_0, v_iconst_1, v_if_eq, v_if_ne, v_iinc_3, v_iload_1, v_iload_2, v_iload_3, v_invv, v_ior, v_ireturn, v_ishl, v_istore_2, v_istore_3, v_ldc, vcV_2_6, vcV_3_6, vgf_i, vgf_r, vgf_s, vld_i, vld_s, vc_d, rr_0, rr_1, csT_h, csT_t, csT_n, bI_0, bI_1, bI_z, bT, List.mem_cons, List.not_mem_nil, List.length_cons, List.length_nil, ite_not, ↓reduceIte, true_and, and_true, not_true_eq_false, not_false_eq_true, false_or, or_false, or_true, true_or, Nat.reduceAdd, Nat.reduceEqDiff, Nat.reduceBEq, Nat.reduceLeDiff, Nat.reduceLT, Nat.reduceSub, Int.reduceAdd, Int.reduceLE, Int.reduceLT, Int.reduceToNat, Int.reduceNeg, Int.reduceNatCast', reduceCtorEq, Int32.reduceOfInt, Int32.reduceOfNat, Int32.reduceToNatClampNeg, Int32.reduceToInt, i10, i01, nEM, j2_60, hn, c1]
    exact h a
  | succ n ih =>
    intro i c a hi h
    have c1 : ¬ nI q ≤ nI i := nI_ge (by omega) (by omega)
    have ci : (nI i).toNatClampNeg = i := nI_clamp (by omega)
    have ho := nOK (show i < 6 by omega)
    refine goV (n := 80) [(191, pf_X7_swaysSo)] [46] (T_cons (s_X7_swaysSo hd) T_nil) ?_
    simp only [dX7_who_0, dX7_who_1, dX7_who_2, dX7_who_5, dX7_who_8, dX7_who_9, dX7_who_12, dX7_who_13, dX7_who_14, dX7_who_16, dX7_who_19, dX7_who_20, dX7_who_21, dX7_who_22, dX7_who_25, dX7_who_28, dX7_who_29, dX7_who_30, dX7_who_33, dX7_who_36, dX7_who_38, dX7_who_41, dX7_who_42, dX7_who_43, dX7_who_44, dX7_who_45, dX7_who_46, dX7_who_47, dX7_who_48, dX7_who_51, dX7_who_52, dX7_who_53, dX7_who_56, dX7_who_57, dX7_who_58, dX7_who_59, dX7_who_60, dX7_who_63, dX7_who_66, dX7_who_67, dX7_who_68, dX7_who_69, dX7_who_72, dX7_who_73, dX7_who_74, dX7_who_75, dX7_who_78, dX7_who_81, dX7_who_82, cr_7_224, cr_7_230, cr_7_75, fr_7_60, fr_7_9, kr_7_145, skr_7_145, al_10, al_11, al_12, al_13, al_14, al_16, al_17, al_18, al_19, al_2, al_20, al_21, al_23, al_24, al_27, al_28, al_29, al_3, al_30, al_31, al_32, al_34, al_36, al_37, al_38, al_39, al_4, al_40, al_41, al_42, al_43, al_45, al_46, al_47, al_48, al_49, al_5, al_52, al_53, al_54, al_55, al_56, al_57, al_58, al_6, al_60, al_61, al_62, al_63, al_64, al_65, al_66, al_67, al_69, al_7, al_70, al_71, al_72, al_73, al_9, cat_i, cat_l, cat_r, cat_u, gf_6_0_59, gf_6_23_59, pcl_0, pcl_1, pcl_100, pcl_101, pcl_102, pcl_103, pcl_104, pcl_105, pcl_106, pcl_107, pcl_108, pcl_109, pcl_110, pcl_111, pcl_112, pcl_15, pcl_22, pcl_25, pcl_26, pcl_33, pcl_44, pcl_50, pcl_59, pcl_8, rOK_i, rOK_z, v_aload_0, v_bipush_12, v_getfield, v_goto, v_iaload, v_ic_ge, v_ic_le, v_iconst_0, v_iconst_1, v_if_eq, v_if_ne, v_iinc_3, v_iload_1, v_iload_2, v_iload_3, v_invv, v_ior, v_ireturn, v_ishl, v_istore_2, v_istore_3, v_ldc, vcV_2_6, vcV_3_6, vgf_i, vgf_r, vgf_s, vld_i, vld_s, vc_d, rr_0, rr_1, csT_h, csT_t, csT_n, bI_0, bI_1, bI_z, bT, List.mem_cons, List.not_mem_nil, List.length_cons, List.length_nil, ite_not, ↓reduceIte, true_and, and_true, not_true_eq_false, not_false_eq_true, false_or, or_false, or_true, true_or, Nat.reduceAdd, Nat.reduceEqDiff, Nat.reduceBEq, Nat.reduceLeDiff, Nat.reduceLT, Nat.reduceSub, Int.reduceAdd, Int.reduceLE, Int.reduceLT, Int.reduceToNat, Int.reduceNeg, Int.reduceNatCast', reduceCtorEq, Int32.reduceOfInt, Int32.reduceOfNat, Int32.reduceToNatClampNeg, Int32.reduceToInt, i10, i01, nEM, pe_X7_swaysSo, j2_60, j2_n, j2_j2, shR_j2, hn, c1, ci, cs, cm, ho, hso, shOK, hx, he, nI_1, or0]
    intro a'
    by_cases hc : telB (shR M s) (plr (crr (M 60) i)) m 0 = true
    · rw [if_pos hc]
      exact ih (i + 1) _ _ (by omega) (fun a => by have := h a; rw [stF, if_pos hc] at this; exact this)
    · rw [if_neg hc]
      exact ih (i + 1) _ _ (by omega) (fun a => by have := h a; rw [stF, if_neg hc] at this; exact this)
def pf_X7_who : PF := fun args M k => match args with
  | [.ref o, .int s] => (o = 59 ∧ IM (M 60) ∧ ZM M) ∧ (if fdG M s = 0 then (if M 71 (s).toNatClampNeg ≤ 12 then ∀ a, k (.int (stF (fun i => telB (shR M (s).toNatClampNeg) (plr (crr (M 60) i)) (M 71 (s).toNatClampNeg).toNatClampNeg 0 = true) (M 60 1).toNatClampNeg 0 0)) (j2 M a (M 60)) else k (.int (-1000005)) (fndM M 4)) else k (.int (fdG M s)) (fndM M (-1000001 - fdG M s).toNatClampNeg))
  | _ => False
theorem pe_X7_who {o : Nat} {s : Int32} {M : Mem} {k : Value → Mem → Prop} : pf_X7_who [.ref o, .int s] M k = ((o = 59 ∧ IM (M 60) ∧ ZM M) ∧ (if fdG M s = 0 then (if M 71 (s).toNatClampNeg ≤ 12 then ∀ a, k (.int (stF (fun i => telB (shR M (s).toNatClampNeg) (plr (crr (M 60) i)) (M 71 (s).toNatClampNeg).toNatClampNeg 0 = true) (M 60 1).toNatClampNeg 0 0)) (j2 M a (M 60)) else k (.int (-1000005)) (fndM M 4)) else k (.int (fdG M s)) (fndM M (-1000001 - fdG M s).toNatClampNeg))) := rfl
theorem le_X7_who {o : Nat} {s : Int32} : lent 4 ([.ref o, .int s] : List Value) = [.ref o, .int s, .retAddr 0, .retAddr 0] := rfl
set_option maxRecDepth 100000 in
set_option maxHeartbeats 4000000 in
theorem c_X7_who {d : Nat} (hd : 8 ≤ d) {o : Nat} {s : Int32} {M : Mem} {k : Value → Mem → Prop} (h : (o = 59 ∧ IM (M 60) ∧ ZM M) ∧ (if fdG M s = 0 then (if M 71 (s).toNatClampNeg ≤ 12 then ∀ a, k (.int (stF (fun i => telB (shR M (s).toNatClampNeg) (plr (crr (M 60) i)) (M 71 (s).toNatClampNeg).toNatClampNeg 0 = true) (M 60 1).toNatClampNeg 0 0)) (j2 M a (M 60)) else k (.int (-1000005)) (fndM M 4)) else k (.int (fdG M s)) (fndM M (-1000001 - fdG M s).toNatClampNeg))) : CallP d 195 [.ref o, .int s] M k := by
  obtain ⟨hp, h⟩ := h
  obtain ⟨d, rfl⟩ : ∃ d', d = d' + 1 := ⟨d - 1, by omega⟩
  obtain ⟨rfl, hI, hz⟩ := hp
  obtain ⟨q, hq, hn⟩ := id hI
  · refine enterV (n := 80) [(189, pf_X7_lacks), (125, pf_X7_finding)] [46] mI_195 (by decide) (Nat.le_of_ble_eq_true rfl) (T_cons (s_X7_lacks (by omega)) (T_cons (s_X7_finding (by omega)) T_nil)) ?_
    rw [le_X7_who]
    simp only [dX7_who_0, dX7_who_1, dX7_who_2, dX7_who_5, dX7_who_8, dX7_who_9, dX7_who_12, dX7_who_13, dX7_who_14, dX7_who_16, dX7_who_19, dX7_who_20, dX7_who_21, dX7_who_22, dX7_who_25, dX7_who_28, dX7_who_29, dX7_who_30, dX7_who_33, dX7_who_36, dX7_who_38, dX7_who_41, dX7_who_42, dX7_who_43, dX7_who_44, dX7_who_45, dX7_who_46, dX7_who_47, dX7_who_48, dX7_who_51, dX7_who_52, dX7_who_53, dX7_who_56, dX7_who_57, dX7_who_58, dX7_who_59, dX7_who_60, dX7_who_63, dX7_who_66, dX7_who_67, dX7_who_68, dX7_who_69, dX7_who_72, dX7_who_73, dX7_who_74, dX7_who_75, dX7_who_78, dX7_who_81, dX7_who_82, cr_7_224, cr_7_230, cr_7_75, fr_7_60, fr_7_9, kr_7_145, skr_7_145, al_10, al_11, al_12, al_13, al_14, al_16, al_17, al_18, al_19, al_2, al_20, al_21, al_23, al_24, al_27, al_28, al_29, al_3, al_30, al_31, al_32, al_34, al_36, al_37, al_38, al_39, al_4, al_40, al_41, al_42, al_43, al_45, al_46, al_47, al_48, al_49, al_5, al_52, al_53, al_54, al_55, al_56, al_57, al_58, al_6, al_60, al_61, al_62, al_63, al_64, al_65, al_66, al_67, al_69, al_7, al_70, al_71, al_72, al_73, al_9, cat_i, cat_l, cat_r, cat_u, gf_6_0_59, gf_6_23_59, pcl_0, pcl_1, pcl_100, pcl_101, pcl_102, pcl_103, pcl_104, pcl_105, pcl_106, pcl_107, pcl_108, pcl_109, pcl_110, pcl_111, pcl_112, pcl_15, pcl_22, pcl_25, pcl_26, pcl_33, pcl_44, pcl_50, pcl_59, pcl_8, rOK_i, rOK_z, v_aload_0, v_bipush_12, v_getfield, v_goto, v_iaload, v_ic_ge, v_ic_le, v_iconst_0, v_iconst_1, v_if_eq, v_if_ne, v_iinc_3, v_iload_1, v_iload_2, v_iload_3, v_invv, v_ior, v_ireturn, v_ishl, v_istore_2, v_istore_3, v_ldc, vcV_2_6, vcV_3_6, vgf_i, vgf_r, vgf_s, vld_i, vld_s, vc_d, rr_0, rr_1, csT_h, csT_t, csT_n, bI_0, bI_1, bI_z, bT, List.mem_cons, List.not_mem_nil, List.length_cons, List.length_nil, ite_not, ↓reduceIte, true_and, and_true, not_true_eq_false, not_false_eq_true, false_or, or_false, or_true, true_or, Nat.reduceAdd, Nat.reduceEqDiff, Nat.reduceBEq, Nat.reduceLeDiff, Nat.reduceLT, Nat.reduceSub, Int.reduceAdd, Int.reduceLE, Int.reduceLT, Int.reduceToNat, Int.reduceNeg, Int.reduceNatCast', reduceCtorEq, Int32.reduceOfInt, Int32.reduceOfNat, Int32.reduceToNatClampNeg, Int32.reduceToInt, i10, i01, nEM, pe_X7_lacks, fn_0, fn_1, fn_2, fn_3, fn_4, fn_5, fn_6, hI]
    by_cases h0 : fdG M s = 0
    · rw [if_pos h0] at h
      simp only [h0, if_true, if_false, ↓reduceIte]
      have hs := (fg0 h0).1
      refine ⟨bd hs.1 hs.2 rfl, ?_⟩
      by_cases h3 : M 71 (s).toNatClampNeg ≤ 12
      · rw [if_pos h3] at h ⊢
        obtain ⟨t, ht, rfl⟩ := s4_n hs
        rw [nI_clamp (show t < 2 ^ 31 by omega)] at h h3
        obtain ⟨m, hm, he⟩ := zm12 hz ht h3
        rw [he, nI_clamp (show m < 2 ^ 31 by omega), hn, nI_clamp (show q < 2 ^ 31 by omega)] at h
        have := lp_whoM (d := d) (by omega) (M := M) (k := k) ht hm he hq hn q 0 0 (M 62) (by omega) h
        rw [j2_self] at this
        exact this
      · rw [if_neg h3] at h ⊢
        exact h
    · rw [if_neg h0] at h
      simp only [h0, if_true, if_false, ↓reduceIte]
      rw [fg_fn h0]
      simp only [dX7_who_0, dX7_who_1, dX7_who_2, dX7_who_5, dX7_who_8, dX7_who_9, dX7_who_12, dX7_who_13, dX7_who_14, dX7_who_16, dX7_who_19, dX7_who_20, dX7_who_21, dX7_who_22, dX7_who_25, dX7_who_28, dX7_who_29, dX7_who_30, dX7_who_33, dX7_who_36, dX7_who_38, dX7_who_41, dX7_who_42, dX7_who_43, dX7_who_44, dX7_who_45, dX7_who_46, dX7_who_47, dX7_who_48, dX7_who_51, dX7_who_52, dX7_who_53, dX7_who_56, dX7_who_57, dX7_who_58, dX7_who_59, dX7_who_60, dX7_who_63, dX7_who_66, dX7_who_67, dX7_who_68, dX7_who_69, dX7_who_72, dX7_who_73, dX7_who_74, dX7_who_75, dX7_who_78, dX7_who_81, dX7_who_82, cr_7_224, cr_7_230, cr_7_75, fr_7_60, fr_7_9, kr_7_145, skr_7_145, al_10, al_11, al_12, al_13, al_14, al_16, al_17, al_18, al_19, al_2, al_20, al_21, al_23, al_24, al_27, al_28, al_29, al_3, al_30, al_31, al_32, al_34, al_36, al_37, al_38, al_39, al_4, al_40, al_41, al_42, al_43, al_45, al_46, al_47, al_48, al_49, al_5, al_52, al_53, al_54, al_55, al_56, al_57, al_58, al_6, al_60, al_61, al_62, al_63, al_64, al_65, al_66, al_67, al_69, al_7, al_70, al_71, al_72, al_73, al_9, cat_i, cat_l, cat_r, cat_u, gf_6_0_59, gf_6_23_59, pcl_0, pcl_1, pcl_100, pcl_101, pcl_102, pcl_103, pcl_104, pcl_105, pcl_106, pcl_107, pcl_108, pcl_109, pcl_110, pcl_111, pcl_112, pcl_15, pcl_22, pcl_25, pcl_26, pcl_33, pcl_44, pcl_50, pcl_59, pcl_8, rOK_i, rOK_z, v_aload_0, v_bipush_12, v_getfield, v_goto, v_iaload, v_ic_ge, v_ic_le, v_iconst_0, v_iconst_1, v_if_eq, v_if_ne, v_iinc_3, v_iload_1, v_iload_2, v_iload_3, v_invv, v_ior, v_ireturn, v_ishl, v_istore_2, v_istore_3, v_ldc, vcV_2_6, vcV_3_6, vgf_i, vgf_r, vgf_s, vld_i, vld_s, vc_d, rr_0, rr_1, csT_h, csT_t, csT_n, bI_0, bI_1, bI_z, bT, List.mem_cons, List.not_mem_nil, List.length_cons, List.length_nil, ite_not, ↓reduceIte, true_and, and_true, not_true_eq_false, not_false_eq_true, false_or, or_false, or_true, true_or, Nat.reduceAdd, Nat.reduceEqDiff, Nat.reduceBEq, Nat.reduceLeDiff, Nat.reduceLT, Nat.reduceSub, Int.reduceAdd, Int.reduceLE, Int.reduceLT, Int.reduceToNat, Int.reduceNeg, Int.reduceNatCast', reduceCtorEq, Int32.reduceOfInt, Int32.reduceOfNat, Int32.reduceToNatClampNeg, Int32.reduceToInt, i10, i01, nEM, pe_X7_lacks, fn_0, fn_1, fn_2, fn_3, fn_4, fn_5, fn_6]
      exact h

theorem s_X7_who {d : Nat} (hd : 8 ≤ d) : Snd d 195 pf_X7_who := by
  intro args M k h
  unfold pf_X7_who at h
  split at h
  · exact c_X7_who hd h
  · exact h.elim
