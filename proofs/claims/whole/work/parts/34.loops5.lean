/-! X: load, judge, crowd, odds -/
def ldF (f : Nat → Int32) (m : Nat) : Nat → Nat → (Nat → Int32) → Nat × (Nat → Int32)
  | 0, i, r => (i, r)
  | n + 1, i, r => if i < m ∧ isG (f i) then ldF f m n (i + 1) (upd r i (f i)) else (i, r)
set_option maxRecDepth 100000 in
set_option maxHeartbeats 4000000 in
theorem lp_load {d : Nat} (hd : 1 ≤ d) {M : Mem} {k : Value → Mem → Prop} {s x2 : Int32} {m : Nat} (hs : shOK s) (hm : m ≤ 40) (he : M 57 (s).toNatClampNeg = nI m) : ∀ (n i : Nat) (r : Nat → Int32), i + n = 12 → k (.int (nI (ldF (M (52 + (s).toNatClampNeg)) m n i r).1)) (mrow M 2 (ldF (M (52 + (s).toNatClampNeg)) m n i r).2) → WP (6, yX6_load, cX6_load, 4, (some .int)) (d + 1) k 21 [.ref 0, .int s, .int x2, .int (nI i)] [] (mrow M 2 r) := by
  have hb := bd (N := 4) hs.1 hs.2 rfl
  have ha : al (52 + (s).toNatClampNeg) = 40 := by rcases sh4 hs with rfl | rfl | rfl | rfl <;> decide +kernel
  have h90 : (52 + (s).toNatClampNeg = 90) = False := by rcases sh4 hs with rfl | rfl | rfl | rfl <;> decide +kernel
  have hr : ∀ r, mrow M 2 r (52 + (s).toNatClampNeg) = M (52 + (s).toNatClampNeg) := fun r => mrow_n (by rcases sh4 hs with rfl | rfl | rfl | rfl <;> decide)
  intro n
  induction n with
  | zero =>
    intro i r hi h
    have : i = 12 := by omega
    subst this
    refine goV (n := 80) [(105, pf_X6_isGait)] [21] (T_cons (s_X6_isGait hd) T_nil) ?_
    simp only [dX6_load_0, dX6_load_1, dX6_load_4, dX6_load_5, dX6_load_8, dX6_load_9, dX6_load_10, dX6_load_13, dX6_load_14, dX6_load_15, dX6_load_18, dX6_load_19, dX6_load_20, dX6_load_21, dX6_load_22, dX6_load_24, dX6_load_27, dX6_load_28, dX6_load_29, dX6_load_32, dX6_load_35, dX6_load_36, dX6_load_37, dX6_load_40, dX6_load_41, dX6_load_44, dX6_load_47, dX6_load_48, dX6_load_49, dX6_load_50, dX6_load_51, dX6_load_54, dX6_load_57, dX6_load_58, dX6_load_61, dX6_load_64, dX6_load_65, dX6_load_66, dX6_load_69, dX6_load_72, dX6_load_73, dX6_load_74, dX6_load_75, dX6_load_76, dX6_load_77, dX6_load_80, dX6_load_83, dX6_load_84, cr_6_215, cr_6_65, cr_6_69, fr_6_12, fr_6_218, fr_6_276, fr_6_50, fr_6_73, al_10, al_11, al_12, al_13, al_14, al_16, al_17, al_18, al_19, al_2, al_20, al_21, al_23, al_24, al_27, al_28, al_29, al_3, al_30, al_31, al_32, al_34, al_36, al_37, al_38, al_39, al_4, al_40, al_41, al_42, al_43, al_45, al_46, al_47, al_48, al_49, al_5, al_52, al_53, al_54, al_55, al_56, al_57, al_58, al_6, al_60, al_61, al_62, al_63, al_64, al_65, al_66, al_67, al_69, al_7, al_70, al_71, al_72, al_73, al_9, cat_i, cat_l, cat_r, cat_u, gf_0_0_1, gf_0_0_15, gf_0_0_26, gf_0_0_8, gf_3_0_50, gf_3_2_50, gf_5_0_0, gf_5_7_0, pcl_0, pcl_1, pcl_100, pcl_101, pcl_102, pcl_103, pcl_104, pcl_105, pcl_106, pcl_107, pcl_108, pcl_109, pcl_110, pcl_111, pcl_112, pcl_15, pcl_22, pcl_25, pcl_26, pcl_33, pcl_44, pcl_50, pcl_59, pcl_8, rOK_i, rOK_z, ra_35, ra_51, ra_68, v_aaload, v_aload_0, v_bipush_12, v_getfield, v_goto, v_iaload, v_iastore, v_ic_ge, v_iconst_0, v_if_eq, v_iinc_3, v_iload_1, v_iload_2, v_iload_3, v_invs, v_invv, v_ireturn, v_istore_2, v_istore_3, vaa_s, vcS_1_1, vcV_2_3, vcV_2_5, vgf_i, vgf_r, vgf_s, vc_d, rr_0, rr_1, csT_h, csT_t, csT_n, bI_0, bI_1, bI_z, bT, List.mem_cons, List.not_mem_nil, List.length_cons, List.length_nil, ite_not, ↓reduceIte, true_and, and_true, not_true_eq_false, not_false_eq_true, false_or, or_false, or_true, true_or, Nat.reduceAdd, Nat.reduceEqDiff, Nat.reduceBEq, Nat.reduceLeDiff, Nat.reduceLT, Nat.reduceSub, Int.reduceAdd, Int.reduceLE, Int.reduceLT, Int.reduceToNat, Int.reduceNeg, Int.reduceNatCast', reduceCtorEq, Int32.reduceOfInt, Int32.reduceOfNat, Int32.reduceToNatClampNeg, Int32.reduceToInt, i10, i01, show ((12 : Int32) ≤ nI 12) = True from by decide]
    exact h
  | succ n ih =>
    intro i r hi h
    have c1 : ¬ (12 : Int32) ≤ nI i := nI_ge (b := 12) (by omega) (by decide)
    have c2 : (nI i).toInt = i := nI_toInt (by omega)
    have c3 : (nI i).toNatClampNeg = i := nI_clamp (by omega)
    refine goV (n := 80) [(105, pf_X6_isGait)] [21] (T_cons (s_X6_isGait hd) T_nil) ?_
    simp only [dX6_load_0, dX6_load_1, dX6_load_4, dX6_load_5, dX6_load_8, dX6_load_9, dX6_load_10, dX6_load_13, dX6_load_14, dX6_load_15, dX6_load_18, dX6_load_19, dX6_load_20, dX6_load_21, dX6_load_22, dX6_load_24, dX6_load_27, dX6_load_28, dX6_load_29, dX6_load_32, dX6_load_35, dX6_load_36, dX6_load_37, dX6_load_40, dX6_load_41, dX6_load_44, dX6_load_47, dX6_load_48, dX6_load_49, dX6_load_50, dX6_load_51, dX6_load_54, dX6_load_57, dX6_load_58, dX6_load_61, dX6_load_64, dX6_load_65, dX6_load_66, dX6_load_69, dX6_load_72, dX6_load_73, dX6_load_74, dX6_load_75, dX6_load_76, dX6_load_77, dX6_load_80, dX6_load_83, dX6_load_84, cr_6_215, cr_6_65, cr_6_69, fr_6_12, fr_6_218, fr_6_276, fr_6_50, fr_6_73, al_10, al_11, al_12, al_13, al_14, al_16, al_17, al_18, al_19, al_2, al_20, al_21, al_23, al_24, al_27, al_28, al_29, al_3, al_30, al_31, al_32, al_34, al_36, al_37, al_38, al_39, al_4, al_40, al_41, al_42, al_43, al_45, al_46, al_47, al_48, al_49, al_5, al_52, al_53, al_54, al_55, al_56, al_57, al_58, al_6, al_60, al_61, al_62, al_63, al_64, al_65, al_66, al_67, al_69, al_7, al_70, al_71, al_72, al_73, al_9, cat_i, cat_l, cat_r, cat_u, gf_0_0_1, gf_0_0_15, gf_0_0_26, gf_0_0_8, gf_3_0_50, gf_3_2_50, gf_5_0_0, gf_5_7_0, pcl_0, pcl_1, pcl_100, pcl_101, pcl_102, pcl_103, pcl_104, pcl_105, pcl_106, pcl_107, pcl_108, pcl_109, pcl_110, pcl_111, pcl_112, pcl_15, pcl_22, pcl_25, pcl_26, pcl_33, pcl_44, pcl_50, pcl_59, pcl_8, rOK_i, rOK_z, ra_35, ra_51, ra_68, v_aaload, v_aload_0, v_bipush_12, v_getfield, v_goto, v_iaload, v_iastore, v_ic_ge, v_iconst_0, v_if_eq, v_iinc_3, v_iload_1, v_iload_2, v_iload_3, v_invs, v_invv, v_ireturn, v_istore_2, v_istore_3, vaa_s, vcS_1_1, vcV_2_3, vcV_2_5, vgf_i, vgf_r, vgf_s, vc_d, rr_0, rr_1, csT_h, csT_t, csT_n, bI_0, bI_1, bI_z, bT, List.mem_cons, List.not_mem_nil, List.length_cons, List.length_nil, ite_not, ↓reduceIte, true_and, and_true, not_true_eq_false, not_false_eq_true, false_or, or_false, or_true, true_or, Nat.reduceAdd, Nat.reduceEqDiff, Nat.reduceBEq, Nat.reduceLeDiff, Nat.reduceLT, Nat.reduceSub, Int.reduceAdd, Int.reduceLE, Int.reduceLT, Int.reduceToNat, Int.reduceNeg, Int.reduceNatCast', reduceCtorEq, Int32.reduceOfInt, Int32.reduceOfNat, Int32.reduceToNatClampNeg, Int32.reduceToInt, i10, i01, pe_X6_isGait, c1, c2, c3, nI_1, ha, h90, hr, he, mrow_n]
    refine ⟨hb, ?_⟩
    rw [ldF] at h
    by_cases h1 : i < m
    · rw [if_neg (nI_ge h1 (by omega))]
      refine ⟨hb, by omega, ?_⟩
      by_cases h2 : isG (M (52 + (s).toNatClampNeg) i)
      · rw [if_pos ⟨h1, h2⟩] at h
        rw [if_pos h2]
        refine ⟨hb, by omega, by omega, ?_⟩
        have e : mset (mrow M 2 r) 2 i (M (52 + (s).toNatClampNeg) i) = mrow M 2 (upd r i (M (52 + (s).toNatClampNeg) i)) := by
          unfold mset
          rw [mrow_mrow, mrow_s]
        rw [e]
        exact ih (i + 1) _ (by omega) h
      · rw [if_neg (fun z => h2 z.2)] at h
        rw [if_neg h2]
        exact h
    · rw [if_neg (fun z => h1 z.1)] at h
      rw [if_pos (nI_le (by omega) (by omega))]
      exact h
def pf_X6_load : PF := fun args M k => match args with
  | [.ref o, .int s] => (o = 0 ∧ ZV M) ∧ (if fdF M s = 0 then k (.int (nI (ldF (M (52 + (s).toNatClampNeg)) (M 57 (s).toNatClampNeg).toNatClampNeg 12 0 (M 2)).1)) (mrow M 2 (ldF (M (52 + (s).toNatClampNeg)) (M 57 (s).toNatClampNeg).toNatClampNeg 12 0 (M 2)).2) else k (.int (fdF M s)) (tellM M (-1000001 - fdF M s).toNatClampNeg))
  | _ => False
theorem pe_X6_load {o : Nat} {s : Int32} {M : Mem} {k : Value → Mem → Prop} : pf_X6_load [.ref o, .int s] M k = ((o = 0 ∧ ZV M) ∧ (if fdF M s = 0 then k (.int (nI (ldF (M (52 + (s).toNatClampNeg)) (M 57 (s).toNatClampNeg).toNatClampNeg 12 0 (M 2)).1)) (mrow M 2 (ldF (M (52 + (s).toNatClampNeg)) (M 57 (s).toNatClampNeg).toNatClampNeg 12 0 (M 2)).2) else k (.int (fdF M s)) (tellM M (-1000001 - fdF M s).toNatClampNeg))) := rfl
set_option maxRecDepth 100000 in
set_option maxHeartbeats 4000000 in
theorem c_X6_load {d : Nat} (hd : 3 ≤ d) {o : Nat} {s : Int32} {M : Mem} {k : Value → Mem → Prop} (h : (o = 0 ∧ ZV M) ∧ (if fdF M s = 0 then k (.int (nI (ldF (M (52 + (s).toNatClampNeg)) (M 57 (s).toNatClampNeg).toNatClampNeg 12 0 (M 2)).1)) (mrow M 2 (ldF (M (52 + (s).toNatClampNeg)) (M 57 (s).toNatClampNeg).toNatClampNeg 12 0 (M 2)).2) else k (.int (fdF M s)) (tellM M (-1000001 - fdF M s).toNatClampNeg))) : CallP d 96 [.ref o, .int s] M k := by
  obtain ⟨hp, h⟩ := h
  obtain ⟨d, rfl⟩ : ∃ d', d = d' + 1 := ⟨d - 1, by omega⟩
  obtain ⟨rfl, hz⟩ := hp
  · refine enterV (n := 80) [(46, pf_X4_finding), (103, pf_X6_tell)] [21] mI_96 (by decide) (Nat.le_of_ble_eq_true rfl) (T_cons (s_X4_finding (by omega)) (T_cons (s_X6_tell (by omega)) T_nil)) ?_
    rw [show lent 4 ([.ref 0, .int s] : List Value) = [.ref 0, .int s, .retAddr 0, .retAddr 0] from rfl]
    simp only [dX6_load_0, dX6_load_1, dX6_load_4, dX6_load_5, dX6_load_8, dX6_load_9, dX6_load_10, dX6_load_13, dX6_load_14, dX6_load_15, dX6_load_18, dX6_load_19, dX6_load_20, dX6_load_21, dX6_load_22, dX6_load_24, dX6_load_27, dX6_load_28, dX6_load_29, dX6_load_32, dX6_load_35, dX6_load_36, dX6_load_37, dX6_load_40, dX6_load_41, dX6_load_44, dX6_load_47, dX6_load_48, dX6_load_49, dX6_load_50, dX6_load_51, dX6_load_54, dX6_load_57, dX6_load_58, dX6_load_61, dX6_load_64, dX6_load_65, dX6_load_66, dX6_load_69, dX6_load_72, dX6_load_73, dX6_load_74, dX6_load_75, dX6_load_76, dX6_load_77, dX6_load_80, dX6_load_83, dX6_load_84, cr_6_215, cr_6_65, cr_6_69, fr_6_12, fr_6_218, fr_6_276, fr_6_50, fr_6_73, al_10, al_11, al_12, al_13, al_14, al_16, al_17, al_18, al_19, al_2, al_20, al_21, al_23, al_24, al_27, al_28, al_29, al_3, al_30, al_31, al_32, al_34, al_36, al_37, al_38, al_39, al_4, al_40, al_41, al_42, al_43, al_45, al_46, al_47, al_48, al_49, al_5, al_52, al_53, al_54, al_55, al_56, al_57, al_58, al_6, al_60, al_61, al_62, al_63, al_64, al_65, al_66, al_67, al_69, al_7, al_70, al_71, al_72, al_73, al_9, cat_i, cat_l, cat_r, cat_u, gf_0_0_1, gf_0_0_15, gf_0_0_26, gf_0_0_8, gf_3_0_50, gf_3_2_50, gf_5_0_0, gf_5_7_0, pcl_0, pcl_1, pcl_100, pcl_101, pcl_102, pcl_103, pcl_104, pcl_105, pcl_106, pcl_107, pcl_108, pcl_109, pcl_110, pcl_111, pcl_112, pcl_15, pcl_22, pcl_25, pcl_26, pcl_33, pcl_44, pcl_50, pcl_59, pcl_8, rOK_i, rOK_z, ra_35, ra_51, ra_68, v_aaload, v_aload_0, v_bipush_12, v_getfield, v_goto, v_iaload, v_iastore, v_ic_ge, v_iconst_0, v_if_eq, v_iinc_3, v_iload_1, v_iload_2, v_iload_3, v_invs, v_invv, v_ireturn, v_istore_2, v_istore_3, vaa_s, vcS_1_1, vcV_2_3, vcV_2_5, vgf_i, vgf_r, vgf_s, vc_d, rr_0, rr_1, csT_h, csT_t, csT_n, bI_0, bI_1, bI_z, bT, List.mem_cons, List.not_mem_nil, List.length_cons, List.length_nil, ite_not, ↓reduceIte, true_and, and_true, not_true_eq_false, not_false_eq_true, false_or, or_false, or_true, true_or, Nat.reduceAdd, Nat.reduceEqDiff, Nat.reduceBEq, Nat.reduceLeDiff, Nat.reduceLT, Nat.reduceSub, Int.reduceAdd, Int.reduceLE, Int.reduceLT, Int.reduceToNat, Int.reduceNeg, Int.reduceNatCast', reduceCtorEq, Int32.reduceOfInt, Int32.reduceOfNat, Int32.reduceToNatClampNeg, Int32.reduceToInt, i10, i01, pe_X4_finding, tl_0, tl_1, tl_2, tl_3, tl_4, tl_5, tl_6]
    by_cases h0 : fdF M s = 0
    · rw [if_pos h0] at h ⊢
      have hs := fd0 h0
      obtain ⟨m, hm, he⟩ := hz (s).toNatClampNeg (by rcases sh4 hs with rfl | rfl | rfl | rfl <;> decide)
      rw [he, nI_clamp (by omega)] at h
      have := lp_load (d := d) (by omega) (k := k) (x2 := fdF M s) hs hm he 12 0 (M 2) rfl h
      rw [mrow_self] at this
      exact this
    · rw [if_neg h0] at h ⊢
      rw [fd_tell h0]
      simp only [dX6_load_0, dX6_load_1, dX6_load_4, dX6_load_5, dX6_load_8, dX6_load_9, dX6_load_10, dX6_load_13, dX6_load_14, dX6_load_15, dX6_load_18, dX6_load_19, dX6_load_20, dX6_load_21, dX6_load_22, dX6_load_24, dX6_load_27, dX6_load_28, dX6_load_29, dX6_load_32, dX6_load_35, dX6_load_36, dX6_load_37, dX6_load_40, dX6_load_41, dX6_load_44, dX6_load_47, dX6_load_48, dX6_load_49, dX6_load_50, dX6_load_51, dX6_load_54, dX6_load_57, dX6_load_58, dX6_load_61, dX6_load_64, dX6_load_65, dX6_load_66, dX6_load_69, dX6_load_72, dX6_load_73, dX6_load_74, dX6_load_75, dX6_load_76, dX6_load_77, dX6_load_80, dX6_load_83, dX6_load_84, cr_6_215, cr_6_65, cr_6_69, fr_6_12, fr_6_218, fr_6_276, fr_6_50, fr_6_73, al_10, al_11, al_12, al_13, al_14, al_16, al_17, al_18, al_19, al_2, al_20, al_21, al_23, al_24, al_27, al_28, al_29, al_3, al_30, al_31, al_32, al_34, al_36, al_37, al_38, al_39, al_4, al_40, al_41, al_42, al_43, al_45, al_46, al_47, al_48, al_49, al_5, al_52, al_53, al_54, al_55, al_56, al_57, al_58, al_6, al_60, al_61, al_62, al_63, al_64, al_65, al_66, al_67, al_69, al_7, al_70, al_71, al_72, al_73, al_9, cat_i, cat_l, cat_r, cat_u, gf_0_0_1, gf_0_0_15, gf_0_0_26, gf_0_0_8, gf_3_0_50, gf_3_2_50, gf_5_0_0, gf_5_7_0, pcl_0, pcl_1, pcl_100, pcl_101, pcl_102, pcl_103, pcl_104, pcl_105, pcl_106, pcl_107, pcl_108, pcl_109, pcl_110, pcl_111, pcl_112, pcl_15, pcl_22, pcl_25, pcl_26, pcl_33, pcl_44, pcl_50, pcl_59, pcl_8, rOK_i, rOK_z, ra_35, ra_51, ra_68, v_aaload, v_aload_0, v_bipush_12, v_getfield, v_goto, v_iaload, v_iastore, v_ic_ge, v_iconst_0, v_if_eq, v_iinc_3, v_iload_1, v_iload_2, v_iload_3, v_invs, v_invv, v_ireturn, v_istore_2, v_istore_3, vaa_s, vcS_1_1, vcV_2_3, vcV_2_5, vgf_i, vgf_r, vgf_s, vc_d, rr_0, rr_1, csT_h, csT_t, csT_n, bI_0, bI_1, bI_z, bT, List.mem_cons, List.not_mem_nil, List.length_cons, List.length_nil, ite_not, ↓reduceIte, true_and, and_true, not_true_eq_false, not_false_eq_true, false_or, or_false, or_true, true_or, Nat.reduceAdd, Nat.reduceEqDiff, Nat.reduceBEq, Nat.reduceLeDiff, Nat.reduceLT, Nat.reduceSub, Int.reduceAdd, Int.reduceLE, Int.reduceLT, Int.reduceToNat, Int.reduceNeg, Int.reduceNatCast', reduceCtorEq, Int32.reduceOfInt, Int32.reduceOfNat, Int32.reduceToNatClampNeg, Int32.reduceToInt, i10, i01, pe_X4_finding, tl_0, tl_1, tl_2, tl_3, tl_4, tl_5, tl_6]
      exact h

theorem s_X6_load {d : Nat} (hd : 3 ≤ d) : Snd d 96 pf_X6_load := by
  intro args M k h
  unfold pf_X6_load at h
  split at h
  · exact c_X6_load hd h
  · exact h.elim
theorem hasW_jk {M : Mem} {a b : Nat → Int32} {w : Int32} : hasW (jk M a b) 1 w = hasW M 1 w := by
  unfold hasW
  rw [jk_n (by decide) (by decide)]
/-- judging: numbers f, so many of them; the set of those that crossed, the row -/
def jdF (M : Mem) (f : Nat → Int32) : Nat → Nat → Int32 → (Nat → Int32) → Int32
  | 0, _, _, _ => 0
  | n + 1, i, c, r => if hasW M 1 (f i) ∧ (c >>> (f i &&& 31)) &&& 1 = 0 ∧ ¬ (xwr M (f i).toNatClampNeg r).1 < 12 then jdF M f n (i + 1) (c ||| 1 <<< (f i &&& 31)) (xwr M (f i).toNatClampNeg r).2.2 else 1 + nI i
set_option maxRecDepth 100000 in
set_option maxHeartbeats 4000000 in
theorem lp_judge {d : Nat} (hd : 2 ≤ d) {M : Mem} {k : Value → Mem → Prop} {s x2 : Int32} {m : Nat} (hs : shOK s) (hm : m ≤ 40) (he : M 57 (s).toNatClampNeg = nI m) : ∀ (n i : Nat) (c : Int32) (r a b : Nat → Int32) (x5 : Value), i + n = m → (∀ j, j < 12 → b j = r j) → (∀ a b, k (.int (jdF M (M (52 + (s).toNatClampNeg)) n i c r)) (jk M a b)) → WP (6, yX6_judge, cX6_judge, 6, (some .int)) (d + 1) k 38 [.ref 0, .int s, .int x2, .int c, .int (nI i), x5] [] (jk M a b) := by
  have hb := bd (N := 4) hs.1 hs.2 rfl
  have ha : al (52 + (s).toNatClampNeg) = 40 := by rcases sh4 hs with rfl | rfl | rfl | rfl <;> decide +kernel
  have h90 : (52 + (s).toNatClampNeg = 90) = False := by rcases sh4 hs with rfl | rfl | rfl | rfl <;> decide +kernel
  intro n
  induction n with
  | zero =>
    intro i c r a b x5 hi hbr h
    have c1 : nI m ≤ nI i := nI_le (by omega) (by omega)
    refine goV (n := 80) [(2, pf_X0_has), (109, pf_X6_isIn), (52, pf_X5_become), (54, pf_X5_go)] [38] (T_cons (s_X0_has (by omega)) (T_cons (s_X6_isIn (by omega)) (T_cons (s_X5_become (by omega)) (T_cons (s_X5_go (by omega)) T_nil)))) ?_
    simp only [dX6_judge_0, dX6_judge_1, dX6_judge_4, dX6_judge_5, dX6_judge_8, dX6_judge_9, dX6_judge_10, dX6_judge_13, dX6_judge_14, dX6_judge_15, dX6_judge_18, dX6_judge_19, dX6_judge_20, dX6_judge_21, dX6_judge_22, dX6_judge_25, dX6_judge_26, dX6_judge_29, dX6_judge_32, dX6_judge_35, dX6_judge_36, dX6_judge_38, dX6_judge_40, dX6_judge_41, dX6_judge_44, dX6_judge_47, dX6_judge_48, dX6_judge_49, dX6_judge_52, dX6_judge_53, dX6_judge_56, dX6_judge_59, dX6_judge_60, dX6_judge_61, dX6_judge_63, dX6_judge_64, dX6_judge_66, dX6_judge_67, dX6_judge_70, dX6_judge_72, dX6_judge_75, dX6_judge_78, dX6_judge_79, dX6_judge_81, dX6_judge_84, dX6_judge_87, dX6_judge_88, dX6_judge_90, dX6_judge_91, dX6_judge_92, dX6_judge_93, dX6_judge_96, dX6_judge_97, dX6_judge_100, dX6_judge_102, dX6_judge_105, dX6_judge_106, dX6_judge_109, dX6_judge_110, dX6_judge_113, dX6_judge_116, dX6_judge_119, dX6_judge_121, dX6_judge_124, dX6_judge_125, dX6_judge_127, dX6_judge_128, dX6_judge_129, dX6_judge_130, dX6_judge_131, dX6_judge_133, dX6_judge_134, dX6_judge_135, dX6_judge_136, dX6_judge_139, dX6_judge_142, dX6_judge_143, cr_6_133, cr_6_157, cr_6_161, cr_6_215, cr_6_286, cr_6_69, cr_6_88, fr_6_12, fr_6_154, fr_6_218, fr_6_25, fr_6_276, fr_6_50, fr_6_73, al_10, al_11, al_12, al_13, al_14, al_16, al_17, al_18, al_19, al_2, al_20, al_21, al_23, al_24, al_27, al_28, al_29, al_3, al_30, al_31, al_32, al_34, al_36, al_37, al_38, al_39, al_4, al_40, al_41, al_42, al_43, al_45, al_46, al_47, al_48, al_49, al_5, al_52, al_53, al_54, al_55, al_56, al_57, al_58, al_6, al_60, al_61, al_62, al_63, al_64, al_65, al_66, al_67, al_69, al_7, al_70, al_71, al_72, al_73, al_9, cat_i, cat_l, cat_r, cat_u, gf_0_0_1, gf_0_0_15, gf_0_0_26, gf_0_0_8, gf_3_0_50, gf_3_2_50, gf_4_0_22, gf_4_0_33, gf_5_0_0, gf_5_3_0, gf_5_7_0, pcl_0, pcl_1, pcl_100, pcl_101, pcl_102, pcl_103, pcl_104, pcl_105, pcl_106, pcl_107, pcl_108, pcl_109, pcl_110, pcl_111, pcl_112, pcl_15, pcl_22, pcl_25, pcl_26, pcl_33, pcl_44, pcl_50, pcl_59, pcl_8, rOK_i, rOK_z, ra_35, ra_51, ra_68, v_aaload, v_aload_0, v_bipush_12, v_getfield, v_goto, v_iadd, v_iaload, v_ic_ge, v_iconst_0, v_iconst_1, v_if_eq, v_iinc_4, v_iload_1, v_iload_2, v_iload_3, v_iload_4, v_iload_5, v_invs, v_invv, v_ior, v_ireturn, v_ishl, v_istore_2, v_istore_3, v_istore_4, v_istore_5, vaa_s, vcS_2_1, vcV_2_0, vcV_2_3, vcV_2_4, vcV_2_5, vcV_3_4, vgf_i, vgf_r, vgf_s, vc_d, rr_0, rr_1, csT_h, csT_t, csT_n, bI_0, bI_1, bI_z, bT, List.mem_cons, List.not_mem_nil, List.length_cons, List.length_nil, ite_not, ↓reduceIte, true_and, and_true, not_true_eq_false, not_false_eq_true, false_or, or_false, or_true, true_or, Nat.reduceAdd, Nat.reduceEqDiff, Nat.reduceBEq, Nat.reduceLeDiff, Nat.reduceLT, Nat.reduceSub, Int.reduceAdd, Int.reduceLE, Int.reduceLT, Int.reduceToNat, Int.reduceNeg, Int.reduceNatCast', reduceCtorEq, Int32.reduceOfInt, Int32.reduceOfNat, Int32.reduceToNatClampNeg, Int32.reduceToInt, i10, i01, jk_n, he, c1]
    exact ⟨hb, h a b⟩
  | succ n ih =>
    intro i c r a b x5 hi hbr h
    have c1 : ¬ nI m ≤ nI i := nI_ge (by omega) (by omega)
    have c2 : (nI i).toInt = i := nI_toInt (by omega)
    have c3 : (nI i).toNatClampNeg = i := nI_clamp (by omega)
    refine goV (n := 80) [(2, pf_X0_has), (109, pf_X6_isIn), (52, pf_X5_become), (54, pf_X5_go)] [38] (T_cons (s_X0_has (by omega)) (T_cons (s_X6_isIn (by omega)) (T_cons (s_X5_become (by omega)) (T_cons (s_X5_go (by omega)) T_nil)))) ?_
    simp only [dX6_judge_0, dX6_judge_1, dX6_judge_4, dX6_judge_5, dX6_judge_8, dX6_judge_9, dX6_judge_10, dX6_judge_13, dX6_judge_14, dX6_judge_15, dX6_judge_18, dX6_judge_19, dX6_judge_20, dX6_judge_21, dX6_judge_22, dX6_judge_25, dX6_judge_26, dX6_judge_29, dX6_judge_32, dX6_judge_35, dX6_judge_36, dX6_judge_38, dX6_judge_40, dX6_judge_41, dX6_judge_44, dX6_judge_47, dX6_judge_48, dX6_judge_49, dX6_judge_52, dX6_judge_53, dX6_judge_56, dX6_judge_59, dX6_judge_60, dX6_judge_61, dX6_judge_63, dX6_judge_64, dX6_judge_66, dX6_judge_67, dX6_judge_70, dX6_judge_72, dX6_judge_75, dX6_judge_78, dX6_judge_79, dX6_judge_81, dX6_judge_84, dX6_judge_87, dX6_judge_88, dX6_judge_90, dX6_judge_91, dX6_judge_92, dX6_judge_93, dX6_judge_96, dX6_judge_97, dX6_judge_100, dX6_judge_102, dX6_judge_105, dX6_judge_106, dX6_judge_109, dX6_judge_110, dX6_judge_113, dX6_judge_116, dX6_judge_119, dX6_judge_121, dX6_judge_124, dX6_judge_125, dX6_judge_127, dX6_judge_128, dX6_judge_129, dX6_judge_130, dX6_judge_131, dX6_judge_133, dX6_judge_134, dX6_judge_135, dX6_judge_136, dX6_judge_139, dX6_judge_142, dX6_judge_143, cr_6_133, cr_6_157, cr_6_161, cr_6_215, cr_6_286, cr_6_69, cr_6_88, fr_6_12, fr_6_154, fr_6_218, fr_6_25, fr_6_276, fr_6_50, fr_6_73, al_10, al_11, al_12, al_13, al_14, al_16, al_17, al_18, al_19, al_2, al_20, al_21, al_23, al_24, al_27, al_28, al_29, al_3, al_30, al_31, al_32, al_34, al_36, al_37, al_38, al_39, al_4, al_40, al_41, al_42, al_43, al_45, al_46, al_47, al_48, al_49, al_5, al_52, al_53, al_54, al_55, al_56, al_57, al_58, al_6, al_60, al_61, al_62, al_63, al_64, al_65, al_66, al_67, al_69, al_7, al_70, al_71, al_72, al_73, al_9, cat_i, cat_l, cat_r, cat_u, gf_0_0_1, gf_0_0_15, gf_0_0_26, gf_0_0_8, gf_3_0_50, gf_3_2_50, gf_4_0_22, gf_4_0_33, gf_5_0_0, gf_5_3_0, gf_5_7_0, pcl_0, pcl_1, pcl_100, pcl_101, pcl_102, pcl_103, pcl_104, pcl_105, pcl_106, pcl_107, pcl_108, pcl_109, pcl_110, pcl_111, pcl_112, pcl_15, pcl_22, pcl_25, pcl_26, pcl_33, pcl_44, pcl_50, pcl_59, pcl_8, rOK_i, rOK_z, ra_35, ra_51, ra_68, v_aaload, v_aload_0, v_bipush_12, v_getfield, v_goto, v_iadd, v_iaload, v_ic_ge, v_iconst_0, v_iconst_1, v_if_eq, v_iinc_4, v_iload_1, v_iload_2, v_iload_3, v_iload_4, v_iload_5, v_invs, v_invv, v_ior, v_ireturn, v_ishl, v_istore_2, v_istore_3, v_istore_4, v_istore_5, vaa_s, vcS_2_1, vcV_2_0, vcV_2_3, vcV_2_4, vcV_2_5, vcV_3_4, vgf_i, vgf_r, vgf_s, vc_d, rr_0, rr_1, csT_h, csT_t, csT_n, bI_0, bI_1, bI_z, bT, List.mem_cons, List.not_mem_nil, List.length_cons, List.length_nil, ite_not, ↓reduceIte, true_and, and_true, not_true_eq_false, not_false_eq_true, false_or, or_false, or_true, true_or, Nat.reduceAdd, Nat.reduceEqDiff, Nat.reduceBEq, Nat.reduceLeDiff, Nat.reduceLT, Nat.reduceSub, Int.reduceAdd, Int.reduceLE, Int.reduceLT, Int.reduceToNat, Int.reduceNeg, Int.reduceNatCast', reduceCtorEq, Int32.reduceOfInt, Int32.reduceOfNat, Int32.reduceToNatClampNeg, Int32.reduceToInt, i10, i01, pe_X0_has, pe_X6_isIn, pe_X5_become, pe_X5_go, BR, jk_n, he, c1, c2, c3, nI_1, ha, h90, sh_jk hs, hasW_jk, Classical.not_not]
    refine ⟨hb, hb, by omega, ?_⟩
    by_cases h1 : hasW M 1 (M (52 + (s).toNatClampNeg) i)
    · rw [if_pos h1]
      by_cases h2 : (c >>> (M (52 + (s).toNatClampNeg) i &&& 31)) &&& 1 = 0
      · rw [if_pos h2]
        refine ⟨h1, ?_⟩
        obtain ⟨a', ha', e⟩ := wb_jk (M := M) (w := M (52 + (s).toNatClampNeg) i) (a := a) (b := b)
        have hg := goR_jk ha' hbr
        rw [e, goM_jk, hg.1]
        have h12 := ge12 (show (xwr M (M (52 + (s).toNatClampNeg) i).toNatClampNeg r).1 ≤ 12 from wk_le)
        by_cases h3 : (xwr M (M (52 + (s).toNatClampNeg) i).toNatClampNeg r).1 < 12
        · rw [if_neg (by rw [h12]; exact fun z => z h3)]
          have := h (upd a' 2 (if (xwr M (M (52 + (s).toNatClampNeg) i).toNatClampNeg r).1 < 12 then a' 2 else (goR (jk M a' b) 22 23).2.1)) (goR (jk M a' b) 22 23).2.2
          rw [jdF, if_neg (fun z => z.2.2 h3)] at this
          exact this
        · rw [if_pos (by rw [h12]; exact h3)]
          exact ih (i + 1) _ (xwr M (M (52 + (s).toNatClampNeg) i).toNatClampNeg r).2.2 _ _ _ (by omega) hg.2.2 (fun a b => by have := h a b; rw [jdF, if_pos ⟨h1, h2, h3⟩] at this; exact this)
      · rw [if_neg h2]
        have := h a b
        rw [jdF, if_neg (fun z => h2 z.2.1)] at this
        exact this
    · rw [if_neg h1]
      have := h a b
      rw [jdF, if_neg (fun z => h1 z.1)] at this
      exact this
def pf_X6_judge : PF := fun args M k => match args with
  | [.ref o, .int s] => (o = 0 ∧ ZV M) ∧ (if fdF M s = 0 then ∀ a b, k (.int (jdF M (M (52 + (s).toNatClampNeg)) (M 57 (s).toNatClampNeg).toNatClampNeg 0 0 (M 2))) (jk M a b) else k (.int (fdF M s)) (tellM M (-1000001 - fdF M s).toNatClampNeg))
  | _ => False
theorem pe_X6_judge {o : Nat} {s : Int32} {M : Mem} {k : Value → Mem → Prop} : pf_X6_judge [.ref o, .int s] M k = ((o = 0 ∧ ZV M) ∧ (if fdF M s = 0 then ∀ a b, k (.int (jdF M (M (52 + (s).toNatClampNeg)) (M 57 (s).toNatClampNeg).toNatClampNeg 0 0 (M 2))) (jk M a b) else k (.int (fdF M s)) (tellM M (-1000001 - fdF M s).toNatClampNeg))) := rfl
set_option maxRecDepth 100000 in
set_option maxHeartbeats 4000000 in
theorem c_X6_judge {d : Nat} (hd : 3 ≤ d) {o : Nat} {s : Int32} {M : Mem} {k : Value → Mem → Prop} (h : (o = 0 ∧ ZV M) ∧ (if fdF M s = 0 then ∀ a b, k (.int (jdF M (M (52 + (s).toNatClampNeg)) (M 57 (s).toNatClampNeg).toNatClampNeg 0 0 (M 2))) (jk M a b) else k (.int (fdF M s)) (tellM M (-1000001 - fdF M s).toNatClampNeg))) : CallP d 97 [.ref o, .int s] M k := by
  obtain ⟨hp, h⟩ := h
  obtain ⟨d, rfl⟩ : ∃ d', d = d' + 1 := ⟨d - 1, by omega⟩
  obtain ⟨rfl, hz⟩ := hp
  · refine enterV (n := 80) [(46, pf_X4_finding), (103, pf_X6_tell), (53, pf_X5_layRow)] [38] mI_97 (by decide) (Nat.le_of_ble_eq_true rfl) (T_cons (s_X4_finding (by omega)) (T_cons (s_X6_tell (by omega)) (T_cons (s_X5_layRow (by omega)) T_nil))) ?_
    rw [show lent 6 ([.ref 0, .int s] : List Value) = [.ref 0, .int s, .retAddr 0, .retAddr 0, .retAddr 0, .retAddr 0] from rfl]
    simp only [dX6_judge_0, dX6_judge_1, dX6_judge_4, dX6_judge_5, dX6_judge_8, dX6_judge_9, dX6_judge_10, dX6_judge_13, dX6_judge_14, dX6_judge_15, dX6_judge_18, dX6_judge_19, dX6_judge_20, dX6_judge_21, dX6_judge_22, dX6_judge_25, dX6_judge_26, dX6_judge_29, dX6_judge_32, dX6_judge_35, dX6_judge_36, dX6_judge_38, dX6_judge_40, dX6_judge_41, dX6_judge_44, dX6_judge_47, dX6_judge_48, dX6_judge_49, dX6_judge_52, dX6_judge_53, dX6_judge_56, dX6_judge_59, dX6_judge_60, dX6_judge_61, dX6_judge_63, dX6_judge_64, dX6_judge_66, dX6_judge_67, dX6_judge_70, dX6_judge_72, dX6_judge_75, dX6_judge_78, dX6_judge_79, dX6_judge_81, dX6_judge_84, dX6_judge_87, dX6_judge_88, dX6_judge_90, dX6_judge_91, dX6_judge_92, dX6_judge_93, dX6_judge_96, dX6_judge_97, dX6_judge_100, dX6_judge_102, dX6_judge_105, dX6_judge_106, dX6_judge_109, dX6_judge_110, dX6_judge_113, dX6_judge_116, dX6_judge_119, dX6_judge_121, dX6_judge_124, dX6_judge_125, dX6_judge_127, dX6_judge_128, dX6_judge_129, dX6_judge_130, dX6_judge_131, dX6_judge_133, dX6_judge_134, dX6_judge_135, dX6_judge_136, dX6_judge_139, dX6_judge_142, dX6_judge_143, cr_6_133, cr_6_157, cr_6_161, cr_6_215, cr_6_286, cr_6_69, cr_6_88, fr_6_12, fr_6_154, fr_6_218, fr_6_25, fr_6_276, fr_6_50, fr_6_73, al_10, al_11, al_12, al_13, al_14, al_16, al_17, al_18, al_19, al_2, al_20, al_21, al_23, al_24, al_27, al_28, al_29, al_3, al_30, al_31, al_32, al_34, al_36, al_37, al_38, al_39, al_4, al_40, al_41, al_42, al_43, al_45, al_46, al_47, al_48, al_49, al_5, al_52, al_53, al_54, al_55, al_56, al_57, al_58, al_6, al_60, al_61, al_62, al_63, al_64, al_65, al_66, al_67, al_69, al_7, al_70, al_71, al_72, al_73, al_9, cat_i, cat_l, cat_r, cat_u, gf_0_0_1, gf_0_0_15, gf_0_0_26, gf_0_0_8, gf_3_0_50, gf_3_2_50, gf_4_0_22, gf_4_0_33, gf_5_0_0, gf_5_3_0, gf_5_7_0, pcl_0, pcl_1, pcl_100, pcl_101, pcl_102, pcl_103, pcl_104, pcl_105, pcl_106, pcl_107, pcl_108, pcl_109, pcl_110, pcl_111, pcl_112, pcl_15, pcl_22, pcl_25, pcl_26, pcl_33, pcl_44, pcl_50, pcl_59, pcl_8, rOK_i, rOK_z, ra_35, ra_51, ra_68, v_aaload, v_aload_0, v_bipush_12, v_getfield, v_goto, v_iadd, v_iaload, v_ic_ge, v_iconst_0, v_iconst_1, v_if_eq, v_iinc_4, v_iload_1, v_iload_2, v_iload_3, v_iload_4, v_iload_5, v_invs, v_invv, v_ior, v_ireturn, v_ishl, v_istore_2, v_istore_3, v_istore_4, v_istore_5, vaa_s, vcS_2_1, vcV_2_0, vcV_2_3, vcV_2_4, vcV_2_5, vcV_3_4, vgf_i, vgf_r, vgf_s, vc_d, rr_0, rr_1, csT_h, csT_t, csT_n, bI_0, bI_1, bI_z, bT, List.mem_cons, List.not_mem_nil, List.length_cons, List.length_nil, ite_not, ↓reduceIte, true_and, and_true, not_true_eq_false, not_false_eq_true, false_or, or_false, or_true, true_or, Nat.reduceAdd, Nat.reduceEqDiff, Nat.reduceBEq, Nat.reduceLeDiff, Nat.reduceLT, Nat.reduceSub, Int.reduceAdd, Int.reduceLE, Int.reduceLT, Int.reduceToNat, Int.reduceNeg, Int.reduceNatCast', reduceCtorEq, Int32.reduceOfInt, Int32.reduceOfNat, Int32.reduceToNatClampNeg, Int32.reduceToInt, i10, i01, pe_X4_finding, tl_0, tl_1, tl_2, tl_3, tl_4, tl_5, tl_6, pe_X5_layRow]
    by_cases h0 : fdF M s = 0
    · rw [if_pos h0] at h ⊢
      have hs := fd0 h0
      obtain ⟨m, hm, he⟩ := hz (s).toNatClampNeg (by rcases sh4 hs with rfl | rfl | rfl | rfl <;> decide)
      rw [he, nI_clamp (by omega)] at h
      have := lp_judge (d := d) (by omega) (k := k) (x2 := fdF M s) hs hm he m 0 0 (M 2) (M 22) (cpN 12 (M 2) (M 23)) (.retAddr 0) (by omega) (fun j hj => cpN_lt hj) h
      unfold jk at this
      rw [mrow_self] at this
      exact this
    · rw [if_neg h0] at h ⊢
      rw [fd_tell h0]
      simp only [dX6_judge_0, dX6_judge_1, dX6_judge_4, dX6_judge_5, dX6_judge_8, dX6_judge_9, dX6_judge_10, dX6_judge_13, dX6_judge_14, dX6_judge_15, dX6_judge_18, dX6_judge_19, dX6_judge_20, dX6_judge_21, dX6_judge_22, dX6_judge_25, dX6_judge_26, dX6_judge_29, dX6_judge_32, dX6_judge_35, dX6_judge_36, dX6_judge_38, dX6_judge_40, dX6_judge_41, dX6_judge_44, dX6_judge_47, dX6_judge_48, dX6_judge_49, dX6_judge_52, dX6_judge_53, dX6_judge_56, dX6_judge_59, dX6_judge_60, dX6_judge_61, dX6_judge_63, dX6_judge_64, dX6_judge_66, dX6_judge_67, dX6_judge_70, dX6_judge_72, dX6_judge_75, dX6_judge_78, dX6_judge_79, dX6_judge_81, dX6_judge_84, dX6_judge_87, dX6_judge_88, dX6_judge_90, dX6_judge_91, dX6_judge_92, dX6_judge_93, dX6_judge_96, dX6_judge_97, dX6_judge_100, dX6_judge_102, dX6_judge_105, dX6_judge_106, dX6_judge_109, dX6_judge_110, dX6_judge_113, dX6_judge_116, dX6_judge_119, dX6_judge_121, dX6_judge_124, dX6_judge_125, dX6_judge_127, dX6_judge_128, dX6_judge_129, dX6_judge_130, dX6_judge_131, dX6_judge_133, dX6_judge_134, dX6_judge_135, dX6_judge_136, dX6_judge_139, dX6_judge_142, dX6_judge_143, cr_6_133, cr_6_157, cr_6_161, cr_6_215, cr_6_286, cr_6_69, cr_6_88, fr_6_12, fr_6_154, fr_6_218, fr_6_25, fr_6_276, fr_6_50, fr_6_73, al_10, al_11, al_12, al_13, al_14, al_16, al_17, al_18, al_19, al_2, al_20, al_21, al_23, al_24, al_27, al_28, al_29, al_3, al_30, al_31, al_32, al_34, al_36, al_37, al_38, al_39, al_4, al_40, al_41, al_42, al_43, al_45, al_46, al_47, al_48, al_49, al_5, al_52, al_53, al_54, al_55, al_56, al_57, al_58, al_6, al_60, al_61, al_62, al_63, al_64, al_65, al_66, al_67, al_69, al_7, al_70, al_71, al_72, al_73, al_9, cat_i, cat_l, cat_r, cat_u, gf_0_0_1, gf_0_0_15, gf_0_0_26, gf_0_0_8, gf_3_0_50, gf_3_2_50, gf_4_0_22, gf_4_0_33, gf_5_0_0, gf_5_3_0, gf_5_7_0, pcl_0, pcl_1, pcl_100, pcl_101, pcl_102, pcl_103, pcl_104, pcl_105, pcl_106, pcl_107, pcl_108, pcl_109, pcl_110, pcl_111, pcl_112, pcl_15, pcl_22, pcl_25, pcl_26, pcl_33, pcl_44, pcl_50, pcl_59, pcl_8, rOK_i, rOK_z, ra_35, ra_51, ra_68, v_aaload, v_aload_0, v_bipush_12, v_getfield, v_goto, v_iadd, v_iaload, v_ic_ge, v_iconst_0, v_iconst_1, v_if_eq, v_iinc_4, v_iload_1, v_iload_2, v_iload_3, v_iload_4, v_iload_5, v_invs, v_invv, v_ior, v_ireturn, v_ishl, v_istore_2, v_istore_3, v_istore_4, v_istore_5, vaa_s, vcS_2_1, vcV_2_0, vcV_2_3, vcV_2_4, vcV_2_5, vcV_3_4, vgf_i, vgf_r, vgf_s, vc_d, rr_0, rr_1, csT_h, csT_t, csT_n, bI_0, bI_1, bI_z, bT, List.mem_cons, List.not_mem_nil, List.length_cons, List.length_nil, ite_not, ↓reduceIte, true_and, and_true, not_true_eq_false, not_false_eq_true, false_or, or_false, or_true, true_or, Nat.reduceAdd, Nat.reduceEqDiff, Nat.reduceBEq, Nat.reduceLeDiff, Nat.reduceLT, Nat.reduceSub, Int.reduceAdd, Int.reduceLE, Int.reduceLT, Int.reduceToNat, Int.reduceNeg, Int.reduceNatCast', reduceCtorEq, Int32.reduceOfInt, Int32.reduceOfNat, Int32.reduceToNatClampNeg, Int32.reduceToInt, i10, i01, pe_X4_finding, tl_0, tl_1, tl_2, tl_3, tl_4, tl_5, tl_6, pe_X5_layRow]
      exact h

theorem s_X6_judge {d : Nat} (hd : 3 ≤ d) : Snd d 97 pf_X6_judge := by
  intro args M k h
  unfold pf_X6_judge at h
  split at h
  · exact c_X6_judge hd h
  · exact h.elim
theorem xw_22 {M : Mem} {a : Nat → Int32} {i : Nat} : xw (mrow M 22 a) i = xw M i := by
  unfold xw
  rw [mrow_n (by decide), mrow_n (by decide), mrow_n (by decide), mrow_n (by decide), mrow_n (by decide)]
theorem cx1_22 {M : Mem} {a : Nat → Int32} {i : Nat} : cx1 (mrow M 22 a) i = mrow (cx1 M i) 22 a := by
  unfold cx1
  rw [xw_22, mrow_n (by decide), mrow_n (by decide), mrow_n (by decide)]
  by_cases h : (xw M i).1 < 12
  · rw [if_pos h, if_pos h]
    funext z
    unfold mset mrow
    by_cases z1 : z = 22
    · subst z1; simp
    · simp [z1]
  · rw [if_neg h, if_neg h]
    funext z
    unfold mset mrow
    by_cases z1 : z = 22
    · subst z1; simp
    · simp [z1]
theorem cx1_16 {M : Mem} {i : Nat} : cx1 M i 1 6 = M 1 6 := by
  unfold cx1
  rw [mset_s, upd_n (by decide)]
  split <;> simp [mset, mrow, upd]
/-- a crowd crosses: how many fell, the memory -/
def cwF (s : Nat) : Nat → Nat → Nat → Mem → Nat × Mem
  | 0, _, c, M => (c, M)
  | n + 1, i, c, M => if s.testBit i then cwF s n (i + 1) (if (xw M i).1 < 12 then c + 1 else c) (cx1 M i) else cwF s n (i + 1) c M
set_option maxRecDepth 100000 in
set_option maxHeartbeats 4000000 in
theorem lp_crowd {d : Nat} (hd : 3 ≤ d) {k : Value → Mem → Prop} {q s : Nat} (hq : q ≤ 6) (hs : s < 2 ^ q) : ∀ (n i c : Nat) (M : Mem) (a : Nat → Int32), M 1 6 = nI q → i + n = 6 → c ≤ i → (∀ a, k (.int (nI (cwF s n i c M).1)) (mrow (cwF s n i c M).2 22 a)) → WP (6, yX6_crowd, cX6_crowd, 4, (some .int)) (d + 1) k 46 [.ref 0, .int (nI s), .int (nI c), .int (nI i)] [] (mrow M 22 a) := by
  have hs2 : s < 2 ^ 6 := Nat.lt_of_lt_of_le hs (Nat.pow_le_pow_right (by decide) hq)
  intro n
  induction n with
  | zero =>
    intro i c M a hn hi hc h
    have : i = 6 := by omega
    subst this
    refine goV (n := 80) [(109, pf_X6_isIn), (113, pf_X6_reallyCross)] [46] (T_cons (s_X6_isIn (by omega)) (T_cons (s_X6_reallyCross hd) T_nil)) ?_
    simp only [dX6_crowd_0, dX6_crowd_1, dX6_crowd_4, dX6_crowd_5, dX6_crowd_8, dX6_crowd_11, dX6_crowd_12, dX6_crowd_14, dX6_crowd_17, dX6_crowd_18, dX6_crowd_19, dX6_crowd_22, dX6_crowd_25, dX6_crowd_26, dX6_crowd_29, dX6_crowd_30, dX6_crowd_32, dX6_crowd_35, dX6_crowd_36, dX6_crowd_38, dX6_crowd_41, dX6_crowd_42, dX6_crowd_43, dX6_crowd_44, dX6_crowd_45, dX6_crowd_46, dX6_crowd_47, dX6_crowd_49, dX6_crowd_52, dX6_crowd_53, dX6_crowd_54, dX6_crowd_57, dX6_crowd_60, dX6_crowd_61, dX6_crowd_62, dX6_crowd_65, dX6_crowd_67, dX6_crowd_70, dX6_crowd_73, dX6_crowd_76, dX6_crowd_79, dX6_crowd_80, cr_6_122, cr_6_125, cr_6_128, cr_6_133, cr_6_69, fr_6_117, fr_6_12, kr_6_120, kr_6_121, kr_6_68, skr_6_120, skr_6_121, skr_6_68, al_10, al_11, al_12, al_13, al_14, al_16, al_17, al_18, al_19, al_2, al_20, al_21, al_23, al_24, al_27, al_28, al_29, al_3, al_30, al_31, al_32, al_34, al_36, al_37, al_38, al_39, al_4, al_40, al_41, al_42, al_43, al_45, al_46, al_47, al_48, al_49, al_5, al_52, al_53, al_54, al_55, al_56, al_57, al_58, al_6, al_60, al_61, al_62, al_63, al_64, al_65, al_66, al_67, al_69, al_7, al_70, al_71, al_72, al_73, al_9, cat_i, cat_l, cat_r, cat_u, gf_0_8_1, gf_0_8_15, gf_0_8_26, gf_0_8_8, gf_5_0_0, pcl_0, pcl_1, pcl_100, pcl_101, pcl_102, pcl_103, pcl_104, pcl_105, pcl_106, pcl_107, pcl_108, pcl_109, pcl_110, pcl_111, pcl_112, pcl_15, pcl_22, pcl_25, pcl_26, pcl_33, pcl_44, pcl_50, pcl_59, pcl_8, pft_0_8, rOK_i, rOK_z, v_aload_0, v_bipush_12, v_bipush_6, v_getfield, v_goto, v_iadd, v_ic_ge, v_ic_le, v_iconst_0, v_if_eq, v_if_ne, v_iinc_2, v_iinc_3, v_iload_1, v_iload_2, v_iload_3, v_invs, v_invv, v_ireturn, v_istore_2, v_istore_3, v_ldc, vcS_1_1, vcS_2_1, vcV_2_0, vcV_2_5, vgf_i, vgf_r, vgf_s, vld_i, vld_s, vc_d, rr_0, rr_1, csT_h, csT_t, csT_n, bI_0, bI_1, bI_z, bT, List.mem_cons, List.not_mem_nil, List.length_cons, List.length_nil, ite_not, ↓reduceIte, true_and, and_true, not_true_eq_false, not_false_eq_true, false_or, or_false, or_true, true_or, Nat.reduceAdd, Nat.reduceEqDiff, Nat.reduceBEq, Nat.reduceLeDiff, Nat.reduceLT, Nat.reduceSub, Int.reduceAdd, Int.reduceLE, Int.reduceLT, Int.reduceToNat, Int.reduceNeg, Int.reduceNatCast', reduceCtorEq, Int32.reduceOfInt, Int32.reduceOfNat, Int32.reduceToNatClampNeg, Int32.reduceToInt, i10, i01, show ((6 : Int32) ≤ nI 6) = True from by decide]
    exact h a
  | succ n ih =>
    intro i c M a hn hi hc h
    have c1 : ¬ (6 : Int32) ≤ nI i := nI_ge (b := 6) (by omega) (by decide)
    have c3 : (nI i).toNatClampNeg = i := nI_clamp (by omega)
    refine goV (n := 80) [(109, pf_X6_isIn), (113, pf_X6_reallyCross)] [46] (T_cons (s_X6_isIn (by omega)) (T_cons (s_X6_reallyCross hd) T_nil)) ?_
    simp only [dX6_crowd_0, dX6_crowd_1, dX6_crowd_4, dX6_crowd_5, dX6_crowd_8, dX6_crowd_11, dX6_crowd_12, dX6_crowd_14, dX6_crowd_17, dX6_crowd_18, dX6_crowd_19, dX6_crowd_22, dX6_crowd_25, dX6_crowd_26, dX6_crowd_29, dX6_crowd_30, dX6_crowd_32, dX6_crowd_35, dX6_crowd_36, dX6_crowd_38, dX6_crowd_41, dX6_crowd_42, dX6_crowd_43, dX6_crowd_44, dX6_crowd_45, dX6_crowd_46, dX6_crowd_47, dX6_crowd_49, dX6_crowd_52, dX6_crowd_53, dX6_crowd_54, dX6_crowd_57, dX6_crowd_60, dX6_crowd_61, dX6_crowd_62, dX6_crowd_65, dX6_crowd_67, dX6_crowd_70, dX6_crowd_73, dX6_crowd_76, dX6_crowd_79, dX6_crowd_80, cr_6_122, cr_6_125, cr_6_128, cr_6_133, cr_6_69, fr_6_117, fr_6_12, kr_6_120, kr_6_121, kr_6_68, skr_6_120, skr_6_121, skr_6_68, al_10, al_11, al_12, al_13, al_14, al_16, al_17, al_18, al_19, al_2, al_20, al_21, al_23, al_24, al_27, al_28, al_29, al_3, al_30, al_31, al_32, al_34, al_36, al_37, al_38, al_39, al_4, al_40, al_41, al_42, al_43, al_45, al_46, al_47, al_48, al_49, al_5, al_52, al_53, al_54, al_55, al_56, al_57, al_58, al_6, al_60, al_61, al_62, al_63, al_64, al_65, al_66, al_67, al_69, al_7, al_70, al_71, al_72, al_73, al_9, cat_i, cat_l, cat_r, cat_u, gf_0_8_1, gf_0_8_15, gf_0_8_26, gf_0_8_8, gf_5_0_0, pcl_0, pcl_1, pcl_100, pcl_101, pcl_102, pcl_103, pcl_104, pcl_105, pcl_106, pcl_107, pcl_108, pcl_109, pcl_110, pcl_111, pcl_112, pcl_15, pcl_22, pcl_25, pcl_26, pcl_33, pcl_44, pcl_50, pcl_59, pcl_8, pft_0_8, rOK_i, rOK_z, v_aload_0, v_bipush_12, v_bipush_6, v_getfield, v_goto, v_iadd, v_ic_ge, v_ic_le, v_iconst_0, v_if_eq, v_if_ne, v_iinc_2, v_iinc_3, v_iload_1, v_iload_2, v_iload_3, v_invs, v_invv, v_ireturn, v_istore_2, v_istore_3, v_ldc, vcS_1_1, vcS_2_1, vcV_2_0, vcV_2_5, vgf_i, vgf_r, vgf_s, vld_i, vld_s, vc_d, rr_0, rr_1, csT_h, csT_t, csT_n, bI_0, bI_1, bI_z, bT, List.mem_cons, List.not_mem_nil, List.length_cons, List.length_nil, ite_not, ↓reduceIte, true_and, and_true, not_true_eq_false, not_false_eq_true, false_or, or_false, or_true, true_or, Nat.reduceAdd, Nat.reduceEqDiff, Nat.reduceBEq, Nat.reduceLeDiff, Nat.reduceLT, Nat.reduceSub, Int.reduceAdd, Int.reduceLE, Int.reduceLT, Int.reduceToNat, Int.reduceNeg, Int.reduceNatCast', reduceCtorEq, Int32.reduceOfInt, Int32.reduceOfNat, Int32.reduceToNatClampNeg, Int32.reduceToInt, i10, i01, pe_X6_isIn, pe_X6_reallyCross, c1, c3, nI_1, isin0 (show s < 2 ^ 31 by omega) (show i < 31 by omega), xw_22, cx1_22, mrow_mrow, ge12 xw_le, Classical.not_not]
    rw [cwF] at h
    by_cases hb : s.testBit i = true
    · rw [if_neg (by rw [hb]; decide)]
      rw [if_pos hb] at h
      have hiq : i < q := by
        rcases Nat.lt_or_ge i q with z | z
        · exact z
        · have := Nat.testBit_lt_two_pow (Nat.lt_of_lt_of_le hs (Nat.pow_le_pow_right (by decide) z))
          rw [hb] at this
          cases this
      obtain ⟨w1, w2, w3⟩ := has_nI hq hn hiq
      refine ⟨⟨w1, by rw [mrow_n (by decide)]; exact w2, w3⟩, fun a' => ?_⟩
      by_cases hlt : (xw M i).1 < 12
      · rw [if_pos hlt]
        rw [if_pos hlt] at h
        exact ih (i + 1) (c + 1) _ _ (by rw [cx1_16]; exact hn) (by omega) (by omega) h
      · rw [if_neg hlt]
        rw [if_neg hlt] at h
        exact ih (i + 1) c _ _ (by rw [cx1_16]; exact hn) (by omega) (by omega) h
    · rw [if_pos (by simpa using hb)]
      rw [if_neg hb] at h
      exact ih (i + 1) c M a hn (by omega) (by omega) h
theorem hasAll_n {M : Mem} {s : Int32} (hI : IV M) (h : ¬ s < 0 ∧ ¬ 1 <<< (M 1 6 &&& 31) ≤ s) : ∃ b q, q ≤ 6 ∧ M 1 6 = nI q ∧ b < 2 ^ q ∧ s = nI b := by
  obtain ⟨q, hq, he⟩ := hI
  obtain ⟨b, hb, rfl⟩ := nI_of h.1
  have h2 := h.2
  rw [he, sh1 q (by omega)] at h2
  have h64 : 2 ^ q ≤ 64 := by
    have := Nat.pow_le_pow_right (n := 2) (by decide) hq
    exact this
  rw [nI_leI (by omega) hb] at h2
  exact ⟨b, q, hq, he, by omega, rfl⟩
def pf_X6_crowd : PF := fun args M k => match args with
  | [.ref o, .int s] => (o = 0 ∧ IV M) ∧ (if ¬ s < 0 ∧ ¬ 1 <<< (M 1 6 &&& 31) ≤ s then (if M 1 8 + nI (popc (s).toNatClampNeg) ≤ 99999 then ∀ a, k (.int (nI (cwF (s).toNatClampNeg 6 0 0 M).1)) (mrow (cwF (s).toNatClampNeg 6 0 0 M).2 22 a) else k (.int (-1000005)) (tellM M 4)) else k (.int (-1000001)) (tellM M 0))
  | _ => False
theorem pe_X6_crowd {o : Nat} {s : Int32} {M : Mem} {k : Value → Mem → Prop} : pf_X6_crowd [.ref o, .int s] M k = ((o = 0 ∧ IV M) ∧ (if ¬ s < 0 ∧ ¬ 1 <<< (M 1 6 &&& 31) ≤ s then (if M 1 8 + nI (popc (s).toNatClampNeg) ≤ 99999 then ∀ a, k (.int (nI (cwF (s).toNatClampNeg 6 0 0 M).1)) (mrow (cwF (s).toNatClampNeg 6 0 0 M).2 22 a) else k (.int (-1000005)) (tellM M 4)) else k (.int (-1000001)) (tellM M 0))) := rfl
set_option maxRecDepth 100000 in
set_option maxHeartbeats 4000000 in
theorem c_X6_crowd {d : Nat} (hd : 4 ≤ d) {o : Nat} {s : Int32} {M : Mem} {k : Value → Mem → Prop} (h : (o = 0 ∧ IV M) ∧ (if ¬ s < 0 ∧ ¬ 1 <<< (M 1 6 &&& 31) ≤ s then (if M 1 8 + nI (popc (s).toNatClampNeg) ≤ 99999 then ∀ a, k (.int (nI (cwF (s).toNatClampNeg 6 0 0 M).1)) (mrow (cwF (s).toNatClampNeg 6 0 0 M).2 22 a) else k (.int (-1000005)) (tellM M 4)) else k (.int (-1000001)) (tellM M 0))) : CallP d 63 [.ref o, .int s] M k := by
  obtain ⟨hp, h⟩ := h
  obtain ⟨d, rfl⟩ : ∃ d', d = d' + 1 := ⟨d - 1, by omega⟩
  obtain ⟨rfl, hI⟩ := hp
  · refine enterV (n := 80) [(3, pf_X0_hasAll), (103, pf_X6_tell), (230, pf_J6_bitCount_0f7a4)] [46] mI_63 (by decide) (Nat.le_of_ble_eq_true rfl) (T_cons (s_X0_hasAll (by omega)) (T_cons (s_X6_tell (by omega)) (T_cons (s_J6_bitCount_0f7a4 (by omega)) T_nil))) ?_
    rw [show lent 4 ([.ref 0, .int s] : List Value) = [.ref 0, .int s, .retAddr 0, .retAddr 0] from rfl]
    simp only [dX6_crowd_0, dX6_crowd_1, dX6_crowd_4, dX6_crowd_5, dX6_crowd_8, dX6_crowd_11, dX6_crowd_12, dX6_crowd_14, dX6_crowd_17, dX6_crowd_18, dX6_crowd_19, dX6_crowd_22, dX6_crowd_25, dX6_crowd_26, dX6_crowd_29, dX6_crowd_30, dX6_crowd_32, dX6_crowd_35, dX6_crowd_36, dX6_crowd_38, dX6_crowd_41, dX6_crowd_42, dX6_crowd_43, dX6_crowd_44, dX6_crowd_45, dX6_crowd_46, dX6_crowd_47, dX6_crowd_49, dX6_crowd_52, dX6_crowd_53, dX6_crowd_54, dX6_crowd_57, dX6_crowd_60, dX6_crowd_61, dX6_crowd_62, dX6_crowd_65, dX6_crowd_67, dX6_crowd_70, dX6_crowd_73, dX6_crowd_76, dX6_crowd_79, dX6_crowd_80, cr_6_122, cr_6_125, cr_6_128, cr_6_133, cr_6_69, fr_6_117, fr_6_12, kr_6_120, kr_6_121, kr_6_68, skr_6_120, skr_6_121, skr_6_68, al_10, al_11, al_12, al_13, al_14, al_16, al_17, al_18, al_19, al_2, al_20, al_21, al_23, al_24, al_27, al_28, al_29, al_3, al_30, al_31, al_32, al_34, al_36, al_37, al_38, al_39, al_4, al_40, al_41, al_42, al_43, al_45, al_46, al_47, al_48, al_49, al_5, al_52, al_53, al_54, al_55, al_56, al_57, al_58, al_6, al_60, al_61, al_62, al_63, al_64, al_65, al_66, al_67, al_69, al_7, al_70, al_71, al_72, al_73, al_9, cat_i, cat_l, cat_r, cat_u, gf_0_8_1, gf_0_8_15, gf_0_8_26, gf_0_8_8, gf_5_0_0, pcl_0, pcl_1, pcl_100, pcl_101, pcl_102, pcl_103, pcl_104, pcl_105, pcl_106, pcl_107, pcl_108, pcl_109, pcl_110, pcl_111, pcl_112, pcl_15, pcl_22, pcl_25, pcl_26, pcl_33, pcl_44, pcl_50, pcl_59, pcl_8, pft_0_8, rOK_i, rOK_z, v_aload_0, v_bipush_12, v_bipush_6, v_getfield, v_goto, v_iadd, v_ic_ge, v_ic_le, v_iconst_0, v_if_eq, v_if_ne, v_iinc_2, v_iinc_3, v_iload_1, v_iload_2, v_iload_3, v_invs, v_invv, v_ireturn, v_istore_2, v_istore_3, v_ldc, vcS_1_1, vcS_2_1, vcV_2_0, vcV_2_5, vgf_i, vgf_r, vgf_s, vld_i, vld_s, vc_d, rr_0, rr_1, csT_h, csT_t, csT_n, bI_0, bI_1, bI_z, bT, List.mem_cons, List.not_mem_nil, List.length_cons, List.length_nil, ite_not, ↓reduceIte, true_and, and_true, not_true_eq_false, not_false_eq_true, false_or, or_false, or_true, true_or, Nat.reduceAdd, Nat.reduceEqDiff, Nat.reduceBEq, Nat.reduceLeDiff, Nat.reduceLT, Nat.reduceSub, Int.reduceAdd, Int.reduceLE, Int.reduceLT, Int.reduceToNat, Int.reduceNeg, Int.reduceNatCast', reduceCtorEq, Int32.reduceOfInt, Int32.reduceOfNat, Int32.reduceToNatClampNeg, Int32.reduceToInt, i10, i01, pe_X0_hasAll, tl_0, tl_1, tl_2, tl_3, tl_4, tl_5, tl_6, pe_J6_bitCount_0f7a4]
    by_cases h1 : ¬ s < 0 ∧ ¬ 1 <<< (M 1 6 &&& 31) ≤ s
    · rw [if_pos h1] at h ⊢
      obtain ⟨b, q, hq, he, hb, rfl⟩ := hasAll_n hI h1
      have h64 : b < 64 := Nat.lt_of_lt_of_le hb (Nat.pow_le_pow_right (n := 2) (by decide) hq)
      rw [nI_clamp (by omega)] at h
      rw [bc_popc b (by omega)]
      by_cases h2 : M 1 8 + nI (popc b) ≤ 99999
      · rw [if_pos h2] at h ⊢
        have := lp_crowd (d := d) (by omega) (k := k) hq hb 6 0 0 M (M 22) he rfl (Nat.le_refl _) h
        rw [mrow_self] at this
        exact this
      · rw [if_neg h2] at h ⊢
        exact h
    · rw [if_neg h1] at h ⊢
      exact h

theorem s_X6_crowd {d : Nat} (hd : 4 ≤ d) : Snd d 63 pf_X6_crowd := by
  intro args M k h
  unfold pf_X6_crowd at h
  split at h
  · exact c_X6_crowd hd h
  · exact h.elim
/-- the planks on which walker i wouldn't fall: how many -/
def gdF (M : Mem) (i : Nat) : Nat := 12 - popc (stN (fun j => ¬ abI (M 4 i - M 2 j) ≤ brs (M 3 i) (M 5 i) (M 1 7)) 12 0 0)
def odF (g : Nat) (n : Nat) (q : Int32) : Int64 := powL ((if q = 0 then nI g else 12) / nI (Nat.gcd 12 g)).toInt64 n 1
def pf_X6_odds : PF := fun args M k => match args with
  | [.ref o, .int w, .int n, .int q] => (o = 0) ∧ (if hasW M 1 w ∧ ¬ n < 0 ∧ ¬ 14 < n ∧ (q = 0 ∨ q = 1) then k (.long (odF (gdF M (w).toNatClampNeg) (n).toNatClampNeg q)) M else k (.long (-1000001)) (tellM M 0))
  | _ => False
theorem pe_X6_odds {o : Nat} {w : Int32} {n : Int32} {q : Int32} {M : Mem} {k : Value → Mem → Prop} : pf_X6_odds [.ref o, .int w, .int n, .int q] M k = ((o = 0) ∧ (if hasW M 1 w ∧ ¬ n < 0 ∧ ¬ 14 < n ∧ (q = 0 ∨ q = 1) then k (.long (odF (gdF M (w).toNatClampNeg) (n).toNatClampNeg q)) M else k (.long (-1000001)) (tellM M 0))) := rfl
set_option maxRecDepth 100000 in
set_option maxHeartbeats 4000000 in
theorem c_X6_odds {d : Nat} (hd : 4 ≤ d) {o : Nat} {w : Int32} {n : Int32} {q : Int32} {M : Mem} {k : Value → Mem → Prop} (h : (o = 0) ∧ (if hasW M 1 w ∧ ¬ n < 0 ∧ ¬ 14 < n ∧ (q = 0 ∨ q = 1) then k (.long (odF (gdF M (w).toNatClampNeg) (n).toNatClampNeg q)) M else k (.long (-1000001)) (tellM M 0))) : CallP d 86 [.ref o, .int w, .int n, .int q] M k := by
  obtain ⟨hp, h⟩ := h
  obtain ⟨d, rfl⟩ : ∃ d', d = d' + 1 := ⟨d - 1, by omega⟩
  obtain rfl := hp
  · refine enterV (n := 120) [(2, pf_X0_has), (103, pf_X6_tell), (7, pf_X0_unfit), (230, pf_J6_bitCount_0f7a4), (122, pf_X6_commonDivisor), (123, pf_X6_power)] [] mI_86 (by decide) (Nat.le_of_ble_eq_true rfl) (T_cons (s_X0_has (by omega)) (T_cons (s_X6_tell (by omega)) (T_cons (s_X0_unfit (by omega)) (T_cons (s_J6_bitCount_0f7a4 (by omega)) (T_cons (s_X6_commonDivisor (by omega)) (T_cons (s_X6_power (by omega)) T_nil)))))) ?_
    rw [show lent 6 ([.ref 0, .int w, .int n, .int q] : List Value) = [.ref 0, .int w, .int n, .int q, .retAddr 0, .retAddr 0] from rfl]
    simp only [dX6_odds_0, dX6_odds_1, dX6_odds_4, dX6_odds_5, dX6_odds_8, dX6_odds_11, dX6_odds_12, dX6_odds_15, dX6_odds_16, dX6_odds_18, dX6_odds_21, dX6_odds_22, dX6_odds_25, dX6_odds_26, dX6_odds_27, dX6_odds_30, dX6_odds_31, dX6_odds_33, dX6_odds_36, dX6_odds_37, dX6_odds_38, dX6_odds_40, dX6_odds_41, dX6_odds_44, dX6_odds_45, dX6_odds_48, dX6_odds_51, dX6_odds_52, dX6_odds_54, dX6_odds_56, dX6_odds_58, dX6_odds_61, dX6_odds_63, dX6_odds_65, dX6_odds_68, dX6_odds_69, dX6_odds_72, dX6_odds_73, dX6_odds_76, dX6_odds_78, dX6_odds_81, dX6_odds_83, dX6_odds_85, dX6_odds_86, dX6_odds_87, dX6_odds_88, dX6_odds_91, cr_6_106, cr_6_128, cr_6_224, cr_6_227, cr_6_69, cr_6_88, fr_6_12, kr_6_68, skr_6_68, al_10, al_11, al_12, al_13, al_14, al_16, al_17, al_18, al_19, al_2, al_20, al_21, al_23, al_24, al_27, al_28, al_29, al_3, al_30, al_31, al_32, al_34, al_36, al_37, al_38, al_39, al_4, al_40, al_41, al_42, al_43, al_45, al_46, al_47, al_48, al_49, al_5, al_52, al_53, al_54, al_55, al_56, al_57, al_58, al_6, al_60, al_61, al_62, al_63, al_64, al_65, al_66, al_67, al_69, al_7, al_70, al_71, al_72, al_73, al_9, cat_i, cat_l, cat_r, cat_u, gf_5_0_0, pcl_0, pcl_1, pcl_100, pcl_101, pcl_102, pcl_103, pcl_104, pcl_105, pcl_106, pcl_107, pcl_108, pcl_109, pcl_110, pcl_111, pcl_112, pcl_15, pcl_22, pcl_25, pcl_26, pcl_33, pcl_44, pcl_50, pcl_59, pcl_8, v_aload_0, v_bipush_12, v_bipush_14, v_getfield, v_goto, v_i2l, v_ic_eq, v_ic_gt, v_iconst_1, v_idiv, v_if_eq, v_if_lt, v_if_ne, v_iload_1, v_iload_2, v_iload_3, v_iload_4, v_iload_5, v_invs, v_invv, v_istore_4, v_istore_5, v_isub, v_lconst_0, v_ldc, v_lreturn, vcS_1_1, vcS_2_1, vcV_2_0, vcV_2_5, vgf_i, vgf_r, vgf_s, vld_i, vld_s, vc_d, rr_0, rr_1, csT_h, csT_t, csT_n, bI_0, bI_1, bI_z, bT, List.mem_cons, List.not_mem_nil, List.length_cons, List.length_nil, ite_not, ↓reduceIte, true_and, and_true, not_true_eq_false, not_false_eq_true, false_or, or_false, or_true, true_or, Nat.reduceAdd, Nat.reduceEqDiff, Nat.reduceBEq, Nat.reduceLeDiff, Nat.reduceLT, Nat.reduceSub, Int.reduceAdd, Int.reduceLE, Int.reduceLT, Int.reduceToNat, Int.reduceNeg, Int.reduceNatCast', reduceCtorEq, Int32.reduceOfInt, Int32.reduceOfNat, Int32.reduceToNatClampNeg, Int32.reduceToInt, i10, i01, pe_X0_has, tl_0, tl_1, tl_2, tl_3, tl_4, tl_5, tl_6, pe_X0_unfit, pe_J6_bitCount_0f7a4, pe_X6_commonDivisor, pe_X6_power, BR]
    by_cases h1 : hasW M 1 w
    · rw [if_pos h1]
      by_cases h2 : n < 0
      · rw [if_neg (fun z => z.2.1 h2)] at h
        rw [if_pos h2]
        exact h
      · rw [if_neg h2]
        by_cases h3 : 14 < n
        · rw [if_neg (fun z => z.2.2.1 h3)] at h
          rw [if_pos h3]
          exact h
        · rw [if_neg h3]
          have key : (q = 0 ∨ q = 1) → k (.long (odF (gdF M (w).toNatClampNeg) (n).toNatClampNeg q)) M := fun z => by
            rw [if_pos ⟨h1, h2, h3, z⟩] at h
            exact h
          have hset := stN_lt (c := fun j => ¬ abI (M 4 (w).toNatClampNeg - M 2 j) ≤ brs (M 3 (w).toNatClampNeg) (M 5 (w).toNatClampNeg) (M 1 7)) 12 0 0 (by decide)
          have e0 : unfF (M 4 (w).toNatClampNeg) (brs (M 3 (w).toNatClampNeg) (M 5 (w).toNatClampNeg) (M 1 7)) (M 2) 12 0 0 = nI (stN (fun j => ¬ abI (M 4 (w).toNatClampNeg - M 2 j) ≤ brs (M 3 (w).toNatClampNeg) (M 5 (w).toNatClampNeg) (M 1 7)) 12 0 0) := by
            rw [unf_st]
            exact stF_N 12 0 0 (by decide)
          have e1 : (12 : Int32) - bcF (unfF (M 4 (w).toNatClampNeg) (brs (M 3 (w).toNatClampNeg) (M 5 (w).toNatClampNeg) (M 1 7)) (M 2) 12 0 0) = nI (gdF M (w).toNatClampNeg) := by
            rw [e0, bc_popc _ (by simpa using hset)]
            exact pk_sub (a := 12) (popc_le _)
          have hg : gdF M (w).toNatClampNeg ≤ 12 := Nat.sub_le _ _
          have hgc : 0 < Nat.gcd 12 (gdF M (w).toNatClampNeg) := Nat.gcd_pos_of_pos_left _ (by decide)
          have hgl : Nat.gcd 12 (gdF M (w).toNatClampNeg) ≤ 12 := Nat.le_of_dvd (by decide) (Nat.gcd_dvd_left _ _)
          have e2 : (nI (gdF M (w).toNatClampNeg)).toNatClampNeg = gdF M (w).toNatClampNeg := nI_clamp (by omega)
          have e3 : (nI (Nat.gcd 12 (gdF M (w).toNatClampNeg)) = 0) = False := eq_false (nI_ne0 hgc (by omega))
          have e4 : ¬ nI (gdF M (w).toNatClampNeg) < 0 := nI_pos (by omega)
          have e5 : ¬ (12 : Int32) < nI (gdF M (w).toNatClampNeg) := nI_nlt (a := 12) (b := gdF M (w).toNatClampNeg) hg (by decide)
          rw [e1]
          simp only [dX6_odds_0, dX6_odds_1, dX6_odds_4, dX6_odds_5, dX6_odds_8, dX6_odds_11, dX6_odds_12, dX6_odds_15, dX6_odds_16, dX6_odds_18, dX6_odds_21, dX6_odds_22, dX6_odds_25, dX6_odds_26, dX6_odds_27, dX6_odds_30, dX6_odds_31, dX6_odds_33, dX6_odds_36, dX6_odds_37, dX6_odds_38, dX6_odds_40, dX6_odds_41, dX6_odds_44, dX6_odds_45, dX6_odds_48, dX6_odds_51, dX6_odds_52, dX6_odds_54, dX6_odds_56, dX6_odds_58, dX6_odds_61, dX6_odds_63, dX6_odds_65, dX6_odds_68, dX6_odds_69, dX6_odds_72, dX6_odds_73, dX6_odds_76, dX6_odds_78, dX6_odds_81, dX6_odds_83, dX6_odds_85, dX6_odds_86, dX6_odds_87, dX6_odds_88, dX6_odds_91, cr_6_106, cr_6_128, cr_6_224, cr_6_227, cr_6_69, cr_6_88, fr_6_12, kr_6_68, skr_6_68, al_10, al_11, al_12, al_13, al_14, al_16, al_17, al_18, al_19, al_2, al_20, al_21, al_23, al_24, al_27, al_28, al_29, al_3, al_30, al_31, al_32, al_34, al_36, al_37, al_38, al_39, al_4, al_40, al_41, al_42, al_43, al_45, al_46, al_47, al_48, al_49, al_5, al_52, al_53, al_54, al_55, al_56, al_57, al_58, al_6, al_60, al_61, al_62, al_63, al_64, al_65, al_66, al_67, al_69, al_7, al_70, al_71, al_72, al_73, al_9, cat_i, cat_l, cat_r, cat_u, gf_5_0_0, pcl_0, pcl_1, pcl_100, pcl_101, pcl_102, pcl_103, pcl_104, pcl_105, pcl_106, pcl_107, pcl_108, pcl_109, pcl_110, pcl_111, pcl_112, pcl_15, pcl_22, pcl_25, pcl_26, pcl_33, pcl_44, pcl_50, pcl_59, pcl_8, v_aload_0, v_bipush_12, v_bipush_14, v_getfield, v_goto, v_i2l, v_ic_eq, v_ic_gt, v_iconst_1, v_idiv, v_if_eq, v_if_lt, v_if_ne, v_iload_1, v_iload_2, v_iload_3, v_iload_4, v_iload_5, v_invs, v_invv, v_istore_4, v_istore_5, v_isub, v_lconst_0, v_ldc, v_lreturn, vcS_1_1, vcS_2_1, vcV_2_0, vcV_2_5, vgf_i, vgf_r, vgf_s, vld_i, vld_s, vc_d, rr_0, rr_1, csT_h, csT_t, csT_n, bI_0, bI_1, bI_z, bT, List.mem_cons, List.not_mem_nil, List.length_cons, List.length_nil, ite_not, ↓reduceIte, true_and, and_true, not_true_eq_false, not_false_eq_true, false_or, or_false, or_true, true_or, Nat.reduceAdd, Nat.reduceEqDiff, Nat.reduceBEq, Nat.reduceLeDiff, Nat.reduceLT, Nat.reduceSub, Int.reduceAdd, Int.reduceLE, Int.reduceLT, Int.reduceToNat, Int.reduceNeg, Int.reduceNatCast', reduceCtorEq, Int32.reduceOfInt, Int32.reduceOfNat, Int32.reduceToNatClampNeg, Int32.reduceToInt, i10, i01, pe_X0_has, tl_0, tl_1, tl_2, tl_3, tl_4, tl_5, tl_6, pe_X0_unfit, pe_J6_bitCount_0f7a4, pe_X6_commonDivisor, pe_X6_power, e2, e3, e4, e5, h2, h3, h1, not_false_eq_true]
          by_cases h4 : q = 0
          · have h := key (Or.inl h4)
            rw [odF, if_pos h4] at h
            rw [if_pos h4]
            simp only [h4, ↓reduceIte]
            exact ⟨h1, h⟩
          · rw [if_neg h4]
            by_cases h5 : q = 1
            · have h := key (Or.inr h5)
              rw [odF, if_neg h4] at h
              rw [if_pos h5]
              simp only [h4, ↓reduceIte]
              exact ⟨h1, h⟩
            · rw [if_neg (fun z => z.2.2.2.elim h4 h5)] at h
              rw [if_neg h5]
              exact h
    · rw [if_neg (fun z => h1 z.1)] at h
      rw [if_neg h1]
      exact h

theorem s_X6_odds {d : Nat} (hd : 4 ≤ d) : Snd d 86 pf_X6_odds := by
  intro args M k h
  unfold pf_X6_odds at h
  split at h
  · exact c_X6_odds hd h
  · exact h.elim
