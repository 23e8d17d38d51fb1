/-! X: a walk -/
set_option maxRecDepth 100000 in
set_option maxHeartbeats 4000000 in
theorem l_go {d : Nat} (hd : 1 ≤ d) {M : Mem} {k : Value → Mem → Prop} {p q : Nat} {kd bs g0 : Int32} (hq : q = 22 ∨ q = 33) (hal : al p = 12) (ek : M q 1 = kd) :
    ∀ (n i : Nat) (g : Int32) (r : Nat → Int32) (x5 : Value), i + n = 12 → k (.int (nI (goF kd bs n i g r).1)) (mset (mrow M p (goF kd bs n i g r).2.2) q 2 (if (goF kd bs n i g r).1 < 12 then g0 else (goF kd bs n i g r).2.1)) →
      WP (5, yX5_go, cX5_go, 6, (some .int)) (d + 1) k 24 [.ref q, .ref p, .int g0, .int bs, .int (nI i), x5] [] (mset (mrow M p r) q 2 g) := by
  have hpos : 0 < al p := by omega
  have hra := al_ra hpos
  have h90 : (p = 90) = False := eq_false (al_ne hpos al_90)
  have hpq : p ≠ q := by
    rcases hq with rfl | rfl
    · exact al_ne hpos al_22
    · exact al_ne hpos al_33
  have e1 := bq hpq
  have e2 := bq (Ne.symm hpq)
  have g1 : gf 4 1 q = some none := by rcases hq with rfl | rfl <;> rfl
  have g2 : gf 4 2 q = some none := by rcases hq with rfl | rfl <;> rfl
  intro n
  induction n with
  | zero =>
    intro i g r x5 hi h
    have : i = 12 := by omega
    subst this
    refine goV (n := 80) [(12, pf_X1_footprint), (110, pf_X6_held), (11, pf_X1_sway)] [24] (T_cons (s_X1_footprint hd) (T_cons (s_X6_held hd) (T_cons (s_X1_sway hd) T_nil))) ?_
    simp only [dX5_go_0, dX5_go_1, dX5_go_4, dX5_go_5, dX5_go_6, dX5_go_9, dX5_go_10, dX5_go_13, dX5_go_14, dX5_go_17, dX5_go_20, dX5_go_21, dX5_go_22, dX5_go_24, dX5_go_26, dX5_go_28, dX5_go_31, dX5_go_33, dX5_go_34, dX5_go_35, dX5_go_38, dX5_go_39, dX5_go_41, dX5_go_42, dX5_go_44, dX5_go_45, dX5_go_48, dX5_go_50, dX5_go_51, dX5_go_54, dX5_go_55, dX5_go_58, dX5_go_59, dX5_go_60, dX5_go_63, dX5_go_65, dX5_go_66, dX5_go_67, dX5_go_69, dX5_go_70, dX5_go_73, dX5_go_74, dX5_go_77, dX5_go_79, dX5_go_82, dX5_go_85, dX5_go_86, dX5_go_87, dX5_go_88, dX5_go_91, dX5_go_92, dX5_go_95, dX5_go_96, dX5_go_99, dX5_go_101, dX5_go_104, dX5_go_105, dX5_go_108, dX5_go_111, dX5_go_114, dX5_go_117, dX5_go_119, cr_5_44, cr_5_50, cr_5_56, cr_5_59, cr_5_62, fr_5_15, fr_5_19, fr_5_22, fr_5_25, al_10, al_11, al_12, al_13, al_14, al_16, al_17, al_18, al_19, al_2, al_20, al_21, al_23, al_24, al_27, al_28, al_29, al_3, al_30, al_31, al_32, al_34, al_36, al_37, al_38, al_39, al_4, al_40, al_41, al_42, al_43, al_45, al_46, al_47, al_48, al_49, al_5, al_52, al_53, al_54, al_55, al_56, al_57, al_58, al_6, al_60, al_61, al_62, al_63, al_64, al_65, al_66, al_67, al_69, al_7, al_70, al_71, al_72, al_73, al_9, cat_i, cat_l, cat_r, cat_u, gf_4_1_22, gf_4_1_33, gf_4_2_22, gf_4_2_33, gf_4_3_22, gf_4_3_33, gf_4_4_22, gf_4_4_33, pft_4_1, pft_4_2, pft_4_3, pft_4_4, rOK_i, rOK_z, ran_10, ran_11, ran_12, ran_13, ran_14, ran_16, ran_17, ran_18, ran_19, ran_2, ran_20, ran_21, ran_23, ran_24, ran_27, ran_28, ran_29, ran_3, ran_30, ran_31, ran_32, ran_34, ran_36, ran_37, ran_38, ran_39, ran_4, ran_40, ran_41, ran_42, ran_43, ran_45, ran_46, ran_47, ran_48, ran_49, ran_5, ran_52, ran_53, ran_54, ran_55, ran_56, ran_57, ran_58, ran_6, ran_60, ran_61, ran_62, ran_63, ran_64, ran_65, ran_66, ran_67, ran_69, ran_7, ran_70, ran_71, ran_72, ran_73, ran_9, v_aload_0, v_aload_1, v_arraylength, v_bipush_12, v_getfield, v_goto, v_iadd, v_iaload, v_iastore, v_ic_ge, v_ic_le, v_iconst_0, v_iinc_4, v_iload_2, v_iload_3, v_iload_4, v_iload_5, v_invs, v_ireturn, v_istore_2, v_istore_3, v_istore_4, v_istore_5, v_isub, v_putfield, vcS_1_2, vcS_3_1, vcS_abs, vgf_i, vgf_r, vgf_s, vln_n, vln_s, vpf_s, vc_0, vc_s, rr_0, rr_1, csT_h, csT_t, csT_n, bI_0, bI_1, bI_z, bT, List.mem_cons, List.not_mem_nil, List.length_cons, List.length_nil, ite_not, reduceIte, true_and, and_true, not_true_eq_false, not_false_eq_true, false_or, or_false, or_true, true_or, Nat.reduceAdd, Nat.reduceEqDiff, Nat.reduceBEq, Nat.reduceLeDiff, Nat.reduceLT, Nat.reduceSub, Int.reduceAdd, Int.reduceLE, Int.reduceLT, Int.reduceToNat, Int.reduceNeg, Int.reduceNatCast', reduceCtorEq, Int32.reduceOfInt, Int32.reduceOfNat, Int32.reduceToNatClampNeg, Int32.reduceToInt, i10, i01, show (12 : Int32) ≤ nI 12 from by decide]
    exact h
  | succ n ih =>
    intro i g r x5 hi h
    refine goV (n := 80) [(12, pf_X1_footprint), (110, pf_X6_held), (11, pf_X1_sway)] [24] (T_cons (s_X1_footprint hd) (T_cons (s_X6_held hd) (T_cons (s_X1_sway hd) T_nil))) ?_
    have c1 : ¬ (12 : Int32) ≤ nI i := nI_ge (b := 12) (by omega) (by decide)
    have c2 : (nI i).toInt = i := nI_toInt (by omega)
    have c3 : (nI i).toNatClampNeg = i := nI_clamp (by omega)
    simp only [dX5_go_0, dX5_go_1, dX5_go_4, dX5_go_5, dX5_go_6, dX5_go_9, dX5_go_10, dX5_go_13, dX5_go_14, dX5_go_17, dX5_go_20, dX5_go_21, dX5_go_22, dX5_go_24, dX5_go_26, dX5_go_28, dX5_go_31, dX5_go_33, dX5_go_34, dX5_go_35, dX5_go_38, dX5_go_39, dX5_go_41, dX5_go_42, dX5_go_44, dX5_go_45, dX5_go_48, dX5_go_50, dX5_go_51, dX5_go_54, dX5_go_55, dX5_go_58, dX5_go_59, dX5_go_60, dX5_go_63, dX5_go_65, dX5_go_66, dX5_go_67, dX5_go_69, dX5_go_70, dX5_go_73, dX5_go_74, dX5_go_77, dX5_go_79, dX5_go_82, dX5_go_85, dX5_go_86, dX5_go_87, dX5_go_88, dX5_go_91, dX5_go_92, dX5_go_95, dX5_go_96, dX5_go_99, dX5_go_101, dX5_go_104, dX5_go_105, dX5_go_108, dX5_go_111, dX5_go_114, dX5_go_117, dX5_go_119, cr_5_44, cr_5_50, cr_5_56, cr_5_59, cr_5_62, fr_5_15, fr_5_19, fr_5_22, fr_5_25, al_10, al_11, al_12, al_13, al_14, al_16, al_17, al_18, al_19, al_2, al_20, al_21, al_23, al_24, al_27, al_28, al_29, al_3, al_30, al_31, al_32, al_34, al_36, al_37, al_38, al_39, al_4, al_40, al_41, al_42, al_43, al_45, al_46, al_47, al_48, al_49, al_5, al_52, al_53, al_54, al_55, al_56, al_57, al_58, al_6, al_60, al_61, al_62, al_63, al_64, al_65, al_66, al_67, al_69, al_7, al_70, al_71, al_72, al_73, al_9, cat_i, cat_l, cat_r, cat_u, gf_4_1_22, gf_4_1_33, gf_4_2_22, gf_4_2_33, gf_4_3_22, gf_4_3_33, gf_4_4_22, gf_4_4_33, pft_4_1, pft_4_2, pft_4_3, pft_4_4, rOK_i, rOK_z, ran_10, ran_11, ran_12, ran_13, ran_14, ran_16, ran_17, ran_18, ran_19, ran_2, ran_20, ran_21, ran_23, ran_24, ran_27, ran_28, ran_29, ran_3, ran_30, ran_31, ran_32, ran_34, ran_36, ran_37, ran_38, ran_39, ran_4, ran_40, ran_41, ran_42, ran_43, ran_45, ran_46, ran_47, ran_48, ran_49, ran_5, ran_52, ran_53, ran_54, ran_55, ran_56, ran_57, ran_58, ran_6, ran_60, ran_61, ran_62, ran_63, ran_64, ran_65, ran_66, ran_67, ran_69, ran_7, ran_70, ran_71, ran_72, ran_73, ran_9, v_aload_0, v_aload_1, v_arraylength, v_bipush_12, v_getfield, v_goto, v_iadd, v_iaload, v_iastore, v_ic_ge, v_ic_le, v_iconst_0, v_iinc_4, v_iload_2, v_iload_3, v_iload_4, v_iload_5, v_invs, v_ireturn, v_istore_2, v_istore_3, v_istore_4, v_istore_5, v_isub, v_putfield, vcS_1_2, vcS_3_1, vcS_abs, vgf_i, vgf_r, vgf_s, vln_n, vln_s, vpf_s, vc_0, vc_s, rr_0, rr_1, csT_h, csT_t, csT_n, bI_0, bI_1, bI_z, bT, List.mem_cons, List.not_mem_nil, List.length_cons, List.length_nil, ite_not, reduceIte, true_and, and_true, not_true_eq_false, not_false_eq_true, false_or, or_false, or_true, true_or, Nat.reduceAdd, Nat.reduceEqDiff, Nat.reduceBEq, Nat.reduceLeDiff, Nat.reduceLT, Nat.reduceSub, Int.reduceAdd, Int.reduceLE, Int.reduceLT, Int.reduceToNat, Int.reduceNeg, Int.reduceNatCast', reduceCtorEq, Int32.reduceOfInt, Int32.reduceOfNat, Int32.reduceToNatClampNeg, Int32.reduceToInt, i10, i01, pe_X1_footprint, pe_X6_held, pe_X1_sway, c1, c2, c3, hra, h90, hal, g1, g2, e1, e2, mset_n, mset_s, mrow_s, mrow_n, upd_s, upd_n, ek, nI_1]
    refine ⟨by omega, ?_⟩
    have hg : goF kd bs (n + 1) i g r = if abI (g - r i) ≤ bs then goF kd bs n (i + 1) (hld (g + swy kd g (r i))) (upd r i (hld (ftp kd g (r i)))) else (i, g, r) := rfl
    rw [hg] at h
    by_cases hc : abI (g - r i) ≤ bs
    · rw [if_pos hc] at h
      rw [if_pos (show (if 0 ≤ g - r i then g - r i else 0 - (g - r i)) ≤ bs from hc)]
      refine ⟨by omega, ?_⟩
      rw [go_mem hpq]
      exact ih (i + 1) _ _ _ (by omega) h
    · rw [if_neg hc] at h
      rw [if_neg (show ¬ (if 0 ≤ g - r i then g - r i else 0 - (g - r i)) ≤ bs from hc), mset_mset]
      dsimp only at h
      rw [if_pos (show i < 12 by omega)] at h
      exact h
/-- the walk at q over the row at p -/
def goR (M : Mem) (q p : Nat) : Nat × Int32 × (Nat → Int32) := goF (M q 1) (brs (M q 1) (M q 3) (M q 4)) 12 0 (M q 2) (M p)
def goM (M : Mem) (q p : Nat) : Mem := mset (mrow M p (goR M q p).2.2) q 2 (if (goR M q p).1 < 12 then M q 2 else (goR M q p).2.1)
def pf_X5_go : PF := fun args M k => match args with
  | [.ref q, .ref p] => ((q = 22 ∨ q = 33) ∧ al p = 12) ∧ (k (.int (nI (goR M q p).1)) (goM M q p))
  | _ => False
theorem pe_X5_go {q : Nat} {p : Nat} {M : Mem} {k : Value → Mem → Prop} : pf_X5_go [.ref q, .ref p] M k = (((q = 22 ∨ q = 33) ∧ al p = 12) ∧ (k (.int (nI (goR M q p).1)) (goM M q p))) := rfl
set_option maxRecDepth 100000 in
set_option maxHeartbeats 4000000 in
theorem c_X5_go {d : Nat} (hd : 2 ≤ d) {q : Nat} {p : Nat} {M : Mem} {k : Value → Mem → Prop} (h : ((q = 22 ∨ q = 33) ∧ al p = 12) ∧ (k (.int (nI (goR M q p).1)) (goM M q p))) : CallP d 54 [.ref q, .ref p] M k := by
  obtain ⟨hp, h⟩ := h
  obtain ⟨d, rfl⟩ : ∃ d', d = d' + 1 := ⟨d - 1, by omega⟩
  obtain ⟨hq, hal⟩ := hp
  have g1 : gf 4 1 q = some none := by rcases hq with rfl | rfl <;> rfl
  have g2 : gf 4 2 q = some none := by rcases hq with rfl | rfl <;> rfl
  have g3 : gf 4 3 q = some none := by rcases hq with rfl | rfl <;> rfl
  have g4 : gf 4 4 q = some none := by rcases hq with rfl | rfl <;> rfl
  refine enterV (n := 80) [(10, pf_X1_bears)] [24] mI_54 (by decide) (Nat.le_of_ble_eq_true rfl) (T_cons (s_X1_bears (by omega)) T_nil) ?_
  rw [show lent 6 ([.ref q, .ref p] : List Value) = [.ref q, .ref p, .retAddr 0, .retAddr 0, .retAddr 0, .retAddr 0] from rfl]
  simp only [dX5_go_0, dX5_go_1, dX5_go_4, dX5_go_5, dX5_go_6, dX5_go_9, dX5_go_10, dX5_go_13, dX5_go_14, dX5_go_17, dX5_go_20, dX5_go_21, dX5_go_22, dX5_go_24, dX5_go_26, dX5_go_28, dX5_go_31, dX5_go_33, dX5_go_34, dX5_go_35, dX5_go_38, dX5_go_39, dX5_go_41, dX5_go_42, dX5_go_44, dX5_go_45, dX5_go_48, dX5_go_50, dX5_go_51, dX5_go_54, dX5_go_55, dX5_go_58, dX5_go_59, dX5_go_60, dX5_go_63, dX5_go_65, dX5_go_66, dX5_go_67, dX5_go_69, dX5_go_70, dX5_go_73, dX5_go_74, dX5_go_77, dX5_go_79, dX5_go_82, dX5_go_85, dX5_go_86, dX5_go_87, dX5_go_88, dX5_go_91, dX5_go_92, dX5_go_95, dX5_go_96, dX5_go_99, dX5_go_101, dX5_go_104, dX5_go_105, dX5_go_108, dX5_go_111, dX5_go_114, dX5_go_117, dX5_go_119, cr_5_44, cr_5_50, cr_5_56, cr_5_59, cr_5_62, fr_5_15, fr_5_19, fr_5_22, fr_5_25, al_10, al_11, al_12, al_13, al_14, al_16, al_17, al_18, al_19, al_2, al_20, al_21, al_23, al_24, al_27, al_28, al_29, al_3, al_30, al_31, al_32, al_34, al_36, al_37, al_38, al_39, al_4, al_40, al_41, al_42, al_43, al_45, al_46, al_47, al_48, al_49, al_5, al_52, al_53, al_54, al_55, al_56, al_57, al_58, al_6, al_60, al_61, al_62, al_63, al_64, al_65, al_66, al_67, al_69, al_7, al_70, al_71, al_72, al_73, al_9, cat_i, cat_l, cat_r, cat_u, gf_4_1_22, gf_4_1_33, gf_4_2_22, gf_4_2_33, gf_4_3_22, gf_4_3_33, gf_4_4_22, gf_4_4_33, pft_4_1, pft_4_2, pft_4_3, pft_4_4, rOK_i, rOK_z, ran_10, ran_11, ran_12, ran_13, ran_14, ran_16, ran_17, ran_18, ran_19, ran_2, ran_20, ran_21, ran_23, ran_24, ran_27, ran_28, ran_29, ran_3, ran_30, ran_31, ran_32, ran_34, ran_36, ran_37, ran_38, ran_39, ran_4, ran_40, ran_41, ran_42, ran_43, ran_45, ran_46, ran_47, ran_48, ran_49, ran_5, ran_52, ran_53, ran_54, ran_55, ran_56, ran_57, ran_58, ran_6, ran_60, ran_61, ran_62, ran_63, ran_64, ran_65, ran_66, ran_67, ran_69, ran_7, ran_70, ran_71, ran_72, ran_73, ran_9, v_aload_0, v_aload_1, v_arraylength, v_bipush_12, v_getfield, v_goto, v_iadd, v_iaload, v_iastore, v_ic_ge, v_ic_le, v_iconst_0, v_iinc_4, v_iload_2, v_iload_3, v_iload_4, v_iload_5, v_invs, v_ireturn, v_istore_2, v_istore_3, v_istore_4, v_istore_5, v_isub, v_putfield, vcS_1_2, vcS_3_1, vcS_abs, vgf_i, vgf_r, vgf_s, vln_n, vln_s, vpf_s, vc_0, vc_s, rr_0, rr_1, csT_h, csT_t, csT_n, bI_0, bI_1, bI_z, bT, List.mem_cons, List.not_mem_nil, List.length_cons, List.length_nil, ite_not, reduceIte, true_and, and_true, not_true_eq_false, not_false_eq_true, false_or, or_false, or_true, true_or, Nat.reduceAdd, Nat.reduceEqDiff, Nat.reduceBEq, Nat.reduceLeDiff, Nat.reduceLT, Nat.reduceSub, Int.reduceAdd, Int.reduceLE, Int.reduceLT, Int.reduceToNat, Int.reduceNeg, Int.reduceNatCast', reduceCtorEq, Int32.reduceOfInt, Int32.reduceOfNat, Int32.reduceToNatClampNeg, Int32.reduceToInt, i10, i01, pe_X1_bears, g1, g2, g3, g4]
  have hpq : p ≠ q := by
    have hpos : 0 < al p := by omega
    rcases hq with rfl | rfl
    · exact al_ne hpos al_22
    · exact al_ne hpos al_33
  have := l_go (d := d) (by omega) (k := k) (g0 := M q 2) (bs := brs (M q 1) (M q 3) (M q 4)) hq hal (rfl : M q 1 = M q 1) 12 0 (M q 2) (M p) (.retAddr 0) rfl h
  rw [go_mem0 hpq] at this
  exact this
theorem s_X5_go {d : Nat} (hd : 2 ≤ d) : Snd d 54 pf_X5_go := by
  intro args M k h
  unfold pf_X5_go at h
  split at h
  · exact c_X5_go hd h
  · exact h.elim
def wbM (M : Mem) (q b : Nat) (w : Int32) : Mem := mset (mset (mset (mset M q 1 (M (b + 2) (w).toNatClampNeg)) q 2 (M (b + 3) (w).toNatClampNeg)) q 3 (M (b + 4) (w).toNatClampNeg)) q 4 (M b 7)
def pf_X5_become : PF := fun args M k => match args with
  | [.ref q, .ref b, .int w] => (((q = 22 ∧ b = 1) ∨ (q = 33 ∧ b = 26)) ∧ hasW M b w) ∧ (k (.int 0) (wbM M q b w))
  | _ => False
theorem pe_X5_become {q : Nat} {b : Nat} {w : Int32} {M : Mem} {k : Value → Mem → Prop} : pf_X5_become [.ref q, .ref b, .int w] M k = ((((q = 22 ∧ b = 1) ∨ (q = 33 ∧ b = 26)) ∧ hasW M b w) ∧ (k (.int 0) (wbM M q b w))) := rfl
set_option maxRecDepth 100000 in
set_option maxHeartbeats 4000000 in
theorem c_X5_become {d : Nat} (hd : 2 ≤ d) {q : Nat} {b : Nat} {w : Int32} {M : Mem} {k : Value → Mem → Prop} (h : (((q = 22 ∧ b = 1) ∨ (q = 33 ∧ b = 26)) ∧ hasW M b w) ∧ (k (.int 0) (wbM M q b w))) : CallP d 52 [.ref q, .ref b, .int w] M k := by
  obtain ⟨hp, h⟩ := h
  obtain ⟨d, rfl⟩ : ∃ d', d = d' + 1 := ⟨d - 1, by omega⟩
  obtain ⟨hp, h1, h2, h3⟩ := hp
  rcases hp with ⟨rfl, rfl⟩ | ⟨rfl, rfl⟩
  · refine enterV (n := 80) [(2, pf_X0_has)] [] mI_52 (by decide) (Nat.le_of_ble_eq_true rfl) (T_cons (s_X0_has (by omega)) T_nil) ?_
    rw [show lent 3 ([.ref 22, .ref 1, .int w] : List Value) = [.ref 22, .ref 1, .int w] from rfl]
    simp only [dX5_become_0, dX5_become_1, dX5_become_2, dX5_become_5, dX5_become_8, dX5_become_9, dX5_become_10, dX5_become_13, dX5_become_14, dX5_become_15, dX5_become_18, dX5_become_19, dX5_become_20, dX5_become_23, dX5_become_24, dX5_become_25, dX5_become_28, dX5_become_29, dX5_become_30, dX5_become_33, dX5_become_34, dX5_become_35, dX5_become_38, dX5_become_39, dX5_become_40, dX5_become_43, dX5_become_46, cr_5_28, fr_5_15, fr_5_19, fr_5_22, fr_5_25, fr_5_34, fr_5_37, fr_5_40, fr_5_43, al_10, al_11, al_12, al_13, al_14, al_16, al_17, al_18, al_19, al_2, al_20, al_21, al_23, al_24, al_27, al_28, al_29, al_3, al_30, al_31, al_32, al_34, al_36, al_37, al_38, al_39, al_4, al_40, al_41, al_42, al_43, al_45, al_46, al_47, al_48, al_49, al_5, al_52, al_53, al_54, al_55, al_56, al_57, al_58, al_6, al_60, al_61, al_62, al_63, al_64, al_65, al_66, al_67, al_69, al_7, al_70, al_71, al_72, al_73, al_9, gf_0_1_1, gf_0_1_15, gf_0_1_26, gf_0_1_8, gf_0_2_1, gf_0_2_15, gf_0_2_26, gf_0_2_8, gf_0_3_1, gf_0_3_15, gf_0_3_26, gf_0_3_8, gf_0_7_1, gf_0_7_15, gf_0_7_26, gf_0_7_8, gf_4_1_22, gf_4_1_33, gf_4_2_22, gf_4_2_33, gf_4_3_22, gf_4_3_33, gf_4_4_22, gf_4_4_33, pcl_0, pcl_1, pcl_100, pcl_101, pcl_102, pcl_103, pcl_104, pcl_105, pcl_106, pcl_107, pcl_108, pcl_109, pcl_110, pcl_111, pcl_112, pcl_15, pcl_22, pcl_25, pcl_26, pcl_33, pcl_44, pcl_50, pcl_59, pcl_8, pft_0_7, pft_4_1, pft_4_2, pft_4_3, pft_4_4, v_aload_0, v_aload_1, v_getfield, v_iaload, v_if_eq, v_iload_2, v_invv, v_putfield, v_return, vcV_2_0, vgf_i, vgf_r, vgf_s, vpf_s, vc_0, vc_s, rr_0, rr_1, csT_h, csT_t, csT_n, bI_0, bI_1, bI_z, bT, List.mem_cons, List.not_mem_nil, List.length_cons, List.length_nil, ite_not, reduceIte, true_and, and_true, not_true_eq_false, not_false_eq_true, false_or, or_false, or_true, true_or, Nat.reduceAdd, Nat.reduceEqDiff, Nat.reduceBEq, Nat.reduceLeDiff, Nat.reduceLT, Nat.reduceSub, Int.reduceAdd, Int.reduceLE, Int.reduceLT, Int.reduceToNat, Int.reduceNeg, Int.reduceNatCast', reduceCtorEq, Int32.reduceOfInt, Int32.reduceOfNat, Int32.reduceToNatClampNeg, Int32.reduceToInt, i10, i01, pe_X0_has, h1, h2, h3, BR, hasW, mset_n, mset_s, mrow_s, mrow_n]
    exact ⟨bd h1 h3 rfl, bd h1 h3 rfl, bd h1 h3 rfl, h⟩
  · refine enterV (n := 80) [(2, pf_X0_has)] [] mI_52 (by decide) (Nat.le_of_ble_eq_true rfl) (T_cons (s_X0_has (by omega)) T_nil) ?_
    rw [show lent 3 ([.ref 33, .ref 26, .int w] : List Value) = [.ref 33, .ref 26, .int w] from rfl]
    simp only [dX5_become_0, dX5_become_1, dX5_become_2, dX5_become_5, dX5_become_8, dX5_become_9, dX5_become_10, dX5_become_13, dX5_become_14, dX5_become_15, dX5_become_18, dX5_become_19, dX5_become_20, dX5_become_23, dX5_become_24, dX5_become_25, dX5_become_28, dX5_become_29, dX5_become_30, dX5_become_33, dX5_become_34, dX5_become_35, dX5_become_38, dX5_become_39, dX5_become_40, dX5_become_43, dX5_become_46, cr_5_28, fr_5_15, fr_5_19, fr_5_22, fr_5_25, fr_5_34, fr_5_37, fr_5_40, fr_5_43, al_10, al_11, al_12, al_13, al_14, al_16, al_17, al_18, al_19, al_2, al_20, al_21, al_23, al_24, al_27, al_28, al_29, al_3, al_30, al_31, al_32, al_34, al_36, al_37, al_38, al_39, al_4, al_40, al_41, al_42, al_43, al_45, al_46, al_47, al_48, al_49, al_5, al_52, al_53, al_54, al_55, al_56, al_57, al_58, al_6, al_60, al_61, al_62, al_63, al_64, al_65, al_66, al_67, al_69, al_7, al_70, al_71, al_72, al_73, al_9, gf_0_1_1, gf_0_1_15, gf_0_1_26, gf_0_1_8, gf_0_2_1, gf_0_2_15, gf_0_2_26, gf_0_2_8, gf_0_3_1, gf_0_3_15, gf_0_3_26, gf_0_3_8, gf_0_7_1, gf_0_7_15, gf_0_7_26, gf_0_7_8, gf_4_1_22, gf_4_1_33, gf_4_2_22, gf_4_2_33, gf_4_3_22, gf_4_3_33, gf_4_4_22, gf_4_4_33, pcl_0, pcl_1, pcl_100, pcl_101, pcl_102, pcl_103, pcl_104, pcl_105, pcl_106, pcl_107, pcl_108, pcl_109, pcl_110, pcl_111, pcl_112, pcl_15, pcl_22, pcl_25, pcl_26, pcl_33, pcl_44, pcl_50, pcl_59, pcl_8, pft_0_7, pft_4_1, pft_4_2, pft_4_3, pft_4_4, v_aload_0, v_aload_1, v_getfield, v_iaload, v_if_eq, v_iload_2, v_invv, v_putfield, v_return, vcV_2_0, vgf_i, vgf_r, vgf_s, vpf_s, vc_0, vc_s, rr_0, rr_1, csT_h, csT_t, csT_n, bI_0, bI_1, bI_z, bT, List.mem_cons, List.not_mem_nil, List.length_cons, List.length_nil, ite_not, reduceIte, true_and, and_true, not_true_eq_false, not_false_eq_true, false_or, or_false, or_true, true_or, Nat.reduceAdd, Nat.reduceEqDiff, Nat.reduceBEq, Nat.reduceLeDiff, Nat.reduceLT, Nat.reduceSub, Int.reduceAdd, Int.reduceLE, Int.reduceLT, Int.reduceToNat, Int.reduceNeg, Int.reduceNatCast', reduceCtorEq, Int32.reduceOfInt, Int32.reduceOfNat, Int32.reduceToNatClampNeg, Int32.reduceToInt, i10, i01, pe_X0_has, h1, h2, h3, BR, hasW, mset_n, mset_s, mrow_s, mrow_n]
    exact ⟨bd h1 h3 rfl, bd h1 h3 rfl, bd h1 h3 rfl, h⟩
theorem s_X5_become {d : Nat} (hd : 2 ≤ d) : Snd d 52 pf_X5_become := by
  intro args M k h
  unfold pf_X5_become at h
  split at h
  · exact c_X5_become hd h
  · exact h.elim
set_option maxRecDepth 100000 in
set_option maxHeartbeats 4000000 in
theorem l_layRow {d : Nat} {M : Mem} {k : Value → Mem → Prop} (h : k (.int 0) (mrow M 23 (cpN 12 (M 2) (M 23)))) : ∀ (n i : Nat), i + n = 12 → WP (5, yX5_layRow, cX5_layRow, 3, none) (d + 1) k 2 [.ref 22, .ref 2, .int (nI i)] [] (mrow M 23 (cpN i (M 2) (M 23))) := by
  intro n
  induction n with
  | zero =>
    intro i hi
    have : i = 12 := by omega
    subst this
    refine goV (n := 80) [] [2] T_nil ?_
    simp only [dX5_layRow_0, dX5_layRow_1, dX5_layRow_2, dX5_layRow_3, dX5_layRow_5, dX5_layRow_8, dX5_layRow_9, dX5_layRow_10, dX5_layRow_11, dX5_layRow_14, dX5_layRow_15, dX5_layRow_18, dX5_layRow_19, dX5_layRow_20, dX5_layRow_21, dX5_layRow_22, dX5_layRow_23, dX5_layRow_26, dX5_layRow_29, fr_5_9, al_10, al_11, al_12, al_13, al_14, al_16, al_17, al_18, al_19, al_2, al_20, al_21, al_23, al_24, al_27, al_28, al_29, al_3, al_30, al_31, al_32, al_34, al_36, al_37, al_38, al_39, al_4, al_40, al_41, al_42, al_43, al_45, al_46, al_47, al_48, al_49, al_5, al_52, al_53, al_54, al_55, al_56, al_57, al_58, al_6, al_60, al_61, al_62, al_63, al_64, al_65, al_66, al_67, al_69, al_7, al_70, al_71, al_72, al_73, al_9, cat_i, cat_l, cat_r, cat_u, gf_4_0_22, gf_4_0_33, ran_10, ran_11, ran_12, ran_13, ran_14, ran_16, ran_17, ran_18, ran_19, ran_2, ran_20, ran_21, ran_23, ran_24, ran_27, ran_28, ran_29, ran_3, ran_30, ran_31, ran_32, ran_34, ran_36, ran_37, ran_38, ran_39, ran_4, ran_40, ran_41, ran_42, ran_43, ran_45, ran_46, ran_47, ran_48, ran_49, ran_5, ran_52, ran_53, ran_54, ran_55, ran_56, ran_57, ran_58, ran_6, ran_60, ran_61, ran_62, ran_63, ran_64, ran_65, ran_66, ran_67, ran_69, ran_7, ran_70, ran_71, ran_72, ran_73, ran_9, v_aload_0, v_aload_1, v_arraylength, v_bipush_12, v_getfield, v_goto, v_iaload, v_iastore, v_ic_ge, v_iconst_0, v_iinc_2, v_iload_2, v_istore_2, v_return, vgf_i, vgf_r, vgf_s, vln_n, vln_s, vc_0, vc_s, rr_0, rr_1, csT_h, csT_t, csT_n, bI_0, bI_1, bI_z, bT, List.mem_cons, List.not_mem_nil, List.length_cons, List.length_nil, ite_not, reduceIte, true_and, and_true, not_true_eq_false, not_false_eq_true, false_or, or_false, or_true, true_or, Nat.reduceAdd, Nat.reduceEqDiff, Nat.reduceBEq, Nat.reduceLeDiff, Nat.reduceLT, Nat.reduceSub, Int.reduceAdd, Int.reduceLE, Int.reduceLT, Int.reduceToNat, Int.reduceNeg, Int.reduceNatCast', reduceCtorEq, Int32.reduceOfInt, Int32.reduceOfNat, Int32.reduceToNatClampNeg, Int32.reduceToInt, i10, i01, show (12 : Int32) ≤ nI 12 from by decide]
    exact h
  | succ n ih =>
    intro i hi
    refine goV (n := 80) [] [2] T_nil ?_
    have c1 : ¬ (12 : Int32) ≤ nI i := nI_ge (b := 12) (by omega) (by decide)
    have c2 : (nI i).toInt = i := nI_toInt (by omega)
    have c3 : (nI i).toNatClampNeg = i := nI_clamp (by omega)
    simp only [dX5_layRow_0, dX5_layRow_1, dX5_layRow_2, dX5_layRow_3, dX5_layRow_5, dX5_layRow_8, dX5_layRow_9, dX5_layRow_10, dX5_layRow_11, dX5_layRow_14, dX5_layRow_15, dX5_layRow_18, dX5_layRow_19, dX5_layRow_20, dX5_layRow_21, dX5_layRow_22, dX5_layRow_23, dX5_layRow_26, dX5_layRow_29, fr_5_9, al_10, al_11, al_12, al_13, al_14, al_16, al_17, al_18, al_19, al_2, al_20, al_21, al_23, al_24, al_27, al_28, al_29, al_3, al_30, al_31, al_32, al_34, al_36, al_37, al_38, al_39, al_4, al_40, al_41, al_42, al_43, al_45, al_46, al_47, al_48, al_49, al_5, al_52, al_53, al_54, al_55, al_56, al_57, al_58, al_6, al_60, al_61, al_62, al_63, al_64, al_65, al_66, al_67, al_69, al_7, al_70, al_71, al_72, al_73, al_9, cat_i, cat_l, cat_r, cat_u, gf_4_0_22, gf_4_0_33, ran_10, ran_11, ran_12, ran_13, ran_14, ran_16, ran_17, ran_18, ran_19, ran_2, ran_20, ran_21, ran_23, ran_24, ran_27, ran_28, ran_29, ran_3, ran_30, ran_31, ran_32, ran_34, ran_36, ran_37, ran_38, ran_39, ran_4, ran_40, ran_41, ran_42, ran_43, ran_45, ran_46, ran_47, ran_48, ran_49, ran_5, ran_52, ran_53, ran_54, ran_55, ran_56, ran_57, ran_58, ran_6, ran_60, ran_61, ran_62, ran_63, ran_64, ran_65, ran_66, ran_67, ran_69, ran_7, ran_70, ran_71, ran_72, ran_73, ran_9, v_aload_0, v_aload_1, v_arraylength, v_bipush_12, v_getfield, v_goto, v_iaload, v_iastore, v_ic_ge, v_iconst_0, v_iinc_2, v_iload_2, v_istore_2, v_return, vgf_i, vgf_r, vgf_s, vln_n, vln_s, vc_0, vc_s, rr_0, rr_1, csT_h, csT_t, csT_n, bI_0, bI_1, bI_z, bT, List.mem_cons, List.not_mem_nil, List.length_cons, List.length_nil, ite_not, reduceIte, true_and, and_true, not_true_eq_false, not_false_eq_true, false_or, or_false, or_true, true_or, Nat.reduceAdd, Nat.reduceEqDiff, Nat.reduceBEq, Nat.reduceLeDiff, Nat.reduceLT, Nat.reduceSub, Int.reduceAdd, Int.reduceLE, Int.reduceLT, Int.reduceToNat, Int.reduceNeg, Int.reduceNatCast', reduceCtorEq, Int32.reduceOfInt, Int32.reduceOfNat, Int32.reduceToNatClampNeg, Int32.reduceToInt, i10, i01, c1, c2, c3, nI_1, mset, mrow_s, mrow_n, mrow_mrow, cpN_s]
    exact ⟨by omega, by omega, ih (i + 1) (by omega)⟩
def pf_X5_layRow : PF := fun args M k => match args with
  | [.ref q, .ref p] => (q = 22 ∧ p = 2) ∧ (k (.int 0) (mrow M 23 (cpN 12 (M 2) (M 23))))
  | _ => False
theorem pe_X5_layRow {q : Nat} {p : Nat} {M : Mem} {k : Value → Mem → Prop} : pf_X5_layRow [.ref q, .ref p] M k = ((q = 22 ∧ p = 2) ∧ (k (.int 0) (mrow M 23 (cpN 12 (M 2) (M 23))))) := rfl
set_option maxRecDepth 100000 in
set_option maxHeartbeats 4000000 in
theorem c_X5_layRow {d : Nat} (hd : 1 ≤ d) {q : Nat} {p : Nat} {M : Mem} {k : Value → Mem → Prop} (h : (q = 22 ∧ p = 2) ∧ (k (.int 0) (mrow M 23 (cpN 12 (M 2) (M 23))))) : CallP d 53 [.ref q, .ref p] M k := by
  obtain ⟨hp, h⟩ := h
  obtain ⟨d, rfl⟩ : ∃ d', d = d' + 1 := ⟨d - 1, by omega⟩
  obtain ⟨rfl, rfl⟩ := hp
  refine enterV (n := 80) [] [2] mI_53 (by decide) (Nat.le_of_ble_eq_true rfl) T_nil ?_
  rw [show lent 3 ([.ref 22, .ref 2] : List Value) = [.ref 22, .ref 2, .retAddr 0] from rfl]
  simp only [dX5_layRow_0, dX5_layRow_1, dX5_layRow_2, dX5_layRow_3, dX5_layRow_5, dX5_layRow_8, dX5_layRow_9, dX5_layRow_10, dX5_layRow_11, dX5_layRow_14, dX5_layRow_15, dX5_layRow_18, dX5_layRow_19, dX5_layRow_20, dX5_layRow_21, dX5_layRow_22, dX5_layRow_23, dX5_layRow_26, dX5_layRow_29, fr_5_9, al_10, al_11, al_12, al_13, al_14, al_16, al_17, al_18, al_19, al_2, al_20, al_21, al_23, al_24, al_27, al_28, al_29, al_3, al_30, al_31, al_32, al_34, al_36, al_37, al_38, al_39, al_4, al_40, al_41, al_42, al_43, al_45, al_46, al_47, al_48, al_49, al_5, al_52, al_53, al_54, al_55, al_56, al_57, al_58, al_6, al_60, al_61, al_62, al_63, al_64, al_65, al_66, al_67, al_69, al_7, al_70, al_71, al_72, al_73, al_9, cat_i, cat_l, cat_r, cat_u, gf_4_0_22, gf_4_0_33, ran_10, ran_11, ran_12, ran_13, ran_14, ran_16, ran_17, ran_18, ran_19, ran_2, ran_20, ran_21, ran_23, ran_24, ran_27, ran_28, ran_29, ran_3, ran_30, ran_31, ran_32, ran_34, ran_36, ran_37, ran_38, ran_39, ran_4, ran_40, ran_41, ran_42, ran_43, ran_45, ran_46, ran_47, ran_48, ran_49, ran_5, ran_52, ran_53, ran_54, ran_55, ran_56, ran_57, ran_58, ran_6, ran_60, ran_61, ran_62, ran_63, ran_64, ran_65, ran_66, ran_67, ran_69, ran_7, ran_70, ran_71, ran_72, ran_73, ran_9, v_aload_0, v_aload_1, v_arraylength, v_bipush_12, v_getfield, v_goto, v_iaload, v_iastore, v_ic_ge, v_iconst_0, v_iinc_2, v_iload_2, v_istore_2, v_return, vgf_i, vgf_r, vgf_s, vln_n, vln_s, vc_0, vc_s, rr_0, rr_1, csT_h, csT_t, csT_n, bI_0, bI_1, bI_z, bT, List.mem_cons, List.not_mem_nil, List.length_cons, List.length_nil, ite_not, reduceIte, true_and, and_true, not_true_eq_false, not_false_eq_true, false_or, or_false, or_true, true_or, Nat.reduceAdd, Nat.reduceEqDiff, Nat.reduceBEq, Nat.reduceLeDiff, Nat.reduceLT, Nat.reduceSub, Int.reduceAdd, Int.reduceLE, Int.reduceLT, Int.reduceToNat, Int.reduceNeg, Int.reduceNatCast', reduceCtorEq, Int32.reduceOfInt, Int32.reduceOfNat, Int32.reduceToNatClampNeg, Int32.reduceToInt, i10, i01]
  have := l_layRow (d := d) h 12 0 rfl
  rw [cpN_0, mrow_self] at this
  exact this
theorem s_X5_layRow {d : Nat} (hd : 1 ≤ d) : Snd d 53 pf_X5_layRow := by
  intro args M k h
  unfold pf_X5_layRow at h
  split at h
  · exact c_X5_layRow hd h
  · exact h.elim
