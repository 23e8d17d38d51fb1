/-! M: a crossing -/
/-- a row with other planks -/
def rwQ (r ps : Nat → Int32) : Nat → Int32 := fun j => if 14 ≤ j ∧ j < 26 then ps (j - 14) else r j
theorem rwQ_in {r ps : Nat → Int32} {t : Nat} (h : t < 12) : rwQ r ps (14 + t) = ps t := by
  unfold rwQ
  rw [if_pos (by omega), show 14 + t - 14 = t by omega]
theorem rwQ_out {r ps : Nat → Int32} {j : Nat} (h : j < 14 ∨ 26 ≤ j) : rwQ r ps j = r j := by
  unfold rwQ
  rw [if_neg (by omega)]
theorem rwQ_self {r : Nat → Int32} : rwQ r (plr r) = r := by
  funext j
  unfold rwQ plr
  split
  · rw [show 14 + (j - 14) = j by omega]
  · rfl
theorem rwQ_w {r ps : Nat → Int32} {i f : Nat} : rwQ r ps (wf i f) = r (wf i f) := rwQ_out (by unfold wf; omega)
theorem un {f : Nat → Int32} {k j : Nat} {x : Int32} (h : j ≠ k) : upd f k x j = f j := if_neg h
theorem upd_self {f : Nat → Int32} {k : Nat} : upd f k (f k) = f := by
  funext j
  unfold upd
  split
  · rename_i e; rw [e]
  · rfl
theorem rwQ_upd {r ps : Nat → Int32} {i t : Nat} {g g' v : Int32} (ht : t < 12) : upd (upd (upd (rwQ r ps) (wf i 1) g) (wf i 1) g') (14 + t) v = upd (rwQ r (upd ps t v)) (wf i 1) g' := by
  funext j
  have hw : 26 ≤ wf i 1 := by unfold wf; omega
  unfold upd rwQ
  by_cases h1 : j = 14 + t
  · subst h1
    have h2 : ¬ 14 + t = wf i 1 := by omega
    simp [h2, ht]
    intro h
    omega
  · by_cases h2 : j = wf i 1
    · subst h2
      simp [h1]
    · simp only [h1, h2, if_false]
      by_cases h3 : 14 ≤ j ∧ j < 26
      · simp only [h3, and_self, if_true]
        rw [if_neg (by omega)]
      · simp only [h3, if_false]
/-- a crossing in the model: the plank, the gait, the planks -/
def mwk (kd bl nt g : Int32) (r : Nat → Int32) : Nat × Int32 × (Nat → Int32) := goF (nk kd) (brs kd bl nt) 12 0 g r
def crx (r : Nat → Int32) (i : Nat) : Nat × Int32 × (Nat → Int32) := mwk (r (wf i 0)) (r (wf i 2)) (r 3) (r (wf i 1)) (plr r)
/-- the row behind a crossing -/
def crr (r : Nat → Int32) (i : Nat) : Nat → Int32 := upd (if (crx r i).1 < 12 then upd (rwQ r (crx r i).2.2) (wf i 3) (mn9 (r (wf i 3) + 1)) else upd (rwQ r (crx r i).2.2) (wf i 1) (crx r i).2.1) 0 (r 0 + 1)
set_option maxRecDepth 100000 in
set_option maxHeartbeats 4000000 in
theorem lp_crosses {d : Nat} (hd : 5 ≤ d) {M : Mem} {k : Value → Mem → Prop} {r : Nat → Int32} {i : Nat} (hi : i < 6)
    (hk : ∀ (x5 x6 : Value) (t : Nat) (g : Int32) (ps : Nat → Int32), t ≤ 12 → x5.category = 1 → (t, g, ps) = crx r i → WP (7, yX7_crosses, cX7_crosses, 7, (some .int)) (d + 1) k 105 [.ref 59, .int (nI i), .int (r (wf i 0)), .int (r (wf i 1)), .int (nI t), x5, x6] [] (mrow M 60 (upd (rwQ r ps) (wf i 1) g))) :
    ∀ (n t : Nat) (g : Int32) (ps : Nat → Int32) (x5 x6 : Value), t + n = 12 → x5.category = 1 → goF (nk (r (wf i 0))) (brs (r (wf i 0)) (r (wf i 2)) (r 3)) n t g ps = crx r i → WP (7, yX7_crosses, cX7_crosses, 7, (some .int)) (d + 1) k 17 [.ref 59, .int (nI i), .int (r (wf i 0)), .int (r (wf i 1)), .int (nI t), x5, x6] [] (mrow M 60 (upd (rwQ r ps) (wf i 1) g)) := by
  have ci : (nI i).toNatClampNeg = i := nI_clamp (by omega)
  have ho : wOK (nI i) := nOK hi
  have q1 := wf_c hi (f := 1) (by decide)
  have q2 := wf_t hi (f := 1) (by decide)
  have n01 : wf i 0 ≠ wf i 1 := by unfold wf; omega
  have n21 : wf i 2 ≠ wf i 1 := by unfold wf; omega
  have n31 : 3 ≠ wf i 1 := by unfold wf; omega
  intro n
  induction n with
  | zero =>
    intro t g ps x5 x6 ht h5 hg
    have : t = 12 := by omega
    subst this
    refine goV (n := 80) [] [17, 105] T_nil ?_
    simp only [dX7_crosses_0, dX7_crosses_1, dX7_crosses_2, dX7_crosses_3, dX7_crosses_6, dX7_crosses_7, dX7_crosses_8, dX7_crosses_9, dX7_crosses_10, dX7_crosses_13, dX7_crosses_14, dX7_crosses_15, dX7_crosses_17, dX7_crosses_19, dX7_crosses_21, dX7_crosses_24, dX7_crosses_25, dX7_crosses_26, dX7_crosses_28, dX7_crosses_31, dX7_crosses_34, dX7_crosses_35, dX7_crosses_36, dX7_crosses_37, dX7_crosses_40, dX7_crosses_42, dX7_crosses_43, dX7_crosses_46, dX7_crosses_48, dX7_crosses_50, dX7_crosses_51, dX7_crosses_52, dX7_crosses_54, dX7_crosses_55, dX7_crosses_58, dX7_crosses_59, dX7_crosses_60, dX7_crosses_63, dX7_crosses_65, dX7_crosses_66, dX7_crosses_68, dX7_crosses_70, dX7_crosses_73, dX7_crosses_74, dX7_crosses_77, dX7_crosses_78, dX7_crosses_79, dX7_crosses_82, dX7_crosses_84, dX7_crosses_86, dX7_crosses_87, dX7_crosses_88, dX7_crosses_90, dX7_crosses_92, dX7_crosses_95, dX7_crosses_98, dX7_crosses_99, dX7_crosses_102, dX7_crosses_105, dX7_crosses_107, dX7_crosses_109, dX7_crosses_112, dX7_crosses_113, dX7_crosses_116, dX7_crosses_117, dX7_crosses_118, dX7_crosses_121, dX7_crosses_122, dX7_crosses_123, dX7_crosses_124, dX7_crosses_127, dX7_crosses_128, dX7_crosses_129, dX7_crosses_132, dX7_crosses_135, dX7_crosses_136, dX7_crosses_137, dX7_crosses_138, dX7_crosses_141, dX7_crosses_142, dX7_crosses_143, dX7_crosses_146, dX7_crosses_147, dX7_crosses_148, dX7_crosses_151, dX7_crosses_152, dX7_crosses_153, dX7_crosses_154, dX7_crosses_155, dX7_crosses_156, dX7_crosses_157, dX7_crosses_159, cr_7_113, cr_7_122, cr_7_135, cr_7_138, cr_7_141, cr_7_79, cr_7_92, fr_7_9, al_10, al_11, al_12, al_13, al_14, al_16, al_17, al_18, al_19, al_2, al_20, al_21, al_23, al_24, al_27, al_28, al_29, al_3, al_30, al_31, al_32, al_34, al_36, al_37, al_38, al_39, al_4, al_40, al_41, al_42, al_43, al_45, al_46, al_47, al_48, al_49, al_5, al_52, al_53, al_54, al_55, al_56, al_57, al_58, al_6, al_60, al_61, al_62, al_63, al_64, al_65, al_66, al_67, al_69, al_7, al_70, al_71, al_72, al_73, al_9, cat_i, cat_l, cat_r, cat_u, gf_6_0_59, pcl_0, pcl_1, pcl_100, pcl_101, pcl_102, pcl_103, pcl_104, pcl_105, pcl_106, pcl_107, pcl_108, pcl_109, pcl_110, pcl_111, pcl_112, pcl_15, pcl_22, pcl_25, pcl_26, pcl_33, pcl_44, pcl_50, pcl_59, pcl_8, rOK_i, rOK_z, v_aload_0, v_bipush_12, v_bipush_14, v_dup2, v_getfield, v_goto, v_iadd, v_iaload, v_iastore, v_ic_ge, v_iconst_0, v_iconst_1, v_iconst_3, v_if_ne, v_iinc_4, v_iload_1, v_iload_2, v_iload_3, v_iload_4, v_iload_5, v_iload_6, v_invs, v_invv, v_ireturn, v_istore_2, v_istore_3, v_istore_4, v_istore_5, v_istore_6, v_sipush_9999, vcS_1_1, vcS_2_1, vcS_3_1, vcS_min, vcV_3_6, vgf_i, vgf_r, vgf_s, vc_d, rr_0, rr_1, csT_h, csT_t, csT_n, bI_0, bI_1, bI_z, bT, List.mem_cons, List.not_mem_nil, List.length_cons, List.length_nil, ite_not, ↓reduceIte, true_and, and_true, not_true_eq_false, not_false_eq_true, false_or, or_false, or_true, true_or, Nat.reduceAdd, Nat.reduceEqDiff, Nat.reduceBEq, Nat.reduceLeDiff, Nat.reduceLT, Nat.reduceSub, Int.reduceAdd, Int.reduceLE, Int.reduceLT, Int.reduceToNat, Int.reduceNeg, Int.reduceNatCast', reduceCtorEq, Int32.reduceOfInt, Int32.reduceOfNat, Int32.reduceToNatClampNeg, Int32.reduceToInt, i10, i01, nEM, show (12 : Int32) ≤ nI 12 from by decide]
    exact hk x5 x6 12 g ps (Nat.le_refl _) h5 hg
  | succ n ih =>
    intro t g ps x5 x6 ht h5 hg
    have a0 : upd (rwQ r ps) (wf i 1) g (wf i 0) = r (wf i 0) := by rw [un n01, rwQ_w]
    have a2 : upd (rwQ r ps) (wf i 1) g (wf i 2) = r (wf i 2) := by rw [un n21, rwQ_w]
    have a3 : upd (rwQ r ps) (wf i 1) g 3 = r 3 := by rw [un n31, rwQ_out (by omega)]
    have at' : upd (rwQ r ps) (wf i 1) g (14 + t) = ps t := by rw [un (by unfold wf; omega), rwQ_in (by omega)]
    have c1 : ¬ (12 : Int32) ≤ nI t := nI_ge (b := 12) (by omega) (by decide)
    have c3 : (nI t).toNatClampNeg = t := nI_clamp (by omega)
    have c4 : ¬ nI t < 0 := nI_pos (by omega)
    have c5 : (nI (14 + t)).toNatClampNeg = 14 + t := nI_clamp (by omega)
    have c6 : (nI (14 + t)).toInt = ((14 + t : Nat) : Int) := nI_toInt (by omega)
    refine goV (n := 80) [(145, pf_X7_doesFall), (139, pf_X7_walkerIs), (138, pf_X7_place), (151, pf_X7_changedBy), (133, pf_X7_held), (152, pf_X7_keptOf)] [17, 105] (T_cons (s_X7_doesFall (by omega)) (T_cons (s_X7_walkerIs (by omega)) (T_cons (s_X7_place (by omega)) (T_cons (s_X7_changedBy (by omega)) (T_cons (s_X7_held (by omega)) (T_cons (s_X7_keptOf (by omega)) T_nil)))))) ?_
    simp only [dX7_crosses_0, dX7_crosses_1, dX7_crosses_2, dX7_crosses_3, dX7_crosses_6, dX7_crosses_7, dX7_crosses_8, dX7_crosses_9, dX7_crosses_10, dX7_crosses_13, dX7_crosses_14, dX7_crosses_15, dX7_crosses_17, dX7_crosses_19, dX7_crosses_21, dX7_crosses_24, dX7_crosses_25, dX7_crosses_26, dX7_crosses_28, dX7_crosses_31, dX7_crosses_34, dX7_crosses_35, dX7_crosses_36, dX7_crosses_37, dX7_crosses_40, dX7_crosses_42, dX7_crosses_43, dX7_crosses_46, dX7_crosses_48, dX7_crosses_50, dX7_crosses_51, dX7_crosses_52, dX7_crosses_54, dX7_crosses_55, dX7_crosses_58, dX7_crosses_59, dX7_crosses_60, dX7_crosses_63, dX7_crosses_65, dX7_crosses_66, dX7_crosses_68, dX7_crosses_70, dX7_crosses_73, dX7_crosses_74, dX7_crosses_77, dX7_crosses_78, dX7_crosses_79, dX7_crosses_82, dX7_crosses_84, dX7_crosses_86, dX7_crosses_87, dX7_crosses_88, dX7_crosses_90, dX7_crosses_92, dX7_crosses_95, dX7_crosses_98, dX7_crosses_99, dX7_crosses_102, dX7_crosses_105, dX7_crosses_107, dX7_crosses_109, dX7_crosses_112, dX7_crosses_113, dX7_crosses_116, dX7_crosses_117, dX7_crosses_118, dX7_crosses_121, dX7_crosses_122, dX7_crosses_123, dX7_crosses_124, dX7_crosses_127, dX7_crosses_128, dX7_crosses_129, dX7_crosses_132, dX7_crosses_135, dX7_crosses_136, dX7_crosses_137, dX7_crosses_138, dX7_crosses_141, dX7_crosses_142, dX7_crosses_143, dX7_crosses_146, dX7_crosses_147, dX7_crosses_148, dX7_crosses_151, dX7_crosses_152, dX7_crosses_153, dX7_crosses_154, dX7_crosses_155, dX7_crosses_156, dX7_crosses_157, dX7_crosses_159, cr_7_113, cr_7_122, cr_7_135, cr_7_138, cr_7_141, cr_7_79, cr_7_92, fr_7_9, al_10, al_11, al_12, al_13, al_14, al_16, al_17, al_18, al_19, al_2, al_20, al_21, al_23, al_24, al_27, al_28, al_29, al_3, al_30, al_31, al_32, al_34, al_36, al_37, al_38, al_39, al_4, al_40, al_41, al_42, al_43, al_45, al_46, al_47, al_48, al_49, al_5, al_52, al_53, al_54, al_55, al_56, al_57, al_58, al_6, al_60, al_61, al_62, al_63, al_64, al_65, al_66, al_67, al_69, al_7, al_70, al_71, al_72, al_73, al_9, cat_i, cat_l, cat_r, cat_u, gf_6_0_59, pcl_0, pcl_1, pcl_100, pcl_101, pcl_102, pcl_103, pcl_104, pcl_105, pcl_106, pcl_107, pcl_108, pcl_109, pcl_110, pcl_111, pcl_112, pcl_15, pcl_22, pcl_25, pcl_26, pcl_33, pcl_44, pcl_50, pcl_59, pcl_8, rOK_i, rOK_z, v_aload_0, v_bipush_12, v_bipush_14, v_dup2, v_getfield, v_goto, v_iadd, v_iaload, v_iastore, v_ic_ge, v_iconst_0, v_iconst_1, v_iconst_3, v_if_ne, v_iinc_4, v_iload_1, v_iload_2, v_iload_3, v_iload_4, v_iload_5, v_iload_6, v_invs, v_invv, v_ireturn, v_istore_2, v_istore_3, v_istore_4, v_istore_5, v_istore_6, v_sipush_9999, vcS_1_1, vcS_2_1, vcS_3_1, vcS_min, vcV_3_6, vgf_i, vgf_r, vgf_s, vc_d, rr_0, rr_1, csT_h, csT_t, csT_n, bI_0, bI_1, bI_z, bT, List.mem_cons, List.not_mem_nil, List.length_cons, List.length_nil, ite_not, ↓reduceIte, true_and, and_true, not_true_eq_false, not_false_eq_true, false_or, or_false, or_true, true_or, Nat.reduceAdd, Nat.reduceEqDiff, Nat.reduceBEq, Nat.reduceLeDiff, Nat.reduceLT, Nat.reduceSub, Int.reduceAdd, Int.reduceLE, Int.reduceLT, Int.reduceToNat, Int.reduceNeg, Int.reduceNatCast', reduceCtorEq, Int32.reduceOfInt, Int32.reduceOfNat, Int32.reduceToNatClampNeg, Int32.reduceToInt, i10, i01, nEM, pe_X7_doesFall, pe_X7_walkerIs, pe_X7_place, pe_X7_changedBy, pe_X7_held, pe_X7_keptOf, Int32.reduceLT, Int32.reduceLE, not_false_eq_true, ho, c1, c3, c4, c5, c6, ci, q1, p14, mset, mrow_s, mrow_mrow, a0, a2, a3, at', upd_s, h5]
    rw [goF] at hg
    by_cases hc : abI (g - ps t) ≤ brs (r (wf i 0)) (r (wf i 2)) (r 3)
    · rw [if_pos hc] at hg
      simp only [hc, not_true_eq_false, not_false_eq_true, if_true, if_false]
      refine ⟨by omega, q2, by omega, ?_⟩
      rw [rwQ_upd (by omega), nI_1]
      exact ih (t + 1) _ _ _ _ (by omega) rfl hg
    · rw [if_neg hc] at hg
      simp only [hc, not_true_eq_false, not_false_eq_true, if_true, if_false]
      exact hk x5 x6 t g ps (by omega) h5 hg
theorem crx_le {r : Nat → Int32} {i : Nat} : (crx r i).1 ≤ 12 := goF_le 12 0 _ _
def pf_X7_crosses : PF := fun args M k => match args with
  | [.ref o, .int w] => (o = 59 ∧ wOK w) ∧ (k (.int (nI (crx (M 60) (w).toNatClampNeg).1)) (mrow M 60 (crr (M 60) (w).toNatClampNeg)))
  | _ => False
theorem pe_X7_crosses {o : Nat} {w : Int32} {M : Mem} {k : Value → Mem → Prop} : pf_X7_crosses [.ref o, .int w] M k = ((o = 59 ∧ wOK w) ∧ (k (.int (nI (crx (M 60) (w).toNatClampNeg).1)) (mrow M 60 (crr (M 60) (w).toNatClampNeg)))) := rfl
theorem le_X7_crosses {o : Nat} {w : Int32} : lent 7 ([.ref o, .int w] : List Value) = [.ref o, .int w, .retAddr 0, .retAddr 0, .retAddr 0, .retAddr 0, .retAddr 0] := rfl
set_option maxRecDepth 100000 in
set_option maxHeartbeats 4000000 in
theorem c_X7_crosses {d : Nat} (hd : 6 ≤ d) {o : Nat} {w : Int32} {M : Mem} {k : Value → Mem → Prop} (h : (o = 59 ∧ wOK w) ∧ (k (.int (nI (crx (M 60) (w).toNatClampNeg).1)) (mrow M 60 (crr (M 60) (w).toNatClampNeg)))) : CallP d 153 [.ref o, .int w] M k := by
  obtain ⟨hp, h⟩ := h
  obtain ⟨d, rfl⟩ : ∃ d', d = d' + 1 := ⟨d - 1, by omega⟩
  obtain ⟨rfl, hw⟩ := hp
  obtain ⟨i, hi, rfl⟩ := wOK_n hw
  have ci : (nI i).toNatClampNeg = i := nI_clamp (by omega)
  rw [ci] at h
  · refine enterV (n := 80) [(139, pf_X7_walkerIs), (138, pf_X7_place)] [17] mI_153 (by decide) (Nat.le_of_ble_eq_true rfl) (T_cons (s_X7_walkerIs (by omega)) (T_cons (s_X7_place (by omega)) T_nil)) ?_
    rw [le_X7_crosses]
    simp only [dX7_crosses_0, dX7_crosses_1, dX7_crosses_2, dX7_crosses_3, dX7_crosses_6, dX7_crosses_7, dX7_crosses_8, dX7_crosses_9, dX7_crosses_10, dX7_crosses_13, dX7_crosses_14, dX7_crosses_15, dX7_crosses_17, dX7_crosses_19, dX7_crosses_21, dX7_crosses_24, dX7_crosses_25, dX7_crosses_26, dX7_crosses_28, dX7_crosses_31, dX7_crosses_34, dX7_crosses_35, dX7_crosses_36, dX7_crosses_37, dX7_crosses_40, dX7_crosses_42, dX7_crosses_43, dX7_crosses_46, dX7_crosses_48, dX7_crosses_50, dX7_crosses_51, dX7_crosses_52, dX7_crosses_54, dX7_crosses_55, dX7_crosses_58, dX7_crosses_59, dX7_crosses_60, dX7_crosses_63, dX7_crosses_65, dX7_crosses_66, dX7_crosses_68, dX7_crosses_70, dX7_crosses_73, dX7_crosses_74, dX7_crosses_77, dX7_crosses_78, dX7_crosses_79, dX7_crosses_82, dX7_crosses_84, dX7_crosses_86, dX7_crosses_87, dX7_crosses_88, dX7_crosses_90, dX7_crosses_92, dX7_crosses_95, dX7_crosses_98, dX7_crosses_99, dX7_crosses_102, dX7_crosses_105, dX7_crosses_107, dX7_crosses_109, dX7_crosses_112, dX7_crosses_113, dX7_crosses_116, dX7_crosses_117, dX7_crosses_118, dX7_crosses_121, dX7_crosses_122, dX7_crosses_123, dX7_crosses_124, dX7_crosses_127, dX7_crosses_128, dX7_crosses_129, dX7_crosses_132, dX7_crosses_135, dX7_crosses_136, dX7_crosses_137, dX7_crosses_138, dX7_crosses_141, dX7_crosses_142, dX7_crosses_143, dX7_crosses_146, dX7_crosses_147, dX7_crosses_148, dX7_crosses_151, dX7_crosses_152, dX7_crosses_153, dX7_crosses_154, dX7_crosses_155, dX7_crosses_156, dX7_crosses_157, dX7_crosses_159, cr_7_113, cr_7_122, cr_7_135, cr_7_138, cr_7_141, cr_7_79, cr_7_92, fr_7_9, al_10, al_11, al_12, al_13, al_14, al_16, al_17, al_18, al_19, al_2, al_20, al_21, al_23, al_24, al_27, al_28, al_29, al_3, al_30, al_31, al_32, al_34, al_36, al_37, al_38, al_39, al_4, al_40, al_41, al_42, al_43, al_45, al_46, al_47, al_48, al_49, al_5, al_52, al_53, al_54, al_55, al_56, al_57, al_58, al_6, al_60, al_61, al_62, al_63, al_64, al_65, al_66, al_67, al_69, al_7, al_70, al_71, al_72, al_73, al_9, cat_i, cat_l, cat_r, cat_u, gf_6_0_59, pcl_0, pcl_1, pcl_100, pcl_101, pcl_102, pcl_103, pcl_104, pcl_105, pcl_106, pcl_107, pcl_108, pcl_109, pcl_110, pcl_111, pcl_112, pcl_15, pcl_22, pcl_25, pcl_26, pcl_33, pcl_44, pcl_50, pcl_59, pcl_8, rOK_i, rOK_z, v_aload_0, v_bipush_12, v_bipush_14, v_dup2, v_getfield, v_goto, v_iadd, v_iaload, v_iastore, v_ic_ge, v_iconst_0, v_iconst_1, v_iconst_3, v_if_ne, v_iinc_4, v_iload_1, v_iload_2, v_iload_3, v_iload_4, v_iload_5, v_iload_6, v_invs, v_invv, v_ireturn, v_istore_2, v_istore_3, v_istore_4, v_istore_5, v_istore_6, v_sipush_9999, vcS_1_1, vcS_2_1, vcS_3_1, vcS_min, vcV_3_6, vgf_i, vgf_r, vgf_s, vc_d, rr_0, rr_1, csT_h, csT_t, csT_n, bI_0, bI_1, bI_z, bT, List.mem_cons, List.not_mem_nil, List.length_cons, List.length_nil, ite_not, ↓reduceIte, true_and, and_true, not_true_eq_false, not_false_eq_true, false_or, or_false, or_true, true_or, Nat.reduceAdd, Nat.reduceEqDiff, Nat.reduceBEq, Nat.reduceLeDiff, Nat.reduceLT, Nat.reduceSub, Int.reduceAdd, Int.reduceLE, Int.reduceLT, Int.reduceToNat, Int.reduceNeg, Int.reduceNatCast', reduceCtorEq, Int32.reduceOfInt, Int32.reduceOfNat, Int32.reduceToNatClampNeg, Int32.reduceToInt, i10, i01, nEM, pe_X7_walkerIs, pe_X7_place, hw, ci, Int32.reduceLT, Int32.reduceLE, not_false_eq_true]
    have e0 : mrow M 60 (upd (rwQ (M 60) (plr (M 60))) (wf i 1) (M 60 (wf i 1))) = M := by
      rw [rwQ_self, upd_self, mrow_self]
    have key := lp_crosses (d := d) (by omega) (M := M) (k := k) (r := M 60) hi ?_ 12 0 (M 60 (wf i 1)) (plr (M 60)) (.retAddr 0) (.retAddr 0) rfl rfl rfl
    · rw [e0] at key
      exact key
    · intro x5 x6 t g ps ht h5 he
      have q1 := wf_c hi (f := 1) (by decide)
      have q2 := wf_t hi (f := 1) (by decide)
      have q3 := wf_c hi (f := 3) (by decide)
      have q4 := wf_t hi (f := 3) (by decide)
      have n31 : wf i 3 ≠ wf i 1 := by unfold wf; omega
      have n01 : 0 ≠ wf i 1 := by unfold wf; omega
      have n03 : 0 ≠ wf i 3 := by unfold wf; omega
      have b3 : rwQ (M 60) ps (wf i 3) = M 60 (wf i 3) := rwQ_w
      have b1 : upd (rwQ (M 60) ps) (wf i 1) (M 60 (wf i 1)) = rwQ (M 60) ps := by
        have := upd_self (f := rwQ (M 60) ps) (k := wf i 1)
        rw [rwQ_w] at this
        exact this
      have b0 : rwQ (M 60) ps 0 = M 60 0 := rwQ_out (by omega)
      have h12 := ge12 ht
      refine goV (n := 80) [(139, pf_X7_walkerIs), (138, pf_X7_place)] [17] (T_cons (s_X7_walkerIs (by omega)) (T_cons (s_X7_place (by omega)) T_nil)) ?_
      simp only [dX7_crosses_0, dX7_crosses_1, dX7_crosses_2, dX7_crosses_3, dX7_crosses_6, dX7_crosses_7, dX7_crosses_8, dX7_crosses_9, dX7_crosses_10, dX7_crosses_13, dX7_crosses_14, dX7_crosses_15, dX7_crosses_17, dX7_crosses_19, dX7_crosses_21, dX7_crosses_24, dX7_crosses_25, dX7_crosses_26, dX7_crosses_28, dX7_crosses_31, dX7_crosses_34, dX7_crosses_35, dX7_crosses_36, dX7_crosses_37, dX7_crosses_40, dX7_crosses_42, dX7_crosses_43, dX7_crosses_46, dX7_crosses_48, dX7_crosses_50, dX7_crosses_51, dX7_crosses_52, dX7_crosses_54, dX7_crosses_55, dX7_crosses_58, dX7_crosses_59, dX7_crosses_60, dX7_crosses_63, dX7_crosses_65, dX7_crosses_66, dX7_crosses_68, dX7_crosses_70, dX7_crosses_73, dX7_crosses_74, dX7_crosses_77, dX7_crosses_78, dX7_crosses_79, dX7_crosses_82, dX7_crosses_84, dX7_crosses_86, dX7_crosses_87, dX7_crosses_88, dX7_crosses_90, dX7_crosses_92, dX7_crosses_95, dX7_crosses_98, dX7_crosses_99, dX7_crosses_102, dX7_crosses_105, dX7_crosses_107, dX7_crosses_109, dX7_crosses_112, dX7_crosses_113, dX7_crosses_116, dX7_crosses_117, dX7_crosses_118, dX7_crosses_121, dX7_crosses_122, dX7_crosses_123, dX7_crosses_124, dX7_crosses_127, dX7_crosses_128, dX7_crosses_129, dX7_crosses_132, dX7_crosses_135, dX7_crosses_136, dX7_crosses_137, dX7_crosses_138, dX7_crosses_141, dX7_crosses_142, dX7_crosses_143, dX7_crosses_146, dX7_crosses_147, dX7_crosses_148, dX7_crosses_151, dX7_crosses_152, dX7_crosses_153, dX7_crosses_154, dX7_crosses_155, dX7_crosses_156, dX7_crosses_157, dX7_crosses_159, cr_7_113, cr_7_122, cr_7_135, cr_7_138, cr_7_141, cr_7_79, cr_7_92, fr_7_9, al_10, al_11, al_12, al_13, al_14, al_16, al_17, al_18, al_19, al_2, al_20, al_21, al_23, al_24, al_27, al_28, al_29, al_3, al_30, al_31, al_32, al_34, al_36, al_37, al_38, al_39, al_4, al_40, al_41, al_42, al_43, al_45, al_46, al_47, al_48, al_49, al_5, al_52, al_53, al_54, al_55, al_56, al_57, al_58, al_6, al_60, al_61, al_62, al_63, al_64, al_65, al_66, al_67, al_69, al_7, al_70, al_71, al_72, al_73, al_9, cat_i, cat_l, cat_r, cat_u, gf_6_0_59, pcl_0, pcl_1, pcl_100, pcl_101, pcl_102, pcl_103, pcl_104, pcl_105, pcl_106, pcl_107, pcl_108, pcl_109, pcl_110, pcl_111, pcl_112, pcl_15, pcl_22, pcl_25, pcl_26, pcl_33, pcl_44, pcl_50, pcl_59, pcl_8, rOK_i, rOK_z, v_aload_0, v_bipush_12, v_bipush_14, v_dup2, v_getfield, v_goto, v_iadd, v_iaload, v_iastore, v_ic_ge, v_iconst_0, v_iconst_1, v_iconst_3, v_if_ne, v_iinc_4, v_iload_1, v_iload_2, v_iload_3, v_iload_4, v_iload_5, v_iload_6, v_invs, v_invv, v_ireturn, v_istore_2, v_istore_3, v_istore_4, v_istore_5, v_istore_6, v_sipush_9999, vcS_1_1, vcS_2_1, vcS_3_1, vcS_min, vcV_3_6, vgf_i, vgf_r, vgf_s, vc_d, rr_0, rr_1, csT_h, csT_t, csT_n, bI_0, bI_1, bI_z, bT, List.mem_cons, List.not_mem_nil, List.length_cons, List.length_nil, ite_not, ↓reduceIte, true_and, and_true, not_true_eq_false, not_false_eq_true, false_or, or_false, or_true, true_or, Nat.reduceAdd, Nat.reduceEqDiff, Nat.reduceBEq, Nat.reduceLeDiff, Nat.reduceLT, Nat.reduceSub, Int.reduceAdd, Int.reduceLE, Int.reduceLT, Int.reduceToNat, Int.reduceNeg, Int.reduceNatCast', reduceCtorEq, Int32.reduceOfInt, Int32.reduceOfNat, Int32.reduceToNatClampNeg, Int32.reduceToInt, i10, i01, nEM, pe_X7_walkerIs, pe_X7_place, hw, ci, Int32.reduceLT, Int32.reduceLE, not_false_eq_true, q1, q3, mset, mrow_s, mrow_mrow, upd_upd, b1, b3]
      unfold crr at h
      rw [← he] at h
      dsimp only at h
      by_cases hlt : t < 12
      · rw [if_neg (by rw [h12]; exact fun z => z hlt)]
        rw [if_pos hlt] at h
        refine ⟨q2, q4, ?_⟩
        rw [un n03, b0]
        exact h
      · rw [if_pos (by rw [h12]; exact hlt)]
        rw [if_neg hlt] at h
        rw [un n01, b0]
        exact h

theorem s_X7_crosses {d : Nat} (hd : 6 ≤ d) : Snd d 153 pf_X7_crosses := by
  intro args M k h
  unfold pf_X7_crosses at h
  split at h
  · exact c_X7_crosses hd h
  · exact h.elim
theorem crr_hi {r : Nat → Int32} {i j : Nat} (hi : i < 6) (h : 50 ≤ j) : crr r i j = r j := by
  have a := wf_lt hi (f := 3) (by decide)
  have b := wf_lt hi (f := 1) (by decide)
  unfold crr
  rw [un (by omega)]
  split
  · rw [un (by omega), rwQ_out (by omega)]
  · rw [un (by omega), rwQ_out (by omega)]
/-- put back what was laid aside -/
theorem back {r q a : Nat → Int32} (h : ∀ j, 50 ≤ j → q j = r j) : cpN 50 (cpN 50 r a) q = r := by
  funext j
  unfold cpN
  by_cases hj : j < 50
  · rw [if_pos hj, if_pos hj]
  · rw [if_neg hj, h j (by omega)]
