/-! M: draws, odds, the tape, who is taken for whom -/
theorem v_lload_7 {oc : Nat} {ret : Option FieldType} {cs : Nat → List Value → Mem → (Value → Mem → Prop) → Prop} {post : Value → Mem → Prop} {K : Nat → List Value → List Value → Mem → Prop} {pc : Nat} {L st : List Value} {M : Mem} {a0 a1 a2 a3 a4 a5 a6 : Value} {x : Int64} : vstp oc ret cs post K (.ok (.lload 7, 2)) pc (a0 :: a1 :: a2 :: a3 :: a4 :: a5 :: a6 :: .long x :: L) (st) M = (K (pc + 2) (a0 :: a1 :: a2 :: a3 :: a4 :: a5 :: a6 :: .long x :: L) (.long x :: st) M) := propext ⟨fun h => h.2, fun h => ⟨rfl, h⟩⟩
theorem v_lstore_7 {oc : Nat} {ret : Option FieldType} {cs : Nat → List Value → Mem → (Value → Mem → Prop) → Prop} {post : Value → Mem → Prop} {K : Nat → List Value → List Value → Mem → Prop} {pc : Nat} {L r : List Value} {M : Mem} {a0 a1 a2 a3 a4 a5 a6 : Value} {w w2 : Value} {x : Int64} : vstp oc ret cs post K (.ok (.lstore 7, 2)) pc (a0 :: a1 :: a2 :: a3 :: a4 :: a5 :: a6 :: w :: w2 :: L) (.long x :: r) M = (a6.category = 1 ∧ K (pc + 2) (a0 :: a1 :: a2 :: a3 :: a4 :: a5 :: a6 :: .long x :: .retAddr 0 :: L) r M) := propext ⟨fun h => ⟨(beq_iff_eq.mp h.2.2.1), h.2.2.2⟩, fun h => ⟨rfl, by show 7 + 1 < _; simp only [List.length_cons]; omega, beq_iff_eq.mpr h.1, h.2⟩⟩
theorem rwQ_c {r ps : Nat → Int32} {c t : Nat} {g v : Int32} (hc : c < 14 ∨ 26 ≤ c) (ht : t < 12) : upd (upd (rwQ r ps) c g) (14 + t) v = upd (rwQ r (upd ps t v)) c g := by
  funext j
  unfold upd rwQ
  by_cases h1 : j = 14 + t
  · subst h1
    have h2 : ¬ 14 + t = c := by omega
    simp [h2, ht]
    intro h
    omega
  · by_cases h2 : j = c
    · subst h2
      simp [h1]
    · simp only [h1, h2, if_false]
      by_cases h3 : 14 ≤ j ∧ j < 26
      · simp only [h3, and_self, if_true]
        rw [if_neg (by omega)]
      · simp only [h3, if_false]
def pf_X7_drawn : PF := fun args M k => match args with
  | [.ref o] => (o = 59) ∧ (k (.int (zO (zN (M 60 2)))) (mset M 60 2 (zN (M 60 2))))
  | _ => False
theorem pe_X7_drawn {o : Nat} {M : Mem} {k : Value → Mem → Prop} : pf_X7_drawn [.ref o] M k = ((o = 59) ∧ (k (.int (zO (zN (M 60 2)))) (mset M 60 2 (zN (M 60 2))))) := rfl
theorem le_X7_drawn {o : Nat} : lent 1 ([.ref o] : List Value) = [.ref o] := rfl
set_option maxRecDepth 100000 in
set_option maxHeartbeats 4000000 in
theorem c_X7_drawn {d : Nat} (hd : 1 ≤ d) {o : Nat} {M : Mem} {k : Value → Mem → Prop} (h : (o = 59) ∧ (k (.int (zO (zN (M 60 2)))) (mset M 60 2 (zN (M 60 2))))) : CallP d 196 [.ref o] M k := by
  obtain ⟨hp, h⟩ := h
  obtain ⟨d, rfl⟩ : ∃ d', d = d' + 1 := ⟨d - 1, by omega⟩
  obtain rfl := hp
  · refine enterV (n := 80) [] [] mI_196 (by decide) (Nat.le_of_ble_eq_true rfl) T_nil ?_
    rw [le_X7_drawn]
    simp only [dX7_drawn_0, dX7_drawn_1, dX7_drawn_4, dX7_drawn_5, dX7_drawn_6, dX7_drawn_9, dX7_drawn_10, dX7_drawn_11, dX7_drawn_13, dX7_drawn_14, dX7_drawn_17, dX7_drawn_18, dX7_drawn_19, dX7_drawn_20, dX7_drawn_23, dX7_drawn_24, dX7_drawn_25, dX7_drawn_27, dX7_drawn_28, fr_7_9, kr_7_239, skr_7_239, al_10, al_11, al_12, al_13, al_14, al_16, al_17, al_18, al_19, al_2, al_20, al_21, al_23, al_24, al_27, al_28, al_29, al_3, al_30, al_31, al_32, al_34, al_36, al_37, al_38, al_39, al_4, al_40, al_41, al_42, al_43, al_45, al_46, al_47, al_48, al_49, al_5, al_52, al_53, al_54, al_55, al_56, al_57, al_58, al_6, al_60, al_61, al_62, al_63, al_64, al_65, al_66, al_67, al_69, al_7, al_70, al_71, al_72, al_73, al_9, gf_6_0_59, rOK_i, rOK_z, v_aload_0, v_bipush_8, v_getfield, v_iadd, v_iaload, v_iastore, v_iconst_2, v_imul, v_ireturn, v_iushr, v_ldc, v_sipush_12345, vgf_i, vgf_r, vgf_s, vld_i, vld_s, vc_d, rr_0, rr_1, csT_h, csT_t, csT_n, bI_0, bI_1, bI_z, bT, List.mem_cons, List.not_mem_nil, List.length_cons, List.length_nil, ite_not, ↓reduceIte, true_and, and_true, not_true_eq_false, not_false_eq_true, false_or, or_false, or_true, true_or, Nat.reduceAdd, Nat.reduceEqDiff, Nat.reduceBEq, Nat.reduceLeDiff, Nat.reduceLT, Nat.reduceSub, Int.reduceAdd, Int.reduceLE, Int.reduceLT, Int.reduceToNat, Int.reduceNeg, Int.reduceNatCast', reduceCtorEq, Int32.reduceOfInt, Int32.reduceOfNat, Int32.reduceToNatClampNeg, Int32.reduceToInt, i10, i01, nEM, mset_s, upd_s]
    exact h

theorem s_X7_drawn {d : Nat} (hd : 1 ≤ d) : Snd d 196 pf_X7_drawn := by
  intro args M k h
  unfold pf_X7_drawn at h
  split at h
  · exact c_X7_drawn hd h
  · exact h.elim
set_option maxRecDepth 100000 in
set_option maxHeartbeats 4000000 in
theorem lp_strangersM {d : Nat} (hd : 1 ≤ d) {M : Mem} {k : Value → Mem → Prop} {r : Nat → Int32} {m : Nat} (hm : m ≤ 20) : ∀ (n i : Nat) (z : Int32) (ps : Nat → Int32) (x3 : Value), i + n = m → k (.int (sumF (sgF n z ps).2 12 0 0)) (mrow M 60 (upd (rwQ r (sgF n z ps).2) 2 (sgF n z ps).1)) → WP (7, yX7_strangers, cX7_strangers, 4, (some .int)) (d + 1) k 19 [.ref 59, .int (nI m), .int (nI i), x3] [] (mrow M 60 (upd (rwQ r ps) 2 z)) := by
  intro n
  induction n with
  | zero =>
    intro i z ps x3 hi h
    have c1 : nI m ≤ nI i := nI_le (by omega) (by omega)
    refine goV (n := 80) [(158, pf_X7_keptAll)] [19] (T_cons (s_X7_keptAll hd) T_nil) ?_
    simp only [dX7_strangers_0, dX7_strangers_1, dX7_strangers_2, dX7_strangers_4, dX7_strangers_7, dX7_strangers_10, dX7_strangers_11, dX7_strangers_13, dX7_strangers_16, dX7_strangers_17, dX7_strangers_18, dX7_strangers_19, dX7_strangers_20, dX7_strangers_21, dX7_strangers_24, dX7_strangers_25, dX7_strangers_28, dX7_strangers_30, dX7_strangers_31, dX7_strangers_32, dX7_strangers_33, dX7_strangers_36, dX7_strangers_38, dX7_strangers_39, dX7_strangers_40, dX7_strangers_41, dX7_strangers_44, dX7_strangers_46, dX7_strangers_47, dX7_strangers_48, dX7_strangers_51, dX7_strangers_54, dX7_strangers_55, dX7_strangers_58, cr_7_164, cr_7_240, cr_7_75, cr_7_88, fr_7_9, kr_7_69, skr_7_69, al_10, al_11, al_12, al_13, al_14, al_16, al_17, al_18, al_19, al_2, al_20, al_21, al_23, al_24, al_27, al_28, al_29, al_3, al_30, al_31, al_32, al_34, al_36, al_37, al_38, al_39, al_4, al_40, al_41, al_42, al_43, al_45, al_46, al_47, al_48, al_49, al_5, al_52, al_53, al_54, al_55, al_56, al_57, al_58, al_6, al_60, al_61, al_62, al_63, al_64, al_65, al_66, al_67, al_69, al_7, al_70, al_71, al_72, al_73, al_9, cat_i, cat_l, cat_r, cat_u, gf_6_0_59, pcl_0, pcl_1, pcl_100, pcl_101, pcl_102, pcl_103, pcl_104, pcl_105, pcl_106, pcl_107, pcl_108, pcl_109, pcl_110, pcl_111, pcl_112, pcl_15, pcl_22, pcl_25, pcl_26, pcl_33, pcl_44, pcl_50, pcl_59, pcl_8, rOK_i, rOK_z, v_aload_0, v_bipush_100, v_bipush_12, v_bipush_14, v_bipush_20, v_getfield, v_goto, v_iadd, v_iastore, v_ic_ge, v_iconst_0, v_iconst_1, v_if_ne, v_iinc_2, v_iload_1, v_iload_2, v_iload_3, v_invs, v_invv, v_irem, v_ireturn, v_istore_2, v_istore_3, v_ldc, vcS_3_1, vcV_1_6, vcV_2_6, vgf_i, vgf_r, vgf_s, vld_i, vld_s, vc_d, rr_0, rr_1, csT_h, csT_t, csT_n, bI_0, bI_1, bI_z, bT, List.mem_cons, List.not_mem_nil, List.length_cons, List.length_nil, ite_not, ↓reduceIte, true_and, and_true, not_true_eq_false, not_false_eq_true, false_or, or_false, or_true, true_or, Nat.reduceAdd, Nat.reduceEqDiff, Nat.reduceBEq, Nat.reduceLeDiff, Nat.reduceLT, Nat.reduceSub, Int.reduceAdd, Int.reduceLE, Int.reduceLT, Int.reduceToNat, Int.reduceNeg, Int.reduceNatCast', reduceCtorEq, Int32.reduceOfInt, Int32.reduceOfNat, Int32.reduceToNatClampNeg, Int32.reduceToInt, i10, i01, nEM, pe_X7_keptAll, c1, mrow_s]
    have e : sumF (plr (upd (rwQ r ps) 2 z)) 12 0 0 = sumF ps 12 0 0 := by
      have : ∀ j, j < 12 → plr (upd (rwQ r ps) 2 z) j = ps j := fun j hj => by
        show upd (rwQ r ps) 2 z (14 + j) = ps j
        rw [un (by omega), rwQ_in hj]
      simp only [sumF, this 0 (by decide), this (0 + 1) (by decide), this (0 + 1 + 1) (by decide), this (0 + 1 + 1 + 1) (by decide), this (0 + 1 + 1 + 1 + 1) (by decide), this (0 + 1 + 1 + 1 + 1 + 1) (by decide), this (0 + 1 + 1 + 1 + 1 + 1 + 1) (by decide), this (0 + 1 + 1 + 1 + 1 + 1 + 1 + 1) (by decide), this (0 + 1 + 1 + 1 + 1 + 1 + 1 + 1 + 1) (by decide), this (0 + 1 + 1 + 1 + 1 + 1 + 1 + 1 + 1 + 1) (by decide), this (0 + 1 + 1 + 1 + 1 + 1 + 1 + 1 + 1 + 1 + 1) (by decide), this (0 + 1 + 1 + 1 + 1 + 1 + 1 + 1 + 1 + 1 + 1 + 1) (by decide)]
    rw [e]
    exact h
  | succ n ih =>
    intro i z ps x3 hi h
    have c1 : ¬ nI m ≤ nI i := nI_ge (by omega) (by omega)
    have e12 : zO (zN z) - zO (zN z) / 12 * 12 = rmF (zN z) 12 := rfl
    have e100 : zO (zN (zN z)) - zO (zN (zN z)) / 100 * 100 = rmF (zN (zN z)) 100 := rfl
    have hP := rm_P (zN z)
    obtain ⟨t, ht, ep⟩ := i32_14 hP.1 hP.2
    have c2 : (nI (14 + t)).toInt = ((14 + t : Nat) : Int) := nI_toInt (by omega)
    have c3 : (nI (14 + t)).toNatClampNeg = 14 + t := nI_clamp (by omega)
    refine goV (n := 80) [(196, pf_X7_drawn)] [19] (T_cons (s_X7_drawn hd) T_nil) ?_
    simp only [dX7_strangers_0, dX7_strangers_1, dX7_strangers_2, dX7_strangers_4, dX7_strangers_7, dX7_strangers_10, dX7_strangers_11, dX7_strangers_13, dX7_strangers_16, dX7_strangers_17, dX7_strangers_18, dX7_strangers_19, dX7_strangers_20, dX7_strangers_21, dX7_strangers_24, dX7_strangers_25, dX7_strangers_28, dX7_strangers_30, dX7_strangers_31, dX7_strangers_32, dX7_strangers_33, dX7_strangers_36, dX7_strangers_38, dX7_strangers_39, dX7_strangers_40, dX7_strangers_41, dX7_strangers_44, dX7_strangers_46, dX7_strangers_47, dX7_strangers_48, dX7_strangers_51, dX7_strangers_54, dX7_strangers_55, dX7_strangers_58, cr_7_164, cr_7_240, cr_7_75, cr_7_88, fr_7_9, kr_7_69, skr_7_69, al_10, al_11, al_12, al_13, al_14, al_16, al_17, al_18, al_19, al_2, al_20, al_21, al_23, al_24, al_27, al_28, al_29, al_3, al_30, al_31, al_32, al_34, al_36, al_37, al_38, al_39, al_4, al_40, al_41, al_42, al_43, al_45, al_46, al_47, al_48, al_49, al_5, al_52, al_53, al_54, al_55, al_56, al_57, al_58, al_6, al_60, al_61, al_62, al_63, al_64, al_65, al_66, al_67, al_69, al_7, al_70, al_71, al_72, al_73, al_9, cat_i, cat_l, cat_r, cat_u, gf_6_0_59, pcl_0, pcl_1, pcl_100, pcl_101, pcl_102, pcl_103, pcl_104, pcl_105, pcl_106, pcl_107, pcl_108, pcl_109, pcl_110, pcl_111, pcl_112, pcl_15, pcl_22, pcl_25, pcl_26, pcl_33, pcl_44, pcl_50, pcl_59, pcl_8, rOK_i, rOK_z, v_aload_0, v_bipush_100, v_bipush_12, v_bipush_14, v_bipush_20, v_getfield, v_goto, v_iadd, v_iastore, v_ic_ge, v_iconst_0, v_iconst_1, v_if_ne, v_iinc_2, v_iload_1, v_iload_2, v_iload_3, v_invs, v_invv, v_irem, v_ireturn, v_istore_2, v_istore_3, v_ldc, vcS_3_1, vcV_1_6, vcV_2_6, vgf_i, vgf_r, vgf_s, vld_i, vld_s, vc_d, rr_0, rr_1, csT_h, csT_t, csT_n, bI_0, bI_1, bI_z, bT, List.mem_cons, List.not_mem_nil, List.length_cons, List.length_nil, ite_not, ↓reduceIte, true_and, and_true, not_true_eq_false, not_false_eq_true, false_or, or_false, or_true, true_or, Nat.reduceAdd, Nat.reduceEqDiff, Nat.reduceBEq, Nat.reduceLeDiff, Nat.reduceLT, Nat.reduceSub, Int.reduceAdd, Int.reduceLE, Int.reduceLT, Int.reduceToNat, Int.reduceNeg, Int.reduceNatCast', reduceCtorEq, Int32.reduceOfInt, Int32.reduceOfNat, Int32.reduceToNatClampNeg, Int32.reduceToInt, i10, i01, nEM, pe_X7_drawn, c1, mset, mrow_s, mrow_mrow, upd_s, upd_upd, nI_1, e12, e100, ep, p14, c2, c3]
    refine ⟨by decide, by decide, by omega, ?_⟩
    rw [sgF, ep, nI_clamp (show t < 2 ^ 31 by omega)] at h
    rw [rwQ_c (by omega) ht]
    exact ih (i + 1) _ _ _ (by omega) h
def pf_X7_strangers : PF := fun args M k => match args with
  | [.ref o, .int n] => (o = 59) ∧ (if ¬ n < 1 ∧ ¬ 20 < n then k (.int (sumF (sgF (n).toNatClampNeg (M 60 2) (plr (M 60))).2 12 0 0)) (mrow M 60 (upd (rwQ (M 60) (sgF (n).toNatClampNeg (M 60 2) (plr (M 60))).2) 2 (sgF (n).toNatClampNeg (M 60 2) (plr (M 60))).1)) else k (.int (-1000001)) (fndM M 0))
  | _ => False
theorem pe_X7_strangers {o : Nat} {n : Int32} {M : Mem} {k : Value → Mem → Prop} : pf_X7_strangers [.ref o, .int n] M k = ((o = 59) ∧ (if ¬ n < 1 ∧ ¬ 20 < n then k (.int (sumF (sgF (n).toNatClampNeg (M 60 2) (plr (M 60))).2 12 0 0)) (mrow M 60 (upd (rwQ (M 60) (sgF (n).toNatClampNeg (M 60 2) (plr (M 60))).2) 2 (sgF (n).toNatClampNeg (M 60 2) (plr (M 60))).1)) else k (.int (-1000001)) (fndM M 0))) := rfl
theorem le_X7_strangers {o : Nat} {n : Int32} : lent 4 ([.ref o, .int n] : List Value) = [.ref o, .int n, .retAddr 0, .retAddr 0] := rfl
set_option maxRecDepth 100000 in
set_option maxHeartbeats 4000000 in
theorem c_X7_strangers {d : Nat} (hd : 2 ≤ d) {o : Nat} {n : Int32} {M : Mem} {k : Value → Mem → Prop} (h : (o = 59) ∧ (if ¬ n < 1 ∧ ¬ 20 < n then k (.int (sumF (sgF (n).toNatClampNeg (M 60 2) (plr (M 60))).2 12 0 0)) (mrow M 60 (upd (rwQ (M 60) (sgF (n).toNatClampNeg (M 60 2) (plr (M 60))).2) 2 (sgF (n).toNatClampNeg (M 60 2) (plr (M 60))).1)) else k (.int (-1000001)) (fndM M 0))) : CallP d 197 [.ref o, .int n] M k := by
  obtain ⟨hp, h⟩ := h
  obtain ⟨d, rfl⟩ : ∃ d', d = d' + 1 := ⟨d - 1, by omega⟩
  obtain rfl := hp
  · refine enterV (n := 80) [(126, pf_X7_within), (125, pf_X7_finding)] [19] mI_197 (by decide) (Nat.le_of_ble_eq_true rfl) (T_cons (s_X7_within (by omega)) (T_cons (s_X7_finding (by omega)) T_nil)) ?_
    rw [le_X7_strangers]
    simp only [dX7_strangers_0, dX7_strangers_1, dX7_strangers_2, dX7_strangers_4, dX7_strangers_7, dX7_strangers_10, dX7_strangers_11, dX7_strangers_13, dX7_strangers_16, dX7_strangers_17, dX7_strangers_18, dX7_strangers_19, dX7_strangers_20, dX7_strangers_21, dX7_strangers_24, dX7_strangers_25, dX7_strangers_28, dX7_strangers_30, dX7_strangers_31, dX7_strangers_32, dX7_strangers_33, dX7_strangers_36, dX7_strangers_38, dX7_strangers_39, dX7_strangers_40, dX7_strangers_41, dX7_strangers_44, dX7_strangers_46, dX7_strangers_47, dX7_strangers_48, dX7_strangers_51, dX7_strangers_54, dX7_strangers_55, dX7_strangers_58, cr_7_164, cr_7_240, cr_7_75, cr_7_88, fr_7_9, kr_7_69, skr_7_69, al_10, al_11, al_12, al_13, al_14, al_16, al_17, al_18, al_19, al_2, al_20, al_21, al_23, al_24, al_27, al_28, al_29, al_3, al_30, al_31, al_32, al_34, al_36, al_37, al_38, al_39, al_4, al_40, al_41, al_42, al_43, al_45, al_46, al_47, al_48, al_49, al_5, al_52, al_53, al_54, al_55, al_56, al_57, al_58, al_6, al_60, al_61, al_62, al_63, al_64, al_65, al_66, al_67, al_69, al_7, al_70, al_71, al_72, al_73, al_9, cat_i, cat_l, cat_r, cat_u, gf_6_0_59, pcl_0, pcl_1, pcl_100, pcl_101, pcl_102, pcl_103, pcl_104, pcl_105, pcl_106, pcl_107, pcl_108, pcl_109, pcl_110, pcl_111, pcl_112, pcl_15, pcl_22, pcl_25, pcl_26, pcl_33, pcl_44, pcl_50, pcl_59, pcl_8, rOK_i, rOK_z, v_aload_0, v_bipush_100, v_bipush_12, v_bipush_14, v_bipush_20, v_getfield, v_goto, v_iadd, v_iastore, v_ic_ge, v_iconst_0, v_iconst_1, v_if_ne, v_iinc_2, v_iload_1, v_iload_2, v_iload_3, v_invs, v_invv, v_irem, v_ireturn, v_istore_2, v_istore_3, v_ldc, vcS_3_1, vcV_1_6, vcV_2_6, vgf_i, vgf_r, vgf_s, vld_i, vld_s, vc_d, rr_0, rr_1, csT_h, csT_t, csT_n, bI_0, bI_1, bI_z, bT, List.mem_cons, List.not_mem_nil, List.length_cons, List.length_nil, ite_not, ↓reduceIte, true_and, and_true, not_true_eq_false, not_false_eq_true, false_or, or_false, or_true, true_or, Nat.reduceAdd, Nat.reduceEqDiff, Nat.reduceBEq, Nat.reduceLeDiff, Nat.reduceLT, Nat.reduceSub, Int.reduceAdd, Int.reduceLE, Int.reduceLT, Int.reduceToNat, Int.reduceNeg, Int.reduceNatCast', reduceCtorEq, Int32.reduceOfInt, Int32.reduceOfNat, Int32.reduceToNatClampNeg, Int32.reduceToInt, i10, i01, nEM, pe_X7_within, fn_0, fn_1, fn_2, fn_3, fn_4, fn_5, fn_6]
    by_cases h1 : ¬ n < 1 ∧ ¬ 20 < n
    · rw [if_pos h1] at h ⊢
      obtain ⟨m, hm, rfl⟩ := nI_of2 (M := 20) (n := 20) rfl (fun z => h1.1 (by
        rw [Int32.lt_iff_toInt_lt] at z ⊢
        simp only [Int32.reduceToInt] at z ⊢
        omega)) (Int32.not_lt.mp h1.2)
      rw [nI_clamp (by omega)] at h
      have := lp_strangersM (d := d) (by omega) (k := k) (M := M) (r := M 60) hm m 0 (M 60 2) (plr (M 60)) (.retAddr 0) (by omega) h
      rw [rwQ_self, upd_self, mrow_self] at this
      exact this
    · rw [if_neg h1] at h ⊢
      exact h

theorem s_X7_strangers {d : Nat} (hd : 2 ≤ d) : Snd d 197 pf_X7_strangers := by
  intro args M k h
  unfold pf_X7_strangers at h
  split at h
  · exact c_X7_strangers hd h
  · exact h.elim
/-- byte m of a number, as the model takes it -/
def byM (x : Int32) (m : Int32) : Int32 := (x >>> (8 * m &&& 31)) &&& 255
def tpP (M : Mem) (v : Int32) : Mem := mset (mset M 67 (M 59 12).toNatClampNeg v) 59 12 (M 59 12 + 1)
def fdT (x : Int32) : Nat → Mem → Mem
  | 0, M => M
  | m + 1, M => fdT x m (tpP M (byM x (nI m)))
theorem tpP_12 {M : Mem} {v : Int32} : tpP M v 59 12 = M 59 12 + 1 := by
  unfold tpP
  rw [mset_s, upd_s]
set_option maxRecDepth 100000 in
set_option maxHeartbeats 4000000 in
theorem lp_feedM {d : Nat} {k : Value → Mem → Prop} {x n : Int32} : ∀ (m t : Nat) (M : Mem), m ≤ 4 → M 59 12 = nI t → t + m ≤ 120 → k (.int (fdT x m M 59 12)) (fdT x m M) → WP (7, yX7_feed, cX7_feed, 4, (some .int)) (d + 1) k 38 [.ref 59, .int x, .int n, .int (nI m - 1)] [] M := by
  intro m
  induction m with
  | zero =>
    intro t M hm ht hl h
    refine goV (n := 80) [] [38] T_nil ?_
    simp only [dX7_feed_0, dX7_feed_1, dX7_feed_2, dX7_feed_3, dX7_feed_6, dX7_feed_9, dX7_feed_10, dX7_feed_12, dX7_feed_15, dX7_feed_16, dX7_feed_17, dX7_feed_20, dX7_feed_21, dX7_feed_22, dX7_feed_24, dX7_feed_27, dX7_feed_28, dX7_feed_30, dX7_feed_33, dX7_feed_34, dX7_feed_35, dX7_feed_36, dX7_feed_37, dX7_feed_38, dX7_feed_39, dX7_feed_42, dX7_feed_43, dX7_feed_46, dX7_feed_47, dX7_feed_50, dX7_feed_51, dX7_feed_53, dX7_feed_54, dX7_feed_55, dX7_feed_56, dX7_feed_59, dX7_feed_60, dX7_feed_61, dX7_feed_62, dX7_feed_63, dX7_feed_66, dX7_feed_67, dX7_feed_68, dX7_feed_71, dX7_feed_74, dX7_feed_77, dX7_feed_78, dX7_feed_81, cr_7_75, cr_7_88, fr_7_243, fr_7_31, kr_7_108, kr_7_69, skr_7_108, skr_7_69, al_10, al_11, al_12, al_13, al_14, al_16, al_17, al_18, al_19, al_2, al_20, al_21, al_23, al_24, al_27, al_28, al_29, al_3, al_30, al_31, al_32, al_34, al_36, al_37, al_38, al_39, al_4, al_40, al_41, al_42, al_43, al_45, al_46, al_47, al_48, al_49, al_5, al_52, al_53, al_54, al_55, al_56, al_57, al_58, al_6, al_60, al_61, al_62, al_63, al_64, al_65, al_66, al_67, al_69, al_7, al_70, al_71, al_72, al_73, al_9, cat_i, cat_l, cat_r, cat_u, gf_6_11_59, gf_6_12_59, pcl_0, pcl_1, pcl_100, pcl_101, pcl_102, pcl_103, pcl_104, pcl_105, pcl_106, pcl_107, pcl_108, pcl_109, pcl_110, pcl_111, pcl_112, pcl_15, pcl_22, pcl_25, pcl_26, pcl_33, pcl_44, pcl_50, pcl_59, pcl_8, pft_6_12, rOK_i, rOK_z, v_aload_0, v_bipush_120, v_bipush_8, v_dup, v_getfield, v_goto, v_iadd, v_iand, v_iastore, v_ic_le, v_iconst_1, v_iconst_4, v_if_lt, v_if_ne, v_iinc_3, v_iload_1, v_iload_2, v_iload_3, v_imul, v_invs, v_invv, v_ireturn, v_ishr, v_istore_3, v_isub, v_ldc, v_putfield, v_sipush_255, vcS_3_1, vcV_2_6, vgf_i, vgf_r, vgf_s, vld_i, vld_s, vpf_s, vc_d, rr_0, rr_1, csT_h, csT_t, csT_n, bI_0, bI_1, bI_z, bT, List.mem_cons, List.not_mem_nil, List.length_cons, List.length_nil, ite_not, ↓reduceIte, true_and, and_true, not_true_eq_false, not_false_eq_true, false_or, or_false, or_true, true_or, Nat.reduceAdd, Nat.reduceEqDiff, Nat.reduceBEq, Nat.reduceLeDiff, Nat.reduceLT, Nat.reduceSub, Int.reduceAdd, Int.reduceLE, Int.reduceLT, Int.reduceToNat, Int.reduceNeg, Int.reduceNatCast', reduceCtorEq, Int32.reduceOfInt, Int32.reduceOfNat, Int32.reduceToNatClampNeg, Int32.reduceToInt, i10, i01, nEM, show (nI 0 - 1 < 0) = True from by decide]
    exact h
  | succ m ih =>
    intro t M hm ht hl h
    have c1 : (nI m < 0) = False := eq_false (nI_pos (by omega))
    have c2 : (nI t).toInt = (t : Int) := nI_toInt (by omega)
    have c3 : (nI t).toNatClampNeg = t := nI_clamp (by omega)
    have e2 : nI m + -1 = nI m - 1 := (Int32.sub_eq_add_neg _ _).symm
    refine goV (n := 80) [] [38] T_nil ?_
    simp only [dX7_feed_0, dX7_feed_1, dX7_feed_2, dX7_feed_3, dX7_feed_6, dX7_feed_9, dX7_feed_10, dX7_feed_12, dX7_feed_15, dX7_feed_16, dX7_feed_17, dX7_feed_20, dX7_feed_21, dX7_feed_22, dX7_feed_24, dX7_feed_27, dX7_feed_28, dX7_feed_30, dX7_feed_33, dX7_feed_34, dX7_feed_35, dX7_feed_36, dX7_feed_37, dX7_feed_38, dX7_feed_39, dX7_feed_42, dX7_feed_43, dX7_feed_46, dX7_feed_47, dX7_feed_50, dX7_feed_51, dX7_feed_53, dX7_feed_54, dX7_feed_55, dX7_feed_56, dX7_feed_59, dX7_feed_60, dX7_feed_61, dX7_feed_62, dX7_feed_63, dX7_feed_66, dX7_feed_67, dX7_feed_68, dX7_feed_71, dX7_feed_74, dX7_feed_77, dX7_feed_78, dX7_feed_81, cr_7_75, cr_7_88, fr_7_243, fr_7_31, kr_7_108, kr_7_69, skr_7_108, skr_7_69, al_10, al_11, al_12, al_13, al_14, al_16, al_17, al_18, al_19, al_2, al_20, al_21, al_23, al_24, al_27, al_28, al_29, al_3, al_30, al_31, al_32, al_34, al_36, al_37, al_38, al_39, al_4, al_40, al_41, al_42, al_43, al_45, al_46, al_47, al_48, al_49, al_5, al_52, al_53, al_54, al_55, al_56, al_57, al_58, al_6, al_60, al_61, al_62, al_63, al_64, al_65, al_66, al_67, al_69, al_7, al_70, al_71, al_72, al_73, al_9, cat_i, cat_l, cat_r, cat_u, gf_6_11_59, gf_6_12_59, pcl_0, pcl_1, pcl_100, pcl_101, pcl_102, pcl_103, pcl_104, pcl_105, pcl_106, pcl_107, pcl_108, pcl_109, pcl_110, pcl_111, pcl_112, pcl_15, pcl_22, pcl_25, pcl_26, pcl_33, pcl_44, pcl_50, pcl_59, pcl_8, pft_6_12, rOK_i, rOK_z, v_aload_0, v_bipush_120, v_bipush_8, v_dup, v_getfield, v_goto, v_iadd, v_iand, v_iastore, v_ic_le, v_iconst_1, v_iconst_4, v_if_lt, v_if_ne, v_iinc_3, v_iload_1, v_iload_2, v_iload_3, v_imul, v_invs, v_invv, v_ireturn, v_ishr, v_istore_3, v_isub, v_ldc, v_putfield, v_sipush_255, vcS_3_1, vcV_2_6, vgf_i, vgf_r, vgf_s, vld_i, vld_s, vpf_s, vc_d, rr_0, rr_1, csT_h, csT_t, csT_n, bI_0, bI_1, bI_z, bT, List.mem_cons, List.not_mem_nil, List.length_cons, List.length_nil, ite_not, ↓reduceIte, true_and, and_true, not_true_eq_false, not_false_eq_true, false_or, or_false, or_true, true_or, Nat.reduceAdd, Nat.reduceEqDiff, Nat.reduceBEq, Nat.reduceLeDiff, Nat.reduceLT, Nat.reduceSub, Int.reduceAdd, Int.reduceLE, Int.reduceLT, Int.reduceToNat, Int.reduceNeg, Int.reduceNatCast', reduceCtorEq, Int32.reduceOfInt, Int32.reduceOfNat, Int32.reduceToNatClampNeg, Int32.reduceToInt, i10, i01, nEM, nI_pred, c1, ht, c2, c3, e2, mset_n]
    refine ⟨by omega, ?_⟩
    rw [fdT] at h
    have e : mset (mset M 67 t ((x >>> (8 * nI m &&& 31)) &&& 255)) 59 12 (nI t + 1) = tpP M (byM x (nI m)) := by
      unfold tpP
      rw [ht, c3]
      rfl
    rw [e]
    exact ih (t + 1) _ (by omega) (by rw [tpP_12, ht, nI_1]) (by omega) h
def pf_X7_feed : PF := fun args M k => match args with
  | [.ref o, .int x, .int n] => (o = 59 ∧ ∃ t, t ≤ 120 ∧ M 59 12 = nI t) ∧ (if ¬ n < 1 ∧ ¬ 4 < n then (if M 59 12 + n ≤ 120 then k (.int (fdT x (n).toNatClampNeg M 59 12)) (fdT x (n).toNatClampNeg M) else k (.int (-1000002)) (fndM M 1)) else k (.int (-1000001)) (fndM M 0))
  | _ => False
theorem pe_X7_feed {o : Nat} {x : Int32} {n : Int32} {M : Mem} {k : Value → Mem → Prop} : pf_X7_feed [.ref o, .int x, .int n] M k = ((o = 59 ∧ ∃ t, t ≤ 120 ∧ M 59 12 = nI t) ∧ (if ¬ n < 1 ∧ ¬ 4 < n then (if M 59 12 + n ≤ 120 then k (.int (fdT x (n).toNatClampNeg M 59 12)) (fdT x (n).toNatClampNeg M) else k (.int (-1000002)) (fndM M 1)) else k (.int (-1000001)) (fndM M 0))) := rfl
theorem le_X7_feed {o : Nat} {x : Int32} {n : Int32} : lent 4 ([.ref o, .int x, .int n] : List Value) = [.ref o, .int x, .int n, .retAddr 0] := rfl
set_option maxRecDepth 100000 in
set_option maxHeartbeats 4000000 in
theorem c_X7_feed {d : Nat} (hd : 2 ≤ d) {o : Nat} {x : Int32} {n : Int32} {M : Mem} {k : Value → Mem → Prop} (h : (o = 59 ∧ ∃ t, t ≤ 120 ∧ M 59 12 = nI t) ∧ (if ¬ n < 1 ∧ ¬ 4 < n then (if M 59 12 + n ≤ 120 then k (.int (fdT x (n).toNatClampNeg M 59 12)) (fdT x (n).toNatClampNeg M) else k (.int (-1000002)) (fndM M 1)) else k (.int (-1000001)) (fndM M 0))) : CallP d 200 [.ref o, .int x, .int n] M k := by
  obtain ⟨hp, h⟩ := h
  obtain ⟨d, rfl⟩ : ∃ d', d = d' + 1 := ⟨d - 1, by omega⟩
  obtain ⟨rfl, t, ht, he⟩ := hp
  · refine enterV (n := 80) [(126, pf_X7_within), (125, pf_X7_finding)] [38] mI_200 (by decide) (Nat.le_of_ble_eq_true rfl) (T_cons (s_X7_within (by omega)) (T_cons (s_X7_finding (by omega)) T_nil)) ?_
    rw [le_X7_feed]
    simp only [dX7_feed_0, dX7_feed_1, dX7_feed_2, dX7_feed_3, dX7_feed_6, dX7_feed_9, dX7_feed_10, dX7_feed_12, dX7_feed_15, dX7_feed_16, dX7_feed_17, dX7_feed_20, dX7_feed_21, dX7_feed_22, dX7_feed_24, dX7_feed_27, dX7_feed_28, dX7_feed_30, dX7_feed_33, dX7_feed_34, dX7_feed_35, dX7_feed_36, dX7_feed_37, dX7_feed_38, dX7_feed_39, dX7_feed_42, dX7_feed_43, dX7_feed_46, dX7_feed_47, dX7_feed_50, dX7_feed_51, dX7_feed_53, dX7_feed_54, dX7_feed_55, dX7_feed_56, dX7_feed_59, dX7_feed_60, dX7_feed_61, dX7_feed_62, dX7_feed_63, dX7_feed_66, dX7_feed_67, dX7_feed_68, dX7_feed_71, dX7_feed_74, dX7_feed_77, dX7_feed_78, dX7_feed_81, cr_7_75, cr_7_88, fr_7_243, fr_7_31, kr_7_108, kr_7_69, skr_7_108, skr_7_69, al_10, al_11, al_12, al_13, al_14, al_16, al_17, al_18, al_19, al_2, al_20, al_21, al_23, al_24, al_27, al_28, al_29, al_3, al_30, al_31, al_32, al_34, al_36, al_37, al_38, al_39, al_4, al_40, al_41, al_42, al_43, al_45, al_46, al_47, al_48, al_49, al_5, al_52, al_53, al_54, al_55, al_56, al_57, al_58, al_6, al_60, al_61, al_62, al_63, al_64, al_65, al_66, al_67, al_69, al_7, al_70, al_71, al_72, al_73, al_9, cat_i, cat_l, cat_r, cat_u, gf_6_11_59, gf_6_12_59, pcl_0, pcl_1, pcl_100, pcl_101, pcl_102, pcl_103, pcl_104, pcl_105, pcl_106, pcl_107, pcl_108, pcl_109, pcl_110, pcl_111, pcl_112, pcl_15, pcl_22, pcl_25, pcl_26, pcl_33, pcl_44, pcl_50, pcl_59, pcl_8, pft_6_12, rOK_i, rOK_z, v_aload_0, v_bipush_120, v_bipush_8, v_dup, v_getfield, v_goto, v_iadd, v_iand, v_iastore, v_ic_le, v_iconst_1, v_iconst_4, v_if_lt, v_if_ne, v_iinc_3, v_iload_1, v_iload_2, v_iload_3, v_imul, v_invs, v_invv, v_ireturn, v_ishr, v_istore_3, v_isub, v_ldc, v_putfield, v_sipush_255, vcS_3_1, vcV_2_6, vgf_i, vgf_r, vgf_s, vld_i, vld_s, vpf_s, vc_d, rr_0, rr_1, csT_h, csT_t, csT_n, bI_0, bI_1, bI_z, bT, List.mem_cons, List.not_mem_nil, List.length_cons, List.length_nil, ite_not, ↓reduceIte, true_and, and_true, not_true_eq_false, not_false_eq_true, false_or, or_false, or_true, true_or, Nat.reduceAdd, Nat.reduceEqDiff, Nat.reduceBEq, Nat.reduceLeDiff, Nat.reduceLT, Nat.reduceSub, Int.reduceAdd, Int.reduceLE, Int.reduceLT, Int.reduceToNat, Int.reduceNeg, Int.reduceNatCast', reduceCtorEq, Int32.reduceOfInt, Int32.reduceOfNat, Int32.reduceToNatClampNeg, Int32.reduceToInt, i10, i01, nEM, pe_X7_within, fn_0, fn_1, fn_2, fn_3, fn_4, fn_5, fn_6]
    by_cases h1 : ¬ n < 1 ∧ ¬ 4 < n
    · rw [if_pos h1] at h ⊢
      by_cases h3 : M 59 12 + n ≤ 120
      · rw [if_pos h3] at h ⊢
        obtain ⟨m, hm, rfl⟩ := nI_of2 (M := 4) (n := 4) rfl (fun z => h1.1 (by
          rw [Int32.lt_iff_toInt_lt] at z ⊢
          simp only [Int32.reduceToInt] at z ⊢
          omega)) (Int32.not_lt.mp h1.2)
        rw [nI_clamp (by omega)] at h
        rw [he, nI_add] at h3
        exact lp_feedM m t M hm he ((nI_leI (b := 120) (by omega) (by decide)).mp h3) h
      · rw [if_neg h3] at h ⊢
        exact h
    · rw [if_neg h1] at h ⊢
      exact h

theorem s_X7_feed {d : Nat} (hd : 2 ≤ d) : Snd d 200 pf_X7_feed := by
  intro args M k h
  unfold pf_X7_feed at h
  split at h
  · exact c_X7_feed hd h
  · exact h.elim
/-- planks on which walker i of the row wouldn't fall: how many -/
def gdM (r : Nat → Int32) (i : Nat) : Nat := 12 - popc (stN (fun j => ¬ abI (r (wf i 1) - plr r j) ≤ brs (r (wf i 0)) (r (wf i 2)) (r 3)) 12 0 0)
set_option maxRecDepth 100000 in
set_option maxHeartbeats 4000000 in
theorem lp_oddsP {d : Nat} {M : Mem} {k : Value → Mem → Prop} {w q : Int32} {m g c : Nat} {x6 : Value} (h6 : x6.category = 1) (hm : m ≤ 14) (hc : 0 < c) (hc2 : c ≤ 12) : ∀ (n i : Nat) (t : Int64), i + n = m → k (.long (powL ((if q = 0 then nI g else 12) / nI c).toInt64 n t)) M → WP (7, yX7_odds, cX7_odds, 10, (some .long)) (d + 1) k 85 [.ref 59, .int w, .int (nI m), .int q, .int (nI g), .int (nI c), x6, .long t, .retAddr 0, .int (nI i)] [] M := by
  have c0 : ¬ nI c = 0 := nI_ne0 hc (by omega)
  intro n
  induction n with
  | zero =>
    intro i t hi h
    have c1 : nI m ≤ nI i := nI_le (by omega) (by omega)
    refine goV (n := 80) [] [85] T_nil ?_
    simp only [dX7_odds_0, dX7_odds_1, dX7_odds_2, dX7_odds_5, dX7_odds_8, dX7_odds_9, dX7_odds_10, dX7_odds_12, dX7_odds_15, dX7_odds_18, dX7_odds_19, dX7_odds_20, dX7_odds_21, dX7_odds_24, dX7_odds_27, dX7_odds_28, dX7_odds_30, dX7_odds_33, dX7_odds_34, dX7_odds_35, dX7_odds_37, dX7_odds_38, dX7_odds_39, dX7_odds_42, dX7_odds_45, dX7_odds_46, dX7_odds_48, dX7_odds_50, dX7_odds_52, dX7_odds_54, dX7_odds_56, dX7_odds_58, dX7_odds_61, dX7_odds_63, dX7_odds_65, dX7_odds_66, dX7_odds_68, dX7_odds_70, dX7_odds_72, dX7_odds_74, dX7_odds_76, dX7_odds_79, dX7_odds_80, dX7_odds_82, dX7_odds_83, dX7_odds_85, dX7_odds_87, dX7_odds_88, dX7_odds_91, dX7_odds_93, dX7_odds_94, dX7_odds_97, dX7_odds_99, dX7_odds_102, dX7_odds_104, dX7_odds_106, dX7_odds_107, dX7_odds_108, dX7_odds_109, dX7_odds_111, dX7_odds_114, dX7_odds_117, dX7_odds_119, cr_7_126, cr_7_129, cr_7_152, cr_7_75, cr_7_88, kr_7_69, skr_7_69, al_10, al_11, al_12, al_13, al_14, al_16, al_17, al_18, al_19, al_2, al_20, al_21, al_23, al_24, al_27, al_28, al_29, al_3, al_30, al_31, al_32, al_34, al_36, al_37, al_38, al_39, al_4, al_40, al_41, al_42, al_43, al_45, al_46, al_47, al_48, al_49, al_5, al_52, al_53, al_54, al_55, al_56, al_57, al_58, al_6, al_60, al_61, al_62, al_63, al_64, al_65, al_66, al_67, al_69, al_7, al_70, al_71, al_72, al_73, al_9, cat_i, cat_l, cat_r, cat_u, pcl_0, pcl_1, pcl_100, pcl_101, pcl_102, pcl_103, pcl_104, pcl_105, pcl_106, pcl_107, pcl_108, pcl_109, pcl_110, pcl_111, pcl_112, pcl_15, pcl_22, pcl_25, pcl_26, pcl_33, pcl_44, pcl_50, pcl_59, pcl_8, v_aload_0, v_bipush_12, v_bipush_14, v_goto, v_i2l, v_ic_ge, v_iconst_0, v_iconst_1, v_idiv, v_if_eq, v_if_ne, v_iinc_9, v_iload_1, v_iload_2, v_iload_3, v_iload_4, v_iload_5, v_iload_6, v_iload_7, v_iload_9, v_invs, v_invv, v_irem, v_istore_4, v_istore_5, v_istore_6, v_istore_7, v_istore_9, v_isub, v_lconst_1, v_ldc, v_lload_7, v_lmul, v_lreturn, v_lstore_7, vcS_1_1, vcS_3_1, vcV_2_6, vld_i, vld_s, vc_d, rr_0, rr_1, csT_h, csT_t, csT_n, bI_0, bI_1, bI_z, bT, List.mem_cons, List.not_mem_nil, List.length_cons, List.length_nil, ite_not, ↓reduceIte, true_and, and_true, not_true_eq_false, not_false_eq_true, false_or, or_false, or_true, true_or, Nat.reduceAdd, Nat.reduceEqDiff, Nat.reduceBEq, Nat.reduceLeDiff, Nat.reduceLT, Nat.reduceSub, Int.reduceAdd, Int.reduceLE, Int.reduceLT, Int.reduceToNat, Int.reduceNeg, Int.reduceNatCast', reduceCtorEq, Int32.reduceOfInt, Int32.reduceOfNat, Int32.reduceToNatClampNeg, Int32.reduceToInt, i10, i01, nEM, c1]
    exact h
  | succ n ih =>
    intro i t hi h
    have c1 : ¬ nI m ≤ nI i := nI_ge (by omega) (by omega)
    refine goV (n := 80) [] [85] T_nil ?_
    simp only [dX7_odds_0, dX7_odds_1, dX7_odds_2, dX7_odds_5, dX7_odds_8, dX7_odds_9, dX7_odds_10, dX7_odds_12, dX7_odds_15, dX7_odds_18, dX7_odds_19, dX7_odds_20, dX7_odds_21, dX7_odds_24, dX7_odds_27, dX7_odds_28, dX7_odds_30, dX7_odds_33, dX7_odds_34, dX7_odds_35, dX7_odds_37, dX7_odds_38, dX7_odds_39, dX7_odds_42, dX7_odds_45, dX7_odds_46, dX7_odds_48, dX7_odds_50, dX7_odds_52, dX7_odds_54, dX7_odds_56, dX7_odds_58, dX7_odds_61, dX7_odds_63, dX7_odds_65, dX7_odds_66, dX7_odds_68, dX7_odds_70, dX7_odds_72, dX7_odds_74, dX7_odds_76, dX7_odds_79, dX7_odds_80, dX7_odds_82, dX7_odds_83, dX7_odds_85, dX7_odds_87, dX7_odds_88, dX7_odds_91, dX7_odds_93, dX7_odds_94, dX7_odds_97, dX7_odds_99, dX7_odds_102, dX7_odds_104, dX7_odds_106, dX7_odds_107, dX7_odds_108, dX7_odds_109, dX7_odds_111, dX7_odds_114, dX7_odds_117, dX7_odds_119, cr_7_126, cr_7_129, cr_7_152, cr_7_75, cr_7_88, kr_7_69, skr_7_69, al_10, al_11, al_12, al_13, al_14, al_16, al_17, al_18, al_19, al_2, al_20, al_21, al_23, al_24, al_27, al_28, al_29, al_3, al_30, al_31, al_32, al_34, al_36, al_37, al_38, al_39, al_4, al_40, al_41, al_42, al_43, al_45, al_46, al_47, al_48, al_49, al_5, al_52, al_53, al_54, al_55, al_56, al_57, al_58, al_6, al_60, al_61, al_62, al_63, al_64, al_65, al_66, al_67, al_69, al_7, al_70, al_71, al_72, al_73, al_9, cat_i, cat_l, cat_r, cat_u, pcl_0, pcl_1, pcl_100, pcl_101, pcl_102, pcl_103, pcl_104, pcl_105, pcl_106, pcl_107, pcl_108, pcl_109, pcl_110, pcl_111, pcl_112, pcl_15, pcl_22, pcl_25, pcl_26, pcl_33, pcl_44, pcl_50, pcl_59, pcl_8, v_aload_0, v_bipush_12, v_bipush_14, v_goto, v_i2l, v_ic_ge, v_iconst_0, v_iconst_1, v_idiv, v_if_eq, v_if_ne, v_iinc_9, v_iload_1, v_iload_2, v_iload_3, v_iload_4, v_iload_5, v_iload_6, v_iload_7, v_iload_9, v_invs, v_invv, v_irem, v_istore_4, v_istore_5, v_istore_6, v_istore_7, v_istore_9, v_isub, v_lconst_1, v_ldc, v_lload_7, v_lmul, v_lreturn, v_lstore_7, vcS_1_1, vcS_3_1, vcV_2_6, vld_i, vld_s, vc_d, rr_0, rr_1, csT_h, csT_t, csT_n, bI_0, bI_1, bI_z, bT, List.mem_cons, List.not_mem_nil, List.length_cons, List.length_nil, ite_not, ↓reduceIte, true_and, and_true, not_true_eq_false, not_false_eq_true, false_or, or_false, or_true, true_or, Nat.reduceAdd, Nat.reduceEqDiff, Nat.reduceBEq, Nat.reduceLeDiff, Nat.reduceLT, Nat.reduceSub, Int.reduceAdd, Int.reduceLE, Int.reduceLT, Int.reduceToNat, Int.reduceNeg, Int.reduceNatCast', reduceCtorEq, Int32.reduceOfInt, Int32.reduceOfNat, Int32.reduceToNatClampNeg, Int32.reduceToInt, i10, i01, nEM, c1, c0, nI_1, not_false_eq_true]
    rw [powL] at h
    by_cases hq : q = 0
    · rw [if_pos hq]
      rw [if_pos hq] at h
      exact ⟨h6, ih (i + 1) _ (by omega) (by rw [if_pos hq]; exact h)⟩
    · rw [if_neg hq]
      rw [if_neg hq] at h
      exact ⟨h6, ih (i + 1) _ (by omega) (by rw [if_neg hq]; exact h)⟩
set_option maxRecDepth 100000 in
set_option maxHeartbeats 4000000 in
theorem lp_oddsG {d : Nat} {M : Mem} {k : Value → Mem → Prop} {w q : Int32} {m g : Nat} (hm : m ≤ 14) (hk : ∀ c, c = Nat.gcd 12 g → 0 < c → c ≤ 12 → k (.long (powL ((if q = 0 then nI g else 12) / nI c).toInt64 m 1)) M) : ∀ (n a b : Nat) (x7 : Value), b < n → a ≤ 12 → b ≤ 12 → 0 < a + b → Nat.gcd a b = Nat.gcd 12 g → WP (7, yX7_odds, cX7_odds, 10, (some .long)) (d + 1) k 56 [.ref 59, .int w, .int (nI m), .int q, .int (nI g), .int (nI a), .int (nI b), x7, .retAddr 0, .retAddr 0] [] M := by
  intro n
  induction n with
  | zero => intro a b x7 h; omega
  | succ n ih =>
    intro a b x7 hb ha h12 hp hg
    refine goV (n := 80) [] [56, 85] T_nil ?_
    cases b with
    | zero =>
      simp only [dX7_odds_0, dX7_odds_1, dX7_odds_2, dX7_odds_5, dX7_odds_8, dX7_odds_9, dX7_odds_10, dX7_odds_12, dX7_odds_15, dX7_odds_18, dX7_odds_19, dX7_odds_20, dX7_odds_21, dX7_odds_24, dX7_odds_27, dX7_odds_28, dX7_odds_30, dX7_odds_33, dX7_odds_34, dX7_odds_35, dX7_odds_37, dX7_odds_38, dX7_odds_39, dX7_odds_42, dX7_odds_45, dX7_odds_46, dX7_odds_48, dX7_odds_50, dX7_odds_52, dX7_odds_54, dX7_odds_56, dX7_odds_58, dX7_odds_61, dX7_odds_63, dX7_odds_65, dX7_odds_66, dX7_odds_68, dX7_odds_70, dX7_odds_72, dX7_odds_74, dX7_odds_76, dX7_odds_79, dX7_odds_80, dX7_odds_82, dX7_odds_83, dX7_odds_85, dX7_odds_87, dX7_odds_88, dX7_odds_91, dX7_odds_93, dX7_odds_94, dX7_odds_97, dX7_odds_99, dX7_odds_102, dX7_odds_104, dX7_odds_106, dX7_odds_107, dX7_odds_108, dX7_odds_109, dX7_odds_111, dX7_odds_114, dX7_odds_117, dX7_odds_119, cr_7_126, cr_7_129, cr_7_152, cr_7_75, cr_7_88, kr_7_69, skr_7_69, al_10, al_11, al_12, al_13, al_14, al_16, al_17, al_18, al_19, al_2, al_20, al_21, al_23, al_24, al_27, al_28, al_29, al_3, al_30, al_31, al_32, al_34, al_36, al_37, al_38, al_39, al_4, al_40, al_41, al_42, al_43, al_45, al_46, al_47, al_48, al_49, al_5, al_52, al_53, al_54, al_55, al_56, al_57, al_58, al_6, al_60, al_61, al_62, al_63, al_64, al_65, al_66, al_67, al_69, al_7, al_70, al_71, al_72, al_73, al_9, cat_i, cat_l, cat_r, cat_u, pcl_0, pcl_1, pcl_100, pcl_101, pcl_102, pcl_103, pcl_104, pcl_105, pcl_106, pcl_107, pcl_108, pcl_109, pcl_110, pcl_111, pcl_112, pcl_15, pcl_22, pcl_25, pcl_26, pcl_33, pcl_44, pcl_50, pcl_59, pcl_8, v_aload_0, v_bipush_12, v_bipush_14, v_goto, v_i2l, v_ic_ge, v_iconst_0, v_iconst_1, v_idiv, v_if_eq, v_if_ne, v_iinc_9, v_iload_1, v_iload_2, v_iload_3, v_iload_4, v_iload_5, v_iload_6, v_iload_7, v_iload_9, v_invs, v_invv, v_irem, v_istore_4, v_istore_5, v_istore_6, v_istore_7, v_istore_9, v_isub, v_lconst_1, v_ldc, v_lload_7, v_lmul, v_lreturn, v_lstore_7, vcS_1_1, vcS_3_1, vcV_2_6, vld_i, vld_s, vc_d, rr_0, rr_1, csT_h, csT_t, csT_n, bI_0, bI_1, bI_z, bT, List.mem_cons, List.not_mem_nil, List.length_cons, List.length_nil, ite_not, ↓reduceIte, true_and, and_true, not_true_eq_false, not_false_eq_true, false_or, or_false, or_true, true_or, Nat.reduceAdd, Nat.reduceEqDiff, Nat.reduceBEq, Nat.reduceLeDiff, Nat.reduceLT, Nat.reduceSub, Int.reduceAdd, Int.reduceLE, Int.reduceLT, Int.reduceToNat, Int.reduceNeg, Int.reduceNatCast', reduceCtorEq, Int32.reduceOfInt, Int32.reduceOfNat, Int32.reduceToNatClampNeg, Int32.reduceToInt, i10, i01, nEM, show (nI 0 = 0) = True from by decide]
      rw [Nat.gcd_zero_right] at hg
      exact lp_oddsP rfl hm (by omega) ha m 0 1 (by omega) (hk a hg (by omega) ha)
    | succ b =>
      have c1 : (nI (b + 1) = 0) = False := eq_false (nI_ne0 (by omega) (by omega))
      have e := pk_rem (a := a) (d := b + 1) (by omega) (by omega) (by omega)
      simp only [dX7_odds_0, dX7_odds_1, dX7_odds_2, dX7_odds_5, dX7_odds_8, dX7_odds_9, dX7_odds_10, dX7_odds_12, dX7_odds_15, dX7_odds_18, dX7_odds_19, dX7_odds_20, dX7_odds_21, dX7_odds_24, dX7_odds_27, dX7_odds_28, dX7_odds_30, dX7_odds_33, dX7_odds_34, dX7_odds_35, dX7_odds_37, dX7_odds_38, dX7_odds_39, dX7_odds_42, dX7_odds_45, dX7_odds_46, dX7_odds_48, dX7_odds_50, dX7_odds_52, dX7_odds_54, dX7_odds_56, dX7_odds_58, dX7_odds_61, dX7_odds_63, dX7_odds_65, dX7_odds_66, dX7_odds_68, dX7_odds_70, dX7_odds_72, dX7_odds_74, dX7_odds_76, dX7_odds_79, dX7_odds_80, dX7_odds_82, dX7_odds_83, dX7_odds_85, dX7_odds_87, dX7_odds_88, dX7_odds_91, dX7_odds_93, dX7_odds_94, dX7_odds_97, dX7_odds_99, dX7_odds_102, dX7_odds_104, dX7_odds_106, dX7_odds_107, dX7_odds_108, dX7_odds_109, dX7_odds_111, dX7_odds_114, dX7_odds_117, dX7_odds_119, cr_7_126, cr_7_129, cr_7_152, cr_7_75, cr_7_88, kr_7_69, skr_7_69, al_10, al_11, al_12, al_13, al_14, al_16, al_17, al_18, al_19, al_2, al_20, al_21, al_23, al_24, al_27, al_28, al_29, al_3, al_30, al_31, al_32, al_34, al_36, al_37, al_38, al_39, al_4, al_40, al_41, al_42, al_43, al_45, al_46, al_47, al_48, al_49, al_5, al_52, al_53, al_54, al_55, al_56, al_57, al_58, al_6, al_60, al_61, al_62, al_63, al_64, al_65, al_66, al_67, al_69, al_7, al_70, al_71, al_72, al_73, al_9, cat_i, cat_l, cat_r, cat_u, pcl_0, pcl_1, pcl_100, pcl_101, pcl_102, pcl_103, pcl_104, pcl_105, pcl_106, pcl_107, pcl_108, pcl_109, pcl_110, pcl_111, pcl_112, pcl_15, pcl_22, pcl_25, pcl_26, pcl_33, pcl_44, pcl_50, pcl_59, pcl_8, v_aload_0, v_bipush_12, v_bipush_14, v_goto, v_i2l, v_ic_ge, v_iconst_0, v_iconst_1, v_idiv, v_if_eq, v_if_ne, v_iinc_9, v_iload_1, v_iload_2, v_iload_3, v_iload_4, v_iload_5, v_iload_6, v_iload_7, v_iload_9, v_invs, v_invv, v_irem, v_istore_4, v_istore_5, v_istore_6, v_istore_7, v_istore_9, v_isub, v_lconst_1, v_ldc, v_lload_7, v_lmul, v_lreturn, v_lstore_7, vcS_1_1, vcS_3_1, vcV_2_6, vld_i, vld_s, vc_d, rr_0, rr_1, csT_h, csT_t, csT_n, bI_0, bI_1, bI_z, bT, List.mem_cons, List.not_mem_nil, List.length_cons, List.length_nil, ite_not, ↓reduceIte, true_and, and_true, not_true_eq_false, not_false_eq_true, false_or, or_false, or_true, true_or, Nat.reduceAdd, Nat.reduceEqDiff, Nat.reduceBEq, Nat.reduceLeDiff, Nat.reduceLT, Nat.reduceSub, Int.reduceAdd, Int.reduceLE, Int.reduceLT, Int.reduceToNat, Int.reduceNeg, Int.reduceNatCast', reduceCtorEq, Int32.reduceOfInt, Int32.reduceOfNat, Int32.reduceToNatClampNeg, Int32.reduceToInt, i10, i01, nEM, c1, e, not_false_eq_true]
      have hlt : a % (b + 1) < b + 1 := Nat.mod_lt _ (by omega)
      refine ih (b + 1) (a % (b + 1)) _ (by omega) h12 (by omega) (by omega) ?_
      rw [Nat.gcd_comm, ← Nat.gcd_rec, Nat.gcd_comm]
      exact hg
def pf_X7_odds : PF := fun args M k => match args with
  | [.ref o, .int w, .int n, .int q] => (o = 59 ∧ IM (M 60)) ∧ (if hasM (M 60) w ∧ ¬ n < 0 ∧ ¬ 14 < n ∧ (q = 0 ∨ q = 1) then k (.long (odF (gdM (M 60) (w).toNatClampNeg) (n).toNatClampNeg q)) M else k (.long (-1000001)) (fndM M 0))
  | _ => False
theorem pe_X7_odds {o : Nat} {w : Int32} {n : Int32} {q : Int32} {M : Mem} {k : Value → Mem → Prop} : pf_X7_odds [.ref o, .int w, .int n, .int q] M k = ((o = 59 ∧ IM (M 60)) ∧ (if hasM (M 60) w ∧ ¬ n < 0 ∧ ¬ 14 < n ∧ (q = 0 ∨ q = 1) then k (.long (odF (gdM (M 60) (w).toNatClampNeg) (n).toNatClampNeg q)) M else k (.long (-1000001)) (fndM M 0))) := rfl
theorem le_X7_odds {o : Nat} {w : Int32} {n : Int32} {q : Int32} : lent 10 ([.ref o, .int w, .int n, .int q] : List Value) = [.ref o, .int w, .int n, .int q, .retAddr 0, .retAddr 0, .retAddr 0, .retAddr 0, .retAddr 0, .retAddr 0] := rfl
set_option maxRecDepth 100000 in
set_option maxHeartbeats 4000000 in
theorem c_X7_odds {d : Nat} (hd : 6 ≤ d) {o : Nat} {w : Int32} {n : Int32} {q : Int32} {M : Mem} {k : Value → Mem → Prop} (h : (o = 59 ∧ IM (M 60)) ∧ (if hasM (M 60) w ∧ ¬ n < 0 ∧ ¬ 14 < n ∧ (q = 0 ∨ q = 1) then k (.long (odF (gdM (M 60) (w).toNatClampNeg) (n).toNatClampNeg q)) M else k (.long (-1000001)) (fndM M 0))) : CallP d 198 [.ref o, .int w, .int n, .int q] M k := by
  obtain ⟨hp, h⟩ := h
  obtain ⟨d, rfl⟩ : ∃ d', d = d' + 1 := ⟨d - 1, by omega⟩
  obtain ⟨rfl, hI⟩ := hp
  · refine enterV (n := 80) [(136, pf_X7_isWalker), (126, pf_X7_within), (125, pf_X7_finding), (146, pf_X7_fallsOn), (132, pf_X7_bits)] [56] mI_198 (by decide) (Nat.le_of_ble_eq_true rfl) (T_cons (s_X7_isWalker (by omega)) (T_cons (s_X7_within (by omega)) (T_cons (s_X7_finding (by omega)) (T_cons (s_X7_fallsOn (by omega)) (T_cons (s_X7_bits (by omega)) T_nil))))) ?_
    rw [le_X7_odds]
    simp only [dX7_odds_0, dX7_odds_1, dX7_odds_2, dX7_odds_5, dX7_odds_8, dX7_odds_9, dX7_odds_10, dX7_odds_12, dX7_odds_15, dX7_odds_18, dX7_odds_19, dX7_odds_20, dX7_odds_21, dX7_odds_24, dX7_odds_27, dX7_odds_28, dX7_odds_30, dX7_odds_33, dX7_odds_34, dX7_odds_35, dX7_odds_37, dX7_odds_38, dX7_odds_39, dX7_odds_42, dX7_odds_45, dX7_odds_46, dX7_odds_48, dX7_odds_50, dX7_odds_52, dX7_odds_54, dX7_odds_56, dX7_odds_58, dX7_odds_61, dX7_odds_63, dX7_odds_65, dX7_odds_66, dX7_odds_68, dX7_odds_70, dX7_odds_72, dX7_odds_74, dX7_odds_76, dX7_odds_79, dX7_odds_80, dX7_odds_82, dX7_odds_83, dX7_odds_85, dX7_odds_87, dX7_odds_88, dX7_odds_91, dX7_odds_93, dX7_odds_94, dX7_odds_97, dX7_odds_99, dX7_odds_102, dX7_odds_104, dX7_odds_106, dX7_odds_107, dX7_odds_108, dX7_odds_109, dX7_odds_111, dX7_odds_114, dX7_odds_117, dX7_odds_119, cr_7_126, cr_7_129, cr_7_152, cr_7_75, cr_7_88, kr_7_69, skr_7_69, al_10, al_11, al_12, al_13, al_14, al_16, al_17, al_18, al_19, al_2, al_20, al_21, al_23, al_24, al_27, al_28, al_29, al_3, al_30, al_31, al_32, al_34, al_36, al_37, al_38, al_39, al_4, al_40, al_41, al_42, al_43, al_45, al_46, al_47, al_48, al_49, al_5, al_52, al_53, al_54, al_55, al_56, al_57, al_58, al_6, al_60, al_61, al_62, al_63, al_64, al_65, al_66, al_67, al_69, al_7, al_70, al_71, al_72, al_73, al_9, cat_i, cat_l, cat_r, cat_u, pcl_0, pcl_1, pcl_100, pcl_101, pcl_102, pcl_103, pcl_104, pcl_105, pcl_106, pcl_107, pcl_108, pcl_109, pcl_110, pcl_111, pcl_112, pcl_15, pcl_22, pcl_25, pcl_26, pcl_33, pcl_44, pcl_50, pcl_59, pcl_8, v_aload_0, v_bipush_12, v_bipush_14, v_goto, v_i2l, v_ic_ge, v_iconst_0, v_iconst_1, v_idiv, v_if_eq, v_if_ne, v_iinc_9, v_iload_1, v_iload_2, v_iload_3, v_iload_4, v_iload_5, v_iload_6, v_iload_7, v_iload_9, v_invs, v_invv, v_irem, v_istore_4, v_istore_5, v_istore_6, v_istore_7, v_istore_9, v_isub, v_lconst_1, v_ldc, v_lload_7, v_lmul, v_lreturn, v_lstore_7, vcS_1_1, vcS_3_1, vcV_2_6, vld_i, vld_s, vc_d, rr_0, rr_1, csT_h, csT_t, csT_n, bI_0, bI_1, bI_z, bT, List.mem_cons, List.not_mem_nil, List.length_cons, List.length_nil, ite_not, ↓reduceIte, true_and, and_true, not_true_eq_false, not_false_eq_true, false_or, or_false, or_true, true_or, Nat.reduceAdd, Nat.reduceEqDiff, Nat.reduceBEq, Nat.reduceLeDiff, Nat.reduceLT, Nat.reduceSub, Int.reduceAdd, Int.reduceLE, Int.reduceLT, Int.reduceToNat, Int.reduceNeg, Int.reduceNatCast', reduceCtorEq, Int32.reduceOfInt, Int32.reduceOfNat, Int32.reduceToNatClampNeg, Int32.reduceToInt, i10, i01, nEM, pe_X7_isWalker, pe_X7_within, fn_0, fn_1, fn_2, fn_3, fn_4, fn_5, fn_6, pe_X7_fallsOn, pe_X7_bits, hI, v01]
    by_cases h1 : hasM (M 60) w
    · rw [if_pos h1]
      have hw := hasM_o h1
      by_cases h2 : ¬ n < 0 ∧ ¬ 14 < n
      · rw [if_pos h2]
        by_cases h3 : q = 0 ∨ q = 1
        · rw [if_pos h3]
          rw [if_pos ⟨h1, h2.1, h2.2, h3⟩] at h
          refine ⟨hw, ?_⟩
          obtain ⟨m, hm, rfl⟩ := nI_of2 (M := 14) (n := 14) rfl h2.1 (Int32.not_lt.mp h2.2)
          rw [nI_clamp (show m < 2 ^ 31 by omega)] at h
          rw [unf_st, show (0 : Int32) = nI 0 from rfl, stF_N 12 0 0 (by decide)]
          have hl := stN_lt (c := fun j => ¬ abI (M 60 (wf (w).toNatClampNeg 1) - plr (M 60) j) ≤ brs (M 60 (wf (w).toNatClampNeg 0)) (M 60 (wf (w).toNatClampNeg 2)) (M 60 3)) 12 0 0 (by decide)
          have hl2 : stN (fun j => ¬ abI (M 60 (wf (w).toNatClampNeg 1) - plr (M 60) j) ≤ brs (M 60 (wf (w).toNatClampNeg 0)) (M 60 (wf (w).toNatClampNeg 2)) (M 60 3)) 12 0 0 < 4096 := hl
          refine ⟨⟨_, hl2, rfl⟩, ?_⟩
          rw [nI_clamp (by omega)]
          have hpc := popc_le (stN (fun j => ¬ abI (M 60 (wf (w).toNatClampNeg 1) - plr (M 60) j) ≤ brs (M 60 (wf (w).toNatClampNeg 0)) (M 60 (wf (w).toNatClampNeg 2)) (M 60 3)) 12 0 0)
          have e12 : (12 : Int32) - nI (popc (stN (fun j => ¬ abI (M 60 (wf (w).toNatClampNeg 1) - plr (M 60) j) ≤ brs (M 60 (wf (w).toNatClampNeg 0)) (M 60 (wf (w).toNatClampNeg 2)) (M 60 3)) 12 0 0)) = nI (gdM (M 60) (w).toNatClampNeg) := by
            rw [show (12 : Int32) = nI 12 from rfl, pk_sub hpc]
            rfl
          rw [e12]
          exact lp_oddsG hm (fun c hc _ _ => by rw [hc]; exact h) (gdM (M 60) (w).toNatClampNeg + 1) 12 (gdM (M 60) (w).toNatClampNeg) (.retAddr 0) (by omega) (Nat.le_refl _) (by unfold gdM; omega) (by omega) rfl
        · rw [if_neg h3]
          rw [if_neg (fun z => h3 z.2.2.2)] at h
          exact h
      · rw [if_neg h2]
        rw [if_neg (fun z => h2 ⟨z.2.1, z.2.2.1⟩)] at h
        exact h
    · rw [if_neg (fun z => h1 z.1)] at h
      rw [if_neg h1]
      exact h

theorem s_X7_odds {d : Nat} (hd : 6 ≤ d) : Snd d 198 pf_X7_odds := by
  intro args M k h
  unfold pf_X7_odds at h
  split at h
  · exact c_X7_odds hd h
  · exact h.elim
set_option maxRecDepth 100000 in
set_option maxHeartbeats 4000000 in
theorem lp_unlikeOf {d : Nat} (hd : 7 ≤ d) {M : Mem} {k : Value → Mem → Prop} {x y : Nat} (hx : x < 6) (hy : y < 6) : ∀ (n i : Nat) (s : Int32) (a : Nat → Int32), i + n = 12 → (∀ a, k (.int (dfF (plr (crr (M 60) x)) (plr (crr (M 60) y)) n i s)) (j2 M a (M 60))) → WP (7, yX7_unlikeOf, cX7_unlikeOf, 5, (some .int)) (d + 1) k 5 [.ref 59, .int (nI x), .int (nI y), .int s, .int (nI i)] [] (j2 M a (M 60)) := by
  have cx : (nI x).toNatClampNeg = x := nI_clamp (by omega)
  have cy : (nI y).toNatClampNeg = y := nI_clamp (by omega)
  have ox := nOK hx
  have oy := nOK hy
  intro n
  induction n with
  | zero =>
    intro i s a hi h
    have : i = 12 := by omega
    subst this
    refine goV (n := 80) [] [5] T_nil ?_
    simp only [dX7_unlikeOf_0, dX7_unlikeOf_1, dX7_unlikeOf_2, dX7_unlikeOf_3, dX7_unlikeOf_5, dX7_unlikeOf_7, dX7_unlikeOf_9, dX7_unlikeOf_12, dX7_unlikeOf_13, dX7_unlikeOf_14, dX7_unlikeOf_15, dX7_unlikeOf_17, dX7_unlikeOf_19, dX7_unlikeOf_20, dX7_unlikeOf_23, dX7_unlikeOf_24, dX7_unlikeOf_25, dX7_unlikeOf_27, dX7_unlikeOf_29, dX7_unlikeOf_30, dX7_unlikeOf_33, dX7_unlikeOf_34, dX7_unlikeOf_37, dX7_unlikeOf_38, dX7_unlikeOf_39, dX7_unlikeOf_42, dX7_unlikeOf_45, dX7_unlikeOf_46, cr_7_116, cr_7_174, al_10, al_11, al_12, al_13, al_14, al_16, al_17, al_18, al_19, al_2, al_20, al_21, al_23, al_24, al_27, al_28, al_29, al_3, al_30, al_31, al_32, al_34, al_36, al_37, al_38, al_39, al_4, al_40, al_41, al_42, al_43, al_45, al_46, al_47, al_48, al_49, al_5, al_52, al_53, al_54, al_55, al_56, al_57, al_58, al_6, al_60, al_61, al_62, al_63, al_64, al_65, al_66, al_67, al_69, al_7, al_70, al_71, al_72, al_73, al_9, cat_i, cat_l, cat_r, cat_u, pcl_0, pcl_1, pcl_100, pcl_101, pcl_102, pcl_103, pcl_104, pcl_105, pcl_106, pcl_107, pcl_108, pcl_109, pcl_110, pcl_111, pcl_112, pcl_15, pcl_22, pcl_25, pcl_26, pcl_33, pcl_44, pcl_50, pcl_59, pcl_8, rOK_i, rOK_z, v_aload_0, v_bipush_12, v_bipush_14, v_goto, v_iadd, v_ic_ge, v_iconst_0, v_iinc_4, v_iload_1, v_iload_2, v_iload_3, v_iload_4, v_invs, v_invv, v_ireturn, v_istore_3, v_istore_4, v_isub, vcS_abs, vcV_3_6, vc_d, rr_0, rr_1, csT_h, csT_t, csT_n, bI_0, bI_1, bI_z, bT, List.mem_cons, List.not_mem_nil, List.length_cons, List.length_nil, ite_not, ↓reduceIte, true_and, and_true, not_true_eq_false, not_false_eq_true, false_or, or_false, or_true, true_or, Nat.reduceAdd, Nat.reduceEqDiff, Nat.reduceBEq, Nat.reduceLeDiff, Nat.reduceLT, Nat.reduceSub, Int.reduceAdd, Int.reduceLE, Int.reduceLT, Int.reduceToNat, Int.reduceNeg, Int.reduceNatCast', reduceCtorEq, Int32.reduceOfInt, Int32.reduceOfNat, Int32.reduceToNatClampNeg, Int32.reduceToInt, i10, i01, nEM, show (12 : Int32) ≤ nI 12 from by decide]
    exact h a
  | succ n ih =>
    intro i s a hi h
    have c1 : ¬ (12 : Int32) ≤ nI i := nI_ge (b := 12) (by omega) (by decide)
    have c3 : (nI (14 + i)).toNatClampNeg = 14 + i := nI_clamp (by omega)
    have c4 : ¬ nI (14 + i) < 0 := nI_pos (by omega)
    have c5 : ¬ 50 ≤ nI (14 + i) := nI_ge (b := 50) (by omega) (by decide)
    refine goV (n := 80) [(163, pf_X7_behind)] [5] (T_cons (s_X7_behind hd) T_nil) ?_
    simp only [dX7_unlikeOf_0, dX7_unlikeOf_1, dX7_unlikeOf_2, dX7_unlikeOf_3, dX7_unlikeOf_5, dX7_unlikeOf_7, dX7_unlikeOf_9, dX7_unlikeOf_12, dX7_unlikeOf_13, dX7_unlikeOf_14, dX7_unlikeOf_15, dX7_unlikeOf_17, dX7_unlikeOf_19, dX7_unlikeOf_20, dX7_unlikeOf_23, dX7_unlikeOf_24, dX7_unlikeOf_25, dX7_unlikeOf_27, dX7_unlikeOf_29, dX7_unlikeOf_30, dX7_unlikeOf_33, dX7_unlikeOf_34, dX7_unlikeOf_37, dX7_unlikeOf_38, dX7_unlikeOf_39, dX7_unlikeOf_42, dX7_unlikeOf_45, dX7_unlikeOf_46, cr_7_116, cr_7_174, al_10, al_11, al_12, al_13, al_14, al_16, al_17, al_18, al_19, al_2, al_20, al_21, al_23, al_24, al_27, al_28, al_29, al_3, al_30, al_31, al_32, al_34, al_36, al_37, al_38, al_39, al_4, al_40, al_41, al_42, al_43, al_45, al_46, al_47, al_48, al_49, al_5, al_52, al_53, al_54, al_55, al_56, al_57, al_58, al_6, al_60, al_61, al_62, al_63, al_64, al_65, al_66, al_67, al_69, al_7, al_70, al_71, al_72, al_73, al_9, cat_i, cat_l, cat_r, cat_u, pcl_0, pcl_1, pcl_100, pcl_101, pcl_102, pcl_103, pcl_104, pcl_105, pcl_106, pcl_107, pcl_108, pcl_109, pcl_110, pcl_111, pcl_112, pcl_15, pcl_22, pcl_25, pcl_26, pcl_33, pcl_44, pcl_50, pcl_59, pcl_8, rOK_i, rOK_z, v_aload_0, v_bipush_12, v_bipush_14, v_goto, v_iadd, v_ic_ge, v_iconst_0, v_iinc_4, v_iload_1, v_iload_2, v_iload_3, v_iload_4, v_invs, v_invv, v_ireturn, v_istore_3, v_istore_4, v_isub, vcS_abs, vcV_3_6, vc_d, rr_0, rr_1, csT_h, csT_t, csT_n, bI_0, bI_1, bI_z, bT, List.mem_cons, List.not_mem_nil, List.length_cons, List.length_nil, ite_not, ↓reduceIte, true_and, and_true, not_true_eq_false, not_false_eq_true, false_or, or_false, or_true, true_or, Nat.reduceAdd, Nat.reduceEqDiff, Nat.reduceBEq, Nat.reduceLeDiff, Nat.reduceLT, Nat.reduceSub, Int.reduceAdd, Int.reduceLE, Int.reduceLT, Int.reduceToNat, Int.reduceNeg, Int.reduceNatCast', reduceCtorEq, Int32.reduceOfInt, Int32.reduceOfNat, Int32.reduceToNatClampNeg, Int32.reduceToInt, i10, i01, nEM, pe_X7_behind, c1, p14, c3, c4, c5, cx, cy, ox, oy, nI_1, j2_60, j2_j2]
    intro a1 a2
    exact ih (i + 1) _ _ (by omega) h
def pf_X7_unlikeOf : PF := fun args M k => match args with
  | [.ref o, .int x, .int y] => (o = 59 ∧ wOK x ∧ wOK y) ∧ (∀ a, k (.int (dfF (plr (crr (M 60) (x).toNatClampNeg)) (plr (crr (M 60) (y).toNatClampNeg)) 12 0 0)) (j2 M a (M 60)))
  | _ => False
theorem pe_X7_unlikeOf {o : Nat} {x : Int32} {y : Int32} {M : Mem} {k : Value → Mem → Prop} : pf_X7_unlikeOf [.ref o, .int x, .int y] M k = ((o = 59 ∧ wOK x ∧ wOK y) ∧ (∀ a, k (.int (dfF (plr (crr (M 60) (x).toNatClampNeg)) (plr (crr (M 60) (y).toNatClampNeg)) 12 0 0)) (j2 M a (M 60)))) := rfl
theorem le_X7_unlikeOf {o : Nat} {x : Int32} {y : Int32} : lent 5 ([.ref o, .int x, .int y] : List Value) = [.ref o, .int x, .int y, .retAddr 0, .retAddr 0] := rfl
set_option maxRecDepth 100000 in
set_option maxHeartbeats 4000000 in
theorem c_X7_unlikeOf {d : Nat} (hd : 8 ≤ d) {o : Nat} {x : Int32} {y : Int32} {M : Mem} {k : Value → Mem → Prop} (h : (o = 59 ∧ wOK x ∧ wOK y) ∧ (∀ a, k (.int (dfF (plr (crr (M 60) (x).toNatClampNeg)) (plr (crr (M 60) (y).toNatClampNeg)) 12 0 0)) (j2 M a (M 60)))) : CallP d 186 [.ref o, .int x, .int y] M k := by
  obtain ⟨hp, h⟩ := h
  obtain ⟨d, rfl⟩ : ∃ d', d = d' + 1 := ⟨d - 1, by omega⟩
  obtain ⟨rfl, h1, h2⟩ := hp
  obtain ⟨x', hx, rfl⟩ := wOK_n h1
  obtain ⟨y', hy, rfl⟩ := wOK_n h2
  rw [nI_clamp (by omega), nI_clamp (by omega)] at h
  · refine enterV (n := 80) [] [5] mI_186 (by decide) (Nat.le_of_ble_eq_true rfl) T_nil ?_
    rw [le_X7_unlikeOf]
    simp only [dX7_unlikeOf_0, dX7_unlikeOf_1, dX7_unlikeOf_2, dX7_unlikeOf_3, dX7_unlikeOf_5, dX7_unlikeOf_7, dX7_unlikeOf_9, dX7_unlikeOf_12, dX7_unlikeOf_13, dX7_unlikeOf_14, dX7_unlikeOf_15, dX7_unlikeOf_17, dX7_unlikeOf_19, dX7_unlikeOf_20, dX7_unlikeOf_23, dX7_unlikeOf_24, dX7_unlikeOf_25, dX7_unlikeOf_27, dX7_unlikeOf_29, dX7_unlikeOf_30, dX7_unlikeOf_33, dX7_unlikeOf_34, dX7_unlikeOf_37, dX7_unlikeOf_38, dX7_unlikeOf_39, dX7_unlikeOf_42, dX7_unlikeOf_45, dX7_unlikeOf_46, cr_7_116, cr_7_174, al_10, al_11, al_12, al_13, al_14, al_16, al_17, al_18, al_19, al_2, al_20, al_21, al_23, al_24, al_27, al_28, al_29, al_3, al_30, al_31, al_32, al_34, al_36, al_37, al_38, al_39, al_4, al_40, al_41, al_42, al_43, al_45, al_46, al_47, al_48, al_49, al_5, al_52, al_53, al_54, al_55, al_56, al_57, al_58, al_6, al_60, al_61, al_62, al_63, al_64, al_65, al_66, al_67, al_69, al_7, al_70, al_71, al_72, al_73, al_9, cat_i, cat_l, cat_r, cat_u, pcl_0, pcl_1, pcl_100, pcl_101, pcl_102, pcl_103, pcl_104, pcl_105, pcl_106, pcl_107, pcl_108, pcl_109, pcl_110, pcl_111, pcl_112, pcl_15, pcl_22, pcl_25, pcl_26, pcl_33, pcl_44, pcl_50, pcl_59, pcl_8, rOK_i, rOK_z, v_aload_0, v_bipush_12, v_bipush_14, v_goto, v_iadd, v_ic_ge, v_iconst_0, v_iinc_4, v_iload_1, v_iload_2, v_iload_3, v_iload_4, v_invs, v_invv, v_ireturn, v_istore_3, v_istore_4, v_isub, vcS_abs, vcV_3_6, vc_d, rr_0, rr_1, csT_h, csT_t, csT_n, bI_0, bI_1, bI_z, bT, List.mem_cons, List.not_mem_nil, List.length_cons, List.length_nil, ite_not, ↓reduceIte, true_and, and_true, not_true_eq_false, not_false_eq_true, false_or, or_false, or_true, true_or, Nat.reduceAdd, Nat.reduceEqDiff, Nat.reduceBEq, Nat.reduceLeDiff, Nat.reduceLT, Nat.reduceSub, Int.reduceAdd, Int.reduceLE, Int.reduceLT, Int.reduceToNat, Int.reduceNeg, Int.reduceNatCast', reduceCtorEq, Int32.reduceOfInt, Int32.reduceOfNat, Int32.reduceToNatClampNeg, Int32.reduceToInt, i10, i01, nEM]
    have := lp_unlikeOf (d := d) (by omega) (M := M) (k := k) hx hy 12 0 0 (M 62) rfl h
    rw [j2_self] at this
    exact this

theorem s_X7_unlikeOf {d : Nat} (hd : 8 ≤ d) : Snd d 186 pf_X7_unlikeOf := by
  intro args M k h
  unfold pf_X7_unlikeOf at h
  split at h
  · exact c_X7_unlikeOf hd h
  · exact h.elim
def pf_X7_unlike : PF := fun args M k => match args with
  | [.ref o, .int x, .int y] => (o = 59 ∧ IM (M 60)) ∧ (if hasM (M 60) x ∧ hasM (M 60) y ∧ ¬ x = y then ∀ a, k (.int (dfF (plr (crr (M 60) (x).toNatClampNeg)) (plr (crr (M 60) (y).toNatClampNeg)) 12 0 0)) (j2 M a (M 60)) else k (.int (-1000001)) (fndM M 0))
  | _ => False
theorem pe_X7_unlike {o : Nat} {x : Int32} {y : Int32} {M : Mem} {k : Value → Mem → Prop} : pf_X7_unlike [.ref o, .int x, .int y] M k = ((o = 59 ∧ IM (M 60)) ∧ (if hasM (M 60) x ∧ hasM (M 60) y ∧ ¬ x = y then ∀ a, k (.int (dfF (plr (crr (M 60) (x).toNatClampNeg)) (plr (crr (M 60) (y).toNatClampNeg)) 12 0 0)) (j2 M a (M 60)) else k (.int (-1000001)) (fndM M 0))) := rfl
theorem le_X7_unlike {o : Nat} {x : Int32} {y : Int32} : lent 3 ([.ref o, .int x, .int y] : List Value) = [.ref o, .int x, .int y] := rfl
set_option maxRecDepth 100000 in
set_option maxHeartbeats 4000000 in
theorem c_X7_unlike {d : Nat} (hd : 9 ≤ d) {o : Nat} {x : Int32} {y : Int32} {M : Mem} {k : Value → Mem → Prop} (h : (o = 59 ∧ IM (M 60)) ∧ (if hasM (M 60) x ∧ hasM (M 60) y ∧ ¬ x = y then ∀ a, k (.int (dfF (plr (crr (M 60) (x).toNatClampNeg)) (plr (crr (M 60) (y).toNatClampNeg)) 12 0 0)) (j2 M a (M 60)) else k (.int (-1000001)) (fndM M 0))) : CallP d 187 [.ref o, .int x, .int y] M k := by
  obtain ⟨hp, h⟩ := h
  obtain ⟨d, rfl⟩ : ∃ d', d = d' + 1 := ⟨d - 1, by omega⟩
  obtain ⟨rfl, hI⟩ := hp
  · refine enterV (n := 80) [(166, pf_X7_areTwo), (186, pf_X7_unlikeOf), (125, pf_X7_finding)] [] mI_187 (by decide) (Nat.le_of_ble_eq_true rfl) (T_cons (s_X7_areTwo (by omega)) (T_cons (s_X7_unlikeOf (by omega)) (T_cons (s_X7_finding (by omega)) T_nil))) ?_
    rw [le_X7_unlike]
    simp only [dX7_unlike_0, dX7_unlike_1, dX7_unlike_2, dX7_unlike_3, dX7_unlike_6, dX7_unlike_9, dX7_unlike_10, dX7_unlike_11, dX7_unlike_12, dX7_unlike_15, dX7_unlike_18, dX7_unlike_19, dX7_unlike_21, dX7_unlike_24, cr_7_177, cr_7_214, cr_7_75, kr_7_69, skr_7_69, al_10, al_11, al_12, al_13, al_14, al_16, al_17, al_18, al_19, al_2, al_20, al_21, al_23, al_24, al_27, al_28, al_29, al_3, al_30, al_31, al_32, al_34, al_36, al_37, al_38, al_39, al_4, al_40, al_41, al_42, al_43, al_45, al_46, al_47, al_48, al_49, al_5, al_52, al_53, al_54, al_55, al_56, al_57, al_58, al_6, al_60, al_61, al_62, al_63, al_64, al_65, al_66, al_67, al_69, al_7, al_70, al_71, al_72, al_73, al_9, pcl_0, pcl_1, pcl_100, pcl_101, pcl_102, pcl_103, pcl_104, pcl_105, pcl_106, pcl_107, pcl_108, pcl_109, pcl_110, pcl_111, pcl_112, pcl_15, pcl_22, pcl_25, pcl_26, pcl_33, pcl_44, pcl_50, pcl_59, pcl_8, rOK_i, rOK_z, v_aload_0, v_goto, v_if_eq, v_iload_1, v_iload_2, v_invv, v_ireturn, v_ldc, vcV_2_6, vcV_3_6, vld_i, vld_s, vc_d, rr_0, rr_1, csT_h, csT_t, csT_n, bI_0, bI_1, bI_z, bT, List.mem_cons, List.not_mem_nil, List.length_cons, List.length_nil, ite_not, ↓reduceIte, true_and, and_true, not_true_eq_false, not_false_eq_true, false_or, or_false, or_true, true_or, Nat.reduceAdd, Nat.reduceEqDiff, Nat.reduceBEq, Nat.reduceLeDiff, Nat.reduceLT, Nat.reduceSub, Int.reduceAdd, Int.reduceLE, Int.reduceLT, Int.reduceToNat, Int.reduceNeg, Int.reduceNatCast', reduceCtorEq, Int32.reduceOfInt, Int32.reduceOfNat, Int32.reduceToNatClampNeg, Int32.reduceToInt, i10, i01, nEM, pe_X7_areTwo, pe_X7_unlikeOf, fn_0, fn_1, fn_2, fn_3, fn_4, fn_5, fn_6, hI]
    by_cases h1 : hasM (M 60) x ∧ hasM (M 60) y ∧ ¬ x = y
    · rw [if_pos h1] at h ⊢
      exact ⟨⟨hasM_o h1.1, hasM_o h1.2.1⟩, h⟩
    · rw [if_neg h1] at h ⊢
      exact h

theorem s_X7_unlike {d : Nat} (hd : 9 ≤ d) : Snd d 187 pf_X7_unlike := by
  intro args M k h
  unfold pf_X7_unlike at h
  split at h
  · exact c_X7_unlike hd h
  · exact h.elim
def byO (f : Nat → Int32) (w : Int32) (i : Nat) : Int32 := if nI i = w then 2147483647 else f i
def tkG (f : Nat → Int32) (w : Int32) : Nat → Nat → Int32 → Int32 → Int32
  | 0, _, r, _ => r
  | n + 1, i, r, l => tkG f w n (i + 1) (if byO f w i < l then nI i else r) (if byO f w i < l then byO f w i else l)
/-- how unlike, in the model -/
def dfX (r : Nat → Int32) (x i : Nat) : Int32 := dfF (plr (crr r x)) (plr (crr r i)) 12 0 0
set_option maxRecDepth 100000 in
set_option maxHeartbeats 4000000 in
theorem lp_takenM {d : Nat} (hd : 8 ≤ d) {M : Mem} {k : Value → Mem → Prop} {x q : Nat} (hx : x < 6) (hq : q ≤ 6) (hn : M 60 1 = nI q) : ∀ (n i : Nat) (r l : Int32) (x5 : Value) (a : Nat → Int32), i + n = q → (∀ a, if tkG (dfX (M 60) x) (nI x) n i r l < 0 then k (.int (-1000004)) (fndM (j2 M a (M 60)) 3) else k (.int (tkG (dfX (M 60) x) (nI x) n i r l)) (j2 M a (M 60))) → WP (7, yX7_taken, cX7_taken, 6, (some .int)) (d + 1) k 23 [.ref 59, .int (nI x), .int r, .int l, .int (nI i), x5] [] (j2 M a (M 60)) := by
  have cx : (nI x).toNatClampNeg = x := nI_clamp (by omega)
  have ox := nOK hx
  intro n
  induction n with
  | zero =>
    intro i r l x5 a hi h
    have c1 : nI q ≤ nI i := nI_le (by omega) (by omega)
    refine goV (n := 80) [(130, pf_X7_orNone)] [23] (T_cons (s_X7_orNone (by omega)) T_nil) ?_
    simp only [dX7_taken_0, dX7_taken_1, dX7_taken_2, dX7_taken_5, dX7_taken_8, dX7_taken_9, dX7_taken_11, dX7_taken_14, dX7_taken_15, dX7_taken_16, dX7_taken_17, dX7_taken_19, dX7_taken_20, dX7_taken_21, dX7_taken_23, dX7_taken_25, dX7_taken_26, dX7_taken_29, dX7_taken_30, dX7_taken_31, dX7_taken_34, dX7_taken_36, dX7_taken_37, dX7_taken_40, dX7_taken_42, dX7_taken_45, dX7_taken_46, dX7_taken_47, dX7_taken_49, dX7_taken_52, dX7_taken_54, dX7_taken_56, dX7_taken_57, dX7_taken_60, dX7_taken_62, dX7_taken_65, dX7_taken_66, dX7_taken_67, dX7_taken_68, dX7_taken_70, dX7_taken_73, dX7_taken_74, dX7_taken_77, dX7_taken_80, dX7_taken_81, dX7_taken_82, dX7_taken_85, cr_7_126, cr_7_183, cr_7_214, cr_7_75, cr_7_79, fr_7_9, kr_7_219, kr_7_69, skr_7_219, skr_7_69, al_10, al_11, al_12, al_13, al_14, al_16, al_17, al_18, al_19, al_2, al_20, al_21, al_23, al_24, al_27, al_28, al_29, al_3, al_30, al_31, al_32, al_34, al_36, al_37, al_38, al_39, al_4, al_40, al_41, al_42, al_43, al_45, al_46, al_47, al_48, al_49, al_5, al_52, al_53, al_54, al_55, al_56, al_57, al_58, al_6, al_60, al_61, al_62, al_63, al_64, al_65, al_66, al_67, al_69, al_7, al_70, al_71, al_72, al_73, al_9, cat_i, cat_l, cat_r, cat_u, gf_6_0_59, pcl_0, pcl_1, pcl_100, pcl_101, pcl_102, pcl_103, pcl_104, pcl_105, pcl_106, pcl_107, pcl_108, pcl_109, pcl_110, pcl_111, pcl_112, pcl_15, pcl_22, pcl_25, pcl_26, pcl_33, pcl_44, pcl_50, pcl_59, pcl_8, rOK_i, rOK_z, v_aload_0, v_getfield, v_goto, v_iaload, v_ic_ge, v_ic_ne, v_iconst_0, v_iconst_1, v_iconst_m1, v_if_ne, v_iinc_4, v_iload_1, v_iload_2, v_iload_3, v_iload_4, v_iload_5, v_invs, v_invv, v_ireturn, v_istore_2, v_istore_3, v_istore_4, v_istore_5, v_ldc, vcS_min, vcV_2_6, vcV_3_6, vgf_i, vgf_r, vgf_s, vld_i, vld_s, vc_d, rr_0, rr_1, csT_h, csT_t, csT_n, bI_0, bI_1, bI_z, bT, List.mem_cons, List.not_mem_nil, List.length_cons, List.length_nil, ite_not, ↓reduceIte, true_and, and_true, not_true_eq_false, not_false_eq_true, false_or, or_false, or_true, true_or, Nat.reduceAdd, Nat.reduceEqDiff, Nat.reduceBEq, Nat.reduceLeDiff, Nat.reduceLT, Nat.reduceSub, Int.reduceAdd, Int.reduceLE, Int.reduceLT, Int.reduceToNat, Int.reduceNeg, Int.reduceNatCast', reduceCtorEq, Int32.reduceOfInt, Int32.reduceOfNat, Int32.reduceToNatClampNeg, Int32.reduceToInt, i10, i01, nEM, pe_X7_orNone, j2_60, hn, c1]
    exact h a
  | succ n ih =>
    intro i r l x5 a hi h
    have c1 : ¬ nI q ≤ nI i := nI_ge (by omega) (by omega)
    have ci : (nI i).toNatClampNeg = i := nI_clamp (by omega)
    have oi := nOK (show i < 6 by omega)
    refine goV (n := 80) [(130, pf_X7_orNone), (186, pf_X7_unlikeOf)] [23] (T_cons (s_X7_orNone (by omega)) (T_cons (s_X7_unlikeOf (by omega)) T_nil)) ?_
    simp only [dX7_taken_0, dX7_taken_1, dX7_taken_2, dX7_taken_5, dX7_taken_8, dX7_taken_9, dX7_taken_11, dX7_taken_14, dX7_taken_15, dX7_taken_16, dX7_taken_17, dX7_taken_19, dX7_taken_20, dX7_taken_21, dX7_taken_23, dX7_taken_25, dX7_taken_26, dX7_taken_29, dX7_taken_30, dX7_taken_31, dX7_taken_34, dX7_taken_36, dX7_taken_37, dX7_taken_40, dX7_taken_42, dX7_taken_45, dX7_taken_46, dX7_taken_47, dX7_taken_49, dX7_taken_52, dX7_taken_54, dX7_taken_56, dX7_taken_57, dX7_taken_60, dX7_taken_62, dX7_taken_65, dX7_taken_66, dX7_taken_67, dX7_taken_68, dX7_taken_70, dX7_taken_73, dX7_taken_74, dX7_taken_77, dX7_taken_80, dX7_taken_81, dX7_taken_82, dX7_taken_85, cr_7_126, cr_7_183, cr_7_214, cr_7_75, cr_7_79, fr_7_9, kr_7_219, kr_7_69, skr_7_219, skr_7_69, al_10, al_11, al_12, al_13, al_14, al_16, al_17, al_18, al_19, al_2, al_20, al_21, al_23, al_24, al_27, al_28, al_29, al_3, al_30, al_31, al_32, al_34, al_36, al_37, al_38, al_39, al_4, al_40, al_41, al_42, al_43, al_45, al_46, al_47, al_48, al_49, al_5, al_52, al_53, al_54, al_55, al_56, al_57, al_58, al_6, al_60, al_61, al_62, al_63, al_64, al_65, al_66, al_67, al_69, al_7, al_70, al_71, al_72, al_73, al_9, cat_i, cat_l, cat_r, cat_u, gf_6_0_59, pcl_0, pcl_1, pcl_100, pcl_101, pcl_102, pcl_103, pcl_104, pcl_105, pcl_106, pcl_107, pcl_108, pcl_109, pcl_110, pcl_111, pcl_112, pcl_15, pcl_22, pcl_25, pcl_26, pcl_33, pcl_44, pcl_50, pcl_59, pcl_8, rOK_i, rOK_z, v_aload_0, v_getfield, v_goto, v_iaload, v_ic_ge, v_ic_ne, v_iconst_0, v_iconst_1, v_iconst_m1, v_if_ne, v_iinc_4, v_iload_1, v_iload_2, v_iload_3, v_iload_4, v_iload_5, v_invs, v_invv, v_ireturn, v_istore_2, v_istore_3, v_istore_4, v_istore_5, v_ldc, vcS_min, vcV_2_6, vcV_3_6, vgf_i, vgf_r, vgf_s, vld_i, vld_s, vc_d, rr_0, rr_1, csT_h, csT_t, csT_n, bI_0, bI_1, bI_z, bT, List.mem_cons, List.not_mem_nil, List.length_cons, List.length_nil, ite_not, ↓reduceIte, true_and, and_true, not_true_eq_false, not_false_eq_true, false_or, or_false, or_true, true_or, Nat.reduceAdd, Nat.reduceEqDiff, Nat.reduceBEq, Nat.reduceLeDiff, Nat.reduceLT, Nat.reduceSub, Int.reduceAdd, Int.reduceLE, Int.reduceLT, Int.reduceToNat, Int.reduceNeg, Int.reduceNatCast', reduceCtorEq, Int32.reduceOfInt, Int32.reduceOfNat, Int32.reduceToNatClampNeg, Int32.reduceToInt, i10, i01, nEM, pe_X7_orNone, pe_X7_unlikeOf, j2_60, j2_j2, hn, c1, ci, cx, ox, oi, nI_1]
    have key : ∀ (v : Int32) (a' : Nat → Int32), byO (dfX (M 60) x) (nI x) i = v → if l ≤ v then WP (7, yX7_taken, cX7_taken, 6, (some .int)) (d + 1) k 23 [.ref 59, .int (nI x), .int r, .int (if v < l then v else l), .int (nI (i + 1)), .int v] [] (j2 M a' (M 60)) else WP (7, yX7_taken, cX7_taken, 6, (some .int)) (d + 1) k 23 [.ref 59, .int (nI x), .int (nI i), .int (if v < l then v else l), .int (nI (i + 1)), .int v] [] (j2 M a' (M 60)) := by
      intro v a' hv
      have hh : ∀ a, if tkG (dfX (M 60) x) (nI x) n (i + 1) (if v < l then nI i else r) (if v < l then v else l) < 0 then k (.int (-1000004)) (fndM (j2 M a (M 60)) 3) else k (.int (tkG (dfX (M 60) x) (nI x) n (i + 1) (if v < l then nI i else r) (if v < l then v else l))) (j2 M a (M 60)) := by
        rw [← hv]
        exact h
      by_cases hc : v < l
      · rw [if_neg (fun z => Int32.not_lt.mpr z hc)]
        rw [if_pos hc] at hh ⊢
        exact ih (i + 1) _ _ _ _ (by omega) (by simpa [hc] using hh)
      · rw [if_pos (Int32.not_lt.mp hc)]
        rw [if_neg hc] at hh ⊢
        exact ih (i + 1) _ _ _ _ (by omega) (by simpa [hc] using hh)
    by_cases h1 : nI i = nI x
    · rw [if_pos h1]
      exact key _ _ (by unfold byO; rw [if_pos h1])
    · rw [if_neg h1]
      intro a'
      exact key _ _ (by unfold byO; rw [if_neg h1]; rfl)
def pf_X7_taken : PF := fun args M k => match args with
  | [.ref o, .int w] => (o = 59 ∧ IM (M 60)) ∧ (if hasM (M 60) w then (∀ a, if tkG (dfX (M 60) (w).toNatClampNeg) w (M 60 1).toNatClampNeg 0 (-1) 2147483647 < 0 then k (.int (-1000004)) (fndM (j2 M a (M 60)) 3) else k (.int (tkG (dfX (M 60) (w).toNatClampNeg) w (M 60 1).toNatClampNeg 0 (-1) 2147483647)) (j2 M a (M 60))) else k (.int (-1000001)) (fndM M 0))
  | _ => False
theorem pe_X7_taken {o : Nat} {w : Int32} {M : Mem} {k : Value → Mem → Prop} : pf_X7_taken [.ref o, .int w] M k = ((o = 59 ∧ IM (M 60)) ∧ (if hasM (M 60) w then (∀ a, if tkG (dfX (M 60) (w).toNatClampNeg) w (M 60 1).toNatClampNeg 0 (-1) 2147483647 < 0 then k (.int (-1000004)) (fndM (j2 M a (M 60)) 3) else k (.int (tkG (dfX (M 60) (w).toNatClampNeg) w (M 60 1).toNatClampNeg 0 (-1) 2147483647)) (j2 M a (M 60))) else k (.int (-1000001)) (fndM M 0))) := rfl
theorem le_X7_taken {o : Nat} {w : Int32} : lent 6 ([.ref o, .int w] : List Value) = [.ref o, .int w, .retAddr 0, .retAddr 0, .retAddr 0, .retAddr 0] := rfl
set_option maxRecDepth 100000 in
set_option maxHeartbeats 4000000 in
theorem c_X7_taken {d : Nat} (hd : 9 ≤ d) {o : Nat} {w : Int32} {M : Mem} {k : Value → Mem → Prop} (h : (o = 59 ∧ IM (M 60)) ∧ (if hasM (M 60) w then (∀ a, if tkG (dfX (M 60) (w).toNatClampNeg) w (M 60 1).toNatClampNeg 0 (-1) 2147483647 < 0 then k (.int (-1000004)) (fndM (j2 M a (M 60)) 3) else k (.int (tkG (dfX (M 60) (w).toNatClampNeg) w (M 60 1).toNatClampNeg 0 (-1) 2147483647)) (j2 M a (M 60))) else k (.int (-1000001)) (fndM M 0))) : CallP d 188 [.ref o, .int w] M k := by
  obtain ⟨hp, h⟩ := h
  obtain ⟨d, rfl⟩ : ∃ d', d = d' + 1 := ⟨d - 1, by omega⟩
  obtain ⟨rfl, hI⟩ := hp
  obtain ⟨q, hq, hn⟩ := id hI
  · refine enterV (n := 80) [(136, pf_X7_isWalker), (125, pf_X7_finding)] [23] mI_188 (by decide) (Nat.le_of_ble_eq_true rfl) (T_cons (s_X7_isWalker (by omega)) (T_cons (s_X7_finding (by omega)) T_nil)) ?_
    rw [le_X7_taken]
    simp only [dX7_taken_0, dX7_taken_1, dX7_taken_2, dX7_taken_5, dX7_taken_8, dX7_taken_9, dX7_taken_11, dX7_taken_14, dX7_taken_15, dX7_taken_16, dX7_taken_17, dX7_taken_19, dX7_taken_20, dX7_taken_21, dX7_taken_23, dX7_taken_25, dX7_taken_26, dX7_taken_29, dX7_taken_30, dX7_taken_31, dX7_taken_34, dX7_taken_36, dX7_taken_37, dX7_taken_40, dX7_taken_42, dX7_taken_45, dX7_taken_46, dX7_taken_47, dX7_taken_49, dX7_taken_52, dX7_taken_54, dX7_taken_56, dX7_taken_57, dX7_taken_60, dX7_taken_62, dX7_taken_65, dX7_taken_66, dX7_taken_67, dX7_taken_68, dX7_taken_70, dX7_taken_73, dX7_taken_74, dX7_taken_77, dX7_taken_80, dX7_taken_81, dX7_taken_82, dX7_taken_85, cr_7_126, cr_7_183, cr_7_214, cr_7_75, cr_7_79, fr_7_9, kr_7_219, kr_7_69, skr_7_219, skr_7_69, al_10, al_11, al_12, al_13, al_14, al_16, al_17, al_18, al_19, al_2, al_20, al_21, al_23, al_24, al_27, al_28, al_29, al_3, al_30, al_31, al_32, al_34, al_36, al_37, al_38, al_39, al_4, al_40, al_41, al_42, al_43, al_45, al_46, al_47, al_48, al_49, al_5, al_52, al_53, al_54, al_55, al_56, al_57, al_58, al_6, al_60, al_61, al_62, al_63, al_64, al_65, al_66, al_67, al_69, al_7, al_70, al_71, al_72, al_73, al_9, cat_i, cat_l, cat_r, cat_u, gf_6_0_59, pcl_0, pcl_1, pcl_100, pcl_101, pcl_102, pcl_103, pcl_104, pcl_105, pcl_106, pcl_107, pcl_108, pcl_109, pcl_110, pcl_111, pcl_112, pcl_15, pcl_22, pcl_25, pcl_26, pcl_33, pcl_44, pcl_50, pcl_59, pcl_8, rOK_i, rOK_z, v_aload_0, v_getfield, v_goto, v_iaload, v_ic_ge, v_ic_ne, v_iconst_0, v_iconst_1, v_iconst_m1, v_if_ne, v_iinc_4, v_iload_1, v_iload_2, v_iload_3, v_iload_4, v_iload_5, v_invs, v_invv, v_ireturn, v_istore_2, v_istore_3, v_istore_4, v_istore_5, v_ldc, vcS_min, vcV_2_6, vcV_3_6, vgf_i, vgf_r, vgf_s, vld_i, vld_s, vc_d, rr_0, rr_1, csT_h, csT_t, csT_n, bI_0, bI_1, bI_z, bT, List.mem_cons, List.not_mem_nil, List.length_cons, List.length_nil, ite_not, ↓reduceIte, true_and, and_true, not_true_eq_false, not_false_eq_true, false_or, or_false, or_true, true_or, Nat.reduceAdd, Nat.reduceEqDiff, Nat.reduceBEq, Nat.reduceLeDiff, Nat.reduceLT, Nat.reduceSub, Int.reduceAdd, Int.reduceLE, Int.reduceLT, Int.reduceToNat, Int.reduceNeg, Int.reduceNatCast', reduceCtorEq, Int32.reduceOfInt, Int32.reduceOfNat, Int32.reduceToNatClampNeg, Int32.reduceToInt, i10, i01, nEM, pe_X7_isWalker, fn_0, fn_1, fn_2, fn_3, fn_4, fn_5, fn_6, hI]
    by_cases h1 : hasM (M 60) w
    · rw [if_pos h1] at h ⊢
      obtain ⟨x, hx, rfl⟩ := wOK_n (hasM_o h1)
      rw [hn, nI_clamp (show q < 2 ^ 31 by omega), nI_clamp (show x < 2 ^ 31 by omega)] at h
      have := lp_takenM (d := d) (by omega) (M := M) (k := k) hx hq hn q 0 (-1) 2147483647 (.retAddr 0) (M 62) (by omega) h
      rw [j2_self] at this
      exact this
    · rw [if_neg h1] at h ⊢
      exact h

theorem s_X7_taken {d : Nat} (hd : 9 ≤ d) : Snd d 188 pf_X7_taken := by
  intro args M k h
  unfold pf_X7_taken at h
  split at h
  · exact c_X7_taken hd h
  · exact h.elim
