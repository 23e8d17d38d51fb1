/-! M: all orders -/
theorem p50 (t j : Nat) : (50 : Int32) * nI t + nI j = nI (50 * t + j) := by
  rw [show (50 : Int32) = nI 50 from rfl, pk_mul, nI_add]
set_option maxRecDepth 100000 in
set_option maxHeartbeats 4000000 in
theorem lp_lay0 {d : Nat} {M : Mem} {k : Value → Mem → Prop} {t : Nat} (ht : t < 7) (h : k (.int 0) (mrow M 64 (va_cpy (M 60) (M 64) 0 (50 * t) 50))) : ∀ (n i : Nat), i + n = 50 → WP (7, yX7_lay0, cX7_lay0, 3, none) (d + 1) k 2 [.ref 59, .int (nI t), .int (nI i)] [] (mrow M 64 (va_cpy (M 60) (M 64) 0 (50 * t) i)) := by
  intro n
  induction n with
  | zero =>
    intro i hi
    have : i = 50 := by omega
    subst this
    refine goV (n := 80) [] [2] T_nil ?_
    simp only [dX7_lay0_0, dX7_lay0_1, dX7_lay0_2, dX7_lay0_3, dX7_lay0_5, dX7_lay0_8, dX7_lay0_9, dX7_lay0_12, dX7_lay0_14, dX7_lay0_15, dX7_lay0_16, dX7_lay0_17, dX7_lay0_18, dX7_lay0_19, dX7_lay0_22, dX7_lay0_23, dX7_lay0_24, dX7_lay0_25, dX7_lay0_28, dX7_lay0_31, fr_7_22, fr_7_9, al_10, al_11, al_12, al_13, al_14, al_16, al_17, al_18, al_19, al_2, al_20, al_21, al_23, al_24, al_27, al_28, al_29, al_3, al_30, al_31, al_32, al_34, al_36, al_37, al_38, al_39, al_4, al_40, al_41, al_42, al_43, al_45, al_46, al_47, al_48, al_49, al_5, al_52, al_53, al_54, al_55, al_56, al_57, al_58, al_6, al_60, al_61, al_62, al_63, al_64, al_65, al_66, al_67, al_69, al_7, al_70, al_71, al_72, al_73, al_9, cat_i, cat_l, cat_r, cat_u, gf_6_0_59, gf_6_5_59, v_aload_0, v_bipush_50, v_getfield, v_goto, v_iadd, v_iaload, v_iastore, v_ic_ge, v_iconst_0, v_iinc_2, v_iload_1, v_iload_2, v_imul, v_istore_2, v_return, vgf_i, vgf_r, vgf_s, vc_d, rr_0, rr_1, csT_h, csT_t, csT_n, bI_0, bI_1, bI_z, bT, List.mem_cons, List.not_mem_nil, List.length_cons, List.length_nil, ite_not, ↓reduceIte, true_and, and_true, not_true_eq_false, not_false_eq_true, false_or, or_false, or_true, true_or, Nat.reduceAdd, Nat.reduceEqDiff, Nat.reduceBEq, Nat.reduceLeDiff, Nat.reduceLT, Nat.reduceSub, Int.reduceAdd, Int.reduceLE, Int.reduceLT, Int.reduceToNat, Int.reduceNeg, Int.reduceNatCast', reduceCtorEq, Int32.reduceOfInt, Int32.reduceOfNat, Int32.reduceToNatClampNeg, Int32.reduceToInt, i10, i01, nEM, show (50 : Int32) ≤ nI 50 from by decide]
    exact h
  | succ n ih =>
    intro i hi
    have c1 : ¬ (50 : Int32) ≤ nI i := nI_ge (b := 50) (by omega) (by decide)
    have c2 : (nI (50 * t + i)).toInt = ((50 * t + i : Nat) : Int) := nI_toInt (by omega)
    have c3 : (nI (50 * t + i)).toNatClampNeg = 50 * t + i := nI_clamp (by omega)
    have c4 : (nI i).toInt = (i : Int) := nI_toInt (by omega)
    have c5 : (nI i).toNatClampNeg = i := nI_clamp (by omega)
    have e := cpy_s (f := M 60) (g := M 64) (a := 0) (b := 50 * t) (n := i)
    rw [Nat.zero_add] at e
    refine goV (n := 80) [] [2] T_nil ?_
    simp only [dX7_lay0_0, dX7_lay0_1, dX7_lay0_2, dX7_lay0_3, dX7_lay0_5, dX7_lay0_8, dX7_lay0_9, dX7_lay0_12, dX7_lay0_14, dX7_lay0_15, dX7_lay0_16, dX7_lay0_17, dX7_lay0_18, dX7_lay0_19, dX7_lay0_22, dX7_lay0_23, dX7_lay0_24, dX7_lay0_25, dX7_lay0_28, dX7_lay0_31, fr_7_22, fr_7_9, al_10, al_11, al_12, al_13, al_14, al_16, al_17, al_18, al_19, al_2, al_20, al_21, al_23, al_24, al_27, al_28, al_29, al_3, al_30, al_31, al_32, al_34, al_36, al_37, al_38, al_39, al_4, al_40, al_41, al_42, al_43, al_45, al_46, al_47, al_48, al_49, al_5, al_52, al_53, al_54, al_55, al_56, al_57, al_58, al_6, al_60, al_61, al_62, al_63, al_64, al_65, al_66, al_67, al_69, al_7, al_70, al_71, al_72, al_73, al_9, cat_i, cat_l, cat_r, cat_u, gf_6_0_59, gf_6_5_59, v_aload_0, v_bipush_50, v_getfield, v_goto, v_iadd, v_iaload, v_iastore, v_ic_ge, v_iconst_0, v_iinc_2, v_iload_1, v_iload_2, v_imul, v_istore_2, v_return, vgf_i, vgf_r, vgf_s, vc_d, rr_0, rr_1, csT_h, csT_t, csT_n, bI_0, bI_1, bI_z, bT, List.mem_cons, List.not_mem_nil, List.length_cons, List.length_nil, ite_not, ↓reduceIte, true_and, and_true, not_true_eq_false, not_false_eq_true, false_or, or_false, or_true, true_or, Nat.reduceAdd, Nat.reduceEqDiff, Nat.reduceBEq, Nat.reduceLeDiff, Nat.reduceLT, Nat.reduceSub, Int.reduceAdd, Int.reduceLE, Int.reduceLT, Int.reduceToNat, Int.reduceNeg, Int.reduceNatCast', reduceCtorEq, Int32.reduceOfInt, Int32.reduceOfNat, Int32.reduceToNatClampNeg, Int32.reduceToInt, i10, i01, nEM, c1, p50, c2, c3, c4, c5, nI_1, mset, mrow_s, mrow_n, mrow_mrow, e]
    exact ⟨by omega, by omega, ih (i + 1) (by omega)⟩
def pf_X7_lay0 : PF := fun args M k => match args with
  | [.ref o, .int t] => (o = 59 ∧ ∃ a, a < 7 ∧ t = nI a) ∧ (k (.int 0) (mrow M 64 (va_cpy (M 60) (M 64) 0 (50 * (t).toNatClampNeg) 50)))
  | _ => False
theorem pe_X7_lay0 {o : Nat} {t : Int32} {M : Mem} {k : Value → Mem → Prop} : pf_X7_lay0 [.ref o, .int t] M k = ((o = 59 ∧ ∃ a, a < 7 ∧ t = nI a) ∧ (k (.int 0) (mrow M 64 (va_cpy (M 60) (M 64) 0 (50 * (t).toNatClampNeg) 50)))) := rfl
theorem le_X7_lay0 {o : Nat} {t : Int32} : lent 3 ([.ref o, .int t] : List Value) = [.ref o, .int t, .retAddr 0] := rfl
set_option maxRecDepth 100000 in
set_option maxHeartbeats 4000000 in
theorem c_X7_lay0 {d : Nat} (hd : 1 ≤ d) {o : Nat} {t : Int32} {M : Mem} {k : Value → Mem → Prop} (h : (o = 59 ∧ ∃ a, a < 7 ∧ t = nI a) ∧ (k (.int 0) (mrow M 64 (va_cpy (M 60) (M 64) 0 (50 * (t).toNatClampNeg) 50)))) : CallP d 175 [.ref o, .int t] M k := by
  obtain ⟨hp, h⟩ := h
  obtain ⟨d, rfl⟩ : ∃ d', d = d' + 1 := ⟨d - 1, by omega⟩
  obtain ⟨rfl, a, ha, rfl⟩ := hp
  rw [nI_clamp (by omega)] at h
  · refine enterV (n := 80) [] [2] mI_175 (by decide) (Nat.le_of_ble_eq_true rfl) T_nil ?_
    rw [le_X7_lay0]
    simp only [dX7_lay0_0, dX7_lay0_1, dX7_lay0_2, dX7_lay0_3, dX7_lay0_5, dX7_lay0_8, dX7_lay0_9, dX7_lay0_12, dX7_lay0_14, dX7_lay0_15, dX7_lay0_16, dX7_lay0_17, dX7_lay0_18, dX7_lay0_19, dX7_lay0_22, dX7_lay0_23, dX7_lay0_24, dX7_lay0_25, dX7_lay0_28, dX7_lay0_31, fr_7_22, fr_7_9, al_10, al_11, al_12, al_13, al_14, al_16, al_17, al_18, al_19, al_2, al_20, al_21, al_23, al_24, al_27, al_28, al_29, al_3, al_30, al_31, al_32, al_34, al_36, al_37, al_38, al_39, al_4, al_40, al_41, al_42, al_43, al_45, al_46, al_47, al_48, al_49, al_5, al_52, al_53, al_54, al_55, al_56, al_57, al_58, al_6, al_60, al_61, al_62, al_63, al_64, al_65, al_66, al_67, al_69, al_7, al_70, al_71, al_72, al_73, al_9, cat_i, cat_l, cat_r, cat_u, gf_6_0_59, gf_6_5_59, v_aload_0, v_bipush_50, v_getfield, v_goto, v_iadd, v_iaload, v_iastore, v_ic_ge, v_iconst_0, v_iinc_2, v_iload_1, v_iload_2, v_imul, v_istore_2, v_return, vgf_i, vgf_r, vgf_s, vc_d, rr_0, rr_1, csT_h, csT_t, csT_n, bI_0, bI_1, bI_z, bT, List.mem_cons, List.not_mem_nil, List.length_cons, List.length_nil, ite_not, ↓reduceIte, true_and, and_true, not_true_eq_false, not_false_eq_true, false_or, or_false, or_true, true_or, Nat.reduceAdd, Nat.reduceEqDiff, Nat.reduceBEq, Nat.reduceLeDiff, Nat.reduceLT, Nat.reduceSub, Int.reduceAdd, Int.reduceLE, Int.reduceLT, Int.reduceToNat, Int.reduceNeg, Int.reduceNatCast', reduceCtorEq, Int32.reduceOfInt, Int32.reduceOfNat, Int32.reduceToNatClampNeg, Int32.reduceToInt, i10, i01, nEM]
    have := lp_lay0 (d := d) ha h 50 0 rfl
    rw [cpy_0, mrow_self] at this
    exact this

theorem s_X7_lay0 {d : Nat} (hd : 1 ≤ d) : Snd d 175 pf_X7_lay0 := by
  intro args M k h
  unfold pf_X7_lay0 at h
  split at h
  · exact c_X7_lay0 hd h
  · exact h.elim
set_option maxRecDepth 100000 in
set_option maxHeartbeats 4000000 in
theorem lp_layBack {d : Nat} {M : Mem} {k : Value → Mem → Prop} {t : Nat} (ht : t < 7) (h : k (.int 0) (mrow M 60 (cpN 50 (fun j => M 64 (50 * t + j)) (M 60)))) : ∀ (n i : Nat), i + n = 50 → WP (7, yX7_layBack, cX7_layBack, 3, none) (d + 1) k 2 [.ref 59, .int (nI t), .int (nI i)] [] (mrow M 60 (cpN i (fun j => M 64 (50 * t + j)) (M 60))) := by
  intro n
  induction n with
  | zero =>
    intro i hi
    have : i = 50 := by omega
    subst this
    refine goV (n := 80) [] [2] T_nil ?_
    simp only [dX7_layBack_0, dX7_layBack_1, dX7_layBack_2, dX7_layBack_3, dX7_layBack_5, dX7_layBack_8, dX7_layBack_9, dX7_layBack_12, dX7_layBack_13, dX7_layBack_14, dX7_layBack_17, dX7_layBack_19, dX7_layBack_20, dX7_layBack_21, dX7_layBack_22, dX7_layBack_23, dX7_layBack_24, dX7_layBack_25, dX7_layBack_28, dX7_layBack_31, fr_7_22, fr_7_9, al_10, al_11, al_12, al_13, al_14, al_16, al_17, al_18, al_19, al_2, al_20, al_21, al_23, al_24, al_27, al_28, al_29, al_3, al_30, al_31, al_32, al_34, al_36, al_37, al_38, al_39, al_4, al_40, al_41, al_42, al_43, al_45, al_46, al_47, al_48, al_49, al_5, al_52, al_53, al_54, al_55, al_56, al_57, al_58, al_6, al_60, al_61, al_62, al_63, al_64, al_65, al_66, al_67, al_69, al_7, al_70, al_71, al_72, al_73, al_9, cat_i, cat_l, cat_r, cat_u, gf_6_0_59, gf_6_5_59, v_aload_0, v_bipush_50, v_getfield, v_goto, v_iadd, v_iaload, v_iastore, v_ic_ge, v_iconst_0, v_iinc_2, v_iload_1, v_iload_2, v_imul, v_istore_2, v_return, vgf_i, vgf_r, vgf_s, vc_d, rr_0, rr_1, csT_h, csT_t, csT_n, bI_0, bI_1, bI_z, bT, List.mem_cons, List.not_mem_nil, List.length_cons, List.length_nil, ite_not, ↓reduceIte, true_and, and_true, not_true_eq_false, not_false_eq_true, false_or, or_false, or_true, true_or, Nat.reduceAdd, Nat.reduceEqDiff, Nat.reduceBEq, Nat.reduceLeDiff, Nat.reduceLT, Nat.reduceSub, Int.reduceAdd, Int.reduceLE, Int.reduceLT, Int.reduceToNat, Int.reduceNeg, Int.reduceNatCast', reduceCtorEq, Int32.reduceOfInt, Int32.reduceOfNat, Int32.reduceToNatClampNeg, Int32.reduceToInt, i10, i01, nEM, show (50 : Int32) ≤ nI 50 from by decide]
    exact h
  | succ n ih =>
    intro i hi
    have c1 : ¬ (50 : Int32) ≤ nI i := nI_ge (b := 50) (by omega) (by decide)
    have c2 : (nI (50 * t + i)).toInt = ((50 * t + i : Nat) : Int) := nI_toInt (by omega)
    have c3 : (nI (50 * t + i)).toNatClampNeg = 50 * t + i := nI_clamp (by omega)
    have c4 : (nI i).toInt = (i : Int) := nI_toInt (by omega)
    have c5 : (nI i).toNatClampNeg = i := nI_clamp (by omega)
    have e := cpN_s (f := fun j => M 64 (50 * t + j)) (g := M 60) (n := i)
    refine goV (n := 80) [] [2] T_nil ?_
    simp only [dX7_layBack_0, dX7_layBack_1, dX7_layBack_2, dX7_layBack_3, dX7_layBack_5, dX7_layBack_8, dX7_layBack_9, dX7_layBack_12, dX7_layBack_13, dX7_layBack_14, dX7_layBack_17, dX7_layBack_19, dX7_layBack_20, dX7_layBack_21, dX7_layBack_22, dX7_layBack_23, dX7_layBack_24, dX7_layBack_25, dX7_layBack_28, dX7_layBack_31, fr_7_22, fr_7_9, al_10, al_11, al_12, al_13, al_14, al_16, al_17, al_18, al_19, al_2, al_20, al_21, al_23, al_24, al_27, al_28, al_29, al_3, al_30, al_31, al_32, al_34, al_36, al_37, al_38, al_39, al_4, al_40, al_41, al_42, al_43, al_45, al_46, al_47, al_48, al_49, al_5, al_52, al_53, al_54, al_55, al_56, al_57, al_58, al_6, al_60, al_61, al_62, al_63, al_64, al_65, al_66, al_67, al_69, al_7, al_70, al_71, al_72, al_73, al_9, cat_i, cat_l, cat_r, cat_u, gf_6_0_59, gf_6_5_59, v_aload_0, v_bipush_50, v_getfield, v_goto, v_iadd, v_iaload, v_iastore, v_ic_ge, v_iconst_0, v_iinc_2, v_iload_1, v_iload_2, v_imul, v_istore_2, v_return, vgf_i, vgf_r, vgf_s, vc_d, rr_0, rr_1, csT_h, csT_t, csT_n, bI_0, bI_1, bI_z, bT, List.mem_cons, List.not_mem_nil, List.length_cons, List.length_nil, ite_not, ↓reduceIte, true_and, and_true, not_true_eq_false, not_false_eq_true, false_or, or_false, or_true, true_or, Nat.reduceAdd, Nat.reduceEqDiff, Nat.reduceBEq, Nat.reduceLeDiff, Nat.reduceLT, Nat.reduceSub, Int.reduceAdd, Int.reduceLE, Int.reduceLT, Int.reduceToNat, Int.reduceNeg, Int.reduceNatCast', reduceCtorEq, Int32.reduceOfInt, Int32.reduceOfNat, Int32.reduceToNatClampNeg, Int32.reduceToInt, i10, i01, nEM, c1, p50, c2, c3, c4, c5, nI_1, mset, mrow_s, mrow_n, mrow_mrow, e]
    exact ⟨by omega, by omega, ih (i + 1) (by omega)⟩
def pf_X7_layBack : PF := fun args M k => match args with
  | [.ref o, .int t] => (o = 59 ∧ ∃ a, a < 7 ∧ t = nI a) ∧ (k (.int 0) (mrow M 60 (cpN 50 (fun j => M 64 (50 * (t).toNatClampNeg + j)) (M 60))))
  | _ => False
theorem pe_X7_layBack {o : Nat} {t : Int32} {M : Mem} {k : Value → Mem → Prop} : pf_X7_layBack [.ref o, .int t] M k = ((o = 59 ∧ ∃ a, a < 7 ∧ t = nI a) ∧ (k (.int 0) (mrow M 60 (cpN 50 (fun j => M 64 (50 * (t).toNatClampNeg + j)) (M 60))))) := rfl
theorem le_X7_layBack {o : Nat} {t : Int32} : lent 3 ([.ref o, .int t] : List Value) = [.ref o, .int t, .retAddr 0] := rfl
set_option maxRecDepth 100000 in
set_option maxHeartbeats 4000000 in
theorem c_X7_layBack {d : Nat} (hd : 1 ≤ d) {o : Nat} {t : Int32} {M : Mem} {k : Value → Mem → Prop} (h : (o = 59 ∧ ∃ a, a < 7 ∧ t = nI a) ∧ (k (.int 0) (mrow M 60 (cpN 50 (fun j => M 64 (50 * (t).toNatClampNeg + j)) (M 60))))) : CallP d 176 [.ref o, .int t] M k := by
  obtain ⟨hp, h⟩ := h
  obtain ⟨d, rfl⟩ : ∃ d', d = d' + 1 := ⟨d - 1, by omega⟩
  obtain ⟨rfl, a, ha, rfl⟩ := hp
  rw [nI_clamp (by omega)] at h
  · refine enterV (n := 80) [] [2] mI_176 (by decide) (Nat.le_of_ble_eq_true rfl) T_nil ?_
    rw [le_X7_layBack]
    simp only [dX7_layBack_0, dX7_layBack_1, dX7_layBack_2, dX7_layBack_3, dX7_layBack_5, dX7_layBack_8, dX7_layBack_9, dX7_layBack_12, dX7_layBack_13, dX7_layBack_14, dX7_layBack_17, dX7_layBack_19, dX7_layBack_20, dX7_layBack_21, dX7_layBack_22, dX7_layBack_23, dX7_layBack_24, dX7_layBack_25, dX7_layBack_28, dX7_layBack_31, fr_7_22, fr_7_9, al_10, al_11, al_12, al_13, al_14, al_16, al_17, al_18, al_19, al_2, al_20, al_21, al_23, al_24, al_27, al_28, al_29, al_3, al_30, al_31, al_32, al_34, al_36, al_37, al_38, al_39, al_4, al_40, al_41, al_42, al_43, al_45, al_46, al_47, al_48, al_49, al_5, al_52, al_53, al_54, al_55, al_56, al_57, al_58, al_6, al_60, al_61, al_62, al_63, al_64, al_65, al_66, al_67, al_69, al_7, al_70, al_71, al_72, al_73, al_9, cat_i, cat_l, cat_r, cat_u, gf_6_0_59, gf_6_5_59, v_aload_0, v_bipush_50, v_getfield, v_goto, v_iadd, v_iaload, v_iastore, v_ic_ge, v_iconst_0, v_iinc_2, v_iload_1, v_iload_2, v_imul, v_istore_2, v_return, vgf_i, vgf_r, vgf_s, vc_d, rr_0, rr_1, csT_h, csT_t, csT_n, bI_0, bI_1, bI_z, bT, List.mem_cons, List.not_mem_nil, List.length_cons, List.length_nil, ite_not, ↓reduceIte, true_and, and_true, not_true_eq_false, not_false_eq_true, false_or, or_false, or_true, true_or, Nat.reduceAdd, Nat.reduceEqDiff, Nat.reduceBEq, Nat.reduceLeDiff, Nat.reduceLT, Nat.reduceSub, Int.reduceAdd, Int.reduceLE, Int.reduceLT, Int.reduceToNat, Int.reduceNeg, Int.reduceNatCast', reduceCtorEq, Int32.reduceOfInt, Int32.reduceOfNat, Int32.reduceToNatClampNeg, Int32.reduceToInt, i10, i01, nEM]
    have := lp_layBack (d := d) ha h 50 0 rfl
    rw [cpN_0, mrow_self] at this
    exact this

theorem s_X7_layBack {d : Nat} (hd : 1 ≤ d) : Snd d 176 pf_X7_layBack := by
  intro args M k h
  unfold pf_X7_layBack at h
  split at h
  · exact c_X7_layBack hd h
  · exact h.elim
/-- pieces one behind the other -/
def wl (g : Nat → List (List Nat × Nat)) : Nat → Nat → List (List Nat × Nat)
  | 0, _ => []
  | n + 1, i => g i ++ wl g n (i + 1)
def flM (r : Nat → Int32) (w : Nat) : Nat := if (crx r w).1 < 12 then 1 else 0
/-- all orders that are told, each with how many fell -/
def goS (A q : Nat) : Nat → (Nat → Int32) → Nat → Nat → List (List Nat × Nat)
  | 0, _, _, fell => [([], fell)]
  | n + 1, r, left, fell => if left = 0 then [([], fell)] else wl (fun w => if left.testBit w = true ∧ fell + flM r w ≤ A then (goS A q n (crr r w) (clr left w) (fell + flM r w)).map (fun x => (w :: x.1, x.2)) else []) q 0
def mnF (f : Nat) (L : List (List Nat × Nat)) : Nat := L.foldl (fun m x => if x.2 < m then x.2 else m) f
theorem mnF_le : ∀ (L : List (List Nat × Nat)) (f : Nat), mnF f L ≤ f := by
  intro L
  induction L with
  | nil => intro f; exact Nat.le_refl _
  | cons x L ih =>
    intro f
    show mnF (if x.2 < f then x.2 else f) L ≤ f
    have := ih (if x.2 < f then x.2 else f)
    split at this <;> split <;> omega
theorem mnF_app {f : Nat} {L K : List (List Nat × Nat)} : mnF f (L ++ K) = mnF (mnF f L) K := List.foldl_append
theorem mnF_map {w : Nat} : ∀ (L : List (List Nat × Nat)) (f : Nat), mnF f (L.map (fun x => (w :: x.1, x.2))) = mnF f L := by
  intro L
  induction L with
  | nil => intro f; rfl
  | cons x L ih => intro f; exact ih _
/-- what the search leaves -/
def GT (t : Nat) (N N' : Mem) (L : List (List Nat × Nat)) (c f : Nat) : Prop :=
  (∀ p, p ≠ 59 → p ≠ 64 → p ≠ 65 → p ≠ 66 → N' p = N p) ∧ (∀ j, j ≠ 8 → j ≠ 9 → N' 59 j = N 59 j) ∧ N' 59 8 = nI (c + L.length) ∧ N' 59 9 = nI (mnF f L) ∧
  (∀ j, j < 50 * t → N' 64 j = N 64 j) ∧ (∀ j, j < t → N' 65 j = N 65 j) ∧ (c ≠ 0 → N' 66 = N 66) ∧
  (c = 0 → ∀ x L', L = x :: L' → (∀ j, j < t → N' 66 j = N 65 j) ∧ ∀ j, j < x.1.length → N' 66 (t + j) = nI (x.1.getD j 0)) ∧ (L = [] → N' 66 = N 66)
theorem GT.tr {t : Nat} {N N1 N2 : Mem} {L K : List (List Nat × Nat)} {c f : Nat} (h1 : GT t N N1 L c f) (h2 : GT t N1 N2 K (c + L.length) (mnF f L)) : GT t N N2 (L ++ K) c f := by
  obtain ⟨a1, a2, a3, a4, a5, a6, a7, a8, a9⟩ := h1
  obtain ⟨b1, b2, b3, b4, b5, b6, b7, b8, b9⟩ := h2
  refine ⟨fun p q1 q2 q3 q4 => (b1 p q1 q2 q3 q4).trans (a1 p q1 q2 q3 q4), fun j q1 q2 => (b2 j q1 q2).trans (a2 j q1 q2), ?_, ?_, fun j q => (b5 j q).trans (a5 j q), fun j q => (b6 j q).trans (a6 j q), fun q => (b7 (by omega)).trans (a7 q), ?_, ?_⟩
  · rw [b3, List.length_append, Nat.add_assoc]
  · rw [b4, mnF_app]
  · intro hc x L' e
    cases L with
    | nil =>
      have e2 : K = x :: L' := e
      have := b8 (by simpa using hc) x L' e2
      exact ⟨fun j hj => (this.1 j hj).trans (a6 j hj), this.2⟩
    | cons y L =>
      have e2 : y = x := by
        have : y :: (L ++ K) = x :: L' := e
        exact (List.cons.inj this).1
      subst e2
      have := a8 hc y L rfl
      have e3 := b7 (by simp)
      rw [e3]
      exact this
  · intro e
    obtain ⟨e1, e2⟩ := List.append_eq_nil_iff.mp e
    exact (b9 e2).trans (a9 e1)
set_option maxRecDepth 100000 in
set_option maxHeartbeats 4000000 in
theorem lp_leaf {d : Nat} {M : Mem} {k : Value → Mem → Prop} {t fell c f : Nat} {A : Int32} {x6 : Value} (ht : t ≤ 6) (hf : f ≤ 6) (hl : fell ≤ 6) (hc : c + 1 < 2 ^ 31) (e8 : M 59 8 = nI c) (e9 : M 59 9 = nI f) (h : ∀ N', GT t M N' [([], fell)] c f → k (.int 0) N') : ∀ (n i : Nat) (a : Nat → Int32), i + n = t → (c ≠ 0 → a = M 66) → (∀ j, j < i → a j = M 65 j) → (c ≠ 0 → i = 0) → WP (7, yX7_goThrough, cX7_goThrough, 7, none) (d + 1) k 7 [.ref 59, .int 0, .int (nI t), .int (nI fell), .int A, .int (nI i), x6] [] (mrow M 66 a) := by
  have fin : ∀ a : Nat → Int32, (c ≠ 0 → a = M 66) → (c = 0 → ∀ j, j < t → a j = M 65 j) → k (.int 0) (mset (mset (mrow M 66 a) 59 8 (nI c + 1)) 59 9 (if nI fell < nI f then nI fell else nI f)) := by
    intro a ha hb
    apply h
    refine ⟨fun p q1 q2 q3 q4 => ?_, fun j q1 q2 => ?_, ?_, ?_, fun j q => ?_, fun j q => ?_, fun q => ?_, fun q x L' e => ?_, fun q => absurd q (by simp)⟩
    · simp [mset, mrow, q1, q4]
    · simp [mset, mrow, upd, q1, q2]
    · simp [mset, mrow, upd, nI_1]
    · rw [mset_s, upd_s]
      show _ = nI (if fell < f then fell else f)
      by_cases z : fell < f
      · rw [if_pos z, if_pos (nI_lt z (by omega))]
      · rw [if_neg z, if_neg (nI_nlt (by omega) (by omega))]
    · simp [mset, mrow]
    · simp [mset, mrow]
    · rw [mset_n (by decide), mset_n (by decide), mrow_s]
      exact ha q
    · have e1 : x = ([], fell) := (List.cons.inj e).1.symm
      subst e1
      refine ⟨fun j hj => ?_, fun j hj => absurd hj (Nat.not_lt_zero _)⟩
      rw [mset_n (by decide), mset_n (by decide), mrow_s]
      exact hb q j hj
  intro n
  induction n with
  | zero =>
    intro i a hi ha hb hz
    have c1 : nI t ≤ nI i := nI_le (by omega) (by omega)
    refine goV (n := 80) [] [7] T_nil ?_
    simp only [dX7_goThrough_0, dX7_goThrough_1, dX7_goThrough_4, dX7_goThrough_5, dX7_goThrough_7, dX7_goThrough_9, dX7_goThrough_10, dX7_goThrough_13, dX7_goThrough_14, dX7_goThrough_17, dX7_goThrough_20, dX7_goThrough_21, dX7_goThrough_24, dX7_goThrough_26, dX7_goThrough_27, dX7_goThrough_30, dX7_goThrough_32, dX7_goThrough_33, dX7_goThrough_34, dX7_goThrough_37, dX7_goThrough_40, dX7_goThrough_41, dX7_goThrough_42, dX7_goThrough_45, dX7_goThrough_46, dX7_goThrough_47, dX7_goThrough_50, dX7_goThrough_51, dX7_goThrough_52, dX7_goThrough_55, dX7_goThrough_56, dX7_goThrough_59, dX7_goThrough_62, dX7_goThrough_63, dX7_goThrough_64, dX7_goThrough_65, dX7_goThrough_68, dX7_goThrough_69, dX7_goThrough_71, dX7_goThrough_73, dX7_goThrough_74, dX7_goThrough_77, dX7_goThrough_78, dX7_goThrough_79, dX7_goThrough_82, dX7_goThrough_83, dX7_goThrough_85, dX7_goThrough_88, dX7_goThrough_91, dX7_goThrough_92, dX7_goThrough_95, dX7_goThrough_96, dX7_goThrough_98, dX7_goThrough_99, dX7_goThrough_100, dX7_goThrough_101, dX7_goThrough_103, dX7_goThrough_106, dX7_goThrough_108, dX7_goThrough_111, dX7_goThrough_112, dX7_goThrough_115, dX7_goThrough_116, dX7_goThrough_117, dX7_goThrough_119, dX7_goThrough_121, dX7_goThrough_123, dX7_goThrough_126, dX7_goThrough_127, dX7_goThrough_128, dX7_goThrough_129, dX7_goThrough_131, dX7_goThrough_132, dX7_goThrough_133, dX7_goThrough_134, dX7_goThrough_135, dX7_goThrough_136, dX7_goThrough_137, dX7_goThrough_138, dX7_goThrough_140, dX7_goThrough_142, dX7_goThrough_145, dX7_goThrough_146, dX7_goThrough_147, dX7_goThrough_150, dX7_goThrough_153, dX7_goThrough_156, cr_7_146, cr_7_155, cr_7_196, cr_7_200, cr_7_204, cr_7_79, fr_7_189, fr_7_193, fr_7_25, fr_7_28, fr_7_9, al_10, al_11, al_12, al_13, al_14, al_16, al_17, al_18, al_19, al_2, al_20, al_21, al_23, al_24, al_27, al_28, al_29, al_3, al_30, al_31, al_32, al_34, al_36, al_37, al_38, al_39, al_4, al_40, al_41, al_42, al_43, al_45, al_46, al_47, al_48, al_49, al_5, al_52, al_53, al_54, al_55, al_56, al_57, al_58, al_6, al_60, al_61, al_62, al_63, al_64, al_65, al_66, al_67, al_69, al_7, al_70, al_71, al_72, al_73, al_9, cat_i, cat_l, cat_r, cat_u, gf_6_0_59, gf_6_6_59, gf_6_7_59, gf_6_8_59, gf_6_9_59, pcl_0, pcl_1, pcl_100, pcl_101, pcl_102, pcl_103, pcl_104, pcl_105, pcl_106, pcl_107, pcl_108, pcl_109, pcl_110, pcl_111, pcl_112, pcl_15, pcl_22, pcl_25, pcl_26, pcl_33, pcl_44, pcl_50, pcl_59, pcl_8, pft_6_8, pft_6_9, v_aload_0, v_bipush_12, v_dup, v_getfield, v_goto, v_iadd, v_iaload, v_iand, v_iastore, v_ic_ge, v_ic_gt, v_iconst_0, v_iconst_1, v_iconst_m1, v_if_eq, v_if_ne, v_iinc_5, v_iload_1, v_iload_2, v_iload_3, v_iload_4, v_iload_5, v_iload_6, v_invs, v_invv, v_ishl, v_istore_5, v_istore_6, v_ixor, v_putfield, v_return, vcS_2_1, vcS_min, vcV_2_6, vcV_5_6, vgf_i, vgf_r, vgf_s, vpf_s, vc_d, rr_0, rr_1, csT_h, csT_t, csT_n, bI_0, bI_1, bI_z, bT, List.mem_cons, List.not_mem_nil, List.length_cons, List.length_nil, ite_not, ↓reduceIte, true_and, and_true, not_true_eq_false, not_false_eq_true, false_or, or_false, or_true, true_or, Nat.reduceAdd, Nat.reduceEqDiff, Nat.reduceBEq, Nat.reduceLeDiff, Nat.reduceLT, Nat.reduceSub, Int.reduceAdd, Int.reduceLE, Int.reduceLT, Int.reduceToNat, Int.reduceNeg, Int.reduceNatCast', reduceCtorEq, Int32.reduceOfInt, Int32.reduceOfNat, Int32.reduceToNatClampNeg, Int32.reduceToInt, i10, i01, nEM, c1, mrow_n, mset_s, upd_n, e8, e9]
    exact fin a ha (fun _ j hj => hb j (by omega))
  | succ n ih =>
    intro i a hi ha hb hz
    have c1 : ¬ nI t ≤ nI i := nI_ge (by omega) (by omega)
    have c4 : (nI i).toInt = (i : Int) := nI_toInt (by omega)
    have c5 : (nI i).toNatClampNeg = i := nI_clamp (by omega)
    have c8 : (nI c = 0) = (c = 0) := by
      rw [show (0 : Int32) = nI 0 from rfl, propext (nI_eq (by omega) (by omega))]
    refine goV (n := 80) [] [7] T_nil ?_
    simp only [dX7_goThrough_0, dX7_goThrough_1, dX7_goThrough_4, dX7_goThrough_5, dX7_goThrough_7, dX7_goThrough_9, dX7_goThrough_10, dX7_goThrough_13, dX7_goThrough_14, dX7_goThrough_17, dX7_goThrough_20, dX7_goThrough_21, dX7_goThrough_24, dX7_goThrough_26, dX7_goThrough_27, dX7_goThrough_30, dX7_goThrough_32, dX7_goThrough_33, dX7_goThrough_34, dX7_goThrough_37, dX7_goThrough_40, dX7_goThrough_41, dX7_goThrough_42, dX7_goThrough_45, dX7_goThrough_46, dX7_goThrough_47, dX7_goThrough_50, dX7_goThrough_51, dX7_goThrough_52, dX7_goThrough_55, dX7_goThrough_56, dX7_goThrough_59, dX7_goThrough_62, dX7_goThrough_63, dX7_goThrough_64, dX7_goThrough_65, dX7_goThrough_68, dX7_goThrough_69, dX7_goThrough_71, dX7_goThrough_73, dX7_goThrough_74, dX7_goThrough_77, dX7_goThrough_78, dX7_goThrough_79, dX7_goThrough_82, dX7_goThrough_83, dX7_goThrough_85, dX7_goThrough_88, dX7_goThrough_91, dX7_goThrough_92, dX7_goThrough_95, dX7_goThrough_96, dX7_goThrough_98, dX7_goThrough_99, dX7_goThrough_100, dX7_goThrough_101, dX7_goThrough_103, dX7_goThrough_106, dX7_goThrough_108, dX7_goThrough_111, dX7_goThrough_112, dX7_goThrough_115, dX7_goThrough_116, dX7_goThrough_117, dX7_goThrough_119, dX7_goThrough_121, dX7_goThrough_123, dX7_goThrough_126, dX7_goThrough_127, dX7_goThrough_128, dX7_goThrough_129, dX7_goThrough_131, dX7_goThrough_132, dX7_goThrough_133, dX7_goThrough_134, dX7_goThrough_135, dX7_goThrough_136, dX7_goThrough_137, dX7_goThrough_138, dX7_goThrough_140, dX7_goThrough_142, dX7_goThrough_145, dX7_goThrough_146, dX7_goThrough_147, dX7_goThrough_150, dX7_goThrough_153, dX7_goThrough_156, cr_7_146, cr_7_155, cr_7_196, cr_7_200, cr_7_204, cr_7_79, fr_7_189, fr_7_193, fr_7_25, fr_7_28, fr_7_9, al_10, al_11, al_12, al_13, al_14, al_16, al_17, al_18, al_19, al_2, al_20, al_21, al_23, al_24, al_27, al_28, al_29, al_3, al_30, al_31, al_32, al_34, al_36, al_37, al_38, al_39, al_4, al_40, al_41, al_42, al_43, al_45, al_46, al_47, al_48, al_49, al_5, al_52, al_53, al_54, al_55, al_56, al_57, al_58, al_6, al_60, al_61, al_62, al_63, al_64, al_65, al_66, al_67, al_69, al_7, al_70, al_71, al_72, al_73, al_9, cat_i, cat_l, cat_r, cat_u, gf_6_0_59, gf_6_6_59, gf_6_7_59, gf_6_8_59, gf_6_9_59, pcl_0, pcl_1, pcl_100, pcl_101, pcl_102, pcl_103, pcl_104, pcl_105, pcl_106, pcl_107, pcl_108, pcl_109, pcl_110, pcl_111, pcl_112, pcl_15, pcl_22, pcl_25, pcl_26, pcl_33, pcl_44, pcl_50, pcl_59, pcl_8, pft_6_8, pft_6_9, v_aload_0, v_bipush_12, v_dup, v_getfield, v_goto, v_iadd, v_iaload, v_iand, v_iastore, v_ic_ge, v_ic_gt, v_iconst_0, v_iconst_1, v_iconst_m1, v_if_eq, v_if_ne, v_iinc_5, v_iload_1, v_iload_2, v_iload_3, v_iload_4, v_iload_5, v_iload_6, v_invs, v_invv, v_ishl, v_istore_5, v_istore_6, v_ixor, v_putfield, v_return, vcS_2_1, vcS_min, vcV_2_6, vcV_5_6, vgf_i, vgf_r, vgf_s, vpf_s, vc_d, rr_0, rr_1, csT_h, csT_t, csT_n, bI_0, bI_1, bI_z, bT, List.mem_cons, List.not_mem_nil, List.length_cons, List.length_nil, ite_not, ↓reduceIte, true_and, and_true, not_true_eq_false, not_false_eq_true, false_or, or_false, or_true, true_or, Nat.reduceAdd, Nat.reduceEqDiff, Nat.reduceBEq, Nat.reduceLeDiff, Nat.reduceLT, Nat.reduceSub, Int.reduceAdd, Int.reduceLE, Int.reduceLT, Int.reduceToNat, Int.reduceNeg, Int.reduceNatCast', reduceCtorEq, Int32.reduceOfInt, Int32.reduceOfNat, Int32.reduceToNatClampNeg, Int32.reduceToInt, i10, i01, nEM, c1, mrow_n, mset_s, upd_n, e8, e9, c8, c4, c5, nI_1, mset, mrow_s, mrow_mrow]
    by_cases h0 : c = 0
    · rw [if_pos h0]
      refine ⟨by omega, by omega, ih (i + 1) _ (by omega) (fun z => absurd h0 z) (fun j hj => ?_) (fun z => absurd h0 z)⟩
      unfold upd
      by_cases e : j = i
      · rw [if_pos e, e]
      · rw [if_neg e]
        exact hb j (by omega)
    · rw [if_neg h0]
      have := fin a ha (fun z => absurd z h0)
      simp only [mset, mrow_s, mrow_mrow, mrow_n, nI_1, upd_n] at this
      exact this
theorem clr_pop : ∀ b, b < 64 → ∀ i, i < 6 → b.testBit i = true → popc (clr b i) + 1 = popc b := by decide +kernel
theorem pop_0 : ∀ b, b < 64 → popc b = 0 → b = 0 := by decide +kernel
theorem clr_bd {b q i : Nat} (h : b < 2 ^ q) : clr b i < 2 ^ q := Nat.lt_of_le_of_lt (clr_lt b i) h
