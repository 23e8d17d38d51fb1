/-! X: sheets -/
abbrev shOK (s : Int32) : Prop := ¬ s < 0 ∧ ¬ 4 ≤ s
theorem sh4 {s : Int32} (h : shOK s) : s = 0 ∨ s = 1 ∨ s = 2 ∨ s = 3 := by
  obtain ⟨m, hm, rfl⟩ := nI_of2 (M := 3) (n := 3) rfl h.1 (by
    have h2 := h.2
    rw [Int32.le_iff_toInt_le] at h2 ⊢
    simp only [Int32.reduceToInt] at h2 ⊢
    omega)
  have hc : m = 0 ∨ m = 1 ∨ m = 2 ∨ m = 3 := by omega
  rcases hc with rfl | rfl | rfl | rfl
  · exact Or.inl rfl
  · exact Or.inr (Or.inl rfl)
  · exact Or.inr (Or.inr (Or.inl rfl))
  · exact Or.inr (Or.inr (Or.inr rfl))
def fdF (M : Mem) (s : Int32) : Int32 := if shOK s then (if M 56 (s).toNatClampNeg = 0 then -1000006 else 0) else -1000001
def pf_X4_finding : PF := fun args M k => match args with
  | [.ref o, .int s] => (o = 50) ∧ (k (.int (fdF M s)) M)
  | _ => False
theorem pe_X4_finding {o : Nat} {s : Int32} {M : Mem} {k : Value → Mem → Prop} : pf_X4_finding [.ref o, .int s] M k = ((o = 50) ∧ (k (.int (fdF M s)) M)) := rfl
set_option maxRecDepth 100000 in
set_option maxHeartbeats 4000000 in
theorem c_X4_finding {d : Nat} (hd : 2 ≤ d) {o : Nat} {s : Int32} {M : Mem} {k : Value → Mem → Prop} (h : (o = 50) ∧ (k (.int (fdF M s)) M)) : CallP d 46 [.ref o, .int s] M k := by
  obtain ⟨hp, h⟩ := h
  obtain ⟨d, rfl⟩ : ∃ d', d = d' + 1 := ⟨d - 1, by omega⟩
  obtain rfl := hp
  · refine enterV (n := 80) [(108, pf_X6_isSheet)] [] mI_46 (by decide) (Nat.le_of_ble_eq_true rfl) (T_cons (s_X6_isSheet (by omega)) T_nil) ?_
    rw [show lent 2 ([.ref 50, .int s] : List Value) = [.ref 50, .int s] from rfl]
    unfold fdF at h
    simp only [dX4_finding_0, dX4_finding_1, dX4_finding_4, dX4_finding_7, dX4_finding_9, dX4_finding_10, dX4_finding_11, dX4_finding_14, dX4_finding_15, dX4_finding_16, dX4_finding_19, dX4_finding_21, dX4_finding_24, dX4_finding_25, cr_4_23, fr_4_16, kr_4_27, kr_4_28, skr_4_27, skr_4_28, al_10, al_11, al_12, al_13, al_14, al_16, al_17, al_18, al_19, al_2, al_20, al_21, al_23, al_24, al_27, al_28, al_29, al_3, al_30, al_31, al_32, al_34, al_36, al_37, al_38, al_39, al_4, al_40, al_41, al_42, al_43, al_45, al_46, al_47, al_48, al_49, al_5, al_52, al_53, al_54, al_55, al_56, al_57, al_58, al_6, al_60, al_61, al_62, al_63, al_64, al_65, al_66, al_67, al_69, al_7, al_70, al_71, al_72, al_73, al_9, gf_3_1_50, rOK_i, rOK_z, v_aload_0, v_getfield, v_goto, v_iaload, v_iconst_0, v_if_ne, v_iload_1, v_invs, v_ireturn, v_ldc, vcS_1_2, vgf_i, vgf_r, vgf_s, vld_i, vld_s, vc_0, vc_s, rr_0, rr_1, csT_h, csT_t, csT_n, bI_0, bI_1, bI_z, bT, List.mem_cons, List.not_mem_nil, List.length_cons, List.length_nil, ite_not, ↓reduceIte, true_and, and_true, not_true_eq_false, not_false_eq_true, false_or, or_false, or_true, true_or, Nat.reduceAdd, Nat.reduceEqDiff, Nat.reduceBEq, Nat.reduceLeDiff, Nat.reduceLT, Nat.reduceSub, Int.reduceAdd, Int.reduceLE, Int.reduceLT, Int.reduceToNat, Int.reduceNeg, Int.reduceNatCast', reduceCtorEq, Int32.reduceOfInt, Int32.reduceOfNat, Int32.reduceToNatClampNeg, Int32.reduceToInt, i10, i01, pe_X6_isSheet]
    by_cases hs : shOK s
    · rw [if_pos hs] at h
      rw [if_pos hs]
      refine ⟨bd hs.1 hs.2 rfl, ?_⟩
      by_cases h0 : M 56 (s).toNatClampNeg = 0
      · rw [if_pos h0] at h
        rw [if_pos h0]
        exact h
      · rw [if_neg h0] at h
        rw [if_neg h0]
        exact h
    · rw [if_neg hs] at h
      rw [if_neg hs]
      exact h

theorem s_X4_finding {d : Nat} (hd : 2 ≤ d) : Snd d 46 pf_X4_finding := by
  intro args M k h
  unfold pf_X4_finding at h
  split at h
  · exact c_X4_finding hd h
  · exact h.elim
def rnM (M : Mem) (s bt n : Int32) : Mem := mrow (mset (mset M 56 (s).toNatClampNeg bt) 57 (s).toNatClampNeg n) (52 + (s).toNatClampNeg) (cpN 40 (fun _ => 0) (M (52 + (s).toNatClampNeg)))
set_option maxRecDepth 100000 in
set_option maxHeartbeats 4000000 in
theorem lp_renew {d : Nat} {M : Mem} {k : Value → Mem → Prop} {s bt m : Int32} (hs : shOK s) (h : k (.int 0) (mrow M (52 + (s).toNatClampNeg) (cpN 40 (fun _ => 0) (M (52 + (s).toNatClampNeg))))) : ∀ (n i : Nat), i + n = 40 → WP (4, yX4_renew, cX4_renew, 5, none) (d + 1) k 34 [.ref 50, .int s, .int bt, .int m, .int (nI i)] [] (mrow M (52 + (s).toNatClampNeg) (cpN i (fun _ => 0) (M (52 + (s).toNatClampNeg)))) := by
  have hb := bd (N := 4) hs.1 hs.2 rfl
  intro n
  induction n with
  | zero =>
    intro i hi
    have : i = 40 := by omega
    subst this
    refine goV (n := 80) [] [34] T_nil ?_
    simp only [dX4_renew_0, dX4_renew_1, dX4_renew_4, dX4_renew_7, dX4_renew_8, dX4_renew_11, dX4_renew_12, dX4_renew_14, dX4_renew_17, dX4_renew_18, dX4_renew_21, dX4_renew_22, dX4_renew_23, dX4_renew_24, dX4_renew_25, dX4_renew_28, dX4_renew_29, dX4_renew_30, dX4_renew_31, dX4_renew_32, dX4_renew_34, dX4_renew_36, dX4_renew_38, dX4_renew_41, dX4_renew_42, dX4_renew_45, dX4_renew_46, dX4_renew_47, dX4_renew_49, dX4_renew_50, dX4_renew_51, dX4_renew_54, dX4_renew_57, cr_4_23, fr_4_11, fr_4_16, fr_4_20, al_10, al_11, al_12, al_13, al_14, al_16, al_17, al_18, al_19, al_2, al_20, al_21, al_23, al_24, al_27, al_28, al_29, al_3, al_30, al_31, al_32, al_34, al_36, al_37, al_38, al_39, al_4, al_40, al_41, al_42, al_43, al_45, al_46, al_47, al_48, al_49, al_5, al_52, al_53, al_54, al_55, al_56, al_57, al_58, al_6, al_60, al_61, al_62, al_63, al_64, al_65, al_66, al_67, al_69, al_7, al_70, al_71, al_72, al_73, al_9, cat_i, cat_l, cat_r, cat_u, gf_3_0_50, gf_3_1_50, gf_3_2_50, ra_35, ra_51, ra_68, v_aaload, v_aload_0, v_bipush_40, v_getfield, v_goto, v_iastore, v_ic_ge, v_ic_gt, v_iconst_0, v_if_eq, v_if_lt, v_iinc_4, v_iload_1, v_iload_2, v_iload_3, v_iload_4, v_invs, v_istore_4, v_return, vaa_s, vcS_1_2, vgf_i, vgf_r, vgf_s, vc_0, vc_s, rr_0, rr_1, csT_h, csT_t, csT_n, bI_0, bI_1, bI_z, bT, List.mem_cons, List.not_mem_nil, List.length_cons, List.length_nil, ite_not, ↓reduceIte, true_and, and_true, not_true_eq_false, not_false_eq_true, false_or, or_false, or_true, true_or, Nat.reduceAdd, Nat.reduceEqDiff, Nat.reduceBEq, Nat.reduceLeDiff, Nat.reduceLT, Nat.reduceSub, Int.reduceAdd, Int.reduceLE, Int.reduceLT, Int.reduceToNat, Int.reduceNeg, Int.reduceNatCast', reduceCtorEq, Int32.reduceOfInt, Int32.reduceOfNat, Int32.reduceToNatClampNeg, Int32.reduceToInt, i10, i01, show (40 : Int32) ≤ nI 40 from by decide]
    exact h
  | succ n ih =>
    intro i hi
    refine goV (n := 80) [] [34] T_nil ?_
    have c1 : ¬ (40 : Int32) ≤ nI i := nI_ge (b := 40) (by omega) (by decide)
    have c2 : (nI i).toInt = i := nI_toInt (by omega)
    have c3 : (nI i).toNatClampNeg = i := nI_clamp (by omega)
    have ha : al (52 + (s).toNatClampNeg) = 40 := by rcases sh4 hs with rfl | rfl | rfl | rfl <;> decide +kernel
    simp only [dX4_renew_0, dX4_renew_1, dX4_renew_4, dX4_renew_7, dX4_renew_8, dX4_renew_11, dX4_renew_12, dX4_renew_14, dX4_renew_17, dX4_renew_18, dX4_renew_21, dX4_renew_22, dX4_renew_23, dX4_renew_24, dX4_renew_25, dX4_renew_28, dX4_renew_29, dX4_renew_30, dX4_renew_31, dX4_renew_32, dX4_renew_34, dX4_renew_36, dX4_renew_38, dX4_renew_41, dX4_renew_42, dX4_renew_45, dX4_renew_46, dX4_renew_47, dX4_renew_49, dX4_renew_50, dX4_renew_51, dX4_renew_54, dX4_renew_57, cr_4_23, fr_4_11, fr_4_16, fr_4_20, al_10, al_11, al_12, al_13, al_14, al_16, al_17, al_18, al_19, al_2, al_20, al_21, al_23, al_24, al_27, al_28, al_29, al_3, al_30, al_31, al_32, al_34, al_36, al_37, al_38, al_39, al_4, al_40, al_41, al_42, al_43, al_45, al_46, al_47, al_48, al_49, al_5, al_52, al_53, al_54, al_55, al_56, al_57, al_58, al_6, al_60, al_61, al_62, al_63, al_64, al_65, al_66, al_67, al_69, al_7, al_70, al_71, al_72, al_73, al_9, cat_i, cat_l, cat_r, cat_u, gf_3_0_50, gf_3_1_50, gf_3_2_50, ra_35, ra_51, ra_68, v_aaload, v_aload_0, v_bipush_40, v_getfield, v_goto, v_iastore, v_ic_ge, v_ic_gt, v_iconst_0, v_if_eq, v_if_lt, v_iinc_4, v_iload_1, v_iload_2, v_iload_3, v_iload_4, v_invs, v_istore_4, v_return, vaa_s, vcS_1_2, vgf_i, vgf_r, vgf_s, vc_0, vc_s, rr_0, rr_1, csT_h, csT_t, csT_n, bI_0, bI_1, bI_z, bT, List.mem_cons, List.not_mem_nil, List.length_cons, List.length_nil, ite_not, ↓reduceIte, true_and, and_true, not_true_eq_false, not_false_eq_true, false_or, or_false, or_true, true_or, Nat.reduceAdd, Nat.reduceEqDiff, Nat.reduceBEq, Nat.reduceLeDiff, Nat.reduceLT, Nat.reduceSub, Int.reduceAdd, Int.reduceLE, Int.reduceLT, Int.reduceToNat, Int.reduceNeg, Int.reduceNatCast', reduceCtorEq, Int32.reduceOfInt, Int32.reduceOfNat, Int32.reduceToNatClampNeg, Int32.reduceToInt, i10, i01, c1, c2, c3, nI_1, ha, mset, mrow_s, mrow_mrow]
    refine ⟨hb, by omega, ?_⟩
    have := ih (i + 1) (by omega)
    rw [← cpN_s] at this
    exact this
def pf_X4_renew : PF := fun args M k => match args with
  | [.ref o, .int s, .int bt, .int n] => (o = 50 ∧ shOK s ∧ ¬ n < 0 ∧ ¬ 40 < n) ∧ (k (.int 0) (rnM M s bt n))
  | _ => False
theorem pe_X4_renew {o : Nat} {s : Int32} {bt : Int32} {n : Int32} {M : Mem} {k : Value → Mem → Prop} : pf_X4_renew [.ref o, .int s, .int bt, .int n] M k = ((o = 50 ∧ shOK s ∧ ¬ n < 0 ∧ ¬ 40 < n) ∧ (k (.int 0) (rnM M s bt n))) := rfl
set_option maxRecDepth 100000 in
set_option maxHeartbeats 4000000 in
theorem c_X4_renew {d : Nat} (hd : 2 ≤ d) {o : Nat} {s : Int32} {bt : Int32} {n : Int32} {M : Mem} {k : Value → Mem → Prop} (h : (o = 50 ∧ shOK s ∧ ¬ n < 0 ∧ ¬ 40 < n) ∧ (k (.int 0) (rnM M s bt n))) : CallP d 47 [.ref o, .int s, .int bt, .int n] M k := by
  obtain ⟨hp, h⟩ := h
  obtain ⟨d, rfl⟩ : ∃ d', d = d' + 1 := ⟨d - 1, by omega⟩
  obtain ⟨rfl, hs, h1, h2⟩ := hp
  · refine enterV (n := 80) [(108, pf_X6_isSheet)] [34] mI_47 (by decide) (Nat.le_of_ble_eq_true rfl) (T_cons (s_X6_isSheet (by omega)) T_nil) ?_
    rw [show lent 5 ([.ref 50, .int s, .int bt, .int n] : List Value) = [.ref 50, .int s, .int bt, .int n, .retAddr 0] from rfl]
    unfold rnM at h
    have e : ∀ x y, mset (mset M 56 (s).toNatClampNeg x) 57 (s).toNatClampNeg y (52 + (s).toNatClampNeg) = M (52 + (s).toNatClampNeg) := by
      intro x y
      rw [mset_n (by rcases sh4 hs with rfl | rfl | rfl | rfl <;> decide), mset_n (by rcases sh4 hs with rfl | rfl | rfl | rfl <;> decide)]
    simp only [dX4_renew_0, dX4_renew_1, dX4_renew_4, dX4_renew_7, dX4_renew_8, dX4_renew_11, dX4_renew_12, dX4_renew_14, dX4_renew_17, dX4_renew_18, dX4_renew_21, dX4_renew_22, dX4_renew_23, dX4_renew_24, dX4_renew_25, dX4_renew_28, dX4_renew_29, dX4_renew_30, dX4_renew_31, dX4_renew_32, dX4_renew_34, dX4_renew_36, dX4_renew_38, dX4_renew_41, dX4_renew_42, dX4_renew_45, dX4_renew_46, dX4_renew_47, dX4_renew_49, dX4_renew_50, dX4_renew_51, dX4_renew_54, dX4_renew_57, cr_4_23, fr_4_11, fr_4_16, fr_4_20, al_10, al_11, al_12, al_13, al_14, al_16, al_17, al_18, al_19, al_2, al_20, al_21, al_23, al_24, al_27, al_28, al_29, al_3, al_30, al_31, al_32, al_34, al_36, al_37, al_38, al_39, al_4, al_40, al_41, al_42, al_43, al_45, al_46, al_47, al_48, al_49, al_5, al_52, al_53, al_54, al_55, al_56, al_57, al_58, al_6, al_60, al_61, al_62, al_63, al_64, al_65, al_66, al_67, al_69, al_7, al_70, al_71, al_72, al_73, al_9, cat_i, cat_l, cat_r, cat_u, gf_3_0_50, gf_3_1_50, gf_3_2_50, ra_35, ra_51, ra_68, v_aaload, v_aload_0, v_bipush_40, v_getfield, v_goto, v_iastore, v_ic_ge, v_ic_gt, v_iconst_0, v_if_eq, v_if_lt, v_iinc_4, v_iload_1, v_iload_2, v_iload_3, v_iload_4, v_invs, v_istore_4, v_return, vaa_s, vcS_1_2, vgf_i, vgf_r, vgf_s, vc_0, vc_s, rr_0, rr_1, csT_h, csT_t, csT_n, bI_0, bI_1, bI_z, bT, List.mem_cons, List.not_mem_nil, List.length_cons, List.length_nil, ite_not, ↓reduceIte, true_and, and_true, not_true_eq_false, not_false_eq_true, false_or, or_false, or_true, true_or, Nat.reduceAdd, Nat.reduceEqDiff, Nat.reduceBEq, Nat.reduceLeDiff, Nat.reduceLT, Nat.reduceSub, Int.reduceAdd, Int.reduceLE, Int.reduceLT, Int.reduceToNat, Int.reduceNeg, Int.reduceNatCast', reduceCtorEq, Int32.reduceOfInt, Int32.reduceOfNat, Int32.reduceToNatClampNeg, Int32.reduceToInt, i10, i01, pe_X6_isSheet, hs, h1, h2]
    refine ⟨bd hs.1 hs.2 rfl, bd hs.1 hs.2 rfl, ?_⟩
    have := lp_renew (d := d) (M := mset (mset M 56 (s).toNatClampNeg bt) 57 (s).toNatClampNeg n) (bt := bt) (m := n) hs (by rw [e]; exact h) 40 0 rfl
    rw [cpN_0, mrow_self] at this
    exact this

theorem s_X4_renew {d : Nat} (hd : 2 ≤ d) : Snd d 47 pf_X4_renew := by
  intro args M k h
  unfold pf_X4_renew at h
  split at h
  · exact c_X4_renew hd h
  · exact h.elim
def cutF (bt v : Int32) : Int32 := if bt = 8 then v.toInt8.toInt32 else if bt = 16 then v.toInt16.toInt32 else v
def pf_X4_put : PF := fun args M k => match args with
  | [.ref o, .int s, .int i, .int v] => (o = 50 ∧ shOK s ∧ ¬ i < 0 ∧ ¬ 40 ≤ i) ∧ (k (.int 0) (mset M (52 + (s).toNatClampNeg) (i).toNatClampNeg (cutF (M 56 (s).toNatClampNeg) v)))
  | _ => False
theorem pe_X4_put {o : Nat} {s : Int32} {i : Int32} {v : Int32} {M : Mem} {k : Value → Mem → Prop} : pf_X4_put [.ref o, .int s, .int i, .int v] M k = ((o = 50 ∧ shOK s ∧ ¬ i < 0 ∧ ¬ 40 ≤ i) ∧ (k (.int 0) (mset M (52 + (s).toNatClampNeg) (i).toNatClampNeg (cutF (M 56 (s).toNatClampNeg) v)))) := rfl
set_option maxRecDepth 100000 in
set_option maxHeartbeats 4000000 in
theorem c_X4_put {d : Nat} (hd : 2 ≤ d) {o : Nat} {s : Int32} {i : Int32} {v : Int32} {M : Mem} {k : Value → Mem → Prop} (h : (o = 50 ∧ shOK s ∧ ¬ i < 0 ∧ ¬ 40 ≤ i) ∧ (k (.int 0) (mset M (52 + (s).toNatClampNeg) (i).toNatClampNeg (cutF (M 56 (s).toNatClampNeg) v)))) : CallP d 48 [.ref o, .int s, .int i, .int v] M k := by
  obtain ⟨hp, h⟩ := h
  obtain ⟨d, rfl⟩ : ∃ d', d = d' + 1 := ⟨d - 1, by omega⟩
  obtain ⟨rfl, hs, h1, h2⟩ := hp
  · refine enterV (n := 80) [(108, pf_X6_isSheet)] [] mI_48 (by decide) (Nat.le_of_ble_eq_true rfl) (T_cons (s_X6_isSheet (by omega)) T_nil) ?_
    rw [show lent 4 ([.ref 50, .int s, .int i, .int v] : List Value) = [.ref 50, .int s, .int i, .int v] from rfl]
    have ha : al (52 + (s).toNatClampNeg) = 40 := by rcases sh4 hs with rfl | rfl | rfl | rfl <;> decide +kernel
    simp only [dX4_put_0, dX4_put_1, dX4_put_4, dX4_put_7, dX4_put_8, dX4_put_11, dX4_put_12, dX4_put_14, dX4_put_17, dX4_put_18, dX4_put_21, dX4_put_22, dX4_put_23, dX4_put_24, dX4_put_25, dX4_put_28, dX4_put_29, dX4_put_30, dX4_put_32, dX4_put_35, dX4_put_36, dX4_put_37, dX4_put_40, dX4_put_41, dX4_put_44, dX4_put_45, dX4_put_46, dX4_put_48, dX4_put_51, dX4_put_52, dX4_put_53, dX4_put_56, dX4_put_57, dX4_put_58, cr_4_23, fr_4_11, fr_4_16, al_10, al_11, al_12, al_13, al_14, al_16, al_17, al_18, al_19, al_2, al_20, al_21, al_23, al_24, al_27, al_28, al_29, al_3, al_30, al_31, al_32, al_34, al_36, al_37, al_38, al_39, al_4, al_40, al_41, al_42, al_43, al_45, al_46, al_47, al_48, al_49, al_5, al_52, al_53, al_54, al_55, al_56, al_57, al_58, al_6, al_60, al_61, al_62, al_63, al_64, al_65, al_66, al_67, al_69, al_7, al_70, al_71, al_72, al_73, al_9, gf_3_0_50, gf_3_1_50, ra_35, ra_51, ra_68, v_aaload, v_aload_0, v_bipush_16, v_bipush_40, v_bipush_8, v_getfield, v_goto, v_i2b, v_i2s, v_iaload, v_iastore, v_ic_ge, v_ic_ne, v_if_eq, v_if_lt, v_iload_1, v_iload_2, v_iload_3, v_invs, v_return, vaa_s, vcS_1_2, vgf_i, vgf_r, vgf_s, vc_0, vc_s, rr_0, rr_1, csT_h, csT_t, csT_n, bI_0, bI_1, bI_z, bT, List.mem_cons, List.not_mem_nil, List.length_cons, List.length_nil, ite_not, ↓reduceIte, true_and, and_true, not_true_eq_false, not_false_eq_true, false_or, or_false, or_true, true_or, Nat.reduceAdd, Nat.reduceEqDiff, Nat.reduceBEq, Nat.reduceLeDiff, Nat.reduceLT, Nat.reduceSub, Int.reduceAdd, Int.reduceLE, Int.reduceLT, Int.reduceToNat, Int.reduceNeg, Int.reduceNatCast', reduceCtorEq, Int32.reduceOfInt, Int32.reduceOfNat, Int32.reduceToNatClampNeg, Int32.reduceToInt, i10, i01, pe_X6_isSheet, hs, h1, h2, ha]
    refine ⟨bd hs.1 hs.2 rfl, bd hs.1 hs.2 rfl, ?_⟩
    unfold cutF at h
    by_cases e1 : M 56 (s).toNatClampNeg = 8
    · rw [if_pos e1] at h ⊢
      exact ⟨bd h1 h2 rfl, h⟩
    · rw [if_neg e1] at h ⊢
      refine ⟨bd hs.1 hs.2 rfl, ?_⟩
      by_cases e2 : M 56 (s).toNatClampNeg = 16
      · rw [if_pos e2] at h ⊢
        exact ⟨bd h1 h2 rfl, h⟩
      · rw [if_neg e2] at h ⊢
        exact ⟨bd h1 h2 rfl, h⟩

theorem s_X4_put {d : Nat} (hd : 2 ≤ d) : Snd d 48 pf_X4_put := by
  intro args M k h
  unfold pf_X4_put at h
  split at h
  · exact c_X4_put hd h
  · exact h.elim
def pf_X4_hasPart : PF := fun args M k => match args with
  | [.ref o, .int s, .int f, .int n] => (o = 50 ∧ shOK s) ∧ (k (.int (bI (¬ f < 0 ∧ ¬ n < 0 ∧ ¬ M 57 (s).toNatClampNeg < n ∧ ¬ M 57 (s).toNatClampNeg - n < f))) M)
  | _ => False
theorem pe_X4_hasPart {o : Nat} {s : Int32} {f : Int32} {n : Int32} {M : Mem} {k : Value → Mem → Prop} : pf_X4_hasPart [.ref o, .int s, .int f, .int n] M k = ((o = 50 ∧ shOK s) ∧ (k (.int (bI (¬ f < 0 ∧ ¬ n < 0 ∧ ¬ M 57 (s).toNatClampNeg < n ∧ ¬ M 57 (s).toNatClampNeg - n < f))) M)) := rfl
set_option maxRecDepth 100000 in
set_option maxHeartbeats 4000000 in
theorem c_X4_hasPart {d : Nat} (hd : 2 ≤ d) {o : Nat} {s : Int32} {f : Int32} {n : Int32} {M : Mem} {k : Value → Mem → Prop} (h : (o = 50 ∧ shOK s) ∧ (k (.int (bI (¬ f < 0 ∧ ¬ n < 0 ∧ ¬ M 57 (s).toNatClampNeg < n ∧ ¬ M 57 (s).toNatClampNeg - n < f))) M)) : CallP d 49 [.ref o, .int s, .int f, .int n] M k := by
  obtain ⟨hp, h⟩ := h
  obtain ⟨d, rfl⟩ : ∃ d', d = d' + 1 := ⟨d - 1, by omega⟩
  obtain ⟨rfl, hs⟩ := hp
  · refine enterV (n := 80) [(108, pf_X6_isSheet)] [] mI_49 (by decide) (Nat.le_of_ble_eq_true rfl) (T_cons (s_X6_isSheet (by omega)) T_nil) ?_
    rw [show lent 4 ([.ref 50, .int s, .int f, .int n] : List Value) = [.ref 50, .int s, .int f, .int n] from rfl]
    simp only [dX4_hasPart_0, dX4_hasPart_1, dX4_hasPart_4, dX4_hasPart_7, dX4_hasPart_8, dX4_hasPart_11, dX4_hasPart_12, dX4_hasPart_15, dX4_hasPart_16, dX4_hasPart_17, dX4_hasPart_20, dX4_hasPart_21, dX4_hasPart_22, dX4_hasPart_25, dX4_hasPart_26, dX4_hasPart_27, dX4_hasPart_30, dX4_hasPart_31, dX4_hasPart_32, dX4_hasPart_33, dX4_hasPart_34, dX4_hasPart_37, dX4_hasPart_38, dX4_hasPart_41, dX4_hasPart_42, cr_4_23, fr_4_20, al_10, al_11, al_12, al_13, al_14, al_16, al_17, al_18, al_19, al_2, al_20, al_21, al_23, al_24, al_27, al_28, al_29, al_3, al_30, al_31, al_32, al_34, al_36, al_37, al_38, al_39, al_4, al_40, al_41, al_42, al_43, al_45, al_46, al_47, al_48, al_49, al_5, al_52, al_53, al_54, al_55, al_56, al_57, al_58, al_6, al_60, al_61, al_62, al_63, al_64, al_65, al_66, al_67, al_69, al_7, al_70, al_71, al_72, al_73, al_9, gf_3_2_50, rOK_i, rOK_z, v_aload_0, v_getfield, v_goto, v_iaload, v_ic_gt, v_iconst_0, v_iconst_1, v_if_eq, v_if_lt, v_iload_1, v_iload_2, v_iload_3, v_invs, v_ireturn, v_isub, vcS_1_2, vgf_i, vgf_r, vgf_s, vc_0, vc_s, rr_0, rr_1, csT_h, csT_t, csT_n, bI_0, bI_1, bI_z, bT, List.mem_cons, List.not_mem_nil, List.length_cons, List.length_nil, ite_not, ↓reduceIte, true_and, and_true, not_true_eq_false, not_false_eq_true, false_or, or_false, or_true, true_or, Nat.reduceAdd, Nat.reduceEqDiff, Nat.reduceBEq, Nat.reduceLeDiff, Nat.reduceLT, Nat.reduceSub, Int.reduceAdd, Int.reduceLE, Int.reduceLT, Int.reduceToNat, Int.reduceNeg, Int.reduceNatCast', reduceCtorEq, Int32.reduceOfInt, Int32.reduceOfNat, Int32.reduceToNatClampNeg, Int32.reduceToInt, i10, i01, pe_X6_isSheet, hs]
    have hb := bd (N := 4) hs.1 hs.2 rfl
    repeat' (first | split | apply And.intro)
    all_goals first | (simpa [bI, *] using h) | exact hb.1 | exact hb.2

theorem s_X4_hasPart {d : Nat} (hd : 2 ≤ d) : Snd d 49 pf_X4_hasPart := by
  intro args M k h
  unfold pf_X4_hasPart at h
  split at h
  · exact c_X4_hasPart hd h
  · exact h.elim
def telB (f r : Nat → Int32) : Nat → Nat → Bool
  | 0, _ => true
  | n + 1, i => if f i = -1 ∨ f i = r i then telB f r n (i + 1) else false
set_option maxRecDepth 100000 in
set_option maxHeartbeats 4000000 in
theorem lp_tells {d : Nat} {M : Mem} {k : Value → Mem → Prop} {s : Int32} {m : Nat} (hs : shOK s) (hm : m ≤ 12) (he : M 57 (s).toNatClampNeg = nI m) : ∀ (n i : Nat), i + n = m → k (.int (bI (telB (M (52 + (s).toNatClampNeg)) (M 23) n i = true))) M → WP (4, yX4_tells, cX4_tells, 4, (some .boolean)) (d + 1) k 22 [.ref 50, .int s, .ref 23, .int (nI i)] [] M := by
  have hb := bd (N := 4) hs.1 hs.2 rfl
  have ha : al (52 + (s).toNatClampNeg) = 40 := by rcases sh4 hs with rfl | rfl | rfl | rfl <;> decide +kernel
  have h90 : (52 + (s).toNatClampNeg = 90) = False := by rcases sh4 hs with rfl | rfl | rfl | rfl <;> decide +kernel
  intro n
  induction n with
  | zero =>
    intro i hi h
    have : i = m := by omega
    subst this
    refine goV (n := 80) [] [22] T_nil ?_
    simp only [dX4_tells_0, dX4_tells_1, dX4_tells_4, dX4_tells_7, dX4_tells_8, dX4_tells_11, dX4_tells_12, dX4_tells_13, dX4_tells_14, dX4_tells_15, dX4_tells_18, dX4_tells_19, dX4_tells_20, dX4_tells_21, dX4_tells_22, dX4_tells_23, dX4_tells_24, dX4_tells_27, dX4_tells_28, dX4_tells_29, dX4_tells_32, dX4_tells_33, dX4_tells_36, dX4_tells_37, dX4_tells_38, dX4_tells_39, dX4_tells_40, dX4_tells_41, dX4_tells_44, dX4_tells_45, dX4_tells_48, dX4_tells_49, dX4_tells_50, dX4_tells_51, dX4_tells_52, dX4_tells_53, dX4_tells_54, dX4_tells_55, dX4_tells_58, dX4_tells_59, dX4_tells_60, dX4_tells_63, dX4_tells_66, dX4_tells_67, cr_4_23, fr_4_11, fr_4_20, al_10, al_11, al_12, al_13, al_14, al_16, al_17, al_18, al_19, al_2, al_20, al_21, al_23, al_24, al_27, al_28, al_29, al_3, al_30, al_31, al_32, al_34, al_36, al_37, al_38, al_39, al_4, al_40, al_41, al_42, al_43, al_45, al_46, al_47, al_48, al_49, al_5, al_52, al_53, al_54, al_55, al_56, al_57, al_58, al_6, al_60, al_61, al_62, al_63, al_64, al_65, al_66, al_67, al_69, al_7, al_70, al_71, al_72, al_73, al_9, cat_i, cat_l, cat_r, cat_u, gf_3_0_50, gf_3_2_50, rOK_i, rOK_z, ra_35, ra_51, ra_68, ran_10, ran_11, ran_12, ran_13, ran_14, ran_16, ran_17, ran_18, ran_19, ran_2, ran_20, ran_21, ran_23, ran_24, ran_27, ran_28, ran_29, ran_3, ran_30, ran_31, ran_32, ran_34, ran_36, ran_37, ran_38, ran_39, ran_4, ran_40, ran_41, ran_42, ran_43, ran_45, ran_46, ran_47, ran_48, ran_49, ran_5, ran_52, ran_53, ran_54, ran_55, ran_56, ran_57, ran_58, ran_6, ran_60, ran_61, ran_62, ran_63, ran_64, ran_65, ran_66, ran_67, ran_69, ran_7, ran_70, ran_71, ran_72, ran_73, ran_9, v_aaload, v_aload_0, v_aload_2, v_arraylength, v_getfield, v_goto, v_iaload, v_ic_eq, v_ic_ge, v_ic_le, v_iconst_0, v_iconst_1, v_iconst_m1, v_if_eq, v_iinc_3, v_iload_1, v_iload_3, v_invs, v_ireturn, v_istore_3, vaa_s, vcS_1_2, vgf_i, vgf_r, vgf_s, vln_n, vln_s, vc_0, vc_s, rr_0, rr_1, csT_h, csT_t, csT_n, bI_0, bI_1, bI_z, bT, List.mem_cons, List.not_mem_nil, List.length_cons, List.length_nil, ite_not, ↓reduceIte, true_and, and_true, not_true_eq_false, not_false_eq_true, false_or, or_false, or_true, true_or, Nat.reduceAdd, Nat.reduceEqDiff, Nat.reduceBEq, Nat.reduceLeDiff, Nat.reduceLT, Nat.reduceSub, Int.reduceAdd, Int.reduceLE, Int.reduceLT, Int.reduceToNat, Int.reduceNeg, Int.reduceNatCast', reduceCtorEq, Int32.reduceOfInt, Int32.reduceOfNat, Int32.reduceToNatClampNeg, Int32.reduceToInt, i10, i01, he, show nI i ≤ nI i from nI_le (Nat.le_refl _) (by omega)]
    exact ⟨hb, h⟩
  | succ n ih =>
    intro i hi h
    refine goV (n := 80) [] [22] T_nil ?_
    have c1 : ¬ nI m ≤ nI i := nI_ge (by omega) (by omega)
    have c2 : (nI i).toInt = i := nI_toInt (by omega)
    have c3 : (nI i).toNatClampNeg = i := nI_clamp (by omega)
    simp only [dX4_tells_0, dX4_tells_1, dX4_tells_4, dX4_tells_7, dX4_tells_8, dX4_tells_11, dX4_tells_12, dX4_tells_13, dX4_tells_14, dX4_tells_15, dX4_tells_18, dX4_tells_19, dX4_tells_20, dX4_tells_21, dX4_tells_22, dX4_tells_23, dX4_tells_24, dX4_tells_27, dX4_tells_28, dX4_tells_29, dX4_tells_32, dX4_tells_33, dX4_tells_36, dX4_tells_37, dX4_tells_38, dX4_tells_39, dX4_tells_40, dX4_tells_41, dX4_tells_44, dX4_tells_45, dX4_tells_48, dX4_tells_49, dX4_tells_50, dX4_tells_51, dX4_tells_52, dX4_tells_53, dX4_tells_54, dX4_tells_55, dX4_tells_58, dX4_tells_59, dX4_tells_60, dX4_tells_63, dX4_tells_66, dX4_tells_67, cr_4_23, fr_4_11, fr_4_20, al_10, al_11, al_12, al_13, al_14, al_16, al_17, al_18, al_19, al_2, al_20, al_21, al_23, al_24, al_27, al_28, al_29, al_3, al_30, al_31, al_32, al_34, al_36, al_37, al_38, al_39, al_4, al_40, al_41, al_42, al_43, al_45, al_46, al_47, al_48, al_49, al_5, al_52, al_53, al_54, al_55, al_56, al_57, al_58, al_6, al_60, al_61, al_62, al_63, al_64, al_65, al_66, al_67, al_69, al_7, al_70, al_71, al_72, al_73, al_9, cat_i, cat_l, cat_r, cat_u, gf_3_0_50, gf_3_2_50, rOK_i, rOK_z, ra_35, ra_51, ra_68, ran_10, ran_11, ran_12, ran_13, ran_14, ran_16, ran_17, ran_18, ran_19, ran_2, ran_20, ran_21, ran_23, ran_24, ran_27, ran_28, ran_29, ran_3, ran_30, ran_31, ran_32, ran_34, ran_36, ran_37, ran_38, ran_39, ran_4, ran_40, ran_41, ran_42, ran_43, ran_45, ran_46, ran_47, ran_48, ran_49, ran_5, ran_52, ran_53, ran_54, ran_55, ran_56, ran_57, ran_58, ran_6, ran_60, ran_61, ran_62, ran_63, ran_64, ran_65, ran_66, ran_67, ran_69, ran_7, ran_70, ran_71, ran_72, ran_73, ran_9, v_aaload, v_aload_0, v_aload_2, v_arraylength, v_getfield, v_goto, v_iaload, v_ic_eq, v_ic_ge, v_ic_le, v_iconst_0, v_iconst_1, v_iconst_m1, v_if_eq, v_iinc_3, v_iload_1, v_iload_3, v_invs, v_ireturn, v_istore_3, vaa_s, vcS_1_2, vgf_i, vgf_r, vgf_s, vln_n, vln_s, vc_0, vc_s, rr_0, rr_1, csT_h, csT_t, csT_n, bI_0, bI_1, bI_z, bT, List.mem_cons, List.not_mem_nil, List.length_cons, List.length_nil, ite_not, ↓reduceIte, true_and, and_true, not_true_eq_false, not_false_eq_true, false_or, or_false, or_true, true_or, Nat.reduceAdd, Nat.reduceEqDiff, Nat.reduceBEq, Nat.reduceLeDiff, Nat.reduceLT, Nat.reduceSub, Int.reduceAdd, Int.reduceLE, Int.reduceLT, Int.reduceToNat, Int.reduceNeg, Int.reduceNatCast', reduceCtorEq, Int32.reduceOfInt, Int32.reduceOfNat, Int32.reduceToNatClampNeg, Int32.reduceToInt, i10, i01, c1, c2, c3, nI_1, ha, he, h90]
    refine ⟨hb, hb, by omega, ?_⟩
    rw [telB] at h
    by_cases e1 : M (52 + (s).toNatClampNeg) i = -1
    · rw [if_pos (Or.inl e1)] at h
      rw [if_pos e1]
      exact ih (i + 1) (by omega) h
    · rw [if_neg e1]
      refine ⟨hb, by omega, by omega, ?_⟩
      by_cases e2 : M (52 + (s).toNatClampNeg) i = M 23 i
      · rw [if_pos (Or.inr e2)] at h
        rw [if_pos e2]
        exact ih (i + 1) (by omega) h
      · rw [if_neg (fun z => z.elim e1 e2)] at h
        rw [if_neg e2]
        exact h
def pf_X4_tells : PF := fun args M k => match args with
  | [.ref o, .int s, .ref p] => (o = 50 ∧ p = 23 ∧ shOK s ∧ ∃ m, m ≤ 12 ∧ M 57 (s).toNatClampNeg = nI m) ∧ (k (.int (bI (telB (M (52 + (s).toNatClampNeg)) (M 23) (M 57 (s).toNatClampNeg).toNatClampNeg 0 = true))) M)
  | _ => False
theorem pe_X4_tells {o : Nat} {s : Int32} {p : Nat} {M : Mem} {k : Value → Mem → Prop} : pf_X4_tells [.ref o, .int s, .ref p] M k = ((o = 50 ∧ p = 23 ∧ shOK s ∧ ∃ m, m ≤ 12 ∧ M 57 (s).toNatClampNeg = nI m) ∧ (k (.int (bI (telB (M (52 + (s).toNatClampNeg)) (M 23) (M 57 (s).toNatClampNeg).toNatClampNeg 0 = true))) M)) := rfl
set_option maxRecDepth 100000 in
set_option maxHeartbeats 4000000 in
theorem c_X4_tells {d : Nat} (hd : 2 ≤ d) {o : Nat} {s : Int32} {p : Nat} {M : Mem} {k : Value → Mem → Prop} (h : (o = 50 ∧ p = 23 ∧ shOK s ∧ ∃ m, m ≤ 12 ∧ M 57 (s).toNatClampNeg = nI m) ∧ (k (.int (bI (telB (M (52 + (s).toNatClampNeg)) (M 23) (M 57 (s).toNatClampNeg).toNatClampNeg 0 = true))) M)) : CallP d 50 [.ref o, .int s, .ref p] M k := by
  obtain ⟨hp, h⟩ := h
  obtain ⟨d, rfl⟩ : ∃ d', d = d' + 1 := ⟨d - 1, by omega⟩
  obtain ⟨rfl, rfl, hs, m, hm, he⟩ := hp
  refine enterV (n := 80) [(108, pf_X6_isSheet)] [22] mI_50 (by decide) (Nat.le_of_ble_eq_true rfl) (T_cons (s_X6_isSheet (by omega)) T_nil) ?_
  rw [show lent 4 ([.ref 50, .int s, .ref 23] : List Value) = [.ref 50, .int s, .ref 23, .retAddr 0] from rfl]
  rw [he, nI_clamp (by omega)] at h
  simp only [dX4_tells_0, dX4_tells_1, dX4_tells_4, dX4_tells_7, dX4_tells_8, dX4_tells_11, dX4_tells_12, dX4_tells_13, dX4_tells_14, dX4_tells_15, dX4_tells_18, dX4_tells_19, dX4_tells_20, dX4_tells_21, dX4_tells_22, dX4_tells_23, dX4_tells_24, dX4_tells_27, dX4_tells_28, dX4_tells_29, dX4_tells_32, dX4_tells_33, dX4_tells_36, dX4_tells_37, dX4_tells_38, dX4_tells_39, dX4_tells_40, dX4_tells_41, dX4_tells_44, dX4_tells_45, dX4_tells_48, dX4_tells_49, dX4_tells_50, dX4_tells_51, dX4_tells_52, dX4_tells_53, dX4_tells_54, dX4_tells_55, dX4_tells_58, dX4_tells_59, dX4_tells_60, dX4_tells_63, dX4_tells_66, dX4_tells_67, cr_4_23, fr_4_11, fr_4_20, al_10, al_11, al_12, al_13, al_14, al_16, al_17, al_18, al_19, al_2, al_20, al_21, al_23, al_24, al_27, al_28, al_29, al_3, al_30, al_31, al_32, al_34, al_36, al_37, al_38, al_39, al_4, al_40, al_41, al_42, al_43, al_45, al_46, al_47, al_48, al_49, al_5, al_52, al_53, al_54, al_55, al_56, al_57, al_58, al_6, al_60, al_61, al_62, al_63, al_64, al_65, al_66, al_67, al_69, al_7, al_70, al_71, al_72, al_73, al_9, cat_i, cat_l, cat_r, cat_u, gf_3_0_50, gf_3_2_50, rOK_i, rOK_z, ra_35, ra_51, ra_68, ran_10, ran_11, ran_12, ran_13, ran_14, ran_16, ran_17, ran_18, ran_19, ran_2, ran_20, ran_21, ran_23, ran_24, ran_27, ran_28, ran_29, ran_3, ran_30, ran_31, ran_32, ran_34, ran_36, ran_37, ran_38, ran_39, ran_4, ran_40, ran_41, ran_42, ran_43, ran_45, ran_46, ran_47, ran_48, ran_49, ran_5, ran_52, ran_53, ran_54, ran_55, ran_56, ran_57, ran_58, ran_6, ran_60, ran_61, ran_62, ran_63, ran_64, ran_65, ran_66, ran_67, ran_69, ran_7, ran_70, ran_71, ran_72, ran_73, ran_9, v_aaload, v_aload_0, v_aload_2, v_arraylength, v_getfield, v_goto, v_iaload, v_ic_eq, v_ic_ge, v_ic_le, v_iconst_0, v_iconst_1, v_iconst_m1, v_if_eq, v_iinc_3, v_iload_1, v_iload_3, v_invs, v_ireturn, v_istore_3, vaa_s, vcS_1_2, vgf_i, vgf_r, vgf_s, vln_n, vln_s, vc_0, vc_s, rr_0, rr_1, csT_h, csT_t, csT_n, bI_0, bI_1, bI_z, bT, List.mem_cons, List.not_mem_nil, List.length_cons, List.length_nil, ite_not, ↓reduceIte, true_and, and_true, not_true_eq_false, not_false_eq_true, false_or, or_false, or_true, true_or, Nat.reduceAdd, Nat.reduceEqDiff, Nat.reduceBEq, Nat.reduceLeDiff, Nat.reduceLT, Nat.reduceSub, Int.reduceAdd, Int.reduceLE, Int.reduceLT, Int.reduceToNat, Int.reduceNeg, Int.reduceNatCast', reduceCtorEq, Int32.reduceOfInt, Int32.reduceOfNat, Int32.reduceToNatClampNeg, Int32.reduceToInt, i10, i01, pe_X6_isSheet, hs, he, show nI m ≤ 12 from nI_le (b := 12) (by omega) (by decide)]
  exact ⟨bd hs.1 hs.2 rfl, lp_tells hs hm he m 0 (by omega) h⟩
theorem s_X4_tells {d : Nat} (hd : 2 ≤ d) : Snd d 50 pf_X4_tells := by
  intro args M k h
  unfold pf_X4_tells at h
  split at h
  · exact c_X4_tells hd h
  · exact h.elim
def sfF (M : Mem) (s w : Int32) : Int32 := if ¬ fdF M s = 0 then fdF M s else if hasW M 1 w then (if M 57 (s).toNatClampNeg ≤ 12 then 0 else -1000005) else -1000001
def pf_X6_swayFinding : PF := fun args M k => match args with
  | [.ref o, .int s, .int w] => (o = 0) ∧ (k (.int (sfF M s w)) M)
  | _ => False
theorem pe_X6_swayFinding {o : Nat} {s : Int32} {w : Int32} {M : Mem} {k : Value → Mem → Prop} : pf_X6_swayFinding [.ref o, .int s, .int w] M k = ((o = 0) ∧ (k (.int (sfF M s w)) M)) := rfl
set_option maxRecDepth 100000 in
set_option maxHeartbeats 4000000 in
theorem c_X6_swayFinding {d : Nat} (hd : 3 ≤ d) {o : Nat} {s : Int32} {w : Int32} {M : Mem} {k : Value → Mem → Prop} (h : (o = 0) ∧ (k (.int (sfF M s w)) M)) : CallP d 121 [.ref o, .int s, .int w] M k := by
  obtain ⟨hp, h⟩ := h
  obtain ⟨d, rfl⟩ : ∃ d', d = d' + 1 := ⟨d - 1, by omega⟩
  obtain rfl := hp
  · refine enterV (n := 80) [(46, pf_X4_finding), (2, pf_X0_has)] [] mI_121 (by decide) (Nat.le_of_ble_eq_true rfl) (T_cons (s_X4_finding (by omega)) (T_cons (s_X0_has (by omega)) T_nil)) ?_
    rw [show lent 4 ([.ref 0, .int s, .int w] : List Value) = [.ref 0, .int s, .int w, .retAddr 0] from rfl]
    simp only [dX6_swayFinding_0, dX6_swayFinding_1, dX6_swayFinding_4, dX6_swayFinding_5, dX6_swayFinding_8, dX6_swayFinding_9, dX6_swayFinding_10, dX6_swayFinding_13, dX6_swayFinding_14, dX6_swayFinding_15, dX6_swayFinding_16, dX6_swayFinding_19, dX6_swayFinding_20, dX6_swayFinding_23, dX6_swayFinding_26, dX6_swayFinding_28, dX6_swayFinding_29, dX6_swayFinding_30, dX6_swayFinding_33, dX6_swayFinding_36, dX6_swayFinding_37, dX6_swayFinding_38, dX6_swayFinding_40, dX6_swayFinding_43, dX6_swayFinding_45, dX6_swayFinding_48, dX6_swayFinding_49, cr_6_215, cr_6_88, fr_6_12, fr_6_218, fr_6_50, kr_6_121, kr_6_68, skr_6_121, skr_6_68, al_10, al_11, al_12, al_13, al_14, al_16, al_17, al_18, al_19, al_2, al_20, al_21, al_23, al_24, al_27, al_28, al_29, al_3, al_30, al_31, al_32, al_34, al_36, al_37, al_38, al_39, al_4, al_40, al_41, al_42, al_43, al_45, al_46, al_47, al_48, al_49, al_5, al_52, al_53, al_54, al_55, al_56, al_57, al_58, al_6, al_60, al_61, al_62, al_63, al_64, al_65, al_66, al_67, al_69, al_7, al_70, al_71, al_72, al_73, al_9, cat_i, cat_l, cat_r, cat_u, gf_3_2_50, gf_5_0_0, gf_5_7_0, pcl_0, pcl_1, pcl_100, pcl_101, pcl_102, pcl_103, pcl_104, pcl_105, pcl_106, pcl_107, pcl_108, pcl_109, pcl_110, pcl_111, pcl_112, pcl_15, pcl_22, pcl_25, pcl_26, pcl_33, pcl_44, pcl_50, pcl_59, pcl_8, rOK_i, rOK_z, v_aload_0, v_bipush_12, v_getfield, v_goto, v_iaload, v_ic_le, v_iconst_0, v_if_eq, v_if_ne, v_iload_1, v_iload_2, v_iload_3, v_invv, v_ireturn, v_istore_3, v_ldc, vcV_2_0, vcV_2_3, vgf_i, vgf_r, vgf_s, vld_i, vld_s, vc_0, vc_s, rr_0, rr_1, csT_h, csT_t, csT_n, bI_0, bI_1, bI_z, bT, List.mem_cons, List.not_mem_nil, List.length_cons, List.length_nil, ite_not, ↓reduceIte, true_and, and_true, not_true_eq_false, not_false_eq_true, false_or, or_false, or_true, true_or, Nat.reduceAdd, Nat.reduceEqDiff, Nat.reduceBEq, Nat.reduceLeDiff, Nat.reduceLT, Nat.reduceSub, Int.reduceAdd, Int.reduceLE, Int.reduceLT, Int.reduceToNat, Int.reduceNeg, Int.reduceNatCast', reduceCtorEq, Int32.reduceOfInt, Int32.reduceOfNat, Int32.reduceToNatClampNeg, Int32.reduceToInt, i10, i01, pe_X4_finding, pe_X0_has, BR]
    unfold sfF at h
    by_cases h0 : fdF M s = 0
    · have hs : shOK s := by
        by_cases q : shOK s
        · exact q
        · unfold fdF at h0
          rw [if_neg q] at h0
          exact absurd h0 (by decide)
      rw [if_pos h0]
      rw [if_neg (fun z => z h0)] at h
      by_cases hw : hasW M 1 w
      · rw [if_pos hw] at h
        rw [if_pos hw]
        refine ⟨bd hs.1 hs.2 rfl, ?_⟩
        by_cases h5 : M 57 (s).toNatClampNeg ≤ 12
        · rw [if_pos h5] at h ⊢
          exact h
        · rw [if_neg h5] at h ⊢
          exact h
      · rw [if_neg hw] at h
        rw [if_neg hw]
        exact h
    · rw [if_neg h0]
      rw [if_pos h0] at h
      exact h

theorem s_X6_swayFinding {d : Nat} (hd : 3 ≤ d) : Snd d 121 pf_X6_swayFinding := by
  intro args M k h
  unfold pf_X6_swayFinding at h
  split at h
  · exact c_X6_swayFinding hd h
  · exact h.elim
