/-! X: order, orders, fewest, most -/
def XM (M : Mem) : XF := fun i r => xwr M i r
theorem XM_c (M : Mem) : XC (XM M) := fun i r s h => by
  have := goF_congr (kd := M 3 i) (bs := brs (M 3 i) (M 5 i) (M 1 7)) 12 0 (M 4 i) r s (by decide) h
  exact ⟨this.1, this.2.2⟩
def QO (M N : Mem) : Prop := ∀ p, p < 25 ∨ 43 < p → N p = M p
theorem csF_X {X Y : XF} (h : ∀ i, i < 6 → ∀ r, X i r = Y i r) : ∀ (n left : Nat) (r : Nat → Int32), csF X n left r = csF Y n left r := by
  intro n
  induction n with
  | zero => intro left r; rfl
  | succ n ih =>
    intro left r
    rw [csF, csF]
    split
    · rfl
    · refine acF_congr (fun w hw => ?_) 6 0 0 (by decide)
      rw [h w hw, ih]
theorem ffF_X {X Y : XF} (h : ∀ i, i < 6 → ∀ r, X i r = Y i r) : ∀ (n left : Nat) (r : Nat → Int32), ffF X n left r = ffF Y n left r := by
  intro n
  induction n with
  | zero => intro left r; rfl
  | succ n ih =>
    intro left r
    rw [ffF, ffF]
    split
    · rfl
    · refine fwF_congr (fun w hw => ?_) 6 0 (by decide)
      rw [h w hw, ih]
theorem fvF_X {X Y : XF} (h : ∀ i, i < 6 → ∀ r, X i r = Y i r) : ∀ (n left : Nat) (r : Nat → Int32), fvF X n left r = fvF Y n left r := by
  intro n
  induction n with
  | zero => intro left r; rfl
  | succ n ih =>
    intro left r
    rw [fvF, fvF]
    split
    · rfl
    · refine mnL_congr (fun w hw => ?_) 6 0 6 (by decide)
      rw [h w hw, ih]
theorem glF_congr6 {f g : Nat → Nat → Option Nat} {all : Nat} (h : ∀ w x, w < 6 → f w x = g w x) : ∀ (n i l : Nat), i + n ≤ 6 → glF f all n i l = glF g all n i l := by
  intro n
  induction n with
  | zero => intro i l _; rfl
  | succ n ih =>
    intro i l hi
    rw [glF, glF, h i l (by omega)]
    split
    · rfl
    · exact ih (i + 1) _ (by omega)
theorem gtF_X {X Y : XF} {q : Nat} (hq : q ≤ 6) (h : ∀ i, i < 6 → ∀ r, X i r = Y i r) : ∀ (n c s : Nat) (r : Nat → Int32), gtF X q n c s r = gtF Y q n c s r := by
  intro n
  induction n with
  | zero => intro c s r; rfl
  | succ n ih =>
    intro c s r
    rw [gtF, gtF]
    refine glF_congr6 (fun w x hw => ?_) _ _ _ (by omega)
    rw [h w hw, ih]
theorem QB.X {M N : Mem} (h : QB M N) : ∀ i, i < 6 → ∀ r, QX N i r = XM M i r := by
  intro i hi r
  have := congrFun (congrFun h.2.2.1 i) r
  rw [if_pos hi] at this
  exact this
theorem QB.O {M N N1 : Mem} (h : QB M N) (h1 : QJ 0 N N1) : QO M N1 := fun p hp => (h1 p (by omega) (by omega) (by omega)).trans (h.1 p hp)
def pf_X2_countOrders : PF := fun args M k => match args with
  | [.ref o, .ref b, .int s] => (o = 25 ∧ b = 1 ∧ ∃ x q, q ≤ 6 ∧ M 1 6 = nI q ∧ x < 2 ^ q ∧ s = nI x) ∧ (∀ N, QO M N → k (.int (nI (csF (XM M) 6 (s).toNatClampNeg (M 2)))) N)
  | _ => False
theorem pe_X2_countOrders {o : Nat} {b : Nat} {s : Int32} {M : Mem} {k : Value → Mem → Prop} : pf_X2_countOrders [.ref o, .ref b, .int s] M k = ((o = 25 ∧ b = 1 ∧ ∃ x q, q ≤ 6 ∧ M 1 6 = nI q ∧ x < 2 ^ q ∧ s = nI x) ∧ (∀ N, QO M N → k (.int (nI (csF (XM M) 6 (s).toNatClampNeg (M 2)))) N)) := rfl
set_option maxRecDepth 100000 in
set_option maxHeartbeats 4000000 in
theorem c_X2_countOrders {d : Nat} (hd : 11 ≤ d) {o : Nat} {b : Nat} {s : Int32} {M : Mem} {k : Value → Mem → Prop} (h : (o = 25 ∧ b = 1 ∧ ∃ x q, q ≤ 6 ∧ M 1 6 = nI q ∧ x < 2 ^ q ∧ s = nI x) ∧ (∀ N, QO M N → k (.int (nI (csF (XM M) 6 (s).toNatClampNeg (M 2)))) N)) : CallP d 16 [.ref o, .ref b, .int s] M k := by
  obtain ⟨hp, h⟩ := h
  obtain ⟨d, rfl⟩ : ∃ d', d = d' + 1 := ⟨d - 1, by omega⟩
  obtain ⟨rfl, rfl, x, q, hq, hn, hx, rfl⟩ := hp
  have h64 := lt64 hq hx
  rw [nI_clamp (by omega)] at h
  refine enterV (n := 80) [(20, pf_X2_begin)] [] mI_16 (by decide) (Nat.le_of_ble_eq_true rfl) (T_cons (s_X2_begin (by omega)) T_nil) ?_
  rw [show lent 3 ([.ref 25, .ref 1, .int (nI x)] : List Value) = [.ref 25, .ref 1, .int (nI x)] from rfl]
  simp only [dX2_countOrders_0, dX2_countOrders_1, dX2_countOrders_2, dX2_countOrders_5, dX2_countOrders_6, dX2_countOrders_7, dX2_countOrders_8, dX2_countOrders_11, cr_2_34, cr_2_42, al_10, al_11, al_12, al_13, al_14, al_16, al_17, al_18, al_19, al_2, al_20, al_21, al_23, al_24, al_27, al_28, al_29, al_3, al_30, al_31, al_32, al_34, al_36, al_37, al_38, al_39, al_4, al_40, al_41, al_42, al_43, al_45, al_46, al_47, al_48, al_49, al_5, al_52, al_53, al_54, al_55, al_56, al_57, al_58, al_6, al_60, al_61, al_62, al_63, al_64, al_65, al_66, al_67, al_69, al_7, al_70, al_71, al_72, al_73, al_9, pcl_0, pcl_1, pcl_100, pcl_101, pcl_102, pcl_103, pcl_104, pcl_105, pcl_106, pcl_107, pcl_108, pcl_109, pcl_110, pcl_111, pcl_112, pcl_15, pcl_22, pcl_25, pcl_26, pcl_33, pcl_44, pcl_50, pcl_59, pcl_8, rOK_i, rOK_z, v_aload_0, v_aload_1, v_iconst_0, v_iload_2, v_invv, v_ireturn, vcV_2_1, vcV_3_1, vc_d, rr_0, rr_1, csT_h, csT_t, csT_n, bI_0, bI_1, bI_z, bT, List.mem_cons, List.not_mem_nil, List.length_cons, List.length_nil, ite_not, ↓reduceIte, true_and, and_true, not_true_eq_false, not_false_eq_true, false_or, or_false, or_true, true_or, Nat.reduceAdd, Nat.reduceEqDiff, Nat.reduceBEq, Nat.reduceLeDiff, Nat.reduceLT, Nat.reduceSub, Int.reduceAdd, Int.reduceLE, Int.reduceLT, Int.reduceToNat, Int.reduceNeg, Int.reduceNatCast', reduceCtorEq, Int32.reduceOfInt, Int32.reduceOfNat, Int32.reduceToNatClampNeg, Int32.reduceToInt, i10, i01, pe_X2_begin]
  intro N hN
  refine lp_countSafe 6 0 rfl d (by omega) N _ x q hq (hN.2.1.trans hn) hx (fun N1 h1 => ?_)
  simp only [dX2_countOrders_0, dX2_countOrders_1, dX2_countOrders_2, dX2_countOrders_5, dX2_countOrders_6, dX2_countOrders_7, dX2_countOrders_8, dX2_countOrders_11, cr_2_34, cr_2_42, al_10, al_11, al_12, al_13, al_14, al_16, al_17, al_18, al_19, al_2, al_20, al_21, al_23, al_24, al_27, al_28, al_29, al_3, al_30, al_31, al_32, al_34, al_36, al_37, al_38, al_39, al_4, al_40, al_41, al_42, al_43, al_45, al_46, al_47, al_48, al_49, al_5, al_52, al_53, al_54, al_55, al_56, al_57, al_58, al_6, al_60, al_61, al_62, al_63, al_64, al_65, al_66, al_67, al_69, al_7, al_70, al_71, al_72, al_73, al_9, pcl_0, pcl_1, pcl_100, pcl_101, pcl_102, pcl_103, pcl_104, pcl_105, pcl_106, pcl_107, pcl_108, pcl_109, pcl_110, pcl_111, pcl_112, pcl_15, pcl_22, pcl_25, pcl_26, pcl_33, pcl_44, pcl_50, pcl_59, pcl_8, rOK_i, rOK_z, v_aload_0, v_aload_1, v_iconst_0, v_iload_2, v_invv, v_ireturn, vcV_2_1, vcV_3_1, vc_d, rr_0, rr_1, csT_h, csT_t, csT_n, bI_0, bI_1, bI_z, bT, List.mem_cons, List.not_mem_nil, List.length_cons, List.length_nil, ite_not, ↓reduceIte, true_and, and_true, not_true_eq_false, not_false_eq_true, false_or, or_false, or_true, true_or, Nat.reduceAdd, Nat.reduceEqDiff, Nat.reduceBEq, Nat.reduceLeDiff, Nat.reduceLT, Nat.reduceSub, Int.reduceAdd, Int.reduceLE, Int.reduceLT, Int.reduceToNat, Int.reduceNeg, Int.reduceNatCast', reduceCtorEq, Int32.reduceOfInt, Int32.reduceOfNat, Int32.reduceToNatClampNeg, Int32.reduceToInt, i10, i01, pe_X2_begin]
  have e : csF (QX N) 6 x (N (36 + 0)) = csF (XM M) 6 x (M 2) := by
    rw [csF_X hN.X]
    exact csF_congr (XM_c M) 6 x _ _ hN.2.2.2
  rw [e]
  exact h N1 (hN.O h1)
theorem s_X2_countOrders {d : Nat} (hd : 11 ≤ d) : Snd d 16 pf_X2_countOrders := by
  intro args M k h
  unfold pf_X2_countOrders at h
  split at h
  · exact c_X2_countOrders hd h
  · exact h.elim
def pf_X2_countFalls : PF := fun args M k => match args with
  | [.ref o, .ref b, .int s] => (o = 25 ∧ b = 1 ∧ ∃ x q, q ≤ 6 ∧ M 1 6 = nI q ∧ x < 2 ^ q ∧ s = nI x) ∧ (∀ N, QO M N → k (.int (nI (fvF (XM M) 6 (s).toNatClampNeg (M 2)))) N)
  | _ => False
theorem pe_X2_countFalls {o : Nat} {b : Nat} {s : Int32} {M : Mem} {k : Value → Mem → Prop} : pf_X2_countFalls [.ref o, .ref b, .int s] M k = ((o = 25 ∧ b = 1 ∧ ∃ x q, q ≤ 6 ∧ M 1 6 = nI q ∧ x < 2 ^ q ∧ s = nI x) ∧ (∀ N, QO M N → k (.int (nI (fvF (XM M) 6 (s).toNatClampNeg (M 2)))) N)) := rfl
set_option maxRecDepth 100000 in
set_option maxHeartbeats 4000000 in
theorem c_X2_countFalls {d : Nat} (hd : 11 ≤ d) {o : Nat} {b : Nat} {s : Int32} {M : Mem} {k : Value → Mem → Prop} (h : (o = 25 ∧ b = 1 ∧ ∃ x q, q ≤ 6 ∧ M 1 6 = nI q ∧ x < 2 ^ q ∧ s = nI x) ∧ (∀ N, QO M N → k (.int (nI (fvF (XM M) 6 (s).toNatClampNeg (M 2)))) N)) : CallP d 17 [.ref o, .ref b, .int s] M k := by
  obtain ⟨hp, h⟩ := h
  obtain ⟨d, rfl⟩ : ∃ d', d = d' + 1 := ⟨d - 1, by omega⟩
  obtain ⟨rfl, rfl, x, q, hq, hn, hx, rfl⟩ := hp
  have h64 := lt64 hq hx
  rw [nI_clamp (by omega)] at h
  refine enterV (n := 80) [(20, pf_X2_begin)] [] mI_17 (by decide) (Nat.le_of_ble_eq_true rfl) (T_cons (s_X2_begin (by omega)) T_nil) ?_
  rw [show lent 3 ([.ref 25, .ref 1, .int (nI x)] : List Value) = [.ref 25, .ref 1, .int (nI x)] from rfl]
  simp only [dX2_countFalls_0, dX2_countFalls_1, dX2_countFalls_2, dX2_countFalls_5, dX2_countFalls_6, dX2_countFalls_7, dX2_countFalls_8, dX2_countFalls_11, cr_2_34, cr_2_46, al_10, al_11, al_12, al_13, al_14, al_16, al_17, al_18, al_19, al_2, al_20, al_21, al_23, al_24, al_27, al_28, al_29, al_3, al_30, al_31, al_32, al_34, al_36, al_37, al_38, al_39, al_4, al_40, al_41, al_42, al_43, al_45, al_46, al_47, al_48, al_49, al_5, al_52, al_53, al_54, al_55, al_56, al_57, al_58, al_6, al_60, al_61, al_62, al_63, al_64, al_65, al_66, al_67, al_69, al_7, al_70, al_71, al_72, al_73, al_9, pcl_0, pcl_1, pcl_100, pcl_101, pcl_102, pcl_103, pcl_104, pcl_105, pcl_106, pcl_107, pcl_108, pcl_109, pcl_110, pcl_111, pcl_112, pcl_15, pcl_22, pcl_25, pcl_26, pcl_33, pcl_44, pcl_50, pcl_59, pcl_8, rOK_i, rOK_z, v_aload_0, v_aload_1, v_iconst_0, v_iload_2, v_invv, v_ireturn, vcV_2_1, vcV_3_1, vc_d, rr_0, rr_1, csT_h, csT_t, csT_n, bI_0, bI_1, bI_z, bT, List.mem_cons, List.not_mem_nil, List.length_cons, List.length_nil, ite_not, ↓reduceIte, true_and, and_true, not_true_eq_false, not_false_eq_true, false_or, or_false, or_true, true_or, Nat.reduceAdd, Nat.reduceEqDiff, Nat.reduceBEq, Nat.reduceLeDiff, Nat.reduceLT, Nat.reduceSub, Int.reduceAdd, Int.reduceLE, Int.reduceLT, Int.reduceToNat, Int.reduceNeg, Int.reduceNatCast', reduceCtorEq, Int32.reduceOfInt, Int32.reduceOfNat, Int32.reduceToNatClampNeg, Int32.reduceToInt, i10, i01, pe_X2_begin]
  intro N hN
  refine lp_fewest 6 0 rfl d (by omega) N _ x q hq (hN.2.1.trans hn) hx (fun N1 h1 => ?_)
  simp only [dX2_countFalls_0, dX2_countFalls_1, dX2_countFalls_2, dX2_countFalls_5, dX2_countFalls_6, dX2_countFalls_7, dX2_countFalls_8, dX2_countFalls_11, cr_2_34, cr_2_46, al_10, al_11, al_12, al_13, al_14, al_16, al_17, al_18, al_19, al_2, al_20, al_21, al_23, al_24, al_27, al_28, al_29, al_3, al_30, al_31, al_32, al_34, al_36, al_37, al_38, al_39, al_4, al_40, al_41, al_42, al_43, al_45, al_46, al_47, al_48, al_49, al_5, al_52, al_53, al_54, al_55, al_56, al_57, al_58, al_6, al_60, al_61, al_62, al_63, al_64, al_65, al_66, al_67, al_69, al_7, al_70, al_71, al_72, al_73, al_9, pcl_0, pcl_1, pcl_100, pcl_101, pcl_102, pcl_103, pcl_104, pcl_105, pcl_106, pcl_107, pcl_108, pcl_109, pcl_110, pcl_111, pcl_112, pcl_15, pcl_22, pcl_25, pcl_26, pcl_33, pcl_44, pcl_50, pcl_59, pcl_8, rOK_i, rOK_z, v_aload_0, v_aload_1, v_iconst_0, v_iload_2, v_invv, v_ireturn, vcV_2_1, vcV_3_1, vc_d, rr_0, rr_1, csT_h, csT_t, csT_n, bI_0, bI_1, bI_z, bT, List.mem_cons, List.not_mem_nil, List.length_cons, List.length_nil, ite_not, ↓reduceIte, true_and, and_true, not_true_eq_false, not_false_eq_true, false_or, or_false, or_true, true_or, Nat.reduceAdd, Nat.reduceEqDiff, Nat.reduceBEq, Nat.reduceLeDiff, Nat.reduceLT, Nat.reduceSub, Int.reduceAdd, Int.reduceLE, Int.reduceLT, Int.reduceToNat, Int.reduceNeg, Int.reduceNatCast', reduceCtorEq, Int32.reduceOfInt, Int32.reduceOfNat, Int32.reduceToNatClampNeg, Int32.reduceToInt, i10, i01, pe_X2_begin]
  have e : fvF (QX N) 6 x (N (36 + 0)) = fvF (XM M) 6 x (M 2) := by
    rw [fvF_X hN.X]
    exact fvF_congr (XM_c M) 6 x _ _ hN.2.2.2
  rw [e]
  exact h N1 (hN.O h1)
theorem s_X2_countFalls {d : Nat} (hd : 11 ≤ d) : Snd d 17 pf_X2_countFalls := by
  intro args M k h
  unfold pf_X2_countFalls at h
  split at h
  · exact c_X2_countFalls hd h
  · exact h.elim
def pf_X2_findOrder : PF := fun args M k => match args with
  | [.ref o, .ref b, .int s] => (o = 25 ∧ b = 1 ∧ ∃ x q, q ≤ 6 ∧ M 1 6 = nI q ∧ x < 2 ^ q ∧ s = nI x) ∧ (∀ N, QO M N → (∀ p, ffF (XM M) 6 (s).toNatClampNeg (M 2) = some p → ∀ j, j < p.length → N 43 j = nI (p.getD j 0)) → k (.int (bI ((ffF (XM M) 6 (s).toNatClampNeg (M 2)).isSome = true))) N)
  | _ => False
theorem pe_X2_findOrder {o : Nat} {b : Nat} {s : Int32} {M : Mem} {k : Value → Mem → Prop} : pf_X2_findOrder [.ref o, .ref b, .int s] M k = ((o = 25 ∧ b = 1 ∧ ∃ x q, q ≤ 6 ∧ M 1 6 = nI q ∧ x < 2 ^ q ∧ s = nI x) ∧ (∀ N, QO M N → (∀ p, ffF (XM M) 6 (s).toNatClampNeg (M 2) = some p → ∀ j, j < p.length → N 43 j = nI (p.getD j 0)) → k (.int (bI ((ffF (XM M) 6 (s).toNatClampNeg (M 2)).isSome = true))) N)) := rfl
set_option maxRecDepth 100000 in
set_option maxHeartbeats 4000000 in
theorem c_X2_findOrder {d : Nat} (hd : 11 ≤ d) {o : Nat} {b : Nat} {s : Int32} {M : Mem} {k : Value → Mem → Prop} (h : (o = 25 ∧ b = 1 ∧ ∃ x q, q ≤ 6 ∧ M 1 6 = nI q ∧ x < 2 ^ q ∧ s = nI x) ∧ (∀ N, QO M N → (∀ p, ffF (XM M) 6 (s).toNatClampNeg (M 2) = some p → ∀ j, j < p.length → N 43 j = nI (p.getD j 0)) → k (.int (bI ((ffF (XM M) 6 (s).toNatClampNeg (M 2)).isSome = true))) N)) : CallP d 15 [.ref o, .ref b, .int s] M k := by
  obtain ⟨hp, h⟩ := h
  obtain ⟨d, rfl⟩ : ∃ d', d = d' + 1 := ⟨d - 1, by omega⟩
  obtain ⟨rfl, rfl, x, q, hq, hn, hx, rfl⟩ := hp
  have h64 := lt64 hq hx
  rw [nI_clamp (by omega)] at h
  refine enterV (n := 80) [(20, pf_X2_begin)] [] mI_15 (by decide) (Nat.le_of_ble_eq_true rfl) (T_cons (s_X2_begin (by omega)) T_nil) ?_
  rw [show lent 3 ([.ref 25, .ref 1, .int (nI x)] : List Value) = [.ref 25, .ref 1, .int (nI x)] from rfl]
  simp only [dX2_findOrder_0, dX2_findOrder_1, dX2_findOrder_2, dX2_findOrder_5, dX2_findOrder_6, dX2_findOrder_7, dX2_findOrder_8, dX2_findOrder_11, cr_2_34, cr_2_38, al_10, al_11, al_12, al_13, al_14, al_16, al_17, al_18, al_19, al_2, al_20, al_21, al_23, al_24, al_27, al_28, al_29, al_3, al_30, al_31, al_32, al_34, al_36, al_37, al_38, al_39, al_4, al_40, al_41, al_42, al_43, al_45, al_46, al_47, al_48, al_49, al_5, al_52, al_53, al_54, al_55, al_56, al_57, al_58, al_6, al_60, al_61, al_62, al_63, al_64, al_65, al_66, al_67, al_69, al_7, al_70, al_71, al_72, al_73, al_9, pcl_0, pcl_1, pcl_100, pcl_101, pcl_102, pcl_103, pcl_104, pcl_105, pcl_106, pcl_107, pcl_108, pcl_109, pcl_110, pcl_111, pcl_112, pcl_15, pcl_22, pcl_25, pcl_26, pcl_33, pcl_44, pcl_50, pcl_59, pcl_8, rOK_i, rOK_z, v_aload_0, v_aload_1, v_iconst_0, v_iload_2, v_invv, v_ireturn, vcV_2_1, vcV_3_1, vc_d, rr_0, rr_1, csT_h, csT_t, csT_n, bI_0, bI_1, bI_z, bT, List.mem_cons, List.not_mem_nil, List.length_cons, List.length_nil, ite_not, ↓reduceIte, true_and, and_true, not_true_eq_false, not_false_eq_true, false_or, or_false, or_true, true_or, Nat.reduceAdd, Nat.reduceEqDiff, Nat.reduceBEq, Nat.reduceLeDiff, Nat.reduceLT, Nat.reduceSub, Int.reduceAdd, Int.reduceLE, Int.reduceLT, Int.reduceToNat, Int.reduceNeg, Int.reduceNatCast', reduceCtorEq, Int32.reduceOfInt, Int32.reduceOfNat, Int32.reduceToNatClampNeg, Int32.reduceToInt, i10, i01, pe_X2_begin]
  intro N hN
  have e : ffF (QX N) 6 x (N (36 + 0)) = ffF (XM M) 6 x (M 2) := by
    rw [ffF_X hN.X]
    exact ffF_congr (XM_c M) 6 x _ _ hN.2.2.2
  refine lp_findFirst 6 0 rfl d (by omega) N _ x q hq (hN.2.1.trans hn) hx (fun N1 h1 hp => ?_)
  rw [e] at hp ⊢
  simp only [dX2_findOrder_0, dX2_findOrder_1, dX2_findOrder_2, dX2_findOrder_5, dX2_findOrder_6, dX2_findOrder_7, dX2_findOrder_8, dX2_findOrder_11, cr_2_34, cr_2_38, al_10, al_11, al_12, al_13, al_14, al_16, al_17, al_18, al_19, al_2, al_20, al_21, al_23, al_24, al_27, al_28, al_29, al_3, al_30, al_31, al_32, al_34, al_36, al_37, al_38, al_39, al_4, al_40, al_41, al_42, al_43, al_45, al_46, al_47, al_48, al_49, al_5, al_52, al_53, al_54, al_55, al_56, al_57, al_58, al_6, al_60, al_61, al_62, al_63, al_64, al_65, al_66, al_67, al_69, al_7, al_70, al_71, al_72, al_73, al_9, pcl_0, pcl_1, pcl_100, pcl_101, pcl_102, pcl_103, pcl_104, pcl_105, pcl_106, pcl_107, pcl_108, pcl_109, pcl_110, pcl_111, pcl_112, pcl_15, pcl_22, pcl_25, pcl_26, pcl_33, pcl_44, pcl_50, pcl_59, pcl_8, rOK_i, rOK_z, v_aload_0, v_aload_1, v_iconst_0, v_iload_2, v_invv, v_ireturn, vcV_2_1, vcV_3_1, vc_d, rr_0, rr_1, csT_h, csT_t, csT_n, bI_0, bI_1, bI_z, bT, List.mem_cons, List.not_mem_nil, List.length_cons, List.length_nil, ite_not, ↓reduceIte, true_and, and_true, not_true_eq_false, not_false_eq_true, false_or, or_false, or_true, true_or, Nat.reduceAdd, Nat.reduceEqDiff, Nat.reduceBEq, Nat.reduceLeDiff, Nat.reduceLT, Nat.reduceSub, Int.reduceAdd, Int.reduceLE, Int.reduceLT, Int.reduceToNat, Int.reduceNeg, Int.reduceNatCast', reduceCtorEq, Int32.reduceOfInt, Int32.reduceOfNat, Int32.reduceToNatClampNeg, Int32.reduceToInt, i10, i01, pe_X2_begin]
  refine ⟨(Classical.em _).symm, h N1 (hN.O h1) (fun p hp' j hj => ?_)⟩
  have := hp.2 p hp' j hj
  rw [Nat.zero_add] at this
  exact this
theorem s_X2_findOrder {d : Nat} (hd : 11 ≤ d) : Snd d 15 pf_X2_findOrder := by
  intro args M k h
  unfold pf_X2_findOrder at h
  split at h
  · exact c_X2_findOrder hd h
  · exact h.elim
def pf_X2_findGreatest : PF := fun args M k => match args with
  | [.ref o, .ref b] => (o = 25 ∧ b = 1 ∧ IV M) ∧ (∀ N, QO M N → k (.int (nI (gtF (XM M) (M 1 6).toNatClampNeg 6 0 0 (M 2)))) N)
  | _ => False
theorem pe_X2_findGreatest {o : Nat} {b : Nat} {M : Mem} {k : Value → Mem → Prop} : pf_X2_findGreatest [.ref o, .ref b] M k = ((o = 25 ∧ b = 1 ∧ IV M) ∧ (∀ N, QO M N → k (.int (nI (gtF (XM M) (M 1 6).toNatClampNeg 6 0 0 (M 2)))) N)) := rfl
set_option maxRecDepth 100000 in
set_option maxHeartbeats 4000000 in
theorem c_X2_findGreatest {d : Nat} (hd : 11 ≤ d) {o : Nat} {b : Nat} {M : Mem} {k : Value → Mem → Prop} (h : (o = 25 ∧ b = 1 ∧ IV M) ∧ (∀ N, QO M N → k (.int (nI (gtF (XM M) (M 1 6).toNatClampNeg 6 0 0 (M 2)))) N)) : CallP d 18 [.ref o, .ref b] M k := by
  obtain ⟨hp, h⟩ := h
  obtain ⟨d, rfl⟩ : ∃ d', d = d' + 1 := ⟨d - 1, by omega⟩
  obtain ⟨rfl, rfl, q, hq, hn⟩ := hp
  rw [hn, nI_clamp (by omega)] at h
  refine enterV (n := 80) [(20, pf_X2_begin)] [] mI_18 (by decide) (Nat.le_of_ble_eq_true rfl) (T_cons (s_X2_begin (by omega)) T_nil) ?_
  rw [show lent 2 ([.ref 25, .ref 1] : List Value) = [.ref 25, .ref 1] from rfl]
  simp only [dX2_findGreatest_0, dX2_findGreatest_1, dX2_findGreatest_2, dX2_findGreatest_5, dX2_findGreatest_6, dX2_findGreatest_7, dX2_findGreatest_8, dX2_findGreatest_9, dX2_findGreatest_12, cr_2_34, cr_2_49, al_10, al_11, al_12, al_13, al_14, al_16, al_17, al_18, al_19, al_2, al_20, al_21, al_23, al_24, al_27, al_28, al_29, al_3, al_30, al_31, al_32, al_34, al_36, al_37, al_38, al_39, al_4, al_40, al_41, al_42, al_43, al_45, al_46, al_47, al_48, al_49, al_5, al_52, al_53, al_54, al_55, al_56, al_57, al_58, al_6, al_60, al_61, al_62, al_63, al_64, al_65, al_66, al_67, al_69, al_7, al_70, al_71, al_72, al_73, al_9, pcl_0, pcl_1, pcl_100, pcl_101, pcl_102, pcl_103, pcl_104, pcl_105, pcl_106, pcl_107, pcl_108, pcl_109, pcl_110, pcl_111, pcl_112, pcl_15, pcl_22, pcl_25, pcl_26, pcl_33, pcl_44, pcl_50, pcl_59, pcl_8, rOK_i, rOK_z, v_aload_0, v_aload_1, v_iconst_0, v_invv, v_ireturn, vcV_2_1, vcV_4_1, vc_d, rr_0, rr_1, csT_h, csT_t, csT_n, bI_0, bI_1, bI_z, bT, List.mem_cons, List.not_mem_nil, List.length_cons, List.length_nil, ite_not, ↓reduceIte, true_and, and_true, not_true_eq_false, not_false_eq_true, false_or, or_false, or_true, true_or, Nat.reduceAdd, Nat.reduceEqDiff, Nat.reduceBEq, Nat.reduceLeDiff, Nat.reduceLT, Nat.reduceSub, Int.reduceAdd, Int.reduceLE, Int.reduceLT, Int.reduceToNat, Int.reduceNeg, Int.reduceNatCast', reduceCtorEq, Int32.reduceOfInt, Int32.reduceOfNat, Int32.reduceToNatClampNeg, Int32.reduceToInt, i10, i01, pe_X2_begin]
  intro N hN
  have e : gtF (QX N) q 6 0 0 (N (36 + 0)) = gtF (XM M) q 6 0 0 (M 2) := by
    rw [gtF_X hq hN.X]
    exact gtF_congr (XM_c M) 6 0 0 _ _ hN.2.2.2
  refine lp_greatest hq 6 0 rfl d (by omega) N _ 0 0 (hN.2.1.trans hn) (by decide) (by decide) (fun N1 h1 => ?_)
  rw [e]
  simp only [dX2_findGreatest_0, dX2_findGreatest_1, dX2_findGreatest_2, dX2_findGreatest_5, dX2_findGreatest_6, dX2_findGreatest_7, dX2_findGreatest_8, dX2_findGreatest_9, dX2_findGreatest_12, cr_2_34, cr_2_49, al_10, al_11, al_12, al_13, al_14, al_16, al_17, al_18, al_19, al_2, al_20, al_21, al_23, al_24, al_27, al_28, al_29, al_3, al_30, al_31, al_32, al_34, al_36, al_37, al_38, al_39, al_4, al_40, al_41, al_42, al_43, al_45, al_46, al_47, al_48, al_49, al_5, al_52, al_53, al_54, al_55, al_56, al_57, al_58, al_6, al_60, al_61, al_62, al_63, al_64, al_65, al_66, al_67, al_69, al_7, al_70, al_71, al_72, al_73, al_9, pcl_0, pcl_1, pcl_100, pcl_101, pcl_102, pcl_103, pcl_104, pcl_105, pcl_106, pcl_107, pcl_108, pcl_109, pcl_110, pcl_111, pcl_112, pcl_15, pcl_22, pcl_25, pcl_26, pcl_33, pcl_44, pcl_50, pcl_59, pcl_8, rOK_i, rOK_z, v_aload_0, v_aload_1, v_iconst_0, v_invv, v_ireturn, vcV_2_1, vcV_4_1, vc_d, rr_0, rr_1, csT_h, csT_t, csT_n, bI_0, bI_1, bI_z, bT, List.mem_cons, List.not_mem_nil, List.length_cons, List.length_nil, ite_not, ↓reduceIte, true_and, and_true, not_true_eq_false, not_false_eq_true, false_or, or_false, or_true, true_or, Nat.reduceAdd, Nat.reduceEqDiff, Nat.reduceBEq, Nat.reduceLeDiff, Nat.reduceLT, Nat.reduceSub, Int.reduceAdd, Int.reduceLE, Int.reduceLT, Int.reduceToNat, Int.reduceNeg, Int.reduceNatCast', reduceCtorEq, Int32.reduceOfInt, Int32.reduceOfNat, Int32.reduceToNatClampNeg, Int32.reduceToInt, i10, i01, pe_X2_begin]
  exact h N1 (hN.O h1)
theorem s_X2_findGreatest {d : Nat} (hd : 11 ≤ d) : Snd d 18 pf_X2_findGreatest := by
  intro args M k h
  unfold pf_X2_findGreatest at h
  split at h
  · exact c_X2_findGreatest hd h
  · exact h.elim
def pf_X2_placed : PF := fun args M k => match args with
  | [.ref o, .int i] => (o = 25 ∧ ¬ i < 0 ∧ ¬ 6 ≤ i) ∧ (k (.int (M 43 (i).toNatClampNeg)) M)
  | _ => False
theorem pe_X2_placed {o : Nat} {i : Int32} {M : Mem} {k : Value → Mem → Prop} : pf_X2_placed [.ref o, .int i] M k = ((o = 25 ∧ ¬ i < 0 ∧ ¬ 6 ≤ i) ∧ (k (.int (M 43 (i).toNatClampNeg)) M)) := rfl
set_option maxRecDepth 100000 in
set_option maxHeartbeats 4000000 in
theorem c_X2_placed {d : Nat} (hd : 1 ≤ d) {o : Nat} {i : Int32} {M : Mem} {k : Value → Mem → Prop} (h : (o = 25 ∧ ¬ i < 0 ∧ ¬ 6 ≤ i) ∧ (k (.int (M 43 (i).toNatClampNeg)) M)) : CallP d 19 [.ref o, .int i] M k := by
  obtain ⟨hp, h⟩ := h
  obtain ⟨d, rfl⟩ : ∃ d', d = d' + 1 := ⟨d - 1, by omega⟩
  obtain ⟨rfl, h1, h2⟩ := hp
  · refine enterV (n := 80) [] [] mI_19 (by decide) (Nat.le_of_ble_eq_true rfl) T_nil ?_
    rw [show lent 2 ([.ref 25, .int i] : List Value) = [.ref 25, .int i] from rfl]
    simp only [dX2_placed_0, dX2_placed_1, dX2_placed_4, dX2_placed_5, dX2_placed_7, dX2_placed_10, dX2_placed_11, dX2_placed_14, dX2_placed_15, dX2_placed_16, dX2_placed_19, dX2_placed_20, fr_2_30, al_10, al_11, al_12, al_13, al_14, al_16, al_17, al_18, al_19, al_2, al_20, al_21, al_23, al_24, al_27, al_28, al_29, al_3, al_30, al_31, al_32, al_34, al_36, al_37, al_38, al_39, al_4, al_40, al_41, al_42, al_43, al_45, al_46, al_47, al_48, al_49, al_5, al_52, al_53, al_54, al_55, al_56, al_57, al_58, al_6, al_60, al_61, al_62, al_63, al_64, al_65, al_66, al_67, al_69, al_7, al_70, al_71, al_72, al_73, al_9, gf_1_3_25, rOK_i, rOK_z, v_aload_0, v_bipush_6, v_getfield, v_goto, v_iaload, v_ic_ge, v_iconst_m1, v_if_lt, v_iload_1, v_ireturn, vgf_i, vgf_r, vgf_s, vc_d, rr_0, rr_1, csT_h, csT_t, csT_n, bI_0, bI_1, bI_z, bT, List.mem_cons, List.not_mem_nil, List.length_cons, List.length_nil, ite_not, ↓reduceIte, true_and, and_true, not_true_eq_false, not_false_eq_true, false_or, or_false, or_true, true_or, Nat.reduceAdd, Nat.reduceEqDiff, Nat.reduceBEq, Nat.reduceLeDiff, Nat.reduceLT, Nat.reduceSub, Int.reduceAdd, Int.reduceLE, Int.reduceLT, Int.reduceToNat, Int.reduceNeg, Int.reduceNatCast', reduceCtorEq, Int32.reduceOfInt, Int32.reduceOfNat, Int32.reduceToNatClampNeg, Int32.reduceToInt, i10, i01, h1, h2]
    exact ⟨bd h1 h2 rfl, h⟩

theorem s_X2_placed {d : Nat} (hd : 1 ≤ d) : Snd d 19 pf_X2_placed := by
  intro args M k h
  unfold pf_X2_placed at h
  split at h
  · exact c_X2_placed hd h
  · exact h.elim
theorem pop_clr : ∀ b, b < 64 → ∀ w, w < 6 → b.testBit w = true → popc (clr b w) + 1 = popc b := by decide +kernel
theorem ff_pop {X : XF} : ∀ (n left : Nat) (r : Nat → Int32) (p : List Nat), left < 64 → popc left ≤ n → ffF X n left r = some p → p.length = popc left := by
  intro n
  induction n with
  | zero =>
    intro left r p hl hn h
    cases h
    show 0 = _
    omega
  | succ n ih =>
    intro left r p hl hn h
    rw [ffF] at h
    split at h
    · rename_i h0
      cases h
      rw [h0]
      decide
    · have key : ∀ (m i : Nat) (p : List Nat), i + m ≤ 6 → fwF (fun w => if left.testBit w = true ∧ ¬ (X w r).1 < 12 then ffF X n (clr left w) (X w r).2.2 else none) m i = some p → p.length = popc left := by
        intro m
        induction m with
        | zero => intro i p _ h; cases h
        | succ m ihm =>
          intro i p hi h
          rw [fwF] at h
          split at h
          · rename_i q hq
            cases h
            split at hq
            · rename_i hb
              have hc := pop_clr left hl i (by omega) hb.1
              have := ih _ _ _ (Nat.lt_of_le_of_lt (clr_lt _ _) hl) (by omega) hq
              rw [List.length_cons]
              omega
            · cases hq
          · exact ihm _ _ (by omega) h
      exact key 6 0 p (by decide) h
theorem pop64 : ∀ b, b < 64 → popc b ≤ 6 := by decide +kernel
def pf_X6_orders : PF := fun args M k => match args with
  | [.ref o, .int s] => (o = 0 ∧ IV M) ∧ (if ¬ s < 0 ∧ ¬ 1 <<< (M 1 6 &&& 31) ≤ s then ∀ N, QO M N → k (.int (nI (csF (XM M) 6 (s).toNatClampNeg (M 2)))) N else k (.int (-1000001)) (tellM M 0))
  | _ => False
theorem pe_X6_orders {o : Nat} {s : Int32} {M : Mem} {k : Value → Mem → Prop} : pf_X6_orders [.ref o, .int s] M k = ((o = 0 ∧ IV M) ∧ (if ¬ s < 0 ∧ ¬ 1 <<< (M 1 6 &&& 31) ≤ s then ∀ N, QO M N → k (.int (nI (csF (XM M) 6 (s).toNatClampNeg (M 2)))) N else k (.int (-1000001)) (tellM M 0))) := rfl
set_option maxRecDepth 100000 in
set_option maxHeartbeats 4000000 in
theorem c_X6_orders {d : Nat} (hd : 12 ≤ d) {o : Nat} {s : Int32} {M : Mem} {k : Value → Mem → Prop} (h : (o = 0 ∧ IV M) ∧ (if ¬ s < 0 ∧ ¬ 1 <<< (M 1 6 &&& 31) ≤ s then ∀ N, QO M N → k (.int (nI (csF (XM M) 6 (s).toNatClampNeg (M 2)))) N else k (.int (-1000001)) (tellM M 0))) : CallP d 75 [.ref o, .int s] M k := by
  obtain ⟨hp, h⟩ := h
  obtain ⟨d, rfl⟩ : ∃ d', d = d' + 1 := ⟨d - 1, by omega⟩
  obtain ⟨rfl, hI⟩ := hp
  · refine enterV (n := 80) [(3, pf_X0_hasAll), (103, pf_X6_tell), (16, pf_X2_countOrders)] [] mI_75 (by decide) (Nat.le_of_ble_eq_true rfl) (T_cons (s_X0_hasAll (by omega)) (T_cons (s_X6_tell (by omega)) (T_cons (s_X2_countOrders (by omega)) T_nil))) ?_
    rw [show lent 2 ([.ref 0, .int s] : List Value) = [.ref 0, .int s] from rfl]
    simp only [dX6_orders_0, dX6_orders_1, dX6_orders_4, dX6_orders_5, dX6_orders_8, dX6_orders_11, dX6_orders_12, dX6_orders_15, dX6_orders_16, dX6_orders_19, dX6_orders_20, dX6_orders_23, dX6_orders_26, dX6_orders_27, dX6_orders_29, dX6_orders_32, cr_6_125, cr_6_187, cr_6_69, fr_6_12, fr_6_36, kr_6_68, skr_6_68, al_10, al_11, al_12, al_13, al_14, al_16, al_17, al_18, al_19, al_2, al_20, al_21, al_23, al_24, al_27, al_28, al_29, al_3, al_30, al_31, al_32, al_34, al_36, al_37, al_38, al_39, al_4, al_40, al_41, al_42, al_43, al_45, al_46, al_47, al_48, al_49, al_5, al_52, al_53, al_54, al_55, al_56, al_57, al_58, al_6, al_60, al_61, al_62, al_63, al_64, al_65, al_66, al_67, al_69, al_7, al_70, al_71, al_72, al_73, al_9, gf_5_0_0, gf_5_5_0, pcl_0, pcl_1, pcl_100, pcl_101, pcl_102, pcl_103, pcl_104, pcl_105, pcl_106, pcl_107, pcl_108, pcl_109, pcl_110, pcl_111, pcl_112, pcl_15, pcl_22, pcl_25, pcl_26, pcl_33, pcl_44, pcl_50, pcl_59, pcl_8, rOK_i, rOK_z, v_aload_0, v_getfield, v_goto, v_if_eq, v_iload_1, v_invv, v_ireturn, v_ldc, vcV_2_0, vcV_2_5, vcV_3_1, vgf_i, vgf_r, vgf_s, vld_i, vld_s, vc_d, rr_0, rr_1, csT_h, csT_t, csT_n, bI_0, bI_1, bI_z, bT, List.mem_cons, List.not_mem_nil, List.length_cons, List.length_nil, ite_not, ↓reduceIte, true_and, and_true, not_true_eq_false, not_false_eq_true, false_or, or_false, or_true, true_or, Nat.reduceAdd, Nat.reduceEqDiff, Nat.reduceBEq, Nat.reduceLeDiff, Nat.reduceLT, Nat.reduceSub, Int.reduceAdd, Int.reduceLE, Int.reduceLT, Int.reduceToNat, Int.reduceNeg, Int.reduceNatCast', reduceCtorEq, Int32.reduceOfInt, Int32.reduceOfNat, Int32.reduceToNatClampNeg, Int32.reduceToInt, i10, i01, pe_X0_hasAll, tl_0, tl_1, tl_2, tl_3, tl_4, tl_5, tl_6, pe_X2_countOrders]
    by_cases h1 : ¬ s < 0 ∧ ¬ 1 <<< (M 1 6 &&& 31) ≤ s
    · rw [if_pos h1] at h ⊢
      obtain ⟨b, q, hq, he, hb, rfl⟩ := hasAll_n hI h1
      exact ⟨⟨b, q, hq, he, hb, rfl⟩, h⟩
    · rw [if_neg h1] at h ⊢
      exact h

theorem s_X6_orders {d : Nat} (hd : 12 ≤ d) : Snd d 75 pf_X6_orders := by
  intro args M k h
  unfold pf_X6_orders at h
  split at h
  · exact c_X6_orders hd h
  · exact h.elim
def pf_X6_fewest : PF := fun args M k => match args with
  | [.ref o, .int s] => (o = 0 ∧ IV M) ∧ (if ¬ s < 0 ∧ ¬ 1 <<< (M 1 6 &&& 31) ≤ s then ∀ N, QO M N → k (.int (nI (fvF (XM M) 6 (s).toNatClampNeg (M 2)))) N else k (.int (-1000001)) (tellM M 0))
  | _ => False
theorem pe_X6_fewest {o : Nat} {s : Int32} {M : Mem} {k : Value → Mem → Prop} : pf_X6_fewest [.ref o, .int s] M k = ((o = 0 ∧ IV M) ∧ (if ¬ s < 0 ∧ ¬ 1 <<< (M 1 6 &&& 31) ≤ s then ∀ N, QO M N → k (.int (nI (fvF (XM M) 6 (s).toNatClampNeg (M 2)))) N else k (.int (-1000001)) (tellM M 0))) := rfl
set_option maxRecDepth 100000 in
set_option maxHeartbeats 4000000 in
theorem c_X6_fewest {d : Nat} (hd : 12 ≤ d) {o : Nat} {s : Int32} {M : Mem} {k : Value → Mem → Prop} (h : (o = 0 ∧ IV M) ∧ (if ¬ s < 0 ∧ ¬ 1 <<< (M 1 6 &&& 31) ≤ s then ∀ N, QO M N → k (.int (nI (fvF (XM M) 6 (s).toNatClampNeg (M 2)))) N else k (.int (-1000001)) (tellM M 0))) : CallP d 76 [.ref o, .int s] M k := by
  obtain ⟨hp, h⟩ := h
  obtain ⟨d, rfl⟩ : ∃ d', d = d' + 1 := ⟨d - 1, by omega⟩
  obtain ⟨rfl, hI⟩ := hp
  · refine enterV (n := 80) [(3, pf_X0_hasAll), (103, pf_X6_tell), (17, pf_X2_countFalls)] [] mI_76 (by decide) (Nat.le_of_ble_eq_true rfl) (T_cons (s_X0_hasAll (by omega)) (T_cons (s_X6_tell (by omega)) (T_cons (s_X2_countFalls (by omega)) T_nil))) ?_
    rw [show lent 2 ([.ref 0, .int s] : List Value) = [.ref 0, .int s] from rfl]
    simp only [dX6_fewest_0, dX6_fewest_1, dX6_fewest_4, dX6_fewest_5, dX6_fewest_8, dX6_fewest_11, dX6_fewest_12, dX6_fewest_15, dX6_fewest_16, dX6_fewest_19, dX6_fewest_20, dX6_fewest_23, dX6_fewest_26, dX6_fewest_27, dX6_fewest_29, dX6_fewest_32, cr_6_125, cr_6_191, cr_6_69, fr_6_12, fr_6_36, kr_6_68, skr_6_68, al_10, al_11, al_12, al_13, al_14, al_16, al_17, al_18, al_19, al_2, al_20, al_21, al_23, al_24, al_27, al_28, al_29, al_3, al_30, al_31, al_32, al_34, al_36, al_37, al_38, al_39, al_4, al_40, al_41, al_42, al_43, al_45, al_46, al_47, al_48, al_49, al_5, al_52, al_53, al_54, al_55, al_56, al_57, al_58, al_6, al_60, al_61, al_62, al_63, al_64, al_65, al_66, al_67, al_69, al_7, al_70, al_71, al_72, al_73, al_9, gf_5_0_0, gf_5_5_0, pcl_0, pcl_1, pcl_100, pcl_101, pcl_102, pcl_103, pcl_104, pcl_105, pcl_106, pcl_107, pcl_108, pcl_109, pcl_110, pcl_111, pcl_112, pcl_15, pcl_22, pcl_25, pcl_26, pcl_33, pcl_44, pcl_50, pcl_59, pcl_8, rOK_i, rOK_z, v_aload_0, v_getfield, v_goto, v_if_eq, v_iload_1, v_invv, v_ireturn, v_ldc, vcV_2_0, vcV_2_5, vcV_3_1, vgf_i, vgf_r, vgf_s, vld_i, vld_s, vc_d, rr_0, rr_1, csT_h, csT_t, csT_n, bI_0, bI_1, bI_z, bT, List.mem_cons, List.not_mem_nil, List.length_cons, List.length_nil, ite_not, ↓reduceIte, true_and, and_true, not_true_eq_false, not_false_eq_true, false_or, or_false, or_true, true_or, Nat.reduceAdd, Nat.reduceEqDiff, Nat.reduceBEq, Nat.reduceLeDiff, Nat.reduceLT, Nat.reduceSub, Int.reduceAdd, Int.reduceLE, Int.reduceLT, Int.reduceToNat, Int.reduceNeg, Int.reduceNatCast', reduceCtorEq, Int32.reduceOfInt, Int32.reduceOfNat, Int32.reduceToNatClampNeg, Int32.reduceToInt, i10, i01, pe_X0_hasAll, tl_0, tl_1, tl_2, tl_3, tl_4, tl_5, tl_6, pe_X2_countFalls]
    by_cases h1 : ¬ s < 0 ∧ ¬ 1 <<< (M 1 6 &&& 31) ≤ s
    · rw [if_pos h1] at h ⊢
      obtain ⟨b, q, hq, he, hb, rfl⟩ := hasAll_n hI h1
      exact ⟨⟨b, q, hq, he, hb, rfl⟩, h⟩
    · rw [if_neg h1] at h ⊢
      exact h

theorem s_X6_fewest {d : Nat} (hd : 12 ≤ d) : Snd d 76 pf_X6_fewest := by
  intro args M k h
  unfold pf_X6_fewest at h
  split at h
  · exact c_X6_fewest hd h
  · exact h.elim
def pf_X6_most : PF := fun args M k => match args with
  | [.ref o] => (o = 0 ∧ IV M) ∧ (∀ N, QO M N → k (.int (nI (gtF (XM M) (M 1 6).toNatClampNeg 6 0 0 (M 2)))) N)
  | _ => False
theorem pe_X6_most {o : Nat} {M : Mem} {k : Value → Mem → Prop} : pf_X6_most [.ref o] M k = ((o = 0 ∧ IV M) ∧ (∀ N, QO M N → k (.int (nI (gtF (XM M) (M 1 6).toNatClampNeg 6 0 0 (M 2)))) N)) := rfl
set_option maxRecDepth 100000 in
set_option maxHeartbeats 4000000 in
theorem c_X6_most {d : Nat} (hd : 12 ≤ d) {o : Nat} {M : Mem} {k : Value → Mem → Prop} (h : (o = 0 ∧ IV M) ∧ (∀ N, QO M N → k (.int (nI (gtF (XM M) (M 1 6).toNatClampNeg 6 0 0 (M 2)))) N)) : CallP d 77 [.ref o] M k := by
  obtain ⟨hp, h⟩ := h
  obtain ⟨d, rfl⟩ : ∃ d', d = d' + 1 := ⟨d - 1, by omega⟩
  obtain ⟨rfl, hI⟩ := hp
  · refine enterV (n := 80) [(18, pf_X2_findGreatest)] [] mI_77 (by decide) (Nat.le_of_ble_eq_true rfl) (T_cons (s_X2_findGreatest (by omega)) T_nil) ?_
    rw [show lent 1 ([.ref 0] : List Value) = [.ref 0] from rfl]
    simp only [dX6_most_0, dX6_most_1, dX6_most_4, dX6_most_5, dX6_most_8, dX6_most_11, cr_6_194, fr_6_12, fr_6_36, al_10, al_11, al_12, al_13, al_14, al_16, al_17, al_18, al_19, al_2, al_20, al_21, al_23, al_24, al_27, al_28, al_29, al_3, al_30, al_31, al_32, al_34, al_36, al_37, al_38, al_39, al_4, al_40, al_41, al_42, al_43, al_45, al_46, al_47, al_48, al_49, al_5, al_52, al_53, al_54, al_55, al_56, al_57, al_58, al_6, al_60, al_61, al_62, al_63, al_64, al_65, al_66, al_67, al_69, al_7, al_70, al_71, al_72, al_73, al_9, gf_5_0_0, gf_5_5_0, pcl_0, pcl_1, pcl_100, pcl_101, pcl_102, pcl_103, pcl_104, pcl_105, pcl_106, pcl_107, pcl_108, pcl_109, pcl_110, pcl_111, pcl_112, pcl_15, pcl_22, pcl_25, pcl_26, pcl_33, pcl_44, pcl_50, pcl_59, pcl_8, rOK_i, rOK_z, v_aload_0, v_getfield, v_invv, v_ireturn, vcV_2_1, vgf_i, vgf_r, vgf_s, vc_d, rr_0, rr_1, csT_h, csT_t, csT_n, bI_0, bI_1, bI_z, bT, List.mem_cons, List.not_mem_nil, List.length_cons, List.length_nil, ite_not, ↓reduceIte, true_and, and_true, not_true_eq_false, not_false_eq_true, false_or, or_false, or_true, true_or, Nat.reduceAdd, Nat.reduceEqDiff, Nat.reduceBEq, Nat.reduceLeDiff, Nat.reduceLT, Nat.reduceSub, Int.reduceAdd, Int.reduceLE, Int.reduceLT, Int.reduceToNat, Int.reduceNeg, Int.reduceNatCast', reduceCtorEq, Int32.reduceOfInt, Int32.reduceOfNat, Int32.reduceToNatClampNeg, Int32.reduceToInt, i10, i01, pe_X2_findGreatest]
    exact ⟨hI, h⟩

theorem s_X6_most {d : Nat} (hd : 12 ≤ d) : Snd d 77 pf_X6_most := by
  intro args M k h
  unfold pf_X6_most at h
  split at h
  · exact c_X6_most hd h
  · exact h.elim
def pf_X6_order : PF := fun args M k => match args with
  | [.ref o, .int s, .int i] => (o = 0 ∧ IV M) ∧ (if (¬ s < 0 ∧ ¬ 1 <<< (M 1 6 &&& 31) ≤ s) ∧ ¬ i < 0 ∧ i < nI (popc (s).toNatClampNeg) then (∀ N, QO M N → (∀ p, ffF (XM M) 6 (s).toNatClampNeg (M 2) = some p → k (.int (nI (p.getD (i).toNatClampNeg 0))) N) ∧ (ffF (XM M) 6 (s).toNatClampNeg (M 2) = none → k (.int (-1000004)) (tellM N 3))) else k (.int (-1000001)) (tellM M 0))
  | _ => False
theorem pe_X6_order {o : Nat} {s : Int32} {i : Int32} {M : Mem} {k : Value → Mem → Prop} : pf_X6_order [.ref o, .int s, .int i] M k = ((o = 0 ∧ IV M) ∧ (if (¬ s < 0 ∧ ¬ 1 <<< (M 1 6 &&& 31) ≤ s) ∧ ¬ i < 0 ∧ i < nI (popc (s).toNatClampNeg) then (∀ N, QO M N → (∀ p, ffF (XM M) 6 (s).toNatClampNeg (M 2) = some p → k (.int (nI (p.getD (i).toNatClampNeg 0))) N) ∧ (ffF (XM M) 6 (s).toNatClampNeg (M 2) = none → k (.int (-1000004)) (tellM N 3))) else k (.int (-1000001)) (tellM M 0))) := rfl
set_option maxRecDepth 100000 in
set_option maxHeartbeats 4000000 in
theorem c_X6_order {d : Nat} (hd : 12 ≤ d) {o : Nat} {s : Int32} {i : Int32} {M : Mem} {k : Value → Mem → Prop} (h : (o = 0 ∧ IV M) ∧ (if (¬ s < 0 ∧ ¬ 1 <<< (M 1 6 &&& 31) ≤ s) ∧ ¬ i < 0 ∧ i < nI (popc (s).toNatClampNeg) then (∀ N, QO M N → (∀ p, ffF (XM M) 6 (s).toNatClampNeg (M 2) = some p → k (.int (nI (p.getD (i).toNatClampNeg 0))) N) ∧ (ffF (XM M) 6 (s).toNatClampNeg (M 2) = none → k (.int (-1000004)) (tellM N 3))) else k (.int (-1000001)) (tellM M 0))) : CallP d 74 [.ref o, .int s, .int i] M k := by
  obtain ⟨hp, h⟩ := h
  obtain ⟨d, rfl⟩ : ∃ d', d = d' + 1 := ⟨d - 1, by omega⟩
  obtain ⟨rfl, hI⟩ := hp
  · refine enterV (n := 80) [(3, pf_X0_hasAll), (103, pf_X6_tell), (230, pf_J6_bitCount_0f7a4), (15, pf_X2_findOrder), (19, pf_X2_placed)] [] mI_74 (by decide) (Nat.le_of_ble_eq_true rfl) (T_cons (s_X0_hasAll (by omega)) (T_cons (s_X6_tell (by omega)) (T_cons (s_J6_bitCount_0f7a4 (by omega)) (T_cons (s_X2_findOrder (by omega)) (T_cons (s_X2_placed (by omega)) T_nil))))) ?_
    rw [show lent 3 ([.ref 0, .int s, .int i] : List Value) = [.ref 0, .int s, .int i] from rfl]
    simp only [dX6_order_0, dX6_order_1, dX6_order_4, dX6_order_5, dX6_order_8, dX6_order_11, dX6_order_12, dX6_order_15, dX6_order_16, dX6_order_17, dX6_order_20, dX6_order_23, dX6_order_24, dX6_order_26, dX6_order_29, dX6_order_30, dX6_order_31, dX6_order_34, dX6_order_35, dX6_order_38, dX6_order_39, dX6_order_42, dX6_order_45, dX6_order_46, dX6_order_49, dX6_order_50, dX6_order_53, dX6_order_56, dX6_order_57, dX6_order_59, dX6_order_62, cr_6_125, cr_6_128, cr_6_180, cr_6_184, cr_6_69, fr_6_12, fr_6_36, kr_6_172, kr_6_68, skr_6_172, skr_6_68, al_10, al_11, al_12, al_13, al_14, al_16, al_17, al_18, al_19, al_2, al_20, al_21, al_23, al_24, al_27, al_28, al_29, al_3, al_30, al_31, al_32, al_34, al_36, al_37, al_38, al_39, al_4, al_40, al_41, al_42, al_43, al_45, al_46, al_47, al_48, al_49, al_5, al_52, al_53, al_54, al_55, al_56, al_57, al_58, al_6, al_60, al_61, al_62, al_63, al_64, al_65, al_66, al_67, al_69, al_7, al_70, al_71, al_72, al_73, al_9, gf_5_0_0, gf_5_5_0, pcl_0, pcl_1, pcl_100, pcl_101, pcl_102, pcl_103, pcl_104, pcl_105, pcl_106, pcl_107, pcl_108, pcl_109, pcl_110, pcl_111, pcl_112, pcl_15, pcl_22, pcl_25, pcl_26, pcl_33, pcl_44, pcl_50, pcl_59, pcl_8, rOK_i, rOK_z, v_aload_0, v_getfield, v_goto, v_ic_lt, v_if_eq, v_if_lt, v_iload_1, v_iload_2, v_invs, v_invv, v_ireturn, v_ldc, vcS_1_1, vcV_2_0, vcV_2_1, vcV_2_5, vcV_3_1, vgf_i, vgf_r, vgf_s, vld_i, vld_s, vc_d, rr_0, rr_1, csT_h, csT_t, csT_n, bI_0, bI_1, bI_z, bT, List.mem_cons, List.not_mem_nil, List.length_cons, List.length_nil, ite_not, ↓reduceIte, true_and, and_true, not_true_eq_false, not_false_eq_true, false_or, or_false, or_true, true_or, Nat.reduceAdd, Nat.reduceEqDiff, Nat.reduceBEq, Nat.reduceLeDiff, Nat.reduceLT, Nat.reduceSub, Int.reduceAdd, Int.reduceLE, Int.reduceLT, Int.reduceToNat, Int.reduceNeg, Int.reduceNatCast', reduceCtorEq, Int32.reduceOfInt, Int32.reduceOfNat, Int32.reduceToNatClampNeg, Int32.reduceToInt, i10, i01, pe_X0_hasAll, tl_0, tl_1, tl_2, tl_3, tl_4, tl_5, tl_6, pe_J6_bitCount_0f7a4, pe_X2_findOrder, pe_X2_placed]
    by_cases h1 : ¬ s < 0 ∧ ¬ 1 <<< (M 1 6 &&& 31) ≤ s
    · rw [if_pos h1]
      obtain ⟨b, q, hq, he, hb, rfl⟩ := hasAll_n hI h1
      have h64 := lt64 hq hb
      rw [nI_clamp (by omega)] at h ⊢
      rw [bc_popc b (by omega)]
      by_cases h2 : i < 0
      · rw [if_neg (fun z => z.2.1 h2)] at h
        rw [if_pos h2]
        exact h
      · rw [if_neg h2]
        by_cases h3 : i < nI (popc b)
        · rw [if_pos ⟨h1, h2, h3⟩] at h
          rw [if_pos h3]
          refine ⟨⟨b, q, hq, he, hb, rfl⟩, fun N hN hp => ?_⟩
          obtain ⟨j, hj, rfl⟩ := nI_of h2
          have hp6 := pop64 b h64
          have hjp : j < popc b := (nI_ltI hj (by omega)).mp h3
          rw [nI_clamp hj] at h ⊢
          cases ho : ffF (XM M) 6 b (M 2) with
          | none =>
            rw [ho] at h
            simp only [Option.isSome_none, Bool.false_eq_true, not_false_eq_true, ↓reduceIte]
            exact (h N hN).2 rfl
          | some p =>
            rw [ho] at h hp
            have hl := ff_pop 6 b (M 2) p h64 hp6 ho
            simp only [Option.isSome_some, not_true_eq_false, ↓reduceIte]
            refine ⟨⟨nI_pos hj, nI_ge (b := 6) (by omega) (by decide)⟩, ?_⟩
            rw [hp p rfl j (by omega)]
            exact (h N hN).1 p rfl
        · rw [if_neg (fun z => h3 z.2.2)] at h
          rw [if_neg h3]
          exact h
    · rw [if_neg (fun z => h1 z.1)] at h
      rw [if_neg h1]
      exact h

theorem s_X6_order {d : Nat} (hd : 12 ≤ d) : Snd d 74 pf_X6_order := by
  intro args M k h
  unfold pf_X6_order at h
  split at h
  · exact c_X6_order hd h
  · exact h.elim
