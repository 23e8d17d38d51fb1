/-! M: orders -/
def NJ (M N : Mem) : Prop := (∀ p, p ≠ 59 → p ≠ 64 → p ≠ 65 → p ≠ 66 → N p = M p) ∧ ∀ j, j ≠ 8 → j ≠ 9 → N 59 j = M 59 j
theorem NJ.rf {M : Mem} : NJ M M := ⟨fun _ _ _ _ _ => rfl, fun _ _ _ => rfl⟩
theorem NJ.tr {M N K : Mem} (h1 : NJ M N) (h2 : NJ N K) : NJ M K := ⟨fun p a b c d => (h2.1 p a b c d).trans (h1.1 p a b c d), fun j a b => (h2.2 j a b).trans (h1.2 j a b)⟩
theorem NJ.r {M N : Mem} (h : NJ M N) : N 60 = M 60 := h.1 60 (by decide) (by decide) (by decide) (by decide)
theorem NJ.o {M N : Mem} (h : NJ M N) {A s : Nat} : ordL N A s = ordL M A s := by
  unfold ordL
  rw [h.r]
theorem wl_mem {g : Nat → List (List Nat × Nat)} {x : List Nat × Nat} : ∀ (n i : Nat), x ∈ wl g n i → ∃ j, i ≤ j ∧ j < i + n ∧ x ∈ g j := by
  intro n
  induction n with
  | zero => intro i h; cases h
  | succ n ih =>
    intro i h
    rw [wl] at h
    rcases List.mem_append.mp h with h | h
    · exact ⟨i, Nat.le_refl _, by omega, h⟩
    · obtain ⟨j, a, b, c⟩ := ih (i + 1) h
      exact ⟨j, by omega, by omega, c⟩
theorem goS_path {A q : Nat} (hq : q ≤ 6) : ∀ (n : Nat) (r : Nat → Int32) (left fell : Nat), left < 64 → popc left ≤ n → ∀ x ∈ goS A q n r left fell, x.1.length = popc left := by
  intro n
  induction n with
  | zero =>
    intro r left fell hl hp x hx
    have : x = ([], fell) := by simpa [goS] using hx
    rw [this]
    show 0 = popc left
    omega
  | succ n ih =>
    intro r left fell hl hp x hx
    rw [goS] at hx
    by_cases h0 : left = 0
    · rw [if_pos h0] at hx
      have : x = ([], fell) := by simpa using hx
      rw [this, h0, popc_0]
      rfl
    · rw [if_neg h0] at hx
      obtain ⟨j, a, b, c⟩ := wl_mem q 0 hx
      by_cases hb : left.testBit j = true ∧ fell + flM r j ≤ A
      · rw [if_pos hb] at c
        obtain ⟨y, hy, e⟩ := List.mem_map.mp c
        have hpc := clr_pop left hl j (by omega) hb.1
        have := ih _ _ _ (Nat.lt_of_le_of_lt (clr_lt left j) hl) (by omega) y hy
        rw [← e]
        show (j :: y.1).length = _
        rw [List.length_cons, this]
        exact hpc
      · rw [if_neg hb] at c
        cases c
def pf_X7_orders : PF := fun args M k => match args with
  | [.ref o, .int s] => (o = 59 ∧ IM (M 60)) ∧ (if ¬ s < 0 ∧ ¬ 1 <<< (M 60 1 &&& 31) ≤ s then ∀ N, NJ M N → k (.int (nI (ordL M 0 (s).toNatClampNeg).length)) N else k (.int (-1000001)) (fndM M 0))
  | _ => False
theorem pe_X7_orders {o : Nat} {s : Int32} {M : Mem} {k : Value → Mem → Prop} : pf_X7_orders [.ref o, .int s] M k = ((o = 59 ∧ IM (M 60)) ∧ (if ¬ s < 0 ∧ ¬ 1 <<< (M 60 1 &&& 31) ≤ s then ∀ N, NJ M N → k (.int (nI (ordL M 0 (s).toNatClampNeg).length)) N else k (.int (-1000001)) (fndM M 0))) := rfl
theorem le_X7_orders {o : Nat} {s : Int32} : lent 2 ([.ref o, .int s] : List Value) = [.ref o, .int s] := rfl
set_option maxRecDepth 100000 in
set_option maxHeartbeats 4000000 in
theorem c_X7_orders {d : Nat} (hd : 15 ≤ d) {o : Nat} {s : Int32} {M : Mem} {k : Value → Mem → Prop} (h : (o = 59 ∧ IM (M 60)) ∧ (if ¬ s < 0 ∧ ¬ 1 <<< (M 60 1 &&& 31) ≤ s then ∀ N, NJ M N → k (.int (nI (ordL M 0 (s).toNatClampNeg).length)) N else k (.int (-1000001)) (fndM M 0))) : CallP d 180 [.ref o, .int s] M k := by
  obtain ⟨hp, h⟩ := h
  obtain ⟨d, rfl⟩ : ∃ d', d = d' + 1 := ⟨d - 1, by omega⟩
  obtain ⟨rfl, hI⟩ := hp
  · refine enterV (n := 80) [(155, pf_X7_isSet), (178, pf_X7_findOrders), (125, pf_X7_finding)] [] mI_180 (by decide) (Nat.le_of_ble_eq_true rfl) (T_cons (s_X7_isSet (by omega)) (T_cons (s_X7_findOrders (by omega)) (T_cons (s_X7_finding (by omega)) T_nil))) ?_
    rw [le_X7_orders]
    simp only [dX7_orders_0, dX7_orders_1, dX7_orders_2, dX7_orders_5, dX7_orders_8, dX7_orders_9, dX7_orders_11, dX7_orders_14, dX7_orders_15, dX7_orders_16, dX7_orders_17, dX7_orders_18, dX7_orders_21, dX7_orders_22, dX7_orders_25, cr_7_149, cr_7_207, cr_7_75, fr_7_189, kr_7_69, skr_7_69, al_10, al_11, al_12, al_13, al_14, al_16, al_17, al_18, al_19, al_2, al_20, al_21, al_23, al_24, al_27, al_28, al_29, al_3, al_30, al_31, al_32, al_34, al_36, al_37, al_38, al_39, al_4, al_40, al_41, al_42, al_43, al_45, al_46, al_47, al_48, al_49, al_5, al_52, al_53, al_54, al_55, al_56, al_57, al_58, al_6, al_60, al_61, al_62, al_63, al_64, al_65, al_66, al_67, al_69, al_7, al_70, al_71, al_72, al_73, al_9, gf_6_8_59, pcl_0, pcl_1, pcl_100, pcl_101, pcl_102, pcl_103, pcl_104, pcl_105, pcl_106, pcl_107, pcl_108, pcl_109, pcl_110, pcl_111, pcl_112, pcl_15, pcl_22, pcl_25, pcl_26, pcl_33, pcl_44, pcl_50, pcl_59, pcl_8, pft_6_8, rOK_i, rOK_z, v_aload_0, v_getfield, v_iconst_0, v_if_ne, v_iload_1, v_invv, v_ireturn, v_ldc, vcV_2_6, vcV_3_6, vgf_i, vgf_r, vgf_s, vld_i, vld_s, vc_d, rr_0, rr_1, csT_h, csT_t, csT_n, bI_0, bI_1, bI_z, bT, List.mem_cons, List.not_mem_nil, List.length_cons, List.length_nil, ite_not, ↓reduceIte, true_and, and_true, not_true_eq_false, not_false_eq_true, false_or, or_false, or_true, true_or, Nat.reduceAdd, Nat.reduceEqDiff, Nat.reduceBEq, Nat.reduceLeDiff, Nat.reduceLT, Nat.reduceSub, Int.reduceAdd, Int.reduceLE, Int.reduceLT, Int.reduceToNat, Int.reduceNeg, Int.reduceNatCast', reduceCtorEq, Int32.reduceOfInt, Int32.reduceOfNat, Int32.reduceToNatClampNeg, Int32.reduceToInt, i10, i01, nEM, pe_X7_isSet, pe_X7_findOrders, fn_0, fn_1, fn_2, fn_3, fn_4, fn_5, fn_6, hI]
    by_cases h1 : ¬ s < 0 ∧ ¬ 1 <<< (M 60 1 &&& 31) ≤ s
    · rw [if_pos h1] at h ⊢
      obtain ⟨b, q, hq, he, hb, rfl⟩ := isSet_n hI h1
      refine ⟨⟨b, q, hq, he, hb, rfl⟩, ?_⟩
      intro N n1 n2 n3 n4 n5
      rw [n3]
      exact h N ⟨n1, n2⟩
    · rw [if_neg h1] at h ⊢
      exact h

theorem s_X7_orders {d : Nat} (hd : 15 ≤ d) : Snd d 180 pf_X7_orders := by
  intro args M k h
  unfold pf_X7_orders at h
  split at h
  · exact c_X7_orders hd h
  · exact h.elim
def pf_X7_fewest : PF := fun args M k => match args with
  | [.ref o, .int s] => (o = 59 ∧ IM (M 60)) ∧ (if ¬ s < 0 ∧ ¬ 1 <<< (M 60 1 &&& 31) ≤ s then ∀ N, NJ M N → k (.int (nI (mnF 6 (ordL M 6 (s).toNatClampNeg)))) N else k (.int (-1000001)) (fndM M 0))
  | _ => False
theorem pe_X7_fewest {o : Nat} {s : Int32} {M : Mem} {k : Value → Mem → Prop} : pf_X7_fewest [.ref o, .int s] M k = ((o = 59 ∧ IM (M 60)) ∧ (if ¬ s < 0 ∧ ¬ 1 <<< (M 60 1 &&& 31) ≤ s then ∀ N, NJ M N → k (.int (nI (mnF 6 (ordL M 6 (s).toNatClampNeg)))) N else k (.int (-1000001)) (fndM M 0))) := rfl
theorem le_X7_fewest {o : Nat} {s : Int32} : lent 2 ([.ref o, .int s] : List Value) = [.ref o, .int s] := rfl
set_option maxRecDepth 100000 in
set_option maxHeartbeats 4000000 in
theorem c_X7_fewest {d : Nat} (hd : 15 ≤ d) {o : Nat} {s : Int32} {M : Mem} {k : Value → Mem → Prop} (h : (o = 59 ∧ IM (M 60)) ∧ (if ¬ s < 0 ∧ ¬ 1 <<< (M 60 1 &&& 31) ≤ s then ∀ N, NJ M N → k (.int (nI (mnF 6 (ordL M 6 (s).toNatClampNeg)))) N else k (.int (-1000001)) (fndM M 0))) : CallP d 181 [.ref o, .int s] M k := by
  obtain ⟨hp, h⟩ := h
  obtain ⟨d, rfl⟩ : ∃ d', d = d' + 1 := ⟨d - 1, by omega⟩
  obtain ⟨rfl, hI⟩ := hp
  · refine enterV (n := 80) [(155, pf_X7_isSet), (178, pf_X7_findOrders), (125, pf_X7_finding)] [] mI_181 (by decide) (Nat.le_of_ble_eq_true rfl) (T_cons (s_X7_isSet (by omega)) (T_cons (s_X7_findOrders (by omega)) (T_cons (s_X7_finding (by omega)) T_nil))) ?_
    rw [le_X7_fewest]
    simp only [dX7_fewest_0, dX7_fewest_1, dX7_fewest_2, dX7_fewest_5, dX7_fewest_8, dX7_fewest_9, dX7_fewest_11, dX7_fewest_14, dX7_fewest_15, dX7_fewest_16, dX7_fewest_17, dX7_fewest_19, dX7_fewest_22, dX7_fewest_23, dX7_fewest_26, cr_7_149, cr_7_207, cr_7_75, fr_7_193, kr_7_69, skr_7_69, al_10, al_11, al_12, al_13, al_14, al_16, al_17, al_18, al_19, al_2, al_20, al_21, al_23, al_24, al_27, al_28, al_29, al_3, al_30, al_31, al_32, al_34, al_36, al_37, al_38, al_39, al_4, al_40, al_41, al_42, al_43, al_45, al_46, al_47, al_48, al_49, al_5, al_52, al_53, al_54, al_55, al_56, al_57, al_58, al_6, al_60, al_61, al_62, al_63, al_64, al_65, al_66, al_67, al_69, al_7, al_70, al_71, al_72, al_73, al_9, gf_6_9_59, pcl_0, pcl_1, pcl_100, pcl_101, pcl_102, pcl_103, pcl_104, pcl_105, pcl_106, pcl_107, pcl_108, pcl_109, pcl_110, pcl_111, pcl_112, pcl_15, pcl_22, pcl_25, pcl_26, pcl_33, pcl_44, pcl_50, pcl_59, pcl_8, pft_6_9, rOK_i, rOK_z, v_aload_0, v_bipush_6, v_getfield, v_if_ne, v_iload_1, v_invv, v_ireturn, v_ldc, vcV_2_6, vcV_3_6, vgf_i, vgf_r, vgf_s, vld_i, vld_s, vc_d, rr_0, rr_1, csT_h, csT_t, csT_n, bI_0, bI_1, bI_z, bT, List.mem_cons, List.not_mem_nil, List.length_cons, List.length_nil, ite_not, ↓reduceIte, true_and, and_true, not_true_eq_false, not_false_eq_true, false_or, or_false, or_true, true_or, Nat.reduceAdd, Nat.reduceEqDiff, Nat.reduceBEq, Nat.reduceLeDiff, Nat.reduceLT, Nat.reduceSub, Int.reduceAdd, Int.reduceLE, Int.reduceLT, Int.reduceToNat, Int.reduceNeg, Int.reduceNatCast', reduceCtorEq, Int32.reduceOfInt, Int32.reduceOfNat, Int32.reduceToNatClampNeg, Int32.reduceToInt, i10, i01, nEM, pe_X7_isSet, pe_X7_findOrders, fn_0, fn_1, fn_2, fn_3, fn_4, fn_5, fn_6, hI]
    by_cases h1 : ¬ s < 0 ∧ ¬ 1 <<< (M 60 1 &&& 31) ≤ s
    · rw [if_pos h1] at h ⊢
      obtain ⟨b, q, hq, he, hb, rfl⟩ := isSet_n hI h1
      refine ⟨⟨b, q, hq, he, hb, rfl⟩, ?_⟩
      intro N n1 n2 n3 n4 n5
      rw [n4]
      exact h N ⟨n1, n2⟩
    · rw [if_neg h1] at h ⊢
      exact h

theorem s_X7_fewest {d : Nat} (hd : 15 ≤ d) : Snd d 181 pf_X7_fewest := by
  intro args M k h
  unfold pf_X7_fewest at h
  split at h
  · exact c_X7_fewest hd h
  · exact h.elim
def pf_X7_order : PF := fun args M k => match args with
  | [.ref o, .int s, .int i] => (o = 59 ∧ IM (M 60)) ∧ (if (¬ s < 0 ∧ ¬ 1 <<< (M 60 1 &&& 31) ≤ s) ∧ ¬ i < 0 ∧ i < nI (popc (s).toNatClampNeg) then (∀ N, NJ M N → (∀ x L, ordL M 0 (s).toNatClampNeg = x :: L → k (.int (nI (x.1.getD (i).toNatClampNeg 0))) N) ∧ (ordL M 0 (s).toNatClampNeg = [] → k (.int (-1000004)) (fndM N 3))) else k (.int (-1000001)) (fndM M 0))
  | _ => False
theorem pe_X7_order {o : Nat} {s : Int32} {i : Int32} {M : Mem} {k : Value → Mem → Prop} : pf_X7_order [.ref o, .int s, .int i] M k = ((o = 59 ∧ IM (M 60)) ∧ (if (¬ s < 0 ∧ ¬ 1 <<< (M 60 1 &&& 31) ≤ s) ∧ ¬ i < 0 ∧ i < nI (popc (s).toNatClampNeg) then (∀ N, NJ M N → (∀ x L, ordL M 0 (s).toNatClampNeg = x :: L → k (.int (nI (x.1.getD (i).toNatClampNeg 0))) N) ∧ (ordL M 0 (s).toNatClampNeg = [] → k (.int (-1000004)) (fndM N 3))) else k (.int (-1000001)) (fndM M 0))) := rfl
theorem le_X7_order {o : Nat} {s : Int32} {i : Int32} : lent 3 ([.ref o, .int s, .int i] : List Value) = [.ref o, .int s, .int i] := rfl
set_option maxRecDepth 100000 in
set_option maxHeartbeats 4000000 in
theorem c_X7_order {d : Nat} (hd : 15 ≤ d) {o : Nat} {s : Int32} {i : Int32} {M : Mem} {k : Value → Mem → Prop} (h : (o = 59 ∧ IM (M 60)) ∧ (if (¬ s < 0 ∧ ¬ 1 <<< (M 60 1 &&& 31) ≤ s) ∧ ¬ i < 0 ∧ i < nI (popc (s).toNatClampNeg) then (∀ N, NJ M N → (∀ x L, ordL M 0 (s).toNatClampNeg = x :: L → k (.int (nI (x.1.getD (i).toNatClampNeg 0))) N) ∧ (ordL M 0 (s).toNatClampNeg = [] → k (.int (-1000004)) (fndM N 3))) else k (.int (-1000001)) (fndM M 0))) : CallP d 179 [.ref o, .int s, .int i] M k := by
  obtain ⟨hp, h⟩ := h
  obtain ⟨d, rfl⟩ : ∃ d', d = d' + 1 := ⟨d - 1, by omega⟩
  obtain ⟨rfl, hI⟩ := hp
  · refine enterV (n := 80) [(155, pf_X7_isSet), (132, pf_X7_bits), (126, pf_X7_within), (178, pf_X7_findOrders), (125, pf_X7_finding)] [] mI_179 (by decide) (Nat.le_of_ble_eq_true rfl) (T_cons (s_X7_isSet (by omega)) (T_cons (s_X7_bits (by omega)) (T_cons (s_X7_within (by omega)) (T_cons (s_X7_findOrders (by omega)) (T_cons (s_X7_finding (by omega)) T_nil))))) ?_
    rw [le_X7_order]
    simp only [dX7_order_0, dX7_order_1, dX7_order_2, dX7_order_5, dX7_order_8, dX7_order_9, dX7_order_10, dX7_order_11, dX7_order_14, dX7_order_15, dX7_order_16, dX7_order_19, dX7_order_22, dX7_order_23, dX7_order_25, dX7_order_28, dX7_order_29, dX7_order_30, dX7_order_31, dX7_order_32, dX7_order_35, dX7_order_36, dX7_order_39, dX7_order_42, dX7_order_43, dX7_order_45, dX7_order_48, dX7_order_51, dX7_order_52, dX7_order_55, dX7_order_56, dX7_order_57, cr_7_149, cr_7_152, cr_7_207, cr_7_75, cr_7_88, fr_7_189, fr_7_28, kr_7_69, kr_7_74, skr_7_69, skr_7_74, al_10, al_11, al_12, al_13, al_14, al_16, al_17, al_18, al_19, al_2, al_20, al_21, al_23, al_24, al_27, al_28, al_29, al_3, al_30, al_31, al_32, al_34, al_36, al_37, al_38, al_39, al_4, al_40, al_41, al_42, al_43, al_45, al_46, al_47, al_48, al_49, al_5, al_52, al_53, al_54, al_55, al_56, al_57, al_58, al_6, al_60, al_61, al_62, al_63, al_64, al_65, al_66, al_67, al_69, al_7, al_70, al_71, al_72, al_73, al_9, gf_6_7_59, gf_6_8_59, pcl_0, pcl_1, pcl_100, pcl_101, pcl_102, pcl_103, pcl_104, pcl_105, pcl_106, pcl_107, pcl_108, pcl_109, pcl_110, pcl_111, pcl_112, pcl_15, pcl_22, pcl_25, pcl_26, pcl_33, pcl_44, pcl_50, pcl_59, pcl_8, pft_6_8, rOK_i, rOK_z, v_aload_0, v_getfield, v_goto, v_iaload, v_iconst_0, v_iconst_1, v_if_eq, v_if_ne, v_iload_1, v_iload_2, v_invs, v_invv, v_ireturn, v_isub, v_ldc, vcS_1_1, vcS_3_1, vcV_2_6, vcV_3_6, vgf_i, vgf_r, vgf_s, vld_i, vld_s, vc_d, rr_0, rr_1, csT_h, csT_t, csT_n, bI_0, bI_1, bI_z, bT, List.mem_cons, List.not_mem_nil, List.length_cons, List.length_nil, ite_not, ↓reduceIte, true_and, and_true, not_true_eq_false, not_false_eq_true, false_or, or_false, or_true, true_or, Nat.reduceAdd, Nat.reduceEqDiff, Nat.reduceBEq, Nat.reduceLeDiff, Nat.reduceLT, Nat.reduceSub, Int.reduceAdd, Int.reduceLE, Int.reduceLT, Int.reduceToNat, Int.reduceNeg, Int.reduceNatCast', reduceCtorEq, Int32.reduceOfInt, Int32.reduceOfNat, Int32.reduceToNatClampNeg, Int32.reduceToInt, i10, i01, nEM, pe_X7_isSet, pe_X7_bits, pe_X7_within, pe_X7_findOrders, fn_0, fn_1, fn_2, fn_3, fn_4, fn_5, fn_6, hI]
    by_cases h1 : ¬ s < 0 ∧ ¬ 1 <<< (M 60 1 &&& 31) ≤ s
    · rw [if_pos h1]
      obtain ⟨b, q, hq, he, hb, rfl⟩ := isSet_n hI h1
      have h64 := lt64 hq hb
      have hp6 := pop_le hq hb
      have cb : (nI b).toNatClampNeg = b := nI_clamp (by omega)
      simp only [cb] at h ⊢
      refine ⟨⟨b, by omega, rfl⟩, ?_⟩
      have key : (¬ i < 0 ∧ ¬ nI (popc b) - 1 < i) = (¬ i < 0 ∧ i < nI (popc b)) := by
        apply propext
        constructor
        · rintro ⟨a, z⟩
          obtain ⟨j, hj, rfl⟩ := nI_of a
          refine ⟨a, ?_⟩
          rw [nI_ltI hj (by omega)]
          rw [Int32.lt_iff_toInt_lt, nI_toInt hj] at z
          cases hp : popc b with
          | zero =>
            rw [hp, show (nI 0 - 1).toInt = -1 from by decide] at z
            omega
          | succ m =>
            rw [hp, nI_pred, nI_toInt (by omega)] at z
            omega
        · rintro ⟨a, z⟩
          obtain ⟨j, hj, rfl⟩ := nI_of a
          refine ⟨a, ?_⟩
          rw [nI_ltI hj (by omega)] at z
          rw [Int32.lt_iff_toInt_lt, nI_toInt hj]
          cases hp : popc b with
          | zero => omega
          | succ m =>
            rw [nI_pred, nI_toInt (by omega)]
            omega
      simp only [key]
      by_cases h2 : ¬ i < 0 ∧ i < nI (popc b)
      · rw [if_pos ⟨h1, h2⟩] at h
        rw [if_pos h2]
        refine ⟨⟨b, q, hq, he, hb, rfl⟩, ?_⟩
        intro N n1 n2 n3 n4 n5
        obtain ⟨ha, hn⟩ := h N ⟨n1, n2⟩
        obtain ⟨j, hj, rfl⟩ := nI_of h2.1
        have hjp : j < popc b := by
          have := h2.2
          rw [nI_ltI hj (by omega)] at this
          exact this
        rw [nI_clamp hj] at ha ⊢
        cases hL : ordL M 0 b with
        | nil =>
          rw [hL] at n3
          rw [n3, if_pos (show nI [].length = 0 from rfl)]
          exact hn hL
        | cons x L =>
          have hlen := goS_len (A := 0) hq 6 (M 60) b 0
          have h6 : (6 : Nat) ^ 6 = 46656 := by decide
          have hol : ordL M 0 b = goS 0 q 6 (M 60) b 0 := by
            unfold ordL
            rw [he, nI_clamp (by omega)]
          have hpl : x.1.length = popc b := goS_path (A := 0) hq 6 (M 60) b 0 h64 hp6 x (by rw [← hol, hL]; exact List.mem_cons_self)
          rw [← hol, hL, List.length_cons] at hlen
          rw [hL, List.length_cons] at n3
          rw [n3, if_neg (nI_ne0 (by omega) (by omega)), n5 x L hL j (by omega), nI_toInt hj]
          exact ⟨by omega, ha x L hL⟩
      · rw [if_neg (fun z => h2 z.2)] at h
        rw [if_neg h2]
        exact h
    · rw [if_neg (fun z => h1 z.1)] at h
      rw [if_neg h1]
      exact h

theorem s_X7_order {d : Nat} (hd : 15 ≤ d) : Snd d 179 pf_X7_order := by
  intro args M k h
  unfold pf_X7_order at h
  split at h
  · exact c_X7_order hd h
  · exact h.elim
/-- the greatest set by trying them all -/
def msF (c : Nat → Bool) : Nat → Nat → Nat → Nat
  | 0, _, b => b
  | n + 1, i, b => msF c n (i + 1) (if popc b < popc i then (if c i = true then i else b) else b)
def ordB (M : Mem) (s : Nat) : Bool := decide (0 < (ordL M 0 s).length)
set_option maxRecDepth 100000 in
set_option maxHeartbeats 4000000 in
theorem lp_most {d : Nat} (hd : 14 ≤ d) {M : Mem} {k : Value → Mem → Prop} {q : Nat} (hq : q ≤ 6) (hn : M 60 1 = nI q) : ∀ (n i b : Nat) (N : Mem), i + n = 2 ^ q → b < 2 ^ q → NJ M N → (∀ N, NJ M N → k (.int (nI (msF (ordB M) n i b))) N) → WP (7, yX7_most, cX7_most, 3, (some .int)) (d + 1) k 4 [.ref 59, .int (nI b), .int (nI i)] [] N := by
  have h64 : 2 ^ q ≤ 64 := Nat.pow_le_pow_right (n := 2) (by decide) hq
  intro n
  induction n with
  | zero =>
    intro i b N hi hb hN h
    have c1 : nI (2 ^ q) ≤ nI i := nI_le (by omega) (by omega)
    refine goV (n := 80) [] [4] T_nil ?_
    simp only [dX7_most_0, dX7_most_1, dX7_most_2, dX7_most_3, dX7_most_4, dX7_most_5, dX7_most_6, dX7_most_7, dX7_most_10, dX7_most_11, dX7_most_12, dX7_most_13, dX7_most_16, dX7_most_17, dX7_most_20, dX7_most_21, dX7_most_24, dX7_most_27, dX7_most_28, dX7_most_29, dX7_most_30, dX7_most_33, dX7_most_34, dX7_most_37, dX7_most_40, dX7_most_41, dX7_most_44, dX7_most_45, dX7_most_46, dX7_most_49, dX7_most_52, dX7_most_53, cr_7_152, cr_7_207, fr_7_189, fr_7_9, al_10, al_11, al_12, al_13, al_14, al_16, al_17, al_18, al_19, al_2, al_20, al_21, al_23, al_24, al_27, al_28, al_29, al_3, al_30, al_31, al_32, al_34, al_36, al_37, al_38, al_39, al_4, al_40, al_41, al_42, al_43, al_45, al_46, al_47, al_48, al_49, al_5, al_52, al_53, al_54, al_55, al_56, al_57, al_58, al_6, al_60, al_61, al_62, al_63, al_64, al_65, al_66, al_67, al_69, al_7, al_70, al_71, al_72, al_73, al_9, cat_i, cat_l, cat_r, cat_u, gf_6_0_59, gf_6_8_59, pcl_0, pcl_1, pcl_100, pcl_101, pcl_102, pcl_103, pcl_104, pcl_105, pcl_106, pcl_107, pcl_108, pcl_109, pcl_110, pcl_111, pcl_112, pcl_15, pcl_22, pcl_25, pcl_26, pcl_33, pcl_44, pcl_50, pcl_59, pcl_8, pft_6_8, rOK_i, rOK_z, v_aload_0, v_getfield, v_goto, v_iaload, v_ic_ge, v_ic_le, v_iconst_0, v_iconst_1, v_if_le, v_iinc_2, v_iload_1, v_iload_2, v_invs, v_invv, v_ireturn, v_ishl, v_istore_1, v_istore_2, vcS_1_1, vcV_3_6, vgf_i, vgf_r, vgf_s, vc_d, rr_0, rr_1, csT_h, csT_t, csT_n, bI_0, bI_1, bI_z, bT, List.mem_cons, List.not_mem_nil, List.length_cons, List.length_nil, ite_not, ↓reduceIte, true_and, and_true, not_true_eq_false, not_false_eq_true, false_or, or_false, or_true, true_or, Nat.reduceAdd, Nat.reduceEqDiff, Nat.reduceBEq, Nat.reduceLeDiff, Nat.reduceLT, Nat.reduceSub, Int.reduceAdd, Int.reduceLE, Int.reduceLT, Int.reduceToNat, Int.reduceNeg, Int.reduceNatCast', reduceCtorEq, Int32.reduceOfInt, Int32.reduceOfNat, Int32.reduceToNatClampNeg, Int32.reduceToInt, i10, i01, nEM, hN.r, hn, sh1 q (show q < 31 by omega), c1]
    exact h N hN
  | succ n ih =>
    intro i b N hi hb hN h
    have c1 : ¬ nI (2 ^ q) ≤ nI i := nI_ge (by omega) (by omega)
    have ci : (nI i).toNatClampNeg = i := nI_clamp (by omega)
    have cb : (nI b).toNatClampNeg = b := nI_clamp (by omega)
    have ei : (∃ b, b < 4096 ∧ nI i = nI b) = True := eq_true ⟨i, by omega, rfl⟩
    have eb : (∃ x, x < 4096 ∧ nI b = nI x) = True := eq_true ⟨b, by omega, rfl⟩
    have pi := popc_le i
    have pb := popc_le b
    have cp : (nI (popc i) ≤ nI (popc b)) = ¬ popc b < popc i := by
      rw [propext (nI_leI (by omega) (by omega))]
      exact propext ⟨fun z => by omega, fun z => by omega⟩
    have hE : (∃ x q', q' ≤ 6 ∧ nI q = nI q' ∧ x < 2 ^ q' ∧ nI i = nI x ∧ ((0 : Int32) = 0 ∨ (0 : Int32) = 6)) = True := eq_true ⟨i, q, hq, rfl, by omega, rfl, Or.inl rfl⟩
    refine goV (n := 80) [(132, pf_X7_bits), (178, pf_X7_findOrders)] [4] (T_cons (s_X7_bits (by omega)) (T_cons (s_X7_findOrders hd) T_nil)) ?_
    simp only [dX7_most_0, dX7_most_1, dX7_most_2, dX7_most_3, dX7_most_4, dX7_most_5, dX7_most_6, dX7_most_7, dX7_most_10, dX7_most_11, dX7_most_12, dX7_most_13, dX7_most_16, dX7_most_17, dX7_most_20, dX7_most_21, dX7_most_24, dX7_most_27, dX7_most_28, dX7_most_29, dX7_most_30, dX7_most_33, dX7_most_34, dX7_most_37, dX7_most_40, dX7_most_41, dX7_most_44, dX7_most_45, dX7_most_46, dX7_most_49, dX7_most_52, dX7_most_53, cr_7_152, cr_7_207, fr_7_189, fr_7_9, al_10, al_11, al_12, al_13, al_14, al_16, al_17, al_18, al_19, al_2, al_20, al_21, al_23, al_24, al_27, al_28, al_29, al_3, al_30, al_31, al_32, al_34, al_36, al_37, al_38, al_39, al_4, al_40, al_41, al_42, al_43, al_45, al_46, al_47, al_48, al_49, al_5, al_52, al_53, al_54, al_55, al_56, al_57, al_58, al_6, al_60, al_61, al_62, al_63, al_64, al_65, al_66, al_67, al_69, al_7, al_70, al_71, al_72, al_73, al_9, cat_i, cat_l, cat_r, cat_u, gf_6_0_59, gf_6_8_59, pcl_0, pcl_1, pcl_100, pcl_101, pcl_102, pcl_103, pcl_104, pcl_105, pcl_106, pcl_107, pcl_108, pcl_109, pcl_110, pcl_111, pcl_112, pcl_15, pcl_22, pcl_25, pcl_26, pcl_33, pcl_44, pcl_50, pcl_59, pcl_8, pft_6_8, rOK_i, rOK_z, v_aload_0, v_getfield, v_goto, v_iaload, v_ic_ge, v_ic_le, v_iconst_0, v_iconst_1, v_if_le, v_iinc_2, v_iload_1, v_iload_2, v_invs, v_invv, v_ireturn, v_ishl, v_istore_1, v_istore_2, vcS_1_1, vcV_3_6, vgf_i, vgf_r, vgf_s, vc_d, rr_0, rr_1, csT_h, csT_t, csT_n, bI_0, bI_1, bI_z, bT, List.mem_cons, List.not_mem_nil, List.length_cons, List.length_nil, ite_not, ↓reduceIte, true_and, and_true, not_true_eq_false, not_false_eq_true, false_or, or_false, or_true, true_or, Nat.reduceAdd, Nat.reduceEqDiff, Nat.reduceBEq, Nat.reduceLeDiff, Nat.reduceLT, Nat.reduceSub, Int.reduceAdd, Int.reduceLE, Int.reduceLT, Int.reduceToNat, Int.reduceNeg, Int.reduceNatCast', reduceCtorEq, Int32.reduceOfInt, Int32.reduceOfNat, Int32.reduceToNatClampNeg, Int32.reduceToInt, i10, i01, nEM, pe_X7_bits, hN.r, hn, sh1 q (show q < 31 by omega), c1, ci, cb, ei, eb, cp, nI_1]
    rw [msF] at h
    by_cases h1 : popc b < popc i
    · rw [if_pos h1]
      rw [if_pos h1] at h
      rw [pe_X7_findOrders]
      refine ⟨⟨rfl, i, q, hq, by rw [hN.r]; exact hn, by omega, rfl, Or.inl rfl⟩, ?_⟩
      intro N' n1 n2 n3 n4 n5
      have hN' : NJ M N' := hN.tr ⟨n1, n2⟩
      have e0 : (0 : Int32).toNatClampNeg = 0 := rfl
      rw [e0, ci, hN.o] at n3
      have hlen := goS_len (A := 0) hq 6 (M 60) i 0
      have h6 : (6 : Nat) ^ 6 = 46656 := by decide
      have hol : ordL M 0 i = goS 0 q 6 (M 60) i 0 := by
        unfold ordL
        rw [hn, nI_clamp (by omega)]
      rw [← hol] at hlen
      have cl : (nI (ordL M 0 i).length ≤ 0) = ¬ ordB M i = true := by
        rw [show (0 : Int32) = nI 0 from rfl, propext (nI_leI (by omega) (by omega))]
        unfold ordB
        rw [decide_eq_true_eq]
        exact propext ⟨fun z => by omega, fun z => by omega⟩
      simp only [dX7_most_0, dX7_most_1, dX7_most_2, dX7_most_3, dX7_most_4, dX7_most_5, dX7_most_6, dX7_most_7, dX7_most_10, dX7_most_11, dX7_most_12, dX7_most_13, dX7_most_16, dX7_most_17, dX7_most_20, dX7_most_21, dX7_most_24, dX7_most_27, dX7_most_28, dX7_most_29, dX7_most_30, dX7_most_33, dX7_most_34, dX7_most_37, dX7_most_40, dX7_most_41, dX7_most_44, dX7_most_45, dX7_most_46, dX7_most_49, dX7_most_52, dX7_most_53, cr_7_152, cr_7_207, fr_7_189, fr_7_9, al_10, al_11, al_12, al_13, al_14, al_16, al_17, al_18, al_19, al_2, al_20, al_21, al_23, al_24, al_27, al_28, al_29, al_3, al_30, al_31, al_32, al_34, al_36, al_37, al_38, al_39, al_4, al_40, al_41, al_42, al_43, al_45, al_46, al_47, al_48, al_49, al_5, al_52, al_53, al_54, al_55, al_56, al_57, al_58, al_6, al_60, al_61, al_62, al_63, al_64, al_65, al_66, al_67, al_69, al_7, al_70, al_71, al_72, al_73, al_9, cat_i, cat_l, cat_r, cat_u, gf_6_0_59, gf_6_8_59, pcl_0, pcl_1, pcl_100, pcl_101, pcl_102, pcl_103, pcl_104, pcl_105, pcl_106, pcl_107, pcl_108, pcl_109, pcl_110, pcl_111, pcl_112, pcl_15, pcl_22, pcl_25, pcl_26, pcl_33, pcl_44, pcl_50, pcl_59, pcl_8, pft_6_8, rOK_i, rOK_z, v_aload_0, v_getfield, v_goto, v_iaload, v_ic_ge, v_ic_le, v_iconst_0, v_iconst_1, v_if_le, v_iinc_2, v_iload_1, v_iload_2, v_invs, v_invv, v_ireturn, v_ishl, v_istore_1, v_istore_2, vcS_1_1, vcV_3_6, vgf_i, vgf_r, vgf_s, vc_d, rr_0, rr_1, csT_h, csT_t, csT_n, bI_0, bI_1, bI_z, bT, List.mem_cons, List.not_mem_nil, List.length_cons, List.length_nil, ite_not, ↓reduceIte, true_and, and_true, not_true_eq_false, not_false_eq_true, false_or, or_false, or_true, true_or, Nat.reduceAdd, Nat.reduceEqDiff, Nat.reduceBEq, Nat.reduceLeDiff, Nat.reduceLT, Nat.reduceSub, Int.reduceAdd, Int.reduceLE, Int.reduceLT, Int.reduceToNat, Int.reduceNeg, Int.reduceNatCast', reduceCtorEq, Int32.reduceOfInt, Int32.reduceOfNat, Int32.reduceToNatClampNeg, Int32.reduceToInt, i10, i01, nEM, n3, cl, nI_1]
      by_cases h2 : ordB M i = true
      · rw [if_pos h2] at h ⊢
        exact ih (i + 1) i N' (by omega) (by omega) hN' h
      · rw [if_neg h2] at h ⊢
        exact ih (i + 1) b N' (by omega) hb hN' h
    · rw [if_neg h1]
      rw [if_neg h1] at h
      exact ih (i + 1) b N (by omega) hb hN h
def pf_X7_most : PF := fun args M k => match args with
  | [.ref o] => (o = 59 ∧ IM (M 60)) ∧ (∀ N, NJ M N → k (.int (nI (msF (ordB M) (2 ^ (M 60 1).toNatClampNeg) 0 0))) N)
  | _ => False
theorem pe_X7_most {o : Nat} {M : Mem} {k : Value → Mem → Prop} : pf_X7_most [.ref o] M k = ((o = 59 ∧ IM (M 60)) ∧ (∀ N, NJ M N → k (.int (nI (msF (ordB M) (2 ^ (M 60 1).toNatClampNeg) 0 0))) N)) := rfl
theorem le_X7_most {o : Nat} : lent 3 ([.ref o] : List Value) = [.ref o, .retAddr 0, .retAddr 0] := rfl
set_option maxRecDepth 100000 in
set_option maxHeartbeats 4000000 in
theorem c_X7_most {d : Nat} (hd : 15 ≤ d) {o : Nat} {M : Mem} {k : Value → Mem → Prop} (h : (o = 59 ∧ IM (M 60)) ∧ (∀ N, NJ M N → k (.int (nI (msF (ordB M) (2 ^ (M 60 1).toNatClampNeg) 0 0))) N)) : CallP d 182 [.ref o] M k := by
  obtain ⟨hp, h⟩ := h
  obtain ⟨d, rfl⟩ : ∃ d', d = d' + 1 := ⟨d - 1, by omega⟩
  obtain ⟨rfl, q, hq, hn⟩ := hp
  rw [hn, nI_clamp (by omega)] at h
  · refine enterV (n := 80) [] [4] mI_182 (by decide) (Nat.le_of_ble_eq_true rfl) T_nil ?_
    rw [le_X7_most]
    simp only [dX7_most_0, dX7_most_1, dX7_most_2, dX7_most_3, dX7_most_4, dX7_most_5, dX7_most_6, dX7_most_7, dX7_most_10, dX7_most_11, dX7_most_12, dX7_most_13, dX7_most_16, dX7_most_17, dX7_most_20, dX7_most_21, dX7_most_24, dX7_most_27, dX7_most_28, dX7_most_29, dX7_most_30, dX7_most_33, dX7_most_34, dX7_most_37, dX7_most_40, dX7_most_41, dX7_most_44, dX7_most_45, dX7_most_46, dX7_most_49, dX7_most_52, dX7_most_53, cr_7_152, cr_7_207, fr_7_189, fr_7_9, al_10, al_11, al_12, al_13, al_14, al_16, al_17, al_18, al_19, al_2, al_20, al_21, al_23, al_24, al_27, al_28, al_29, al_3, al_30, al_31, al_32, al_34, al_36, al_37, al_38, al_39, al_4, al_40, al_41, al_42, al_43, al_45, al_46, al_47, al_48, al_49, al_5, al_52, al_53, al_54, al_55, al_56, al_57, al_58, al_6, al_60, al_61, al_62, al_63, al_64, al_65, al_66, al_67, al_69, al_7, al_70, al_71, al_72, al_73, al_9, cat_i, cat_l, cat_r, cat_u, gf_6_0_59, gf_6_8_59, pcl_0, pcl_1, pcl_100, pcl_101, pcl_102, pcl_103, pcl_104, pcl_105, pcl_106, pcl_107, pcl_108, pcl_109, pcl_110, pcl_111, pcl_112, pcl_15, pcl_22, pcl_25, pcl_26, pcl_33, pcl_44, pcl_50, pcl_59, pcl_8, pft_6_8, rOK_i, rOK_z, v_aload_0, v_getfield, v_goto, v_iaload, v_ic_ge, v_ic_le, v_iconst_0, v_iconst_1, v_if_le, v_iinc_2, v_iload_1, v_iload_2, v_invs, v_invv, v_ireturn, v_ishl, v_istore_1, v_istore_2, vcS_1_1, vcV_3_6, vgf_i, vgf_r, vgf_s, vc_d, rr_0, rr_1, csT_h, csT_t, csT_n, bI_0, bI_1, bI_z, bT, List.mem_cons, List.not_mem_nil, List.length_cons, List.length_nil, ite_not, ↓reduceIte, true_and, and_true, not_true_eq_false, not_false_eq_true, false_or, or_false, or_true, true_or, Nat.reduceAdd, Nat.reduceEqDiff, Nat.reduceBEq, Nat.reduceLeDiff, Nat.reduceLT, Nat.reduceSub, Int.reduceAdd, Int.reduceLE, Int.reduceLT, Int.reduceToNat, Int.reduceNeg, Int.reduceNatCast', reduceCtorEq, Int32.reduceOfInt, Int32.reduceOfNat, Int32.reduceToNatClampNeg, Int32.reduceToInt, i10, i01, nEM]
    exact lp_most (by omega) hq hn (2 ^ q) 0 0 M (by omega) (Nat.two_pow_pos q) NJ.rf h

theorem s_X7_most {d : Nat} (hd : 15 ≤ d) : Snd d 182 pf_X7_most := by
  intro args M k h
  unfold pf_X7_most at h
  split at h
  · exact c_X7_most hd h
  · exact h.elim
