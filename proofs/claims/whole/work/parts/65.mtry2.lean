/-! M: sets, crowds, what would be with other numbers -/
theorem kern : ∀ b, b < 4096 → 0 < b → popc (b &&& (b - 1)) + 1 = popc b := by
  have h : (List.range 4096).all (fun b => decide (0 < b → popc (b &&& (b - 1)) + 1 = popc b)) = true := by decide +kernel
  intro b hb
  exact of_decide_eq_true (List.all_eq_true.mp h b (List.mem_range.mpr hb))
theorem popc_0 : popc 0 = 0 := by decide +kernel
set_option maxRecDepth 100000 in
set_option maxHeartbeats 4000000 in
theorem lp_bits {d : Nat} {M : Mem} {k : Value → Mem → Prop} {s : Int32} : ∀ (n b c : Nat), b < n → b < 4096 → k (.int (nI (c + popc b))) M → WP (7, yX7_bits, cX7_bits, 3, (some .int)) (d + 1) k 4 [.int s, .int (nI c), .int (nI b)] [] M := by
  intro n
  induction n with
  | zero => intro b c h; omega
  | succ n ih =>
    intro b c hb h4 h
    refine goV (n := 80) [] [4] T_nil ?_
    cases b with
    | zero =>
      simp only [dX7_bits_0, dX7_bits_1, dX7_bits_2, dX7_bits_3, dX7_bits_4, dX7_bits_5, dX7_bits_8, dX7_bits_11, dX7_bits_12, dX7_bits_13, dX7_bits_14, dX7_bits_15, dX7_bits_16, dX7_bits_17, dX7_bits_20, dX7_bits_21, cat_i, cat_l, cat_r, cat_u, rOK_i, rOK_z, v_goto, v_iand, v_iconst_0, v_iconst_1, v_if_eq, v_iinc_1, v_iload_0, v_iload_1, v_iload_2, v_ireturn, v_istore_1, v_istore_2, v_isub, vc_d, rr_0, rr_1, csT_h, csT_t, csT_n, bI_0, bI_1, bI_z, bT, List.mem_cons, List.not_mem_nil, List.length_cons, List.length_nil, ite_not, ↓reduceIte, true_and, and_true, not_true_eq_false, not_false_eq_true, false_or, or_false, or_true, true_or, Nat.reduceAdd, Nat.reduceEqDiff, Nat.reduceBEq, Nat.reduceLeDiff, Nat.reduceLT, Nat.reduceSub, Int.reduceAdd, Int.reduceLE, Int.reduceLT, Int.reduceToNat, Int.reduceNeg, Int.reduceNatCast', reduceCtorEq, Int32.reduceOfInt, Int32.reduceOfNat, Int32.reduceToNatClampNeg, Int32.reduceToInt, i10, i01, nEM, show (nI 0 = 0) = True from by decide]
      rw [popc_0] at h
      exact h
    | succ b =>
      have e := kern (b + 1) h4 (by omega)
      rw [show b + 1 - 1 = b by omega] at e
      have hle : (b + 1) &&& b ≤ b := Nat.and_le_right
      have c1 : (nI (b + 1) = 0) = False := eq_false (nI_ne0 (by omega) (by omega))
      simp only [dX7_bits_0, dX7_bits_1, dX7_bits_2, dX7_bits_3, dX7_bits_4, dX7_bits_5, dX7_bits_8, dX7_bits_11, dX7_bits_12, dX7_bits_13, dX7_bits_14, dX7_bits_15, dX7_bits_16, dX7_bits_17, dX7_bits_20, dX7_bits_21, cat_i, cat_l, cat_r, cat_u, rOK_i, rOK_z, v_goto, v_iand, v_iconst_0, v_iconst_1, v_if_eq, v_iinc_1, v_iload_0, v_iload_1, v_iload_2, v_ireturn, v_istore_1, v_istore_2, v_isub, vc_d, rr_0, rr_1, csT_h, csT_t, csT_n, bI_0, bI_1, bI_z, bT, List.mem_cons, List.not_mem_nil, List.length_cons, List.length_nil, ite_not, ↓reduceIte, true_and, and_true, not_true_eq_false, not_false_eq_true, false_or, or_false, or_true, true_or, Nat.reduceAdd, Nat.reduceEqDiff, Nat.reduceBEq, Nat.reduceLeDiff, Nat.reduceLT, Nat.reduceSub, Int.reduceAdd, Int.reduceLE, Int.reduceLT, Int.reduceToNat, Int.reduceNeg, Int.reduceNatCast', reduceCtorEq, Int32.reduceOfInt, Int32.reduceOfNat, Int32.reduceToNatClampNeg, Int32.reduceToInt, i10, i01, nEM, c1, nI_pred, fa_and, nI_1]
      refine ih _ (c + 1) (by omega) (by omega) ?_
      rw [show c + 1 + popc ((b + 1) &&& b) = c + popc (b + 1) by omega]
      exact h
def pf_X7_bits : PF := fun args M k => match args with
  | [.int s] => (∃ b, b < 4096 ∧ s = nI b) ∧ (k (.int (nI (popc (s).toNatClampNeg))) M)
  | _ => False
theorem pe_X7_bits {s : Int32} {M : Mem} {k : Value → Mem → Prop} : pf_X7_bits [.int s] M k = ((∃ b, b < 4096 ∧ s = nI b) ∧ (k (.int (nI (popc (s).toNatClampNeg))) M)) := rfl
theorem le_X7_bits {s : Int32} : lent 3 ([.int s] : List Value) = [.int s, .retAddr 0, .retAddr 0] := rfl
set_option maxRecDepth 100000 in
set_option maxHeartbeats 4000000 in
theorem c_X7_bits {d : Nat} (hd : 1 ≤ d) {s : Int32} {M : Mem} {k : Value → Mem → Prop} (h : (∃ b, b < 4096 ∧ s = nI b) ∧ (k (.int (nI (popc (s).toNatClampNeg))) M)) : CallP d 132 [.int s] M k := by
  obtain ⟨hp, h⟩ := h
  obtain ⟨d, rfl⟩ : ∃ d', d = d' + 1 := ⟨d - 1, by omega⟩
  obtain ⟨b, hb, rfl⟩ := hp
  rw [nI_clamp (by omega)] at h
  refine enterV (n := 80) [] [4] mI_132 (by decide) (Nat.le_of_ble_eq_true rfl) T_nil ?_
  rw [le_X7_bits]
  simp only [dX7_bits_0, dX7_bits_1, dX7_bits_2, dX7_bits_3, dX7_bits_4, dX7_bits_5, dX7_bits_8, dX7_bits_11, dX7_bits_12, dX7_bits_13, dX7_bits_14, dX7_bits_15, dX7_bits_16, dX7_bits_17, dX7_bits_20, dX7_bits_21, cat_i, cat_l, cat_r, cat_u, rOK_i, rOK_z, v_goto, v_iand, v_iconst_0, v_iconst_1, v_if_eq, v_iinc_1, v_iload_0, v_iload_1, v_iload_2, v_ireturn, v_istore_1, v_istore_2, v_isub, vc_d, rr_0, rr_1, csT_h, csT_t, csT_n, bI_0, bI_1, bI_z, bT, List.mem_cons, List.not_mem_nil, List.length_cons, List.length_nil, ite_not, ↓reduceIte, true_and, and_true, not_true_eq_false, not_false_eq_true, false_or, or_false, or_true, true_or, Nat.reduceAdd, Nat.reduceEqDiff, Nat.reduceBEq, Nat.reduceLeDiff, Nat.reduceLT, Nat.reduceSub, Int.reduceAdd, Int.reduceLE, Int.reduceLT, Int.reduceToNat, Int.reduceNeg, Int.reduceNatCast', reduceCtorEq, Int32.reduceOfInt, Int32.reduceOfNat, Int32.reduceToNatClampNeg, Int32.reduceToInt, i10, i01, nEM]
  refine lp_bits (b + 1) b 0 (by omega) hb ?_
  rw [Nat.zero_add]
  exact h
theorem s_X7_bits {d : Nat} (hd : 1 ≤ d) : Snd d 132 pf_X7_bits := by
  intro args M k h
  unfold pf_X7_bits at h
  split at h
  · exact c_X7_bits hd h
  · exact h.elim
def pf_X7_isSet : PF := fun args M k => match args with
  | [.ref o, .int s] => (o = 59 ∧ IM (M 60)) ∧ (k (.int (bI (¬ s < 0 ∧ ¬ 1 <<< (M 60 1 &&& 31) ≤ s))) M)
  | _ => False
theorem pe_X7_isSet {o : Nat} {s : Int32} {M : Mem} {k : Value → Mem → Prop} : pf_X7_isSet [.ref o, .int s] M k = ((o = 59 ∧ IM (M 60)) ∧ (k (.int (bI (¬ s < 0 ∧ ¬ 1 <<< (M 60 1 &&& 31) ≤ s))) M)) := rfl
theorem le_X7_isSet {o : Nat} {s : Int32} : lent 2 ([.ref o, .int s] : List Value) = [.ref o, .int s] := rfl
set_option maxRecDepth 100000 in
set_option maxHeartbeats 4000000 in
theorem c_X7_isSet {d : Nat} (hd : 2 ≤ d) {o : Nat} {s : Int32} {M : Mem} {k : Value → Mem → Prop} (h : (o = 59 ∧ IM (M 60)) ∧ (k (.int (bI (¬ s < 0 ∧ ¬ 1 <<< (M 60 1 &&& 31) ≤ s))) M)) : CallP d 155 [.ref o, .int s] M k := by
  obtain ⟨hp, h⟩ := h
  obtain ⟨d, rfl⟩ : ∃ d', d = d' + 1 := ⟨d - 1, by omega⟩
  obtain ⟨rfl, q, hq, he⟩ := hp
  have h64 : 2 ^ q ≤ 64 := Nat.pow_le_pow_right (n := 2) (by decide) hq
  have h0 : 0 < 2 ^ q := Nat.two_pow_pos q
  have key : bI (¬ s < 0 ∧ ¬ 1 <<< (M 60 1 &&& 31) ≤ s) = bI (¬ s < 0 ∧ ¬ 1 <<< (M 60 1 &&& 31) - 1 < s) := by
    apply bI_c
    rw [he, sh1 q (by omega), show nI (2 ^ q) - 1 = nI (2 ^ q - 1) by rw [show 2 ^ q = (2 ^ q - 1) + 1 by omega, nI_pred]; rfl]
    constructor
    · rintro ⟨a, b⟩
      obtain ⟨j, hj, rfl⟩ := nI_of a
      rw [nI_leI (by omega) hj] at b
      exact ⟨a, fun z => by rw [nI_ltI (by omega) hj] at z; omega⟩
    · rintro ⟨a, b⟩
      obtain ⟨j, hj, rfl⟩ := nI_of a
      rw [nI_ltI (by omega) hj] at b
      exact ⟨a, fun z => by rw [nI_leI (by omega) hj] at z; omega⟩
  rw [key] at h
  · refine enterV (n := 80) [(126, pf_X7_within)] [] mI_155 (by decide) (Nat.le_of_ble_eq_true rfl) (T_cons (s_X7_within (by omega)) T_nil) ?_
    rw [le_X7_isSet]
    simp only [dX7_isSet_0, dX7_isSet_1, dX7_isSet_2, dX7_isSet_3, dX7_isSet_4, dX7_isSet_7, dX7_isSet_8, dX7_isSet_9, dX7_isSet_10, dX7_isSet_11, dX7_isSet_12, dX7_isSet_15, cr_7_88, fr_7_9, al_10, al_11, al_12, al_13, al_14, al_16, al_17, al_18, al_19, al_2, al_20, al_21, al_23, al_24, al_27, al_28, al_29, al_3, al_30, al_31, al_32, al_34, al_36, al_37, al_38, al_39, al_4, al_40, al_41, al_42, al_43, al_45, al_46, al_47, al_48, al_49, al_5, al_52, al_53, al_54, al_55, al_56, al_57, al_58, al_6, al_60, al_61, al_62, al_63, al_64, al_65, al_66, al_67, al_69, al_7, al_70, al_71, al_72, al_73, al_9, gf_6_0_59, rOK_i, rOK_z, v_aload_0, v_getfield, v_iaload, v_iconst_0, v_iconst_1, v_iload_1, v_invs, v_ireturn, v_ishl, v_isub, vcS_3_1, vgf_i, vgf_r, vgf_s, vc_d, rr_0, rr_1, csT_h, csT_t, csT_n, bI_0, bI_1, bI_z, bT, List.mem_cons, List.not_mem_nil, List.length_cons, List.length_nil, ite_not, ↓reduceIte, true_and, and_true, not_true_eq_false, not_false_eq_true, false_or, or_false, or_true, true_or, Nat.reduceAdd, Nat.reduceEqDiff, Nat.reduceBEq, Nat.reduceLeDiff, Nat.reduceLT, Nat.reduceSub, Int.reduceAdd, Int.reduceLE, Int.reduceLT, Int.reduceToNat, Int.reduceNeg, Int.reduceNatCast', reduceCtorEq, Int32.reduceOfInt, Int32.reduceOfNat, Int32.reduceToNatClampNeg, Int32.reduceToInt, i10, i01, nEM, pe_X7_within]
    exact h

theorem s_X7_isSet {d : Nat} (hd : 2 ≤ d) : Snd d 155 pf_X7_isSet := by
  intro args M k h
  unfold pf_X7_isSet at h
  split at h
  · exact c_X7_isSet hd h
  · exact h.elim
theorem isSet_n {r : Nat → Int32} {s : Int32} (hI : IM r) (h : ¬ s < 0 ∧ ¬ 1 <<< (r 1 &&& 31) ≤ s) : ∃ b q, q ≤ 6 ∧ r 1 = nI q ∧ b < 2 ^ q ∧ s = nI b := by
  obtain ⟨q, hq, he⟩ := hI
  obtain ⟨b, hb, rfl⟩ := nI_of h.1
  have h2 := h.2
  rw [he, sh1 q (by omega)] at h2
  have h64 : 2 ^ q ≤ 64 := Nat.pow_le_pow_right (n := 2) (by decide) hq
  rw [nI_leI (by omega) hb] at h2
  exact ⟨b, q, hq, he, by omega, rfl⟩
theorem crr_1 {r : Nat → Int32} {i : Nat} : crr r i 1 = r 1 := by
  have a : 26 ≤ wf i 3 := by unfold wf; omega
  have b : 26 ≤ wf i 1 := by unfold wf; omega
  unfold crr
  rw [un (by omega)]
  split
  · rw [un (by omega), rwQ_out (by omega)]
  · rw [un (by omega), rwQ_out (by omega)]
/-- a crowd crosses in the model -/
def cwM (s : Nat) : Nat → Nat → Nat → (Nat → Int32) → Nat × (Nat → Int32)
  | 0, _, c, r => (c, r)
  | n + 1, i, c, r => if s.testBit i then cwM s n (i + 1) (if (crx r i).1 < 12 then c + 1 else c) (crr r i) else cwM s n (i + 1) c r
set_option maxRecDepth 100000 in
set_option maxHeartbeats 4000000 in
theorem lp_crowdM {d : Nat} (hd : 6 ≤ d) {M : Mem} {k : Value → Mem → Prop} {q s : Nat} (hq : q ≤ 6) (hs : s < 64) : ∀ (n i c : Nat) (r : Nat → Int32), r 1 = nI q → i + n = q → k (.int (nI (cwM s n i c r).1)) (mrow M 60 (cwM s n i c r).2) → WP (7, yX7_crowd, cX7_crowd, 4, (some .int)) (d + 1) k 42 [.ref 59, .int (nI s), .int (nI c), .int (nI i)] [] (mrow M 60 r) := by
  intro n
  induction n with
  | zero =>
    intro i c r hr hi h
    have c1 : nI q ≤ nI i := nI_le (by omega) (by omega)
    refine goV (n := 80) [(131, pf_X7_has), (153, pf_X7_crosses)] [42] (T_cons (s_X7_has (by omega)) (T_cons (s_X7_crosses hd) T_nil)) ?_
    simp only [dX7_crowd_0, dX7_crowd_1, dX7_crowd_2, dX7_crowd_5, dX7_crowd_8, dX7_crowd_9, dX7_crowd_11, dX7_crowd_14, dX7_crowd_15, dX7_crowd_16, dX7_crowd_19, dX7_crowd_20, dX7_crowd_21, dX7_crowd_22, dX7_crowd_25, dX7_crowd_26, dX7_crowd_28, dX7_crowd_31, dX7_crowd_32, dX7_crowd_34, dX7_crowd_37, dX7_crowd_38, dX7_crowd_39, dX7_crowd_40, dX7_crowd_41, dX7_crowd_42, dX7_crowd_43, dX7_crowd_44, dX7_crowd_47, dX7_crowd_48, dX7_crowd_49, dX7_crowd_52, dX7_crowd_53, dX7_crowd_54, dX7_crowd_55, dX7_crowd_58, dX7_crowd_61, dX7_crowd_62, dX7_crowd_63, dX7_crowd_66, dX7_crowd_68, dX7_crowd_71, dX7_crowd_72, dX7_crowd_75, dX7_crowd_76, dX7_crowd_77, dX7_crowd_78, dX7_crowd_81, dX7_crowd_84, dX7_crowd_85, cr_7_146, cr_7_149, cr_7_152, cr_7_155, cr_7_75, fr_7_9, kr_7_144, kr_7_145, kr_7_69, skr_7_144, skr_7_145, skr_7_69, al_10, al_11, al_12, al_13, al_14, al_16, al_17, al_18, al_19, al_2, al_20, al_21, al_23, al_24, al_27, al_28, al_29, al_3, al_30, al_31, al_32, al_34, al_36, al_37, al_38, al_39, al_4, al_40, al_41, al_42, al_43, al_45, al_46, al_47, al_48, al_49, al_5, al_52, al_53, al_54, al_55, al_56, al_57, al_58, al_6, al_60, al_61, al_62, al_63, al_64, al_65, al_66, al_67, al_69, al_7, al_70, al_71, al_72, al_73, al_9, cat_i, cat_l, cat_r, cat_u, gf_6_0_59, pcl_0, pcl_1, pcl_100, pcl_101, pcl_102, pcl_103, pcl_104, pcl_105, pcl_106, pcl_107, pcl_108, pcl_109, pcl_110, pcl_111, pcl_112, pcl_15, pcl_22, pcl_25, pcl_26, pcl_33, pcl_44, pcl_50, pcl_59, pcl_8, rOK_i, rOK_z, v_aload_0, v_bipush_12, v_getfield, v_goto, v_iadd, v_iaload, v_ic_ge, v_ic_le, v_iconst_0, v_iconst_1, v_if_eq, v_if_ne, v_iinc_3, v_iload_1, v_iload_2, v_iload_3, v_invs, v_invv, v_ireturn, v_istore_2, v_istore_3, v_ldc, vcS_1_1, vcS_2_1, vcV_2_6, vgf_i, vgf_r, vgf_s, vld_i, vld_s, vc_d, rr_0, rr_1, csT_h, csT_t, csT_n, bI_0, bI_1, bI_z, bT, List.mem_cons, List.not_mem_nil, List.length_cons, List.length_nil, ite_not, ↓reduceIte, true_and, and_true, not_true_eq_false, not_false_eq_true, false_or, or_false, or_true, true_or, Nat.reduceAdd, Nat.reduceEqDiff, Nat.reduceBEq, Nat.reduceLeDiff, Nat.reduceLT, Nat.reduceSub, Int.reduceAdd, Int.reduceLE, Int.reduceLT, Int.reduceToNat, Int.reduceNeg, Int.reduceNatCast', reduceCtorEq, Int32.reduceOfInt, Int32.reduceOfNat, Int32.reduceToNatClampNeg, Int32.reduceToInt, i10, i01, nEM, mrow_s, hr, c1]
    exact h
  | succ n ih =>
    intro i c r hr hi h
    have c1 : ¬ nI q ≤ nI i := nI_ge (by omega) (by omega)
    have c3 : (nI i).toNatClampNeg = i := nI_clamp (by omega)
    have ho := nOK (show i < 6 by omega)
    have c0 : nI c + 0 = nI c := Int32.add_zero _
    refine goV (n := 80) [(131, pf_X7_has), (153, pf_X7_crosses)] [42] (T_cons (s_X7_has (by omega)) (T_cons (s_X7_crosses hd) T_nil)) ?_
    simp only [dX7_crowd_0, dX7_crowd_1, dX7_crowd_2, dX7_crowd_5, dX7_crowd_8, dX7_crowd_9, dX7_crowd_11, dX7_crowd_14, dX7_crowd_15, dX7_crowd_16, dX7_crowd_19, dX7_crowd_20, dX7_crowd_21, dX7_crowd_22, dX7_crowd_25, dX7_crowd_26, dX7_crowd_28, dX7_crowd_31, dX7_crowd_32, dX7_crowd_34, dX7_crowd_37, dX7_crowd_38, dX7_crowd_39, dX7_crowd_40, dX7_crowd_41, dX7_crowd_42, dX7_crowd_43, dX7_crowd_44, dX7_crowd_47, dX7_crowd_48, dX7_crowd_49, dX7_crowd_52, dX7_crowd_53, dX7_crowd_54, dX7_crowd_55, dX7_crowd_58, dX7_crowd_61, dX7_crowd_62, dX7_crowd_63, dX7_crowd_66, dX7_crowd_68, dX7_crowd_71, dX7_crowd_72, dX7_crowd_75, dX7_crowd_76, dX7_crowd_77, dX7_crowd_78, dX7_crowd_81, dX7_crowd_84, dX7_crowd_85, cr_7_146, cr_7_149, cr_7_152, cr_7_155, cr_7_75, fr_7_9, kr_7_144, kr_7_145, kr_7_69, skr_7_144, skr_7_145, skr_7_69, al_10, al_11, al_12, al_13, al_14, al_16, al_17, al_18, al_19, al_2, al_20, al_21, al_23, al_24, al_27, al_28, al_29, al_3, al_30, al_31, al_32, al_34, al_36, al_37, al_38, al_39, al_4, al_40, al_41, al_42, al_43, al_45, al_46, al_47, al_48, al_49, al_5, al_52, al_53, al_54, al_55, al_56, al_57, al_58, al_6, al_60, al_61, al_62, al_63, al_64, al_65, al_66, al_67, al_69, al_7, al_70, al_71, al_72, al_73, al_9, cat_i, cat_l, cat_r, cat_u, gf_6_0_59, pcl_0, pcl_1, pcl_100, pcl_101, pcl_102, pcl_103, pcl_104, pcl_105, pcl_106, pcl_107, pcl_108, pcl_109, pcl_110, pcl_111, pcl_112, pcl_15, pcl_22, pcl_25, pcl_26, pcl_33, pcl_44, pcl_50, pcl_59, pcl_8, rOK_i, rOK_z, v_aload_0, v_bipush_12, v_getfield, v_goto, v_iadd, v_iaload, v_ic_ge, v_ic_le, v_iconst_0, v_iconst_1, v_if_eq, v_if_ne, v_iinc_3, v_iload_1, v_iload_2, v_iload_3, v_invs, v_invv, v_ireturn, v_istore_2, v_istore_3, v_ldc, vcS_1_1, vcS_2_1, vcV_2_6, vgf_i, vgf_r, vgf_s, vld_i, vld_s, vc_d, rr_0, rr_1, csT_h, csT_t, csT_n, bI_0, bI_1, bI_z, bT, List.mem_cons, List.not_mem_nil, List.length_cons, List.length_nil, ite_not, ↓reduceIte, true_and, and_true, not_true_eq_false, not_false_eq_true, false_or, or_false, or_true, true_or, Nat.reduceAdd, Nat.reduceEqDiff, Nat.reduceBEq, Nat.reduceLeDiff, Nat.reduceLT, Nat.reduceSub, Int.reduceAdd, Int.reduceLE, Int.reduceLT, Int.reduceToNat, Int.reduceNeg, Int.reduceNatCast', reduceCtorEq, Int32.reduceOfInt, Int32.reduceOfNat, Int32.reduceToNatClampNeg, Int32.reduceToInt, i10, i01, nEM, pe_X7_has, pe_X7_crosses, mrow_s, mrow_mrow, hr, c0, c1, c3, ho, nI_1, isin0 (show s < 2 ^ 31 by omega) (show i < 31 by omega), ge12 crx_le, Classical.not_not]
    rw [cwM] at h
    by_cases hb : s.testBit i = true
    · rw [if_neg (by rw [hb]; decide)]
      rw [if_pos hb] at h
      by_cases hlt : (crx r i).1 < 12
      · rw [if_pos hlt]
        rw [if_pos hlt] at h
        exact ih (i + 1) (c + 1) _ (by rw [crr_1]; exact hr) (by omega) h
      · rw [if_neg hlt]
        rw [if_neg hlt] at h
        exact ih (i + 1) c _ (by rw [crr_1]; exact hr) (by omega) h
    · rw [if_pos (by simpa using hb)]
      rw [if_neg hb] at h
      exact ih (i + 1) c r hr (by omega) h
def pf_X7_crowd : PF := fun args M k => match args with
  | [.ref o, .int s] => (o = 59 ∧ IM (M 60)) ∧ (if ¬ s < 0 ∧ ¬ 1 <<< (M 60 1 &&& 31) ≤ s then (if M 60 0 + nI (popc (s).toNatClampNeg) ≤ 99999 then k (.int (nI (cwM (s).toNatClampNeg (M 60 1).toNatClampNeg 0 0 (M 60)).1)) (mrow M 60 (cwM (s).toNatClampNeg (M 60 1).toNatClampNeg 0 0 (M 60)).2) else k (.int (-1000005)) (fndM M 4)) else k (.int (-1000001)) (fndM M 0))
  | _ => False
theorem pe_X7_crowd {o : Nat} {s : Int32} {M : Mem} {k : Value → Mem → Prop} : pf_X7_crowd [.ref o, .int s] M k = ((o = 59 ∧ IM (M 60)) ∧ (if ¬ s < 0 ∧ ¬ 1 <<< (M 60 1 &&& 31) ≤ s then (if M 60 0 + nI (popc (s).toNatClampNeg) ≤ 99999 then k (.int (nI (cwM (s).toNatClampNeg (M 60 1).toNatClampNeg 0 0 (M 60)).1)) (mrow M 60 (cwM (s).toNatClampNeg (M 60 1).toNatClampNeg 0 0 (M 60)).2) else k (.int (-1000005)) (fndM M 4)) else k (.int (-1000001)) (fndM M 0))) := rfl
theorem le_X7_crowd {o : Nat} {s : Int32} : lent 4 ([.ref o, .int s] : List Value) = [.ref o, .int s, .retAddr 0, .retAddr 0] := rfl
set_option maxRecDepth 100000 in
set_option maxHeartbeats 4000000 in
theorem c_X7_crowd {d : Nat} (hd : 7 ≤ d) {o : Nat} {s : Int32} {M : Mem} {k : Value → Mem → Prop} (h : (o = 59 ∧ IM (M 60)) ∧ (if ¬ s < 0 ∧ ¬ 1 <<< (M 60 1 &&& 31) ≤ s then (if M 60 0 + nI (popc (s).toNatClampNeg) ≤ 99999 then k (.int (nI (cwM (s).toNatClampNeg (M 60 1).toNatClampNeg 0 0 (M 60)).1)) (mrow M 60 (cwM (s).toNatClampNeg (M 60 1).toNatClampNeg 0 0 (M 60)).2) else k (.int (-1000005)) (fndM M 4)) else k (.int (-1000001)) (fndM M 0))) : CallP d 156 [.ref o, .int s] M k := by
  obtain ⟨hp, h⟩ := h
  obtain ⟨d, rfl⟩ : ∃ d', d = d' + 1 := ⟨d - 1, by omega⟩
  obtain ⟨rfl, hI⟩ := hp
  · refine enterV (n := 80) [(155, pf_X7_isSet), (132, pf_X7_bits), (125, pf_X7_finding)] [42] mI_156 (by decide) (Nat.le_of_ble_eq_true rfl) (T_cons (s_X7_isSet (by omega)) (T_cons (s_X7_bits (by omega)) (T_cons (s_X7_finding (by omega)) T_nil))) ?_
    rw [le_X7_crowd]
    simp only [dX7_crowd_0, dX7_crowd_1, dX7_crowd_2, dX7_crowd_5, dX7_crowd_8, dX7_crowd_9, dX7_crowd_11, dX7_crowd_14, dX7_crowd_15, dX7_crowd_16, dX7_crowd_19, dX7_crowd_20, dX7_crowd_21, dX7_crowd_22, dX7_crowd_25, dX7_crowd_26, dX7_crowd_28, dX7_crowd_31, dX7_crowd_32, dX7_crowd_34, dX7_crowd_37, dX7_crowd_38, dX7_crowd_39, dX7_crowd_40, dX7_crowd_41, dX7_crowd_42, dX7_crowd_43, dX7_crowd_44, dX7_crowd_47, dX7_crowd_48, dX7_crowd_49, dX7_crowd_52, dX7_crowd_53, dX7_crowd_54, dX7_crowd_55, dX7_crowd_58, dX7_crowd_61, dX7_crowd_62, dX7_crowd_63, dX7_crowd_66, dX7_crowd_68, dX7_crowd_71, dX7_crowd_72, dX7_crowd_75, dX7_crowd_76, dX7_crowd_77, dX7_crowd_78, dX7_crowd_81, dX7_crowd_84, dX7_crowd_85, cr_7_146, cr_7_149, cr_7_152, cr_7_155, cr_7_75, fr_7_9, kr_7_144, kr_7_145, kr_7_69, skr_7_144, skr_7_145, skr_7_69, al_10, al_11, al_12, al_13, al_14, al_16, al_17, al_18, al_19, al_2, al_20, al_21, al_23, al_24, al_27, al_28, al_29, al_3, al_30, al_31, al_32, al_34, al_36, al_37, al_38, al_39, al_4, al_40, al_41, al_42, al_43, al_45, al_46, al_47, al_48, al_49, al_5, al_52, al_53, al_54, al_55, al_56, al_57, al_58, al_6, al_60, al_61, al_62, al_63, al_64, al_65, al_66, al_67, al_69, al_7, al_70, al_71, al_72, al_73, al_9, cat_i, cat_l, cat_r, cat_u, gf_6_0_59, pcl_0, pcl_1, pcl_100, pcl_101, pcl_102, pcl_103, pcl_104, pcl_105, pcl_106, pcl_107, pcl_108, pcl_109, pcl_110, pcl_111, pcl_112, pcl_15, pcl_22, pcl_25, pcl_26, pcl_33, pcl_44, pcl_50, pcl_59, pcl_8, rOK_i, rOK_z, v_aload_0, v_bipush_12, v_getfield, v_goto, v_iadd, v_iaload, v_ic_ge, v_ic_le, v_iconst_0, v_iconst_1, v_if_eq, v_if_ne, v_iinc_3, v_iload_1, v_iload_2, v_iload_3, v_invs, v_invv, v_ireturn, v_istore_2, v_istore_3, v_ldc, vcS_1_1, vcS_2_1, vcV_2_6, vgf_i, vgf_r, vgf_s, vld_i, vld_s, vc_d, rr_0, rr_1, csT_h, csT_t, csT_n, bI_0, bI_1, bI_z, bT, List.mem_cons, List.not_mem_nil, List.length_cons, List.length_nil, ite_not, ↓reduceIte, true_and, and_true, not_true_eq_false, not_false_eq_true, false_or, or_false, or_true, true_or, Nat.reduceAdd, Nat.reduceEqDiff, Nat.reduceBEq, Nat.reduceLeDiff, Nat.reduceLT, Nat.reduceSub, Int.reduceAdd, Int.reduceLE, Int.reduceLT, Int.reduceToNat, Int.reduceNeg, Int.reduceNatCast', reduceCtorEq, Int32.reduceOfInt, Int32.reduceOfNat, Int32.reduceToNatClampNeg, Int32.reduceToInt, i10, i01, nEM, pe_X7_isSet, pe_X7_bits, fn_0, fn_1, fn_2, fn_3, fn_4, fn_5, fn_6, hI]
    by_cases h1 : ¬ s < 0 ∧ ¬ 1 <<< (M 60 1 &&& 31) ≤ s
    · rw [if_pos h1] at h ⊢
      obtain ⟨b, q, hq, he, hb, rfl⟩ := isSet_n hI h1
      have h64 : b < 64 := Nat.lt_of_lt_of_le hb (Nat.pow_le_pow_right (n := 2) (by decide) hq)
      rw [he, nI_clamp (show b < 2 ^ 31 by omega), nI_clamp (show q < 2 ^ 31 by omega)] at h
      rw [nI_clamp (show b < 2 ^ 31 by omega)]
      refine ⟨⟨b, by omega, rfl⟩, ?_⟩
      by_cases h2 : M 60 0 + nI (popc b) ≤ 99999
      · rw [if_pos h2] at h ⊢
        have := lp_crowdM (d := d) (by omega) (M := M) (k := k) hq h64 q 0 0 (M 60) he (by omega) h
        rw [mrow_self] at this
        exact this
      · rw [if_neg h2] at h ⊢
        exact h
    · rw [if_neg h1] at h ⊢
      exact h

theorem s_X7_crowd {d : Nat} (hd : 7 ≤ d) : Snd d 156 pf_X7_crowd := by
  intro args M k h
  unfold pf_X7_crowd at h
  split at h
  · exact c_X7_crowd hd h
  · exact h.elim
set_option maxRecDepth 100000 in
set_option maxHeartbeats 4000000 in
theorem lp_crossing {d : Nat} (hd : 7 ≤ d) {M : Mem} {k : Value → Mem → Prop} {i p : Nat} (hi : i < 6) (hp : p < 50) : ∀ (n t : Nat) (s : Int32) (a : Nat → Int32) (v : Int32), t + n = 100 → (∀ a, k (.int (cntF (fun v => ¬ (crx (upd (M 60) p (nI v)) i).1 < 12) n t s)) (j2 M a (M 60))) → WP (7, yX7_crossing, cX7_crossing, 7, (some .int)) (d + 1) k 14 [.ref 59, .int (nI i), .int (nI p), .int 100, .int (M 60 p), .int s, .int (nI t)] [] (j2 M a (upd (M 60) p v)) := by
  have ci : (nI i).toNatClampNeg = i := nI_clamp (by omega)
  have cp : (nI p).toNatClampNeg = p := nI_clamp (by omega)
  have cq : (nI p).toInt = (p : Int) := nI_toInt (by omega)
  have ho := nOK hi
  intro n
  induction n with
  | zero =>
    intro t s a v ht h
    have : t = 100 := by omega
    subst this
    refine goV (n := 80) [(159, pf_X7_wouldCross)] [14] (T_cons (s_X7_wouldCross hd) T_nil) ?_
    simp only [dX7_crossing_0, dX7_crossing_1, dX7_crossing_4, dX7_crossing_5, dX7_crossing_6, dX7_crossing_8, dX7_crossing_9, dX7_crossing_11, dX7_crossing_12, dX7_crossing_14, dX7_crossing_16, dX7_crossing_17, dX7_crossing_20, dX7_crossing_21, dX7_crossing_24, dX7_crossing_25, dX7_crossing_27, dX7_crossing_28, dX7_crossing_30, dX7_crossing_31, dX7_crossing_32, dX7_crossing_35, dX7_crossing_37, dX7_crossing_40, dX7_crossing_41, dX7_crossing_44, dX7_crossing_45, dX7_crossing_46, dX7_crossing_48, dX7_crossing_51, dX7_crossing_54, dX7_crossing_55, dX7_crossing_58, dX7_crossing_59, dX7_crossing_61, dX7_crossing_62, dX7_crossing_64, cr_7_161, fr_7_9, al_10, al_11, al_12, al_13, al_14, al_16, al_17, al_18, al_19, al_2, al_20, al_21, al_23, al_24, al_27, al_28, al_29, al_3, al_30, al_31, al_32, al_34, al_36, al_37, al_38, al_39, al_4, al_40, al_41, al_42, al_43, al_45, al_46, al_47, al_48, al_49, al_5, al_52, al_53, al_54, al_55, al_56, al_57, al_58, al_6, al_60, al_61, al_62, al_63, al_64, al_65, al_66, al_67, al_69, al_7, al_70, al_71, al_72, al_73, al_9, cat_i, cat_l, cat_r, cat_u, gf_6_0_59, pcl_0, pcl_1, pcl_100, pcl_101, pcl_102, pcl_103, pcl_104, pcl_105, pcl_106, pcl_107, pcl_108, pcl_109, pcl_110, pcl_111, pcl_112, pcl_15, pcl_22, pcl_25, pcl_26, pcl_33, pcl_44, pcl_50, pcl_59, pcl_8, rOK_i, rOK_z, v_aload_0, v_bipush_12, v_getfield, v_goto, v_iadd, v_iaload, v_iastore, v_ic_ge, v_ic_ne, v_iconst_0, v_iconst_1, v_iinc_6, v_iload_1, v_iload_2, v_iload_3, v_iload_4, v_iload_5, v_iload_6, v_invv, v_ireturn, v_istore_4, v_istore_5, v_istore_6, vcV_2_6, vgf_i, vgf_r, vgf_s, vc_d, rr_0, rr_1, csT_h, csT_t, csT_n, bI_0, bI_1, bI_z, bT, List.mem_cons, List.not_mem_nil, List.length_cons, List.length_nil, ite_not, ↓reduceIte, true_and, and_true, not_true_eq_false, not_false_eq_true, false_or, or_false, or_true, true_or, Nat.reduceAdd, Nat.reduceEqDiff, Nat.reduceBEq, Nat.reduceLeDiff, Nat.reduceLT, Nat.reduceSub, Int.reduceAdd, Int.reduceLE, Int.reduceLT, Int.reduceToNat, Int.reduceNeg, Int.reduceNatCast', reduceCtorEq, Int32.reduceOfInt, Int32.reduceOfNat, Int32.reduceToNatClampNeg, Int32.reduceToInt, i10, i01, nEM, show ((100 : Int32) ≤ nI 100) = True from by decide, cp, cq, j2_s, upd_upd, upd_self]
    exact ⟨by omega, h a⟩
  | succ n ih =>
    intro t s a v ht h
    have c1 : ¬ (100 : Int32) ≤ nI t := nI_ge (b := 100) (by omega) (by decide)
    have c0 : s + 0 = s := Int32.add_zero _
    refine goV (n := 80) [(159, pf_X7_wouldCross)] [14] (T_cons (s_X7_wouldCross hd) T_nil) ?_
    simp only [dX7_crossing_0, dX7_crossing_1, dX7_crossing_4, dX7_crossing_5, dX7_crossing_6, dX7_crossing_8, dX7_crossing_9, dX7_crossing_11, dX7_crossing_12, dX7_crossing_14, dX7_crossing_16, dX7_crossing_17, dX7_crossing_20, dX7_crossing_21, dX7_crossing_24, dX7_crossing_25, dX7_crossing_27, dX7_crossing_28, dX7_crossing_30, dX7_crossing_31, dX7_crossing_32, dX7_crossing_35, dX7_crossing_37, dX7_crossing_40, dX7_crossing_41, dX7_crossing_44, dX7_crossing_45, dX7_crossing_46, dX7_crossing_48, dX7_crossing_51, dX7_crossing_54, dX7_crossing_55, dX7_crossing_58, dX7_crossing_59, dX7_crossing_61, dX7_crossing_62, dX7_crossing_64, cr_7_161, fr_7_9, al_10, al_11, al_12, al_13, al_14, al_16, al_17, al_18, al_19, al_2, al_20, al_21, al_23, al_24, al_27, al_28, al_29, al_3, al_30, al_31, al_32, al_34, al_36, al_37, al_38, al_39, al_4, al_40, al_41, al_42, al_43, al_45, al_46, al_47, al_48, al_49, al_5, al_52, al_53, al_54, al_55, al_56, al_57, al_58, al_6, al_60, al_61, al_62, al_63, al_64, al_65, al_66, al_67, al_69, al_7, al_70, al_71, al_72, al_73, al_9, cat_i, cat_l, cat_r, cat_u, gf_6_0_59, pcl_0, pcl_1, pcl_100, pcl_101, pcl_102, pcl_103, pcl_104, pcl_105, pcl_106, pcl_107, pcl_108, pcl_109, pcl_110, pcl_111, pcl_112, pcl_15, pcl_22, pcl_25, pcl_26, pcl_33, pcl_44, pcl_50, pcl_59, pcl_8, rOK_i, rOK_z, v_aload_0, v_bipush_12, v_getfield, v_goto, v_iadd, v_iaload, v_iastore, v_ic_ge, v_ic_ne, v_iconst_0, v_iconst_1, v_iinc_6, v_iload_1, v_iload_2, v_iload_3, v_iload_4, v_iload_5, v_iload_6, v_invv, v_ireturn, v_istore_4, v_istore_5, v_istore_6, vcV_2_6, vgf_i, vgf_r, vgf_s, vc_d, rr_0, rr_1, csT_h, csT_t, csT_n, bI_0, bI_1, bI_z, bT, List.mem_cons, List.not_mem_nil, List.length_cons, List.length_nil, ite_not, ↓reduceIte, true_and, and_true, not_true_eq_false, not_false_eq_true, false_or, or_false, or_true, true_or, Nat.reduceAdd, Nat.reduceEqDiff, Nat.reduceBEq, Nat.reduceLeDiff, Nat.reduceLT, Nat.reduceSub, Int.reduceAdd, Int.reduceLE, Int.reduceLT, Int.reduceToNat, Int.reduceNeg, Int.reduceNatCast', reduceCtorEq, Int32.reduceOfInt, Int32.reduceOfNat, Int32.reduceToNatClampNeg, Int32.reduceToInt, i10, i01, nEM, pe_X7_wouldCross, c1, cp, cq, ci, ho, c0, nI_1, j2_s, j2_60, j2_j2, upd_upd, eq12 crx_le]
    refine ⟨by omega, fun a' => ?_⟩
    by_cases hc : (crx (upd (M 60) p (nI t)) i).1 < 12
    · rw [if_pos hc]
      exact ih (t + 1) _ _ _ (by omega) (fun a => by have := h a; rw [cntF, if_neg (fun z => z hc)] at this; exact this)
    · rw [if_neg hc]
      exact ih (t + 1) _ _ _ (by omega) (fun a => by have := h a; rw [cntF, if_pos hc] at this; exact this)
theorem p50_n {p : Int32} (h1 : ¬ p < 0) (h2 : ¬ 50 ≤ p) : ∃ t, t < 50 ∧ p = nI t := by
  obtain ⟨i, hi, e⟩ := nI_of h1
  subst e
  rw [show (50 : Int32) = nI 50 from rfl, nI_leI (by omega) hi] at h2
  exact ⟨i, by omega, rfl⟩
theorem j2_0 {M : Mem} {p : Nat} : j2 M (M 62) (upd (M 60) p (M 60 p)) = M := by
  rw [upd_self, j2_self]
def pf_X7_crossing : PF := fun args M k => match args with
  | [.ref o, .int w, .int p, .int n] => (o = 59 ∧ wOK w ∧ (¬ p < 0 ∧ ¬ 50 ≤ p) ∧ n = 100) ∧ (∀ a, k (.int (cntF (fun v => ¬ (crx (upd (M 60) (p).toNatClampNeg (nI v)) (w).toNatClampNeg).1 < 12) 100 0 0)) (j2 M a (M 60)))
  | _ => False
theorem pe_X7_crossing {o : Nat} {w : Int32} {p : Int32} {n : Int32} {M : Mem} {k : Value → Mem → Prop} : pf_X7_crossing [.ref o, .int w, .int p, .int n] M k = ((o = 59 ∧ wOK w ∧ (¬ p < 0 ∧ ¬ 50 ≤ p) ∧ n = 100) ∧ (∀ a, k (.int (cntF (fun v => ¬ (crx (upd (M 60) (p).toNatClampNeg (nI v)) (w).toNatClampNeg).1 < 12) 100 0 0)) (j2 M a (M 60)))) := rfl
theorem le_X7_crossing {o : Nat} {w : Int32} {p : Int32} {n : Int32} : lent 7 ([.ref o, .int w, .int p, .int n] : List Value) = [.ref o, .int w, .int p, .int n, .retAddr 0, .retAddr 0, .retAddr 0] := rfl
set_option maxRecDepth 100000 in
set_option maxHeartbeats 4000000 in
theorem c_X7_crossing {d : Nat} (hd : 8 ≤ d) {o : Nat} {w : Int32} {p : Int32} {n : Int32} {M : Mem} {k : Value → Mem → Prop} (h : (o = 59 ∧ wOK w ∧ (¬ p < 0 ∧ ¬ 50 ≤ p) ∧ n = 100) ∧ (∀ a, k (.int (cntF (fun v => ¬ (crx (upd (M 60) (p).toNatClampNeg (nI v)) (w).toNatClampNeg).1 < 12) 100 0 0)) (j2 M a (M 60)))) : CallP d 169 [.ref o, .int w, .int p, .int n] M k := by
  obtain ⟨hp, h⟩ := h
  obtain ⟨d, rfl⟩ : ∃ d', d = d' + 1 := ⟨d - 1, by omega⟩
  obtain ⟨rfl, hw, h1, rfl⟩ := hp
  obtain ⟨i, hi, rfl⟩ := wOK_n hw
  obtain ⟨t, ht, rfl⟩ := p50_n h1.1 h1.2
  have cp : (nI t).toNatClampNeg = t := nI_clamp (by omega)
  rw [nI_clamp (show i < 2 ^ 31 by omega), cp] at h
  refine enterV (n := 80) [] [14] mI_169 (by decide) (Nat.le_of_ble_eq_true rfl) T_nil ?_
  rw [show lent 7 ([.ref 59, .int (nI i), .int (nI t), .int 100] : List Value) = [.ref 59, .int (nI i), .int (nI t), .int 100, .retAddr 0, .retAddr 0, .retAddr 0] from rfl]
  simp only [dX7_crossing_0, dX7_crossing_1, dX7_crossing_4, dX7_crossing_5, dX7_crossing_6, dX7_crossing_8, dX7_crossing_9, dX7_crossing_11, dX7_crossing_12, dX7_crossing_14, dX7_crossing_16, dX7_crossing_17, dX7_crossing_20, dX7_crossing_21, dX7_crossing_24, dX7_crossing_25, dX7_crossing_27, dX7_crossing_28, dX7_crossing_30, dX7_crossing_31, dX7_crossing_32, dX7_crossing_35, dX7_crossing_37, dX7_crossing_40, dX7_crossing_41, dX7_crossing_44, dX7_crossing_45, dX7_crossing_46, dX7_crossing_48, dX7_crossing_51, dX7_crossing_54, dX7_crossing_55, dX7_crossing_58, dX7_crossing_59, dX7_crossing_61, dX7_crossing_62, dX7_crossing_64, cr_7_161, fr_7_9, al_10, al_11, al_12, al_13, al_14, al_16, al_17, al_18, al_19, al_2, al_20, al_21, al_23, al_24, al_27, al_28, al_29, al_3, al_30, al_31, al_32, al_34, al_36, al_37, al_38, al_39, al_4, al_40, al_41, al_42, al_43, al_45, al_46, al_47, al_48, al_49, al_5, al_52, al_53, al_54, al_55, al_56, al_57, al_58, al_6, al_60, al_61, al_62, al_63, al_64, al_65, al_66, al_67, al_69, al_7, al_70, al_71, al_72, al_73, al_9, cat_i, cat_l, cat_r, cat_u, gf_6_0_59, pcl_0, pcl_1, pcl_100, pcl_101, pcl_102, pcl_103, pcl_104, pcl_105, pcl_106, pcl_107, pcl_108, pcl_109, pcl_110, pcl_111, pcl_112, pcl_15, pcl_22, pcl_25, pcl_26, pcl_33, pcl_44, pcl_50, pcl_59, pcl_8, rOK_i, rOK_z, v_aload_0, v_bipush_12, v_getfield, v_goto, v_iadd, v_iaload, v_iastore, v_ic_ge, v_ic_ne, v_iconst_0, v_iconst_1, v_iinc_6, v_iload_1, v_iload_2, v_iload_3, v_iload_4, v_iload_5, v_iload_6, v_invv, v_ireturn, v_istore_4, v_istore_5, v_istore_6, vcV_2_6, vgf_i, vgf_r, vgf_s, vc_d, rr_0, rr_1, csT_h, csT_t, csT_n, bI_0, bI_1, bI_z, bT, List.mem_cons, List.not_mem_nil, List.length_cons, List.length_nil, ite_not, ↓reduceIte, true_and, and_true, not_true_eq_false, not_false_eq_true, false_or, or_false, or_true, true_or, Nat.reduceAdd, Nat.reduceEqDiff, Nat.reduceBEq, Nat.reduceLeDiff, Nat.reduceLT, Nat.reduceSub, Int.reduceAdd, Int.reduceLE, Int.reduceLT, Int.reduceToNat, Int.reduceNeg, Int.reduceNatCast', reduceCtorEq, Int32.reduceOfInt, Int32.reduceOfNat, Int32.reduceToNatClampNeg, Int32.reduceToInt, i10, i01, nEM, cp]
  refine ⟨bd h1.1 h1.2 rfl, ?_⟩
  have := lp_crossing (d := d) (by omega) (M := M) (k := k) hi ht 100 0 0 (M 62) (M 60 t) rfl h
  rw [j2_0] at this
  exact this
theorem s_X7_crossing {d : Nat} (hd : 8 ≤ d) : Snd d 169 pf_X7_crossing := by
  intro args M k h
  unfold pf_X7_crossing at h
  split at h
  · exact c_X7_crossing hd h
  · exact h.elim
set_option maxRecDepth 100000 in
set_option maxHeartbeats 4000000 in
theorem lp_leastCrossing {d : Nat} (hd : 7 ≤ d) {M : Mem} {k : Value → Mem → Prop} {i p : Nat} (hi : i < 6) (hp : p < 50) : ∀ (t : Nat) (a : Nat → Int32) (v : Int32), t ≤ 100 → (∀ a, k (.int (lstF (fun v => ¬ (crx (upd (M 60) p (nI v)) i).1 < 12) 100 0)) (j2 M a (M 60))) → WP (7, yX7_leastCrossing, cX7_leastCrossing, 7, (some .int)) (d + 1) k 16 [.ref 59, .int (nI i), .int (nI p), .int 100, .int (M 60 p), .int (lstF (fun v => ¬ (crx (upd (M 60) p (nI v)) i).1 < 12) (100 - t) t), .int (nI t - 1)] [] (j2 M a (upd (M 60) p v)) := by
  have ci : (nI i).toNatClampNeg = i := nI_clamp (by omega)
  have cp : (nI p).toNatClampNeg = p := nI_clamp (by omega)
  have cq : (nI p).toInt = (p : Int) := nI_toInt (by omega)
  have ho := nOK hi
  intro t
  induction t with
  | zero =>
    intro a v ht h
    refine goV (n := 80) [(159, pf_X7_wouldCross)] [16] (T_cons (s_X7_wouldCross hd) T_nil) ?_
    simp only [dX7_leastCrossing_0, dX7_leastCrossing_1, dX7_leastCrossing_4, dX7_leastCrossing_5, dX7_leastCrossing_6, dX7_leastCrossing_8, dX7_leastCrossing_9, dX7_leastCrossing_11, dX7_leastCrossing_12, dX7_leastCrossing_13, dX7_leastCrossing_14, dX7_leastCrossing_16, dX7_leastCrossing_18, dX7_leastCrossing_21, dX7_leastCrossing_22, dX7_leastCrossing_25, dX7_leastCrossing_26, dX7_leastCrossing_28, dX7_leastCrossing_29, dX7_leastCrossing_30, dX7_leastCrossing_31, dX7_leastCrossing_34, dX7_leastCrossing_36, dX7_leastCrossing_39, dX7_leastCrossing_41, dX7_leastCrossing_44, dX7_leastCrossing_46, dX7_leastCrossing_48, dX7_leastCrossing_51, dX7_leastCrossing_54, dX7_leastCrossing_55, dX7_leastCrossing_58, dX7_leastCrossing_59, dX7_leastCrossing_61, dX7_leastCrossing_62, dX7_leastCrossing_64, cr_7_161, fr_7_9, al_10, al_11, al_12, al_13, al_14, al_16, al_17, al_18, al_19, al_2, al_20, al_21, al_23, al_24, al_27, al_28, al_29, al_3, al_30, al_31, al_32, al_34, al_36, al_37, al_38, al_39, al_4, al_40, al_41, al_42, al_43, al_45, al_46, al_47, al_48, al_49, al_5, al_52, al_53, al_54, al_55, al_56, al_57, al_58, al_6, al_60, al_61, al_62, al_63, al_64, al_65, al_66, al_67, al_69, al_7, al_70, al_71, al_72, al_73, al_9, cat_i, cat_l, cat_r, cat_u, gf_6_0_59, pcl_0, pcl_1, pcl_100, pcl_101, pcl_102, pcl_103, pcl_104, pcl_105, pcl_106, pcl_107, pcl_108, pcl_109, pcl_110, pcl_111, pcl_112, pcl_15, pcl_22, pcl_25, pcl_26, pcl_33, pcl_44, pcl_50, pcl_59, pcl_8, rOK_i, rOK_z, v_aload_0, v_bipush_12, v_getfield, v_goto, v_iaload, v_iastore, v_ic_ne, v_iconst_1, v_iconst_m1, v_if_lt, v_iinc_6, v_iload_1, v_iload_2, v_iload_3, v_iload_4, v_iload_5, v_iload_6, v_invv, v_ireturn, v_istore_4, v_istore_5, v_istore_6, v_isub, vcV_2_6, vgf_i, vgf_r, vgf_s, vc_d, rr_0, rr_1, csT_h, csT_t, csT_n, bI_0, bI_1, bI_z, bT, List.mem_cons, List.not_mem_nil, List.length_cons, List.length_nil, ite_not, ↓reduceIte, true_and, and_true, not_true_eq_false, not_false_eq_true, false_or, or_false, or_true, true_or, Nat.reduceAdd, Nat.reduceEqDiff, Nat.reduceBEq, Nat.reduceLeDiff, Nat.reduceLT, Nat.reduceSub, Int.reduceAdd, Int.reduceLE, Int.reduceLT, Int.reduceToNat, Int.reduceNeg, Int.reduceNatCast', reduceCtorEq, Int32.reduceOfInt, Int32.reduceOfNat, Int32.reduceToNatClampNeg, Int32.reduceToInt, i10, i01, nEM, show (nI 0 - 1 < 0) = True from by decide, cp, cq, j2_s, upd_upd, upd_self]
    exact ⟨by omega, h a⟩
  | succ t ih =>
    intro a v ht h
    have c1 : ¬ nI t < 0 := nI_pos (by omega)
    have e2 : nI t + -1 = nI t - 1 := (Int32.sub_eq_add_neg _ _).symm
    refine goV (n := 80) [(159, pf_X7_wouldCross)] [16] (T_cons (s_X7_wouldCross hd) T_nil) ?_
    simp only [dX7_leastCrossing_0, dX7_leastCrossing_1, dX7_leastCrossing_4, dX7_leastCrossing_5, dX7_leastCrossing_6, dX7_leastCrossing_8, dX7_leastCrossing_9, dX7_leastCrossing_11, dX7_leastCrossing_12, dX7_leastCrossing_13, dX7_leastCrossing_14, dX7_leastCrossing_16, dX7_leastCrossing_18, dX7_leastCrossing_21, dX7_leastCrossing_22, dX7_leastCrossing_25, dX7_leastCrossing_26, dX7_leastCrossing_28, dX7_leastCrossing_29, dX7_leastCrossing_30, dX7_leastCrossing_31, dX7_leastCrossing_34, dX7_leastCrossing_36, dX7_leastCrossing_39, dX7_leastCrossing_41, dX7_leastCrossing_44, dX7_leastCrossing_46, dX7_leastCrossing_48, dX7_leastCrossing_51, dX7_leastCrossing_54, dX7_leastCrossing_55, dX7_leastCrossing_58, dX7_leastCrossing_59, dX7_leastCrossing_61, dX7_leastCrossing_62, dX7_leastCrossing_64, cr_7_161, fr_7_9, al_10, al_11, al_12, al_13, al_14, al_16, al_17, al_18, al_19, al_2, al_20, al_21, al_23, al_24, al_27, al_28, al_29, al_3, al_30, al_31, al_32, al_34, al_36, al_37, al_38, al_39, al_4, al_40, al_41, al_42, al_43, al_45, al_46, al_47, al_48, al_49, al_5, al_52, al_53, al_54, al_55, al_56, al_57, al_58, al_6, al_60, al_61, al_62, al_63, al_64, al_65, al_66, al_67, al_69, al_7, al_70, al_71, al_72, al_73, al_9, cat_i, cat_l, cat_r, cat_u, gf_6_0_59, pcl_0, pcl_1, pcl_100, pcl_101, pcl_102, pcl_103, pcl_104, pcl_105, pcl_106, pcl_107, pcl_108, pcl_109, pcl_110, pcl_111, pcl_112, pcl_15, pcl_22, pcl_25, pcl_26, pcl_33, pcl_44, pcl_50, pcl_59, pcl_8, rOK_i, rOK_z, v_aload_0, v_bipush_12, v_getfield, v_goto, v_iaload, v_iastore, v_ic_ne, v_iconst_1, v_iconst_m1, v_if_lt, v_iinc_6, v_iload_1, v_iload_2, v_iload_3, v_iload_4, v_iload_5, v_iload_6, v_invv, v_ireturn, v_istore_4, v_istore_5, v_istore_6, v_isub, vcV_2_6, vgf_i, vgf_r, vgf_s, vc_d, rr_0, rr_1, csT_h, csT_t, csT_n, bI_0, bI_1, bI_z, bT, List.mem_cons, List.not_mem_nil, List.length_cons, List.length_nil, ite_not, ↓reduceIte, true_and, and_true, not_true_eq_false, not_false_eq_true, false_or, or_false, or_true, true_or, Nat.reduceAdd, Nat.reduceEqDiff, Nat.reduceBEq, Nat.reduceLeDiff, Nat.reduceLT, Nat.reduceSub, Int.reduceAdd, Int.reduceLE, Int.reduceLT, Int.reduceToNat, Int.reduceNeg, Int.reduceNatCast', reduceCtorEq, Int32.reduceOfInt, Int32.reduceOfNat, Int32.reduceToNatClampNeg, Int32.reduceToInt, i10, i01, nEM, pe_X7_wouldCross, nI_pred, c1, cp, cq, ci, ho, e2, j2_s, j2_60, j2_j2, upd_upd, eq12 crx_le]
    refine ⟨by omega, fun a' => ?_⟩
    have key := ih a' (nI t) (by omega) h
    rw [show 100 - t = (100 - (t + 1)) + 1 by omega, lstF] at key
    by_cases hc : (crx (upd (M 60) p (nI t)) i).1 < 12
    · rw [if_pos hc]
      rw [if_neg (show ¬ ¬ (crx (upd (M 60) p (nI t)) i).1 < 12 from fun z => z hc)] at key
      exact key
    · rw [if_neg hc]
      rw [if_pos hc] at key
      exact key
def pf_X7_leastCrossing : PF := fun args M k => match args with
  | [.ref o, .int w, .int p, .int n] => (o = 59 ∧ wOK w ∧ (¬ p < 0 ∧ ¬ 50 ≤ p) ∧ n = 100) ∧ (∀ a, k (.int (lstF (fun v => ¬ (crx (upd (M 60) (p).toNatClampNeg (nI v)) (w).toNatClampNeg).1 < 12) 100 0)) (j2 M a (M 60)))
  | _ => False
theorem pe_X7_leastCrossing {o : Nat} {w : Int32} {p : Int32} {n : Int32} {M : Mem} {k : Value → Mem → Prop} : pf_X7_leastCrossing [.ref o, .int w, .int p, .int n] M k = ((o = 59 ∧ wOK w ∧ (¬ p < 0 ∧ ¬ 50 ≤ p) ∧ n = 100) ∧ (∀ a, k (.int (lstF (fun v => ¬ (crx (upd (M 60) (p).toNatClampNeg (nI v)) (w).toNatClampNeg).1 < 12) 100 0)) (j2 M a (M 60)))) := rfl
theorem le_X7_leastCrossing {o : Nat} {w : Int32} {p : Int32} {n : Int32} : lent 7 ([.ref o, .int w, .int p, .int n] : List Value) = [.ref o, .int w, .int p, .int n, .retAddr 0, .retAddr 0, .retAddr 0] := rfl
set_option maxRecDepth 100000 in
set_option maxHeartbeats 4000000 in
theorem c_X7_leastCrossing {d : Nat} (hd : 8 ≤ d) {o : Nat} {w : Int32} {p : Int32} {n : Int32} {M : Mem} {k : Value → Mem → Prop} (h : (o = 59 ∧ wOK w ∧ (¬ p < 0 ∧ ¬ 50 ≤ p) ∧ n = 100) ∧ (∀ a, k (.int (lstF (fun v => ¬ (crx (upd (M 60) (p).toNatClampNeg (nI v)) (w).toNatClampNeg).1 < 12) 100 0)) (j2 M a (M 60)))) : CallP d 170 [.ref o, .int w, .int p, .int n] M k := by
  obtain ⟨hp, h⟩ := h
  obtain ⟨d, rfl⟩ : ∃ d', d = d' + 1 := ⟨d - 1, by omega⟩
  obtain ⟨rfl, hw, h1, rfl⟩ := hp
  obtain ⟨i, hi, rfl⟩ := wOK_n hw
  obtain ⟨t, ht, rfl⟩ := p50_n h1.1 h1.2
  have cp : (nI t).toNatClampNeg = t := nI_clamp (by omega)
  rw [nI_clamp (show i < 2 ^ 31 by omega), cp] at h
  refine enterV (n := 80) [] [16] mI_170 (by decide) (Nat.le_of_ble_eq_true rfl) T_nil ?_
  rw [show lent 7 ([.ref 59, .int (nI i), .int (nI t), .int 100] : List Value) = [.ref 59, .int (nI i), .int (nI t), .int 100, .retAddr 0, .retAddr 0, .retAddr 0] from rfl]
  simp only [dX7_leastCrossing_0, dX7_leastCrossing_1, dX7_leastCrossing_4, dX7_leastCrossing_5, dX7_leastCrossing_6, dX7_leastCrossing_8, dX7_leastCrossing_9, dX7_leastCrossing_11, dX7_leastCrossing_12, dX7_leastCrossing_13, dX7_leastCrossing_14, dX7_leastCrossing_16, dX7_leastCrossing_18, dX7_leastCrossing_21, dX7_leastCrossing_22, dX7_leastCrossing_25, dX7_leastCrossing_26, dX7_leastCrossing_28, dX7_leastCrossing_29, dX7_leastCrossing_30, dX7_leastCrossing_31, dX7_leastCrossing_34, dX7_leastCrossing_36, dX7_leastCrossing_39, dX7_leastCrossing_41, dX7_leastCrossing_44, dX7_leastCrossing_46, dX7_leastCrossing_48, dX7_leastCrossing_51, dX7_leastCrossing_54, dX7_leastCrossing_55, dX7_leastCrossing_58, dX7_leastCrossing_59, dX7_leastCrossing_61, dX7_leastCrossing_62, dX7_leastCrossing_64, cr_7_161, fr_7_9, al_10, al_11, al_12, al_13, al_14, al_16, al_17, al_18, al_19, al_2, al_20, al_21, al_23, al_24, al_27, al_28, al_29, al_3, al_30, al_31, al_32, al_34, al_36, al_37, al_38, al_39, al_4, al_40, al_41, al_42, al_43, al_45, al_46, al_47, al_48, al_49, al_5, al_52, al_53, al_54, al_55, al_56, al_57, al_58, al_6, al_60, al_61, al_62, al_63, al_64, al_65, al_66, al_67, al_69, al_7, al_70, al_71, al_72, al_73, al_9, cat_i, cat_l, cat_r, cat_u, gf_6_0_59, pcl_0, pcl_1, pcl_100, pcl_101, pcl_102, pcl_103, pcl_104, pcl_105, pcl_106, pcl_107, pcl_108, pcl_109, pcl_110, pcl_111, pcl_112, pcl_15, pcl_22, pcl_25, pcl_26, pcl_33, pcl_44, pcl_50, pcl_59, pcl_8, rOK_i, rOK_z, v_aload_0, v_bipush_12, v_getfield, v_goto, v_iaload, v_iastore, v_ic_ne, v_iconst_1, v_iconst_m1, v_if_lt, v_iinc_6, v_iload_1, v_iload_2, v_iload_3, v_iload_4, v_iload_5, v_iload_6, v_invv, v_ireturn, v_istore_4, v_istore_5, v_istore_6, v_isub, vcV_2_6, vgf_i, vgf_r, vgf_s, vc_d, rr_0, rr_1, csT_h, csT_t, csT_n, bI_0, bI_1, bI_z, bT, List.mem_cons, List.not_mem_nil, List.length_cons, List.length_nil, ite_not, ↓reduceIte, true_and, and_true, not_true_eq_false, not_false_eq_true, false_or, or_false, or_true, true_or, Nat.reduceAdd, Nat.reduceEqDiff, Nat.reduceBEq, Nat.reduceLeDiff, Nat.reduceLT, Nat.reduceSub, Int.reduceAdd, Int.reduceLE, Int.reduceLT, Int.reduceToNat, Int.reduceNeg, Int.reduceNatCast', reduceCtorEq, Int32.reduceOfInt, Int32.reduceOfNat, Int32.reduceToNatClampNeg, Int32.reduceToInt, i10, i01, nEM, cp]
  refine ⟨bd h1.1 h1.2 rfl, ?_⟩
  have := lp_leastCrossing (d := d) (by omega) (M := M) (k := k) hi ht 100 (M 62) (M 60 t) (Nat.le_refl _) h
  rw [j2_0] at this
  exact this
theorem s_X7_leastCrossing {d : Nat} (hd : 8 ≤ d) : Snd d 170 pf_X7_leastCrossing := by
  intro args M k h
  unfold pf_X7_leastCrossing at h
  split at h
  · exact c_X7_leastCrossing hd h
  · exact h.elim
theorem wf_in {i f : Nat} (hi : i < 6) (hf : f < 4) : ¬ nI (wf i f) < 0 ∧ ¬ 50 ≤ nI (wf i f) := by
  have hl := wf_lt hi hf
  exact ⟨nI_pos (by omega), nI_ge (b := 50) hl (by decide)⟩
def pf_X7_gaits : PF := fun args M k => match args with
  | [.ref o, .int w] => (o = 59 ∧ IM (M 60)) ∧ (if hasM (M 60) w then ∀ a, k (.int (cntF (fun v => ¬ (crx (upd (M 60) (wf (w).toNatClampNeg 1) (nI v)) (w).toNatClampNeg).1 < 12) 100 0 0)) (j2 M a (M 60)) else k (.int (-1000001)) (fndM M 0))
  | _ => False
theorem pe_X7_gaits {o : Nat} {w : Int32} {M : Mem} {k : Value → Mem → Prop} : pf_X7_gaits [.ref o, .int w] M k = ((o = 59 ∧ IM (M 60)) ∧ (if hasM (M 60) w then ∀ a, k (.int (cntF (fun v => ¬ (crx (upd (M 60) (wf (w).toNatClampNeg 1) (nI v)) (w).toNatClampNeg).1 < 12) 100 0 0)) (j2 M a (M 60)) else k (.int (-1000001)) (fndM M 0))) := rfl
theorem le_X7_gaits {o : Nat} {w : Int32} : lent 2 ([.ref o, .int w] : List Value) = [.ref o, .int w] := rfl
set_option maxRecDepth 100000 in
set_option maxHeartbeats 4000000 in
theorem c_X7_gaits {d : Nat} (hd : 9 ≤ d) {o : Nat} {w : Int32} {M : Mem} {k : Value → Mem → Prop} (h : (o = 59 ∧ IM (M 60)) ∧ (if hasM (M 60) w then ∀ a, k (.int (cntF (fun v => ¬ (crx (upd (M 60) (wf (w).toNatClampNeg 1) (nI v)) (w).toNatClampNeg).1 < 12) 100 0 0)) (j2 M a (M 60)) else k (.int (-1000001)) (fndM M 0))) : CallP d 172 [.ref o, .int w] M k := by
  obtain ⟨hp, h⟩ := h
  obtain ⟨d, rfl⟩ : ∃ d', d = d' + 1 := ⟨d - 1, by omega⟩
  obtain ⟨rfl, hI⟩ := hp
  · refine enterV (n := 80) [(136, pf_X7_isWalker), (138, pf_X7_place), (169, pf_X7_crossing), (125, pf_X7_finding)] [] mI_172 (by decide) (Nat.le_of_ble_eq_true rfl) (T_cons (s_X7_isWalker (by omega)) (T_cons (s_X7_place (by omega)) (T_cons (s_X7_crossing (by omega)) (T_cons (s_X7_finding (by omega)) T_nil)))) ?_
    rw [le_X7_gaits]
    simp only [dX7_gaits_0, dX7_gaits_1, dX7_gaits_2, dX7_gaits_5, dX7_gaits_8, dX7_gaits_9, dX7_gaits_10, dX7_gaits_11, dX7_gaits_12, dX7_gaits_15, dX7_gaits_17, dX7_gaits_20, dX7_gaits_23, dX7_gaits_24, dX7_gaits_26, dX7_gaits_29, cr_7_126, cr_7_186, cr_7_75, cr_7_92, kr_7_69, skr_7_69, al_10, al_11, al_12, al_13, al_14, al_16, al_17, al_18, al_19, al_2, al_20, al_21, al_23, al_24, al_27, al_28, al_29, al_3, al_30, al_31, al_32, al_34, al_36, al_37, al_38, al_39, al_4, al_40, al_41, al_42, al_43, al_45, al_46, al_47, al_48, al_49, al_5, al_52, al_53, al_54, al_55, al_56, al_57, al_58, al_6, al_60, al_61, al_62, al_63, al_64, al_65, al_66, al_67, al_69, al_7, al_70, al_71, al_72, al_73, al_9, pcl_0, pcl_1, pcl_100, pcl_101, pcl_102, pcl_103, pcl_104, pcl_105, pcl_106, pcl_107, pcl_108, pcl_109, pcl_110, pcl_111, pcl_112, pcl_15, pcl_22, pcl_25, pcl_26, pcl_33, pcl_44, pcl_50, pcl_59, pcl_8, rOK_i, rOK_z, v_aload_0, v_bipush_100, v_goto, v_iconst_1, v_if_eq, v_iload_1, v_invs, v_invv, v_ireturn, v_ldc, vcS_2_1, vcV_2_6, vcV_4_6, vld_i, vld_s, vc_d, rr_0, rr_1, csT_h, csT_t, csT_n, bI_0, bI_1, bI_z, bT, List.mem_cons, List.not_mem_nil, List.length_cons, List.length_nil, ite_not, ↓reduceIte, true_and, and_true, not_true_eq_false, not_false_eq_true, false_or, or_false, or_true, true_or, Nat.reduceAdd, Nat.reduceEqDiff, Nat.reduceBEq, Nat.reduceLeDiff, Nat.reduceLT, Nat.reduceSub, Int.reduceAdd, Int.reduceLE, Int.reduceLT, Int.reduceToNat, Int.reduceNeg, Int.reduceNatCast', reduceCtorEq, Int32.reduceOfInt, Int32.reduceOfNat, Int32.reduceToNatClampNeg, Int32.reduceToInt, i10, i01, nEM, pe_X7_isWalker, pe_X7_place, pe_X7_crossing, fn_0, fn_1, fn_2, fn_3, fn_4, fn_5, fn_6, hI, Int32.reduceLT, Int32.reduceLE, not_false_eq_true]
    by_cases h1 : hasM (M 60) w
    · rw [if_pos h1] at h ⊢
      have hw := hasM_o h1
      obtain ⟨i, hi, rfl⟩ := wOK_n hw
      rw [nI_clamp (show i < 2 ^ 31 by omega)] at h ⊢
      rw [wf_c hi (by decide)]
      exact ⟨hw, ⟨hw, wf_in hi (by decide)⟩, h⟩
    · rw [if_neg h1] at h ⊢
      exact h

theorem s_X7_gaits {d : Nat} (hd : 9 ≤ d) : Snd d 172 pf_X7_gaits := by
  intro args M k h
  unfold pf_X7_gaits at h
  split at h
  · exact c_X7_gaits hd h
  · exact h.elim
def pf_X7_balanceFor : PF := fun args M k => match args with
  | [.ref o, .int w] => (o = 59 ∧ IM (M 60)) ∧ (if hasM (M 60) w then (∀ a, if lstF (fun v => ¬ (crx (upd (M 60) (wf (w).toNatClampNeg 2) (nI v)) (w).toNatClampNeg).1 < 12) 100 0 < 0 then k (.int (-1000004)) (fndM (j2 M a (M 60)) 3) else k (.int (lstF (fun v => ¬ (crx (upd (M 60) (wf (w).toNatClampNeg 2) (nI v)) (w).toNatClampNeg).1 < 12) 100 0)) (j2 M a (M 60))) else k (.int (-1000001)) (fndM M 0))
  | _ => False
theorem pe_X7_balanceFor {o : Nat} {w : Int32} {M : Mem} {k : Value → Mem → Prop} : pf_X7_balanceFor [.ref o, .int w] M k = ((o = 59 ∧ IM (M 60)) ∧ (if hasM (M 60) w then (∀ a, if lstF (fun v => ¬ (crx (upd (M 60) (wf (w).toNatClampNeg 2) (nI v)) (w).toNatClampNeg).1 < 12) 100 0 < 0 then k (.int (-1000004)) (fndM (j2 M a (M 60)) 3) else k (.int (lstF (fun v => ¬ (crx (upd (M 60) (wf (w).toNatClampNeg 2) (nI v)) (w).toNatClampNeg).1 < 12) 100 0)) (j2 M a (M 60))) else k (.int (-1000001)) (fndM M 0))) := rfl
theorem le_X7_balanceFor {o : Nat} {w : Int32} : lent 2 ([.ref o, .int w] : List Value) = [.ref o, .int w] := rfl
set_option maxRecDepth 100000 in
set_option maxHeartbeats 4000000 in
theorem c_X7_balanceFor {d : Nat} (hd : 9 ≤ d) {o : Nat} {w : Int32} {M : Mem} {k : Value → Mem → Prop} (h : (o = 59 ∧ IM (M 60)) ∧ (if hasM (M 60) w then (∀ a, if lstF (fun v => ¬ (crx (upd (M 60) (wf (w).toNatClampNeg 2) (nI v)) (w).toNatClampNeg).1 < 12) 100 0 < 0 then k (.int (-1000004)) (fndM (j2 M a (M 60)) 3) else k (.int (lstF (fun v => ¬ (crx (upd (M 60) (wf (w).toNatClampNeg 2) (nI v)) (w).toNatClampNeg).1 < 12) 100 0)) (j2 M a (M 60))) else k (.int (-1000001)) (fndM M 0))) : CallP d 171 [.ref o, .int w] M k := by
  obtain ⟨hp, h⟩ := h
  obtain ⟨d, rfl⟩ : ∃ d', d = d' + 1 := ⟨d - 1, by omega⟩
  obtain ⟨rfl, hI⟩ := hp
  · refine enterV (n := 80) [(136, pf_X7_isWalker), (138, pf_X7_place), (170, pf_X7_leastCrossing), (130, pf_X7_orNone), (125, pf_X7_finding)] [] mI_171 (by decide) (Nat.le_of_ble_eq_true rfl) (T_cons (s_X7_isWalker (by omega)) (T_cons (s_X7_place (by omega)) (T_cons (s_X7_leastCrossing (by omega)) (T_cons (s_X7_orNone (by omega)) (T_cons (s_X7_finding (by omega)) T_nil))))) ?_
    rw [le_X7_balanceFor]
    simp only [dX7_balanceFor_0, dX7_balanceFor_1, dX7_balanceFor_2, dX7_balanceFor_5, dX7_balanceFor_8, dX7_balanceFor_9, dX7_balanceFor_10, dX7_balanceFor_11, dX7_balanceFor_12, dX7_balanceFor_13, dX7_balanceFor_16, dX7_balanceFor_18, dX7_balanceFor_21, dX7_balanceFor_24, dX7_balanceFor_27, dX7_balanceFor_28, dX7_balanceFor_30, dX7_balanceFor_33, cr_7_126, cr_7_180, cr_7_183, cr_7_75, cr_7_92, kr_7_69, skr_7_69, al_10, al_11, al_12, al_13, al_14, al_16, al_17, al_18, al_19, al_2, al_20, al_21, al_23, al_24, al_27, al_28, al_29, al_3, al_30, al_31, al_32, al_34, al_36, al_37, al_38, al_39, al_4, al_40, al_41, al_42, al_43, al_45, al_46, al_47, al_48, al_49, al_5, al_52, al_53, al_54, al_55, al_56, al_57, al_58, al_6, al_60, al_61, al_62, al_63, al_64, al_65, al_66, al_67, al_69, al_7, al_70, al_71, al_72, al_73, al_9, pcl_0, pcl_1, pcl_100, pcl_101, pcl_102, pcl_103, pcl_104, pcl_105, pcl_106, pcl_107, pcl_108, pcl_109, pcl_110, pcl_111, pcl_112, pcl_15, pcl_22, pcl_25, pcl_26, pcl_33, pcl_44, pcl_50, pcl_59, pcl_8, rOK_i, rOK_z, v_aload_0, v_bipush_100, v_goto, v_iconst_2, v_if_eq, v_iload_1, v_invs, v_invv, v_ireturn, v_ldc, vcS_2_1, vcV_2_6, vcV_4_6, vld_i, vld_s, vc_d, rr_0, rr_1, csT_h, csT_t, csT_n, bI_0, bI_1, bI_z, bT, List.mem_cons, List.not_mem_nil, List.length_cons, List.length_nil, ite_not, ↓reduceIte, true_and, and_true, not_true_eq_false, not_false_eq_true, false_or, or_false, or_true, true_or, Nat.reduceAdd, Nat.reduceEqDiff, Nat.reduceBEq, Nat.reduceLeDiff, Nat.reduceLT, Nat.reduceSub, Int.reduceAdd, Int.reduceLE, Int.reduceLT, Int.reduceToNat, Int.reduceNeg, Int.reduceNatCast', reduceCtorEq, Int32.reduceOfInt, Int32.reduceOfNat, Int32.reduceToNatClampNeg, Int32.reduceToInt, i10, i01, nEM, pe_X7_isWalker, pe_X7_place, pe_X7_leastCrossing, pe_X7_orNone, fn_0, fn_1, fn_2, fn_3, fn_4, fn_5, fn_6, hI, Int32.reduceLT, Int32.reduceLE, not_false_eq_true]
    by_cases h1 : hasM (M 60) w
    · rw [if_pos h1] at h ⊢
      have hw := hasM_o h1
      obtain ⟨i, hi, rfl⟩ := wOK_n hw
      rw [nI_clamp (show i < 2 ^ 31 by omega)] at h ⊢
      rw [wf_c hi (by decide)]
      exact ⟨hw, ⟨hw, wf_in hi (by decide)⟩, h⟩
    · rw [if_neg h1] at h ⊢
      exact h

theorem s_X7_balanceFor {d : Nat} (hd : 9 ≤ d) : Snd d 171 pf_X7_balanceFor := by
  intro args M k h
  unfold pf_X7_balanceFor at h
  split at h
  · exact c_X7_balanceFor hd h
  · exact h.elim
def pf_X7_gaitFor : PF := fun args M k => match args with
  | [.ref o, .int w] => (o = 59 ∧ IM (M 60)) ∧ (if hasM (M 60) w then (∀ a, if lstF (fun v => ¬ (crx (upd (M 60) (wf (w).toNatClampNeg 1) (nI v)) (w).toNatClampNeg).1 < 12) 100 0 < 0 then k (.int (-1000004)) (fndM (j2 M a (M 60)) 3) else k (.int (lstF (fun v => ¬ (crx (upd (M 60) (wf (w).toNatClampNeg 1) (nI v)) (w).toNatClampNeg).1 < 12) 100 0)) (j2 M a (M 60))) else k (.int (-1000001)) (fndM M 0))
  | _ => False
theorem pe_X7_gaitFor {o : Nat} {w : Int32} {M : Mem} {k : Value → Mem → Prop} : pf_X7_gaitFor [.ref o, .int w] M k = ((o = 59 ∧ IM (M 60)) ∧ (if hasM (M 60) w then (∀ a, if lstF (fun v => ¬ (crx (upd (M 60) (wf (w).toNatClampNeg 1) (nI v)) (w).toNatClampNeg).1 < 12) 100 0 < 0 then k (.int (-1000004)) (fndM (j2 M a (M 60)) 3) else k (.int (lstF (fun v => ¬ (crx (upd (M 60) (wf (w).toNatClampNeg 1) (nI v)) (w).toNatClampNeg).1 < 12) 100 0)) (j2 M a (M 60))) else k (.int (-1000001)) (fndM M 0))) := rfl
theorem le_X7_gaitFor {o : Nat} {w : Int32} : lent 2 ([.ref o, .int w] : List Value) = [.ref o, .int w] := rfl
set_option maxRecDepth 100000 in
set_option maxHeartbeats 4000000 in
theorem c_X7_gaitFor {d : Nat} (hd : 9 ≤ d) {o : Nat} {w : Int32} {M : Mem} {k : Value → Mem → Prop} (h : (o = 59 ∧ IM (M 60)) ∧ (if hasM (M 60) w then (∀ a, if lstF (fun v => ¬ (crx (upd (M 60) (wf (w).toNatClampNeg 1) (nI v)) (w).toNatClampNeg).1 < 12) 100 0 < 0 then k (.int (-1000004)) (fndM (j2 M a (M 60)) 3) else k (.int (lstF (fun v => ¬ (crx (upd (M 60) (wf (w).toNatClampNeg 1) (nI v)) (w).toNatClampNeg).1 < 12) 100 0)) (j2 M a (M 60))) else k (.int (-1000001)) (fndM M 0))) : CallP d 173 [.ref o, .int w] M k := by
  obtain ⟨hp, h⟩ := h
  obtain ⟨d, rfl⟩ : ∃ d', d = d' + 1 := ⟨d - 1, by omega⟩
  obtain ⟨rfl, hI⟩ := hp
  · refine enterV (n := 80) [(136, pf_X7_isWalker), (138, pf_X7_place), (170, pf_X7_leastCrossing), (130, pf_X7_orNone), (125, pf_X7_finding)] [] mI_173 (by decide) (Nat.le_of_ble_eq_true rfl) (T_cons (s_X7_isWalker (by omega)) (T_cons (s_X7_place (by omega)) (T_cons (s_X7_leastCrossing (by omega)) (T_cons (s_X7_orNone (by omega)) (T_cons (s_X7_finding (by omega)) T_nil))))) ?_
    rw [le_X7_gaitFor]
    simp only [dX7_gaitFor_0, dX7_gaitFor_1, dX7_gaitFor_2, dX7_gaitFor_5, dX7_gaitFor_8, dX7_gaitFor_9, dX7_gaitFor_10, dX7_gaitFor_11, dX7_gaitFor_12, dX7_gaitFor_13, dX7_gaitFor_16, dX7_gaitFor_18, dX7_gaitFor_21, dX7_gaitFor_24, dX7_gaitFor_27, dX7_gaitFor_28, dX7_gaitFor_30, dX7_gaitFor_33, cr_7_126, cr_7_180, cr_7_183, cr_7_75, cr_7_92, kr_7_69, skr_7_69, al_10, al_11, al_12, al_13, al_14, al_16, al_17, al_18, al_19, al_2, al_20, al_21, al_23, al_24, al_27, al_28, al_29, al_3, al_30, al_31, al_32, al_34, al_36, al_37, al_38, al_39, al_4, al_40, al_41, al_42, al_43, al_45, al_46, al_47, al_48, al_49, al_5, al_52, al_53, al_54, al_55, al_56, al_57, al_58, al_6, al_60, al_61, al_62, al_63, al_64, al_65, al_66, al_67, al_69, al_7, al_70, al_71, al_72, al_73, al_9, pcl_0, pcl_1, pcl_100, pcl_101, pcl_102, pcl_103, pcl_104, pcl_105, pcl_106, pcl_107, pcl_108, pcl_109, pcl_110, pcl_111, pcl_112, pcl_15, pcl_22, pcl_25, pcl_26, pcl_33, pcl_44, pcl_50, pcl_59, pcl_8, rOK_i, rOK_z, v_aload_0, v_bipush_100, v_goto, v_iconst_1, v_if_eq, v_iload_1, v_invs, v_invv, v_ireturn, v_ldc, vcS_2_1, vcV_2_6, vcV_4_6, vld_i, vld_s, vc_d, rr_0, rr_1, csT_h, csT_t, csT_n, bI_0, bI_1, bI_z, bT, List.mem_cons, List.not_mem_nil, List.length_cons, List.length_nil, ite_not, ↓reduceIte, true_and, and_true, not_true_eq_false, not_false_eq_true, false_or, or_false, or_true, true_or, Nat.reduceAdd, Nat.reduceEqDiff, Nat.reduceBEq, Nat.reduceLeDiff, Nat.reduceLT, Nat.reduceSub, Int.reduceAdd, Int.reduceLE, Int.reduceLT, Int.reduceToNat, Int.reduceNeg, Int.reduceNatCast', reduceCtorEq, Int32.reduceOfInt, Int32.reduceOfNat, Int32.reduceToNatClampNeg, Int32.reduceToInt, i10, i01, nEM, pe_X7_isWalker, pe_X7_place, pe_X7_leastCrossing, pe_X7_orNone, fn_0, fn_1, fn_2, fn_3, fn_4, fn_5, fn_6, hI, Int32.reduceLT, Int32.reduceLE, not_false_eq_true]
    by_cases h1 : hasM (M 60) w
    · rw [if_pos h1] at h ⊢
      have hw := hasM_o h1
      obtain ⟨i, hi, rfl⟩ := wOK_n hw
      rw [nI_clamp (show i < 2 ^ 31 by omega)] at h ⊢
      rw [wf_c hi (by decide)]
      exact ⟨hw, ⟨hw, wf_in hi (by decide)⟩, h⟩
    · rw [if_neg h1] at h ⊢
      exact h

theorem s_X7_gaitFor {d : Nat} (hd : 9 ≤ d) : Snd d 173 pf_X7_gaitFor := by
  intro args M k h
  unfold pf_X7_gaitFor at h
  split at h
  · exact c_X7_gaitFor hd h
  · exact h.elim
set_option maxRecDepth 100000 in
set_option maxHeartbeats 4000000 in
theorem lp_kindsForM {d : Nat} (hd : 7 ≤ d) {M : Mem} {k : Value → Mem → Prop} {i : Nat} (hi : i < 6) : ∀ (n t : Nat) (s : Int32) (a : Nat → Int32) (v : Int32), t + n = 7 → (∀ a, k (.int (stF (fun v => ¬ (crx (upd (M 60) (wf i 0) (nI v)) i).1 < 12) n t s)) (j2 M a (M 60))) → WP (7, yX7_kindsFor, cX7_kindsFor, 5, (some .int)) (d + 1) k 27 [.ref 59, .int (nI i), .int (M 60 (wf i 0)), .int s, .int (nI t)] [] (j2 M a (upd (M 60) (wf i 0) v)) := by
  have ci : (nI i).toNatClampNeg = i := nI_clamp (by omega)
  have cp := wf_c hi (f := 0) (by decide)
  have cq := wf_t hi (f := 0) (by decide)
  have ho := nOK hi
  intro n
  induction n with
  | zero =>
    intro t s a v ht h
    have : t = 7 := by omega
    subst this
    refine goV (n := 80) [(159, pf_X7_wouldCross), (138, pf_X7_place)] [27] (T_cons (s_X7_wouldCross hd) (T_cons (s_X7_place (by omega)) T_nil)) ?_
    simp only [dX7_kindsFor_0, dX7_kindsFor_1, dX7_kindsFor_2, dX7_kindsFor_5, dX7_kindsFor_8, dX7_kindsFor_9, dX7_kindsFor_11, dX7_kindsFor_14, dX7_kindsFor_15, dX7_kindsFor_16, dX7_kindsFor_17, dX7_kindsFor_18, dX7_kindsFor_21, dX7_kindsFor_22, dX7_kindsFor_23, dX7_kindsFor_24, dX7_kindsFor_25, dX7_kindsFor_27, dX7_kindsFor_29, dX7_kindsFor_31, dX7_kindsFor_34, dX7_kindsFor_35, dX7_kindsFor_38, dX7_kindsFor_39, dX7_kindsFor_40, dX7_kindsFor_43, dX7_kindsFor_45, dX7_kindsFor_46, dX7_kindsFor_47, dX7_kindsFor_48, dX7_kindsFor_49, dX7_kindsFor_52, dX7_kindsFor_54, dX7_kindsFor_57, dX7_kindsFor_58, dX7_kindsFor_60, dX7_kindsFor_61, dX7_kindsFor_64, dX7_kindsFor_65, dX7_kindsFor_66, dX7_kindsFor_67, dX7_kindsFor_70, dX7_kindsFor_73, dX7_kindsFor_74, dX7_kindsFor_77, dX7_kindsFor_78, dX7_kindsFor_79, dX7_kindsFor_82, dX7_kindsFor_83, dX7_kindsFor_84, dX7_kindsFor_85, cr_7_113, cr_7_126, cr_7_161, cr_7_75, cr_7_92, fr_7_9, kr_7_69, skr_7_69, al_10, al_11, al_12, al_13, al_14, al_16, al_17, al_18, al_19, al_2, al_20, al_21, al_23, al_24, al_27, al_28, al_29, al_3, al_30, al_31, al_32, al_34, al_36, al_37, al_38, al_39, al_4, al_40, al_41, al_42, al_43, al_45, al_46, al_47, al_48, al_49, al_5, al_52, al_53, al_54, al_55, al_56, al_57, al_58, al_6, al_60, al_61, al_62, al_63, al_64, al_65, al_66, al_67, al_69, al_7, al_70, al_71, al_72, al_73, al_9, cat_i, cat_l, cat_r, cat_u, gf_6_0_59, pcl_0, pcl_1, pcl_100, pcl_101, pcl_102, pcl_103, pcl_104, pcl_105, pcl_106, pcl_107, pcl_108, pcl_109, pcl_110, pcl_111, pcl_112, pcl_15, pcl_22, pcl_25, pcl_26, pcl_33, pcl_44, pcl_50, pcl_59, pcl_8, rOK_i, rOK_z, v_aload_0, v_bipush_12, v_bipush_6, v_getfield, v_goto, v_iastore, v_ic_gt, v_ic_ne, v_iconst_0, v_iconst_1, v_if_ne, v_iinc_4, v_iload_1, v_iload_2, v_iload_3, v_iload_4, v_invs, v_invv, v_ior, v_ireturn, v_ishl, v_istore_2, v_istore_3, v_istore_4, v_ldc, vcS_2_1, vcV_2_6, vcV_3_6, vgf_i, vgf_r, vgf_s, vld_i, vld_s, vc_d, rr_0, rr_1, csT_h, csT_t, csT_n, bI_0, bI_1, bI_z, bT, List.mem_cons, List.not_mem_nil, List.length_cons, List.length_nil, ite_not, ↓reduceIte, true_and, and_true, not_true_eq_false, not_false_eq_true, false_or, or_false, or_true, true_or, Nat.reduceAdd, Nat.reduceEqDiff, Nat.reduceBEq, Nat.reduceLeDiff, Nat.reduceLT, Nat.reduceSub, Int.reduceAdd, Int.reduceLE, Int.reduceLT, Int.reduceToNat, Int.reduceNeg, Int.reduceNatCast', reduceCtorEq, Int32.reduceOfInt, Int32.reduceOfNat, Int32.reduceToNatClampNeg, Int32.reduceToInt, i10, i01, nEM, pe_X7_place, show ((6 : Int32) < nI 7) = True from by decide, Int32.reduceLT, Int32.reduceLE, not_false_eq_true, ho, ci, cp, j2_s, upd_upd, upd_self]
    exact ⟨cq, h a⟩
  | succ n ih =>
    intro t s a v ht h
    have c1 : ((6 : Int32) < nI t) = False := eq_false (nI_nlt (a := 6) (b := t) (by omega) (by decide))
    refine goV (n := 80) [(159, pf_X7_wouldCross), (138, pf_X7_place)] [27] (T_cons (s_X7_wouldCross hd) (T_cons (s_X7_place (by omega)) T_nil)) ?_
    simp only [dX7_kindsFor_0, dX7_kindsFor_1, dX7_kindsFor_2, dX7_kindsFor_5, dX7_kindsFor_8, dX7_kindsFor_9, dX7_kindsFor_11, dX7_kindsFor_14, dX7_kindsFor_15, dX7_kindsFor_16, dX7_kindsFor_17, dX7_kindsFor_18, dX7_kindsFor_21, dX7_kindsFor_22, dX7_kindsFor_23, dX7_kindsFor_24, dX7_kindsFor_25, dX7_kindsFor_27, dX7_kindsFor_29, dX7_kindsFor_31, dX7_kindsFor_34, dX7_kindsFor_35, dX7_kindsFor_38, dX7_kindsFor_39, dX7_kindsFor_40, dX7_kindsFor_43, dX7_kindsFor_45, dX7_kindsFor_46, dX7_kindsFor_47, dX7_kindsFor_48, dX7_kindsFor_49, dX7_kindsFor_52, dX7_kindsFor_54, dX7_kindsFor_57, dX7_kindsFor_58, dX7_kindsFor_60, dX7_kindsFor_61, dX7_kindsFor_64, dX7_kindsFor_65, dX7_kindsFor_66, dX7_kindsFor_67, dX7_kindsFor_70, dX7_kindsFor_73, dX7_kindsFor_74, dX7_kindsFor_77, dX7_kindsFor_78, dX7_kindsFor_79, dX7_kindsFor_82, dX7_kindsFor_83, dX7_kindsFor_84, dX7_kindsFor_85, cr_7_113, cr_7_126, cr_7_161, cr_7_75, cr_7_92, fr_7_9, kr_7_69, skr_7_69, al_10, al_11, al_12, al_13, al_14, al_16, al_17, al_18, al_19, al_2, al_20, al_21, al_23, al_24, al_27, al_28, al_29, al_3, al_30, al_31, al_32, al_34, al_36, al_37, al_38, al_39, al_4, al_40, al_41, al_42, al_43, al_45, al_46, al_47, al_48, al_49, al_5, al_52, al_53, al_54, al_55, al_56, al_57, al_58, al_6, al_60, al_61, al_62, al_63, al_64, al_65, al_66, al_67, al_69, al_7, al_70, al_71, al_72, al_73, al_9, cat_i, cat_l, cat_r, cat_u, gf_6_0_59, pcl_0, pcl_1, pcl_100, pcl_101, pcl_102, pcl_103, pcl_104, pcl_105, pcl_106, pcl_107, pcl_108, pcl_109, pcl_110, pcl_111, pcl_112, pcl_15, pcl_22, pcl_25, pcl_26, pcl_33, pcl_44, pcl_50, pcl_59, pcl_8, rOK_i, rOK_z, v_aload_0, v_bipush_12, v_bipush_6, v_getfield, v_goto, v_iastore, v_ic_gt, v_ic_ne, v_iconst_0, v_iconst_1, v_if_ne, v_iinc_4, v_iload_1, v_iload_2, v_iload_3, v_iload_4, v_invs, v_invv, v_ior, v_ireturn, v_ishl, v_istore_2, v_istore_3, v_istore_4, v_ldc, vcS_2_1, vcV_2_6, vcV_3_6, vgf_i, vgf_r, vgf_s, vld_i, vld_s, vc_d, rr_0, rr_1, csT_h, csT_t, csT_n, bI_0, bI_1, bI_z, bT, List.mem_cons, List.not_mem_nil, List.length_cons, List.length_nil, ite_not, ↓reduceIte, true_and, and_true, not_true_eq_false, not_false_eq_true, false_or, or_false, or_true, true_or, Nat.reduceAdd, Nat.reduceEqDiff, Nat.reduceBEq, Nat.reduceLeDiff, Nat.reduceLT, Nat.reduceSub, Int.reduceAdd, Int.reduceLE, Int.reduceLT, Int.reduceToNat, Int.reduceNeg, Int.reduceNatCast', reduceCtorEq, Int32.reduceOfInt, Int32.reduceOfNat, Int32.reduceToNatClampNeg, Int32.reduceToInt, i10, i01, nEM, pe_X7_place, pe_X7_wouldCross, c1, Int32.reduceLT, Int32.reduceLE, not_false_eq_true, ho, ci, cp, nI_1, or0, j2_s, j2_60, j2_j2, upd_upd, eq12 crx_le]
    refine ⟨cq, fun a' => ?_⟩
    by_cases hc : (crx (upd (M 60) (wf i 0) (nI t)) i).1 < 12
    · rw [if_pos hc]
      exact ih (t + 1) _ _ _ (by omega) (fun a => by have := h a; rw [stF, if_neg (fun z => z hc)] at this; exact this)
    · rw [if_neg hc]
      exact ih (t + 1) _ _ _ (by omega) (fun a => by have := h a; rw [stF, if_pos hc] at this; exact this)
def pf_X7_kindsFor : PF := fun args M k => match args with
  | [.ref o, .int w] => (o = 59 ∧ IM (M 60)) ∧ (if hasM (M 60) w then ∀ a, k (.int (stF (fun v => ¬ (crx (upd (M 60) (wf (w).toNatClampNeg 0) (nI v)) (w).toNatClampNeg).1 < 12) 7 0 0)) (j2 M a (M 60)) else k (.int (-1000001)) (fndM M 0))
  | _ => False
theorem pe_X7_kindsFor {o : Nat} {w : Int32} {M : Mem} {k : Value → Mem → Prop} : pf_X7_kindsFor [.ref o, .int w] M k = ((o = 59 ∧ IM (M 60)) ∧ (if hasM (M 60) w then ∀ a, k (.int (stF (fun v => ¬ (crx (upd (M 60) (wf (w).toNatClampNeg 0) (nI v)) (w).toNatClampNeg).1 < 12) 7 0 0)) (j2 M a (M 60)) else k (.int (-1000001)) (fndM M 0))) := rfl
theorem le_X7_kindsFor {o : Nat} {w : Int32} : lent 5 ([.ref o, .int w] : List Value) = [.ref o, .int w, .retAddr 0, .retAddr 0, .retAddr 0] := rfl
set_option maxRecDepth 100000 in
set_option maxHeartbeats 4000000 in
theorem c_X7_kindsFor {d : Nat} (hd : 8 ≤ d) {o : Nat} {w : Int32} {M : Mem} {k : Value → Mem → Prop} (h : (o = 59 ∧ IM (M 60)) ∧ (if hasM (M 60) w then ∀ a, k (.int (stF (fun v => ¬ (crx (upd (M 60) (wf (w).toNatClampNeg 0) (nI v)) (w).toNatClampNeg).1 < 12) 7 0 0)) (j2 M a (M 60)) else k (.int (-1000001)) (fndM M 0))) : CallP d 174 [.ref o, .int w] M k := by
  obtain ⟨hp, h⟩ := h
  obtain ⟨d, rfl⟩ : ∃ d', d = d' + 1 := ⟨d - 1, by omega⟩
  obtain ⟨rfl, hI⟩ := hp
  · refine enterV (n := 80) [(136, pf_X7_isWalker), (139, pf_X7_walkerIs), (125, pf_X7_finding)] [27] mI_174 (by decide) (Nat.le_of_ble_eq_true rfl) (T_cons (s_X7_isWalker (by omega)) (T_cons (s_X7_walkerIs (by omega)) (T_cons (s_X7_finding (by omega)) T_nil))) ?_
    rw [le_X7_kindsFor]
    simp only [dX7_kindsFor_0, dX7_kindsFor_1, dX7_kindsFor_2, dX7_kindsFor_5, dX7_kindsFor_8, dX7_kindsFor_9, dX7_kindsFor_11, dX7_kindsFor_14, dX7_kindsFor_15, dX7_kindsFor_16, dX7_kindsFor_17, dX7_kindsFor_18, dX7_kindsFor_21, dX7_kindsFor_22, dX7_kindsFor_23, dX7_kindsFor_24, dX7_kindsFor_25, dX7_kindsFor_27, dX7_kindsFor_29, dX7_kindsFor_31, dX7_kindsFor_34, dX7_kindsFor_35, dX7_kindsFor_38, dX7_kindsFor_39, dX7_kindsFor_40, dX7_kindsFor_43, dX7_kindsFor_45, dX7_kindsFor_46, dX7_kindsFor_47, dX7_kindsFor_48, dX7_kindsFor_49, dX7_kindsFor_52, dX7_kindsFor_54, dX7_kindsFor_57, dX7_kindsFor_58, dX7_kindsFor_60, dX7_kindsFor_61, dX7_kindsFor_64, dX7_kindsFor_65, dX7_kindsFor_66, dX7_kindsFor_67, dX7_kindsFor_70, dX7_kindsFor_73, dX7_kindsFor_74, dX7_kindsFor_77, dX7_kindsFor_78, dX7_kindsFor_79, dX7_kindsFor_82, dX7_kindsFor_83, dX7_kindsFor_84, dX7_kindsFor_85, cr_7_113, cr_7_126, cr_7_161, cr_7_75, cr_7_92, fr_7_9, kr_7_69, skr_7_69, al_10, al_11, al_12, al_13, al_14, al_16, al_17, al_18, al_19, al_2, al_20, al_21, al_23, al_24, al_27, al_28, al_29, al_3, al_30, al_31, al_32, al_34, al_36, al_37, al_38, al_39, al_4, al_40, al_41, al_42, al_43, al_45, al_46, al_47, al_48, al_49, al_5, al_52, al_53, al_54, al_55, al_56, al_57, al_58, al_6, al_60, al_61, al_62, al_63, al_64, al_65, al_66, al_67, al_69, al_7, al_70, al_71, al_72, al_73, al_9, cat_i, cat_l, cat_r, cat_u, gf_6_0_59, pcl_0, pcl_1, pcl_100, pcl_101, pcl_102, pcl_103, pcl_104, pcl_105, pcl_106, pcl_107, pcl_108, pcl_109, pcl_110, pcl_111, pcl_112, pcl_15, pcl_22, pcl_25, pcl_26, pcl_33, pcl_44, pcl_50, pcl_59, pcl_8, rOK_i, rOK_z, v_aload_0, v_bipush_12, v_bipush_6, v_getfield, v_goto, v_iastore, v_ic_gt, v_ic_ne, v_iconst_0, v_iconst_1, v_if_ne, v_iinc_4, v_iload_1, v_iload_2, v_iload_3, v_iload_4, v_invs, v_invv, v_ior, v_ireturn, v_ishl, v_istore_2, v_istore_3, v_istore_4, v_ldc, vcS_2_1, vcV_2_6, vcV_3_6, vgf_i, vgf_r, vgf_s, vld_i, vld_s, vc_d, rr_0, rr_1, csT_h, csT_t, csT_n, bI_0, bI_1, bI_z, bT, List.mem_cons, List.not_mem_nil, List.length_cons, List.length_nil, ite_not, ↓reduceIte, true_and, and_true, not_true_eq_false, not_false_eq_true, false_or, or_false, or_true, true_or, Nat.reduceAdd, Nat.reduceEqDiff, Nat.reduceBEq, Nat.reduceLeDiff, Nat.reduceLT, Nat.reduceSub, Int.reduceAdd, Int.reduceLE, Int.reduceLT, Int.reduceToNat, Int.reduceNeg, Int.reduceNatCast', reduceCtorEq, Int32.reduceOfInt, Int32.reduceOfNat, Int32.reduceToNatClampNeg, Int32.reduceToInt, i10, i01, nEM, pe_X7_isWalker, pe_X7_walkerIs, fn_0, fn_1, fn_2, fn_3, fn_4, fn_5, fn_6, hI, Int32.reduceLT, Int32.reduceLE, not_false_eq_true]
    by_cases h1 : hasM (M 60) w
    · rw [if_pos h1] at h ⊢
      have hw := hasM_o h1
      obtain ⟨i, hi, rfl⟩ := wOK_n hw
      rw [nI_clamp (show i < 2 ^ 31 by omega)] at h ⊢
      refine ⟨hw, ?_⟩
      have := lp_kindsForM (d := d) (by omega) (M := M) (k := k) hi 7 0 0 (M 62) (M 60 (wf i 0)) rfl h
      rw [j2_0] at this
      exact this
    · rw [if_neg h1] at h ⊢
      exact h

theorem s_X7_kindsFor {d : Nat} (hd : 8 ≤ d) : Snd d 174 pf_X7_kindsFor := by
  intro args M k h
  unfold pf_X7_kindsFor at h
  split at h
  · exact c_X7_kindsFor hd h
  · exact h.elim
