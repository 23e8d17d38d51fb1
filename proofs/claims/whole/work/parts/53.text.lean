/-! X: text -/
theorem becM_out {M : Mem} {b o p : Nat} (h : p < b ∨ b + 6 < p) : becM M b o p = M p := by
  unfold becM mset
  rw [mrow_n (bq (by omega)), mrow_n (bq (by omega)), mrow_n (bq (by omega)), mrow_n (bq (by omega)), mrow_n (bq (by omega)), mrow_n (bq (by omega)), mrow_n (bq (by omega)), mrow_n (bq (by omega)), mrow_n (bq (by omega)), mrow_n (bq (by omega))]
theorem becM_at6 {M : Mem} {b o : Nat} : becM M b o b 6 = M o 6 := by
  unfold becM
  rw [mset_s, upd_n (by decide), mset_s, upd_n (by decide), mset_s, upd_n (by decide), mset_s, upd_s]
def txR (M : Mem) : Int32 × Mem := rdP (becM M 15 1) (M 44 1).toNatClampNeg
def pf_X6_text : PF := fun args M k => match args with
  | [.ref o] => (o = 0 ∧ (∃ N, M 44 1 = nI N ∧ N ≤ 120) ∧ ∃ n, n ≤ 6 ∧ M 1 6 = nI n) ∧ (k (.int (txR M).1) (if (txR M).1 < 0 then mset (txR M).2 44 1 0 else becM (mset (txR M).2 44 1 0) 1 15))
  | _ => False
theorem pe_X6_text {o : Nat} {M : Mem} {k : Value → Mem → Prop} : pf_X6_text [.ref o] M k = ((o = 0 ∧ (∃ N, M 44 1 = nI N ∧ N ≤ 120) ∧ ∃ n, n ≤ 6 ∧ M 1 6 = nI n) ∧ (k (.int (txR M).1) (if (txR M).1 < 0 then mset (txR M).2 44 1 0 else becM (mset (txR M).2 44 1 0) 1 15))) := rfl
set_option maxRecDepth 100000 in
set_option maxHeartbeats 4000000 in
theorem c_X6_text {d : Nat} (hd : 8 ≤ d) {o : Nat} {M : Mem} {k : Value → Mem → Prop} (h : (o = 0 ∧ (∃ N, M 44 1 = nI N ∧ N ≤ 120) ∧ ∃ n, n ≤ 6 ∧ M 1 6 = nI n) ∧ (k (.int (txR M).1) (if (txR M).1 < 0 then mset (txR M).2 44 1 0 else becM (mset (txR M).2 44 1 0) 1 15))) : CallP d 90 [.ref o] M k := by
  obtain ⟨hp, h⟩ := h
  obtain ⟨d, rfl⟩ : ∃ d', d = d' + 1 := ⟨d - 1, by omega⟩
  obtain ⟨rfl, ⟨N, hN, hl⟩, n, hn, hw⟩ := hp
  · refine enterV (n := 80) [(1, pf_X0_become), (29, pf_X3_read)] [] mI_90 (by decide) (Nat.le_of_ble_eq_true rfl) (T_cons (s_X0_become (by omega)) (T_cons (s_X3_read (by omega)) T_nil)) ?_
    rw [show lent 2 ([.ref 0] : List Value) = [.ref 0, .retAddr 0] from rfl]
    have e44 : becM M 15 1 44 = M 44 := becM_out (by decide)
    have e6 : becM M 15 1 15 6 = M 1 6 := becM_at6
    have x1 : (∃ N, becM M 15 1 44 1 = nI N ∧ N ≤ 120) = True := eq_true ⟨N, by rw [e44]; exact hN, hl⟩
    have x2 : w6 (becM M 15 1) = True := eq_true ⟨n, hn, by rw [e6]; exact hw⟩
    have er : rdP (becM M 15 1) (becM M 15 1 44 1).toNatClampNeg = txR M := by
      unfold txR
      rw [e44]
    clear hN hl hn hw
    generalize hR : txR M = R at h er
    generalize hB : becM M 15 1 = B at x1 x2 er
    clear hR e44 e6
    obtain ⟨r1, r2⟩ := R
    by_cases h1 : r1 < 0
    · rw [if_pos h1] at h
      simp only [dX6_text_0, dX6_text_1, dX6_text_4, dX6_text_5, dX6_text_8, dX6_text_11, dX6_text_12, dX6_text_15, dX6_text_16, dX6_text_19, dX6_text_22, dX6_text_23, dX6_text_24, dX6_text_27, dX6_text_28, dX6_text_31, dX6_text_32, dX6_text_35, dX6_text_36, dX6_text_39, dX6_text_40, dX6_text_43, dX6_text_46, dX6_text_47, cr_6_240, cr_6_243, fr_6_12, fr_6_19, fr_6_234, fr_6_43, al_10, al_11, al_12, al_13, al_14, al_16, al_17, al_18, al_19, al_2, al_20, al_21, al_23, al_24, al_27, al_28, al_29, al_3, al_30, al_31, al_32, al_34, al_36, al_37, al_38, al_39, al_4, al_40, al_41, al_42, al_43, al_45, al_46, al_47, al_48, al_49, al_5, al_52, al_53, al_54, al_55, al_56, al_57, al_58, al_6, al_60, al_61, al_62, al_63, al_64, al_65, al_66, al_67, al_69, al_7, al_70, al_71, al_72, al_73, al_9, cat_i, cat_l, cat_r, cat_u, gf_2_1_44, gf_5_0_0, gf_5_2_0, gf_5_6_0, pcl_0, pcl_1, pcl_100, pcl_101, pcl_102, pcl_103, pcl_104, pcl_105, pcl_106, pcl_107, pcl_108, pcl_109, pcl_110, pcl_111, pcl_112, pcl_15, pcl_22, pcl_25, pcl_26, pcl_33, pcl_44, pcl_50, pcl_59, pcl_8, pft_2_1, rOK_i, rOK_z, v_aload_0, v_getfield, v_iconst_0, v_if_lt, v_iload_1, v_invv, v_ireturn, v_istore_1, v_putfield, vcV_2_0, vcV_2_2, vgf_i, vgf_r, vgf_s, vpf_s, vc_d, rr_0, rr_1, csT_h, csT_t, csT_n, bI_0, bI_1, bI_z, bT, List.mem_cons, List.not_mem_nil, List.length_cons, List.length_nil, ite_not, ↓reduceIte, true_and, and_true, not_true_eq_false, not_false_eq_true, false_or, or_false, or_true, true_or, Nat.reduceAdd, Nat.reduceEqDiff, Nat.reduceBEq, Nat.reduceLeDiff, Nat.reduceLT, Nat.reduceSub, Int.reduceAdd, Int.reduceLE, Int.reduceLT, Int.reduceToNat, Int.reduceNeg, Int.reduceNatCast', reduceCtorEq, Int32.reduceOfInt, Int32.reduceOfNat, Int32.reduceToNatClampNeg, Int32.reduceToInt, i10, i01, pe_X0_become, pe_X3_read, hB, x1, x2, er, h1]
      exact h
    · rw [if_neg h1] at h
      simp only [dX6_text_0, dX6_text_1, dX6_text_4, dX6_text_5, dX6_text_8, dX6_text_11, dX6_text_12, dX6_text_15, dX6_text_16, dX6_text_19, dX6_text_22, dX6_text_23, dX6_text_24, dX6_text_27, dX6_text_28, dX6_text_31, dX6_text_32, dX6_text_35, dX6_text_36, dX6_text_39, dX6_text_40, dX6_text_43, dX6_text_46, dX6_text_47, cr_6_240, cr_6_243, fr_6_12, fr_6_19, fr_6_234, fr_6_43, al_10, al_11, al_12, al_13, al_14, al_16, al_17, al_18, al_19, al_2, al_20, al_21, al_23, al_24, al_27, al_28, al_29, al_3, al_30, al_31, al_32, al_34, al_36, al_37, al_38, al_39, al_4, al_40, al_41, al_42, al_43, al_45, al_46, al_47, al_48, al_49, al_5, al_52, al_53, al_54, al_55, al_56, al_57, al_58, al_6, al_60, al_61, al_62, al_63, al_64, al_65, al_66, al_67, al_69, al_7, al_70, al_71, al_72, al_73, al_9, cat_i, cat_l, cat_r, cat_u, gf_2_1_44, gf_5_0_0, gf_5_2_0, gf_5_6_0, pcl_0, pcl_1, pcl_100, pcl_101, pcl_102, pcl_103, pcl_104, pcl_105, pcl_106, pcl_107, pcl_108, pcl_109, pcl_110, pcl_111, pcl_112, pcl_15, pcl_22, pcl_25, pcl_26, pcl_33, pcl_44, pcl_50, pcl_59, pcl_8, pft_2_1, rOK_i, rOK_z, v_aload_0, v_getfield, v_iconst_0, v_if_lt, v_iload_1, v_invv, v_ireturn, v_istore_1, v_putfield, vcV_2_0, vcV_2_2, vgf_i, vgf_r, vgf_s, vpf_s, vc_d, rr_0, rr_1, csT_h, csT_t, csT_n, bI_0, bI_1, bI_z, bT, List.mem_cons, List.not_mem_nil, List.length_cons, List.length_nil, ite_not, ↓reduceIte, true_and, and_true, not_true_eq_false, not_false_eq_true, false_or, or_false, or_true, true_or, Nat.reduceAdd, Nat.reduceEqDiff, Nat.reduceBEq, Nat.reduceLeDiff, Nat.reduceLT, Nat.reduceSub, Int.reduceAdd, Int.reduceLE, Int.reduceLT, Int.reduceToNat, Int.reduceNeg, Int.reduceNatCast', reduceCtorEq, Int32.reduceOfInt, Int32.reduceOfNat, Int32.reduceToNatClampNeg, Int32.reduceToInt, i10, i01, pe_X0_become, pe_X3_read, hB, x1, x2, er, h1]
      exact h

theorem s_X6_text {d : Nat} (hd : 8 ≤ d) : Snd d 90 pf_X6_text := by
  intro args M k h
  unfold pf_X6_text at h
  split at h
  · exact c_X6_text hd h
  · exact h.elim
