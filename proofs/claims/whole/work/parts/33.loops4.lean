/-! X: strangers, odds, feed, load, judge, crowd -/
theorem zO_n (z : Int32) : ∃ m, m < 2 ^ 24 ∧ zO z = nI m := by
  have h := pk_ushr z 8 8 (by decide)
  have hz : z.toBitVec.toNat < 2 ^ 32 := z.toBitVec.isLt
  refine ⟨z.toBitVec.toNat / 2 ^ 8, by omega, ?_⟩
  apply Int32.toBitVec_inj.1
  apply BitVec.eq_of_toNat_eq
  rw [show (zO z).toBitVec.toNat = z.toBitVec.toNat / 2 ^ 8 from h]
  exact (pk_tn (by omega)).symm
/-- a draw's rest -/
def rmF (z m : Int32) : Int32 := zO z - zO z / m * m
theorem rm_n (z : Int32) {m : Nat} (h0 : 0 < m) (hm : m < 2 ^ 31) : ∃ j, j < m ∧ rmF z (nI m) = nI j := by
  obtain ⟨q, hq, e⟩ := zO_n z
  refine ⟨q % m, Nat.mod_lt _ h0, ?_⟩
  unfold rmF
  rw [e]
  exact pk_rem (by omega) h0 hm
theorem rm_P (z : Int32) : isP (rmF z 12) := by
  obtain ⟨j, hj, e⟩ := rm_n z (m := 12) (by decide) (by decide)
  have e : rmF z 12 = nI j := e
  rw [e]
  exact ⟨nI_pos (by omega), nI_ge (b := 12) hj (by decide)⟩
def sgF : Nat → Int32 → (Nat → Int32) → Int32 × (Nat → Int32)
  | 0, z, r => (z, r)
  | n + 1, z, r => sgF n (zN (zN z)) (upd r (rmF (zN z) 12).toNatClampNeg (rmF (zN (zN z)) 100))
set_option maxRecDepth 100000 in
set_option maxHeartbeats 4000000 in
theorem lp_strangers {d : Nat} (hd : 1 ≤ d) {M : Mem} {k : Value → Mem → Prop} {m : Nat} (hm : m ≤ 20) : ∀ (n i : Nat) (z : Int32) (r : Nat → Int32) (x3 x4 : Value), x3.category = 1 → i + n = m → k (.int (sumF (sgF n z r).2 12 0 0)) (mset (mrow M 2 (sgF n z r).2) 1 9 (sgF n z r).1) → WP (6, yX6_strangers, cX6_strangers, 5, (some .int)) (d + 1) k 20 [.ref 0, .int (nI m), .int (nI i), x3, x4] [] (mset (mrow M 2 r) 1 9 z) := by
  intro n
  induction n with
  | zero =>
    intro i z r x3 x4 h3 hi h
    have c1 : nI m ≤ nI i := nI_le (by omega) (by omega)
    refine goV (n := 80) [(111, pf_X6_sum)] [20] (T_cons (s_X6_sum hd) T_nil) ?_
    simp only [dX6_strangers_0, dX6_strangers_1, dX6_strangers_2, dX6_strangers_5, dX6_strangers_6, dX6_strangers_8, dX6_strangers_11, dX6_strangers_12, dX6_strangers_14, dX6_strangers_17, dX6_strangers_18, dX6_strangers_19, dX6_strangers_20, dX6_strangers_21, dX6_strangers_22, dX6_strangers_25, dX6_strangers_26, dX6_strangers_29, dX6_strangers_32, dX6_strangers_34, dX6_strangers_35, dX6_strangers_36, dX6_strangers_37, dX6_strangers_40, dX6_strangers_43, dX6_strangers_45, dX6_strangers_46, dX6_strangers_48, dX6_strangers_49, dX6_strangers_52, dX6_strangers_55, dX6_strangers_56, dX6_strangers_59, dX6_strangers_62, dX6_strangers_63, dX6_strangers_65, dX6_strangers_66, dX6_strangers_69, dX6_strangers_72, dX6_strangers_73, dX6_strangers_76, dX6_strangers_79, dX6_strangers_81, dX6_strangers_84, cr_6_137, cr_6_221, cr_6_61, cr_6_69, fr_6_12, fr_6_73, kr_6_68, skr_6_68, al_10, al_11, al_12, al_13, al_14, al_16, al_17, al_18, al_19, al_2, al_20, al_21, al_23, al_24, al_27, al_28, al_29, al_3, al_30, al_31, al_32, al_34, al_36, al_37, al_38, al_39, al_4, al_40, al_41, al_42, al_43, al_45, al_46, al_47, al_48, al_49, al_5, al_52, al_53, al_54, al_55, al_56, al_57, al_58, al_6, al_60, al_61, al_62, al_63, al_64, al_65, al_66, al_67, al_69, al_7, al_70, al_71, al_72, al_73, al_9, cat_i, cat_l, cat_r, cat_u, gf_0_0_1, gf_0_0_15, gf_0_0_26, gf_0_0_8, gf_5_0_0, pcl_0, pcl_1, pcl_100, pcl_101, pcl_102, pcl_103, pcl_104, pcl_105, pcl_106, pcl_107, pcl_108, pcl_109, pcl_110, pcl_111, pcl_112, pcl_15, pcl_22, pcl_25, pcl_26, pcl_33, pcl_44, pcl_50, pcl_59, pcl_8, rOK_i, rOK_z, v_aload_0, v_bipush_100, v_bipush_12, v_bipush_20, v_getfield, v_goto, v_iastore, v_ic_ge, v_ic_le, v_ic_lt, v_iconst_0, v_iconst_1, v_if_eq, v_iinc_2, v_iload_1, v_iload_2, v_iload_3, v_iload_4, v_invs, v_invv, v_irem, v_ireturn, v_istore_2, v_istore_3, v_istore_4, v_ldc, vcS_1_1, vcS_2_1, vcV_1_0, vcV_2_5, vgf_i, vgf_r, vgf_s, vld_i, vld_s, vc_d, rr_0, rr_1, csT_h, csT_t, csT_n, bI_0, bI_1, bI_z, bT, List.mem_cons, List.not_mem_nil, List.length_cons, List.length_nil, ite_not, ↓reduceIte, true_and, and_true, not_true_eq_false, not_false_eq_true, false_or, or_false, or_true, true_or, Nat.reduceAdd, Nat.reduceEqDiff, Nat.reduceBEq, Nat.reduceLeDiff, Nat.reduceLT, Nat.reduceSub, Int.reduceAdd, Int.reduceLE, Int.reduceLT, Int.reduceToNat, Int.reduceNeg, Int.reduceNatCast', reduceCtorEq, Int32.reduceOfInt, Int32.reduceOfNat, Int32.reduceToNatClampNeg, Int32.reduceToInt, i10, i01, pe_X6_sum, c1, mset_n, mrow_s, Int32.reduceLT, not_false_eq_true]
    exact h
  | succ n ih =>
    intro i z r x3 x4 h3 hi h
    have c1 : ¬ nI m ≤ nI i := nI_ge (by omega) (by omega)
    have e12 : zO (zN z) - zO (zN z) / 12 * 12 = rmF (zN z) 12 := rfl
    have e100 : zO (zN (zN z)) - zO (zN (zN z)) / 100 * 100 = rmF (zN (zN z)) 100 := rfl
    have hP := rm_P (zN z)
    refine goV (n := 80) [(8, pf_X0_draw), (104, pf_X6_isPlank)] [20] (T_cons (s_X0_draw hd) (T_cons (s_X6_isPlank hd) T_nil)) ?_
    simp only [dX6_strangers_0, dX6_strangers_1, dX6_strangers_2, dX6_strangers_5, dX6_strangers_6, dX6_strangers_8, dX6_strangers_11, dX6_strangers_12, dX6_strangers_14, dX6_strangers_17, dX6_strangers_18, dX6_strangers_19, dX6_strangers_20, dX6_strangers_21, dX6_strangers_22, dX6_strangers_25, dX6_strangers_26, dX6_strangers_29, dX6_strangers_32, dX6_strangers_34, dX6_strangers_35, dX6_strangers_36, dX6_strangers_37, dX6_strangers_40, dX6_strangers_43, dX6_strangers_45, dX6_strangers_46, dX6_strangers_48, dX6_strangers_49, dX6_strangers_52, dX6_strangers_55, dX6_strangers_56, dX6_strangers_59, dX6_strangers_62, dX6_strangers_63, dX6_strangers_65, dX6_strangers_66, dX6_strangers_69, dX6_strangers_72, dX6_strangers_73, dX6_strangers_76, dX6_strangers_79, dX6_strangers_81, dX6_strangers_84, cr_6_137, cr_6_221, cr_6_61, cr_6_69, fr_6_12, fr_6_73, kr_6_68, skr_6_68, al_10, al_11, al_12, al_13, al_14, al_16, al_17, al_18, al_19, al_2, al_20, al_21, al_23, al_24, al_27, al_28, al_29, al_3, al_30, al_31, al_32, al_34, al_36, al_37, al_38, al_39, al_4, al_40, al_41, al_42, al_43, al_45, al_46, al_47, al_48, al_49, al_5, al_52, al_53, al_54, al_55, al_56, al_57, al_58, al_6, al_60, al_61, al_62, al_63, al_64, al_65, al_66, al_67, al_69, al_7, al_70, al_71, al_72, al_73, al_9, cat_i, cat_l, cat_r, cat_u, gf_0_0_1, gf_0_0_15, gf_0_0_26, gf_0_0_8, gf_5_0_0, pcl_0, pcl_1, pcl_100, pcl_101, pcl_102, pcl_103, pcl_104, pcl_105, pcl_106, pcl_107, pcl_108, pcl_109, pcl_110, pcl_111, pcl_112, pcl_15, pcl_22, pcl_25, pcl_26, pcl_33, pcl_44, pcl_50, pcl_59, pcl_8, rOK_i, rOK_z, v_aload_0, v_bipush_100, v_bipush_12, v_bipush_20, v_getfield, v_goto, v_iastore, v_ic_ge, v_ic_le, v_ic_lt, v_iconst_0, v_iconst_1, v_if_eq, v_iinc_2, v_iload_1, v_iload_2, v_iload_3, v_iload_4, v_invs, v_invv, v_irem, v_ireturn, v_istore_2, v_istore_3, v_istore_4, v_ldc, vcS_1_1, vcS_2_1, vcV_1_0, vcV_2_5, vgf_i, vgf_r, vgf_s, vld_i, vld_s, vc_d, rr_0, rr_1, csT_h, csT_t, csT_n, bI_0, bI_1, bI_z, bT, List.mem_cons, List.not_mem_nil, List.length_cons, List.length_nil, ite_not, ↓reduceIte, true_and, and_true, not_true_eq_false, not_false_eq_true, false_or, or_false, or_true, true_or, Nat.reduceAdd, Nat.reduceEqDiff, Nat.reduceBEq, Nat.reduceLeDiff, Nat.reduceLT, Nat.reduceSub, Int.reduceAdd, Int.reduceLE, Int.reduceLT, Int.reduceToNat, Int.reduceNeg, Int.reduceNatCast', reduceCtorEq, Int32.reduceOfInt, Int32.reduceOfNat, Int32.reduceToNatClampNeg, Int32.reduceToInt, i10, i01, pe_X0_draw, pe_X6_isPlank, c1, mset_s, mset_n, upd_s, mset_mset, nI_1, e12, e100, hP, h3, not_false_eq_true]
    refine ⟨by decide, by decide, bd hP.1 hP.2 rfl, ?_⟩
    rw [sgF] at h
    have e : mset (mset (mrow M 2 r) 1 9 (zN (zN z))) 2 (rmF (zN z) 12).toNatClampNeg (rmF (zN (zN z)) 100) = mset (mrow M 2 (upd r (rmF (zN z) 12).toNatClampNeg (rmF (zN (zN z)) 100))) 1 9 (zN (zN z)) := by
      funext y
      unfold mset mrow
      by_cases y1 : y = 1
      · subst y1
        simp
      · by_cases y2 : y = 2
        · subst y2
          simp
        · simp [y1, y2]
    rw [e]
    exact ih (i + 1) _ _ _ _ rfl (by omega) h
def pf_X6_strangers : PF := fun args M k => match args with
  | [.ref o, .int n] => (o = 0) ∧ (if ¬ n < 1 ∧ n ≤ 20 then k (.int (sumF (sgF (n).toNatClampNeg (M 1 9) (M 2)).2 12 0 0)) (mset (mrow M 2 (sgF (n).toNatClampNeg (M 1 9) (M 2)).2) 1 9 (sgF (n).toNatClampNeg (M 1 9) (M 2)).1) else k (.int (-1000001)) (tellM M 0))
  | _ => False
theorem pe_X6_strangers {o : Nat} {n : Int32} {M : Mem} {k : Value → Mem → Prop} : pf_X6_strangers [.ref o, .int n] M k = ((o = 0) ∧ (if ¬ n < 1 ∧ n ≤ 20 then k (.int (sumF (sgF (n).toNatClampNeg (M 1 9) (M 2)).2 12 0 0)) (mset (mrow M 2 (sgF (n).toNatClampNeg (M 1 9) (M 2)).2) 1 9 (sgF (n).toNatClampNeg (M 1 9) (M 2)).1) else k (.int (-1000001)) (tellM M 0))) := rfl
set_option maxRecDepth 100000 in
set_option maxHeartbeats 4000000 in
theorem c_X6_strangers {d : Nat} (hd : 2 ≤ d) {o : Nat} {n : Int32} {M : Mem} {k : Value → Mem → Prop} (h : (o = 0) ∧ (if ¬ n < 1 ∧ n ≤ 20 then k (.int (sumF (sgF (n).toNatClampNeg (M 1 9) (M 2)).2 12 0 0)) (mset (mrow M 2 (sgF (n).toNatClampNeg (M 1 9) (M 2)).2) 1 9 (sgF (n).toNatClampNeg (M 1 9) (M 2)).1) else k (.int (-1000001)) (tellM M 0))) : CallP d 85 [.ref o, .int n] M k := by
  obtain ⟨hp, h⟩ := h
  obtain ⟨d, rfl⟩ : ∃ d', d = d' + 1 := ⟨d - 1, by omega⟩
  obtain rfl := hp
  · refine enterV (n := 80) [(103, pf_X6_tell)] [20] mI_85 (by decide) (Nat.le_of_ble_eq_true rfl) (T_cons (s_X6_tell (by omega)) T_nil) ?_
    rw [show lent 5 ([.ref 0, .int n] : List Value) = [.ref 0, .int n, .retAddr 0, .retAddr 0, .retAddr 0] from rfl]
    simp only [dX6_strangers_0, dX6_strangers_1, dX6_strangers_2, dX6_strangers_5, dX6_strangers_6, dX6_strangers_8, dX6_strangers_11, dX6_strangers_12, dX6_strangers_14, dX6_strangers_17, dX6_strangers_18, dX6_strangers_19, dX6_strangers_20, dX6_strangers_21, dX6_strangers_22, dX6_strangers_25, dX6_strangers_26, dX6_strangers_29, dX6_strangers_32, dX6_strangers_34, dX6_strangers_35, dX6_strangers_36, dX6_strangers_37, dX6_strangers_40, dX6_strangers_43, dX6_strangers_45, dX6_strangers_46, dX6_strangers_48, dX6_strangers_49, dX6_strangers_52, dX6_strangers_55, dX6_strangers_56, dX6_strangers_59, dX6_strangers_62, dX6_strangers_63, dX6_strangers_65, dX6_strangers_66, dX6_strangers_69, dX6_strangers_72, dX6_strangers_73, dX6_strangers_76, dX6_strangers_79, dX6_strangers_81, dX6_strangers_84, cr_6_137, cr_6_221, cr_6_61, cr_6_69, fr_6_12, fr_6_73, kr_6_68, skr_6_68, al_10, al_11, al_12, al_13, al_14, al_16, al_17, al_18, al_19, al_2, al_20, al_21, al_23, al_24, al_27, al_28, al_29, al_3, al_30, al_31, al_32, al_34, al_36, al_37, al_38, al_39, al_4, al_40, al_41, al_42, al_43, al_45, al_46, al_47, al_48, al_49, al_5, al_52, al_53, al_54, al_55, al_56, al_57, al_58, al_6, al_60, al_61, al_62, al_63, al_64, al_65, al_66, al_67, al_69, al_7, al_70, al_71, al_72, al_73, al_9, cat_i, cat_l, cat_r, cat_u, gf_0_0_1, gf_0_0_15, gf_0_0_26, gf_0_0_8, gf_5_0_0, pcl_0, pcl_1, pcl_100, pcl_101, pcl_102, pcl_103, pcl_104, pcl_105, pcl_106, pcl_107, pcl_108, pcl_109, pcl_110, pcl_111, pcl_112, pcl_15, pcl_22, pcl_25, pcl_26, pcl_33, pcl_44, pcl_50, pcl_59, pcl_8, rOK_i, rOK_z, v_aload_0, v_bipush_100, v_bipush_12, v_bipush_20, v_getfield, v_goto, v_iastore, v_ic_ge, v_ic_le, v_ic_lt, v_iconst_0, v_iconst_1, v_if_eq, v_iinc_2, v_iload_1, v_iload_2, v_iload_3, v_iload_4, v_invs, v_invv, v_irem, v_ireturn, v_istore_2, v_istore_3, v_istore_4, v_ldc, vcS_1_1, vcS_2_1, vcV_1_0, vcV_2_5, vgf_i, vgf_r, vgf_s, vld_i, vld_s, vc_d, rr_0, rr_1, csT_h, csT_t, csT_n, bI_0, bI_1, bI_z, bT, List.mem_cons, List.not_mem_nil, List.length_cons, List.length_nil, ite_not, ↓reduceIte, true_and, and_true, not_true_eq_false, not_false_eq_true, false_or, or_false, or_true, true_or, Nat.reduceAdd, Nat.reduceEqDiff, Nat.reduceBEq, Nat.reduceLeDiff, Nat.reduceLT, Nat.reduceSub, Int.reduceAdd, Int.reduceLE, Int.reduceLT, Int.reduceToNat, Int.reduceNeg, Int.reduceNatCast', reduceCtorEq, Int32.reduceOfInt, Int32.reduceOfNat, Int32.reduceToNatClampNeg, Int32.reduceToInt, i10, i01, tl_0, tl_1, tl_2, tl_3, tl_4, tl_5, tl_6]
    by_cases h1 : n < 1
    · rw [if_neg (fun z => z.1 h1)] at h
      rw [if_pos h1]
      exact h
    · rw [if_neg h1]
      by_cases h2 : n ≤ 20
      · rw [if_pos ⟨h1, h2⟩] at h
        rw [if_pos h2]
        obtain ⟨m, hm, rfl⟩ := nI_of2 (M := 20) (n := 20) rfl (fun z => h1 (by
          rw [Int32.lt_iff_toInt_lt] at z ⊢
          simp only [Int32.reduceToInt] at z ⊢
          omega)) h2
        rw [nI_clamp (by omega)] at h
        have e : mset (mrow M 2 (M 2)) 1 9 (M 1 9) = M := by
          rw [mrow_self]
          unfold mset
          have : upd (M 1) 9 (M 1 9) = M 1 := by
            funext j
            unfold upd
            split
            · rename_i e; rw [e]
            · rfl
          rw [this, mrow_self]
        have := lp_strangers (d := d) (by omega) (k := k) (M := M) hm m 0 (M 1 9) (M 2) (.retAddr 0) (.retAddr 0) rfl (by omega) h
        rw [e] at this
        exact this
      · rw [if_neg (fun z => h2 z.2)] at h
        rw [if_neg h2]
        exact h

theorem s_X6_strangers {d : Nat} (hd : 2 ≤ d) : Snd d 85 pf_X6_strangers := by
  intro args M k h
  unfold pf_X6_strangers at h
  split at h
  · exact c_X6_strangers hd h
  · exact h.elim
def putM (M : Mem) (v : Int32) : Mem := mset (mset M 45 (M 44 1).toNatClampNeg v) 44 1 (M 44 1 + 1)
def pf_X3_put : PF := fun args M k => match args with
  | [.ref o, .int v] => (o = 44 ∧ ¬ M 44 1 < 0 ∧ ¬ 120 ≤ M 44 1) ∧ (k (.int 0) (putM M v))
  | _ => False
theorem pe_X3_put {o : Nat} {v : Int32} {M : Mem} {k : Value → Mem → Prop} : pf_X3_put [.ref o, .int v] M k = ((o = 44 ∧ ¬ M 44 1 < 0 ∧ ¬ 120 ≤ M 44 1) ∧ (k (.int 0) (putM M v))) := rfl
set_option maxRecDepth 100000 in
set_option maxHeartbeats 4000000 in
theorem c_X3_put {d : Nat} (hd : 1 ≤ d) {o : Nat} {v : Int32} {M : Mem} {k : Value → Mem → Prop} (h : (o = 44 ∧ ¬ M 44 1 < 0 ∧ ¬ 120 ≤ M 44 1) ∧ (k (.int 0) (putM M v))) : CallP d 28 [.ref o, .int v] M k := by
  obtain ⟨hp, h⟩ := h
  obtain ⟨d, rfl⟩ : ∃ d', d = d' + 1 := ⟨d - 1, by omega⟩
  obtain ⟨rfl, h1, h2⟩ := hp
  · refine enterV (n := 80) [] [] mI_28 (by decide) (Nat.le_of_ble_eq_true rfl) T_nil ?_
    rw [show lent 2 ([.ref 44, .int v] : List Value) = [.ref 44, .int v] from rfl]
    have h3 : 0 ≤ M 44 1 := Int32.not_lt.mp h1
    simp only [dX3_put_0, dX3_put_1, dX3_put_4, dX3_put_7, dX3_put_8, dX3_put_11, dX3_put_13, dX3_put_16, dX3_put_17, dX3_put_20, dX3_put_21, dX3_put_24, dX3_put_25, dX3_put_26, dX3_put_27, dX3_put_28, dX3_put_31, dX3_put_32, dX3_put_33, dX3_put_36, fr_3_15, fr_3_9, al_10, al_11, al_12, al_13, al_14, al_16, al_17, al_18, al_19, al_2, al_20, al_21, al_23, al_24, al_27, al_28, al_29, al_3, al_30, al_31, al_32, al_34, al_36, al_37, al_38, al_39, al_4, al_40, al_41, al_42, al_43, al_45, al_46, al_47, al_48, al_49, al_5, al_52, al_53, al_54, al_55, al_56, al_57, al_58, al_6, al_60, al_61, al_62, al_63, al_64, al_65, al_66, al_67, al_69, al_7, al_70, al_71, al_72, al_73, al_9, cat_i, cat_l, cat_r, cat_u, gf_2_0_44, gf_2_1_44, pft_2_1, v_aload_0, v_bipush_120, v_dup, v_getfield, v_iadd, v_iastore, v_ic_ge, v_iconst_1, v_if_lt, v_iload_1, v_putfield, v_return, vgf_i, vgf_r, vgf_s, vpf_s, vc_d, rr_0, rr_1, csT_h, csT_t, csT_n, bI_0, bI_1, bI_z, bT, List.mem_cons, List.not_mem_nil, List.length_cons, List.length_nil, ite_not, ↓reduceIte, true_and, and_true, not_true_eq_false, not_false_eq_true, false_or, or_false, or_true, true_or, Nat.reduceAdd, Nat.reduceEqDiff, Nat.reduceBEq, Nat.reduceLeDiff, Nat.reduceLT, Nat.reduceSub, Int.reduceAdd, Int.reduceLE, Int.reduceLT, Int.reduceToNat, Int.reduceNeg, Int.reduceNatCast', reduceCtorEq, Int32.reduceOfInt, Int32.reduceOfNat, Int32.reduceToNatClampNeg, Int32.reduceToInt, i10, i01, h1, h2, mset_n]
    exact ⟨bd h1 h2 rfl, h⟩

theorem s_X3_put {d : Nat} (hd : 1 ≤ d) : Snd d 28 pf_X3_put := by
  intro args M k h
  unfold pf_X3_put at h
  split at h
  · exact c_X3_put hd h
  · exact h.elim
theorem put_44 {M : Mem} {v : Int32} : putM M v 44 1 = M 44 1 + 1 := by
  unfold putM
  rw [mset_s, upd_s]
/-- byte m of a number -/
def byX (x : Int32) (m : Int32) : Int32 := us x (8 * m) &&& 255
/-- the bytes m - 1 .. 0 go to the tape -/
def fdS (x : Int32) : Nat → Mem → Mem
  | 0, M => M
  | m + 1, M => fdS x m (putM M (byX x (nI m)))
theorem fdS_44 {x : Int32} : ∀ (m : Nat) (M : Mem) (t : Nat), M 44 1 = nI t → fdS x m M 44 1 = nI (t + m) := by
  intro m
  induction m with
  | zero => intro M t h; exact h
  | succ m ih =>
    intro M t h
    rw [fdS, ih _ (t + 1) (by rw [put_44, h, nI_1]), show t + 1 + m = t + (m + 1) by omega]
set_option maxRecDepth 100000 in
set_option maxHeartbeats 4000000 in
theorem lp_feed {d : Nat} (hd : 1 ≤ d) {k : Value → Mem → Prop} {x n : Int32} : ∀ (m t : Nat) (M : Mem), m ≤ 4 → M 44 1 = nI t → t + m ≤ 120 → k (.int (fdS x m M 44 1)) (fdS x m M) → WP (6, yX6_feed, cX6_feed, 4, (some .int)) (d + 1) k 42 [.ref 0, .int x, .int n, .int (nI m - 1)] [] M := by
  intro m
  induction m with
  | zero =>
    intro t M hm ht hl h
    refine goV (n := 80) [(28, pf_X3_put)] [42] (T_cons (s_X3_put hd) T_nil) ?_
    simp only [dX6_feed_0, dX6_feed_1, dX6_feed_2, dX6_feed_5, dX6_feed_6, dX6_feed_7, dX6_feed_10, dX6_feed_11, dX6_feed_13, dX6_feed_16, dX6_feed_17, dX6_feed_18, dX6_feed_21, dX6_feed_24, dX6_feed_25, dX6_feed_26, dX6_feed_28, dX6_feed_31, dX6_feed_32, dX6_feed_34, dX6_feed_37, dX6_feed_38, dX6_feed_39, dX6_feed_40, dX6_feed_41, dX6_feed_42, dX6_feed_43, dX6_feed_46, dX6_feed_47, dX6_feed_50, dX6_feed_51, dX6_feed_53, dX6_feed_54, dX6_feed_55, dX6_feed_56, dX6_feed_59, dX6_feed_60, dX6_feed_63, dX6_feed_66, dX6_feed_69, dX6_feed_70, dX6_feed_73, dX6_feed_76, cr_6_237, cr_6_69, fr_6_234, fr_6_43, kr_6_68, kr_6_83, skr_6_68, skr_6_83, al_10, al_11, al_12, al_13, al_14, al_16, al_17, al_18, al_19, al_2, al_20, al_21, al_23, al_24, al_27, al_28, al_29, al_3, al_30, al_31, al_32, al_34, al_36, al_37, al_38, al_39, al_4, al_40, al_41, al_42, al_43, al_45, al_46, al_47, al_48, al_49, al_5, al_52, al_53, al_54, al_55, al_56, al_57, al_58, al_6, al_60, al_61, al_62, al_63, al_64, al_65, al_66, al_67, al_69, al_7, al_70, al_71, al_72, al_73, al_9, cat_i, cat_l, cat_r, cat_u, gf_2_1_44, gf_5_6_0, pcl_0, pcl_1, pcl_100, pcl_101, pcl_102, pcl_103, pcl_104, pcl_105, pcl_106, pcl_107, pcl_108, pcl_109, pcl_110, pcl_111, pcl_112, pcl_15, pcl_22, pcl_25, pcl_26, pcl_33, pcl_44, pcl_50, pcl_59, pcl_8, pft_2_1, rOK_i, rOK_z, v_aload_0, v_bipush_120, v_bipush_8, v_getfield, v_goto, v_iadd, v_iand, v_ic_le, v_ic_lt, v_iconst_1, v_iconst_4, v_if_lt, v_iinc_3, v_iload_1, v_iload_2, v_iload_3, v_imul, v_invv, v_ireturn, v_istore_3, v_isub, v_iushr, v_ldc, v_sipush_255, vcV_2_2, vcV_2_5, vgf_i, vgf_r, vgf_s, vld_i, vld_s, vc_d, rr_0, rr_1, csT_h, csT_t, csT_n, bI_0, bI_1, bI_z, bT, List.mem_cons, List.not_mem_nil, List.length_cons, List.length_nil, ite_not, ↓reduceIte, true_and, and_true, not_true_eq_false, not_false_eq_true, false_or, or_false, or_true, true_or, Nat.reduceAdd, Nat.reduceEqDiff, Nat.reduceBEq, Nat.reduceLeDiff, Nat.reduceLT, Nat.reduceSub, Int.reduceAdd, Int.reduceLE, Int.reduceLT, Int.reduceToNat, Int.reduceNeg, Int.reduceNatCast', reduceCtorEq, Int32.reduceOfInt, Int32.reduceOfNat, Int32.reduceToNatClampNeg, Int32.reduceToInt, i10, i01, show (nI 0 - 1 < 0) = True from by decide]
    exact h
  | succ m ih =>
    intro t M hm ht hl h
    have c1 : (nI (m + 1) - 1 < 0) = False := by rw [nI_pred]; exact eq_false (nI_pos (by omega))
    refine goV (n := 80) [(28, pf_X3_put)] [42] (T_cons (s_X3_put hd) T_nil) ?_
    simp only [dX6_feed_0, dX6_feed_1, dX6_feed_2, dX6_feed_5, dX6_feed_6, dX6_feed_7, dX6_feed_10, dX6_feed_11, dX6_feed_13, dX6_feed_16, dX6_feed_17, dX6_feed_18, dX6_feed_21, dX6_feed_24, dX6_feed_25, dX6_feed_26, dX6_feed_28, dX6_feed_31, dX6_feed_32, dX6_feed_34, dX6_feed_37, dX6_feed_38, dX6_feed_39, dX6_feed_40, dX6_feed_41, dX6_feed_42, dX6_feed_43, dX6_feed_46, dX6_feed_47, dX6_feed_50, dX6_feed_51, dX6_feed_53, dX6_feed_54, dX6_feed_55, dX6_feed_56, dX6_feed_59, dX6_feed_60, dX6_feed_63, dX6_feed_66, dX6_feed_69, dX6_feed_70, dX6_feed_73, dX6_feed_76, cr_6_237, cr_6_69, fr_6_234, fr_6_43, kr_6_68, kr_6_83, skr_6_68, skr_6_83, al_10, al_11, al_12, al_13, al_14, al_16, al_17, al_18, al_19, al_2, al_20, al_21, al_23, al_24, al_27, al_28, al_29, al_3, al_30, al_31, al_32, al_34, al_36, al_37, al_38, al_39, al_4, al_40, al_41, al_42, al_43, al_45, al_46, al_47, al_48, al_49, al_5, al_52, al_53, al_54, al_55, al_56, al_57, al_58, al_6, al_60, al_61, al_62, al_63, al_64, al_65, al_66, al_67, al_69, al_7, al_70, al_71, al_72, al_73, al_9, cat_i, cat_l, cat_r, cat_u, gf_2_1_44, gf_5_6_0, pcl_0, pcl_1, pcl_100, pcl_101, pcl_102, pcl_103, pcl_104, pcl_105, pcl_106, pcl_107, pcl_108, pcl_109, pcl_110, pcl_111, pcl_112, pcl_15, pcl_22, pcl_25, pcl_26, pcl_33, pcl_44, pcl_50, pcl_59, pcl_8, pft_2_1, rOK_i, rOK_z, v_aload_0, v_bipush_120, v_bipush_8, v_getfield, v_goto, v_iadd, v_iand, v_ic_le, v_ic_lt, v_iconst_1, v_iconst_4, v_if_lt, v_iinc_3, v_iload_1, v_iload_2, v_iload_3, v_imul, v_invv, v_ireturn, v_istore_3, v_isub, v_iushr, v_ldc, v_sipush_255, vcV_2_2, vcV_2_5, vgf_i, vgf_r, vgf_s, vld_i, vld_s, vc_d, rr_0, rr_1, csT_h, csT_t, csT_n, bI_0, bI_1, bI_z, bT, List.mem_cons, List.not_mem_nil, List.length_cons, List.length_nil, ite_not, ↓reduceIte, true_and, and_true, not_true_eq_false, not_false_eq_true, false_or, or_false, or_true, true_or, Nat.reduceAdd, Nat.reduceEqDiff, Nat.reduceBEq, Nat.reduceLeDiff, Nat.reduceLT, Nat.reduceSub, Int.reduceAdd, Int.reduceLE, Int.reduceLT, Int.reduceToNat, Int.reduceNeg, Int.reduceNatCast', reduceCtorEq, Int32.reduceOfInt, Int32.reduceOfNat, Int32.reduceToNatClampNeg, Int32.reduceToInt, i10, i01, pe_X3_put, c1]
    refine ⟨⟨by rw [ht]; exact nI_pos (by omega), by rw [ht]; exact nI_ge (b := 120) (by omega) (by decide)⟩, ?_⟩
    rw [nI_pred]
    rw [fdS] at h
    have e : (x.toUInt32 >>> ((8 * nI m).toUInt32 &&& Int32.toUInt32 31)).toInt32 &&& 255 = byX x (nI m) := rfl
    rw [e, ← Int32.sub_eq_add_neg]
    exact ih (t + 1) _ (by omega) (by rw [put_44, ht, nI_1]) (by omega) h
def pf_X6_feed : PF := fun args M k => match args with
  | [.ref o, .int x, .int n] => (o = 0 ∧ ∃ t, t ≤ 120 ∧ M 44 1 = nI t) ∧ (if ¬ n < 1 ∧ n ≤ 4 then (if M 44 1 + n ≤ 120 then k (.int (fdS x (n).toNatClampNeg M 44 1)) (fdS x (n).toNatClampNeg M) else k (.int (-1000002)) (tellM M 1)) else k (.int (-1000001)) (tellM M 0))
  | _ => False
theorem pe_X6_feed {o : Nat} {x : Int32} {n : Int32} {M : Mem} {k : Value → Mem → Prop} : pf_X6_feed [.ref o, .int x, .int n] M k = ((o = 0 ∧ ∃ t, t ≤ 120 ∧ M 44 1 = nI t) ∧ (if ¬ n < 1 ∧ n ≤ 4 then (if M 44 1 + n ≤ 120 then k (.int (fdS x (n).toNatClampNeg M 44 1)) (fdS x (n).toNatClampNeg M) else k (.int (-1000002)) (tellM M 1)) else k (.int (-1000001)) (tellM M 0))) := rfl
set_option maxRecDepth 100000 in
set_option maxHeartbeats 4000000 in
theorem c_X6_feed {d : Nat} (hd : 2 ≤ d) {o : Nat} {x : Int32} {n : Int32} {M : Mem} {k : Value → Mem → Prop} (h : (o = 0 ∧ ∃ t, t ≤ 120 ∧ M 44 1 = nI t) ∧ (if ¬ n < 1 ∧ n ≤ 4 then (if M 44 1 + n ≤ 120 then k (.int (fdS x (n).toNatClampNeg M 44 1)) (fdS x (n).toNatClampNeg M) else k (.int (-1000002)) (tellM M 1)) else k (.int (-1000001)) (tellM M 0))) : CallP d 88 [.ref o, .int x, .int n] M k := by
  obtain ⟨hp, h⟩ := h
  obtain ⟨d, rfl⟩ : ∃ d', d = d' + 1 := ⟨d - 1, by omega⟩
  obtain ⟨rfl, t, ht, he⟩ := hp
  · refine enterV (n := 80) [(103, pf_X6_tell)] [42] mI_88 (by decide) (Nat.le_of_ble_eq_true rfl) (T_cons (s_X6_tell (by omega)) T_nil) ?_
    rw [show lent 4 ([.ref 0, .int x, .int n] : List Value) = [.ref 0, .int x, .int n, .retAddr 0] from rfl]
    simp only [dX6_feed_0, dX6_feed_1, dX6_feed_2, dX6_feed_5, dX6_feed_6, dX6_feed_7, dX6_feed_10, dX6_feed_11, dX6_feed_13, dX6_feed_16, dX6_feed_17, dX6_feed_18, dX6_feed_21, dX6_feed_24, dX6_feed_25, dX6_feed_26, dX6_feed_28, dX6_feed_31, dX6_feed_32, dX6_feed_34, dX6_feed_37, dX6_feed_38, dX6_feed_39, dX6_feed_40, dX6_feed_41, dX6_feed_42, dX6_feed_43, dX6_feed_46, dX6_feed_47, dX6_feed_50, dX6_feed_51, dX6_feed_53, dX6_feed_54, dX6_feed_55, dX6_feed_56, dX6_feed_59, dX6_feed_60, dX6_feed_63, dX6_feed_66, dX6_feed_69, dX6_feed_70, dX6_feed_73, dX6_feed_76, cr_6_237, cr_6_69, fr_6_234, fr_6_43, kr_6_68, kr_6_83, skr_6_68, skr_6_83, al_10, al_11, al_12, al_13, al_14, al_16, al_17, al_18, al_19, al_2, al_20, al_21, al_23, al_24, al_27, al_28, al_29, al_3, al_30, al_31, al_32, al_34, al_36, al_37, al_38, al_39, al_4, al_40, al_41, al_42, al_43, al_45, al_46, al_47, al_48, al_49, al_5, al_52, al_53, al_54, al_55, al_56, al_57, al_58, al_6, al_60, al_61, al_62, al_63, al_64, al_65, al_66, al_67, al_69, al_7, al_70, al_71, al_72, al_73, al_9, cat_i, cat_l, cat_r, cat_u, gf_2_1_44, gf_5_6_0, pcl_0, pcl_1, pcl_100, pcl_101, pcl_102, pcl_103, pcl_104, pcl_105, pcl_106, pcl_107, pcl_108, pcl_109, pcl_110, pcl_111, pcl_112, pcl_15, pcl_22, pcl_25, pcl_26, pcl_33, pcl_44, pcl_50, pcl_59, pcl_8, pft_2_1, rOK_i, rOK_z, v_aload_0, v_bipush_120, v_bipush_8, v_getfield, v_goto, v_iadd, v_iand, v_ic_le, v_ic_lt, v_iconst_1, v_iconst_4, v_if_lt, v_iinc_3, v_iload_1, v_iload_2, v_iload_3, v_imul, v_invv, v_ireturn, v_istore_3, v_isub, v_iushr, v_ldc, v_sipush_255, vcV_2_2, vcV_2_5, vgf_i, vgf_r, vgf_s, vld_i, vld_s, vc_d, rr_0, rr_1, csT_h, csT_t, csT_n, bI_0, bI_1, bI_z, bT, List.mem_cons, List.not_mem_nil, List.length_cons, List.length_nil, ite_not, ↓reduceIte, true_and, and_true, not_true_eq_false, not_false_eq_true, false_or, or_false, or_true, true_or, Nat.reduceAdd, Nat.reduceEqDiff, Nat.reduceBEq, Nat.reduceLeDiff, Nat.reduceLT, Nat.reduceSub, Int.reduceAdd, Int.reduceLE, Int.reduceLT, Int.reduceToNat, Int.reduceNeg, Int.reduceNatCast', reduceCtorEq, Int32.reduceOfInt, Int32.reduceOfNat, Int32.reduceToNatClampNeg, Int32.reduceToInt, i10, i01, tl_0, tl_1, tl_2, tl_3, tl_4, tl_5, tl_6]
    by_cases h1 : n < 1
    · rw [if_neg (fun z => z.1 h1)] at h
      rw [if_pos h1]
      exact h
    · rw [if_neg h1]
      by_cases h2 : n ≤ 4
      · rw [if_pos ⟨h1, h2⟩] at h
        rw [if_pos h2]
        by_cases h3 : M 44 1 + n ≤ 120
        · rw [if_pos h3] at h ⊢
          obtain ⟨m, hm, rfl⟩ := nI_of2 (M := 4) (n := 4) rfl (fun z => h1 (by
            rw [Int32.lt_iff_toInt_lt] at z ⊢
            simp only [Int32.reduceToInt] at z ⊢
            omega)) h2
          rw [nI_clamp (by omega)] at h
          rw [he, nI_add] at h3
          exact lp_feed (by omega) m t M hm he ((nI_leI (b := 120) (by omega) (by decide)).mp h3) h
        · rw [if_neg h3] at h ⊢
          exact h
      · rw [if_neg (fun z => h2 z.2)] at h
        rw [if_neg h2]
        exact h

theorem s_X6_feed {d : Nat} (hd : 2 ≤ d) : Snd d 88 pf_X6_feed := by
  intro args M k h
  unfold pf_X6_feed at h
  split at h
  · exact c_X6_feed hd h
  · exact h.elim
