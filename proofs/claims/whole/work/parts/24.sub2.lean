/-! X: a real crossing; planks laid; differences -/
def mn9 (x : Int32) : Int32 := if x < 9999 then x else 9999
/-- walker i has crossed -/
def cx1 (M : Mem) (i : Nat) : Mem := mset (if (xw M i).1 < 12 then mset (mset (mrow M 2 (xw M i).2.2) 4 i (M 4 i)) 6 i (mn9 (M 6 i + 1)) else mset (mrow M 2 (xw M i).2.2) 4 i (xw M i).2.1) 1 8 (M 1 8 + 1)
def pf_X6_reallyCross : PF := fun args M k => match args with
  | [.ref o, .int w] => (o = 0 ∧ hasW M 1 w) ∧ (∀ a, k (.int (nI (xw M (w).toNatClampNeg).1)) (mrow (cx1 M (w).toNatClampNeg) 22 a))
  | _ => False
theorem pe_X6_reallyCross {o : Nat} {w : Int32} {M : Mem} {k : Value → Mem → Prop} : pf_X6_reallyCross [.ref o, .int w] M k = ((o = 0 ∧ hasW M 1 w) ∧ (∀ a, k (.int (nI (xw M (w).toNatClampNeg).1)) (mrow (cx1 M (w).toNatClampNeg) 22 a))) := rfl
set_option maxRecDepth 100000 in
set_option maxHeartbeats 4000000 in
theorem c_X6_reallyCross {d : Nat} (hd : 3 ≤ d) {o : Nat} {w : Int32} {M : Mem} {k : Value → Mem → Prop} (h : (o = 0 ∧ hasW M 1 w) ∧ (∀ a, k (.int (nI (xw M (w).toNatClampNeg).1)) (mrow (cx1 M (w).toNatClampNeg) 22 a))) : CallP d 113 [.ref o, .int w] M k := by
  obtain ⟨hp, h⟩ := h
  obtain ⟨d, rfl⟩ : ∃ d', d = d' + 1 := ⟨d - 1, by omega⟩
  obtain ⟨rfl, h1, h2, h3⟩ := hp
  · refine enterV (n := 120) [(2, pf_X0_has), (52, pf_X5_become), (54, pf_X5_go)] [] mI_113 (by decide) (Nat.le_of_ble_eq_true rfl) (T_cons (s_X0_has (by omega)) (T_cons (s_X5_become (by omega)) (T_cons (s_X5_go (by omega)) T_nil))) ?_
    rw [show lent 3 ([.ref 0, .int w] : List Value) = [.ref 0, .int w, .retAddr 0] from rfl]
    have hr : goR (wbM M 22 1 w) 22 2 = xw M (w).toNatClampNeg := rfl
    have hm : goM (wbM M 22 1 w) 22 2 = mset (mrow (wbM M 22 1 w) 2 (xw M (w).toNatClampNeg).2.2) 22 2 (if (xw M (w).toNatClampNeg).1 < 12 then M 4 (w).toNatClampNeg else (xw M (w).toNatClampNeg).2.1) := rfl
    simp only [dX6_reallyCross_0, dX6_reallyCross_1, dX6_reallyCross_4, dX6_reallyCross_5, dX6_reallyCross_8, dX6_reallyCross_11, dX6_reallyCross_13, dX6_reallyCross_14, dX6_reallyCross_15, dX6_reallyCross_18, dX6_reallyCross_19, dX6_reallyCross_22, dX6_reallyCross_23, dX6_reallyCross_26, dX6_reallyCross_27, dX6_reallyCross_30, dX6_reallyCross_31, dX6_reallyCross_34, dX6_reallyCross_37, dX6_reallyCross_40, dX6_reallyCross_41, dX6_reallyCross_42, dX6_reallyCross_45, dX6_reallyCross_48, dX6_reallyCross_49, dX6_reallyCross_50, dX6_reallyCross_53, dX6_reallyCross_56, dX6_reallyCross_57, dX6_reallyCross_58, dX6_reallyCross_60, dX6_reallyCross_63, dX6_reallyCross_64, dX6_reallyCross_67, dX6_reallyCross_70, dX6_reallyCross_71, dX6_reallyCross_74, dX6_reallyCross_75, dX6_reallyCross_78, dX6_reallyCross_81, dX6_reallyCross_82, dX6_reallyCross_83, dX6_reallyCross_84, dX6_reallyCross_85, dX6_reallyCross_88, dX6_reallyCross_89, dX6_reallyCross_90, dX6_reallyCross_93, dX6_reallyCross_94, dX6_reallyCross_97, dX6_reallyCross_98, dX6_reallyCross_99, dX6_reallyCross_102, dX6_reallyCross_103, cr_6_157, cr_6_161, cr_6_293, cr_6_88, fr_6_100, fr_6_117, fr_6_12, fr_6_151, fr_6_25, fr_6_73, fr_6_94, al_10, al_11, al_12, al_13, al_14, al_16, al_17, al_18, al_19, al_2, al_20, al_21, al_23, al_24, al_27, al_28, al_29, al_3, al_30, al_31, al_32, al_34, al_36, al_37, al_38, al_39, al_4, al_40, al_41, al_42, al_43, al_45, al_46, al_47, al_48, al_49, al_5, al_52, al_53, al_54, al_55, al_56, al_57, al_58, al_6, al_60, al_61, al_62, al_63, al_64, al_65, al_66, al_67, al_69, al_7, al_70, al_71, al_72, al_73, al_9, cat_i, cat_l, cat_r, cat_u, gf_0_0_1, gf_0_0_15, gf_0_0_26, gf_0_0_8, gf_0_2_1, gf_0_2_15, gf_0_2_26, gf_0_2_8, gf_0_4_1, gf_0_4_15, gf_0_4_26, gf_0_4_8, gf_0_8_1, gf_0_8_15, gf_0_8_26, gf_0_8_8, gf_4_2_22, gf_4_2_33, gf_5_0_0, gf_5_3_0, pcl_0, pcl_1, pcl_100, pcl_101, pcl_102, pcl_103, pcl_104, pcl_105, pcl_106, pcl_107, pcl_108, pcl_109, pcl_110, pcl_111, pcl_112, pcl_15, pcl_22, pcl_25, pcl_26, pcl_33, pcl_44, pcl_50, pcl_59, pcl_8, pft_0_8, pft_4_2, rOK_i, rOK_z, v_aload_0, v_bipush_12, v_dup, v_getfield, v_iadd, v_iaload, v_iastore, v_ic_ge, v_iconst_1, v_if_ne, v_iload_1, v_iload_2, v_invs, v_invv, v_ireturn, v_istore_2, v_putfield, v_sipush_9999, vcS_min, vcV_2_0, vcV_2_4, vcV_3_4, vgf_i, vgf_r, vgf_s, vpf_s, vc_0, vc_s, rr_0, rr_1, csT_h, csT_t, csT_n, bI_0, bI_1, bI_z, bT, List.mem_cons, List.not_mem_nil, List.length_cons, List.length_nil, ite_not, reduceIte, true_and, and_true, not_true_eq_false, not_false_eq_true, false_or, or_false, or_true, true_or, Nat.reduceAdd, Nat.reduceEqDiff, Nat.reduceBEq, Nat.reduceLeDiff, Nat.reduceLT, Nat.reduceSub, Int.reduceAdd, Int.reduceLE, Int.reduceLT, Int.reduceToNat, Int.reduceNeg, Int.reduceNatCast', reduceCtorEq, Int32.reduceOfInt, Int32.reduceOfNat, Int32.reduceToNatClampNeg, Int32.reduceToInt, i10, i01, pe_X0_has, pe_X5_become, pe_X5_go, h1, h2, h3, hasW, BR, hr, hm, reduceCtorEq, false_and]
    have h12 := ge12 (xw_le (M := M) (i := (w).toNatClampNeg))
    refine ⟨bd h1 h3 rfl, ?_⟩
    unfold cx1 at h
    generalize xw M (w).toNatClampNeg = r at h h12 ⊢
    by_cases hlt : r.1 < 12
    · simp only [hlt, if_true] at h ⊢
      rw [if_neg (by rw [h12]; simpa using hlt)]
      refine ⟨bd h1 h3 rfl, bd h1 h3 rfl, ?_⟩
      have := h (upd (wbM M 22 1 w 22) 2 (M 4 (w).toNatClampNeg))
      simp only [wbM, mset, mrow_s, mrow_n, mrow_mrow, mrow_comm, upd_s, upd_n, Nat.reduceAdd, Nat.reduceBEq, Nat.reduceLT, mn9] at this ⊢
      exact this
    · simp only [hlt, if_false] at h ⊢
      rw [if_pos (by rw [h12]; simpa using hlt)]
      have := h (upd (wbM M 22 1 w 22) 2 r.2.1)
      simp only [wbM, mset, mrow_s, mrow_n, mrow_mrow, mrow_comm, upd_s, upd_n, Nat.reduceAdd, Nat.reduceBEq, Nat.reduceLT, mn9] at this ⊢
      exact this

theorem s_X6_reallyCross {d : Nat} (hd : 3 ≤ d) : Snd d 113 pf_X6_reallyCross := by
  intro args M k h
  unfold pf_X6_reallyCross at h
  split at h
  · exact c_X6_reallyCross hd h
  · exact h.elim
/-- a set of bits -/
def stF (c : Nat → Prop) [DecidablePred c] : Nat → Nat → Int32 → Int32
  | 0, _, s => s
  | n + 1, i, s => stF c n (i + 1) (if c i then s ||| 1 <<< (nI i &&& 31) else s)
/-- walkers: 0 to 6 of them -/
def IV (M : Mem) : Prop := ∃ n, n ≤ 6 ∧ M 1 6 = nI n
theorem has_nI {M : Mem} {n i : Nat} (hn : n ≤ 6) (he : M 1 6 = nI n) (hi : i < n) : hasW M 1 (nI i) :=
  ⟨nI_pos (by omega), by rw [he]; exact nI_ge hi (by omega), nI_ge (b := 6) (by omega) (by decide)⟩
set_option maxRecDepth 100000 in
set_option maxHeartbeats 4000000 in
theorem lp_fallers {d : Nat} (hd : 4 ≤ d) {M : Mem} {k : Value → Mem → Prop} {m : Nat} (hm : m ≤ 6) (he : M 1 6 = nI m) : ∀ (n i : Nat) (s : Int32) (a b : Nat → Int32), i + n = m → (∀ a b, k (.int (stF (fun i => (xw M i).1 < 12) n i s)) (jk M a b)) → WP (6, yX6_fallers, cX6_fallers, 3, (some .int)) (d + 1) k 4 [.ref 0, .int s, .int (nI i)] [] (jk M a b) := by
  intro n
  induction n with
  | zero =>
    intro i s a b hi h
    have : i = m := by omega
    subst this
    refine goV (n := 80) [(116, pf_X6_tryWalk)] [4] (T_cons (s_X6_tryWalk hd) T_nil) ?_
    simp only [dX6_fallers_0, dX6_fallers_1, dX6_fallers_2, dX6_fallers_3, dX6_fallers_4, dX6_fallers_5, dX6_fallers_6, dX6_fallers_9, dX6_fallers_12, dX6_fallers_15, dX6_fallers_16, dX6_fallers_17, dX6_fallers_20, dX6_fallers_22, dX6_fallers_25, dX6_fallers_26, dX6_fallers_27, dX6_fallers_28, dX6_fallers_29, dX6_fallers_30, dX6_fallers_31, dX6_fallers_34, dX6_fallers_37, dX6_fallers_38, cr_6_148, fr_6_12, fr_6_145, al_10, al_11, al_12, al_13, al_14, al_16, al_17, al_18, al_19, al_2, al_20, al_21, al_23, al_24, al_27, al_28, al_29, al_3, al_30, al_31, al_32, al_34, al_36, al_37, al_38, al_39, al_4, al_40, al_41, al_42, al_43, al_45, al_46, al_47, al_48, al_49, al_5, al_52, al_53, al_54, al_55, al_56, al_57, al_58, al_6, al_60, al_61, al_62, al_63, al_64, al_65, al_66, al_67, al_69, al_7, al_70, al_71, al_72, al_73, al_9, cat_i, cat_l, cat_r, cat_u, gf_0_6_1, gf_0_6_15, gf_0_6_26, gf_0_6_8, gf_5_0_0, pcl_0, pcl_1, pcl_100, pcl_101, pcl_102, pcl_103, pcl_104, pcl_105, pcl_106, pcl_107, pcl_108, pcl_109, pcl_110, pcl_111, pcl_112, pcl_15, pcl_22, pcl_25, pcl_26, pcl_33, pcl_44, pcl_50, pcl_59, pcl_8, pft_0_6, rOK_i, rOK_z, v_aload_0, v_bipush_12, v_getfield, v_goto, v_ic_ge, v_iconst_0, v_iconst_1, v_iinc_2, v_iload_1, v_iload_2, v_invv, v_ior, v_ireturn, v_ishl, v_istore_1, v_istore_2, vcV_2_5, vgf_i, vgf_r, vgf_s, vc_0, vc_s, rr_0, rr_1, csT_h, csT_t, csT_n, bI_0, bI_1, bI_z, bT, List.mem_cons, List.not_mem_nil, List.length_cons, List.length_nil, ite_not, reduceIte, true_and, and_true, not_true_eq_false, not_false_eq_true, false_or, or_false, or_true, true_or, Nat.reduceAdd, Nat.reduceEqDiff, Nat.reduceBEq, Nat.reduceLeDiff, Nat.reduceLT, Nat.reduceSub, Int.reduceAdd, Int.reduceLE, Int.reduceLT, Int.reduceToNat, Int.reduceNeg, Int.reduceNatCast', reduceCtorEq, Int32.reduceOfInt, Int32.reduceOfNat, Int32.reduceToNatClampNeg, Int32.reduceToInt, i10, i01, jk_n, he, show nI i ≤ nI i from nI_le (Nat.le_refl _) (by omega)]
    exact h a b
  | succ n ih =>
    intro i s a b hi h
    refine goV (n := 80) [(116, pf_X6_tryWalk)] [4] (T_cons (s_X6_tryWalk hd) T_nil) ?_
    have c1 : ¬ nI m ≤ nI i := nI_ge (by omega) (by omega)
    have c3 : (nI i).toNatClampNeg = i := nI_clamp (by omega)
    obtain ⟨w1, w2, w3⟩ := has_nI hm he (show i < m by omega)
    rw [he] at w2
    simp only [dX6_fallers_0, dX6_fallers_1, dX6_fallers_2, dX6_fallers_3, dX6_fallers_4, dX6_fallers_5, dX6_fallers_6, dX6_fallers_9, dX6_fallers_12, dX6_fallers_15, dX6_fallers_16, dX6_fallers_17, dX6_fallers_20, dX6_fallers_22, dX6_fallers_25, dX6_fallers_26, dX6_fallers_27, dX6_fallers_28, dX6_fallers_29, dX6_fallers_30, dX6_fallers_31, dX6_fallers_34, dX6_fallers_37, dX6_fallers_38, cr_6_148, fr_6_12, fr_6_145, al_10, al_11, al_12, al_13, al_14, al_16, al_17, al_18, al_19, al_2, al_20, al_21, al_23, al_24, al_27, al_28, al_29, al_3, al_30, al_31, al_32, al_34, al_36, al_37, al_38, al_39, al_4, al_40, al_41, al_42, al_43, al_45, al_46, al_47, al_48, al_49, al_5, al_52, al_53, al_54, al_55, al_56, al_57, al_58, al_6, al_60, al_61, al_62, al_63, al_64, al_65, al_66, al_67, al_69, al_7, al_70, al_71, al_72, al_73, al_9, cat_i, cat_l, cat_r, cat_u, gf_0_6_1, gf_0_6_15, gf_0_6_26, gf_0_6_8, gf_5_0_0, pcl_0, pcl_1, pcl_100, pcl_101, pcl_102, pcl_103, pcl_104, pcl_105, pcl_106, pcl_107, pcl_108, pcl_109, pcl_110, pcl_111, pcl_112, pcl_15, pcl_22, pcl_25, pcl_26, pcl_33, pcl_44, pcl_50, pcl_59, pcl_8, pft_0_6, rOK_i, rOK_z, v_aload_0, v_bipush_12, v_getfield, v_goto, v_ic_ge, v_iconst_0, v_iconst_1, v_iinc_2, v_iload_1, v_iload_2, v_invv, v_ior, v_ireturn, v_ishl, v_istore_1, v_istore_2, vcV_2_5, vgf_i, vgf_r, vgf_s, vc_0, vc_s, rr_0, rr_1, csT_h, csT_t, csT_n, bI_0, bI_1, bI_z, bT, List.mem_cons, List.not_mem_nil, List.length_cons, List.length_nil, ite_not, reduceIte, true_and, and_true, not_true_eq_false, not_false_eq_true, false_or, or_false, or_true, true_or, Nat.reduceAdd, Nat.reduceEqDiff, Nat.reduceBEq, Nat.reduceLeDiff, Nat.reduceLT, Nat.reduceSub, Int.reduceAdd, Int.reduceLE, Int.reduceLT, Int.reduceToNat, Int.reduceNeg, Int.reduceNatCast', reduceCtorEq, Int32.reduceOfInt, Int32.reduceOfNat, Int32.reduceToNatClampNeg, Int32.reduceToInt, i10, i01, pe_X6_tryWalk, jk_n, he, c1, c3, w1, w2, w3, hasW, xw_jk, nI_1, ge12 xw_le, jk_jk]
    intro a' b' _ _
    by_cases hc : (xw M i).1 < 12
    · simp only [hc, not_true_eq_false, if_false, if_true]
      exact ih (i + 1) _ _ _ (by omega) (fun a b => by have := h a b; rw [stF, if_pos hc] at this; exact this)
    · simp only [hc, not_false_eq_true, if_true, if_false]
      exact ih (i + 1) _ _ _ (by omega) (fun a b => by have := h a b; rw [stF, if_neg hc] at this; exact this)
def pf_X6_fallers : PF := fun args M k => match args with
  | [.ref o] => (o = 0 ∧ IV M) ∧ (∀ a b, k (.int (stF (fun i => (xw M i).1 < 12) (M 1 6).toNatClampNeg 0 0)) (jk M a b))
  | _ => False
theorem pe_X6_fallers {o : Nat} {M : Mem} {k : Value → Mem → Prop} : pf_X6_fallers [.ref o] M k = ((o = 0 ∧ IV M) ∧ (∀ a b, k (.int (stF (fun i => (xw M i).1 < 12) (M 1 6).toNatClampNeg 0 0)) (jk M a b))) := rfl
set_option maxRecDepth 100000 in
set_option maxHeartbeats 4000000 in
theorem c_X6_fallers {d : Nat} (hd : 5 ≤ d) {o : Nat} {M : Mem} {k : Value → Mem → Prop} (h : (o = 0 ∧ IV M) ∧ (∀ a b, k (.int (stF (fun i => (xw M i).1 < 12) (M 1 6).toNatClampNeg 0 0)) (jk M a b))) : CallP d 114 [.ref o] M k := by
  obtain ⟨hp, h⟩ := h
  obtain ⟨d, rfl⟩ : ∃ d', d = d' + 1 := ⟨d - 1, by omega⟩
  obtain ⟨rfl, m, hm, he⟩ := hp
  · refine enterV (n := 80) [(116, pf_X6_tryWalk)] [4] mI_114 (by decide) (Nat.le_of_ble_eq_true rfl) (T_cons (s_X6_tryWalk (by omega)) T_nil) ?_
    rw [show lent 3 ([.ref 0] : List Value) = [.ref 0, .retAddr 0, .retAddr 0] from rfl]
    simp only [dX6_fallers_0, dX6_fallers_1, dX6_fallers_2, dX6_fallers_3, dX6_fallers_4, dX6_fallers_5, dX6_fallers_6, dX6_fallers_9, dX6_fallers_12, dX6_fallers_15, dX6_fallers_16, dX6_fallers_17, dX6_fallers_20, dX6_fallers_22, dX6_fallers_25, dX6_fallers_26, dX6_fallers_27, dX6_fallers_28, dX6_fallers_29, dX6_fallers_30, dX6_fallers_31, dX6_fallers_34, dX6_fallers_37, dX6_fallers_38, cr_6_148, fr_6_12, fr_6_145, al_10, al_11, al_12, al_13, al_14, al_16, al_17, al_18, al_19, al_2, al_20, al_21, al_23, al_24, al_27, al_28, al_29, al_3, al_30, al_31, al_32, al_34, al_36, al_37, al_38, al_39, al_4, al_40, al_41, al_42, al_43, al_45, al_46, al_47, al_48, al_49, al_5, al_52, al_53, al_54, al_55, al_56, al_57, al_58, al_6, al_60, al_61, al_62, al_63, al_64, al_65, al_66, al_67, al_69, al_7, al_70, al_71, al_72, al_73, al_9, cat_i, cat_l, cat_r, cat_u, gf_0_6_1, gf_0_6_15, gf_0_6_26, gf_0_6_8, gf_5_0_0, pcl_0, pcl_1, pcl_100, pcl_101, pcl_102, pcl_103, pcl_104, pcl_105, pcl_106, pcl_107, pcl_108, pcl_109, pcl_110, pcl_111, pcl_112, pcl_15, pcl_22, pcl_25, pcl_26, pcl_33, pcl_44, pcl_50, pcl_59, pcl_8, pft_0_6, rOK_i, rOK_z, v_aload_0, v_bipush_12, v_getfield, v_goto, v_ic_ge, v_iconst_0, v_iconst_1, v_iinc_2, v_iload_1, v_iload_2, v_invv, v_ior, v_ireturn, v_ishl, v_istore_1, v_istore_2, vcV_2_5, vgf_i, vgf_r, vgf_s, vc_0, vc_s, rr_0, rr_1, csT_h, csT_t, csT_n, bI_0, bI_1, bI_z, bT, List.mem_cons, List.not_mem_nil, List.length_cons, List.length_nil, ite_not, reduceIte, true_and, and_true, not_true_eq_false, not_false_eq_true, false_or, or_false, or_true, true_or, Nat.reduceAdd, Nat.reduceEqDiff, Nat.reduceBEq, Nat.reduceLeDiff, Nat.reduceLT, Nat.reduceSub, Int.reduceAdd, Int.reduceLE, Int.reduceLT, Int.reduceToNat, Int.reduceNeg, Int.reduceNatCast', reduceCtorEq, Int32.reduceOfInt, Int32.reduceOfNat, Int32.reduceToNatClampNeg, Int32.reduceToInt, i10, i01, pe_X6_tryWalk]
    rw [he, nI_clamp (by omega)] at h
    have := lp_fallers (d := d) (by omega) (k := k) hm he m 0 0 (M 22) (M 23) (by omega) h
    rw [jk_self] at this
    exact this

theorem s_X6_fallers {d : Nat} (hd : 5 ≤ d) : Snd d 114 pf_X6_fallers := by
  intro args M k h
  unfold pf_X6_fallers at h
  split at h
  · exact c_X6_fallers hd h
  · exact h.elim
