/-! X: planks laid new, differences, odds' numbers -/
def layF (s : Int32) (r : Nat → Int32) : Nat → Int32 := fun j => if (s >>> (nI j &&& 31)) &&& 1 = 0 then r j else 50
def xwl (M : Mem) (i : Nat) (s : Int32) : Nat × Int32 × (Nat → Int32) := wk (M 3 i) (M 5 i) (M 1 7) (M 4 i) (layF s (M 2))
set_option maxRecDepth 100000 in
set_option maxHeartbeats 4000000 in
theorem lp_crossesLaid {d : Nat} (hd : 2 ≤ d) {M : Mem} {k : Value → Mem → Prop} {w s : Int32} {a : Nat → Int32} (ha : isW M w a) (h : ∀ a b, k (.int (bI (¬ (xwl M (w).toNatClampNeg s).1 < 12))) (jk M a b)) : ∀ (n i : Nat) (b : Nat → Int32), i + n = 12 → (∀ j, j < 12 → b j = if j < i then layF s (M 2) j else M 2 j) → WP (6, yX6_crossesLaid, cX6_crossesLaid, 4, (some .boolean)) (d + 1) k 7 [.ref 0, .int w, .int s, .int (nI i)] [] (jk M a b) := by
  intro n
  induction n with
  | zero =>
    intro i b hi hb
    have : i = 12 := by omega
    subst this
    obtain ⟨a1, a2, a3, a4⟩ := ha
    have hc := goF_congr (kd := M 3 (w).toNatClampNeg) (bs := brs (M 3 (w).toNatClampNeg) (M 5 (w).toNatClampNeg) (M 1 7)) 12 0 (M 4 (w).toNatClampNeg) b (layF s (M 2)) (by decide) (fun j hj => by rw [hb j hj, if_pos hj])
    have hr : goR (jk M a b) 22 23 = goF (M 3 (w).toNatClampNeg) (brs (M 3 (w).toNatClampNeg) (M 5 (w).toNatClampNeg) (M 1 7)) 12 0 (M 4 (w).toNatClampNeg) b := by
      unfold goR
      rw [jk_22, jk_23, a1, a2, a3, a4]
    have hm : goM (jk M a b) 22 23 = jk M (upd a 2 (if (goR (jk M a b) 22 23).1 < 12 then a 2 else (goR (jk M a b) 22 23).2.1)) (goR (jk M a b) 22 23).2.2 := by
      unfold goM mset
      rw [jk_m23, jk_22, jk_m22, jk_22]
    refine goV (n := 80) [(54, pf_X5_go), (109, pf_X6_isIn)] [7] (T_cons (s_X5_go hd) (T_cons (s_X6_isIn (by omega)) T_nil)) ?_
    simp only [dX6_crossesLaid_0, dX6_crossesLaid_1, dX6_crossesLaid_2, dX6_crossesLaid_5, dX6_crossesLaid_6, dX6_crossesLaid_7, dX6_crossesLaid_8, dX6_crossesLaid_10, dX6_crossesLaid_13, dX6_crossesLaid_14, dX6_crossesLaid_15, dX6_crossesLaid_18, dX6_crossesLaid_21, dX6_crossesLaid_22, dX6_crossesLaid_25, dX6_crossesLaid_28, dX6_crossesLaid_29, dX6_crossesLaid_31, dX6_crossesLaid_32, dX6_crossesLaid_35, dX6_crossesLaid_38, dX6_crossesLaid_39, dX6_crossesLaid_42, dX6_crossesLaid_43, dX6_crossesLaid_46, dX6_crossesLaid_49, dX6_crossesLaid_52, dX6_crossesLaid_54, dX6_crossesLaid_57, dX6_crossesLaid_58, dX6_crossesLaid_61, dX6_crossesLaid_62, cr_6_133, cr_6_161, cr_6_165, fr_6_154, fr_6_25, al_10, al_11, al_12, al_13, al_14, al_16, al_17, al_18, al_19, al_2, al_20, al_21, al_23, al_24, al_27, al_28, al_29, al_3, al_30, al_31, al_32, al_34, al_36, al_37, al_38, al_39, al_4, al_40, al_41, al_42, al_43, al_45, al_46, al_47, al_48, al_49, al_5, al_52, al_53, al_54, al_55, al_56, al_57, al_58, al_6, al_60, al_61, al_62, al_63, al_64, al_65, al_66, al_67, al_69, al_7, al_70, al_71, al_72, al_73, al_9, cat_i, cat_l, cat_r, cat_u, gf_4_0_22, gf_4_0_33, gf_5_3_0, pcl_0, pcl_1, pcl_100, pcl_101, pcl_102, pcl_103, pcl_104, pcl_105, pcl_106, pcl_107, pcl_108, pcl_109, pcl_110, pcl_111, pcl_112, pcl_15, pcl_22, pcl_25, pcl_26, pcl_33, pcl_44, pcl_50, pcl_59, pcl_8, rOK_i, rOK_z, v_aload_0, v_bipush_12, v_bipush_50, v_getfield, v_goto, v_iastore, v_ic_ge, v_ic_ne, v_iconst_0, v_iconst_1, v_if_eq, v_iinc_3, v_iload_1, v_iload_2, v_iload_3, v_invs, v_invv, v_ireturn, v_istore_3, vcS_2_1, vcV_2_4, vcV_2_5, vgf_i, vgf_r, vgf_s, vc_0, vc_s, rr_0, rr_1, csT_h, csT_t, csT_n, bI_0, bI_1, bI_z, bT, List.mem_cons, List.not_mem_nil, List.length_cons, List.length_nil, ite_not, reduceIte, true_and, and_true, not_true_eq_false, not_false_eq_true, false_or, or_false, or_true, true_or, Nat.reduceAdd, Nat.reduceEqDiff, Nat.reduceBEq, Nat.reduceLeDiff, Nat.reduceLT, Nat.reduceSub, Int.reduceAdd, Int.reduceLE, Int.reduceLT, Int.reduceToNat, Int.reduceNeg, Int.reduceNatCast', reduceCtorEq, Int32.reduceOfInt, Int32.reduceOfNat, Int32.reduceToNatClampNeg, Int32.reduceToInt, i10, i01, pe_X5_go, show (12 : Int32) ≤ nI 12 from by decide, hm, eq12 (show (goR (jk M a b) 22 23).1 ≤ 12 from goF_le 12 0 _ _)]
    have e : (xwl M (w).toNatClampNeg s).1 = (goR (jk M a b) 22 23).1 := by rw [hr]; exact hc.1.symm
    rw [e] at h
    by_cases hlt : (goR (jk M a b) 22 23).1 < 12
    · rw [if_pos hlt]
      have := h (upd a 2 (if (goR (jk M a b) 22 23).1 < 12 then a 2 else (goR (jk M a b) 22 23).2.1)) (goR (jk M a b) 22 23).2.2
      rw [bI_f (fun z => z hlt)] at this
      exact this
    · rw [if_neg hlt]
      have := h (upd a 2 (if (goR (jk M a b) 22 23).1 < 12 then a 2 else (goR (jk M a b) 22 23).2.1)) (goR (jk M a b) 22 23).2.2
      rw [bI_t hlt] at this
      exact this
  | succ n ih =>
    intro i b hi hb
    refine goV (n := 80) [(54, pf_X5_go), (109, pf_X6_isIn)] [7] (T_cons (s_X5_go hd) (T_cons (s_X6_isIn (by omega)) T_nil)) ?_
    have c1 : ¬ (12 : Int32) ≤ nI i := nI_ge (b := 12) (by omega) (by decide)
    have c2 : (nI i).toInt = i := nI_toInt (by omega)
    have c3 : (nI i).toNatClampNeg = i := nI_clamp (by omega)
    simp only [dX6_crossesLaid_0, dX6_crossesLaid_1, dX6_crossesLaid_2, dX6_crossesLaid_5, dX6_crossesLaid_6, dX6_crossesLaid_7, dX6_crossesLaid_8, dX6_crossesLaid_10, dX6_crossesLaid_13, dX6_crossesLaid_14, dX6_crossesLaid_15, dX6_crossesLaid_18, dX6_crossesLaid_21, dX6_crossesLaid_22, dX6_crossesLaid_25, dX6_crossesLaid_28, dX6_crossesLaid_29, dX6_crossesLaid_31, dX6_crossesLaid_32, dX6_crossesLaid_35, dX6_crossesLaid_38, dX6_crossesLaid_39, dX6_crossesLaid_42, dX6_crossesLaid_43, dX6_crossesLaid_46, dX6_crossesLaid_49, dX6_crossesLaid_52, dX6_crossesLaid_54, dX6_crossesLaid_57, dX6_crossesLaid_58, dX6_crossesLaid_61, dX6_crossesLaid_62, cr_6_133, cr_6_161, cr_6_165, fr_6_154, fr_6_25, al_10, al_11, al_12, al_13, al_14, al_16, al_17, al_18, al_19, al_2, al_20, al_21, al_23, al_24, al_27, al_28, al_29, al_3, al_30, al_31, al_32, al_34, al_36, al_37, al_38, al_39, al_4, al_40, al_41, al_42, al_43, al_45, al_46, al_47, al_48, al_49, al_5, al_52, al_53, al_54, al_55, al_56, al_57, al_58, al_6, al_60, al_61, al_62, al_63, al_64, al_65, al_66, al_67, al_69, al_7, al_70, al_71, al_72, al_73, al_9, cat_i, cat_l, cat_r, cat_u, gf_4_0_22, gf_4_0_33, gf_5_3_0, pcl_0, pcl_1, pcl_100, pcl_101, pcl_102, pcl_103, pcl_104, pcl_105, pcl_106, pcl_107, pcl_108, pcl_109, pcl_110, pcl_111, pcl_112, pcl_15, pcl_22, pcl_25, pcl_26, pcl_33, pcl_44, pcl_50, pcl_59, pcl_8, rOK_i, rOK_z, v_aload_0, v_bipush_12, v_bipush_50, v_getfield, v_goto, v_iastore, v_ic_ge, v_ic_ne, v_iconst_0, v_iconst_1, v_if_eq, v_iinc_3, v_iload_1, v_iload_2, v_iload_3, v_invs, v_invv, v_ireturn, v_istore_3, vcS_2_1, vcV_2_4, vcV_2_5, vgf_i, vgf_r, vgf_s, vc_0, vc_s, rr_0, rr_1, csT_h, csT_t, csT_n, bI_0, bI_1, bI_z, bT, List.mem_cons, List.not_mem_nil, List.length_cons, List.length_nil, ite_not, reduceIte, true_and, and_true, not_true_eq_false, not_false_eq_true, false_or, or_false, or_true, true_or, Nat.reduceAdd, Nat.reduceEqDiff, Nat.reduceBEq, Nat.reduceLeDiff, Nat.reduceLT, Nat.reduceSub, Int.reduceAdd, Int.reduceLE, Int.reduceLT, Int.reduceToNat, Int.reduceNeg, Int.reduceNatCast', reduceCtorEq, Int32.reduceOfInt, Int32.reduceOfNat, Int32.reduceToNatClampNeg, Int32.reduceToInt, i10, i01, pe_X6_isIn, c1, c2, c3, nI_1, Classical.not_not]
    by_cases hc : (s >>> (nI i &&& 31)) &&& 1 = 0
    · rw [if_pos hc]
      refine ih (i + 1) b (by omega) (fun j hj => ?_)
      rw [hb j hj]
      by_cases e : j = i
      · subst e
        rw [if_neg (Nat.lt_irrefl _), if_pos (Nat.lt_succ_self _), layF, if_pos hc]
      · by_cases e2 : j < i
        · rw [if_pos e2, if_pos (by omega)]
        · rw [if_neg e2, if_neg (by omega)]
    · rw [if_neg hc]
      refine ⟨by omega, ?_⟩
      have em : mset (jk M a b) 23 i 50 = jk M a (upd b i 50) := by
        unfold mset
        rw [jk_23, jk_m23]
      rw [em]
      refine ih (i + 1) (upd b i 50) (by omega) (fun j hj => ?_)
      unfold upd
      by_cases e : j = i
      · subst e
        rw [if_pos rfl, if_pos (Nat.lt_succ_self _), layF, if_neg hc]
      · rw [if_neg e, hb j hj]
        by_cases e2 : j < i
        · rw [if_pos e2, if_pos (by omega)]
        · rw [if_neg e2, if_neg (by omega)]
def pf_X6_crossesLaid : PF := fun args M k => match args with
  | [.ref o, .int w, .int s] => (o = 0 ∧ hasW M 1 w) ∧ (∀ a b, k (.int (bI (¬ (xwl M (w).toNatClampNeg s).1 < 12))) (jk M a b))
  | _ => False
theorem pe_X6_crossesLaid {o : Nat} {w : Int32} {s : Int32} {M : Mem} {k : Value → Mem → Prop} : pf_X6_crossesLaid [.ref o, .int w, .int s] M k = ((o = 0 ∧ hasW M 1 w) ∧ (∀ a b, k (.int (bI (¬ (xwl M (w).toNatClampNeg s).1 < 12))) (jk M a b))) := rfl
set_option maxRecDepth 100000 in
set_option maxHeartbeats 4000000 in
theorem c_X6_crossesLaid {d : Nat} (hd : 4 ≤ d) {o : Nat} {w : Int32} {s : Int32} {M : Mem} {k : Value → Mem → Prop} (h : (o = 0 ∧ hasW M 1 w) ∧ (∀ a b, k (.int (bI (¬ (xwl M (w).toNatClampNeg s).1 < 12))) (jk M a b))) : CallP d 118 [.ref o, .int w, .int s] M k := by
  obtain ⟨hp, h⟩ := h
  obtain ⟨d, rfl⟩ : ∃ d', d = d' + 1 := ⟨d - 1, by omega⟩
  obtain ⟨rfl, h1, h2, h3⟩ := hp
  · refine enterV (n := 80) [(115, pf_X6_prepare)] [7] mI_118 (by decide) (Nat.le_of_ble_eq_true rfl) (T_cons (s_X6_prepare (by omega)) T_nil) ?_
    rw [show lent 4 ([.ref 0, .int w, .int s] : List Value) = [.ref 0, .int w, .int s, .retAddr 0] from rfl]
    simp only [dX6_crossesLaid_0, dX6_crossesLaid_1, dX6_crossesLaid_2, dX6_crossesLaid_5, dX6_crossesLaid_6, dX6_crossesLaid_7, dX6_crossesLaid_8, dX6_crossesLaid_10, dX6_crossesLaid_13, dX6_crossesLaid_14, dX6_crossesLaid_15, dX6_crossesLaid_18, dX6_crossesLaid_21, dX6_crossesLaid_22, dX6_crossesLaid_25, dX6_crossesLaid_28, dX6_crossesLaid_29, dX6_crossesLaid_31, dX6_crossesLaid_32, dX6_crossesLaid_35, dX6_crossesLaid_38, dX6_crossesLaid_39, dX6_crossesLaid_42, dX6_crossesLaid_43, dX6_crossesLaid_46, dX6_crossesLaid_49, dX6_crossesLaid_52, dX6_crossesLaid_54, dX6_crossesLaid_57, dX6_crossesLaid_58, dX6_crossesLaid_61, dX6_crossesLaid_62, cr_6_133, cr_6_161, cr_6_165, fr_6_154, fr_6_25, al_10, al_11, al_12, al_13, al_14, al_16, al_17, al_18, al_19, al_2, al_20, al_21, al_23, al_24, al_27, al_28, al_29, al_3, al_30, al_31, al_32, al_34, al_36, al_37, al_38, al_39, al_4, al_40, al_41, al_42, al_43, al_45, al_46, al_47, al_48, al_49, al_5, al_52, al_53, al_54, al_55, al_56, al_57, al_58, al_6, al_60, al_61, al_62, al_63, al_64, al_65, al_66, al_67, al_69, al_7, al_70, al_71, al_72, al_73, al_9, cat_i, cat_l, cat_r, cat_u, gf_4_0_22, gf_4_0_33, gf_5_3_0, pcl_0, pcl_1, pcl_100, pcl_101, pcl_102, pcl_103, pcl_104, pcl_105, pcl_106, pcl_107, pcl_108, pcl_109, pcl_110, pcl_111, pcl_112, pcl_15, pcl_22, pcl_25, pcl_26, pcl_33, pcl_44, pcl_50, pcl_59, pcl_8, rOK_i, rOK_z, v_aload_0, v_bipush_12, v_bipush_50, v_getfield, v_goto, v_iastore, v_ic_ge, v_ic_ne, v_iconst_0, v_iconst_1, v_if_eq, v_iinc_3, v_iload_1, v_iload_2, v_iload_3, v_invs, v_invv, v_ireturn, v_istore_3, vcS_2_1, vcV_2_4, vcV_2_5, vgf_i, vgf_r, vgf_s, vc_0, vc_s, rr_0, rr_1, csT_h, csT_t, csT_n, bI_0, bI_1, bI_z, bT, List.mem_cons, List.not_mem_nil, List.length_cons, List.length_nil, ite_not, reduceIte, true_and, and_true, not_true_eq_false, not_false_eq_true, false_or, or_false, or_true, true_or, Nat.reduceAdd, Nat.reduceEqDiff, Nat.reduceBEq, Nat.reduceLeDiff, Nat.reduceLT, Nat.reduceSub, Int.reduceAdd, Int.reduceLE, Int.reduceLT, Int.reduceToNat, Int.reduceNeg, Int.reduceNatCast', reduceCtorEq, Int32.reduceOfInt, Int32.reduceOfNat, Int32.reduceToNatClampNeg, Int32.reduceToInt, i10, i01, pe_X6_prepare, h1, h2, h3, hasW]
    intro a b ha hb
    exact lp_crossesLaid (by omega) ha h 12 0 b rfl (fun j hj => by rw [hb j hj, if_neg (Nat.not_lt_zero _)])

theorem s_X6_crossesLaid {d : Nat} (hd : 4 ≤ d) : Snd d 118 pf_X6_crossesLaid := by
  intro args M k h
  unfold pf_X6_crossesLaid at h
  split at h
  · exact c_X6_crossesLaid hd h
  · exact h.elim
theorem xwl_jk {M : Mem} {a b : Nat → Int32} {i : Nat} {s : Int32} : xwl (jk M a b) i s = xwl M i s := by
  unfold xwl
  rw [jk_n (by decide) (by decide), jk_n (by decide) (by decide), jk_n (by decide) (by decide), jk_n (by decide) (by decide), jk_n (by decide) (by decide)]
/-- the first answer that isn't below 0 -/
def fstF (f : Nat → Int32) : Nat → Nat → Int32
  | 0, _ => -1
  | n + 1, i => if 0 ≤ f i then f i else fstF f n (i + 1)
def lmF (c : Int32 → Prop) [DecidablePred c] : Nat → Int32 → Nat → Int32
  | 0, s, _ => if c s then s else -1
  | m + 1, s, n => fstF (fun p => lmF c m (s ||| 1 <<< (nI p &&& 31)) p) n 0
set_option maxRecDepth 100000 in
set_option maxHeartbeats 4000000 in
theorem lp_layMore {M : Mem} {w : Int32} (hw : hasW M 1 w) : ∀ (m : Nat), m ≤ 3 → ∀ (d : Nat), 5 + m ≤ d → ∀ (s : Int32) (n : Nat) (a b : Nat → Int32) (k : Value → Mem → Prop), n ≤ 12 → (∀ a b, k (.int (lmF (fun s => ¬ (xwl M (w).toNatClampNeg s).1 < 12) m s n)) (jk M a b)) → CallP d 119 [.ref 0, .int w, .int s, .int (nI n), .int (nI m)] (jk M a b) k := by
  obtain ⟨h1, h2, h3⟩ := hw
  intro m
  induction m with
  | zero =>
    intro hm d hd s n a b k hn h
    obtain ⟨d, rfl⟩ : ∃ d', d = d' + 1 := ⟨d - 1, by omega⟩
    refine enterV (n := 80) [(118, pf_X6_crossesLaid)] [23] mI_119 (by decide) (Nat.le_of_ble_eq_true rfl) (T_cons (s_X6_crossesLaid (by omega)) T_nil) ?_
    rw [show lent 7 ([.ref 0, .int w, .int s, .int (nI n), .int (nI 0)] : List Value) = [.ref 0, .int w, .int s, .int (nI n), .int (nI 0), .retAddr 0, .retAddr 0] from rfl]
    simp only [dX6_layMore_0, dX6_layMore_2, dX6_layMore_5, dX6_layMore_6, dX6_layMore_7, dX6_layMore_8, dX6_layMore_11, dX6_layMore_14, dX6_layMore_15, dX6_layMore_18, dX6_layMore_19, dX6_layMore_20, dX6_layMore_21, dX6_layMore_23, dX6_layMore_25, dX6_layMore_26, dX6_layMore_29, dX6_layMore_30, dX6_layMore_31, dX6_layMore_32, dX6_layMore_33, dX6_layMore_35, dX6_layMore_36, dX6_layMore_37, dX6_layMore_39, dX6_layMore_41, dX6_layMore_42, dX6_layMore_43, dX6_layMore_46, dX6_layMore_48, dX6_layMore_50, dX6_layMore_53, dX6_layMore_55, dX6_layMore_56, dX6_layMore_59, dX6_layMore_62, dX6_layMore_63, cr_6_198, cr_6_202, al_10, al_11, al_12, al_13, al_14, al_16, al_17, al_18, al_19, al_2, al_20, al_21, al_23, al_24, al_27, al_28, al_29, al_3, al_30, al_31, al_32, al_34, al_36, al_37, al_38, al_39, al_4, al_40, al_41, al_42, al_43, al_45, al_46, al_47, al_48, al_49, al_5, al_52, al_53, al_54, al_55, al_56, al_57, al_58, al_6, al_60, al_61, al_62, al_63, al_64, al_65, al_66, al_67, al_69, al_7, al_70, al_71, al_72, al_73, al_9, cat_i, cat_l, cat_r, cat_u, pcl_0, pcl_1, pcl_100, pcl_101, pcl_102, pcl_103, pcl_104, pcl_105, pcl_106, pcl_107, pcl_108, pcl_109, pcl_110, pcl_111, pcl_112, pcl_15, pcl_22, pcl_25, pcl_26, pcl_33, pcl_44, pcl_50, pcl_59, pcl_8, rOK_i, rOK_z, v_aload_0, v_goto, v_ic_ge, v_iconst_0, v_iconst_1, v_iconst_m1, v_if_eq, v_if_gt, v_if_lt, v_iinc_5, v_iload_1, v_iload_2, v_iload_3, v_iload_4, v_iload_5, v_iload_6, v_invv, v_ior, v_ireturn, v_ishl, v_istore_5, v_istore_6, v_isub, vcV_3_5, vcV_5_5, vc_0, vc_s, rr_0, rr_1, csT_h, csT_t, csT_n, bI_0, bI_1, bI_z, bT, List.mem_cons, List.not_mem_nil, List.length_cons, List.length_nil, ite_not, reduceIte, true_and, and_true, not_true_eq_false, not_false_eq_true, false_or, or_false, or_true, true_or, Nat.reduceAdd, Nat.reduceEqDiff, Nat.reduceBEq, Nat.reduceLeDiff, Nat.reduceLT, Nat.reduceSub, Int.reduceAdd, Int.reduceLE, Int.reduceLT, Int.reduceToNat, Int.reduceNeg, Int.reduceNatCast', reduceCtorEq, Int32.reduceOfInt, Int32.reduceOfNat, Int32.reduceToNatClampNeg, Int32.reduceToInt, i10, i01, pe_X6_crossesLaid, show (nI 0 ≤ 0) = True from by decide, h1, h2, h3, hasW, jk_n, xwl_jk, jk_jk, Classical.not_not]
    intro a' b'
    rw [lmF] at h
    by_cases hc : (xwl M (w).toNatClampNeg s).1 < 12
    · rw [if_pos hc]
      rw [if_neg (fun z => z hc)] at h
      exact h a' b'
    · rw [if_neg hc]
      rw [if_pos hc] at h
      exact h a' b'
  | succ m ih =>
    intro hm d hd s n a b k hn h
    obtain ⟨d, rfl⟩ : ∃ d', d = d' + 1 := ⟨d - 1, by omega⟩
    have hpos : 0 < nI (m + 1) := nI_lt (a := 0) (by omega) (by omega)
    have lp : ∀ (r i : Nat) (x6 : Value) (a b : Nat → Int32), i + r = n → (∀ a b, k (.int (fstF (fun p => lmF (fun s => ¬ (xwl M (w).toNatClampNeg s).1 < 12) m (s ||| 1 <<< (nI p &&& 31)) p) r i)) (jk M a b)) → WP (6, yX6_layMore, cX6_layMore, 7, (some .int)) (d + 1) k 23 [.ref 0, .int w, .int s, .int (nI n), .int (nI (m + 1)), .int (nI i), x6] [] (jk M a b) := by
      intro r
      induction r with
      | zero =>
        intro i x6 a b hi hk
        have : n = i := by omega
        have c1 : nI n ≤ nI i := nI_le (by omega) (by omega)
        refine goV (n := 80) [] [23] T_nil ?_
        simp only [dX6_layMore_0, dX6_layMore_2, dX6_layMore_5, dX6_layMore_6, dX6_layMore_7, dX6_layMore_8, dX6_layMore_11, dX6_layMore_14, dX6_layMore_15, dX6_layMore_18, dX6_layMore_19, dX6_layMore_20, dX6_layMore_21, dX6_layMore_23, dX6_layMore_25, dX6_layMore_26, dX6_layMore_29, dX6_layMore_30, dX6_layMore_31, dX6_layMore_32, dX6_layMore_33, dX6_layMore_35, dX6_layMore_36, dX6_layMore_37, dX6_layMore_39, dX6_layMore_41, dX6_layMore_42, dX6_layMore_43, dX6_layMore_46, dX6_layMore_48, dX6_layMore_50, dX6_layMore_53, dX6_layMore_55, dX6_layMore_56, dX6_layMore_59, dX6_layMore_62, dX6_layMore_63, cr_6_198, cr_6_202, al_10, al_11, al_12, al_13, al_14, al_16, al_17, al_18, al_19, al_2, al_20, al_21, al_23, al_24, al_27, al_28, al_29, al_3, al_30, al_31, al_32, al_34, al_36, al_37, al_38, al_39, al_4, al_40, al_41, al_42, al_43, al_45, al_46, al_47, al_48, al_49, al_5, al_52, al_53, al_54, al_55, al_56, al_57, al_58, al_6, al_60, al_61, al_62, al_63, al_64, al_65, al_66, al_67, al_69, al_7, al_70, al_71, al_72, al_73, al_9, cat_i, cat_l, cat_r, cat_u, pcl_0, pcl_1, pcl_100, pcl_101, pcl_102, pcl_103, pcl_104, pcl_105, pcl_106, pcl_107, pcl_108, pcl_109, pcl_110, pcl_111, pcl_112, pcl_15, pcl_22, pcl_25, pcl_26, pcl_33, pcl_44, pcl_50, pcl_59, pcl_8, rOK_i, rOK_z, v_aload_0, v_goto, v_ic_ge, v_iconst_0, v_iconst_1, v_iconst_m1, v_if_eq, v_if_gt, v_if_lt, v_iinc_5, v_iload_1, v_iload_2, v_iload_3, v_iload_4, v_iload_5, v_iload_6, v_invv, v_ior, v_ireturn, v_ishl, v_istore_5, v_istore_6, v_isub, vcV_3_5, vcV_5_5, vc_0, vc_s, rr_0, rr_1, csT_h, csT_t, csT_n, bI_0, bI_1, bI_z, bT, List.mem_cons, List.not_mem_nil, List.length_cons, List.length_nil, ite_not, reduceIte, true_and, and_true, not_true_eq_false, not_false_eq_true, false_or, or_false, or_true, true_or, Nat.reduceAdd, Nat.reduceEqDiff, Nat.reduceBEq, Nat.reduceLeDiff, Nat.reduceLT, Nat.reduceSub, Int.reduceAdd, Int.reduceLE, Int.reduceLT, Int.reduceToNat, Int.reduceNeg, Int.reduceNatCast', reduceCtorEq, Int32.reduceOfInt, Int32.reduceOfNat, Int32.reduceToNatClampNeg, Int32.reduceToInt, i10, i01, c1]
        exact hk a b
      | succ r ihr =>
        intro i x6 a b hi hk
        have c1 : ¬ nI n ≤ nI i := nI_ge (by omega) (by omega)
        refine goV (n := 80) [] [23] T_nil ?_
        simp only [dX6_layMore_0, dX6_layMore_2, dX6_layMore_5, dX6_layMore_6, dX6_layMore_7, dX6_layMore_8, dX6_layMore_11, dX6_layMore_14, dX6_layMore_15, dX6_layMore_18, dX6_layMore_19, dX6_layMore_20, dX6_layMore_21, dX6_layMore_23, dX6_layMore_25, dX6_layMore_26, dX6_layMore_29, dX6_layMore_30, dX6_layMore_31, dX6_layMore_32, dX6_layMore_33, dX6_layMore_35, dX6_layMore_36, dX6_layMore_37, dX6_layMore_39, dX6_layMore_41, dX6_layMore_42, dX6_layMore_43, dX6_layMore_46, dX6_layMore_48, dX6_layMore_50, dX6_layMore_53, dX6_layMore_55, dX6_layMore_56, dX6_layMore_59, dX6_layMore_62, dX6_layMore_63, cr_6_198, cr_6_202, al_10, al_11, al_12, al_13, al_14, al_16, al_17, al_18, al_19, al_2, al_20, al_21, al_23, al_24, al_27, al_28, al_29, al_3, al_30, al_31, al_32, al_34, al_36, al_37, al_38, al_39, al_4, al_40, al_41, al_42, al_43, al_45, al_46, al_47, al_48, al_49, al_5, al_52, al_53, al_54, al_55, al_56, al_57, al_58, al_6, al_60, al_61, al_62, al_63, al_64, al_65, al_66, al_67, al_69, al_7, al_70, al_71, al_72, al_73, al_9, cat_i, cat_l, cat_r, cat_u, pcl_0, pcl_1, pcl_100, pcl_101, pcl_102, pcl_103, pcl_104, pcl_105, pcl_106, pcl_107, pcl_108, pcl_109, pcl_110, pcl_111, pcl_112, pcl_15, pcl_22, pcl_25, pcl_26, pcl_33, pcl_44, pcl_50, pcl_59, pcl_8, rOK_i, rOK_z, v_aload_0, v_goto, v_ic_ge, v_iconst_0, v_iconst_1, v_iconst_m1, v_if_eq, v_if_gt, v_if_lt, v_iinc_5, v_iload_1, v_iload_2, v_iload_3, v_iload_4, v_iload_5, v_iload_6, v_invv, v_ior, v_ireturn, v_ishl, v_istore_5, v_istore_6, v_isub, vcV_3_5, vcV_5_5, vc_0, vc_s, rr_0, rr_1, csT_h, csT_t, csT_n, bI_0, bI_1, bI_z, bT, List.mem_cons, List.not_mem_nil, List.length_cons, List.length_nil, ite_not, reduceIte, true_and, and_true, not_true_eq_false, not_false_eq_true, false_or, or_false, or_true, true_or, Nat.reduceAdd, Nat.reduceEqDiff, Nat.reduceBEq, Nat.reduceLeDiff, Nat.reduceLT, Nat.reduceSub, Int.reduceAdd, Int.reduceLE, Int.reduceLT, Int.reduceToNat, Int.reduceNeg, Int.reduceNatCast', reduceCtorEq, Int32.reduceOfInt, Int32.reduceOfNat, Int32.reduceToNatClampNeg, Int32.reduceToInt, i10, i01, c1, nI_pred]
        refine ih (by omega) d (by omega) _ i a b _ (by omega) (fun a b => ?_)
        simp only [dX6_layMore_0, dX6_layMore_2, dX6_layMore_5, dX6_layMore_6, dX6_layMore_7, dX6_layMore_8, dX6_layMore_11, dX6_layMore_14, dX6_layMore_15, dX6_layMore_18, dX6_layMore_19, dX6_layMore_20, dX6_layMore_21, dX6_layMore_23, dX6_layMore_25, dX6_layMore_26, dX6_layMore_29, dX6_layMore_30, dX6_layMore_31, dX6_layMore_32, dX6_layMore_33, dX6_layMore_35, dX6_layMore_36, dX6_layMore_37, dX6_layMore_39, dX6_layMore_41, dX6_layMore_42, dX6_layMore_43, dX6_layMore_46, dX6_layMore_48, dX6_layMore_50, dX6_layMore_53, dX6_layMore_55, dX6_layMore_56, dX6_layMore_59, dX6_layMore_62, dX6_layMore_63, cr_6_198, cr_6_202, al_10, al_11, al_12, al_13, al_14, al_16, al_17, al_18, al_19, al_2, al_20, al_21, al_23, al_24, al_27, al_28, al_29, al_3, al_30, al_31, al_32, al_34, al_36, al_37, al_38, al_39, al_4, al_40, al_41, al_42, al_43, al_45, al_46, al_47, al_48, al_49, al_5, al_52, al_53, al_54, al_55, al_56, al_57, al_58, al_6, al_60, al_61, al_62, al_63, al_64, al_65, al_66, al_67, al_69, al_7, al_70, al_71, al_72, al_73, al_9, cat_i, cat_l, cat_r, cat_u, pcl_0, pcl_1, pcl_100, pcl_101, pcl_102, pcl_103, pcl_104, pcl_105, pcl_106, pcl_107, pcl_108, pcl_109, pcl_110, pcl_111, pcl_112, pcl_15, pcl_22, pcl_25, pcl_26, pcl_33, pcl_44, pcl_50, pcl_59, pcl_8, rOK_i, rOK_z, v_aload_0, v_goto, v_ic_ge, v_iconst_0, v_iconst_1, v_iconst_m1, v_if_eq, v_if_gt, v_if_lt, v_iinc_5, v_iload_1, v_iload_2, v_iload_3, v_iload_4, v_iload_5, v_iload_6, v_invv, v_ior, v_ireturn, v_ishl, v_istore_5, v_istore_6, v_isub, vcV_3_5, vcV_5_5, vc_0, vc_s, rr_0, rr_1, csT_h, csT_t, csT_n, bI_0, bI_1, bI_z, bT, List.mem_cons, List.not_mem_nil, List.length_cons, List.length_nil, ite_not, reduceIte, true_and, and_true, not_true_eq_false, not_false_eq_true, false_or, or_false, or_true, true_or, Nat.reduceAdd, Nat.reduceEqDiff, Nat.reduceBEq, Nat.reduceLeDiff, Nat.reduceLT, Nat.reduceSub, Int.reduceAdd, Int.reduceLE, Int.reduceLT, Int.reduceToNat, Int.reduceNeg, Int.reduceNatCast', reduceCtorEq, Int32.reduceOfInt, Int32.reduceOfNat, Int32.reduceToNatClampNeg, Int32.reduceToInt, i10, i01, nI_1]
        rw [fstF] at hk
        by_cases hc : (0 : Int32) ≤ lmF (fun s => ¬ (xwl M (w).toNatClampNeg s).1 < 12) m (s ||| 1 <<< (nI i &&& 31)) i
        · rw [if_neg (fun z => Int32.not_lt.mpr hc z)]
          rw [if_pos hc] at hk
          exact hk a b
        · rw [if_pos (Int32.not_le.mp hc)]
          rw [if_neg hc] at hk
          exact ihr (i + 1) _ a b (by omega) hk
    refine enterV (n := 80) [] [23] mI_119 (by decide) (Nat.le_of_ble_eq_true rfl) T_nil ?_
    rw [show lent 7 ([.ref 0, .int w, .int s, .int (nI n), .int (nI (m + 1))] : List Value) = [.ref 0, .int w, .int s, .int (nI n), .int (nI (m + 1)), .retAddr 0, .retAddr 0] from rfl]
    simp only [dX6_layMore_0, dX6_layMore_2, dX6_layMore_5, dX6_layMore_6, dX6_layMore_7, dX6_layMore_8, dX6_layMore_11, dX6_layMore_14, dX6_layMore_15, dX6_layMore_18, dX6_layMore_19, dX6_layMore_20, dX6_layMore_21, dX6_layMore_23, dX6_layMore_25, dX6_layMore_26, dX6_layMore_29, dX6_layMore_30, dX6_layMore_31, dX6_layMore_32, dX6_layMore_33, dX6_layMore_35, dX6_layMore_36, dX6_layMore_37, dX6_layMore_39, dX6_layMore_41, dX6_layMore_42, dX6_layMore_43, dX6_layMore_46, dX6_layMore_48, dX6_layMore_50, dX6_layMore_53, dX6_layMore_55, dX6_layMore_56, dX6_layMore_59, dX6_layMore_62, dX6_layMore_63, cr_6_198, cr_6_202, al_10, al_11, al_12, al_13, al_14, al_16, al_17, al_18, al_19, al_2, al_20, al_21, al_23, al_24, al_27, al_28, al_29, al_3, al_30, al_31, al_32, al_34, al_36, al_37, al_38, al_39, al_4, al_40, al_41, al_42, al_43, al_45, al_46, al_47, al_48, al_49, al_5, al_52, al_53, al_54, al_55, al_56, al_57, al_58, al_6, al_60, al_61, al_62, al_63, al_64, al_65, al_66, al_67, al_69, al_7, al_70, al_71, al_72, al_73, al_9, cat_i, cat_l, cat_r, cat_u, pcl_0, pcl_1, pcl_100, pcl_101, pcl_102, pcl_103, pcl_104, pcl_105, pcl_106, pcl_107, pcl_108, pcl_109, pcl_110, pcl_111, pcl_112, pcl_15, pcl_22, pcl_25, pcl_26, pcl_33, pcl_44, pcl_50, pcl_59, pcl_8, rOK_i, rOK_z, v_aload_0, v_goto, v_ic_ge, v_iconst_0, v_iconst_1, v_iconst_m1, v_if_eq, v_if_gt, v_if_lt, v_iinc_5, v_iload_1, v_iload_2, v_iload_3, v_iload_4, v_iload_5, v_iload_6, v_invv, v_ior, v_ireturn, v_ishl, v_istore_5, v_istore_6, v_isub, vcV_3_5, vcV_5_5, vc_0, vc_s, rr_0, rr_1, csT_h, csT_t, csT_n, bI_0, bI_1, bI_z, bT, List.mem_cons, List.not_mem_nil, List.length_cons, List.length_nil, ite_not, reduceIte, true_and, and_true, not_true_eq_false, not_false_eq_true, false_or, or_false, or_true, true_or, Nat.reduceAdd, Nat.reduceEqDiff, Nat.reduceBEq, Nat.reduceLeDiff, Nat.reduceLT, Nat.reduceSub, Int.reduceAdd, Int.reduceLE, Int.reduceLT, Int.reduceToNat, Int.reduceNeg, Int.reduceNatCast', reduceCtorEq, Int32.reduceOfInt, Int32.reduceOfNat, Int32.reduceToNatClampNeg, Int32.reduceToInt, i10, i01, hpos]
    exact lp n 0 _ a b (by omega) h
def dfF (r s : Nat → Int32) : Nat → Nat → Int32 → Int32
  | 0, _, t => t
  | n + 1, i, t => dfF r s n (i + 1) (t + abI (r i - s i))
theorem dfF_congr {r s r' s' : Nat → Int32} (h1 : ∀ j, j < 12 → r j = r' j) (h2 : ∀ j, j < 12 → s j = s' j) : ∀ (n i : Nat) (t : Int32), i + n ≤ 12 → dfF r s n i t = dfF r' s' n i t := by
  intro n
  induction n with
  | zero => intro i t _; rfl
  | succ n ih =>
    intro i t hi
    rw [dfF, dfF, h1 i (by omega), h2 i (by omega)]
    exact ih (i + 1) _ (by omega)
set_option maxRecDepth 100000 in
set_option maxHeartbeats 4000000 in
theorem lp_difference {d : Nat} {M : Mem} {k : Value → Mem → Prop} {x y : Int32} : ∀ (n i : Nat) (t : Int32), i + n = 12 → k (.int (dfF (M 23) (M 24) n i t)) M → WP (6, yX6_difference, cX6_difference, 5, (some .int)) (d + 1) k 35 [.ref 0, .int x, .int y, .int t, .int (nI i)] [] M := by
  intro n
  induction n with
  | zero =>
    intro i t hi h
    have : i = 12 := by omega
    subst this
    refine goV (n := 80) [] [35] T_nil ?_
    simp only [dX6_difference_0, dX6_difference_1, dX6_difference_2, dX6_difference_5, dX6_difference_6, dX6_difference_7, dX6_difference_10, dX6_difference_13, dX6_difference_14, dX6_difference_15, dX6_difference_18, dX6_difference_19, dX6_difference_21, dX6_difference_24, dX6_difference_25, dX6_difference_26, dX6_difference_29, dX6_difference_30, dX6_difference_31, dX6_difference_32, dX6_difference_33, dX6_difference_35, dX6_difference_37, dX6_difference_39, dX6_difference_42, dX6_difference_43, dX6_difference_44, dX6_difference_47, dX6_difference_50, dX6_difference_52, dX6_difference_53, dX6_difference_54, dX6_difference_57, dX6_difference_59, dX6_difference_60, dX6_difference_61, dX6_difference_64, dX6_difference_65, dX6_difference_66, dX6_difference_69, dX6_difference_72, dX6_difference_73, cr_6_148, cr_6_280, cr_6_301, fr_6_154, fr_6_25, fr_6_29, al_10, al_11, al_12, al_13, al_14, al_16, al_17, al_18, al_19, al_2, al_20, al_21, al_23, al_24, al_27, al_28, al_29, al_3, al_30, al_31, al_32, al_34, al_36, al_37, al_38, al_39, al_4, al_40, al_41, al_42, al_43, al_45, al_46, al_47, al_48, al_49, al_5, al_52, al_53, al_54, al_55, al_56, al_57, al_58, al_6, al_60, al_61, al_62, al_63, al_64, al_65, al_66, al_67, al_69, al_7, al_70, al_71, al_72, al_73, al_9, cat_i, cat_l, cat_r, cat_u, gf_4_0_22, gf_4_0_33, gf_5_3_0, gf_5_4_0, pcl_0, pcl_1, pcl_100, pcl_101, pcl_102, pcl_103, pcl_104, pcl_105, pcl_106, pcl_107, pcl_108, pcl_109, pcl_110, pcl_111, pcl_112, pcl_15, pcl_22, pcl_25, pcl_26, pcl_33, pcl_44, pcl_50, pcl_59, pcl_8, rOK_i, rOK_z, v_aload_0, v_bipush_12, v_getfield, v_goto, v_iadd, v_iaload, v_ic_ge, v_iconst_0, v_iinc_4, v_iload_1, v_iload_2, v_iload_3, v_iload_4, v_invs, v_invv, v_ireturn, v_istore_3, v_istore_4, v_isub, v_pop, vcS_abs, vcS_cp, vcV_2_5, vgf_i, vgf_r, vgf_s, vc_0, vc_s, rr_0, rr_1, csT_h, csT_t, csT_n, bI_0, bI_1, bI_z, bT, List.mem_cons, List.not_mem_nil, List.length_cons, List.length_nil, ite_not, reduceIte, true_and, and_true, not_true_eq_false, not_false_eq_true, false_or, or_false, or_true, true_or, Nat.reduceAdd, Nat.reduceEqDiff, Nat.reduceBEq, Nat.reduceLeDiff, Nat.reduceLT, Nat.reduceSub, Int.reduceAdd, Int.reduceLE, Int.reduceLT, Int.reduceToNat, Int.reduceNeg, Int.reduceNatCast', reduceCtorEq, Int32.reduceOfInt, Int32.reduceOfNat, Int32.reduceToNatClampNeg, Int32.reduceToInt, i10, i01, show (12 : Int32) ≤ nI 12 from by decide]
    exact h
  | succ n ih =>
    intro i t hi h
    refine goV (n := 80) [] [35] T_nil ?_
    have c1 : ¬ (12 : Int32) ≤ nI i := nI_ge (b := 12) (by omega) (by decide)
    have c2 : (nI i).toInt = i := nI_toInt (by omega)
    have c3 : (nI i).toNatClampNeg = i := nI_clamp (by omega)
    simp only [dX6_difference_0, dX6_difference_1, dX6_difference_2, dX6_difference_5, dX6_difference_6, dX6_difference_7, dX6_difference_10, dX6_difference_13, dX6_difference_14, dX6_difference_15, dX6_difference_18, dX6_difference_19, dX6_difference_21, dX6_difference_24, dX6_difference_25, dX6_difference_26, dX6_difference_29, dX6_difference_30, dX6_difference_31, dX6_difference_32, dX6_difference_33, dX6_difference_35, dX6_difference_37, dX6_difference_39, dX6_difference_42, dX6_difference_43, dX6_difference_44, dX6_difference_47, dX6_difference_50, dX6_difference_52, dX6_difference_53, dX6_difference_54, dX6_difference_57, dX6_difference_59, dX6_difference_60, dX6_difference_61, dX6_difference_64, dX6_difference_65, dX6_difference_66, dX6_difference_69, dX6_difference_72, dX6_difference_73, cr_6_148, cr_6_280, cr_6_301, fr_6_154, fr_6_25, fr_6_29, al_10, al_11, al_12, al_13, al_14, al_16, al_17, al_18, al_19, al_2, al_20, al_21, al_23, al_24, al_27, al_28, al_29, al_3, al_30, al_31, al_32, al_34, al_36, al_37, al_38, al_39, al_4, al_40, al_41, al_42, al_43, al_45, al_46, al_47, al_48, al_49, al_5, al_52, al_53, al_54, al_55, al_56, al_57, al_58, al_6, al_60, al_61, al_62, al_63, al_64, al_65, al_66, al_67, al_69, al_7, al_70, al_71, al_72, al_73, al_9, cat_i, cat_l, cat_r, cat_u, gf_4_0_22, gf_4_0_33, gf_5_3_0, gf_5_4_0, pcl_0, pcl_1, pcl_100, pcl_101, pcl_102, pcl_103, pcl_104, pcl_105, pcl_106, pcl_107, pcl_108, pcl_109, pcl_110, pcl_111, pcl_112, pcl_15, pcl_22, pcl_25, pcl_26, pcl_33, pcl_44, pcl_50, pcl_59, pcl_8, rOK_i, rOK_z, v_aload_0, v_bipush_12, v_getfield, v_goto, v_iadd, v_iaload, v_ic_ge, v_iconst_0, v_iinc_4, v_iload_1, v_iload_2, v_iload_3, v_iload_4, v_invs, v_invv, v_ireturn, v_istore_3, v_istore_4, v_isub, v_pop, vcS_abs, vcS_cp, vcV_2_5, vgf_i, vgf_r, vgf_s, vc_0, vc_s, rr_0, rr_1, csT_h, csT_t, csT_n, bI_0, bI_1, bI_z, bT, List.mem_cons, List.not_mem_nil, List.length_cons, List.length_nil, ite_not, reduceIte, true_and, and_true, not_true_eq_false, not_false_eq_true, false_or, or_false, or_true, true_or, Nat.reduceAdd, Nat.reduceEqDiff, Nat.reduceBEq, Nat.reduceLeDiff, Nat.reduceLT, Nat.reduceSub, Int.reduceAdd, Int.reduceLE, Int.reduceLT, Int.reduceToNat, Int.reduceNeg, Int.reduceNatCast', reduceCtorEq, Int32.reduceOfInt, Int32.reduceOfNat, Int32.reduceToNatClampNeg, Int32.reduceToInt, i10, i01, c1, c2, c3, nI_1]
    exact ⟨by omega, by omega, ih (i + 1) _ (by omega) h⟩
theorem xw_24 {M : Mem} {c : Nat → Int32} {i : Nat} : xw (mrow M 24 c) i = xw M i := by
  unfold xw
  rw [mrow_n (by decide), mrow_n (by decide), mrow_n (by decide), mrow_n (by decide), mrow_n (by decide)]
def pf_X6_difference : PF := fun args M k => match args with
  | [.ref o, .int x, .int y] => (o = 0 ∧ hasW M 1 x ∧ hasW M 1 y) ∧ (∀ a b c, k (.int (dfF (xw M (y).toNatClampNeg).2.2 (xw M (x).toNatClampNeg).2.2 12 0 0)) (mrow (jk M a b) 24 c))
  | _ => False
theorem pe_X6_difference {o : Nat} {x : Int32} {y : Int32} {M : Mem} {k : Value → Mem → Prop} : pf_X6_difference [.ref o, .int x, .int y] M k = ((o = 0 ∧ hasW M 1 x ∧ hasW M 1 y) ∧ (∀ a b c, k (.int (dfF (xw M (y).toNatClampNeg).2.2 (xw M (x).toNatClampNeg).2.2 12 0 0)) (mrow (jk M a b) 24 c))) := rfl
set_option maxRecDepth 100000 in
set_option maxHeartbeats 4000000 in
theorem c_X6_difference {d : Nat} (hd : 5 ≤ d) {o : Nat} {x : Int32} {y : Int32} {M : Mem} {k : Value → Mem → Prop} (h : (o = 0 ∧ hasW M 1 x ∧ hasW M 1 y) ∧ (∀ a b c, k (.int (dfF (xw M (y).toNatClampNeg).2.2 (xw M (x).toNatClampNeg).2.2 12 0 0)) (mrow (jk M a b) 24 c))) : CallP d 120 [.ref o, .int x, .int y] M k := by
  obtain ⟨hp, h⟩ := h
  obtain ⟨d, rfl⟩ : ∃ d', d = d' + 1 := ⟨d - 1, by omega⟩
  obtain ⟨rfl, ⟨h1, h2, h3⟩, ⟨g1, g2, g3⟩⟩ := hp
  · refine enterV (n := 80) [(116, pf_X6_tryWalk)] [35] mI_120 (by decide) (Nat.le_of_ble_eq_true rfl) (T_cons (s_X6_tryWalk (by omega)) T_nil) ?_
    rw [show lent 5 ([.ref 0, .int x, .int y] : List Value) = [.ref 0, .int x, .int y, .retAddr 0, .retAddr 0] from rfl]
    simp only [dX6_difference_0, dX6_difference_1, dX6_difference_2, dX6_difference_5, dX6_difference_6, dX6_difference_7, dX6_difference_10, dX6_difference_13, dX6_difference_14, dX6_difference_15, dX6_difference_18, dX6_difference_19, dX6_difference_21, dX6_difference_24, dX6_difference_25, dX6_difference_26, dX6_difference_29, dX6_difference_30, dX6_difference_31, dX6_difference_32, dX6_difference_33, dX6_difference_35, dX6_difference_37, dX6_difference_39, dX6_difference_42, dX6_difference_43, dX6_difference_44, dX6_difference_47, dX6_difference_50, dX6_difference_52, dX6_difference_53, dX6_difference_54, dX6_difference_57, dX6_difference_59, dX6_difference_60, dX6_difference_61, dX6_difference_64, dX6_difference_65, dX6_difference_66, dX6_difference_69, dX6_difference_72, dX6_difference_73, cr_6_148, cr_6_280, cr_6_301, fr_6_154, fr_6_25, fr_6_29, al_10, al_11, al_12, al_13, al_14, al_16, al_17, al_18, al_19, al_2, al_20, al_21, al_23, al_24, al_27, al_28, al_29, al_3, al_30, al_31, al_32, al_34, al_36, al_37, al_38, al_39, al_4, al_40, al_41, al_42, al_43, al_45, al_46, al_47, al_48, al_49, al_5, al_52, al_53, al_54, al_55, al_56, al_57, al_58, al_6, al_60, al_61, al_62, al_63, al_64, al_65, al_66, al_67, al_69, al_7, al_70, al_71, al_72, al_73, al_9, cat_i, cat_l, cat_r, cat_u, gf_4_0_22, gf_4_0_33, gf_5_3_0, gf_5_4_0, pcl_0, pcl_1, pcl_100, pcl_101, pcl_102, pcl_103, pcl_104, pcl_105, pcl_106, pcl_107, pcl_108, pcl_109, pcl_110, pcl_111, pcl_112, pcl_15, pcl_22, pcl_25, pcl_26, pcl_33, pcl_44, pcl_50, pcl_59, pcl_8, rOK_i, rOK_z, v_aload_0, v_bipush_12, v_getfield, v_goto, v_iadd, v_iaload, v_ic_ge, v_iconst_0, v_iinc_4, v_iload_1, v_iload_2, v_iload_3, v_iload_4, v_invs, v_invv, v_ireturn, v_istore_3, v_istore_4, v_isub, v_pop, vcS_abs, vcS_cp, vcV_2_5, vgf_i, vgf_r, vgf_s, vc_0, vc_s, rr_0, rr_1, csT_h, csT_t, csT_n, bI_0, bI_1, bI_z, bT, List.mem_cons, List.not_mem_nil, List.length_cons, List.length_nil, ite_not, reduceIte, true_and, and_true, not_true_eq_false, not_false_eq_true, false_or, or_false, or_true, true_or, Nat.reduceAdd, Nat.reduceEqDiff, Nat.reduceBEq, Nat.reduceLeDiff, Nat.reduceLT, Nat.reduceSub, Int.reduceAdd, Int.reduceLE, Int.reduceLT, Int.reduceToNat, Int.reduceNeg, Int.reduceNatCast', reduceCtorEq, Int32.reduceOfInt, Int32.reduceOfNat, Int32.reduceToNatClampNeg, Int32.reduceToInt, i10, i01, pe_X6_tryWalk, h1, h2, h3, g1, g2, g3, hasW, cpy0, jk_n, jk_23, mrow_n, mrow_s, xw_24, xw_jk]
    intro a b _ hb a' b' _ hb'
    refine lp_difference 12 0 0 rfl ?_
    have e1 : jk (mrow (jk M a b) 24 (cpN 12 b (M 24))) a' b' = mrow (jk M a' b') 24 (cpN 12 b (M 24)) := by
      funext z
      unfold jk mrow
      by_cases z1 : z = 22 <;> by_cases z2 : z = 23 <;> by_cases z3 : z = 24 <;> simp [z1, z2, z3] <;> omega
    rw [e1]
    have e2 : mrow (jk M a' b') 24 (cpN 12 b (M 24)) 23 = b' := by rw [mrow_n (by decide), jk_23]
    have e3 : mrow (jk M a' b') 24 (cpN 12 b (M 24)) 24 = cpN 12 b (M 24) := mrow_s
    rw [e2, e3, dfF_congr hb' (fun j hj => (cpN_lt hj).trans (hb j hj)) 12 0 0 (by decide)]
    exact h a' b' _

theorem s_X6_difference {d : Nat} (hd : 5 ≤ d) : Snd d 120 pf_X6_difference := by
  intro args M k h
  unfold pf_X6_difference at h
  split at h
  · exact c_X6_difference hd h
  · exact h.elim
def powL (b : Int64) : Nat → Int64 → Int64
  | 0, p => p
  | n + 1, p => powL b n (p * b)
set_option maxRecDepth 100000 in
set_option maxHeartbeats 4000000 in
theorem lp_power {d : Nat} {M : Mem} {k : Value → Mem → Prop} {b : Int64} {m : Nat} (hm : m ≤ 14) : ∀ (n i : Nat) (t : Int64), i + n = m → k (.long (powL b n t)) M → WP (6, yX6_power, cX6_power, 6, (some .long)) (d + 1) k 5 [.long b, .retAddr 0, .int (nI m), .long t, .retAddr 0, .int (nI i)] [] M := by
  intro n
  induction n with
  | zero =>
    intro i t hi h
    have : i = m := by omega
    subst this
    refine goV (n := 80) [] [5] T_nil ?_
    simp only [dX6_power_0, dX6_power_1, dX6_power_2, dX6_power_3, dX6_power_5, dX6_power_7, dX6_power_8, dX6_power_11, dX6_power_12, dX6_power_13, dX6_power_14, dX6_power_15, dX6_power_18, dX6_power_21, dX6_power_22, cat_i, cat_l, cat_r, cat_u, v_goto, v_ic_ge, v_iconst_0, v_iinc_5, v_iload_2, v_iload_5, v_istore_5, v_lconst_1, v_lload_0, v_lload_3, v_lmul, v_lreturn, v_lstore_3, vc_0, vc_s, rr_0, rr_1, csT_h, csT_t, csT_n, bI_0, bI_1, bI_z, bT, List.mem_cons, List.not_mem_nil, List.length_cons, List.length_nil, ite_not, reduceIte, true_and, and_true, not_true_eq_false, not_false_eq_true, false_or, or_false, or_true, true_or, Nat.reduceAdd, Nat.reduceEqDiff, Nat.reduceBEq, Nat.reduceLeDiff, Nat.reduceLT, Nat.reduceSub, Int.reduceAdd, Int.reduceLE, Int.reduceLT, Int.reduceToNat, Int.reduceNeg, Int.reduceNatCast', reduceCtorEq, Int32.reduceOfInt, Int32.reduceOfNat, Int32.reduceToNatClampNeg, Int32.reduceToInt, i10, i01, show nI i ≤ nI i from nI_le (Nat.le_refl _) (by omega)]
    exact h
  | succ n ih =>
    intro i t hi h
    refine goV (n := 80) [] [5] T_nil ?_
    have c1 : ¬ nI m ≤ nI i := nI_ge (by omega) (by omega)
    simp only [dX6_power_0, dX6_power_1, dX6_power_2, dX6_power_3, dX6_power_5, dX6_power_7, dX6_power_8, dX6_power_11, dX6_power_12, dX6_power_13, dX6_power_14, dX6_power_15, dX6_power_18, dX6_power_21, dX6_power_22, cat_i, cat_l, cat_r, cat_u, v_goto, v_ic_ge, v_iconst_0, v_iinc_5, v_iload_2, v_iload_5, v_istore_5, v_lconst_1, v_lload_0, v_lload_3, v_lmul, v_lreturn, v_lstore_3, vc_0, vc_s, rr_0, rr_1, csT_h, csT_t, csT_n, bI_0, bI_1, bI_z, bT, List.mem_cons, List.not_mem_nil, List.length_cons, List.length_nil, ite_not, reduceIte, true_and, and_true, not_true_eq_false, not_false_eq_true, false_or, or_false, or_true, true_or, Nat.reduceAdd, Nat.reduceEqDiff, Nat.reduceBEq, Nat.reduceLeDiff, Nat.reduceLT, Nat.reduceSub, Int.reduceAdd, Int.reduceLE, Int.reduceLT, Int.reduceToNat, Int.reduceNeg, Int.reduceNatCast', reduceCtorEq, Int32.reduceOfInt, Int32.reduceOfNat, Int32.reduceToNatClampNeg, Int32.reduceToInt, i10, i01, c1, nI_1]
    exact ih (i + 1) _ (by omega) h
def pf_X6_power : PF := fun args M k => match args with
  | [.long b, .int n] => (¬ n < 0 ∧ ¬ 14 < n) ∧ (k (.long (powL b (n).toNatClampNeg 1)) M)
  | _ => False
theorem pe_X6_power {b : Int64} {n : Int32} {M : Mem} {k : Value → Mem → Prop} : pf_X6_power [.long b, .int n] M k = ((¬ n < 0 ∧ ¬ 14 < n) ∧ (k (.long (powL b (n).toNatClampNeg 1)) M)) := rfl
set_option maxRecDepth 100000 in
set_option maxHeartbeats 4000000 in
theorem c_X6_power {d : Nat} (hd : 1 ≤ d) {b : Int64} {n : Int32} {M : Mem} {k : Value → Mem → Prop} (h : (¬ n < 0 ∧ ¬ 14 < n) ∧ (k (.long (powL b (n).toNatClampNeg 1)) M)) : CallP d 123 [.long b, .int n] M k := by
  obtain ⟨hp, h⟩ := h
  obtain ⟨d, rfl⟩ : ∃ d', d = d' + 1 := ⟨d - 1, by omega⟩
  obtain ⟨h1, h2⟩ := hp
  obtain ⟨m, hm, rfl⟩ := nI_of2 (M := 14) (n := 14) rfl h1 (Int32.not_lt.mp h2)
  rw [nI_clamp (by omega)] at h
  refine enterV (n := 80) [] [5] mI_123 (by decide) (Nat.le_of_ble_eq_true rfl) T_nil ?_
  rw [show lent 6 ([.long b, .int (nI m)] : List Value) = [.long b, .retAddr 0, .int (nI m), .retAddr 0, .retAddr 0, .retAddr 0] from rfl]
  simp only [dX6_power_0, dX6_power_1, dX6_power_2, dX6_power_3, dX6_power_5, dX6_power_7, dX6_power_8, dX6_power_11, dX6_power_12, dX6_power_13, dX6_power_14, dX6_power_15, dX6_power_18, dX6_power_21, dX6_power_22, cat_i, cat_l, cat_r, cat_u, v_goto, v_ic_ge, v_iconst_0, v_iinc_5, v_iload_2, v_iload_5, v_istore_5, v_lconst_1, v_lload_0, v_lload_3, v_lmul, v_lreturn, v_lstore_3, vc_0, vc_s, rr_0, rr_1, csT_h, csT_t, csT_n, bI_0, bI_1, bI_z, bT, List.mem_cons, List.not_mem_nil, List.length_cons, List.length_nil, ite_not, reduceIte, true_and, and_true, not_true_eq_false, not_false_eq_true, false_or, or_false, or_true, true_or, Nat.reduceAdd, Nat.reduceEqDiff, Nat.reduceBEq, Nat.reduceLeDiff, Nat.reduceLT, Nat.reduceSub, Int.reduceAdd, Int.reduceLE, Int.reduceLT, Int.reduceToNat, Int.reduceNeg, Int.reduceNatCast', reduceCtorEq, Int32.reduceOfInt, Int32.reduceOfNat, Int32.reduceToNatClampNeg, Int32.reduceToInt, i10, i01]
  exact lp_power hm m 0 1 (by omega) h
theorem s_X6_power {d : Nat} (hd : 1 ≤ d) : Snd d 123 pf_X6_power := by
  intro args M k h
  unfold pf_X6_power at h
  split at h
  · exact c_X6_power hd h
  · exact h.elim
def pf_X6_commonDivisor : PF := fun args M k => match args with
  | [.int a, .int b] => (a = 12 ∧ ¬ b < 0 ∧ ¬ 12 < b) ∧ (k (.int (nI (Nat.gcd 12 (b).toNatClampNeg))) M)
  | _ => False
theorem pe_X6_commonDivisor {a : Int32} {b : Int32} {M : Mem} {k : Value → Mem → Prop} : pf_X6_commonDivisor [.int a, .int b] M k = ((a = 12 ∧ ¬ b < 0 ∧ ¬ 12 < b) ∧ (k (.int (nI (Nat.gcd 12 (b).toNatClampNeg))) M)) := rfl
set_option maxRecDepth 100000 in
set_option maxHeartbeats 4000000 in
theorem c_X6_commonDivisor {d : Nat} (hd : 1 ≤ d) {a : Int32} {b : Int32} {M : Mem} {k : Value → Mem → Prop} (h : (a = 12 ∧ ¬ b < 0 ∧ ¬ 12 < b) ∧ (k (.int (nI (Nat.gcd 12 (b).toNatClampNeg))) M)) : CallP d 122 [.int a, .int b] M k := by
  obtain ⟨hp, h⟩ := h
  obtain ⟨d, rfl⟩ : ∃ d', d = d' + 1 := ⟨d - 1, by omega⟩
  obtain ⟨rfl, h1, h2⟩ := hp
  obtain ⟨m, hm, rfl⟩ := nI_of2 (M := 12) (n := 12) rfl h1 (Int32.not_lt.mp h2)
  rw [nI_clamp (by omega)] at h
  refine enterV (n := 200) [] [] mI_122 (by decide) (Nat.le_of_ble_eq_true rfl) T_nil ?_
  rw [show lent 6 ([.int 12, .int (nI m)] : List Value) = [.int 12, .int (nI m), .retAddr 0, .retAddr 0, .retAddr 0, .retAddr 0] from rfl]
  have hc : m = 0 ∨ m = 1 ∨ m = 2 ∨ m = 3 ∨ m = 4 ∨ m = 5 ∨ m = 6 ∨ m = 7 ∨ m = 8 ∨ m = 9 ∨ m = 10 ∨ m = 11 ∨ m = 12 := by omega
  rcases hc with rfl | rfl | rfl | rfl | rfl | rfl | rfl | rfl | rfl | rfl | rfl | rfl | rfl
  all_goals
    unfold nI
    simp only [dX6_commonDivisor_0, dX6_commonDivisor_1, dX6_commonDivisor_2, dX6_commonDivisor_3, dX6_commonDivisor_4, dX6_commonDivisor_5, dX6_commonDivisor_7, dX6_commonDivisor_9, dX6_commonDivisor_11, dX6_commonDivisor_14, dX6_commonDivisor_15, dX6_commonDivisor_18, dX6_commonDivisor_19, dX6_commonDivisor_20, dX6_commonDivisor_21, dX6_commonDivisor_23, dX6_commonDivisor_24, dX6_commonDivisor_25, dX6_commonDivisor_27, dX6_commonDivisor_28, dX6_commonDivisor_31, dX6_commonDivisor_34, dX6_commonDivisor_35, cat_i, cat_l, cat_r, cat_u, rOK_i, rOK_z, v_bipush_12, v_goto, v_ic_ge, v_iconst_0, v_if_le, v_iinc_4, v_iload_0, v_iload_1, v_iload_2, v_iload_3, v_iload_4, v_iload_5, v_irem, v_ireturn, v_istore_2, v_istore_3, v_istore_4, v_istore_5, vc_0, vc_s, rr_0, rr_1, csT_h, csT_t, csT_n, bI_0, bI_1, bI_z, bT, List.mem_cons, List.not_mem_nil, List.length_cons, List.length_nil, ite_not, reduceIte, true_and, and_true, not_true_eq_false, not_false_eq_true, false_or, or_false, or_true, true_or, Nat.reduceAdd, Nat.reduceEqDiff, Nat.reduceBEq, Nat.reduceLeDiff, Nat.reduceLT, Nat.reduceSub, Int.reduceAdd, Int.reduceLE, Int.reduceLT, Int.reduceToNat, Int.reduceNeg, Int.reduceNatCast', reduceCtorEq, Int32.reduceOfInt, Int32.reduceOfNat, Int32.reduceToNatClampNeg, Int32.reduceToInt, i10, i01, Int32.reduceAdd, Int32.reduceSub, Int32.reduceMul, Int32.reduceDiv, Int32.reduceLT, Int32.reduceLE]
    repeat' apply And.intro
    all_goals first | exact h | decide
theorem s_X6_commonDivisor {d : Nat} (hd : 1 ≤ d) : Snd d 122 pf_X6_commonDivisor := by
  intro args M k h
  unfold pf_X6_commonDivisor at h
  split at h
  · exact c_X6_commonDivisor hd h
  · exact h.elim
