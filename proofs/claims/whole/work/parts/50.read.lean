/-! X: the whole text is read -/
/-- what reading leaves: all but the reader's own and the draft -/
def rdI (M N : Mem) : Prop := (∀ p, p ≠ 44 → p ≠ 15 → (p < 16 ∨ 20 < p) → N p = M p) ∧ N 44 6 = M 44 6 ∧ N 44 1 = M 44 1
theorem rdI.rf {M : Mem} : rdI M M := ⟨fun _ _ _ _ => rfl, rfl, rfl⟩
theorem rdI.tr {M N P : Mem} (h : rdI M N) (g : rdI N P) : rdI M P := ⟨fun p a b c => (g.1 p a b c).trans (h.1 p a b c), g.2.1.trans h.2.1, g.2.2.trans h.2.2⟩
def w6 (M : Mem) : Prop := ∃ n, n ≤ 6 ∧ M 15 6 = nI n
theorem nx_6 {M : Mem} {j : Nat} (h : j < 7) : nx M 44 j = M 44 j := by
  unfold nx lkM
  rw [mset_s, upd_n (bq (by omega)), mset_s, upd_n (bq (by omega)), mset_s, upd_n (bq (by omega))]
theorem nx_I {M : Mem} : rdI M (nx M) := ⟨fun _ a _ _ => nx_o a, nx_6 (by decide), nx_6 (by decide)⟩
theorem nx_w {M : Mem} (h : w6 M) : w6 (nx M) := by
  obtain ⟨n, a, b⟩ := h
  exact ⟨n, a, by rw [nx_o (by decide)]; exact b⟩
theorem ms_I {M : Mem} {q j : Nat} {v : Int32} (hq : 15 ≤ q ∧ q ≤ 20) : rdI M (mset M q j v) := by
  refine ⟨fun p _ b c => ?_, ?_, ?_⟩
  · unfold mset
    rw [mrow_n (bq (by omega))]
  · unfold mset
    rw [mrow_n (bq (by omega))]
  · unfold mset
    rw [mrow_n (bq (by omega))]
theorem add_I {M : Mem} {a g b : Int32} : rdI M (addM M 15 a g b) := by
  unfold addM
  exact (ms_I (by decide)).tr ((ms_I (by decide)).tr ((ms_I (by decide)).tr ((ms_I (by decide)).tr (ms_I (by decide)))))
theorem add_w {M : Mem} {a g b : Int32} (h : w6 M) (h6 : M 15 6 < 6) : w6 (addM M 15 a g b) := by
  obtain ⟨n, hn, e⟩ := h
  rw [e] at h6
  have h6 : n < 6 := (nI_ltI (b := 6) (by omega) (by decide)).mp h6
  refine ⟨n + 1, by omega, ?_⟩
  unfold addM
  rw [mset_s, upd_s, e, nI_1]
theorem w6_o {M N : Mem} (h : w6 M) (e : N 15 6 = M 15 6) : w6 N := by
  obtain ⟨n, a, b⟩ := h
  exact ⟨n, a, e.trans b⟩
theorem rpP_I {M : Mem} (h : w6 M) : rdI M (rpP M).2 ∧ w6 (rpP M).2 := by
  unfold rpP
  by_cases h1 : numN (nx M) 11
  · rw [if_pos h1]
    by_cases h2 : numN (nx (nx M)) 99
    · rw [if_pos h2]
      exact ⟨nx_I.tr (nx_I.tr ((ms_I (by decide)).tr nx_I)), nx_w (w6_o (nx_w (nx_w h)) (by unfold mset; rw [mrow_n (by decide)]))⟩
    · rw [if_neg h2]
      exact ⟨nx_I.tr nx_I, nx_w (nx_w h)⟩
  · rw [if_neg h1]
    exact ⟨nx_I, nx_w h⟩
theorem rnP_I {M : Mem} (h : w6 M) : rdI M (rnP M).2 ∧ w6 (rnP M).2 := by
  unfold rnP
  by_cases h1 : numN (nx M) 11
  · rw [if_pos h1]
    exact ⟨nx_I.tr ((ms_I (by decide)).tr nx_I), nx_w (w6_o (nx_w h) (by unfold mset; rw [mrow_n (by decide)]))⟩
  · rw [if_neg h1]
    exact ⟨nx_I, nx_w h⟩
theorem oneP_3 {w df : Int32} {M : Mem} : (oneP w df M).2 = nx (nx M) ∨ (oneP w df M).2 = nx M ∨ (oneP w df M).2 = M := by
  unfold oneP
  by_cases h1 : wrdN M w
  · rw [if_pos h1]
    by_cases h2 : numN (nx M) 99
    · rw [if_pos h2]
      exact Or.inl rfl
    · rw [if_neg h2]
      exact Or.inr (Or.inl rfl)
  · rw [if_neg h1]
    exact Or.inr (Or.inr rfl)
theorem nx_15 {M : Mem} : nx M 15 = M 15 := nx_o (by decide)
theorem oneP_I {w df : Int32} {M : Mem} : rdI M (oneP w df M).2 ∧ (oneP w df M).2 15 = M 15 := by
  rcases oneP_3 (w := w) (df := df) (M := M) with e | e | e
  · rw [e]
    exact ⟨rdI.tr nx_I nx_I, nx_15.trans nx_15⟩
  · rw [e]
    exact ⟨nx_I, nx_15⟩
  · rw [e]
    exact ⟨rdI.rf, rfl⟩
theorem rw2_I {kd g : Int32} {M : Mem} (h : w6 M) (h6 : M 15 6 < 6) : rdI M (rw2 kd g M).2 ∧ w6 (rw2 kd g M).2 := by
  have ho := oneP_I (w := 12) (df := 30) (M := M)
  unfold rw2
  rcases hq : oneP 12 30 M with ⟨a, m⟩
  rw [hq] at ho
  have e : m 15 6 = M 15 6 := congrFun ho.2 6
  cases a with
  | none => exact ⟨ho.1, w6_o h e⟩
  | some b => exact ⟨ho.1.tr add_I, add_w (w6_o h e) (by rw [e]; exact h6)⟩
theorem rwP_I {M : Mem} (h : w6 M) : rdI M (rwP M).2 ∧ w6 (rwP M).2 := by
  unfold rwP
  by_cases h1 : (¬ M 44 9 < 0 ∧ ¬ 6 < M 44 9) ∧ M 15 6 < 6
  · rw [if_pos h1]
    have ho := oneP_I (w := 11) (df := 50) (M := nx M)
    unfold rw1
    rcases hq : oneP 11 50 (nx M) with ⟨a, m⟩
    rw [hq] at ho
    have e : m 15 6 = M 15 6 := congrFun (ho.2.trans (nx_o (by decide))) 6
    cases a with
    | none => exact ⟨nx_I.tr ho.1, w6_o h e⟩
    | some b =>
      have hr := rw2_I (kd := M 44 9) (g := b) (w6_o h e) (by rw [e]; exact h1.2)
      exact ⟨nx_I.tr (ho.1.tr hr.1), hr.2⟩
  · rw [if_neg h1]
    exact ⟨rdI.rf, h⟩
theorem riP_I {M : Mem} (h : w6 M) : rdI M (riP M).2 ∧ w6 (riP M).2 := by
  have hm : ∀ v, w6 (mset M 15 7 v) := fun v => w6_o h (by rw [mset_s, upd_n (by decide)])
  unfold riP
  by_cases h1 : ¬ M 44 8 = 1
  · rw [if_pos h1]; exact ⟨rdI.rf, h⟩
  rw [if_neg h1]
  by_cases h2 : M 44 9 = 7
  · rw [if_pos h2]; exact rpP_I h
  rw [if_neg h2]
  by_cases h3 : M 44 9 = 8
  · rw [if_pos h3]; exact rnP_I h
  rw [if_neg h3]
  by_cases h4 : M 44 9 = 9
  · rw [if_pos h4]; exact ⟨(ms_I (by decide)).tr nx_I, nx_w (hm _)⟩
  rw [if_neg h4]
  by_cases h5 : M 44 9 = 10
  · rw [if_pos h5]; exact ⟨(ms_I (by decide)).tr nx_I, nx_w (hm _)⟩
  rw [if_neg h5]
  exact rwP_I h
theorem riP_b (M : Mem) : (riP M).1 = 0 ∨ (riP M).1 = 1 := by
  unfold riP
  by_cases h1 : ¬ M 44 8 = 1
  · rw [if_pos h1]; exact Or.inl rfl
  rw [if_neg h1]
  by_cases h2 : M 44 9 = 7
  · rw [if_pos h2]; exact rpP_b M
  rw [if_neg h2]
  by_cases h3 : M 44 9 = 8
  · rw [if_pos h3]; exact rnP_b M
  rw [if_neg h3]
  by_cases h4 : M 44 9 = 9
  · rw [if_pos h4]; exact Or.inr rfl
  rw [if_neg h4]
  by_cases h5 : M 44 9 = 10
  · rw [if_pos h5]; exact Or.inr rfl
  rw [if_neg h5]
  exact rwP_b M
/-- where the reader stands -/
def plc (M : Mem) : Int32 := if ¬ M 44 7 < 0 ∧ ¬ M 44 6 ≤ M 44 7 then M 47 (M 44 7).toNatClampNeg else M 44 1
def rdF : Nat → Int32 → Mem → Int32 × Mem
  | 0, _, M => (-1 - plc M, M)
  | n + 1, it, M => if (riP M).1 = 0 then (-1 - plc (riP M).2, (riP M).2) else if (riP M).2 44 8 = 5 then (it, (riP M).2) else if ¬ (riP M).2 44 8 = 3 then (-1 - plc (riP M).2, (riP M).2) else rdF n (it + 1) (nx (riP M).2)
theorem plc_p {M N : Mem} {T : Nat} (h : rdI M N) (e : M 44 6 = nI T) (hT : T ≤ 121) : ¬ N 44 7 < 0 → ¬ N 44 6 ≤ N 44 7 → ¬ 121 ≤ N 44 7 := by
  intro _ h2 h3
  apply h2
  rw [h.2.1, e]
  have : nI T ≤ nI 121 := nI_le hT (by decide)
  rw [Int32.le_iff_toInt_le] at this h3 ⊢
  exact Int.le_trans this h3
set_option maxRecDepth 100000 in
set_option maxHeartbeats 4000000 in
theorem lp_read {d : Nat} (hd : 4 ≤ d) {k : Value → Mem → Prop} {T : Nat} (hT : T ≤ 121) : ∀ (n i : Nat) (M : Mem), i + n = 121 → M 44 6 = nI T → w6 M → k (.int (rdF n (nI i) M).1) (rdF n (nI i) M).2 → WP (3, yX3_read, cX3_read, 3, (some .int)) (d + 1) k 15 [.ref 44, .ref 15, .int (nI i)] [] M := by
  intro n
  induction n with
  | zero =>
    intro i M hi h6 hw h
    have c1 : (121 ≤ nI i) = True := eq_true (nI_le (a := 121) (by omega) (by omega))
    have hp := eq_true (plc_p (M := M) rdI.rf h6 hT)
    refine goV (n := 80) [(30, pf_X3_place)] [15] (T_cons (s_X3_place (by omega)) T_nil) ?_
    simp only [dX3_read_0, dX3_read_1, dX3_read_4, dX3_read_5, dX3_read_8, dX3_read_9, dX3_read_10, dX3_read_13, dX3_read_14, dX3_read_15, dX3_read_16, dX3_read_18, dX3_read_21, dX3_read_22, dX3_read_23, dX3_read_26, dX3_read_29, dX3_read_30, dX3_read_31, dX3_read_34, dX3_read_35, dX3_read_36, dX3_read_37, dX3_read_40, dX3_read_41, dX3_read_44, dX3_read_45, dX3_read_46, dX3_read_47, dX3_read_50, dX3_read_51, dX3_read_54, dX3_read_55, dX3_read_56, dX3_read_59, dX3_read_60, dX3_read_61, dX3_read_62, dX3_read_63, dX3_read_66, dX3_read_67, dX3_read_68, dX3_read_71, dX3_read_74, dX3_read_77, dX3_read_78, dX3_read_79, dX3_read_82, dX3_read_83, cr_3_43, cr_3_46, cr_3_49, cr_3_53, cr_3_57, fr_3_34, fr_3_37, al_10, al_11, al_12, al_13, al_14, al_16, al_17, al_18, al_19, al_2, al_20, al_21, al_23, al_24, al_27, al_28, al_29, al_3, al_30, al_31, al_32, al_34, al_36, al_37, al_38, al_39, al_4, al_40, al_41, al_42, al_43, al_45, al_46, al_47, al_48, al_49, al_5, al_52, al_53, al_54, al_55, al_56, al_57, al_58, al_6, al_60, al_61, al_62, al_63, al_64, al_65, al_66, al_67, al_69, al_7, al_70, al_71, al_72, al_73, al_9, cat_i, cat_l, cat_r, cat_u, gf_2_7_44, gf_2_8_44, pcl_0, pcl_1, pcl_100, pcl_101, pcl_102, pcl_103, pcl_104, pcl_105, pcl_106, pcl_107, pcl_108, pcl_109, pcl_110, pcl_111, pcl_112, pcl_15, pcl_22, pcl_25, pcl_26, pcl_33, pcl_44, pcl_50, pcl_59, pcl_8, pft_2_7, pft_2_8, rOK_i, rOK_z, v_aload_0, v_aload_1, v_bipush_121, v_getfield, v_goto, v_iadd, v_ic_eq, v_ic_ge, v_ic_ne, v_iconst_0, v_iconst_1, v_iconst_3, v_iconst_5, v_iconst_m1, v_if_ne, v_iinc_2, v_iload_2, v_invv, v_ireturn, v_istore_2, v_isub, vcV_1_2, vcV_2_2, vgf_i, vgf_r, vgf_s, vc_d, rr_0, rr_1, csT_h, csT_t, csT_n, bI_0, bI_1, bI_z, bT, List.mem_cons, List.not_mem_nil, List.length_cons, List.length_nil, ite_not, ↓reduceIte, true_and, and_true, not_true_eq_false, not_false_eq_true, false_or, or_false, or_true, true_or, Nat.reduceAdd, Nat.reduceEqDiff, Nat.reduceBEq, Nat.reduceLeDiff, Nat.reduceLT, Nat.reduceSub, Int.reduceAdd, Int.reduceLE, Int.reduceLT, Int.reduceToNat, Int.reduceNeg, Int.reduceNatCast', reduceCtorEq, Int32.reduceOfInt, Int32.reduceOfNat, Int32.reduceToNatClampNeg, Int32.reduceToInt, i10, i01, pe_X3_place, c1]
    exact ⟨plc_p (M := M) rdI.rf h6 hT, h⟩
  | succ n ih =>
    intro i M hi h6 hw h
    have c1 : (121 ≤ nI i) = False := eq_false (nI_ge (b := 121) (by omega) (by decide))
    have c2 : ¬ M 15 6 < 0 := by
      obtain ⟨m, a, b⟩ := hw
      rw [b]
      exact nI_pos (by omega)
    obtain ⟨r1, r2⟩ := riP_I hw
    have hpl := plc_p r1 h6 hT
    rw [rdF] at h
    refine goV (n := 80) [(30, pf_X3_place), (32, pf_X3_readItem), (31, pf_X3_look)] [15] (T_cons (s_X3_place (by omega)) (T_cons (s_X3_readItem hd) (T_cons (s_X3_look (by omega)) T_nil))) ?_
    by_cases h1 : (riP M).1 = 0
    · rw [if_pos h1] at h
      simp only [dX3_read_0, dX3_read_1, dX3_read_4, dX3_read_5, dX3_read_8, dX3_read_9, dX3_read_10, dX3_read_13, dX3_read_14, dX3_read_15, dX3_read_16, dX3_read_18, dX3_read_21, dX3_read_22, dX3_read_23, dX3_read_26, dX3_read_29, dX3_read_30, dX3_read_31, dX3_read_34, dX3_read_35, dX3_read_36, dX3_read_37, dX3_read_40, dX3_read_41, dX3_read_44, dX3_read_45, dX3_read_46, dX3_read_47, dX3_read_50, dX3_read_51, dX3_read_54, dX3_read_55, dX3_read_56, dX3_read_59, dX3_read_60, dX3_read_61, dX3_read_62, dX3_read_63, dX3_read_66, dX3_read_67, dX3_read_68, dX3_read_71, dX3_read_74, dX3_read_77, dX3_read_78, dX3_read_79, dX3_read_82, dX3_read_83, cr_3_43, cr_3_46, cr_3_49, cr_3_53, cr_3_57, fr_3_34, fr_3_37, al_10, al_11, al_12, al_13, al_14, al_16, al_17, al_18, al_19, al_2, al_20, al_21, al_23, al_24, al_27, al_28, al_29, al_3, al_30, al_31, al_32, al_34, al_36, al_37, al_38, al_39, al_4, al_40, al_41, al_42, al_43, al_45, al_46, al_47, al_48, al_49, al_5, al_52, al_53, al_54, al_55, al_56, al_57, al_58, al_6, al_60, al_61, al_62, al_63, al_64, al_65, al_66, al_67, al_69, al_7, al_70, al_71, al_72, al_73, al_9, cat_i, cat_l, cat_r, cat_u, gf_2_7_44, gf_2_8_44, pcl_0, pcl_1, pcl_100, pcl_101, pcl_102, pcl_103, pcl_104, pcl_105, pcl_106, pcl_107, pcl_108, pcl_109, pcl_110, pcl_111, pcl_112, pcl_15, pcl_22, pcl_25, pcl_26, pcl_33, pcl_44, pcl_50, pcl_59, pcl_8, pft_2_7, pft_2_8, rOK_i, rOK_z, v_aload_0, v_aload_1, v_bipush_121, v_getfield, v_goto, v_iadd, v_ic_eq, v_ic_ge, v_ic_ne, v_iconst_0, v_iconst_1, v_iconst_3, v_iconst_5, v_iconst_m1, v_if_ne, v_iinc_2, v_iload_2, v_invv, v_ireturn, v_istore_2, v_isub, vcV_1_2, vcV_2_2, vgf_i, vgf_r, vgf_s, vc_d, rr_0, rr_1, csT_h, csT_t, csT_n, bI_0, bI_1, bI_z, bT, List.mem_cons, List.not_mem_nil, List.length_cons, List.length_nil, ite_not, ↓reduceIte, true_and, and_true, not_true_eq_false, not_false_eq_true, false_or, or_false, or_true, true_or, Nat.reduceAdd, Nat.reduceEqDiff, Nat.reduceBEq, Nat.reduceLeDiff, Nat.reduceLT, Nat.reduceSub, Int.reduceAdd, Int.reduceLE, Int.reduceLT, Int.reduceToNat, Int.reduceNeg, Int.reduceNatCast', reduceCtorEq, Int32.reduceOfInt, Int32.reduceOfNat, Int32.reduceToNatClampNeg, Int32.reduceToInt, i10, i01, pe_X3_place, pe_X3_readItem, pe_X3_look, c1, c2, h1]
      exact ⟨hpl, h⟩
    rw [if_neg h1] at h
    by_cases h2 : (riP M).2 44 8 = 5
    · rw [if_pos h2] at h
      simp only [dX3_read_0, dX3_read_1, dX3_read_4, dX3_read_5, dX3_read_8, dX3_read_9, dX3_read_10, dX3_read_13, dX3_read_14, dX3_read_15, dX3_read_16, dX3_read_18, dX3_read_21, dX3_read_22, dX3_read_23, dX3_read_26, dX3_read_29, dX3_read_30, dX3_read_31, dX3_read_34, dX3_read_35, dX3_read_36, dX3_read_37, dX3_read_40, dX3_read_41, dX3_read_44, dX3_read_45, dX3_read_46, dX3_read_47, dX3_read_50, dX3_read_51, dX3_read_54, dX3_read_55, dX3_read_56, dX3_read_59, dX3_read_60, dX3_read_61, dX3_read_62, dX3_read_63, dX3_read_66, dX3_read_67, dX3_read_68, dX3_read_71, dX3_read_74, dX3_read_77, dX3_read_78, dX3_read_79, dX3_read_82, dX3_read_83, cr_3_43, cr_3_46, cr_3_49, cr_3_53, cr_3_57, fr_3_34, fr_3_37, al_10, al_11, al_12, al_13, al_14, al_16, al_17, al_18, al_19, al_2, al_20, al_21, al_23, al_24, al_27, al_28, al_29, al_3, al_30, al_31, al_32, al_34, al_36, al_37, al_38, al_39, al_4, al_40, al_41, al_42, al_43, al_45, al_46, al_47, al_48, al_49, al_5, al_52, al_53, al_54, al_55, al_56, al_57, al_58, al_6, al_60, al_61, al_62, al_63, al_64, al_65, al_66, al_67, al_69, al_7, al_70, al_71, al_72, al_73, al_9, cat_i, cat_l, cat_r, cat_u, gf_2_7_44, gf_2_8_44, pcl_0, pcl_1, pcl_100, pcl_101, pcl_102, pcl_103, pcl_104, pcl_105, pcl_106, pcl_107, pcl_108, pcl_109, pcl_110, pcl_111, pcl_112, pcl_15, pcl_22, pcl_25, pcl_26, pcl_33, pcl_44, pcl_50, pcl_59, pcl_8, pft_2_7, pft_2_8, rOK_i, rOK_z, v_aload_0, v_aload_1, v_bipush_121, v_getfield, v_goto, v_iadd, v_ic_eq, v_ic_ge, v_ic_ne, v_iconst_0, v_iconst_1, v_iconst_3, v_iconst_5, v_iconst_m1, v_if_ne, v_iinc_2, v_iload_2, v_invv, v_ireturn, v_istore_2, v_isub, vcV_1_2, vcV_2_2, vgf_i, vgf_r, vgf_s, vc_d, rr_0, rr_1, csT_h, csT_t, csT_n, bI_0, bI_1, bI_z, bT, List.mem_cons, List.not_mem_nil, List.length_cons, List.length_nil, ite_not, ↓reduceIte, true_and, and_true, not_true_eq_false, not_false_eq_true, false_or, or_false, or_true, true_or, Nat.reduceAdd, Nat.reduceEqDiff, Nat.reduceBEq, Nat.reduceLeDiff, Nat.reduceLT, Nat.reduceSub, Int.reduceAdd, Int.reduceLE, Int.reduceLT, Int.reduceToNat, Int.reduceNeg, Int.reduceNatCast', reduceCtorEq, Int32.reduceOfInt, Int32.reduceOfNat, Int32.reduceToNatClampNeg, Int32.reduceToInt, i10, i01, pe_X3_place, pe_X3_readItem, pe_X3_look, c1, c2, h1, h2]
      exact h
    rw [if_neg h2] at h
    by_cases h3 : (riP M).2 44 8 = 3
    · rw [if_neg (fun z => z h3)] at h
      simp only [dX3_read_0, dX3_read_1, dX3_read_4, dX3_read_5, dX3_read_8, dX3_read_9, dX3_read_10, dX3_read_13, dX3_read_14, dX3_read_15, dX3_read_16, dX3_read_18, dX3_read_21, dX3_read_22, dX3_read_23, dX3_read_26, dX3_read_29, dX3_read_30, dX3_read_31, dX3_read_34, dX3_read_35, dX3_read_36, dX3_read_37, dX3_read_40, dX3_read_41, dX3_read_44, dX3_read_45, dX3_read_46, dX3_read_47, dX3_read_50, dX3_read_51, dX3_read_54, dX3_read_55, dX3_read_56, dX3_read_59, dX3_read_60, dX3_read_61, dX3_read_62, dX3_read_63, dX3_read_66, dX3_read_67, dX3_read_68, dX3_read_71, dX3_read_74, dX3_read_77, dX3_read_78, dX3_read_79, dX3_read_82, dX3_read_83, cr_3_43, cr_3_46, cr_3_49, cr_3_53, cr_3_57, fr_3_34, fr_3_37, al_10, al_11, al_12, al_13, al_14, al_16, al_17, al_18, al_19, al_2, al_20, al_21, al_23, al_24, al_27, al_28, al_29, al_3, al_30, al_31, al_32, al_34, al_36, al_37, al_38, al_39, al_4, al_40, al_41, al_42, al_43, al_45, al_46, al_47, al_48, al_49, al_5, al_52, al_53, al_54, al_55, al_56, al_57, al_58, al_6, al_60, al_61, al_62, al_63, al_64, al_65, al_66, al_67, al_69, al_7, al_70, al_71, al_72, al_73, al_9, cat_i, cat_l, cat_r, cat_u, gf_2_7_44, gf_2_8_44, pcl_0, pcl_1, pcl_100, pcl_101, pcl_102, pcl_103, pcl_104, pcl_105, pcl_106, pcl_107, pcl_108, pcl_109, pcl_110, pcl_111, pcl_112, pcl_15, pcl_22, pcl_25, pcl_26, pcl_33, pcl_44, pcl_50, pcl_59, pcl_8, pft_2_7, pft_2_8, rOK_i, rOK_z, v_aload_0, v_aload_1, v_bipush_121, v_getfield, v_goto, v_iadd, v_ic_eq, v_ic_ge, v_ic_ne, v_iconst_0, v_iconst_1, v_iconst_3, v_iconst_5, v_iconst_m1, v_if_ne, v_iinc_2, v_iload_2, v_invv, v_ireturn, v_istore_2, v_isub, vcV_1_2, vcV_2_2, vgf_i, vgf_r, vgf_s, vc_d, rr_0, rr_1, csT_h, csT_t, csT_n, bI_0, bI_1, bI_z, bT, List.mem_cons, List.not_mem_nil, List.length_cons, List.length_nil, ite_not, ↓reduceIte, true_and, and_true, not_true_eq_false, not_false_eq_true, false_or, or_false, or_true, true_or, Nat.reduceAdd, Nat.reduceEqDiff, Nat.reduceBEq, Nat.reduceLeDiff, Nat.reduceLT, Nat.reduceSub, Int.reduceAdd, Int.reduceLE, Int.reduceLT, Int.reduceToNat, Int.reduceNeg, Int.reduceNatCast', reduceCtorEq, Int32.reduceOfInt, Int32.reduceOfNat, Int32.reduceToNatClampNeg, Int32.reduceToInt, i10, i01, pe_X3_place, pe_X3_readItem, pe_X3_look, c1, c2, h1, h2, h3, nx_e, nI_1, show ((3 : Int32) = 5) = False from by decide]
      rw [nI_1] at h
      exact ih (i + 1) _ (by omega) (by rw [nx_6 (by decide), r1.2.1]; exact h6) (nx_w r2) h
    · rw [if_pos h3] at h
      simp only [dX3_read_0, dX3_read_1, dX3_read_4, dX3_read_5, dX3_read_8, dX3_read_9, dX3_read_10, dX3_read_13, dX3_read_14, dX3_read_15, dX3_read_16, dX3_read_18, dX3_read_21, dX3_read_22, dX3_read_23, dX3_read_26, dX3_read_29, dX3_read_30, dX3_read_31, dX3_read_34, dX3_read_35, dX3_read_36, dX3_read_37, dX3_read_40, dX3_read_41, dX3_read_44, dX3_read_45, dX3_read_46, dX3_read_47, dX3_read_50, dX3_read_51, dX3_read_54, dX3_read_55, dX3_read_56, dX3_read_59, dX3_read_60, dX3_read_61, dX3_read_62, dX3_read_63, dX3_read_66, dX3_read_67, dX3_read_68, dX3_read_71, dX3_read_74, dX3_read_77, dX3_read_78, dX3_read_79, dX3_read_82, dX3_read_83, cr_3_43, cr_3_46, cr_3_49, cr_3_53, cr_3_57, fr_3_34, fr_3_37, al_10, al_11, al_12, al_13, al_14, al_16, al_17, al_18, al_19, al_2, al_20, al_21, al_23, al_24, al_27, al_28, al_29, al_3, al_30, al_31, al_32, al_34, al_36, al_37, al_38, al_39, al_4, al_40, al_41, al_42, al_43, al_45, al_46, al_47, al_48, al_49, al_5, al_52, al_53, al_54, al_55, al_56, al_57, al_58, al_6, al_60, al_61, al_62, al_63, al_64, al_65, al_66, al_67, al_69, al_7, al_70, al_71, al_72, al_73, al_9, cat_i, cat_l, cat_r, cat_u, gf_2_7_44, gf_2_8_44, pcl_0, pcl_1, pcl_100, pcl_101, pcl_102, pcl_103, pcl_104, pcl_105, pcl_106, pcl_107, pcl_108, pcl_109, pcl_110, pcl_111, pcl_112, pcl_15, pcl_22, pcl_25, pcl_26, pcl_33, pcl_44, pcl_50, pcl_59, pcl_8, pft_2_7, pft_2_8, rOK_i, rOK_z, v_aload_0, v_aload_1, v_bipush_121, v_getfield, v_goto, v_iadd, v_ic_eq, v_ic_ge, v_ic_ne, v_iconst_0, v_iconst_1, v_iconst_3, v_iconst_5, v_iconst_m1, v_if_ne, v_iinc_2, v_iload_2, v_invv, v_ireturn, v_istore_2, v_isub, vcV_1_2, vcV_2_2, vgf_i, vgf_r, vgf_s, vc_d, rr_0, rr_1, csT_h, csT_t, csT_n, bI_0, bI_1, bI_z, bT, List.mem_cons, List.not_mem_nil, List.length_cons, List.length_nil, ite_not, ↓reduceIte, true_and, and_true, not_true_eq_false, not_false_eq_true, false_or, or_false, or_true, true_or, Nat.reduceAdd, Nat.reduceEqDiff, Nat.reduceBEq, Nat.reduceLeDiff, Nat.reduceLT, Nat.reduceSub, Int.reduceAdd, Int.reduceLE, Int.reduceLT, Int.reduceToNat, Int.reduceNeg, Int.reduceNatCast', reduceCtorEq, Int32.reduceOfInt, Int32.reduceOfNat, Int32.reduceToNatClampNeg, Int32.reduceToInt, i10, i01, pe_X3_place, pe_X3_readItem, pe_X3_look, c1, c2, h1, h2, h3]
      exact ⟨hpl, h⟩
