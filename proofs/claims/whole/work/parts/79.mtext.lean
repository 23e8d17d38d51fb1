/-! M: a text -/
abbrev It : Type := Int32 × Int32 × Int32
def app (r : Nat → Int32) (t : It) : Nat → Int32 := if t.1 = 10 then upd r (14 + (t.2.1).toNatClampNeg) t.2.2 else if t.1 = 11 then upd r 3 t.2.1 else cmR r t.1 t.2.1 t.2.2
def itG (r : Nat → Int32) (t : It) : Prop := (t.1 = 10 ∧ isP t.2.1 ∧ ¬ t.2.2 < 0) ∨ (t.1 = 11 ∧ ¬ t.2.1 < 0) ∨ (isK t.1 ∧ wOK (r 1))
def okL : (Nat → Int32) → List It → Prop
  | _, [] => True
  | r, t :: l => itG r t ∧ okL (app r t) l
/-- nothing that a row tells is below 0 -/
def RV (r : Nat → Int32) : Prop := (∀ p, p < 12 → ¬ r (14 + p) < 0) ∧ ¬ r 3 < 0 ∧ ¬ r 1 < 0
theorem okL_app : ∀ (l : List It) (r : Nat → Int32) (t : It), okL r l → itG (l.foldl app r) t → okL r (l ++ [t]) := by
  intro l
  induction l with
  | nil => intro r t _ h; exact ⟨h, trivial⟩
  | cons x l ih => intro r t h1 h2; exact ⟨h1.1, ih (app r x) t h1.2 h2⟩
theorem k_no10 {x : Int32} (h : isK x) : ¬ x = 10 ∧ ¬ x = 11 := by
  rcases k7 h with rfl | rfl | rfl | rfl | rfl | rfl | rfl <;> decide
theorem app_RV {r : Nat → Int32} {t : It} (h : itG r t) (hr : RV r) : RV (app r t) := by
  obtain ⟨h1, h2, h3⟩ := hr
  unfold app
  rcases h with ⟨e, hp, hv⟩ | ⟨e, hv⟩ | ⟨hk, hw⟩
  · rw [if_pos e]
    obtain ⟨q, hq, eq⟩ := i32_14 hp.1 hp.2
    rw [eq, nI_clamp (by omega)]
    refine ⟨fun p hp => ?_, ?_, ?_⟩
    · by_cases z : p = q
      · rw [z, upd_s]
        exact hv
      · rw [un (by omega)]
        exact h1 p hp
    · rw [un (by omega)]
      exact h2
    · rw [un (by omega)]
      exact h3
  · rw [if_neg (by rw [e]; decide), if_pos e]
    refine ⟨fun p hp => ?_, ?_, ?_⟩
    · rw [un (by omega)]
      exact h1 p hp
    · rw [upd_s]
      exact hv
    · rw [upd_n (by decide)]
      exact h3
  · rw [if_neg (k_no10 hk).1, if_neg (k_no10 hk).2]
    obtain ⟨i, hi, e⟩ := wOK_n hw
    unfold cmR
    rw [e, nI_clamp (by omega), nI_1]
    refine ⟨fun p hp => ?_, ?_, ?_⟩
    · rw [un (by omega), un (by unfold wf; omega), un (by unfold wf; omega), un (by unfold wf; omega), un (by unfold wf; omega)]
      exact h1 p hp
    · rw [un (by omega), un (by unfold wf; omega), un (by unfold wf; omega), un (by unfold wf; omega), un (by unfold wf; omega)]
      exact h2
    · rw [upd_s]
      exact nI_pos (by omega)
set_option maxRecDepth 100000 in
set_option maxHeartbeats 4000000 in
theorem call_told {d : Nat} (hd : 3 ≤ d) {B : Mem} {k : Value → Mem → Prop} {c : Nat} {t : It} {r : Nat → Int32} (hc : c < 120) (e0 : B 69 (3 * c) = t.1) (e1 : B 69 (3 * c + 1) = t.2.1) (e2 : B 69 (3 * c + 2) = t.2.2) (hg : itG r t) (hr : RV r) (h : ∀ v, ¬ v < 0 → k (.int v) (mrow B 60 (app r t))) : CallP d 211 [.ref 59, .int (nI (3 * c))] (mrow B 60 r) k := by
  obtain ⟨d, rfl⟩ : ∃ d', d = d' + 1 := ⟨d - 1, by omega⟩
  have e31 : nI (3 * c) + 1 = nI (3 * c + 1) := nI_1 _
  have e32 : nI (3 * c) + 2 = nI (3 * c + 2) := by rw [show (2 : Int32) = nI 2 from rfl, nI_add]
  have c0 : (nI (3 * c)).toNatClampNeg = 3 * c := nI_clamp (by omega)
  have c1 : (nI (3 * c + 1)).toNatClampNeg = 3 * c + 1 := nI_clamp (by omega)
  have c2 : (nI (3 * c + 2)).toNatClampNeg = 3 * c + 2 := nI_clamp (by omega)
  have t0 : (nI (3 * c)).toInt = ((3 * c : Nat) : Int) := nI_toInt (by omega)
  have t1 : (nI (3 * c + 1)).toInt = ((3 * c + 1 : Nat) : Int) := nI_toInt (by omega)
  have t2 : (nI (3 * c + 2)).toInt = ((3 * c + 2 : Nat) : Int) := nI_toInt (by omega)
  refine enterV (n := 80) [(127, pf_X7_become), (142, pf_X7_comes)] [] mI_211 (by decide) (Nat.le_of_ble_eq_true rfl) (T_cons (s_X7_become (by omega)) (T_cons (s_X7_comes (by omega)) T_nil)) ?_
  rw [show lent 4 ([.ref 59, .int (nI (3 * c))] : List Value) = [.ref 59, .int (nI (3 * c)), .retAddr 0, .retAddr 0] from rfl]
  simp only [dX7_isToldSo_0, dX7_isToldSo_1, dX7_isToldSo_4, dX7_isToldSo_5, dX7_isToldSo_6, dX7_isToldSo_7, dX7_isToldSo_8, dX7_isToldSo_9, dX7_isToldSo_10, dX7_isToldSo_13, dX7_isToldSo_14, dX7_isToldSo_15, dX7_isToldSo_16, dX7_isToldSo_17, dX7_isToldSo_18, dX7_isToldSo_19, dX7_isToldSo_22, dX7_isToldSo_23, dX7_isToldSo_24, dX7_isToldSo_26, dX7_isToldSo_29, dX7_isToldSo_30, dX7_isToldSo_32, dX7_isToldSo_33, dX7_isToldSo_34, dX7_isToldSo_35, dX7_isToldSo_38, dX7_isToldSo_41, dX7_isToldSo_42, dX7_isToldSo_45, dX7_isToldSo_46, dX7_isToldSo_47, dX7_isToldSo_49, dX7_isToldSo_52, dX7_isToldSo_53, dX7_isToldSo_54, dX7_isToldSo_55, dX7_isToldSo_58, dX7_isToldSo_61, dX7_isToldSo_62, dX7_isToldSo_63, dX7_isToldSo_66, dX7_isToldSo_67, dX7_isToldSo_68, dX7_isToldSo_69, dX7_isToldSo_70, dX7_isToldSo_73, cr_7_102, cr_7_109, fr_7_54, al_10, al_11, al_12, al_13, al_14, al_16, al_17, al_18, al_19, al_2, al_20, al_21, al_23, al_24, al_27, al_28, al_29, al_3, al_30, al_31, al_32, al_34, al_36, al_37, al_38, al_39, al_4, al_40, al_41, al_42, al_43, al_45, al_46, al_47, al_48, al_49, al_5, al_52, al_53, al_54, al_55, al_56, al_57, al_58, al_6, al_60, al_61, al_62, al_63, al_64, al_65, al_66, al_67, al_69, al_7, al_70, al_71, al_72, al_73, al_9, cat_i, cat_l, cat_r, cat_u, gf_6_19_59, pcl_0, pcl_1, pcl_100, pcl_101, pcl_102, pcl_103, pcl_104, pcl_105, pcl_106, pcl_107, pcl_108, pcl_109, pcl_110, pcl_111, pcl_112, pcl_15, pcl_22, pcl_25, pcl_26, pcl_33, pcl_44, pcl_50, pcl_59, pcl_8, rOK_i, rOK_z, v_aload_0, v_bipush_10, v_bipush_11, v_bipush_14, v_getfield, v_goto, v_iadd, v_iaload, v_ic_ne, v_iconst_1, v_iconst_2, v_iconst_3, v_iload_1, v_iload_2, v_iload_3, v_invv, v_ireturn, v_istore_2, v_istore_3, vcV_3_6, vcV_4_6, vgf_i, vgf_r, vgf_s, vc_d, rr_0, rr_1, csT_h, csT_t, csT_n, bI_0, bI_1, bI_z, bT, List.mem_cons, List.not_mem_nil, List.length_cons, List.length_nil, ite_not, ↓reduceIte, true_and, and_true, not_true_eq_false, not_false_eq_true, false_or, or_false, or_true, true_or, Nat.reduceAdd, Nat.reduceEqDiff, Nat.reduceBEq, Nat.reduceLeDiff, Nat.reduceLT, Nat.reduceSub, Int.reduceAdd, Int.reduceLE, Int.reduceLT, Int.reduceToNat, Int.reduceNeg, Int.reduceNatCast', reduceCtorEq, Int32.reduceOfInt, Int32.reduceOfNat, Int32.reduceToNatClampNeg, Int32.reduceToInt, i10, i01, nEM, pe_X7_become, pe_X7_comes, mrow_n, mrow_s, e31, e32, c0, c1, c2, t0, t1, t2, e0, e1, e2, Int32.reduceLT, Int32.reduceLE, not_false_eq_true, mset, mrow_mrow]
  refine ⟨by omega, by omega, by omega, ?_⟩
  obtain ⟨h1, h2, h3⟩ := hr
  unfold app at h
  rcases hg with ⟨e, hp, hv⟩ | ⟨e, hv⟩ | ⟨hk, hw⟩
  · rw [if_pos e] at h ⊢
    obtain ⟨q, hq, eq⟩ := i32_14 hp.1 hp.2
    rw [eq, nI_clamp (by omega)] at h
    rw [eq, p14, nI_clamp (by omega)]
    exact ⟨⟨nI_pos (by omega), nI_ge (b := 50) (by omega) (by decide)⟩, h _ (h1 q hq)⟩
  · rw [if_neg (by rw [e]; decide), if_pos e] at h
    rw [if_neg (by rw [e]; decide)]
    refine ⟨by omega, ?_⟩
    rw [if_pos e]
    exact h _ h2
  · rw [if_neg (k_no10 hk).1, if_neg (k_no10 hk).2] at h
    rw [if_neg (k_no10 hk).1]
    refine ⟨by omega, ?_⟩
    rw [if_neg (k_no10 hk).2]
    exact ⟨by omega, hw, h _ h3⟩
/-- the row of items holds these -/
def IR (R : Nat → Int32) (l : List It) : Prop := ∀ i, i < l.length → R (3 * i) = (l.getD i (0, 0, 0)).1 ∧ R (3 * i + 1) = (l.getD i (0, 0, 0)).2.1 ∧ R (3 * i + 2) = (l.getD i (0, 0, 0)).2.2
theorem IR.add {R : Nat → Int32} {l : List It} {x a b : Int32} (h : IR R l) : IR (itR R l.length x a b) (l ++ [(x, a, b)]) := by
  intro i hi
  rw [List.length_append] at hi
  unfold itR
  by_cases z : i < l.length
  · have e : (l ++ [(x, a, b)]).getD i (0, 0, 0) = l.getD i (0, 0, 0) := by
      simp [List.getD, List.getElem?_append_left z]
    rw [e, un (by omega), un (by omega), un (by omega), un (by omega), un (by omega), un (by omega), un (by omega), un (by omega), un (by omega)]
    exact h i z
  · have hi2 : i = l.length := by
      have : i < l.length + 1 := hi
      omega
    subst hi2
    have e : (l ++ [(x, a, b)]).getD l.length (0, 0, 0) = (x, a, b) := by
      simp [List.getD]
    rw [e, un (by omega), un (by omega), upd_s, un (by omega), upd_s, upd_s]
    exact ⟨rfl, rfl, rfl⟩
set_option maxRecDepth 100000 in
set_option maxHeartbeats 4000000 in
theorem lp_apply {d : Nat} (hd : 3 ≤ d) {B : Mem} {k : Value → Mem → Prop} {m : Nat} (hm : m ≤ 120) (h20 : B 59 20 = nI m) : ∀ (rest : List It) (i : Nat) (r : Nat → Int32), i + rest.length = m → RV r → okL r rest → (∀ j, j < rest.length → B 69 (3 * (i + j)) = (rest.getD j (0, 0, 0)).1 ∧ B 69 (3 * (i + j) + 1) = (rest.getD j (0, 0, 0)).2.1 ∧ B 69 (3 * (i + j) + 2) = (rest.getD j (0, 0, 0)).2.2) → k (.int (nI m)) (mrow B 60 (rest.foldl app r)) → WP (7, yX7_text, cX7_text, 3, (some .int)) (d + 1) k 113 [.ref 59, .int (nI i), .int (nI i)] [] (mrow B 60 r) := by
  intro rest
  induction rest with
  | nil =>
    intro i r hi hr ho hR h
    have him : i = m := hi
    subst him
    have c1 : nI i ≤ nI i := nI_le (Nat.le_refl _) (by omega)
    refine goV (n := 80) [] [113] T_nil ?_
    simp only [dX7_text_0, dX7_text_1, dX7_text_2, dX7_text_5, dX7_text_6, dX7_text_7, dX7_text_10, dX7_text_11, dX7_text_12, dX7_text_15, dX7_text_16, dX7_text_17, dX7_text_20, dX7_text_21, dX7_text_22, dX7_text_25, dX7_text_26, dX7_text_29, dX7_text_30, dX7_text_33, dX7_text_34, dX7_text_37, dX7_text_40, dX7_text_41, dX7_text_44, dX7_text_45, dX7_text_48, dX7_text_49, dX7_text_52, dX7_text_53, dX7_text_56, dX7_text_57, dX7_text_59, dX7_text_62, dX7_text_63, dX7_text_64, dX7_text_67, dX7_text_68, dX7_text_71, dX7_text_74, dX7_text_75, dX7_text_76, dX7_text_79, dX7_text_82, dX7_text_83, dX7_text_86, dX7_text_87, dX7_text_90, dX7_text_91, dX7_text_92, dX7_text_95, dX7_text_96, dX7_text_99, dX7_text_102, dX7_text_103, dX7_text_104, dX7_text_107, dX7_text_108, dX7_text_109, dX7_text_110, dX7_text_111, dX7_text_112, dX7_text_113, dX7_text_114, dX7_text_115, dX7_text_118, dX7_text_121, dX7_text_122, dX7_text_123, dX7_text_124, dX7_text_125, dX7_text_126, dX7_text_129, dX7_text_132, dX7_text_133, dX7_text_136, dX7_text_137, dX7_text_138, dX7_text_139, dX7_text_142, dX7_text_145, dX7_text_146, cr_7_272, cr_7_275, cr_7_315, cr_7_318, fr_7_243, fr_7_246, fr_7_249, fr_7_258, fr_7_268, fr_7_279, fr_7_292, fr_7_31, fr_7_9, al_10, al_11, al_12, al_13, al_14, al_16, al_17, al_18, al_19, al_2, al_20, al_21, al_23, al_24, al_27, al_28, al_29, al_3, al_30, al_31, al_32, al_34, al_36, al_37, al_38, al_39, al_4, al_40, al_41, al_42, al_43, al_45, al_46, al_47, al_48, al_49, al_5, al_52, al_53, al_54, al_55, al_56, al_57, al_58, al_6, al_60, al_61, al_62, al_63, al_64, al_65, al_66, al_67, al_69, al_7, al_70, al_71, al_72, al_73, al_9, cat_i, cat_l, cat_r, cat_u, gf_6_0_59, gf_6_11_59, gf_6_12_59, gf_6_13_59, gf_6_14_59, gf_6_15_59, gf_6_17_59, gf_6_20_59, gf_6_21_59, pcl_0, pcl_1, pcl_100, pcl_101, pcl_102, pcl_103, pcl_104, pcl_105, pcl_106, pcl_107, pcl_108, pcl_109, pcl_110, pcl_111, pcl_112, pcl_15, pcl_22, pcl_25, pcl_26, pcl_33, pcl_44, pcl_50, pcl_59, pcl_8, pft_6_12, pft_6_13, pft_6_14, pft_6_15, pft_6_17, pft_6_20, pft_6_21, rOK_i, rOK_z, v_aload_0, v_bipush_59, v_getfield, v_goto, v_iadd, v_iaload, v_ic_ge, v_ic_ne, v_iconst_0, v_iconst_1, v_iconst_3, v_iconst_m1, v_if_eq, v_if_ge, v_if_ne, v_iinc_2, v_iload_1, v_iload_2, v_imul, v_invv, v_ireturn, v_istore_1, v_istore_2, v_isub, v_putfield, vcV_1_6, vcV_2_6, vgf_i, vgf_r, vgf_s, vpf_s, vc_d, rr_0, rr_1, csT_h, csT_t, csT_n, bI_0, bI_1, bI_z, bT, List.mem_cons, List.not_mem_nil, List.length_cons, List.length_nil, ite_not, ↓reduceIte, true_and, and_true, not_true_eq_false, not_false_eq_true, false_or, or_false, or_true, true_or, Nat.reduceAdd, Nat.reduceEqDiff, Nat.reduceBEq, Nat.reduceLeDiff, Nat.reduceLT, Nat.reduceSub, Int.reduceAdd, Int.reduceLE, Int.reduceLT, Int.reduceToNat, Int.reduceNeg, Int.reduceNatCast', reduceCtorEq, Int32.reduceOfInt, Int32.reduceOfNat, Int32.reduceToNatClampNeg, Int32.reduceToInt, i10, i01, nEM, mrow_n, h20, c1]
    exact h
  | cons t rest ih =>
    intro i r hi hr ho hR h
    have hi2 : i + (rest.length + 1) = m := hi
    have c1 : ¬ nI m ≤ nI i := nI_ge (by omega) (by omega)
    have e3 : (3 : Int32) * nI i = nI (3 * i) := by rw [show (3 : Int32) = nI 3 from rfl, pk_mul]
    have hR0 := hR 0 (by simp)
    refine goV (n := 80) [] [113] T_nil ?_
    simp only [dX7_text_0, dX7_text_1, dX7_text_2, dX7_text_5, dX7_text_6, dX7_text_7, dX7_text_10, dX7_text_11, dX7_text_12, dX7_text_15, dX7_text_16, dX7_text_17, dX7_text_20, dX7_text_21, dX7_text_22, dX7_text_25, dX7_text_26, dX7_text_29, dX7_text_30, dX7_text_33, dX7_text_34, dX7_text_37, dX7_text_40, dX7_text_41, dX7_text_44, dX7_text_45, dX7_text_48, dX7_text_49, dX7_text_52, dX7_text_53, dX7_text_56, dX7_text_57, dX7_text_59, dX7_text_62, dX7_text_63, dX7_text_64, dX7_text_67, dX7_text_68, dX7_text_71, dX7_text_74, dX7_text_75, dX7_text_76, dX7_text_79, dX7_text_82, dX7_text_83, dX7_text_86, dX7_text_87, dX7_text_90, dX7_text_91, dX7_text_92, dX7_text_95, dX7_text_96, dX7_text_99, dX7_text_102, dX7_text_103, dX7_text_104, dX7_text_107, dX7_text_108, dX7_text_109, dX7_text_110, dX7_text_111, dX7_text_112, dX7_text_113, dX7_text_114, dX7_text_115, dX7_text_118, dX7_text_121, dX7_text_122, dX7_text_123, dX7_text_124, dX7_text_125, dX7_text_126, dX7_text_129, dX7_text_132, dX7_text_133, dX7_text_136, dX7_text_137, dX7_text_138, dX7_text_139, dX7_text_142, dX7_text_145, dX7_text_146, cr_7_272, cr_7_275, cr_7_315, cr_7_318, fr_7_243, fr_7_246, fr_7_249, fr_7_258, fr_7_268, fr_7_279, fr_7_292, fr_7_31, fr_7_9, al_10, al_11, al_12, al_13, al_14, al_16, al_17, al_18, al_19, al_2, al_20, al_21, al_23, al_24, al_27, al_28, al_29, al_3, al_30, al_31, al_32, al_34, al_36, al_37, al_38, al_39, al_4, al_40, al_41, al_42, al_43, al_45, al_46, al_47, al_48, al_49, al_5, al_52, al_53, al_54, al_55, al_56, al_57, al_58, al_6, al_60, al_61, al_62, al_63, al_64, al_65, al_66, al_67, al_69, al_7, al_70, al_71, al_72, al_73, al_9, cat_i, cat_l, cat_r, cat_u, gf_6_0_59, gf_6_11_59, gf_6_12_59, gf_6_13_59, gf_6_14_59, gf_6_15_59, gf_6_17_59, gf_6_20_59, gf_6_21_59, pcl_0, pcl_1, pcl_100, pcl_101, pcl_102, pcl_103, pcl_104, pcl_105, pcl_106, pcl_107, pcl_108, pcl_109, pcl_110, pcl_111, pcl_112, pcl_15, pcl_22, pcl_25, pcl_26, pcl_33, pcl_44, pcl_50, pcl_59, pcl_8, pft_6_12, pft_6_13, pft_6_14, pft_6_15, pft_6_17, pft_6_20, pft_6_21, rOK_i, rOK_z, v_aload_0, v_bipush_59, v_getfield, v_goto, v_iadd, v_iaload, v_ic_ge, v_ic_ne, v_iconst_0, v_iconst_1, v_iconst_3, v_iconst_m1, v_if_eq, v_if_ge, v_if_ne, v_iinc_2, v_iload_1, v_iload_2, v_imul, v_invv, v_ireturn, v_istore_1, v_istore_2, v_isub, v_putfield, vcV_1_6, vcV_2_6, vgf_i, vgf_r, vgf_s, vpf_s, vc_d, rr_0, rr_1, csT_h, csT_t, csT_n, bI_0, bI_1, bI_z, bT, List.mem_cons, List.not_mem_nil, List.length_cons, List.length_nil, ite_not, ↓reduceIte, true_and, and_true, not_true_eq_false, not_false_eq_true, false_or, or_false, or_true, true_or, Nat.reduceAdd, Nat.reduceEqDiff, Nat.reduceBEq, Nat.reduceLeDiff, Nat.reduceLT, Nat.reduceSub, Int.reduceAdd, Int.reduceLE, Int.reduceLT, Int.reduceToNat, Int.reduceNeg, Int.reduceNatCast', reduceCtorEq, Int32.reduceOfInt, Int32.reduceOfNat, Int32.reduceToNatClampNeg, Int32.reduceToInt, i10, i01, nEM, mrow_n, h20, c1, e3]
    refine call_told (by omega) (by omega) hR0.1 hR0.2.1 hR0.2.2 ho.1 hr (fun v hv => ?_)
    have hv2 : (0 ≤ v) = True := eq_true (Int32.not_lt.mp hv)
    simp only [dX7_text_0, dX7_text_1, dX7_text_2, dX7_text_5, dX7_text_6, dX7_text_7, dX7_text_10, dX7_text_11, dX7_text_12, dX7_text_15, dX7_text_16, dX7_text_17, dX7_text_20, dX7_text_21, dX7_text_22, dX7_text_25, dX7_text_26, dX7_text_29, dX7_text_30, dX7_text_33, dX7_text_34, dX7_text_37, dX7_text_40, dX7_text_41, dX7_text_44, dX7_text_45, dX7_text_48, dX7_text_49, dX7_text_52, dX7_text_53, dX7_text_56, dX7_text_57, dX7_text_59, dX7_text_62, dX7_text_63, dX7_text_64, dX7_text_67, dX7_text_68, dX7_text_71, dX7_text_74, dX7_text_75, dX7_text_76, dX7_text_79, dX7_text_82, dX7_text_83, dX7_text_86, dX7_text_87, dX7_text_90, dX7_text_91, dX7_text_92, dX7_text_95, dX7_text_96, dX7_text_99, dX7_text_102, dX7_text_103, dX7_text_104, dX7_text_107, dX7_text_108, dX7_text_109, dX7_text_110, dX7_text_111, dX7_text_112, dX7_text_113, dX7_text_114, dX7_text_115, dX7_text_118, dX7_text_121, dX7_text_122, dX7_text_123, dX7_text_124, dX7_text_125, dX7_text_126, dX7_text_129, dX7_text_132, dX7_text_133, dX7_text_136, dX7_text_137, dX7_text_138, dX7_text_139, dX7_text_142, dX7_text_145, dX7_text_146, cr_7_272, cr_7_275, cr_7_315, cr_7_318, fr_7_243, fr_7_246, fr_7_249, fr_7_258, fr_7_268, fr_7_279, fr_7_292, fr_7_31, fr_7_9, al_10, al_11, al_12, al_13, al_14, al_16, al_17, al_18, al_19, al_2, al_20, al_21, al_23, al_24, al_27, al_28, al_29, al_3, al_30, al_31, al_32, al_34, al_36, al_37, al_38, al_39, al_4, al_40, al_41, al_42, al_43, al_45, al_46, al_47, al_48, al_49, al_5, al_52, al_53, al_54, al_55, al_56, al_57, al_58, al_6, al_60, al_61, al_62, al_63, al_64, al_65, al_66, al_67, al_69, al_7, al_70, al_71, al_72, al_73, al_9, cat_i, cat_l, cat_r, cat_u, gf_6_0_59, gf_6_11_59, gf_6_12_59, gf_6_13_59, gf_6_14_59, gf_6_15_59, gf_6_17_59, gf_6_20_59, gf_6_21_59, pcl_0, pcl_1, pcl_100, pcl_101, pcl_102, pcl_103, pcl_104, pcl_105, pcl_106, pcl_107, pcl_108, pcl_109, pcl_110, pcl_111, pcl_112, pcl_15, pcl_22, pcl_25, pcl_26, pcl_33, pcl_44, pcl_50, pcl_59, pcl_8, pft_6_12, pft_6_13, pft_6_14, pft_6_15, pft_6_17, pft_6_20, pft_6_21, rOK_i, rOK_z, v_aload_0, v_bipush_59, v_getfield, v_goto, v_iadd, v_iaload, v_ic_ge, v_ic_ne, v_iconst_0, v_iconst_1, v_iconst_3, v_iconst_m1, v_if_eq, v_if_ge, v_if_ne, v_iinc_2, v_iload_1, v_iload_2, v_imul, v_invv, v_ireturn, v_istore_1, v_istore_2, v_isub, v_putfield, vcV_1_6, vcV_2_6, vgf_i, vgf_r, vgf_s, vpf_s, vc_d, rr_0, rr_1, csT_h, csT_t, csT_n, bI_0, bI_1, bI_z, bT, List.mem_cons, List.not_mem_nil, List.length_cons, List.length_nil, ite_not, ↓reduceIte, true_and, and_true, not_true_eq_false, not_false_eq_true, false_or, or_false, or_true, true_or, Nat.reduceAdd, Nat.reduceEqDiff, Nat.reduceBEq, Nat.reduceLeDiff, Nat.reduceLT, Nat.reduceSub, Int.reduceAdd, Int.reduceLE, Int.reduceLT, Int.reduceToNat, Int.reduceNeg, Int.reduceNatCast', reduceCtorEq, Int32.reduceOfInt, Int32.reduceOfNat, Int32.reduceToNatClampNeg, Int32.reduceToInt, i10, i01, nEM, hv2, nI_1]
    refine ih (i + 1) (app r t) (by omega) (app_RV ho.1 hr) ho.2 (fun j hj => ?_) h
    have := hR (j + 1) (by simpa using hj)
    rw [show i + 1 + j = i + (j + 1) by omega]
    exact this
