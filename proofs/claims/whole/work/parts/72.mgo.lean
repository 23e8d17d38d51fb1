/-! M: the search -/
theorem GT.nil {t : Nat} {N N' : Mem} {c f : Nat} (e8 : N 59 8 = nI c) (e9 : N 59 9 = nI f) (h1 : ∀ p, p ≠ 64 → p ≠ 65 → N' p = N p) (h5 : ∀ j, j < 50 * t → N' 64 j = N 64 j) (h6 : ∀ j, j < t → N' 65 j = N 65 j) : GT t N N' [] c f := by
  have e := h1 59 (by decide) (by decide)
  have e66 := h1 66 (by decide) (by decide)
  refine ⟨fun p _ q2 q3 _ => h1 p q2 q3, fun j _ _ => by rw [e], ?_, ?_, h5, h6, fun _ => e66, fun _ x L' z => (by cases z), fun _ => e66⟩
  · rw [e, e8]
    rfl
  · rw [e, e9]
    rfl
/-- one more in front -/
theorem GT.cons {t w : Nat} {N Na N1 N2 : Mem} {L : List (List Nat × Nat)} {c f : Nat} (h : GT (t + 1) Na N1 L c f) (ha : ∀ p, p ≠ 60 → p ≠ 65 → Na p = N p) (ha6 : ∀ j, j < t → Na 65 j = N 65 j) (haw : Na 65 t = nI w) (hb : ∀ p, p ≠ 60 → N2 p = N1 p) (hr : N2 60 = N 60) : GT t N N2 (L.map (fun x => (w :: x.1, x.2))) c f := by
  obtain ⟨a1, a2, a3, a4, a5, a6, a7, a8, a9⟩ := h
  have b59 := hb 59 (by decide)
  have b64 := hb 64 (by decide)
  have b65 := hb 65 (by decide)
  have b66 := hb 66 (by decide)
  have n59 := ha 59 (by decide) (by decide)
  have n64 := ha 64 (by decide) (by decide)
  have n66 := ha 66 (by decide) (by decide)
  refine ⟨fun p q1 q2 q3 q4 => ?_, fun j q1 q2 => ?_, ?_, ?_, fun j q => ?_, fun j q => ?_, fun q => ?_, fun q x L' e => ?_, fun q => ?_⟩
  · by_cases z : p = 60
    · rw [z]; exact hr
    · rw [hb p z, a1 p q1 q2 q3 q4, ha p z q3]
  · rw [b59, a2 j q1 q2, n59]
  · rw [b59, a3, List.length_map]
  · rw [b59, a4, mnF_map]
  · rw [b64, a5 j (by omega), n64]
  · rw [b65, a6 j (by omega), ha6 j q]
  · rw [b66, a7 q, n66]
  · cases L with
    | nil => cases e
    | cons y L =>
      have e1 : (w :: y.1, y.2) = x := (List.cons.inj e).1
      subst e1
      have key := a8 q y L rfl
      rw [b66]
      refine ⟨fun j hj => (key.1 j (by omega)).trans (ha6 j hj), fun j hj => ?_⟩
      cases j with
      | zero => exact (key.1 t (by omega)).trans haw
      | succ j =>
        have := key.2 j (by simpa using hj)
        rw [show t + (j + 1) = t + 1 + j by omega, this]
        rfl
  · have e : L = [] := by
      cases L with
      | nil => rfl
      | cons y L => cases q
    rw [b66, a9 e, n66]
set_option maxRecDepth 100000 in
set_option maxHeartbeats 4000000 in
theorem lp_goThrough : ∀ (n t : Nat), t + n = 6 → ∀ (d : Nat), 7 + n ≤ d → ∀ (N : Mem) (k : Value → Mem → Prop) (left q fell A c f : Nat), q ≤ 6 → N 60 1 = nI q → left < 2 ^ q → popc left ≤ n → fell ≤ t → A ≤ 6 → N 59 8 = nI c → N 59 9 = nI f → f ≤ 6 → c + (goS A q n (N 60) left fell).length < 2 ^ 31 → (∀ N', GT t N N' (goS A q n (N 60) left fell) c f → k (.int 0) N') → CallP d 177 [.ref 59, .int (nI left), .int (nI t), .int (nI fell), .int (nI A)] N k := by
  intro n
  induction n with
  | zero =>
    intro t ht d hd N k left q fell A c f hq hn hl hp hfe hA e8 e9 hf hc h
    obtain ⟨d, rfl⟩ : ∃ d', d = d' + 1 := ⟨d - 1, by omega⟩
    have h0 : left = 0 := pop_0 left (lt64 hq hl) (by omega)
    subst h0
    refine enterV (n := 80) [] [7] mI_177 (by decide) (Nat.le_of_ble_eq_true rfl) T_nil ?_
    rw [show lent 7 ([.ref 59, .int (nI 0), .int (nI t), .int (nI fell), .int (nI A)] : List Value) = [.ref 59, .int (nI 0), .int (nI t), .int (nI fell), .int (nI A), .retAddr 0, .retAddr 0] from rfl]
    simp only [dX7_goThrough_0, dX7_goThrough_1, dX7_goThrough_4, dX7_goThrough_5, dX7_goThrough_7, dX7_goThrough_9, dX7_goThrough_10, dX7_goThrough_13, dX7_goThrough_14, dX7_goThrough_17, dX7_goThrough_20, dX7_goThrough_21, dX7_goThrough_24, dX7_goThrough_26, dX7_goThrough_27, dX7_goThrough_30, dX7_goThrough_32, dX7_goThrough_33, dX7_goThrough_34, dX7_goThrough_37, dX7_goThrough_40, dX7_goThrough_41, dX7_goThrough_42, dX7_goThrough_45, dX7_goThrough_46, dX7_goThrough_47, dX7_goThrough_50, dX7_goThrough_51, dX7_goThrough_52, dX7_goThrough_55, dX7_goThrough_56, dX7_goThrough_59, dX7_goThrough_62, dX7_goThrough_63, dX7_goThrough_64, dX7_goThrough_65, dX7_goThrough_68, dX7_goThrough_69, dX7_goThrough_71, dX7_goThrough_73, dX7_goThrough_74, dX7_goThrough_77, dX7_goThrough_78, dX7_goThrough_79, dX7_goThrough_82, dX7_goThrough_83, dX7_goThrough_85, dX7_goThrough_88, dX7_goThrough_91, dX7_goThrough_92, dX7_goThrough_95, dX7_goThrough_96, dX7_goThrough_98, dX7_goThrough_99, dX7_goThrough_100, dX7_goThrough_101, dX7_goThrough_103, dX7_goThrough_106, dX7_goThrough_108, dX7_goThrough_111, dX7_goThrough_112, dX7_goThrough_115, dX7_goThrough_116, dX7_goThrough_117, dX7_goThrough_119, dX7_goThrough_121, dX7_goThrough_123, dX7_goThrough_126, dX7_goThrough_127, dX7_goThrough_128, dX7_goThrough_129, dX7_goThrough_131, dX7_goThrough_132, dX7_goThrough_133, dX7_goThrough_134, dX7_goThrough_135, dX7_goThrough_136, dX7_goThrough_137, dX7_goThrough_138, dX7_goThrough_140, dX7_goThrough_142, dX7_goThrough_145, dX7_goThrough_146, dX7_goThrough_147, dX7_goThrough_150, dX7_goThrough_153, dX7_goThrough_156, cr_7_146, cr_7_155, cr_7_196, cr_7_200, cr_7_204, cr_7_79, fr_7_189, fr_7_193, fr_7_25, fr_7_28, fr_7_9, al_10, al_11, al_12, al_13, al_14, al_16, al_17, al_18, al_19, al_2, al_20, al_21, al_23, al_24, al_27, al_28, al_29, al_3, al_30, al_31, al_32, al_34, al_36, al_37, al_38, al_39, al_4, al_40, al_41, al_42, al_43, al_45, al_46, al_47, al_48, al_49, al_5, al_52, al_53, al_54, al_55, al_56, al_57, al_58, al_6, al_60, al_61, al_62, al_63, al_64, al_65, al_66, al_67, al_69, al_7, al_70, al_71, al_72, al_73, al_9, cat_i, cat_l, cat_r, cat_u, gf_6_0_59, gf_6_6_59, gf_6_7_59, gf_6_8_59, gf_6_9_59, pcl_0, pcl_1, pcl_100, pcl_101, pcl_102, pcl_103, pcl_104, pcl_105, pcl_106, pcl_107, pcl_108, pcl_109, pcl_110, pcl_111, pcl_112, pcl_15, pcl_22, pcl_25, pcl_26, pcl_33, pcl_44, pcl_50, pcl_59, pcl_8, pft_6_8, pft_6_9, v_aload_0, v_bipush_12, v_dup, v_getfield, v_goto, v_iadd, v_iaload, v_iand, v_iastore, v_ic_ge, v_ic_gt, v_iconst_0, v_iconst_1, v_iconst_m1, v_if_eq, v_if_ne, v_iinc_5, v_iload_1, v_iload_2, v_iload_3, v_iload_4, v_iload_5, v_iload_6, v_invs, v_invv, v_ishl, v_istore_5, v_istore_6, v_ixor, v_putfield, v_return, vcS_2_1, vcS_min, vcV_2_6, vcV_5_6, vgf_i, vgf_r, vgf_s, vpf_s, vc_d, rr_0, rr_1, csT_h, csT_t, csT_n, bI_0, bI_1, bI_z, bT, List.mem_cons, List.not_mem_nil, List.length_cons, List.length_nil, ite_not, ↓reduceIte, true_and, and_true, not_true_eq_false, not_false_eq_true, false_or, or_false, or_true, true_or, Nat.reduceAdd, Nat.reduceEqDiff, Nat.reduceBEq, Nat.reduceLeDiff, Nat.reduceLT, Nat.reduceSub, Int.reduceAdd, Int.reduceLE, Int.reduceLT, Int.reduceToNat, Int.reduceNeg, Int.reduceNatCast', reduceCtorEq, Int32.reduceOfInt, Int32.reduceOfNat, Int32.reduceToNatClampNeg, Int32.reduceToInt, i10, i01, nEM, nI_0]
    have := lp_leaf (d := d) (M := N) (k := k) (t := t) (fell := fell) (A := nI A) (x6 := .retAddr 0) (by omega) hf (by omega) (show c + 1 < 2 ^ 31 from hc) e8 e9 h t 0 (N 66) (by omega) (fun _ => rfl) (fun j hj => absurd hj (Nat.not_lt_zero _)) (fun _ => rfl)
    rw [mrow_self] at this
    exact this
  | succ n ih =>
    intro t ht d hd N k left q fell A c f hq hn hl hp hfe hA e8 e9 hf hc h
    obtain ⟨d, rfl⟩ : ∃ d', d = d' + 1 := ⟨d - 1, by omega⟩
    by_cases h0 : left = 0
    · subst h0
      rw [goS, if_pos rfl] at hc h
      refine enterV (n := 80) [] [7] mI_177 (by decide) (Nat.le_of_ble_eq_true rfl) T_nil ?_
      rw [show lent 7 ([.ref 59, .int (nI 0), .int (nI t), .int (nI fell), .int (nI A)] : List Value) = [.ref 59, .int (nI 0), .int (nI t), .int (nI fell), .int (nI A), .retAddr 0, .retAddr 0] from rfl]
      simp only [dX7_goThrough_0, dX7_goThrough_1, dX7_goThrough_4, dX7_goThrough_5, dX7_goThrough_7, dX7_goThrough_9, dX7_goThrough_10, dX7_goThrough_13, dX7_goThrough_14, dX7_goThrough_17, dX7_goThrough_20, dX7_goThrough_21, dX7_goThrough_24, dX7_goThrough_26, dX7_goThrough_27, dX7_goThrough_30, dX7_goThrough_32, dX7_goThrough_33, dX7_goThrough_34, dX7_goThrough_37, dX7_goThrough_40, dX7_goThrough_41, dX7_goThrough_42, dX7_goThrough_45, dX7_goThrough_46, dX7_goThrough_47, dX7_goThrough_50, dX7_goThrough_51, dX7_goThrough_52, dX7_goThrough_55, dX7_goThrough_56, dX7_goThrough_59, dX7_goThrough_62, dX7_goThrough_63, dX7_goThrough_64, dX7_goThrough_65, dX7_goThrough_68, dX7_goThrough_69, dX7_goThrough_71, dX7_goThrough_73, dX7_goThrough_74, dX7_goThrough_77, dX7_goThrough_78, dX7_goThrough_79, dX7_goThrough_82, dX7_goThrough_83, dX7_goThrough_85, dX7_goThrough_88, dX7_goThrough_91, dX7_goThrough_92, dX7_goThrough_95, dX7_goThrough_96, dX7_goThrough_98, dX7_goThrough_99, dX7_goThrough_100, dX7_goThrough_101, dX7_goThrough_103, dX7_goThrough_106, dX7_goThrough_108, dX7_goThrough_111, dX7_goThrough_112, dX7_goThrough_115, dX7_goThrough_116, dX7_goThrough_117, dX7_goThrough_119, dX7_goThrough_121, dX7_goThrough_123, dX7_goThrough_126, dX7_goThrough_127, dX7_goThrough_128, dX7_goThrough_129, dX7_goThrough_131, dX7_goThrough_132, dX7_goThrough_133, dX7_goThrough_134, dX7_goThrough_135, dX7_goThrough_136, dX7_goThrough_137, dX7_goThrough_138, dX7_goThrough_140, dX7_goThrough_142, dX7_goThrough_145, dX7_goThrough_146, dX7_goThrough_147, dX7_goThrough_150, dX7_goThrough_153, dX7_goThrough_156, cr_7_146, cr_7_155, cr_7_196, cr_7_200, cr_7_204, cr_7_79, fr_7_189, fr_7_193, fr_7_25, fr_7_28, fr_7_9, al_10, al_11, al_12, al_13, al_14, al_16, al_17, al_18, al_19, al_2, al_20, al_21, al_23, al_24, al_27, al_28, al_29, al_3, al_30, al_31, al_32, al_34, al_36, al_37, al_38, al_39, al_4, al_40, al_41, al_42, al_43, al_45, al_46, al_47, al_48, al_49, al_5, al_52, al_53, al_54, al_55, al_56, al_57, al_58, al_6, al_60, al_61, al_62, al_63, al_64, al_65, al_66, al_67, al_69, al_7, al_70, al_71, al_72, al_73, al_9, cat_i, cat_l, cat_r, cat_u, gf_6_0_59, gf_6_6_59, gf_6_7_59, gf_6_8_59, gf_6_9_59, pcl_0, pcl_1, pcl_100, pcl_101, pcl_102, pcl_103, pcl_104, pcl_105, pcl_106, pcl_107, pcl_108, pcl_109, pcl_110, pcl_111, pcl_112, pcl_15, pcl_22, pcl_25, pcl_26, pcl_33, pcl_44, pcl_50, pcl_59, pcl_8, pft_6_8, pft_6_9, v_aload_0, v_bipush_12, v_dup, v_getfield, v_goto, v_iadd, v_iaload, v_iand, v_iastore, v_ic_ge, v_ic_gt, v_iconst_0, v_iconst_1, v_iconst_m1, v_if_eq, v_if_ne, v_iinc_5, v_iload_1, v_iload_2, v_iload_3, v_iload_4, v_iload_5, v_iload_6, v_invs, v_invv, v_ishl, v_istore_5, v_istore_6, v_ixor, v_putfield, v_return, vcS_2_1, vcS_min, vcV_2_6, vcV_5_6, vgf_i, vgf_r, vgf_s, vpf_s, vc_d, rr_0, rr_1, csT_h, csT_t, csT_n, bI_0, bI_1, bI_z, bT, List.mem_cons, List.not_mem_nil, List.length_cons, List.length_nil, ite_not, ↓reduceIte, true_and, and_true, not_true_eq_false, not_false_eq_true, false_or, or_false, or_true, true_or, Nat.reduceAdd, Nat.reduceEqDiff, Nat.reduceBEq, Nat.reduceLeDiff, Nat.reduceLT, Nat.reduceSub, Int.reduceAdd, Int.reduceLE, Int.reduceLT, Int.reduceToNat, Int.reduceNeg, Int.reduceNatCast', reduceCtorEq, Int32.reduceOfInt, Int32.reduceOfNat, Int32.reduceToNatClampNeg, Int32.reduceToInt, i10, i01, nEM, nI_0]
      have := lp_leaf (d := d) (M := N) (k := k) (t := t) (fell := fell) (A := nI A) (x6 := .retAddr 0) (by omega) hf (by omega) (show c + 1 < 2 ^ 31 from hc) e8 e9 h t 0 (N 66) (by omega) (fun _ => rfl) (fun j hj => absurd hj (Nat.not_lt_zero _)) (fun _ => rfl)
      rw [mrow_self] at this
      exact this
    · rw [goS, if_neg h0] at hc h
      have h64 := lt64 hq hl
      have cn0 : (nI left = 0) = False := eq_false (nI_ne0 (by omega) (by omega))
      have ct : (nI t).toNatClampNeg = t := nI_clamp (by omega)
      have ci : (nI t).toInt = (t : Int) := nI_toInt (by omega)
      have ext : (∃ a, a < 7 ∧ nI t = nI a) = True := eq_true ⟨t, by omega, rfl⟩
      have lp : ∀ (m i : Nat) (Nc : Mem) (x6 : Value) (c f : Nat), i + m = q → Nc 60 = N 60 → (∀ j, j < 50 → Nc 64 (50 * t + j) = N 60 j) → Nc 59 8 = nI c → Nc 59 9 = nI f → f ≤ 6 → c + (wl (fun w => if left.testBit w = true ∧ fell + flM (N 60) w ≤ A then (goS A q n (crr (N 60) w) (clr left w) (fell + flM (N 60) w)).map (fun x => (w :: x.1, x.2)) else []) m i).length < 2 ^ 31 → (∀ N', GT t Nc N' (wl (fun w => if left.testBit w = true ∧ fell + flM (N 60) w ≤ A then (goS A q n (crr (N 60) w) (clr left w) (fell + flM (N 60) w)).map (fun x => (w :: x.1, x.2)) else []) m i) c f → k (.int 0) N') → WP (7, yX7_goThrough, cX7_goThrough, 7, none) (d + 1) k 71 [.ref 59, .int (nI left), .int (nI t), .int (nI fell), .int (nI A), .int (nI i), x6] [] Nc := by
        intro m
        induction m with
        | zero =>
          intro i Nc x6 c f hi hr hst e8 e9 hf hc h
          have c1 : nI q ≤ nI i := nI_le (by omega) (by omega)
          refine goV (n := 80) [] [71] T_nil ?_
          simp only [dX7_goThrough_0, dX7_goThrough_1, dX7_goThrough_4, dX7_goThrough_5, dX7_goThrough_7, dX7_goThrough_9, dX7_goThrough_10, dX7_goThrough_13, dX7_goThrough_14, dX7_goThrough_17, dX7_goThrough_20, dX7_goThrough_21, dX7_goThrough_24, dX7_goThrough_26, dX7_goThrough_27, dX7_goThrough_30, dX7_goThrough_32, dX7_goThrough_33, dX7_goThrough_34, dX7_goThrough_37, dX7_goThrough_40, dX7_goThrough_41, dX7_goThrough_42, dX7_goThrough_45, dX7_goThrough_46, dX7_goThrough_47, dX7_goThrough_50, dX7_goThrough_51, dX7_goThrough_52, dX7_goThrough_55, dX7_goThrough_56, dX7_goThrough_59, dX7_goThrough_62, dX7_goThrough_63, dX7_goThrough_64, dX7_goThrough_65, dX7_goThrough_68, dX7_goThrough_69, dX7_goThrough_71, dX7_goThrough_73, dX7_goThrough_74, dX7_goThrough_77, dX7_goThrough_78, dX7_goThrough_79, dX7_goThrough_82, dX7_goThrough_83, dX7_goThrough_85, dX7_goThrough_88, dX7_goThrough_91, dX7_goThrough_92, dX7_goThrough_95, dX7_goThrough_96, dX7_goThrough_98, dX7_goThrough_99, dX7_goThrough_100, dX7_goThrough_101, dX7_goThrough_103, dX7_goThrough_106, dX7_goThrough_108, dX7_goThrough_111, dX7_goThrough_112, dX7_goThrough_115, dX7_goThrough_116, dX7_goThrough_117, dX7_goThrough_119, dX7_goThrough_121, dX7_goThrough_123, dX7_goThrough_126, dX7_goThrough_127, dX7_goThrough_128, dX7_goThrough_129, dX7_goThrough_131, dX7_goThrough_132, dX7_goThrough_133, dX7_goThrough_134, dX7_goThrough_135, dX7_goThrough_136, dX7_goThrough_137, dX7_goThrough_138, dX7_goThrough_140, dX7_goThrough_142, dX7_goThrough_145, dX7_goThrough_146, dX7_goThrough_147, dX7_goThrough_150, dX7_goThrough_153, dX7_goThrough_156, cr_7_146, cr_7_155, cr_7_196, cr_7_200, cr_7_204, cr_7_79, fr_7_189, fr_7_193, fr_7_25, fr_7_28, fr_7_9, al_10, al_11, al_12, al_13, al_14, al_16, al_17, al_18, al_19, al_2, al_20, al_21, al_23, al_24, al_27, al_28, al_29, al_3, al_30, al_31, al_32, al_34, al_36, al_37, al_38, al_39, al_4, al_40, al_41, al_42, al_43, al_45, al_46, al_47, al_48, al_49, al_5, al_52, al_53, al_54, al_55, al_56, al_57, al_58, al_6, al_60, al_61, al_62, al_63, al_64, al_65, al_66, al_67, al_69, al_7, al_70, al_71, al_72, al_73, al_9, cat_i, cat_l, cat_r, cat_u, gf_6_0_59, gf_6_6_59, gf_6_7_59, gf_6_8_59, gf_6_9_59, pcl_0, pcl_1, pcl_100, pcl_101, pcl_102, pcl_103, pcl_104, pcl_105, pcl_106, pcl_107, pcl_108, pcl_109, pcl_110, pcl_111, pcl_112, pcl_15, pcl_22, pcl_25, pcl_26, pcl_33, pcl_44, pcl_50, pcl_59, pcl_8, pft_6_8, pft_6_9, v_aload_0, v_bipush_12, v_dup, v_getfield, v_goto, v_iadd, v_iaload, v_iand, v_iastore, v_ic_ge, v_ic_gt, v_iconst_0, v_iconst_1, v_iconst_m1, v_if_eq, v_if_ne, v_iinc_5, v_iload_1, v_iload_2, v_iload_3, v_iload_4, v_iload_5, v_iload_6, v_invs, v_invv, v_ishl, v_istore_5, v_istore_6, v_ixor, v_putfield, v_return, vcS_2_1, vcS_min, vcV_2_6, vcV_5_6, vgf_i, vgf_r, vgf_s, vpf_s, vc_d, rr_0, rr_1, csT_h, csT_t, csT_n, bI_0, bI_1, bI_z, bT, List.mem_cons, List.not_mem_nil, List.length_cons, List.length_nil, ite_not, ↓reduceIte, true_and, and_true, not_true_eq_false, not_false_eq_true, false_or, or_false, or_true, true_or, Nat.reduceAdd, Nat.reduceEqDiff, Nat.reduceBEq, Nat.reduceLeDiff, Nat.reduceLT, Nat.reduceSub, Int.reduceAdd, Int.reduceLE, Int.reduceLT, Int.reduceToNat, Int.reduceNeg, Int.reduceNatCast', reduceCtorEq, Int32.reduceOfInt, Int32.reduceOfNat, Int32.reduceToNatClampNeg, Int32.reduceToInt, i10, i01, nEM, hr, hn, c1]
          exact h Nc (GT.nil e8 e9 (fun _ _ _ => rfl) (fun _ _ => rfl) (fun _ _ => rfl))
        | succ m ihm =>
          intro i Nc x6 c f hi hr hst e8 e9 hf hc h
          have c1 : ¬ nI q ≤ nI i := nI_ge (by omega) (by omega)
          have cj : (nI i).toNatClampNeg = i := nI_clamp (by omega)
          have oi := nOK (show i < 6 by omega)
          have c00 : nI fell + 0 = nI fell := Int32.add_zero _
          rw [wl] at hc h
          -- behind one of them: N2 is as before but for what may change
          have next : ∀ (N2 : Mem) (x6 : Value) (L : List (List Nat × Nat)), GT t Nc N2 L c f → (∀ j, j < 50 → N2 64 (50 * t + j) = N 60 j) → (if left.testBit i = true ∧ fell + flM (N 60) i ≤ A then (goS A q n (crr (N 60) i) (clr left i) (fell + flM (N 60) i)).map (fun x => (i :: x.1, x.2)) else []) = L → WP (7, yX7_goThrough, cX7_goThrough, 7, none) (d + 1) k 71 [.ref 59, .int (nI left), .int (nI t), .int (nI fell), .int (nI A), .int (nI (i + 1)), x6] [] N2 := by
            intro N2 x6 L hG h64' hL
            rw [hL] at hc h
            obtain ⟨g1, g2, g3, g4, g5, g6, g7, g8, g9⟩ := id hG
            rw [List.length_append] at hc
            refine ihm (i + 1) N2 x6 (c + L.length) (mnF f L) (by omega) ((g1 60 (by decide) (by decide) (by decide) (by decide)).trans hr) h64' g3 g4 (Nat.le_trans (mnF_le L f) hf) (by omega) (fun N' hN' => h N' (hG.tr hN'))
          refine goV (n := 80) [(131, pf_X7_has), (153, pf_X7_crosses), (176, pf_X7_layBack)] [71] (T_cons (s_X7_has (by omega)) (T_cons (s_X7_crosses (by omega)) (T_cons (s_X7_layBack (by omega)) T_nil))) ?_
          simp only [dX7_goThrough_0, dX7_goThrough_1, dX7_goThrough_4, dX7_goThrough_5, dX7_goThrough_7, dX7_goThrough_9, dX7_goThrough_10, dX7_goThrough_13, dX7_goThrough_14, dX7_goThrough_17, dX7_goThrough_20, dX7_goThrough_21, dX7_goThrough_24, dX7_goThrough_26, dX7_goThrough_27, dX7_goThrough_30, dX7_goThrough_32, dX7_goThrough_33, dX7_goThrough_34, dX7_goThrough_37, dX7_goThrough_40, dX7_goThrough_41, dX7_goThrough_42, dX7_goThrough_45, dX7_goThrough_46, dX7_goThrough_47, dX7_goThrough_50, dX7_goThrough_51, dX7_goThrough_52, dX7_goThrough_55, dX7_goThrough_56, dX7_goThrough_59, dX7_goThrough_62, dX7_goThrough_63, dX7_goThrough_64, dX7_goThrough_65, dX7_goThrough_68, dX7_goThrough_69, dX7_goThrough_71, dX7_goThrough_73, dX7_goThrough_74, dX7_goThrough_77, dX7_goThrough_78, dX7_goThrough_79, dX7_goThrough_82, dX7_goThrough_83, dX7_goThrough_85, dX7_goThrough_88, dX7_goThrough_91, dX7_goThrough_92, dX7_goThrough_95, dX7_goThrough_96, dX7_goThrough_98, dX7_goThrough_99, dX7_goThrough_100, dX7_goThrough_101, dX7_goThrough_103, dX7_goThrough_106, dX7_goThrough_108, dX7_goThrough_111, dX7_goThrough_112, dX7_goThrough_115, dX7_goThrough_116, dX7_goThrough_117, dX7_goThrough_119, dX7_goThrough_121, dX7_goThrough_123, dX7_goThrough_126, dX7_goThrough_127, dX7_goThrough_128, dX7_goThrough_129, dX7_goThrough_131, dX7_goThrough_132, dX7_goThrough_133, dX7_goThrough_134, dX7_goThrough_135, dX7_goThrough_136, dX7_goThrough_137, dX7_goThrough_138, dX7_goThrough_140, dX7_goThrough_142, dX7_goThrough_145, dX7_goThrough_146, dX7_goThrough_147, dX7_goThrough_150, dX7_goThrough_153, dX7_goThrough_156, cr_7_146, cr_7_155, cr_7_196, cr_7_200, cr_7_204, cr_7_79, fr_7_189, fr_7_193, fr_7_25, fr_7_28, fr_7_9, al_10, al_11, al_12, al_13, al_14, al_16, al_17, al_18, al_19, al_2, al_20, al_21, al_23, al_24, al_27, al_28, al_29, al_3, al_30, al_31, al_32, al_34, al_36, al_37, al_38, al_39, al_4, al_40, al_41, al_42, al_43, al_45, al_46, al_47, al_48, al_49, al_5, al_52, al_53, al_54, al_55, al_56, al_57, al_58, al_6, al_60, al_61, al_62, al_63, al_64, al_65, al_66, al_67, al_69, al_7, al_70, al_71, al_72, al_73, al_9, cat_i, cat_l, cat_r, cat_u, gf_6_0_59, gf_6_6_59, gf_6_7_59, gf_6_8_59, gf_6_9_59, pcl_0, pcl_1, pcl_100, pcl_101, pcl_102, pcl_103, pcl_104, pcl_105, pcl_106, pcl_107, pcl_108, pcl_109, pcl_110, pcl_111, pcl_112, pcl_15, pcl_22, pcl_25, pcl_26, pcl_33, pcl_44, pcl_50, pcl_59, pcl_8, pft_6_8, pft_6_9, v_aload_0, v_bipush_12, v_dup, v_getfield, v_goto, v_iadd, v_iaload, v_iand, v_iastore, v_ic_ge, v_ic_gt, v_iconst_0, v_iconst_1, v_iconst_m1, v_if_eq, v_if_ne, v_iinc_5, v_iload_1, v_iload_2, v_iload_3, v_iload_4, v_iload_5, v_iload_6, v_invs, v_invv, v_ishl, v_istore_5, v_istore_6, v_ixor, v_putfield, v_return, vcS_2_1, vcS_min, vcV_2_6, vcV_5_6, vgf_i, vgf_r, vgf_s, vpf_s, vc_d, rr_0, rr_1, csT_h, csT_t, csT_n, bI_0, bI_1, bI_z, bT, List.mem_cons, List.not_mem_nil, List.length_cons, List.length_nil, ite_not, ↓reduceIte, true_and, and_true, not_true_eq_false, not_false_eq_true, false_or, or_false, or_true, true_or, Nat.reduceAdd, Nat.reduceEqDiff, Nat.reduceBEq, Nat.reduceLeDiff, Nat.reduceLT, Nat.reduceSub, Int.reduceAdd, Int.reduceLE, Int.reduceLT, Int.reduceToNat, Int.reduceNeg, Int.reduceNatCast', reduceCtorEq, Int32.reduceOfInt, Int32.reduceOfNat, Int32.reduceToNatClampNeg, Int32.reduceToInt, i10, i01, nEM, pe_X7_has, pe_X7_crosses, pe_X7_layBack, hr, hn, c1, cj, oi, ct, ci, ext, c00, nI_1, isin0 (show left < 2 ^ 31 by omega) (show i < 31 by omega), ge12 crx_le, Classical.not_not, mset_n, clr_I left h64 i (show i < 6 by omega)]
          by_cases hb : left.testBit i = true
          · rw [if_neg (by rw [hb]; decide)]
            refine ⟨by omega, ?_⟩
            have hpc := clr_pop left h64 i (by omega) hb
            -- the memory ahead of going on
            have Na6 : ∀ j, j < t → (mrow (mset Nc 65 t (nI i)) 60 (crr (N 60) i)) 65 j = Nc 65 j := fun j hj => by
              rw [mrow_n (by decide), mset_s, un (by omega)]
            have Naw : (mrow (mset Nc 65 t (nI i)) 60 (crr (N 60) i)) 65 t = nI i := by
              rw [mrow_n (by decide), mset_s, upd_s]
            have Nap : ∀ p, p ≠ 60 → p ≠ 65 → (mrow (mset Nc 65 t (nI i)) 60 (crr (N 60) i)) p = Nc p := fun p z1 z2 => by
              rw [mrow_n (bq z1), mset_n (bq z2)]
            have bk : ∀ N1 : Mem, N1 60 = crr (N 60) i → (∀ j, j < 50 → N1 64 (50 * t + j) = N 60 j) → (mrow N1 60 (cpN 50 (fun j => N1 64 (50 * t + j)) (N1 60))) 60 = Nc 60 := by
              intro N1 z1 z2
              rw [mrow_s, z1, hr]
              funext j
              unfold cpN
              by_cases hj : j < 50
              · rw [if_pos hj]
                exact z2 j hj
              · rw [if_neg hj, crr_hi (by omega) (by omega)]
            have main : ∀ th : Nat, th = fell + flM (N 60) i → if nI A < nI th then WP (7, yX7_goThrough, cX7_goThrough, 7, none) (d + 1) k 71 [.ref 59, .int (nI left), .int (nI t), .int (nI fell), .int (nI A), .int (nI (i + 1)), .int (nI th)] [] (mrow (mrow (mset Nc 65 t (nI i)) 60 (crr (N 60) i)) 60 (cpN 50 (fun j => (mrow (mset Nc 65 t (nI i)) 60 (crr (N 60) i)) 64 (50 * t + j)) ((mrow (mset Nc 65 t (nI i)) 60 (crr (N 60) i)) 60))) else CallP d 177 [.ref 59, .int (nI (clr left i)), .int (nI (t + 1)), .int (nI th), .int (nI A)] (mrow (mset Nc 65 t (nI i)) 60 (crr (N 60) i)) (fun _ N1 => WP (7, yX7_goThrough, cX7_goThrough, 7, none) (d + 1) k 71 [.ref 59, .int (nI left), .int (nI t), .int (nI fell), .int (nI A), .int (nI (i + 1)), .int (nI th)] [] (mrow N1 60 (cpN 50 (fun j => N1 64 (50 * t + j)) (N1 60)))) := by
              intro th hth
              have hfl : flM (N 60) i ≤ 1 := by unfold flM; split <;> omega
              by_cases hA2 : nI A < nI th
              · rw [if_pos hA2]
                rw [nI_ltI (by omega) (by omega)] at hA2
                refine next _ _ [] (GT.nil e8 e9 ?_ ?_ ?_) ?_ ?_
                · intro p z1 z2
                  by_cases z : p = 60
                  · rw [z]
                    exact bk _ (mrow_s) (fun j hj => by rw [mrow_n (by decide), mset_n (by decide)]; exact hst j hj)
                  · rw [mrow_n (bq z), Nap p z z2]
                · intro j hj
                  rw [mrow_n (by decide), Nap 64 (by decide) (by decide)]
                · intro j hj
                  rw [mrow_n (by decide)]
                  exact Na6 j hj
                · intro j hj
                  rw [mrow_n (by decide), Nap 64 (by decide) (by decide)]
                  exact hst j hj
                · rw [if_neg (fun z => by omega)]
              · rw [if_neg hA2]
                rw [nI_ltI (by omega) (by omega)] at hA2
                have hle : left.testBit i = true ∧ fell + flM (N 60) i ≤ A := ⟨hb, by omega⟩
                rw [if_pos hle, List.length_append, List.length_map, ← hth] at hc
                have r60 : (mrow (mset Nc 65 t (nI i)) 60 (crr (N 60) i)) 60 = crr (N 60) i := mrow_s
                refine ih (t + 1) (by omega) d (by omega) (mrow (mset Nc 65 t (nI i)) 60 (crr (N 60) i)) _ (clr left i) q th A c f hq (by rw [r60, crr_1]; exact hn) (clr_bd hl) (by omega) (by omega) hA (by rw [Nap 59 (by decide) (by decide)]; exact e8) (by rw [Nap 59 (by decide) (by decide)]; exact e9) hf (by rw [r60]; omega) ?_
                intro N1 hG
                rw [r60] at hG
                have hG' := id hG
                obtain ⟨g1, g2, g3, g4, g5, g6, g7, g8, g9⟩ := hG'
                have z60 : N1 60 = crr (N 60) i := (g1 60 (by decide) (by decide) (by decide) (by decide)).trans r60
                have z64 : ∀ j, j < 50 → N1 64 (50 * t + j) = N 60 j := fun j hj => by
                  rw [g5 _ (by omega), Nap 64 (by decide) (by decide)]
                  exact hst j hj
                refine next _ _ _ (GT.cons hG Nap Na6 Naw (fun p z => mrow_n (bq z)) (bk N1 z60 z64)) ?_ ?_
                · intro j hj
                  rw [mrow_n (by decide)]
                  exact z64 j hj
                · rw [if_pos hle, hth]
            by_cases hlt : (crx (N 60) i).1 < 12
            · rw [if_pos hlt]
              have := main (fell + 1) (by unfold flM; rw [if_pos hlt])
              exact this
            · rw [if_neg hlt]
              have := main fell (by unfold flM; rw [if_neg hlt, Nat.add_zero])
              exact this
          · rw [if_pos (by simpa using hb)]
            exact next Nc _ [] (GT.nil e8 e9 (fun _ _ _ => rfl) (fun _ _ => rfl) (fun _ _ => rfl)) hst (if_neg (fun z => hb z.1))
      refine enterV (n := 80) [(175, pf_X7_lay0)] [71] mI_177 (by decide) (Nat.le_of_ble_eq_true rfl) (T_cons (s_X7_lay0 (by omega)) T_nil) ?_
      rw [show lent 7 ([.ref 59, .int (nI left), .int (nI t), .int (nI fell), .int (nI A)] : List Value) = [.ref 59, .int (nI left), .int (nI t), .int (nI fell), .int (nI A), .retAddr 0, .retAddr 0] from rfl]
      simp only [dX7_goThrough_0, dX7_goThrough_1, dX7_goThrough_4, dX7_goThrough_5, dX7_goThrough_7, dX7_goThrough_9, dX7_goThrough_10, dX7_goThrough_13, dX7_goThrough_14, dX7_goThrough_17, dX7_goThrough_20, dX7_goThrough_21, dX7_goThrough_24, dX7_goThrough_26, dX7_goThrough_27, dX7_goThrough_30, dX7_goThrough_32, dX7_goThrough_33, dX7_goThrough_34, dX7_goThrough_37, dX7_goThrough_40, dX7_goThrough_41, dX7_goThrough_42, dX7_goThrough_45, dX7_goThrough_46, dX7_goThrough_47, dX7_goThrough_50, dX7_goThrough_51, dX7_goThrough_52, dX7_goThrough_55, dX7_goThrough_56, dX7_goThrough_59, dX7_goThrough_62, dX7_goThrough_63, dX7_goThrough_64, dX7_goThrough_65, dX7_goThrough_68, dX7_goThrough_69, dX7_goThrough_71, dX7_goThrough_73, dX7_goThrough_74, dX7_goThrough_77, dX7_goThrough_78, dX7_goThrough_79, dX7_goThrough_82, dX7_goThrough_83, dX7_goThrough_85, dX7_goThrough_88, dX7_goThrough_91, dX7_goThrough_92, dX7_goThrough_95, dX7_goThrough_96, dX7_goThrough_98, dX7_goThrough_99, dX7_goThrough_100, dX7_goThrough_101, dX7_goThrough_103, dX7_goThrough_106, dX7_goThrough_108, dX7_goThrough_111, dX7_goThrough_112, dX7_goThrough_115, dX7_goThrough_116, dX7_goThrough_117, dX7_goThrough_119, dX7_goThrough_121, dX7_goThrough_123, dX7_goThrough_126, dX7_goThrough_127, dX7_goThrough_128, dX7_goThrough_129, dX7_goThrough_131, dX7_goThrough_132, dX7_goThrough_133, dX7_goThrough_134, dX7_goThrough_135, dX7_goThrough_136, dX7_goThrough_137, dX7_goThrough_138, dX7_goThrough_140, dX7_goThrough_142, dX7_goThrough_145, dX7_goThrough_146, dX7_goThrough_147, dX7_goThrough_150, dX7_goThrough_153, dX7_goThrough_156, cr_7_146, cr_7_155, cr_7_196, cr_7_200, cr_7_204, cr_7_79, fr_7_189, fr_7_193, fr_7_25, fr_7_28, fr_7_9, al_10, al_11, al_12, al_13, al_14, al_16, al_17, al_18, al_19, al_2, al_20, al_21, al_23, al_24, al_27, al_28, al_29, al_3, al_30, al_31, al_32, al_34, al_36, al_37, al_38, al_39, al_4, al_40, al_41, al_42, al_43, al_45, al_46, al_47, al_48, al_49, al_5, al_52, al_53, al_54, al_55, al_56, al_57, al_58, al_6, al_60, al_61, al_62, al_63, al_64, al_65, al_66, al_67, al_69, al_7, al_70, al_71, al_72, al_73, al_9, cat_i, cat_l, cat_r, cat_u, gf_6_0_59, gf_6_6_59, gf_6_7_59, gf_6_8_59, gf_6_9_59, pcl_0, pcl_1, pcl_100, pcl_101, pcl_102, pcl_103, pcl_104, pcl_105, pcl_106, pcl_107, pcl_108, pcl_109, pcl_110, pcl_111, pcl_112, pcl_15, pcl_22, pcl_25, pcl_26, pcl_33, pcl_44, pcl_50, pcl_59, pcl_8, pft_6_8, pft_6_9, v_aload_0, v_bipush_12, v_dup, v_getfield, v_goto, v_iadd, v_iaload, v_iand, v_iastore, v_ic_ge, v_ic_gt, v_iconst_0, v_iconst_1, v_iconst_m1, v_if_eq, v_if_ne, v_iinc_5, v_iload_1, v_iload_2, v_iload_3, v_iload_4, v_iload_5, v_iload_6, v_invs, v_invv, v_ishl, v_istore_5, v_istore_6, v_ixor, v_putfield, v_return, vcS_2_1, vcS_min, vcV_2_6, vcV_5_6, vgf_i, vgf_r, vgf_s, vpf_s, vc_d, rr_0, rr_1, csT_h, csT_t, csT_n, bI_0, bI_1, bI_z, bT, List.mem_cons, List.not_mem_nil, List.length_cons, List.length_nil, ite_not, ↓reduceIte, true_and, and_true, not_true_eq_false, not_false_eq_true, false_or, or_false, or_true, true_or, Nat.reduceAdd, Nat.reduceEqDiff, Nat.reduceBEq, Nat.reduceLeDiff, Nat.reduceLT, Nat.reduceSub, Int.reduceAdd, Int.reduceLE, Int.reduceLT, Int.reduceToNat, Int.reduceNeg, Int.reduceNatCast', reduceCtorEq, Int32.reduceOfInt, Int32.reduceOfNat, Int32.reduceToNatClampNeg, Int32.reduceToInt, i10, i01, nEM, pe_X7_lay0, cn0, ct, ext]
      have m64 : ∀ p, p ≠ 64 → (mrow N 64 (va_cpy (N 60) (N 64) 0 (50 * t) 50)) p = N p := fun p z => mrow_n (bq z)
      refine lp q 0 _ _ c f (by omega) (m64 60 (by decide)) (fun j hj => ?_) (by rw [m64 59 (by decide)]; exact e8) (by rw [m64 59 (by decide)]; exact e9) hf hc (fun N' hG => h N' ?_)
      · rw [mrow_s]
        unfold va_cpy
        rw [if_pos (by omega)]
        congr 1
        omega
      · have g0 : GT t N (mrow N 64 (va_cpy (N 60) (N 64) 0 (50 * t) 50)) [] c f := GT.nil e8 e9 (fun p z _ => m64 p z) (fun j hj => by
          rw [mrow_s]
          unfold va_cpy
          rw [if_neg (by omega)]) (fun j _ => by rw [m64 65 (by decide)])
        exact g0.tr hG
theorem wl_len {g : Nat → List (List Nat × Nat)} {b : Nat} (h : ∀ i, (g i).length ≤ b) : ∀ (n i : Nat), (wl g n i).length ≤ n * b := by
  intro n
  induction n with
  | zero => intro i; simp [wl]
  | succ n ih =>
    intro i
    rw [wl, List.length_append, Nat.succ_mul]
    have := ih (i + 1)
    have := h i
    omega
theorem goS_len {A q : Nat} (hq : q ≤ 6) : ∀ (n : Nat) (r : Nat → Int32) (left fell : Nat), (goS A q n r left fell).length ≤ 6 ^ n := by
  intro n
  induction n with
  | zero => intro r left fell; simp [goS]
  | succ n ih =>
    intro r left fell
    rw [goS]
    split
    · show 1 ≤ _
      exact Nat.le_trans Nat.one_le_two_pow (Nat.pow_le_pow_left (by decide) _)
    · refine Nat.le_trans (wl_len (b := 6 ^ n) (fun i => ?_) q 0) ?_
      · split
        · rw [List.length_map]
          exact ih _ _ _
        · simp
      · rw [Nat.pow_succ, Nat.mul_comm]
        exact Nat.mul_le_mul_left _ hq
theorem pop_le {b q : Nat} (hq : q ≤ 6) (hb : b < 2 ^ q) : popc b ≤ 6 := by
  have h : ∀ b, b < 64 → popc b ≤ 6 := by decide +kernel
  exact h b (lt64 hq hb)
/-- the orders of a set -/
def ordL (M : Mem) (A s : Nat) : List (List Nat × Nat) := goS A (M 60 1).toNatClampNeg 6 (M 60) s 0
def pf_X7_findOrders : PF := fun args M k => match args with
  | [.ref o, .int s, .int u] => (o = 59 ∧ ∃ x q, q ≤ 6 ∧ M 60 1 = nI q ∧ x < 2 ^ q ∧ s = nI x ∧ (u = 0 ∨ u = 6)) ∧ (∀ N, (∀ p, p ≠ 59 → p ≠ 64 → p ≠ 65 → p ≠ 66 → N p = M p) → (∀ j, j ≠ 8 → j ≠ 9 → N 59 j = M 59 j) → N 59 8 = nI (ordL M (u).toNatClampNeg (s).toNatClampNeg).length → N 59 9 = nI (mnF 6 (ordL M (u).toNatClampNeg (s).toNatClampNeg)) → (∀ x L, ordL M (u).toNatClampNeg (s).toNatClampNeg = x :: L → ∀ j, j < x.1.length → N 66 j = nI (x.1.getD j 0)) → k (.int 0) N)
  | _ => False
theorem pe_X7_findOrders {o : Nat} {s : Int32} {u : Int32} {M : Mem} {k : Value → Mem → Prop} : pf_X7_findOrders [.ref o, .int s, .int u] M k = ((o = 59 ∧ ∃ x q, q ≤ 6 ∧ M 60 1 = nI q ∧ x < 2 ^ q ∧ s = nI x ∧ (u = 0 ∨ u = 6)) ∧ (∀ N, (∀ p, p ≠ 59 → p ≠ 64 → p ≠ 65 → p ≠ 66 → N p = M p) → (∀ j, j ≠ 8 → j ≠ 9 → N 59 j = M 59 j) → N 59 8 = nI (ordL M (u).toNatClampNeg (s).toNatClampNeg).length → N 59 9 = nI (mnF 6 (ordL M (u).toNatClampNeg (s).toNatClampNeg)) → (∀ x L, ordL M (u).toNatClampNeg (s).toNatClampNeg = x :: L → ∀ j, j < x.1.length → N 66 j = nI (x.1.getD j 0)) → k (.int 0) N)) := rfl
theorem le_X7_findOrders {o : Nat} {s : Int32} {u : Int32} : lent 3 ([.ref o, .int s, .int u] : List Value) = [.ref o, .int s, .int u] := rfl
set_option maxRecDepth 100000 in
set_option maxHeartbeats 4000000 in
theorem c_X7_findOrders {d : Nat} (hd : 14 ≤ d) {o : Nat} {s : Int32} {u : Int32} {M : Mem} {k : Value → Mem → Prop} (h : (o = 59 ∧ ∃ x q, q ≤ 6 ∧ M 60 1 = nI q ∧ x < 2 ^ q ∧ s = nI x ∧ (u = 0 ∨ u = 6)) ∧ (∀ N, (∀ p, p ≠ 59 → p ≠ 64 → p ≠ 65 → p ≠ 66 → N p = M p) → (∀ j, j ≠ 8 → j ≠ 9 → N 59 j = M 59 j) → N 59 8 = nI (ordL M (u).toNatClampNeg (s).toNatClampNeg).length → N 59 9 = nI (mnF 6 (ordL M (u).toNatClampNeg (s).toNatClampNeg)) → (∀ x L, ordL M (u).toNatClampNeg (s).toNatClampNeg = x :: L → ∀ j, j < x.1.length → N 66 j = nI (x.1.getD j 0)) → k (.int 0) N)) : CallP d 178 [.ref o, .int s, .int u] M k := by
  obtain ⟨hp, h⟩ := h
  obtain ⟨d, rfl⟩ : ∃ d', d = d' + 1 := ⟨d - 1, by omega⟩
  obtain ⟨rfl, x, q, hq, hn, hx, rfl, hu⟩ := hp
  have hu' : ∃ A, A ≤ 6 ∧ u = nI A := by
    rcases hu with rfl | rfl
    · exact ⟨0, by decide, rfl⟩
    · exact ⟨6, by decide, rfl⟩
  obtain ⟨A, hA, rfl⟩ := hu'
  have h64 := lt64 hq hx
  rw [nI_clamp (show A < 2 ^ 31 by omega), nI_clamp (show x < 2 ^ 31 by omega)] at h
  unfold ordL at h
  rw [hn, nI_clamp (show q < 2 ^ 31 by omega)] at h
  · refine enterV (n := 80) [] [] mI_178 (by decide) (Nat.le_of_ble_eq_true rfl) T_nil ?_
    rw [le_X7_findOrders]
    simp only [dX7_findOrders_0, dX7_findOrders_1, dX7_findOrders_2, dX7_findOrders_5, dX7_findOrders_6, dX7_findOrders_8, dX7_findOrders_11, dX7_findOrders_12, dX7_findOrders_13, dX7_findOrders_14, dX7_findOrders_15, dX7_findOrders_16, dX7_findOrders_19, cr_7_200, fr_7_189, fr_7_193, al_10, al_11, al_12, al_13, al_14, al_16, al_17, al_18, al_19, al_2, al_20, al_21, al_23, al_24, al_27, al_28, al_29, al_3, al_30, al_31, al_32, al_34, al_36, al_37, al_38, al_39, al_4, al_40, al_41, al_42, al_43, al_45, al_46, al_47, al_48, al_49, al_5, al_52, al_53, al_54, al_55, al_56, al_57, al_58, al_6, al_60, al_61, al_62, al_63, al_64, al_65, al_66, al_67, al_69, al_7, al_70, al_71, al_72, al_73, al_9, gf_6_8_59, gf_6_9_59, pcl_0, pcl_1, pcl_100, pcl_101, pcl_102, pcl_103, pcl_104, pcl_105, pcl_106, pcl_107, pcl_108, pcl_109, pcl_110, pcl_111, pcl_112, pcl_15, pcl_22, pcl_25, pcl_26, pcl_33, pcl_44, pcl_50, pcl_59, pcl_8, pft_6_8, pft_6_9, v_aload_0, v_bipush_6, v_iconst_0, v_iload_1, v_iload_2, v_invv, v_putfield, v_return, vcV_5_6, vpf_s, vc_d, rr_0, rr_1, csT_h, csT_t, csT_n, bI_0, bI_1, bI_z, bT, List.mem_cons, List.not_mem_nil, List.length_cons, List.length_nil, ite_not, ↓reduceIte, true_and, and_true, not_true_eq_false, not_false_eq_true, false_or, or_false, or_true, true_or, Nat.reduceAdd, Nat.reduceEqDiff, Nat.reduceBEq, Nat.reduceLeDiff, Nat.reduceLT, Nat.reduceSub, Int.reduceAdd, Int.reduceLE, Int.reduceLT, Int.reduceToNat, Int.reduceNeg, Int.reduceNatCast', reduceCtorEq, Int32.reduceOfInt, Int32.reduceOfNat, Int32.reduceToNatClampNeg, Int32.reduceToInt, i10, i01, nEM]
    have m59 : ∀ p, p ≠ 59 → mset (mset M 59 8 0) 59 9 6 p = M p := fun p z => by
      rw [mset_n (bq z), mset_n (bq z)]
    have hlen := goS_len (A := A) hq 6 (M 60) x 0
    have h6 : (6 : Nat) ^ 6 = 46656 := by decide
    refine lp_goThrough 6 0 rfl d (by omega) _ _ x q 0 A 0 6 hq (by rw [m59 60 (by decide)]; exact hn) hx (pop_le hq hx) (Nat.le_refl _) hA ?_ ?_ (by decide) (by rw [m59 60 (by decide)]; omega) ?_
    · rw [mset_s, upd_n (by decide), mset_s, upd_s]
      rfl
    · rw [mset_s, upd_s]
      rfl
    · intro N' hG
      rw [m59 60 (by decide)] at hG
      obtain ⟨g1, g2, g3, g4, g5, g6, g7, g8, g9⟩ := hG
      refine h N' (fun p z1 z2 z3 z4 => (g1 p z1 z2 z3 z4).trans (m59 p z1)) (fun j z1 z2 => ?_) (by rw [g3, Nat.zero_add]) g4 (fun y L e j hj => ?_)
      · rw [g2 j z1 z2, mset_s, un z2, mset_s, un z1]
      · have := (g8 rfl y L e).2 j hj
        rw [Nat.zero_add] at this
        exact this

theorem s_X7_findOrders {d : Nat} (hd : 14 ≤ d) : Snd d 178 pf_X7_findOrders := by
  intro args M k h
  unfold pf_X7_findOrders at h
  split at h
  · exact c_X7_findOrders hd h
  · exact h.elim
