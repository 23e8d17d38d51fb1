/-! X: greatest; the queue's doors -/
def glF (f : Nat → Nat → Option Nat) (all : Nat) : Nat → Nat → Nat → Nat
  | 0, _, g => g
  | n + 1, i, g => if g = all then g else glF f all n (i + 1) (match f i g with
    | some x => x
    | none => g)
def gtF (X : XF) (q : Nat) : Nat → Nat → Nat → (Nat → Int32) → Nat
  | 0, c, s, _ => grF c s
  | n + 1, c, s, r => glF (fun w g => if c.testBit w = false ∧ ¬ (X w r).1 < 12 then some (gtF X q n (c ||| 2 ^ w) g (X w r).2.2) else none) (2 ^ q - 1) q 0 (grF c s)
theorem glF_congr {f g : Nat → Nat → Option Nat} {all : Nat} (h : ∀ w x, f w x = g w x) : ∀ (n i l : Nat), glF f all n i l = glF g all n i l := by
  intro n
  induction n with
  | zero => intro i l; rfl
  | succ n ih =>
    intro i l
    rw [glF, glF, h i l]
    split
    · rfl
    · exact ih (i + 1) _
theorem gtF_congr {X : XF} (hX : XC X) {q : Nat} : ∀ (n c s : Nat) (r r' : Nat → Int32), (∀ j, j < 12 → r j = r' j) → gtF X q n c s r = gtF X q n c s r' := by
  intro n
  induction n with
  | zero => intro c s r r' _; rfl
  | succ n ih =>
    intro c s r r' h
    rw [gtF, gtF]
    refine glF_congr (fun w x => ?_) _ _ _
    have hx := hX w r r' h
    rw [hx.1, ih (c ||| 2 ^ w) x _ _ hx.2]
theorem gr_lt {a b m : Nat} (ha : a < m) (hb : b < m) : grF a b < m := by
  unfold grF
  split <;> assumption
theorem gl_lt {f : Nat → Nat → Option Nat} {all m : Nat} (h : ∀ w g x, w < 6 → g < m → f w g = some x → x < m) : ∀ (n i g : Nat), i + n ≤ 6 → g < m → glF f all n i g < m := by
  intro n
  induction n with
  | zero => intro i g _ hg; exact hg
  | succ n ih =>
    intro i g hi hg
    rw [glF]
    split
    · exact hg
    · refine ih (i + 1) _ (by omega) ?_
      split
      · rename_i hx
        exact h i g _ (by omega) hg hx
      · exact hg
theorem gt_lt {X : XF} {q : Nat} (hq : q ≤ 6) : ∀ (n c s : Nat) (r : Nat → Int32), c < 64 → s < 64 → gtF X q n c s r < 64 := by
  intro n
  induction n with
  | zero => intro c s r hc hs; exact gr_lt hc hs
  | succ n ih =>
    intro c s r hc hs
    rw [gtF]
    refine gl_lt (fun w g x hw hg hx => ?_) q 0 _ (by omega) (gr_lt hc hs)
    split at hx
    · cases hx
      exact ih _ _ _ (Nat.or_lt_two_pow (n := 6) hc (Nat.pow_lt_pow_right (by decide) hw)) hg
    · cases hx
set_option maxRecDepth 100000 in
set_option maxHeartbeats 4000000 in
theorem lp_greatest {q : Nat} (hq : q ≤ 6) : ∀ (n t : Nat), t + n = 6 → ∀ (d : Nat), 4 + n ≤ d → ∀ (N : Mem) (k : Value → Mem → Prop) (c s : Nat), N 26 6 = nI q → c < 64 → s < 64 → (∀ N', QJ t N N' → k (.int (nI (gtF (QX N) q n c s (N (36 + t))))) N') → CallP d 25 [.ref 25, .int (nI c), .int (nI s), .int (nI t)] N k := by
  intro n
  induction n with
  | zero =>
    intro t ht d hd N k c s hn hc hs h
    have e6 : t = 6 := by omega
    subst e6
    obtain ⟨d, rfl⟩ : ∃ d', d = d' + 1 := ⟨d - 1, by omega⟩
    refine enterV (n := 80) [(26, pf_X2_greater)] [32] mI_25 (by decide) (Nat.le_of_ble_eq_true rfl) (T_cons (s_X2_greater (by omega)) T_nil) ?_
    rw [show lent 7 ([.ref 25, .int (nI c), .int (nI s), .int (nI 6)] : List Value) = [.ref 25, .int (nI c), .int (nI s), .int (nI 6), .retAddr 0, .retAddr 0, .retAddr 0] from rfl]
    simp only [dX2_greatest_0, dX2_greatest_1, dX2_greatest_2, dX2_greatest_5, dX2_greatest_7, dX2_greatest_8, dX2_greatest_10, dX2_greatest_13, dX2_greatest_15, dX2_greatest_16, dX2_greatest_17, dX2_greatest_18, dX2_greatest_21, dX2_greatest_24, dX2_greatest_25, dX2_greatest_26, dX2_greatest_27, dX2_greatest_29, dX2_greatest_30, dX2_greatest_32, dX2_greatest_34, dX2_greatest_35, dX2_greatest_38, dX2_greatest_41, dX2_greatest_44, dX2_greatest_46, dX2_greatest_48, dX2_greatest_51, dX2_greatest_52, dX2_greatest_54, dX2_greatest_57, dX2_greatest_60, dX2_greatest_61, dX2_greatest_63, dX2_greatest_64, dX2_greatest_67, dX2_greatest_70, dX2_greatest_71, dX2_greatest_72, dX2_greatest_73, dX2_greatest_75, dX2_greatest_76, dX2_greatest_77, dX2_greatest_79, dX2_greatest_80, dX2_greatest_81, dX2_greatest_82, dX2_greatest_85, dX2_greatest_87, dX2_greatest_90, dX2_greatest_93, dX2_greatest_95, cr_2_49, cr_2_72, cr_2_75, cr_2_83, fr_2_12, fr_2_86, al_10, al_11, al_12, al_13, al_14, al_16, al_17, al_18, al_19, al_2, al_20, al_21, al_23, al_24, al_27, al_28, al_29, al_3, al_30, al_31, al_32, al_34, al_36, al_37, al_38, al_39, al_4, al_40, al_41, al_42, al_43, al_45, al_46, al_47, al_48, al_49, al_5, al_52, al_53, al_54, al_55, al_56, al_57, al_58, al_6, al_60, al_61, al_62, al_63, al_64, al_65, al_66, al_67, al_69, al_7, al_70, al_71, al_72, al_73, al_9, cat_i, cat_l, cat_r, cat_u, gf_0_6_1, gf_0_6_15, gf_0_6_26, gf_0_6_8, gf_1_0_25, pcl_0, pcl_1, pcl_100, pcl_101, pcl_102, pcl_103, pcl_104, pcl_105, pcl_106, pcl_107, pcl_108, pcl_109, pcl_110, pcl_111, pcl_112, pcl_15, pcl_22, pcl_25, pcl_26, pcl_33, pcl_44, pcl_50, pcl_59, pcl_8, pft_0_6, rOK_i, rOK_z, v_aload_0, v_bipush_6, v_getfield, v_goto, v_iadd, v_ic_eq, v_ic_ge, v_ic_lt, v_iconst_0, v_iconst_1, v_if_eq, v_if_ne, v_iinc_6, v_iload_1, v_iload_2, v_iload_3, v_iload_4, v_iload_5, v_iload_6, v_invs, v_invv, v_ior, v_ireturn, v_ishl, v_istore_4, v_istore_5, v_istore_6, v_isub, vcS_2_1, vcS_2_2, vcV_3_1, vcV_4_1, vgf_i, vgf_r, vgf_s, vc_d, rr_0, rr_1, csT_h, csT_t, csT_n, bI_0, bI_1, bI_z, bT, List.mem_cons, List.not_mem_nil, List.length_cons, List.length_nil, ite_not, ↓reduceIte, true_and, and_true, not_true_eq_false, not_false_eq_true, false_or, or_false, or_true, true_or, Nat.reduceAdd, Nat.reduceEqDiff, Nat.reduceBEq, Nat.reduceLeDiff, Nat.reduceLT, Nat.reduceSub, Int.reduceAdd, Int.reduceLE, Int.reduceLT, Int.reduceToNat, Int.reduceNeg, Int.reduceNatCast', reduceCtorEq, Int32.reduceOfInt, Int32.reduceOfNat, Int32.reduceToNatClampNeg, Int32.reduceToInt, i10, i01, pe_X2_greater, show (nI 6 < 6) = False from by decide, nI_clamp (show c < 2 ^ 31 by omega), nI_clamp (show s < 2 ^ 31 by omega)]
    exact ⟨⟨c, s, hc, hs, rfl, rfl⟩, h N QJ.rf⟩
  | succ n ih =>
    intro t ht d hd N k c s hn hc hs h
    obtain ⟨d, rfl⟩ : ∃ d', d = d' + 1 := ⟨d - 1, by omega⟩
    have clt : nI t < 6 := nI_lt (b := 6) (by omega) (by decide)
    have ct1 : ¬ nI t < 0 := nI_pos (by omega)
    have ct2 : ¬ (6 : Int32) ≤ nI t := nI_ge (b := 6) (by omega) (by decide)
    have ct3 : (nI t).toNatClampNeg = t := nI_clamp (by omega)
    have h2q : 2 ^ q ≤ 64 := Nat.pow_le_pow_right (n := 2) (by decide) hq
    have h2p : 0 < 2 ^ q := Nat.pow_pos (by decide)
    have hall : (1 : Int32) <<< (nI q &&& 31) - 1 = nI (2 ^ q - 1) := by
      rw [sh1 q (by omega)]
      exact pk_sub (b := 1) h2p
    have lp : ∀ (m i g : Nat) (N1 : Mem), i + m = q → g < 64 → QJ t N N1 → (∀ N', QJ t N N' → k (.int (nI (glF (fun w g => if c.testBit w = false ∧ ¬ (QX N w (N (36 + t))).1 < 12 then some (gtF (QX N) q n (c ||| 2 ^ w) g (QX N w (N (36 + t))).2.2) else none) (2 ^ q - 1) m i g))) N') → WP (2, yX2_greatest, cX2_greatest, 7, (some .int)) (d + 1) k 32 [.ref 25, .int (nI c), .int (nI s), .int (nI t), .int (nI g), .int (nI (2 ^ q - 1)), .int (nI i)] [] N1 := by
      intro m
      induction m with
      | zero =>
        intro i g N1 hi hg hJ hk
        have hn1 : N1 26 6 = nI q := by rw [hJ.n]; exact hn
        have c1 : nI q ≤ nI i := nI_le (by omega) (by omega)
        refine goV (n := 80) [] [32] T_nil ?_
        simp only [dX2_greatest_0, dX2_greatest_1, dX2_greatest_2, dX2_greatest_5, dX2_greatest_7, dX2_greatest_8, dX2_greatest_10, dX2_greatest_13, dX2_greatest_15, dX2_greatest_16, dX2_greatest_17, dX2_greatest_18, dX2_greatest_21, dX2_greatest_24, dX2_greatest_25, dX2_greatest_26, dX2_greatest_27, dX2_greatest_29, dX2_greatest_30, dX2_greatest_32, dX2_greatest_34, dX2_greatest_35, dX2_greatest_38, dX2_greatest_41, dX2_greatest_44, dX2_greatest_46, dX2_greatest_48, dX2_greatest_51, dX2_greatest_52, dX2_greatest_54, dX2_greatest_57, dX2_greatest_60, dX2_greatest_61, dX2_greatest_63, dX2_greatest_64, dX2_greatest_67, dX2_greatest_70, dX2_greatest_71, dX2_greatest_72, dX2_greatest_73, dX2_greatest_75, dX2_greatest_76, dX2_greatest_77, dX2_greatest_79, dX2_greatest_80, dX2_greatest_81, dX2_greatest_82, dX2_greatest_85, dX2_greatest_87, dX2_greatest_90, dX2_greatest_93, dX2_greatest_95, cr_2_49, cr_2_72, cr_2_75, cr_2_83, fr_2_12, fr_2_86, al_10, al_11, al_12, al_13, al_14, al_16, al_17, al_18, al_19, al_2, al_20, al_21, al_23, al_24, al_27, al_28, al_29, al_3, al_30, al_31, al_32, al_34, al_36, al_37, al_38, al_39, al_4, al_40, al_41, al_42, al_43, al_45, al_46, al_47, al_48, al_49, al_5, al_52, al_53, al_54, al_55, al_56, al_57, al_58, al_6, al_60, al_61, al_62, al_63, al_64, al_65, al_66, al_67, al_69, al_7, al_70, al_71, al_72, al_73, al_9, cat_i, cat_l, cat_r, cat_u, gf_0_6_1, gf_0_6_15, gf_0_6_26, gf_0_6_8, gf_1_0_25, pcl_0, pcl_1, pcl_100, pcl_101, pcl_102, pcl_103, pcl_104, pcl_105, pcl_106, pcl_107, pcl_108, pcl_109, pcl_110, pcl_111, pcl_112, pcl_15, pcl_22, pcl_25, pcl_26, pcl_33, pcl_44, pcl_50, pcl_59, pcl_8, pft_0_6, rOK_i, rOK_z, v_aload_0, v_bipush_6, v_getfield, v_goto, v_iadd, v_ic_eq, v_ic_ge, v_ic_lt, v_iconst_0, v_iconst_1, v_if_eq, v_if_ne, v_iinc_6, v_iload_1, v_iload_2, v_iload_3, v_iload_4, v_iload_5, v_iload_6, v_invs, v_invv, v_ior, v_ireturn, v_ishl, v_istore_4, v_istore_5, v_istore_6, v_isub, vcS_2_1, vcS_2_2, vcV_3_1, vcV_4_1, vgf_i, vgf_r, vgf_s, vc_d, rr_0, rr_1, csT_h, csT_t, csT_n, bI_0, bI_1, bI_z, bT, List.mem_cons, List.not_mem_nil, List.length_cons, List.length_nil, ite_not, ↓reduceIte, true_and, and_true, not_true_eq_false, not_false_eq_true, false_or, or_false, or_true, true_or, Nat.reduceAdd, Nat.reduceEqDiff, Nat.reduceBEq, Nat.reduceLeDiff, Nat.reduceLT, Nat.reduceSub, Int.reduceAdd, Int.reduceLE, Int.reduceLT, Int.reduceToNat, Int.reduceNeg, Int.reduceNatCast', reduceCtorEq, Int32.reduceOfInt, Int32.reduceOfNat, Int32.reduceToNatClampNeg, Int32.reduceToInt, i10, i01, hn1, c1]
        have := hk N1 hJ
        rw [glF] at this
        exact this
      | succ m ihm =>
        intro i g N1 hi hg hJ hk
        have hn1 : N1 26 6 = nI q := by rw [hJ.n]; exact hn
        have c1 : ¬ nI q ≤ nI i := nI_ge (by omega) (by omega)
        have c3 : (nI i).toNatClampNeg = i := nI_clamp (by omega)
        have hX1 : xq N1 i (N1 (36 + t)) = QX N i (N (36 + t)) := by
          rw [hJ.at (by omega)]
          exact congrFun (congrFun hJ.X i) (N (36 + t))
        have heq : (nI g = nI (2 ^ q - 1)) = (g = 2 ^ q - 1) := propext (nI_eq (by omega) (by omega))
        rw [glF] at hk
        by_cases hga : g = 2 ^ q - 1
        · refine goV (n := 80) [] [32] T_nil ?_
          simp only [dX2_greatest_0, dX2_greatest_1, dX2_greatest_2, dX2_greatest_5, dX2_greatest_7, dX2_greatest_8, dX2_greatest_10, dX2_greatest_13, dX2_greatest_15, dX2_greatest_16, dX2_greatest_17, dX2_greatest_18, dX2_greatest_21, dX2_greatest_24, dX2_greatest_25, dX2_greatest_26, dX2_greatest_27, dX2_greatest_29, dX2_greatest_30, dX2_greatest_32, dX2_greatest_34, dX2_greatest_35, dX2_greatest_38, dX2_greatest_41, dX2_greatest_44, dX2_greatest_46, dX2_greatest_48, dX2_greatest_51, dX2_greatest_52, dX2_greatest_54, dX2_greatest_57, dX2_greatest_60, dX2_greatest_61, dX2_greatest_63, dX2_greatest_64, dX2_greatest_67, dX2_greatest_70, dX2_greatest_71, dX2_greatest_72, dX2_greatest_73, dX2_greatest_75, dX2_greatest_76, dX2_greatest_77, dX2_greatest_79, dX2_greatest_80, dX2_greatest_81, dX2_greatest_82, dX2_greatest_85, dX2_greatest_87, dX2_greatest_90, dX2_greatest_93, dX2_greatest_95, cr_2_49, cr_2_72, cr_2_75, cr_2_83, fr_2_12, fr_2_86, al_10, al_11, al_12, al_13, al_14, al_16, al_17, al_18, al_19, al_2, al_20, al_21, al_23, al_24, al_27, al_28, al_29, al_3, al_30, al_31, al_32, al_34, al_36, al_37, al_38, al_39, al_4, al_40, al_41, al_42, al_43, al_45, al_46, al_47, al_48, al_49, al_5, al_52, al_53, al_54, al_55, al_56, al_57, al_58, al_6, al_60, al_61, al_62, al_63, al_64, al_65, al_66, al_67, al_69, al_7, al_70, al_71, al_72, al_73, al_9, cat_i, cat_l, cat_r, cat_u, gf_0_6_1, gf_0_6_15, gf_0_6_26, gf_0_6_8, gf_1_0_25, pcl_0, pcl_1, pcl_100, pcl_101, pcl_102, pcl_103, pcl_104, pcl_105, pcl_106, pcl_107, pcl_108, pcl_109, pcl_110, pcl_111, pcl_112, pcl_15, pcl_22, pcl_25, pcl_26, pcl_33, pcl_44, pcl_50, pcl_59, pcl_8, pft_0_6, rOK_i, rOK_z, v_aload_0, v_bipush_6, v_getfield, v_goto, v_iadd, v_ic_eq, v_ic_ge, v_ic_lt, v_iconst_0, v_iconst_1, v_if_eq, v_if_ne, v_iinc_6, v_iload_1, v_iload_2, v_iload_3, v_iload_4, v_iload_5, v_iload_6, v_invs, v_invv, v_ior, v_ireturn, v_ishl, v_istore_4, v_istore_5, v_istore_6, v_isub, vcS_2_1, vcS_2_2, vcV_3_1, vcV_4_1, vgf_i, vgf_r, vgf_s, vc_d, rr_0, rr_1, csT_h, csT_t, csT_n, bI_0, bI_1, bI_z, bT, List.mem_cons, List.not_mem_nil, List.length_cons, List.length_nil, ite_not, ↓reduceIte, true_and, and_true, not_true_eq_false, not_false_eq_true, false_or, or_false, or_true, true_or, Nat.reduceAdd, Nat.reduceEqDiff, Nat.reduceBEq, Nat.reduceLeDiff, Nat.reduceLT, Nat.reduceSub, Int.reduceAdd, Int.reduceLE, Int.reduceLT, Int.reduceToNat, Int.reduceNeg, Int.reduceNatCast', reduceCtorEq, Int32.reduceOfInt, Int32.reduceOfNat, Int32.reduceToNatClampNeg, Int32.reduceToInt, i10, i01, hn1, c1, heq, hga]
          have := hk N1 hJ
          rw [if_pos hga, hga] at this
          exact this
        · rw [if_neg hga] at hk
          refine goV (n := 80) [(109, pf_X6_isIn), (21, pf_X2_crosses)] [32] (T_cons (s_X6_isIn (by omega)) (T_cons (s_X2_crosses (by omega)) T_nil)) ?_
          simp only [dX2_greatest_0, dX2_greatest_1, dX2_greatest_2, dX2_greatest_5, dX2_greatest_7, dX2_greatest_8, dX2_greatest_10, dX2_greatest_13, dX2_greatest_15, dX2_greatest_16, dX2_greatest_17, dX2_greatest_18, dX2_greatest_21, dX2_greatest_24, dX2_greatest_25, dX2_greatest_26, dX2_greatest_27, dX2_greatest_29, dX2_greatest_30, dX2_greatest_32, dX2_greatest_34, dX2_greatest_35, dX2_greatest_38, dX2_greatest_41, dX2_greatest_44, dX2_greatest_46, dX2_greatest_48, dX2_greatest_51, dX2_greatest_52, dX2_greatest_54, dX2_greatest_57, dX2_greatest_60, dX2_greatest_61, dX2_greatest_63, dX2_greatest_64, dX2_greatest_67, dX2_greatest_70, dX2_greatest_71, dX2_greatest_72, dX2_greatest_73, dX2_greatest_75, dX2_greatest_76, dX2_greatest_77, dX2_greatest_79, dX2_greatest_80, dX2_greatest_81, dX2_greatest_82, dX2_greatest_85, dX2_greatest_87, dX2_greatest_90, dX2_greatest_93, dX2_greatest_95, cr_2_49, cr_2_72, cr_2_75, cr_2_83, fr_2_12, fr_2_86, al_10, al_11, al_12, al_13, al_14, al_16, al_17, al_18, al_19, al_2, al_20, al_21, al_23, al_24, al_27, al_28, al_29, al_3, al_30, al_31, al_32, al_34, al_36, al_37, al_38, al_39, al_4, al_40, al_41, al_42, al_43, al_45, al_46, al_47, al_48, al_49, al_5, al_52, al_53, al_54, al_55, al_56, al_57, al_58, al_6, al_60, al_61, al_62, al_63, al_64, al_65, al_66, al_67, al_69, al_7, al_70, al_71, al_72, al_73, al_9, cat_i, cat_l, cat_r, cat_u, gf_0_6_1, gf_0_6_15, gf_0_6_26, gf_0_6_8, gf_1_0_25, pcl_0, pcl_1, pcl_100, pcl_101, pcl_102, pcl_103, pcl_104, pcl_105, pcl_106, pcl_107, pcl_108, pcl_109, pcl_110, pcl_111, pcl_112, pcl_15, pcl_22, pcl_25, pcl_26, pcl_33, pcl_44, pcl_50, pcl_59, pcl_8, pft_0_6, rOK_i, rOK_z, v_aload_0, v_bipush_6, v_getfield, v_goto, v_iadd, v_ic_eq, v_ic_ge, v_ic_lt, v_iconst_0, v_iconst_1, v_if_eq, v_if_ne, v_iinc_6, v_iload_1, v_iload_2, v_iload_3, v_iload_4, v_iload_5, v_iload_6, v_invs, v_invv, v_ior, v_ireturn, v_ishl, v_istore_4, v_istore_5, v_istore_6, v_isub, vcS_2_1, vcS_2_2, vcV_3_1, vcV_4_1, vgf_i, vgf_r, vgf_s, vc_d, rr_0, rr_1, csT_h, csT_t, csT_n, bI_0, bI_1, bI_z, bT, List.mem_cons, List.not_mem_nil, List.length_cons, List.length_nil, ite_not, ↓reduceIte, true_and, and_true, not_true_eq_false, not_false_eq_true, false_or, or_false, or_true, true_or, Nat.reduceAdd, Nat.reduceEqDiff, Nat.reduceBEq, Nat.reduceLeDiff, Nat.reduceLT, Nat.reduceSub, Int.reduceAdd, Int.reduceLE, Int.reduceLT, Int.reduceToNat, Int.reduceNeg, Int.reduceNatCast', reduceCtorEq, Int32.reduceOfInt, Int32.reduceOfNat, Int32.reduceToNatClampNeg, Int32.reduceToInt, i10, i01, pe_X6_isIn, pe_X2_crosses, hn1, c1, heq, hga, c3, ct1, ct2, ct3, nI_1, isin0 (show c < 2 ^ 31 by omega) (show i < 31 by omega), hX1, Classical.not_not]
          by_cases hb : c.testBit i = false
          · rw [if_pos hb]
            refine ⟨has26 hq hn1 (by omega), fun N2 h2 hr2 => ?_⟩
            have hJ2 : QJ t N N2 := hJ.tr (q_step (by omega) h2)
            by_cases hx : (QX N i (N (36 + t))).1 < 12
            · rw [if_pos hx]
              rw [show (if c.testBit i = false ∧ ¬ (QX N i (N (36 + t))).1 < 12 then some (gtF (QX N) q n (c ||| 2 ^ i) g (QX N i (N (36 + t))).2.2) else none) = none from if_neg (fun z => z.2 hx)] at hk
              exact ihm (i + 1) g N2 (by omega) hg hJ2 hk
            · rw [if_neg hx]
              rw [show (if c.testBit i = false ∧ ¬ (QX N i (N (36 + t))).1 < 12 then some (gtF (QX N) q n (c ||| 2 ^ i) g (QX N i (N (36 + t))).2.2) else none) = some (gtF (QX N) q n (c ||| 2 ^ i) g (QX N i (N (36 + t))).2.2) from if_pos ⟨hb, hx⟩] at hk
              simp only [sh1 i (by omega), fa_or]
              have hc2 : c ||| 2 ^ i < 64 := Nat.or_lt_two_pow (n := 6) hc (Nat.pow_lt_pow_right (by decide) (by omega))
              refine ih (t + 1) (by omega) d (by omega) N2 _ (c ||| 2 ^ i) g (by rw [hJ2.n]; exact hn) hc2 hg (fun N3 h3 => ?_)
              have e : gtF (QX N2) q n (c ||| 2 ^ i) g (N2 (36 + (t + 1))) = gtF (QX N) q n (c ||| 2 ^ i) g (QX N i (N (36 + t))).2.2 := by
                rw [hJ2.X]
                exact gtF_congr (QX_c N) n _ _ _ _ (fun j hj => by rw [show 36 + (t + 1) = 37 + t by omega]; exact hr2 j hj)
              rw [e]
              simp only [dX2_greatest_0, dX2_greatest_1, dX2_greatest_2, dX2_greatest_5, dX2_greatest_7, dX2_greatest_8, dX2_greatest_10, dX2_greatest_13, dX2_greatest_15, dX2_greatest_16, dX2_greatest_17, dX2_greatest_18, dX2_greatest_21, dX2_greatest_24, dX2_greatest_25, dX2_greatest_26, dX2_greatest_27, dX2_greatest_29, dX2_greatest_30, dX2_greatest_32, dX2_greatest_34, dX2_greatest_35, dX2_greatest_38, dX2_greatest_41, dX2_greatest_44, dX2_greatest_46, dX2_greatest_48, dX2_greatest_51, dX2_greatest_52, dX2_greatest_54, dX2_greatest_57, dX2_greatest_60, dX2_greatest_61, dX2_greatest_63, dX2_greatest_64, dX2_greatest_67, dX2_greatest_70, dX2_greatest_71, dX2_greatest_72, dX2_greatest_73, dX2_greatest_75, dX2_greatest_76, dX2_greatest_77, dX2_greatest_79, dX2_greatest_80, dX2_greatest_81, dX2_greatest_82, dX2_greatest_85, dX2_greatest_87, dX2_greatest_90, dX2_greatest_93, dX2_greatest_95, cr_2_49, cr_2_72, cr_2_75, cr_2_83, fr_2_12, fr_2_86, al_10, al_11, al_12, al_13, al_14, al_16, al_17, al_18, al_19, al_2, al_20, al_21, al_23, al_24, al_27, al_28, al_29, al_3, al_30, al_31, al_32, al_34, al_36, al_37, al_38, al_39, al_4, al_40, al_41, al_42, al_43, al_45, al_46, al_47, al_48, al_49, al_5, al_52, al_53, al_54, al_55, al_56, al_57, al_58, al_6, al_60, al_61, al_62, al_63, al_64, al_65, al_66, al_67, al_69, al_7, al_70, al_71, al_72, al_73, al_9, cat_i, cat_l, cat_r, cat_u, gf_0_6_1, gf_0_6_15, gf_0_6_26, gf_0_6_8, gf_1_0_25, pcl_0, pcl_1, pcl_100, pcl_101, pcl_102, pcl_103, pcl_104, pcl_105, pcl_106, pcl_107, pcl_108, pcl_109, pcl_110, pcl_111, pcl_112, pcl_15, pcl_22, pcl_25, pcl_26, pcl_33, pcl_44, pcl_50, pcl_59, pcl_8, pft_0_6, rOK_i, rOK_z, v_aload_0, v_bipush_6, v_getfield, v_goto, v_iadd, v_ic_eq, v_ic_ge, v_ic_lt, v_iconst_0, v_iconst_1, v_if_eq, v_if_ne, v_iinc_6, v_iload_1, v_iload_2, v_iload_3, v_iload_4, v_iload_5, v_iload_6, v_invs, v_invv, v_ior, v_ireturn, v_ishl, v_istore_4, v_istore_5, v_istore_6, v_isub, vcS_2_1, vcS_2_2, vcV_3_1, vcV_4_1, vgf_i, vgf_r, vgf_s, vc_d, rr_0, rr_1, csT_h, csT_t, csT_n, bI_0, bI_1, bI_z, bT, List.mem_cons, List.not_mem_nil, List.length_cons, List.length_nil, ite_not, ↓reduceIte, true_and, and_true, not_true_eq_false, not_false_eq_true, false_or, or_false, or_true, true_or, Nat.reduceAdd, Nat.reduceEqDiff, Nat.reduceBEq, Nat.reduceLeDiff, Nat.reduceLT, Nat.reduceSub, Int.reduceAdd, Int.reduceLE, Int.reduceLT, Int.reduceToNat, Int.reduceNeg, Int.reduceNatCast', reduceCtorEq, Int32.reduceOfInt, Int32.reduceOfNat, Int32.reduceToNatClampNeg, Int32.reduceToInt, i10, i01, nI_1]
              exact ihm (i + 1) _ N3 (by omega) (gt_lt hq _ _ _ _ hc2 hg) (hJ2.tr h3.up) hk
          · rw [if_neg hb]
            rw [show (if c.testBit i = false ∧ ¬ (QX N i (N (36 + t))).1 < 12 then some (gtF (QX N) q n (c ||| 2 ^ i) g (QX N i (N (36 + t))).2.2) else none) = none from if_neg (fun z => hb z.1)] at hk
            exact ihm (i + 1) g N1 (by omega) hg hJ hk
    refine enterV (n := 80) [(26, pf_X2_greater)] [32] mI_25 (by decide) (Nat.le_of_ble_eq_true rfl) (T_cons (s_X2_greater (by omega)) T_nil) ?_
    rw [show lent 7 ([.ref 25, .int (nI c), .int (nI s), .int (nI t)] : List Value) = [.ref 25, .int (nI c), .int (nI s), .int (nI t), .retAddr 0, .retAddr 0, .retAddr 0] from rfl]
    simp only [dX2_greatest_0, dX2_greatest_1, dX2_greatest_2, dX2_greatest_5, dX2_greatest_7, dX2_greatest_8, dX2_greatest_10, dX2_greatest_13, dX2_greatest_15, dX2_greatest_16, dX2_greatest_17, dX2_greatest_18, dX2_greatest_21, dX2_greatest_24, dX2_greatest_25, dX2_greatest_26, dX2_greatest_27, dX2_greatest_29, dX2_greatest_30, dX2_greatest_32, dX2_greatest_34, dX2_greatest_35, dX2_greatest_38, dX2_greatest_41, dX2_greatest_44, dX2_greatest_46, dX2_greatest_48, dX2_greatest_51, dX2_greatest_52, dX2_greatest_54, dX2_greatest_57, dX2_greatest_60, dX2_greatest_61, dX2_greatest_63, dX2_greatest_64, dX2_greatest_67, dX2_greatest_70, dX2_greatest_71, dX2_greatest_72, dX2_greatest_73, dX2_greatest_75, dX2_greatest_76, dX2_greatest_77, dX2_greatest_79, dX2_greatest_80, dX2_greatest_81, dX2_greatest_82, dX2_greatest_85, dX2_greatest_87, dX2_greatest_90, dX2_greatest_93, dX2_greatest_95, cr_2_49, cr_2_72, cr_2_75, cr_2_83, fr_2_12, fr_2_86, al_10, al_11, al_12, al_13, al_14, al_16, al_17, al_18, al_19, al_2, al_20, al_21, al_23, al_24, al_27, al_28, al_29, al_3, al_30, al_31, al_32, al_34, al_36, al_37, al_38, al_39, al_4, al_40, al_41, al_42, al_43, al_45, al_46, al_47, al_48, al_49, al_5, al_52, al_53, al_54, al_55, al_56, al_57, al_58, al_6, al_60, al_61, al_62, al_63, al_64, al_65, al_66, al_67, al_69, al_7, al_70, al_71, al_72, al_73, al_9, cat_i, cat_l, cat_r, cat_u, gf_0_6_1, gf_0_6_15, gf_0_6_26, gf_0_6_8, gf_1_0_25, pcl_0, pcl_1, pcl_100, pcl_101, pcl_102, pcl_103, pcl_104, pcl_105, pcl_106, pcl_107, pcl_108, pcl_109, pcl_110, pcl_111, pcl_112, pcl_15, pcl_22, pcl_25, pcl_26, pcl_33, pcl_44, pcl_50, pcl_59, pcl_8, pft_0_6, rOK_i, rOK_z, v_aload_0, v_bipush_6, v_getfield, v_goto, v_iadd, v_ic_eq, v_ic_ge, v_ic_lt, v_iconst_0, v_iconst_1, v_if_eq, v_if_ne, v_iinc_6, v_iload_1, v_iload_2, v_iload_3, v_iload_4, v_iload_5, v_iload_6, v_invs, v_invv, v_ior, v_ireturn, v_ishl, v_istore_4, v_istore_5, v_istore_6, v_isub, vcS_2_1, vcS_2_2, vcV_3_1, vcV_4_1, vgf_i, vgf_r, vgf_s, vc_d, rr_0, rr_1, csT_h, csT_t, csT_n, bI_0, bI_1, bI_z, bT, List.mem_cons, List.not_mem_nil, List.length_cons, List.length_nil, ite_not, ↓reduceIte, true_and, and_true, not_true_eq_false, not_false_eq_true, false_or, or_false, or_true, true_or, Nat.reduceAdd, Nat.reduceEqDiff, Nat.reduceBEq, Nat.reduceLeDiff, Nat.reduceLT, Nat.reduceSub, Int.reduceAdd, Int.reduceLE, Int.reduceLT, Int.reduceToNat, Int.reduceNeg, Int.reduceNatCast', reduceCtorEq, Int32.reduceOfInt, Int32.reduceOfNat, Int32.reduceToNatClampNeg, Int32.reduceToInt, i10, i01, pe_X2_greater, clt, hn, hall, nI_clamp (show c < 2 ^ 31 by omega), nI_clamp (show s < 2 ^ 31 by omega)]
    refine ⟨⟨c, s, hc, hs, rfl, rfl⟩, ?_⟩
    rw [gtF] at h
    exact lp q 0 _ N (by omega) (gr_lt hc hs) QJ.rf h
/-- the queue has begun: its bridge is the bridge, its first row the planks -/
def QB (M N : Mem) : Prop := (∀ p, p < 25 ∨ 43 < p → N p = M p) ∧ N 26 6 = M 1 6 ∧ QX N = (fun i r => if i < 6 then xwr M i r else QX N i r) ∧ ∀ j, j < 12 → N 36 j = M 2 j
def pf_X2_begin : PF := fun args M k => match args with
  | [.ref o, .ref b] => (o = 25 ∧ b = 1) ∧ (∀ N, QB M N → k (.int 0) N)
  | _ => False
theorem pe_X2_begin {o : Nat} {b : Nat} {M : Mem} {k : Value → Mem → Prop} : pf_X2_begin [.ref o, .ref b] M k = ((o = 25 ∧ b = 1) ∧ (∀ N, QB M N → k (.int 0) N)) := rfl
set_option maxRecDepth 100000 in
set_option maxHeartbeats 4000000 in
theorem c_X2_begin {d : Nat} (hd : 2 ≤ d) {o : Nat} {b : Nat} {M : Mem} {k : Value → Mem → Prop} (h : (o = 25 ∧ b = 1) ∧ (∀ N, QB M N → k (.int 0) N)) : CallP d 20 [.ref o, .ref b] M k := by
  obtain ⟨hp, h⟩ := h
  obtain ⟨d, rfl⟩ : ∃ d', d = d' + 1 := ⟨d - 1, by omega⟩
  obtain ⟨rfl, rfl⟩ := hp
  refine enterV (n := 80) [(1, pf_X0_become)] [] mI_20 (by decide) (Nat.le_of_ble_eq_true rfl) (T_cons (s_X0_become (by omega)) T_nil) ?_
  rw [show lent 2 ([.ref 25, .ref 1] : List Value) = [.ref 25, .ref 1] from rfl]
  simp only [dX2_begin_0, dX2_begin_1, dX2_begin_4, dX2_begin_5, dX2_begin_8, dX2_begin_9, dX2_begin_12, dX2_begin_15, dX2_begin_16, dX2_begin_17, dX2_begin_20, dX2_begin_21, dX2_begin_22, dX2_begin_23, dX2_begin_25, dX2_begin_28, cr_2_53, cr_2_59, fr_2_12, fr_2_27, fr_2_56, al_10, al_11, al_12, al_13, al_14, al_16, al_17, al_18, al_19, al_2, al_20, al_21, al_23, al_24, al_27, al_28, al_29, al_3, al_30, al_31, al_32, al_34, al_36, al_37, al_38, al_39, al_4, al_40, al_41, al_42, al_43, al_45, al_46, al_47, al_48, al_49, al_5, al_52, al_53, al_54, al_55, al_56, al_57, al_58, al_6, al_60, al_61, al_62, al_63, al_64, al_65, al_66, al_67, al_69, al_7, al_70, al_71, al_72, al_73, al_9, gf_0_0_1, gf_0_0_15, gf_0_0_26, gf_0_0_8, gf_1_0_25, gf_1_2_25, pcl_0, pcl_1, pcl_100, pcl_101, pcl_102, pcl_103, pcl_104, pcl_105, pcl_106, pcl_107, pcl_108, pcl_109, pcl_110, pcl_111, pcl_112, pcl_15, pcl_22, pcl_25, pcl_26, pcl_33, pcl_44, pcl_50, pcl_59, pcl_8, ra_35, ra_51, ra_68, v_aaload, v_aload_0, v_aload_1, v_bipush_12, v_getfield, v_iconst_0, v_invs, v_invv, v_return, vaa_s, vcS_cp, vcV_2_0, vgf_i, vgf_r, vgf_s, vc_d, rr_0, rr_1, csT_h, csT_t, csT_n, bI_0, bI_1, bI_z, bT, List.mem_cons, List.not_mem_nil, List.length_cons, List.length_nil, ite_not, ↓reduceIte, true_and, and_true, not_true_eq_false, not_false_eq_true, false_or, or_false, or_true, true_or, Nat.reduceAdd, Nat.reduceEqDiff, Nat.reduceBEq, Nat.reduceLeDiff, Nat.reduceLT, Nat.reduceSub, Int.reduceAdd, Int.reduceLE, Int.reduceLT, Int.reduceToNat, Int.reduceNeg, Int.reduceNatCast', reduceCtorEq, Int32.reduceOfInt, Int32.reduceOfNat, Int32.reduceToNatClampNeg, Int32.reduceToInt, i10, i01, pe_X0_become, cpy0]
  refine h _ ⟨fun p hp => ?_, ?_, ?_, fun j hj => ?_⟩
  · rw [mrow_n (bq (by omega))]
    unfold becM
    rw [mset_n (bq (by omega)), mset_n (bq (by omega)), mset_n (bq (by omega)), mset_n (bq (by omega)), mrow_n (bq (by omega)), mrow_n (bq (by omega)), mrow_n (bq (by omega)), mrow_n (bq (by omega)), mrow_n (bq (by omega)), mrow_n (bq (by omega))]
  · rfl
  · funext i r
    by_cases hi : i < 6
    · rw [if_pos hi]
      unfold QX xq xwr
      have e1 : mrow (becM M 26 1) 36 (cpN 12 (becM M 26 1 27) (becM M 26 1 36)) 28 i = M 3 i := by
        rw [mrow_n (by decide)]
        exact cpN_lt hi
      have e2 : mrow (becM M 26 1) 36 (cpN 12 (becM M 26 1 27) (becM M 26 1 36)) 30 i = M 5 i := by
        rw [mrow_n (by decide)]
        exact cpN_lt hi
      have e3 : mrow (becM M 26 1) 36 (cpN 12 (becM M 26 1 27) (becM M 26 1 36)) 29 i = M 4 i := by
        rw [mrow_n (by decide)]
        exact cpN_lt hi
      have e4 : mrow (becM M 26 1) 36 (cpN 12 (becM M 26 1 27) (becM M 26 1 36)) 26 7 = M 1 7 := rfl
      rw [e1, e2, e3, e4]
    · rw [if_neg hi]
  · rw [mrow_s, cpN_lt hj]
    exact cpN_lt hj
theorem s_X2_begin {d : Nat} (hd : 2 ≤ d) : Snd d 20 pf_X2_begin := by
  intro args M k h
  unfold pf_X2_begin at h
  split at h
  · exact c_X2_begin hd h
  · exact h.elim
