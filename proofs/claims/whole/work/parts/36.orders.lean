/-! X: orders -/
abbrev XF : Type := Nat → (Nat → Int32) → Nat × Int32 × (Nat → Int32)
def XC (X : XF) : Prop := ∀ i r s, (∀ j, j < 12 → r j = s j) → (X i r).1 = (X i s).1 ∧ ∀ j, j < 12 → (X i r).2.2 j = (X i s).2.2 j
def QX (M : Mem) : XF := fun i r => xq M i r
theorem QX_c (M : Mem) : XC (QX M) := fun i r s h => by
  have := goF_congr (kd := M 28 i) (bs := brs (M 28 i) (M 30 i) (M 26 7)) 12 0 (M 29 i) r s (by decide) h
  exact ⟨this.1, this.2.2⟩
/-- only the walk, the places and the rows behind t change -/
def QJ (t : Nat) (N N' : Mem) : Prop := ∀ p, p ≠ 33 → p ≠ 43 → (p ≤ 36 + t ∨ 42 < p) → N' p = N p
theorem QJ.rf {t : Nat} {N : Mem} : QJ t N N := fun _ _ _ _ => rfl
theorem QJ.tr {t : Nat} {N N1 N2 : Mem} (h1 : QJ t N N1) (h2 : QJ t N1 N2) : QJ t N N2 := fun p a b c => (h2 p a b c).trans (h1 p a b c)
theorem QJ.up {t : Nat} {N N1 : Mem} (h : QJ (t + 1) N N1) : QJ t N N1 := fun p a b c => h p a b (by omega)
theorem QJ.X {t : Nat} {N N1 : Mem} (h : QJ t N N1) : QX N1 = QX N := by
  funext i r
  unfold QX xq
  rw [h 28 (by decide) (by decide) (by omega), h 30 (by decide) (by decide) (by omega), h 26 (by decide) (by decide) (by omega), h 29 (by decide) (by decide) (by omega)]
theorem QJ.at {t : Nat} {N N1 : Mem} (h : QJ t N N1) (ht : t ≤ 6) : N1 (36 + t) = N (36 + t) := h _ (by omega) (by omega) (by omega)
theorem QJ.n {t : Nat} {N N1 : Mem} (h : QJ t N N1) : N1 26 = N 26 := h 26 (by decide) (by decide) (by omega)
def clr (b i : Nat) : Nat := if b.testBit i then b - 2 ^ i else b
theorem clr_I : ∀ b, b < 64 → ∀ i, i < 6 → nI b &&& ((1 : Int32) <<< (nI i &&& 31) ^^^ (-1)) = nI (clr b i) := by decide +kernel
theorem clr_lt : ∀ b i : Nat, clr b i ≤ b := by
  intro b i
  unfold clr
  split
  · exact Nat.sub_le _ _
  · exact Nat.le_refl _
/-- a sum over walkers -/
def acF (f : Nat → Nat) : Nat → Nat → Nat → Nat
  | 0, _, s => s
  | n + 1, i, s => acF f n (i + 1) (s + f i)
def csF (X : XF) : Nat → Nat → (Nat → Int32) → Nat
  | 0, _, _ => 1
  | n + 1, left, r => if left = 0 then 1 else acF (fun w => if left.testBit w = true ∧ ¬ (X w r).1 < 12 then csF X n (clr left w) (X w r).2.2 else 0) 6 0 0
theorem acF_congr {f g : Nat → Nat} (h : ∀ w, w < 6 → f w = g w) : ∀ (n i s : Nat), i + n ≤ 6 → acF f n i s = acF g n i s := by
  intro n
  induction n with
  | zero => intro i s _; rfl
  | succ n ih =>
    intro i s hi
    rw [acF, acF, h i (by omega)]
    exact ih (i + 1) _ (by omega)
theorem csF_congr {X : XF} (hX : XC X) : ∀ (n left : Nat) (r s : Nat → Int32), (∀ j, j < 12 → r j = s j) → csF X n left r = csF X n left s := by
  intro n
  induction n with
  | zero => intro left r s _; rfl
  | succ n ih =>
    intro left r s h
    rw [csF, csF]
    split
    · rfl
    · refine acF_congr (fun w _ => ?_) 6 0 0 (by decide)
      have hx := hX w r s h
      rw [hx.1, ih (clr left w) _ _ hx.2]
theorem bit_lt {left q i : Nat} (hl : left < 2 ^ q) (hb : left.testBit i = true) : i < q := by
  rcases Nat.lt_or_ge i q with z | z
  · exact z
  · have := Nat.testBit_lt_two_pow (Nat.lt_of_lt_of_le hl (Nat.pow_le_pow_right (n := 2) (by decide) z))
    rw [hb] at this
    cases this
theorem lt64 {b q : Nat} (hq : q ≤ 6) (hb : b < 2 ^ q) : b < 64 := Nat.lt_of_lt_of_le hb (Nat.pow_le_pow_right (n := 2) (by decide) hq)
theorem has26 {M : Mem} {n i : Nat} (hn : n ≤ 6) (he : M 26 6 = nI n) (hi : i < n) : hasW M 26 (nI i) :=
  ⟨nI_pos (by omega), by rw [he]; exact nI_ge hi (by omega), nI_ge (b := 6) (by omega) (by decide)⟩
theorem q_step {t : Nat} {N N1 : Mem} (ht : t < 6) (h : ∀ p, p ≠ 33 → p ≠ 37 + t → N1 p = N p) : QJ t N N1 := fun p a b c => h p a (by omega)
set_option maxRecDepth 100000 in
set_option maxHeartbeats 4000000 in
theorem lp_countSafe : ∀ (n t : Nat), t + n = 6 → ∀ (d : Nat), 4 + n ≤ d → ∀ (N : Mem) (k : Value → Mem → Prop) (left q : Nat), q ≤ 6 → N 26 6 = nI q → left < 2 ^ q → (∀ N', QJ t N N' → k (.int (nI (csF (QX N) n left (N (36 + t))))) N') → CallP d 23 [.ref 25, .int (nI left), .int (nI t)] N k := by
  intro n
  induction n with
  | zero =>
    intro t ht d hd N k left q hq hn hl h
    have e6 : t = 6 := by omega
    subst e6
    obtain ⟨d, rfl⟩ : ∃ d', d = d' + 1 := ⟨d - 1, by omega⟩
    refine enterV (n := 80) [] [17] mI_23 (by decide) (Nat.le_of_ble_eq_true rfl) T_nil ?_
    rw [show lent 5 ([.ref 25, .int (nI left), .int (nI 6)] : List Value) = [.ref 25, .int (nI left), .int (nI 6), .retAddr 0, .retAddr 0] from rfl]
    simp only [dX2_countSafe_0, dX2_countSafe_1, dX2_countSafe_4, dX2_countSafe_5, dX2_countSafe_7, dX2_countSafe_10, dX2_countSafe_11, dX2_countSafe_12, dX2_countSafe_13, dX2_countSafe_14, dX2_countSafe_15, dX2_countSafe_17, dX2_countSafe_19, dX2_countSafe_21, dX2_countSafe_24, dX2_countSafe_25, dX2_countSafe_27, dX2_countSafe_30, dX2_countSafe_33, dX2_countSafe_34, dX2_countSafe_36, dX2_countSafe_37, dX2_countSafe_40, dX2_countSafe_43, dX2_countSafe_44, dX2_countSafe_45, dX2_countSafe_46, dX2_countSafe_47, dX2_countSafe_49, dX2_countSafe_50, dX2_countSafe_51, dX2_countSafe_52, dX2_countSafe_53, dX2_countSafe_54, dX2_countSafe_55, dX2_countSafe_56, dX2_countSafe_59, dX2_countSafe_60, dX2_countSafe_61, dX2_countSafe_64, dX2_countSafe_67, dX2_countSafe_68, cr_2_42, cr_2_72, cr_2_75, al_10, al_11, al_12, al_13, al_14, al_16, al_17, al_18, al_19, al_2, al_20, al_21, al_23, al_24, al_27, al_28, al_29, al_3, al_30, al_31, al_32, al_34, al_36, al_37, al_38, al_39, al_4, al_40, al_41, al_42, al_43, al_45, al_46, al_47, al_48, al_49, al_5, al_52, al_53, al_54, al_55, al_56, al_57, al_58, al_6, al_60, al_61, al_62, al_63, al_64, al_65, al_66, al_67, al_69, al_7, al_70, al_71, al_72, al_73, al_9, cat_i, cat_l, cat_r, cat_u, pcl_0, pcl_1, pcl_100, pcl_101, pcl_102, pcl_103, pcl_104, pcl_105, pcl_106, pcl_107, pcl_108, pcl_109, pcl_110, pcl_111, pcl_112, pcl_15, pcl_22, pcl_25, pcl_26, pcl_33, pcl_44, pcl_50, pcl_59, pcl_8, rOK_i, rOK_z, v_aload_0, v_bipush_6, v_goto, v_iadd, v_iand, v_ic_ge, v_ic_lt, v_iconst_0, v_iconst_1, v_iconst_m1, v_if_eq, v_iinc_4, v_iload_1, v_iload_2, v_iload_3, v_iload_4, v_invs, v_invv, v_ireturn, v_ishl, v_istore_3, v_istore_4, v_ixor, vcS_2_2, vcV_3_1, vc_d, rr_0, rr_1, csT_h, csT_t, csT_n, bI_0, bI_1, bI_z, bT, List.mem_cons, List.not_mem_nil, List.length_cons, List.length_nil, ite_not, ↓reduceIte, true_and, and_true, not_true_eq_false, not_false_eq_true, false_or, or_false, or_true, true_or, Nat.reduceAdd, Nat.reduceEqDiff, Nat.reduceBEq, Nat.reduceLeDiff, Nat.reduceLT, Nat.reduceSub, Int.reduceAdd, Int.reduceLE, Int.reduceLT, Int.reduceToNat, Int.reduceNeg, Int.reduceNatCast', reduceCtorEq, Int32.reduceOfInt, Int32.reduceOfNat, Int32.reduceToNatClampNeg, Int32.reduceToInt, i10, i01, show (nI 6 < 6) = False from by decide]
    have := h N QJ.rf
    split <;> exact this
  | succ n ih =>
    intro t ht d hd N k left q hq hn hl h
    obtain ⟨d, rfl⟩ : ∃ d', d = d' + 1 := ⟨d - 1, by omega⟩
    have h64 := lt64 hq hl
    have clt : nI t < 6 := nI_lt (b := 6) (by omega) (by decide)
    have ct1 : ¬ nI t < 0 := nI_pos (by omega)
    have ct2 : ¬ (6 : Int32) ≤ nI t := nI_ge (b := 6) (by omega) (by decide)
    have ct3 : (nI t).toNatClampNeg = t := nI_clamp (by omega)
    have lp : ∀ (m i c : Nat) (N1 : Mem), i + m = 6 → QJ t N N1 → (∀ N', QJ t N N' → k (.int (nI (acF (fun w => if left.testBit w = true ∧ ¬ (QX N w (N (36 + t))).1 < 12 then csF (QX N) n (clr left w) (QX N w (N (36 + t))).2.2 else 0) m i c))) N') → WP (2, yX2_countSafe, cX2_countSafe, 5, (some .int)) (d + 1) k 17 [.ref 25, .int (nI left), .int (nI t), .int (nI c), .int (nI i)] [] N1 := by
      intro m
      induction m with
      | zero =>
        intro i c N1 hi hJ hk
        have e6 : i = 6 := by omega
        rw [e6]
        refine goV (n := 80) [] [17] T_nil ?_
        simp only [dX2_countSafe_0, dX2_countSafe_1, dX2_countSafe_4, dX2_countSafe_5, dX2_countSafe_7, dX2_countSafe_10, dX2_countSafe_11, dX2_countSafe_12, dX2_countSafe_13, dX2_countSafe_14, dX2_countSafe_15, dX2_countSafe_17, dX2_countSafe_19, dX2_countSafe_21, dX2_countSafe_24, dX2_countSafe_25, dX2_countSafe_27, dX2_countSafe_30, dX2_countSafe_33, dX2_countSafe_34, dX2_countSafe_36, dX2_countSafe_37, dX2_countSafe_40, dX2_countSafe_43, dX2_countSafe_44, dX2_countSafe_45, dX2_countSafe_46, dX2_countSafe_47, dX2_countSafe_49, dX2_countSafe_50, dX2_countSafe_51, dX2_countSafe_52, dX2_countSafe_53, dX2_countSafe_54, dX2_countSafe_55, dX2_countSafe_56, dX2_countSafe_59, dX2_countSafe_60, dX2_countSafe_61, dX2_countSafe_64, dX2_countSafe_67, dX2_countSafe_68, cr_2_42, cr_2_72, cr_2_75, al_10, al_11, al_12, al_13, al_14, al_16, al_17, al_18, al_19, al_2, al_20, al_21, al_23, al_24, al_27, al_28, al_29, al_3, al_30, al_31, al_32, al_34, al_36, al_37, al_38, al_39, al_4, al_40, al_41, al_42, al_43, al_45, al_46, al_47, al_48, al_49, al_5, al_52, al_53, al_54, al_55, al_56, al_57, al_58, al_6, al_60, al_61, al_62, al_63, al_64, al_65, al_66, al_67, al_69, al_7, al_70, al_71, al_72, al_73, al_9, cat_i, cat_l, cat_r, cat_u, pcl_0, pcl_1, pcl_100, pcl_101, pcl_102, pcl_103, pcl_104, pcl_105, pcl_106, pcl_107, pcl_108, pcl_109, pcl_110, pcl_111, pcl_112, pcl_15, pcl_22, pcl_25, pcl_26, pcl_33, pcl_44, pcl_50, pcl_59, pcl_8, rOK_i, rOK_z, v_aload_0, v_bipush_6, v_goto, v_iadd, v_iand, v_ic_ge, v_ic_lt, v_iconst_0, v_iconst_1, v_iconst_m1, v_if_eq, v_iinc_4, v_iload_1, v_iload_2, v_iload_3, v_iload_4, v_invs, v_invv, v_ireturn, v_ishl, v_istore_3, v_istore_4, v_ixor, vcS_2_2, vcV_3_1, vc_d, rr_0, rr_1, csT_h, csT_t, csT_n, bI_0, bI_1, bI_z, bT, List.mem_cons, List.not_mem_nil, List.length_cons, List.length_nil, ite_not, ↓reduceIte, true_and, and_true, not_true_eq_false, not_false_eq_true, false_or, or_false, or_true, true_or, Nat.reduceAdd, Nat.reduceEqDiff, Nat.reduceBEq, Nat.reduceLeDiff, Nat.reduceLT, Nat.reduceSub, Int.reduceAdd, Int.reduceLE, Int.reduceLT, Int.reduceToNat, Int.reduceNeg, Int.reduceNatCast', reduceCtorEq, Int32.reduceOfInt, Int32.reduceOfNat, Int32.reduceToNatClampNeg, Int32.reduceToInt, i10, i01, show ((6 : Int32) ≤ nI 6) = True from by decide]
        have := hk N1 hJ
        rw [acF] at this
        exact this
      | succ m ihm =>
        intro i c N1 hi hJ hk
        have c1 : ¬ (6 : Int32) ≤ nI i := nI_ge (b := 6) (by omega) (by decide)
        have c3 : (nI i).toNatClampNeg = i := nI_clamp (by omega)
        have hn1 : N1 26 6 = nI q := by rw [hJ.n]; exact hn
        have hX1 : xq N1 i (N1 (36 + t)) = QX N i (N (36 + t)) := by
          rw [hJ.at (by omega)]
          exact congrFun (congrFun hJ.X i) (N (36 + t))
        refine goV (n := 80) [(109, pf_X6_isIn), (21, pf_X2_crosses)] [17] (T_cons (s_X6_isIn (by omega)) (T_cons (s_X2_crosses (by omega)) T_nil)) ?_
        simp only [dX2_countSafe_0, dX2_countSafe_1, dX2_countSafe_4, dX2_countSafe_5, dX2_countSafe_7, dX2_countSafe_10, dX2_countSafe_11, dX2_countSafe_12, dX2_countSafe_13, dX2_countSafe_14, dX2_countSafe_15, dX2_countSafe_17, dX2_countSafe_19, dX2_countSafe_21, dX2_countSafe_24, dX2_countSafe_25, dX2_countSafe_27, dX2_countSafe_30, dX2_countSafe_33, dX2_countSafe_34, dX2_countSafe_36, dX2_countSafe_37, dX2_countSafe_40, dX2_countSafe_43, dX2_countSafe_44, dX2_countSafe_45, dX2_countSafe_46, dX2_countSafe_47, dX2_countSafe_49, dX2_countSafe_50, dX2_countSafe_51, dX2_countSafe_52, dX2_countSafe_53, dX2_countSafe_54, dX2_countSafe_55, dX2_countSafe_56, dX2_countSafe_59, dX2_countSafe_60, dX2_countSafe_61, dX2_countSafe_64, dX2_countSafe_67, dX2_countSafe_68, cr_2_42, cr_2_72, cr_2_75, al_10, al_11, al_12, al_13, al_14, al_16, al_17, al_18, al_19, al_2, al_20, al_21, al_23, al_24, al_27, al_28, al_29, al_3, al_30, al_31, al_32, al_34, al_36, al_37, al_38, al_39, al_4, al_40, al_41, al_42, al_43, al_45, al_46, al_47, al_48, al_49, al_5, al_52, al_53, al_54, al_55, al_56, al_57, al_58, al_6, al_60, al_61, al_62, al_63, al_64, al_65, al_66, al_67, al_69, al_7, al_70, al_71, al_72, al_73, al_9, cat_i, cat_l, cat_r, cat_u, pcl_0, pcl_1, pcl_100, pcl_101, pcl_102, pcl_103, pcl_104, pcl_105, pcl_106, pcl_107, pcl_108, pcl_109, pcl_110, pcl_111, pcl_112, pcl_15, pcl_22, pcl_25, pcl_26, pcl_33, pcl_44, pcl_50, pcl_59, pcl_8, rOK_i, rOK_z, v_aload_0, v_bipush_6, v_goto, v_iadd, v_iand, v_ic_ge, v_ic_lt, v_iconst_0, v_iconst_1, v_iconst_m1, v_if_eq, v_iinc_4, v_iload_1, v_iload_2, v_iload_3, v_iload_4, v_invs, v_invv, v_ireturn, v_ishl, v_istore_3, v_istore_4, v_ixor, vcS_2_2, vcV_3_1, vc_d, rr_0, rr_1, csT_h, csT_t, csT_n, bI_0, bI_1, bI_z, bT, List.mem_cons, List.not_mem_nil, List.length_cons, List.length_nil, ite_not, ↓reduceIte, true_and, and_true, not_true_eq_false, not_false_eq_true, false_or, or_false, or_true, true_or, Nat.reduceAdd, Nat.reduceEqDiff, Nat.reduceBEq, Nat.reduceLeDiff, Nat.reduceLT, Nat.reduceSub, Int.reduceAdd, Int.reduceLE, Int.reduceLT, Int.reduceToNat, Int.reduceNeg, Int.reduceNatCast', reduceCtorEq, Int32.reduceOfInt, Int32.reduceOfNat, Int32.reduceToNatClampNeg, Int32.reduceToInt, i10, i01, pe_X6_isIn, pe_X2_crosses, c1, c3, ct1, ct2, ct3, nI_1, isin0 (show left < 2 ^ 31 by omega) (show i < 31 by omega), hX1, Classical.not_not]
        rw [acF] at hk
        by_cases hb : left.testBit i = true
        · rw [if_neg (by rw [hb]; decide)]
          refine ⟨has26 hq hn1 (bit_lt hl hb), fun N2 h2 hr2 => ?_⟩
          have hJ2 : QJ t N N2 := hJ.tr (q_step (by omega) h2)
          by_cases hc : (QX N i (N (36 + t))).1 < 12
          · rw [if_pos hc]
            rw [if_neg (show ¬ (left.testBit i = true ∧ ¬ (QX N i (N (36 + t))).1 < 12) from fun z => z.2 hc)] at hk
            exact ihm (i + 1) c N2 (by omega) hJ2 hk
          · rw [if_neg hc]
            rw [if_pos (show left.testBit i = true ∧ ¬ (QX N i (N (36 + t))).1 < 12 from ⟨hb, hc⟩)] at hk
            simp only [clr_I left h64 i (by omega)]
            refine ih (t + 1) (by omega) d (by omega) N2 _ (clr left i) q hq (by rw [hJ2.n]; exact hn) (Nat.lt_of_le_of_lt (clr_lt _ _) hl) (fun N3 h3 => ?_)
            simp only [dX2_countSafe_0, dX2_countSafe_1, dX2_countSafe_4, dX2_countSafe_5, dX2_countSafe_7, dX2_countSafe_10, dX2_countSafe_11, dX2_countSafe_12, dX2_countSafe_13, dX2_countSafe_14, dX2_countSafe_15, dX2_countSafe_17, dX2_countSafe_19, dX2_countSafe_21, dX2_countSafe_24, dX2_countSafe_25, dX2_countSafe_27, dX2_countSafe_30, dX2_countSafe_33, dX2_countSafe_34, dX2_countSafe_36, dX2_countSafe_37, dX2_countSafe_40, dX2_countSafe_43, dX2_countSafe_44, dX2_countSafe_45, dX2_countSafe_46, dX2_countSafe_47, dX2_countSafe_49, dX2_countSafe_50, dX2_countSafe_51, dX2_countSafe_52, dX2_countSafe_53, dX2_countSafe_54, dX2_countSafe_55, dX2_countSafe_56, dX2_countSafe_59, dX2_countSafe_60, dX2_countSafe_61, dX2_countSafe_64, dX2_countSafe_67, dX2_countSafe_68, cr_2_42, cr_2_72, cr_2_75, al_10, al_11, al_12, al_13, al_14, al_16, al_17, al_18, al_19, al_2, al_20, al_21, al_23, al_24, al_27, al_28, al_29, al_3, al_30, al_31, al_32, al_34, al_36, al_37, al_38, al_39, al_4, al_40, al_41, al_42, al_43, al_45, al_46, al_47, al_48, al_49, al_5, al_52, al_53, al_54, al_55, al_56, al_57, al_58, al_6, al_60, al_61, al_62, al_63, al_64, al_65, al_66, al_67, al_69, al_7, al_70, al_71, al_72, al_73, al_9, cat_i, cat_l, cat_r, cat_u, pcl_0, pcl_1, pcl_100, pcl_101, pcl_102, pcl_103, pcl_104, pcl_105, pcl_106, pcl_107, pcl_108, pcl_109, pcl_110, pcl_111, pcl_112, pcl_15, pcl_22, pcl_25, pcl_26, pcl_33, pcl_44, pcl_50, pcl_59, pcl_8, rOK_i, rOK_z, v_aload_0, v_bipush_6, v_goto, v_iadd, v_iand, v_ic_ge, v_ic_lt, v_iconst_0, v_iconst_1, v_iconst_m1, v_if_eq, v_iinc_4, v_iload_1, v_iload_2, v_iload_3, v_iload_4, v_invs, v_invv, v_ireturn, v_ishl, v_istore_3, v_istore_4, v_ixor, vcS_2_2, vcV_3_1, vc_d, rr_0, rr_1, csT_h, csT_t, csT_n, bI_0, bI_1, bI_z, bT, List.mem_cons, List.not_mem_nil, List.length_cons, List.length_nil, ite_not, ↓reduceIte, true_and, and_true, not_true_eq_false, not_false_eq_true, false_or, or_false, or_true, true_or, Nat.reduceAdd, Nat.reduceEqDiff, Nat.reduceBEq, Nat.reduceLeDiff, Nat.reduceLT, Nat.reduceSub, Int.reduceAdd, Int.reduceLE, Int.reduceLT, Int.reduceToNat, Int.reduceNeg, Int.reduceNatCast', reduceCtorEq, Int32.reduceOfInt, Int32.reduceOfNat, Int32.reduceToNatClampNeg, Int32.reduceToInt, i10, i01, nI_1, nI_add]
            have e : csF (QX N2) n (clr left i) (N2 (36 + (t + 1))) = csF (QX N) n (clr left i) (QX N i (N (36 + t))).2.2 := by
              rw [hJ2.X]
              exact csF_congr (QX_c N) n _ _ _ (fun j hj => by rw [show 36 + (t + 1) = 37 + t by omega]; exact hr2 j hj)
            rw [e]
            exact ihm (i + 1) _ N3 (by omega) (hJ2.tr h3.up) hk
        · rw [if_pos (by simpa using hb)]
          rw [if_neg (show ¬ (left.testBit i = true ∧ ¬ (QX N i (N (36 + t))).1 < 12) from fun z => hb z.1)] at hk
          exact ihm (i + 1) c N1 (by omega) hJ hk
    refine enterV (n := 80) [] [17] mI_23 (by decide) (Nat.le_of_ble_eq_true rfl) T_nil ?_
    rw [show lent 5 ([.ref 25, .int (nI left), .int (nI t)] : List Value) = [.ref 25, .int (nI left), .int (nI t), .retAddr 0, .retAddr 0] from rfl]
    simp only [dX2_countSafe_0, dX2_countSafe_1, dX2_countSafe_4, dX2_countSafe_5, dX2_countSafe_7, dX2_countSafe_10, dX2_countSafe_11, dX2_countSafe_12, dX2_countSafe_13, dX2_countSafe_14, dX2_countSafe_15, dX2_countSafe_17, dX2_countSafe_19, dX2_countSafe_21, dX2_countSafe_24, dX2_countSafe_25, dX2_countSafe_27, dX2_countSafe_30, dX2_countSafe_33, dX2_countSafe_34, dX2_countSafe_36, dX2_countSafe_37, dX2_countSafe_40, dX2_countSafe_43, dX2_countSafe_44, dX2_countSafe_45, dX2_countSafe_46, dX2_countSafe_47, dX2_countSafe_49, dX2_countSafe_50, dX2_countSafe_51, dX2_countSafe_52, dX2_countSafe_53, dX2_countSafe_54, dX2_countSafe_55, dX2_countSafe_56, dX2_countSafe_59, dX2_countSafe_60, dX2_countSafe_61, dX2_countSafe_64, dX2_countSafe_67, dX2_countSafe_68, cr_2_42, cr_2_72, cr_2_75, al_10, al_11, al_12, al_13, al_14, al_16, al_17, al_18, al_19, al_2, al_20, al_21, al_23, al_24, al_27, al_28, al_29, al_3, al_30, al_31, al_32, al_34, al_36, al_37, al_38, al_39, al_4, al_40, al_41, al_42, al_43, al_45, al_46, al_47, al_48, al_49, al_5, al_52, al_53, al_54, al_55, al_56, al_57, al_58, al_6, al_60, al_61, al_62, al_63, al_64, al_65, al_66, al_67, al_69, al_7, al_70, al_71, al_72, al_73, al_9, cat_i, cat_l, cat_r, cat_u, pcl_0, pcl_1, pcl_100, pcl_101, pcl_102, pcl_103, pcl_104, pcl_105, pcl_106, pcl_107, pcl_108, pcl_109, pcl_110, pcl_111, pcl_112, pcl_15, pcl_22, pcl_25, pcl_26, pcl_33, pcl_44, pcl_50, pcl_59, pcl_8, rOK_i, rOK_z, v_aload_0, v_bipush_6, v_goto, v_iadd, v_iand, v_ic_ge, v_ic_lt, v_iconst_0, v_iconst_1, v_iconst_m1, v_if_eq, v_iinc_4, v_iload_1, v_iload_2, v_iload_3, v_iload_4, v_invs, v_invv, v_ireturn, v_ishl, v_istore_3, v_istore_4, v_ixor, vcS_2_2, vcV_3_1, vc_d, rr_0, rr_1, csT_h, csT_t, csT_n, bI_0, bI_1, bI_z, bT, List.mem_cons, List.not_mem_nil, List.length_cons, List.length_nil, ite_not, ↓reduceIte, true_and, and_true, not_true_eq_false, not_false_eq_true, false_or, or_false, or_true, true_or, Nat.reduceAdd, Nat.reduceEqDiff, Nat.reduceBEq, Nat.reduceLeDiff, Nat.reduceLT, Nat.reduceSub, Int.reduceAdd, Int.reduceLE, Int.reduceLT, Int.reduceToNat, Int.reduceNeg, Int.reduceNatCast', reduceCtorEq, Int32.reduceOfInt, Int32.reduceOfNat, Int32.reduceToNatClampNeg, Int32.reduceToInt, i10, i01, clt]
    rw [csF] at h
    by_cases h0 : left = 0
    · subst h0
      rw [if_pos rfl] at h
      rw [if_pos (by decide)]
      exact h N QJ.rf
    · rw [if_neg h0] at h
      rw [if_neg (nI_ne0 (by omega) (by omega))]
      exact lp 6 0 0 N rfl QJ.rf h
/-- the first order in which nobody falls -/
def fwF (f : Nat → Option (List Nat)) : Nat → Nat → Option (List Nat)
  | 0, _ => none
  | n + 1, i => match f i with
    | some p => some (i :: p)
    | none => fwF f n (i + 1)
def ffF (X : XF) : Nat → Nat → (Nat → Int32) → Option (List Nat)
  | 0, _, _ => some []
  | n + 1, left, r => if left = 0 then some [] else fwF (fun w => if left.testBit w = true ∧ ¬ (X w r).1 < 12 then ffF X n (clr left w) (X w r).2.2 else none) 6 0
theorem fwF_congr {f g : Nat → Option (List Nat)} (h : ∀ w, w < 6 → f w = g w) : ∀ (n i : Nat), i + n ≤ 6 → fwF f n i = fwF g n i := by
  intro n
  induction n with
  | zero => intro i _; rfl
  | succ n ih =>
    intro i hi
    rw [fwF, fwF, h i (by omega), ih (i + 1) (by omega)]
theorem ffF_congr {X : XF} (hX : XC X) : ∀ (n left : Nat) (r s : Nat → Int32), (∀ j, j < 12 → r j = s j) → ffF X n left r = ffF X n left s := by
  intro n
  induction n with
  | zero => intro left r s _; rfl
  | succ n ih =>
    intro left r s h
    rw [ffF, ffF]
    split
    · rfl
    · refine fwF_congr (fun w _ => ?_) 6 0 (by decide)
      have hx := hX w r s h
      rw [hx.1, ih (clr left w) _ _ hx.2]
/-- the places from t on are as told; those ahead of t stay -/
def PL (t : Nat) (N N' : Mem) (o : Option (List Nat)) : Prop := (∀ j, j < t → N' 43 j = N 43 j) ∧ ∀ p, o = some p → ∀ j, j < p.length → N' 43 (t + j) = nI (p.getD j 0)
theorem ff_len {X : XF} : ∀ (n left : Nat) (r : Nat → Int32) (p : List Nat), ffF X n left r = some p → p.length ≤ n := by
  intro n
  induction n with
  | zero =>
    intro left r p h
    cases h
    exact Nat.le_refl _
  | succ n ih =>
    intro left r p h
    rw [ffF] at h
    split at h
    · cases h
      exact Nat.zero_le _
    · have key : ∀ (m i : Nat) (p : List Nat), fwF (fun w => if left.testBit w = true ∧ ¬ (X w r).1 < 12 then ffF X n (clr left w) (X w r).2.2 else none) m i = some p → p.length ≤ n + 1 := by
        intro m
        induction m with
        | zero => intro i p h; cases h
        | succ m ihm =>
          intro i p h
          rw [fwF] at h
          split at h
          · rename_i q hq
            cases h
            split at hq
            · have := ih _ _ _ hq
              rw [List.length_cons]
              omega
            · cases hq
          · exact ihm _ _ h
      exact key 6 0 p h
set_option maxRecDepth 100000 in
set_option maxHeartbeats 4000000 in
theorem lp_findFirst : ∀ (n t : Nat), t + n = 6 → ∀ (d : Nat), 4 + n ≤ d → ∀ (N : Mem) (k : Value → Mem → Prop) (left q : Nat), q ≤ 6 → N 26 6 = nI q → left < 2 ^ q → (∀ N', QJ t N N' → PL t N N' (ffF (QX N) n left (N (36 + t))) → k (.int (bI ((ffF (QX N) n left (N (36 + t))).isSome = true))) N') → CallP d 22 [.ref 25, .int (nI left), .int (nI t)] N k := by
  intro n
  induction n with
  | zero =>
    intro t ht d hd N k left q hq hn hl h
    have e6 : t = 6 := by omega
    subst e6
    obtain ⟨d, rfl⟩ : ∃ d', d = d' + 1 := ⟨d - 1, by omega⟩
    refine enterV (n := 80) [] [14] mI_22 (by decide) (Nat.le_of_ble_eq_true rfl) T_nil ?_
    rw [show lent 4 ([.ref 25, .int (nI left), .int (nI 6)] : List Value) = [.ref 25, .int (nI left), .int (nI 6), .retAddr 0] from rfl]
    simp only [dX2_findFirst_0, dX2_findFirst_1, dX2_findFirst_4, dX2_findFirst_5, dX2_findFirst_7, dX2_findFirst_10, dX2_findFirst_11, dX2_findFirst_12, dX2_findFirst_13, dX2_findFirst_14, dX2_findFirst_15, dX2_findFirst_17, dX2_findFirst_20, dX2_findFirst_21, dX2_findFirst_22, dX2_findFirst_25, dX2_findFirst_28, dX2_findFirst_29, dX2_findFirst_30, dX2_findFirst_31, dX2_findFirst_34, dX2_findFirst_37, dX2_findFirst_38, dX2_findFirst_41, dX2_findFirst_42, dX2_findFirst_43, dX2_findFirst_44, dX2_findFirst_45, dX2_findFirst_46, dX2_findFirst_47, dX2_findFirst_48, dX2_findFirst_49, dX2_findFirst_50, dX2_findFirst_51, dX2_findFirst_52, dX2_findFirst_53, dX2_findFirst_54, dX2_findFirst_55, dX2_findFirst_58, dX2_findFirst_61, dX2_findFirst_62, dX2_findFirst_63, dX2_findFirst_66, dX2_findFirst_69, dX2_findFirst_70, cr_2_38, cr_2_72, cr_2_75, fr_2_30, al_10, al_11, al_12, al_13, al_14, al_16, al_17, al_18, al_19, al_2, al_20, al_21, al_23, al_24, al_27, al_28, al_29, al_3, al_30, al_31, al_32, al_34, al_36, al_37, al_38, al_39, al_4, al_40, al_41, al_42, al_43, al_45, al_46, al_47, al_48, al_49, al_5, al_52, al_53, al_54, al_55, al_56, al_57, al_58, al_6, al_60, al_61, al_62, al_63, al_64, al_65, al_66, al_67, al_69, al_7, al_70, al_71, al_72, al_73, al_9, cat_i, cat_l, cat_r, cat_u, gf_1_3_25, pcl_0, pcl_1, pcl_100, pcl_101, pcl_102, pcl_103, pcl_104, pcl_105, pcl_106, pcl_107, pcl_108, pcl_109, pcl_110, pcl_111, pcl_112, pcl_15, pcl_22, pcl_25, pcl_26, pcl_33, pcl_44, pcl_50, pcl_59, pcl_8, rOK_i, rOK_z, v_aload_0, v_bipush_6, v_getfield, v_goto, v_iadd, v_iand, v_iastore, v_ic_ge, v_ic_lt, v_iconst_0, v_iconst_1, v_iconst_m1, v_if_eq, v_iinc_3, v_iload_1, v_iload_2, v_iload_3, v_invs, v_invv, v_ireturn, v_ishl, v_istore_3, v_ixor, vcS_2_2, vcV_3_1, vgf_i, vgf_r, vgf_s, vc_d, rr_0, rr_1, csT_h, csT_t, csT_n, bI_0, bI_1, bI_z, bT, List.mem_cons, List.not_mem_nil, List.length_cons, List.length_nil, ite_not, ↓reduceIte, true_and, and_true, not_true_eq_false, not_false_eq_true, false_or, or_false, or_true, true_or, Nat.reduceAdd, Nat.reduceEqDiff, Nat.reduceBEq, Nat.reduceLeDiff, Nat.reduceLT, Nat.reduceSub, Int.reduceAdd, Int.reduceLE, Int.reduceLT, Int.reduceToNat, Int.reduceNeg, Int.reduceNatCast', reduceCtorEq, Int32.reduceOfInt, Int32.reduceOfNat, Int32.reduceToNatClampNeg, Int32.reduceToInt, i10, i01, show (nI 6 < 6) = False from by decide]
    have := h N QJ.rf ⟨fun _ _ => rfl, fun p hp j hj => by cases hp; exact absurd hj (Nat.not_lt_zero _)⟩
    split <;> exact this
  | succ n ih =>
    intro t ht d hd N k left q hq hn hl h
    obtain ⟨d, rfl⟩ : ∃ d', d = d' + 1 := ⟨d - 1, by omega⟩
    have h64 := lt64 hq hl
    have clt : nI t < 6 := nI_lt (b := 6) (by omega) (by decide)
    have ct1 : ¬ nI t < 0 := nI_pos (by omega)
    have ct2 : ¬ (6 : Int32) ≤ nI t := nI_ge (b := 6) (by omega) (by decide)
    have ct3 : (nI t).toNatClampNeg = t := nI_clamp (by omega)
    have ct4 : (nI t).toInt = t := nI_toInt (by omega)
    have lp : ∀ (m i : Nat) (N1 : Mem), i + m = 6 → QJ t N N1 → (∀ j, j < t → N1 43 j = N 43 j) → (∀ N', QJ t N N' → PL t N N' (fwF (fun w => if left.testBit w = true ∧ ¬ (QX N w (N (36 + t))).1 < 12 then ffF (QX N) n (clr left w) (QX N w (N (36 + t))).2.2 else none) m i) → k (.int (bI ((fwF (fun w => if left.testBit w = true ∧ ¬ (QX N w (N (36 + t))).1 < 12 then ffF (QX N) n (clr left w) (QX N w (N (36 + t))).2.2 else none) m i).isSome = true))) N') → WP (2, yX2_findFirst, cX2_findFirst, 4, (some .boolean)) (d + 1) k 14 [.ref 25, .int (nI left), .int (nI t), .int (nI i)] [] N1 := by
      intro m
      induction m with
      | zero =>
        intro i N1 hi hJ hp hk
        have e6 : i = 6 := by omega
        rw [e6]
        refine goV (n := 80) [] [14] T_nil ?_
        simp only [dX2_findFirst_0, dX2_findFirst_1, dX2_findFirst_4, dX2_findFirst_5, dX2_findFirst_7, dX2_findFirst_10, dX2_findFirst_11, dX2_findFirst_12, dX2_findFirst_13, dX2_findFirst_14, dX2_findFirst_15, dX2_findFirst_17, dX2_findFirst_20, dX2_findFirst_21, dX2_findFirst_22, dX2_findFirst_25, dX2_findFirst_28, dX2_findFirst_29, dX2_findFirst_30, dX2_findFirst_31, dX2_findFirst_34, dX2_findFirst_37, dX2_findFirst_38, dX2_findFirst_41, dX2_findFirst_42, dX2_findFirst_43, dX2_findFirst_44, dX2_findFirst_45, dX2_findFirst_46, dX2_findFirst_47, dX2_findFirst_48, dX2_findFirst_49, dX2_findFirst_50, dX2_findFirst_51, dX2_findFirst_52, dX2_findFirst_53, dX2_findFirst_54, dX2_findFirst_55, dX2_findFirst_58, dX2_findFirst_61, dX2_findFirst_62, dX2_findFirst_63, dX2_findFirst_66, dX2_findFirst_69, dX2_findFirst_70, cr_2_38, cr_2_72, cr_2_75, fr_2_30, al_10, al_11, al_12, al_13, al_14, al_16, al_17, al_18, al_19, al_2, al_20, al_21, al_23, al_24, al_27, al_28, al_29, al_3, al_30, al_31, al_32, al_34, al_36, al_37, al_38, al_39, al_4, al_40, al_41, al_42, al_43, al_45, al_46, al_47, al_48, al_49, al_5, al_52, al_53, al_54, al_55, al_56, al_57, al_58, al_6, al_60, al_61, al_62, al_63, al_64, al_65, al_66, al_67, al_69, al_7, al_70, al_71, al_72, al_73, al_9, cat_i, cat_l, cat_r, cat_u, gf_1_3_25, pcl_0, pcl_1, pcl_100, pcl_101, pcl_102, pcl_103, pcl_104, pcl_105, pcl_106, pcl_107, pcl_108, pcl_109, pcl_110, pcl_111, pcl_112, pcl_15, pcl_22, pcl_25, pcl_26, pcl_33, pcl_44, pcl_50, pcl_59, pcl_8, rOK_i, rOK_z, v_aload_0, v_bipush_6, v_getfield, v_goto, v_iadd, v_iand, v_iastore, v_ic_ge, v_ic_lt, v_iconst_0, v_iconst_1, v_iconst_m1, v_if_eq, v_iinc_3, v_iload_1, v_iload_2, v_iload_3, v_invs, v_invv, v_ireturn, v_ishl, v_istore_3, v_ixor, vcS_2_2, vcV_3_1, vgf_i, vgf_r, vgf_s, vc_d, rr_0, rr_1, csT_h, csT_t, csT_n, bI_0, bI_1, bI_z, bT, List.mem_cons, List.not_mem_nil, List.length_cons, List.length_nil, ite_not, ↓reduceIte, true_and, and_true, not_true_eq_false, not_false_eq_true, false_or, or_false, or_true, true_or, Nat.reduceAdd, Nat.reduceEqDiff, Nat.reduceBEq, Nat.reduceLeDiff, Nat.reduceLT, Nat.reduceSub, Int.reduceAdd, Int.reduceLE, Int.reduceLT, Int.reduceToNat, Int.reduceNeg, Int.reduceNatCast', reduceCtorEq, Int32.reduceOfInt, Int32.reduceOfNat, Int32.reduceToNatClampNeg, Int32.reduceToInt, i10, i01, show ((6 : Int32) ≤ nI 6) = True from by decide]
        have := hk N1 hJ ⟨hp, fun p hp => by cases hp⟩
        rw [fwF] at this
        exact this
      | succ m ihm =>
        intro i N1 hi hJ hp hk
        have c1 : ¬ (6 : Int32) ≤ nI i := nI_ge (b := 6) (by omega) (by decide)
        have c3 : (nI i).toNatClampNeg = i := nI_clamp (by omega)
        have hn1 : N1 26 6 = nI q := by rw [hJ.n]; exact hn
        have hX1 : xq N1 i (N1 (36 + t)) = QX N i (N (36 + t)) := by
          rw [hJ.at (by omega)]
          exact congrFun (congrFun hJ.X i) (N (36 + t))
        refine goV (n := 80) [(109, pf_X6_isIn), (21, pf_X2_crosses)] [14] (T_cons (s_X6_isIn (by omega)) (T_cons (s_X2_crosses (by omega)) T_nil)) ?_
        simp only [dX2_findFirst_0, dX2_findFirst_1, dX2_findFirst_4, dX2_findFirst_5, dX2_findFirst_7, dX2_findFirst_10, dX2_findFirst_11, dX2_findFirst_12, dX2_findFirst_13, dX2_findFirst_14, dX2_findFirst_15, dX2_findFirst_17, dX2_findFirst_20, dX2_findFirst_21, dX2_findFirst_22, dX2_findFirst_25, dX2_findFirst_28, dX2_findFirst_29, dX2_findFirst_30, dX2_findFirst_31, dX2_findFirst_34, dX2_findFirst_37, dX2_findFirst_38, dX2_findFirst_41, dX2_findFirst_42, dX2_findFirst_43, dX2_findFirst_44, dX2_findFirst_45, dX2_findFirst_46, dX2_findFirst_47, dX2_findFirst_48, dX2_findFirst_49, dX2_findFirst_50, dX2_findFirst_51, dX2_findFirst_52, dX2_findFirst_53, dX2_findFirst_54, dX2_findFirst_55, dX2_findFirst_58, dX2_findFirst_61, dX2_findFirst_62, dX2_findFirst_63, dX2_findFirst_66, dX2_findFirst_69, dX2_findFirst_70, cr_2_38, cr_2_72, cr_2_75, fr_2_30, al_10, al_11, al_12, al_13, al_14, al_16, al_17, al_18, al_19, al_2, al_20, al_21, al_23, al_24, al_27, al_28, al_29, al_3, al_30, al_31, al_32, al_34, al_36, al_37, al_38, al_39, al_4, al_40, al_41, al_42, al_43, al_45, al_46, al_47, al_48, al_49, al_5, al_52, al_53, al_54, al_55, al_56, al_57, al_58, al_6, al_60, al_61, al_62, al_63, al_64, al_65, al_66, al_67, al_69, al_7, al_70, al_71, al_72, al_73, al_9, cat_i, cat_l, cat_r, cat_u, gf_1_3_25, pcl_0, pcl_1, pcl_100, pcl_101, pcl_102, pcl_103, pcl_104, pcl_105, pcl_106, pcl_107, pcl_108, pcl_109, pcl_110, pcl_111, pcl_112, pcl_15, pcl_22, pcl_25, pcl_26, pcl_33, pcl_44, pcl_50, pcl_59, pcl_8, rOK_i, rOK_z, v_aload_0, v_bipush_6, v_getfield, v_goto, v_iadd, v_iand, v_iastore, v_ic_ge, v_ic_lt, v_iconst_0, v_iconst_1, v_iconst_m1, v_if_eq, v_iinc_3, v_iload_1, v_iload_2, v_iload_3, v_invs, v_invv, v_ireturn, v_ishl, v_istore_3, v_ixor, vcS_2_2, vcV_3_1, vgf_i, vgf_r, vgf_s, vc_d, rr_0, rr_1, csT_h, csT_t, csT_n, bI_0, bI_1, bI_z, bT, List.mem_cons, List.not_mem_nil, List.length_cons, List.length_nil, ite_not, ↓reduceIte, true_and, and_true, not_true_eq_false, not_false_eq_true, false_or, or_false, or_true, true_or, Nat.reduceAdd, Nat.reduceEqDiff, Nat.reduceBEq, Nat.reduceLeDiff, Nat.reduceLT, Nat.reduceSub, Int.reduceAdd, Int.reduceLE, Int.reduceLT, Int.reduceToNat, Int.reduceNeg, Int.reduceNatCast', reduceCtorEq, Int32.reduceOfInt, Int32.reduceOfNat, Int32.reduceToNatClampNeg, Int32.reduceToInt, i10, i01, pe_X6_isIn, pe_X2_crosses, c1, c3, ct1, ct2, ct3, ct4, nI_1, isin0 (show left < 2 ^ 31 by omega) (show i < 31 by omega), hX1, Classical.not_not]
        rw [fwF] at hk
        by_cases hb : left.testBit i = true
        · rw [if_neg (by rw [hb]; decide)]
          refine ⟨has26 hq hn1 (bit_lt hl hb), fun N2 h2 hr2 => ?_⟩
          have hJ2 : QJ t N N2 := hJ.tr (q_step (by omega) h2)
          have h43 : N2 43 = N1 43 := h2 43 (by decide) (by omega)
          by_cases hc : (QX N i (N (36 + t))).1 < 12
          · rw [if_pos hc]
            rw [if_neg (show ¬ (left.testBit i = true ∧ ¬ (QX N i (N (36 + t))).1 < 12) from fun z => z.2 hc)] at hk
            exact ihm (i + 1) N2 (by omega) hJ2 (fun j hj => by rw [h43]; exact hp j hj) hk
          · rw [if_neg hc]
            rw [if_pos (show left.testBit i = true ∧ ¬ (QX N i (N (36 + t))).1 < 12 from ⟨hb, hc⟩)] at hk
            simp only [clr_I left h64 i (by omega)]
            refine ⟨by omega, ?_⟩
            have hJ3 : QJ t N (mset N2 43 t (nI i)) := fun p a b c => by rw [mset_n (bq b)]; exact hJ2 p a b c
            have e36 : mset N2 43 t (nI i) (36 + (t + 1)) = N2 (36 + (t + 1)) := mset_n (bq (by omega))
            have e : ffF (QX (mset N2 43 t (nI i))) n (clr left i) (mset N2 43 t (nI i) (36 + (t + 1))) = ffF (QX N) n (clr left i) (QX N i (N (36 + t))).2.2 := by
              rw [hJ3.X, e36]
              exact ffF_congr (QX_c N) n _ _ _ (fun j hj => by rw [show 36 + (t + 1) = 37 + t by omega]; exact hr2 j hj)
            refine ih (t + 1) (by omega) d (by omega) _ _ (clr left i) q hq (by rw [hJ3.n]; exact hn) (Nat.lt_of_le_of_lt (clr_lt _ _) hl) (fun N3 h3 hp3 => ?_)
            rw [e] at hp3 ⊢
            simp only [dX2_findFirst_0, dX2_findFirst_1, dX2_findFirst_4, dX2_findFirst_5, dX2_findFirst_7, dX2_findFirst_10, dX2_findFirst_11, dX2_findFirst_12, dX2_findFirst_13, dX2_findFirst_14, dX2_findFirst_15, dX2_findFirst_17, dX2_findFirst_20, dX2_findFirst_21, dX2_findFirst_22, dX2_findFirst_25, dX2_findFirst_28, dX2_findFirst_29, dX2_findFirst_30, dX2_findFirst_31, dX2_findFirst_34, dX2_findFirst_37, dX2_findFirst_38, dX2_findFirst_41, dX2_findFirst_42, dX2_findFirst_43, dX2_findFirst_44, dX2_findFirst_45, dX2_findFirst_46, dX2_findFirst_47, dX2_findFirst_48, dX2_findFirst_49, dX2_findFirst_50, dX2_findFirst_51, dX2_findFirst_52, dX2_findFirst_53, dX2_findFirst_54, dX2_findFirst_55, dX2_findFirst_58, dX2_findFirst_61, dX2_findFirst_62, dX2_findFirst_63, dX2_findFirst_66, dX2_findFirst_69, dX2_findFirst_70, cr_2_38, cr_2_72, cr_2_75, fr_2_30, al_10, al_11, al_12, al_13, al_14, al_16, al_17, al_18, al_19, al_2, al_20, al_21, al_23, al_24, al_27, al_28, al_29, al_3, al_30, al_31, al_32, al_34, al_36, al_37, al_38, al_39, al_4, al_40, al_41, al_42, al_43, al_45, al_46, al_47, al_48, al_49, al_5, al_52, al_53, al_54, al_55, al_56, al_57, al_58, al_6, al_60, al_61, al_62, al_63, al_64, al_65, al_66, al_67, al_69, al_7, al_70, al_71, al_72, al_73, al_9, cat_i, cat_l, cat_r, cat_u, gf_1_3_25, pcl_0, pcl_1, pcl_100, pcl_101, pcl_102, pcl_103, pcl_104, pcl_105, pcl_106, pcl_107, pcl_108, pcl_109, pcl_110, pcl_111, pcl_112, pcl_15, pcl_22, pcl_25, pcl_26, pcl_33, pcl_44, pcl_50, pcl_59, pcl_8, rOK_i, rOK_z, v_aload_0, v_bipush_6, v_getfield, v_goto, v_iadd, v_iand, v_iastore, v_ic_ge, v_ic_lt, v_iconst_0, v_iconst_1, v_iconst_m1, v_if_eq, v_iinc_3, v_iload_1, v_iload_2, v_iload_3, v_invs, v_invv, v_ireturn, v_ishl, v_istore_3, v_ixor, vcS_2_2, vcV_3_1, vgf_i, vgf_r, vgf_s, vc_d, rr_0, rr_1, csT_h, csT_t, csT_n, bI_0, bI_1, bI_z, bT, List.mem_cons, List.not_mem_nil, List.length_cons, List.length_nil, ite_not, ↓reduceIte, true_and, and_true, not_true_eq_false, not_false_eq_true, false_or, or_false, or_true, true_or, Nat.reduceAdd, Nat.reduceEqDiff, Nat.reduceBEq, Nat.reduceLeDiff, Nat.reduceLT, Nat.reduceSub, Int.reduceAdd, Int.reduceLE, Int.reduceLT, Int.reduceToNat, Int.reduceNeg, Int.reduceNatCast', reduceCtorEq, Int32.reduceOfInt, Int32.reduceOfNat, Int32.reduceToNatClampNeg, Int32.reduceToInt, i10, i01, nI_1]
            have hpl : ∀ j, j < t → N3 43 j = N 43 j := fun j hj => by
              rw [hp3.1 j (by omega), mset_s, upd_n (bq (by omega)), h43]
              exact hp j hj
            have hpt : N3 43 t = nI i := by
              rw [hp3.1 t (by omega), mset_s, upd_s]
            cases ho : ffF (QX N) n (clr left i) (QX N i (N (36 + t))).2.2 with
            | none =>
              rw [ho] at hk
              simp only [Option.isSome_none, Bool.false_eq_true, not_false_eq_true, ↓reduceIte]
              exact ihm (i + 1) N3 (by omega) (hJ3.tr h3.up) hpl hk
            | some p =>
              rw [ho] at hk hp3
              simp only [Option.isSome_some, not_true_eq_false, ↓reduceIte]
              refine hk N3 (hJ3.tr h3.up) ⟨hpl, fun p' hp' j hj => ?_⟩
              cases hp'
              cases j with
              | zero => exact hpt
              | succ j =>
                have := hp3.2 p rfl j (by simpa using hj)
                rw [show t + (j + 1) = t + 1 + j by omega, this]
                rfl
        · rw [if_pos (by simpa using hb)]
          rw [if_neg (show ¬ (left.testBit i = true ∧ ¬ (QX N i (N (36 + t))).1 < 12) from fun z => hb z.1)] at hk
          exact ihm (i + 1) N1 (by omega) hJ hp hk
    refine enterV (n := 80) [] [14] mI_22 (by decide) (Nat.le_of_ble_eq_true rfl) T_nil ?_
    rw [show lent 4 ([.ref 25, .int (nI left), .int (nI t)] : List Value) = [.ref 25, .int (nI left), .int (nI t), .retAddr 0] from rfl]
    simp only [dX2_findFirst_0, dX2_findFirst_1, dX2_findFirst_4, dX2_findFirst_5, dX2_findFirst_7, dX2_findFirst_10, dX2_findFirst_11, dX2_findFirst_12, dX2_findFirst_13, dX2_findFirst_14, dX2_findFirst_15, dX2_findFirst_17, dX2_findFirst_20, dX2_findFirst_21, dX2_findFirst_22, dX2_findFirst_25, dX2_findFirst_28, dX2_findFirst_29, dX2_findFirst_30, dX2_findFirst_31, dX2_findFirst_34, dX2_findFirst_37, dX2_findFirst_38, dX2_findFirst_41, dX2_findFirst_42, dX2_findFirst_43, dX2_findFirst_44, dX2_findFirst_45, dX2_findFirst_46, dX2_findFirst_47, dX2_findFirst_48, dX2_findFirst_49, dX2_findFirst_50, dX2_findFirst_51, dX2_findFirst_52, dX2_findFirst_53, dX2_findFirst_54, dX2_findFirst_55, dX2_findFirst_58, dX2_findFirst_61, dX2_findFirst_62, dX2_findFirst_63, dX2_findFirst_66, dX2_findFirst_69, dX2_findFirst_70, cr_2_38, cr_2_72, cr_2_75, fr_2_30, al_10, al_11, al_12, al_13, al_14, al_16, al_17, al_18, al_19, al_2, al_20, al_21, al_23, al_24, al_27, al_28, al_29, al_3, al_30, al_31, al_32, al_34, al_36, al_37, al_38, al_39, al_4, al_40, al_41, al_42, al_43, al_45, al_46, al_47, al_48, al_49, al_5, al_52, al_53, al_54, al_55, al_56, al_57, al_58, al_6, al_60, al_61, al_62, al_63, al_64, al_65, al_66, al_67, al_69, al_7, al_70, al_71, al_72, al_73, al_9, cat_i, cat_l, cat_r, cat_u, gf_1_3_25, pcl_0, pcl_1, pcl_100, pcl_101, pcl_102, pcl_103, pcl_104, pcl_105, pcl_106, pcl_107, pcl_108, pcl_109, pcl_110, pcl_111, pcl_112, pcl_15, pcl_22, pcl_25, pcl_26, pcl_33, pcl_44, pcl_50, pcl_59, pcl_8, rOK_i, rOK_z, v_aload_0, v_bipush_6, v_getfield, v_goto, v_iadd, v_iand, v_iastore, v_ic_ge, v_ic_lt, v_iconst_0, v_iconst_1, v_iconst_m1, v_if_eq, v_iinc_3, v_iload_1, v_iload_2, v_iload_3, v_invs, v_invv, v_ireturn, v_ishl, v_istore_3, v_ixor, vcS_2_2, vcV_3_1, vgf_i, vgf_r, vgf_s, vc_d, rr_0, rr_1, csT_h, csT_t, csT_n, bI_0, bI_1, bI_z, bT, List.mem_cons, List.not_mem_nil, List.length_cons, List.length_nil, ite_not, ↓reduceIte, true_and, and_true, not_true_eq_false, not_false_eq_true, false_or, or_false, or_true, true_or, Nat.reduceAdd, Nat.reduceEqDiff, Nat.reduceBEq, Nat.reduceLeDiff, Nat.reduceLT, Nat.reduceSub, Int.reduceAdd, Int.reduceLE, Int.reduceLT, Int.reduceToNat, Int.reduceNeg, Int.reduceNatCast', reduceCtorEq, Int32.reduceOfInt, Int32.reduceOfNat, Int32.reduceToNatClampNeg, Int32.reduceToInt, i10, i01, clt]
    rw [ffF] at h
    by_cases h0 : left = 0
    · subst h0
      rw [if_pos rfl] at h
      rw [if_pos (by decide)]
      exact h N QJ.rf ⟨fun _ _ => rfl, fun p hp j hj => by cases hp; exact absurd hj (Nat.not_lt_zero _)⟩
    · rw [if_neg h0] at h
      rw [if_neg (nI_ne0 (by omega) (by omega))]
      exact lp 6 0 N rfl QJ.rf (fun _ _ => rfl) h
