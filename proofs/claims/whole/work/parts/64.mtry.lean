/-! M: what would be -/
/-- the model's row and what was laid aside -/
def j2 (M : Mem) (a r : Nat → Int32) : Mem := mrow (mrow M 60 r) 62 a
theorem j2_60 {M : Mem} {a r : Nat → Int32} : j2 M a r 60 = r := by
  unfold j2
  rw [mrow_n (by decide), mrow_s]
theorem j2_62 {M : Mem} {a r : Nat → Int32} : j2 M a r 62 = a := mrow_s
theorem j2_n {M : Mem} {a r : Nat → Int32} {p : Nat} (h1 : (p == 60) = false) (h2 : (p == 62) = false) : j2 M a r p = M p := by
  unfold j2
  rw [mrow_n h2, mrow_n h1]
theorem j2_m60 {M : Mem} {a r r' : Nat → Int32} : mrow (j2 M a r) 60 r' = j2 M a r' := by
  unfold j2
  rw [mrow_comm (p := 62) (q := 60) (by decide), mrow_mrow]
theorem j2_m62 {M : Mem} {a a' r : Nat → Int32} : mrow (j2 M a r) 62 a' = j2 M a' r := mrow_mrow
theorem j2_j2 {M : Mem} {a r a' r' : Nat → Int32} : j2 (j2 M a r) a' r' = j2 M a' r' := by
  show mrow (mrow (j2 M a r) 60 r') 62 a' = _
  rw [j2_m60, j2_m62]
theorem j2_s {M : Mem} {a r : Nat → Int32} {i : Nat} {v : Int32} : mset (j2 M a r) 60 i v = j2 M a (upd r i v) := by
  unfold mset
  rw [j2_60, j2_m60]
theorem j2_self {M : Mem} : j2 M (M 62) (M 60) = M := by
  unfold j2
  rw [mrow_self, mrow_self]
theorem j2_a {M : Mem} {a : Nat → Int32} : mrow M 62 a = j2 M a (M 60) := by
  unfold j2
  rw [mrow_self]
theorem n12 {n : Nat} (h : n ≤ 12) : (0 ≤ nI n) = True := eq_true (nI_pos' (by omega))
def pf_X7_wouldCross : PF := fun args M k => match args with
  | [.ref o, .int w] => (o = 59 ∧ wOK w) ∧ (∀ a, k (.int (nI (crx (M 60) (w).toNatClampNeg).1)) (j2 M a (M 60)))
  | _ => False
theorem pe_X7_wouldCross {o : Nat} {w : Int32} {M : Mem} {k : Value → Mem → Prop} : pf_X7_wouldCross [.ref o, .int w] M k = ((o = 59 ∧ wOK w) ∧ (∀ a, k (.int (nI (crx (M 60) (w).toNatClampNeg).1)) (j2 M a (M 60)))) := rfl
theorem le_X7_wouldCross {o : Nat} {w : Int32} : lent 2 ([.ref o, .int w] : List Value) = [.ref o, .int w] := rfl
set_option maxRecDepth 100000 in
set_option maxHeartbeats 4000000 in
theorem c_X7_wouldCross {d : Nat} (hd : 7 ≤ d) {o : Nat} {w : Int32} {M : Mem} {k : Value → Mem → Prop} (h : (o = 59 ∧ wOK w) ∧ (∀ a, k (.int (nI (crx (M 60) (w).toNatClampNeg).1)) (j2 M a (M 60)))) : CallP d 159 [.ref o, .int w] M k := by
  obtain ⟨hp, h⟩ := h
  obtain ⟨d, rfl⟩ : ∃ d', d = d' + 1 := ⟨d - 1, by omega⟩
  obtain ⟨rfl, hw⟩ := hp
  obtain ⟨i, hi, rfl⟩ := wOK_n hw
  have ci : (nI i).toNatClampNeg = i := nI_clamp (by omega)
  rw [ci] at h
  · refine enterV (n := 80) [(128, pf_X7_copyRow), (153, pf_X7_crosses), (129, pf_X7_putBack)] [] mI_159 (by decide) (Nat.le_of_ble_eq_true rfl) (T_cons (s_X7_copyRow (by omega)) (T_cons (s_X7_crosses (by omega)) (T_cons (s_X7_putBack (by omega)) T_nil))) ?_
    rw [le_X7_wouldCross]
    simp only [dX7_wouldCross_0, dX7_wouldCross_1, dX7_wouldCross_4, dX7_wouldCross_5, dX7_wouldCross_8, dX7_wouldCross_11, dX7_wouldCross_12, dX7_wouldCross_13, dX7_wouldCross_14, dX7_wouldCross_17, dX7_wouldCross_20, cr_7_146, cr_7_158, cr_7_70, fr_7_16, fr_7_9, al_10, al_11, al_12, al_13, al_14, al_16, al_17, al_18, al_19, al_2, al_20, al_21, al_23, al_24, al_27, al_28, al_29, al_3, al_30, al_31, al_32, al_34, al_36, al_37, al_38, al_39, al_4, al_40, al_41, al_42, al_43, al_45, al_46, al_47, al_48, al_49, al_5, al_52, al_53, al_54, al_55, al_56, al_57, al_58, al_6, al_60, al_61, al_62, al_63, al_64, al_65, al_66, al_67, al_69, al_7, al_70, al_71, al_72, al_73, al_9, gf_6_0_59, gf_6_2_59, pcl_0, pcl_1, pcl_100, pcl_101, pcl_102, pcl_103, pcl_104, pcl_105, pcl_106, pcl_107, pcl_108, pcl_109, pcl_110, pcl_111, pcl_112, pcl_15, pcl_22, pcl_25, pcl_26, pcl_33, pcl_44, pcl_50, pcl_59, pcl_8, rOK_i, rOK_z, v_aload_0, v_getfield, v_iload_1, v_invs, v_invv, v_ireturn, vcS_2_1, vcV_2_6, vgf_i, vgf_r, vgf_s, vc_d, rr_0, rr_1, csT_h, csT_t, csT_n, bI_0, bI_1, bI_z, bT, List.mem_cons, List.not_mem_nil, List.length_cons, List.length_nil, ite_not, ↓reduceIte, true_and, and_true, not_true_eq_false, not_false_eq_true, false_or, or_false, or_true, true_or, Nat.reduceAdd, Nat.reduceEqDiff, Nat.reduceBEq, Nat.reduceLeDiff, Nat.reduceLT, Nat.reduceSub, Int.reduceAdd, Int.reduceLE, Int.reduceLT, Int.reduceToNat, Int.reduceNeg, Int.reduceNatCast', reduceCtorEq, Int32.reduceOfInt, Int32.reduceOfNat, Int32.reduceToNatClampNeg, Int32.reduceToInt, i10, i01, nEM, pe_X7_copyRow, pe_X7_crosses, pe_X7_putBack, hw, ci, j2_a, j2_60, j2_62, j2_m60, back (fun j hj => crr_hi hi hj)]
    exact h _

theorem s_X7_wouldCross {d : Nat} (hd : 7 ≤ d) : Snd d 159 pf_X7_wouldCross := by
  intro args M k h
  unfold pf_X7_wouldCross at h
  split at h
  · exact c_X7_wouldCross hd h
  · exact h.elim
def pf_X7_behind : PF := fun args M k => match args with
  | [.ref o, .int w, .int p] => (o = 59 ∧ wOK w ∧ ¬ p < 0 ∧ ¬ 50 ≤ p) ∧ (∀ a, k (.int (crr (M 60) (w).toNatClampNeg (p).toNatClampNeg)) (j2 M a (M 60)))
  | _ => False
theorem pe_X7_behind {o : Nat} {w : Int32} {p : Int32} {M : Mem} {k : Value → Mem → Prop} : pf_X7_behind [.ref o, .int w, .int p] M k = ((o = 59 ∧ wOK w ∧ ¬ p < 0 ∧ ¬ 50 ≤ p) ∧ (∀ a, k (.int (crr (M 60) (w).toNatClampNeg (p).toNatClampNeg)) (j2 M a (M 60)))) := rfl
theorem le_X7_behind {o : Nat} {w : Int32} {p : Int32} : lent 4 ([.ref o, .int w, .int p] : List Value) = [.ref o, .int w, .int p, .retAddr 0] := rfl
set_option maxRecDepth 100000 in
set_option maxHeartbeats 4000000 in
theorem c_X7_behind {d : Nat} (hd : 7 ≤ d) {o : Nat} {w : Int32} {p : Int32} {M : Mem} {k : Value → Mem → Prop} (h : (o = 59 ∧ wOK w ∧ ¬ p < 0 ∧ ¬ 50 ≤ p) ∧ (∀ a, k (.int (crr (M 60) (w).toNatClampNeg (p).toNatClampNeg)) (j2 M a (M 60)))) : CallP d 163 [.ref o, .int w, .int p] M k := by
  obtain ⟨hp, h⟩ := h
  obtain ⟨d, rfl⟩ : ∃ d', d = d' + 1 := ⟨d - 1, by omega⟩
  obtain ⟨rfl, hw, h1, h2⟩ := hp
  obtain ⟨i, hi, rfl⟩ := wOK_n hw
  have ci : (nI i).toNatClampNeg = i := nI_clamp (by omega)
  rw [ci] at h
  · refine enterV (n := 80) [(128, pf_X7_copyRow), (153, pf_X7_crosses), (129, pf_X7_putBack)] [] mI_163 (by decide) (Nat.le_of_ble_eq_true rfl) (T_cons (s_X7_copyRow (by omega)) (T_cons (s_X7_crosses (by omega)) (T_cons (s_X7_putBack (by omega)) T_nil))) ?_
    rw [le_X7_behind]
    simp only [dX7_behind_0, dX7_behind_1, dX7_behind_4, dX7_behind_5, dX7_behind_8, dX7_behind_11, dX7_behind_12, dX7_behind_13, dX7_behind_16, dX7_behind_17, dX7_behind_18, dX7_behind_19, dX7_behind_22, dX7_behind_23, dX7_behind_26, dX7_behind_27, dX7_behind_30, dX7_behind_31, dX7_behind_32, dX7_behind_35, cr_7_146, cr_7_158, cr_7_70, fr_7_16, fr_7_9, al_10, al_11, al_12, al_13, al_14, al_16, al_17, al_18, al_19, al_2, al_20, al_21, al_23, al_24, al_27, al_28, al_29, al_3, al_30, al_31, al_32, al_34, al_36, al_37, al_38, al_39, al_4, al_40, al_41, al_42, al_43, al_45, al_46, al_47, al_48, al_49, al_5, al_52, al_53, al_54, al_55, al_56, al_57, al_58, al_6, al_60, al_61, al_62, al_63, al_64, al_65, al_66, al_67, al_69, al_7, al_70, al_71, al_72, al_73, al_9, cat_i, cat_l, cat_r, cat_u, gf_6_0_59, gf_6_2_59, pcl_0, pcl_1, pcl_100, pcl_101, pcl_102, pcl_103, pcl_104, pcl_105, pcl_106, pcl_107, pcl_108, pcl_109, pcl_110, pcl_111, pcl_112, pcl_15, pcl_22, pcl_25, pcl_26, pcl_33, pcl_44, pcl_50, pcl_59, pcl_8, rOK_i, rOK_z, v_aload_0, v_getfield, v_goto, v_iaload, v_if_ge, v_iload_1, v_iload_2, v_iload_3, v_invs, v_invv, v_ireturn, v_istore_3, vcS_2_1, vcV_2_6, vgf_i, vgf_r, vgf_s, vc_d, rr_0, rr_1, csT_h, csT_t, csT_n, bI_0, bI_1, bI_z, bT, List.mem_cons, List.not_mem_nil, List.length_cons, List.length_nil, ite_not, ↓reduceIte, true_and, and_true, not_true_eq_false, not_false_eq_true, false_or, or_false, or_true, true_or, Nat.reduceAdd, Nat.reduceEqDiff, Nat.reduceBEq, Nat.reduceLeDiff, Nat.reduceLT, Nat.reduceSub, Int.reduceAdd, Int.reduceLE, Int.reduceLT, Int.reduceToNat, Int.reduceNeg, Int.reduceNatCast', reduceCtorEq, Int32.reduceOfInt, Int32.reduceOfNat, Int32.reduceToNatClampNeg, Int32.reduceToInt, i10, i01, nEM, pe_X7_copyRow, pe_X7_crosses, pe_X7_putBack, hw, ci, n12 crx_le, j2_a, j2_60, j2_62, j2_m60, back (fun j hj => crr_hi hi hj)]
    exact ⟨bd h1 h2 rfl, h _⟩

theorem s_X7_behind {d : Nat} (hd : 7 ≤ d) : Snd d 163 pf_X7_behind := by
  intro args M k h
  unfold pf_X7_behind at h
  split at h
  · exact c_X7_behind hd h
  · exact h.elim
set_option maxRecDepth 100000 in
set_option maxHeartbeats 4000000 in
theorem lp_wouldFall {d : Nat} (hd : 7 ≤ d) {M : Mem} {k : Value → Mem → Prop} {m : Nat} (hm : m ≤ 6) (he : M 60 1 = nI m) : ∀ (n i : Nat) (s : Int32) (a : Nat → Int32), i + n = m → (∀ a, k (.int (stF (fun i => (crx (M 60) i).1 < 12) n i s)) (j2 M a (M 60))) → WP (7, yX7_wouldFall, cX7_wouldFall, 3, (some .int)) (d + 1) k 4 [.ref 59, .int s, .int (nI i)] [] (j2 M a (M 60)) := by
  intro n
  induction n with
  | zero =>
    intro i s a hi h
    have c1 : nI m ≤ nI i := nI_le (by omega) (by omega)
    refine goV (n := 80) [(159, pf_X7_wouldCross)] [4] (T_cons (s_X7_wouldCross hd) T_nil) ?_
    simp only [dX7_wouldFall_0, dX7_wouldFall_1, dX7_wouldFall_2, dX7_wouldFall_3, dX7_wouldFall_4, dX7_wouldFall_5, dX7_wouldFall_6, dX7_wouldFall_9, dX7_wouldFall_10, dX7_wouldFall_11, dX7_wouldFall_14, dX7_wouldFall_15, dX7_wouldFall_16, dX7_wouldFall_17, dX7_wouldFall_20, dX7_wouldFall_22, dX7_wouldFall_25, dX7_wouldFall_26, dX7_wouldFall_27, dX7_wouldFall_28, dX7_wouldFall_31, dX7_wouldFall_32, dX7_wouldFall_33, dX7_wouldFall_34, dX7_wouldFall_37, dX7_wouldFall_40, dX7_wouldFall_41, cr_7_161, fr_7_9, al_10, al_11, al_12, al_13, al_14, al_16, al_17, al_18, al_19, al_2, al_20, al_21, al_23, al_24, al_27, al_28, al_29, al_3, al_30, al_31, al_32, al_34, al_36, al_37, al_38, al_39, al_4, al_40, al_41, al_42, al_43, al_45, al_46, al_47, al_48, al_49, al_5, al_52, al_53, al_54, al_55, al_56, al_57, al_58, al_6, al_60, al_61, al_62, al_63, al_64, al_65, al_66, al_67, al_69, al_7, al_70, al_71, al_72, al_73, al_9, cat_i, cat_l, cat_r, cat_u, gf_6_0_59, pcl_0, pcl_1, pcl_100, pcl_101, pcl_102, pcl_103, pcl_104, pcl_105, pcl_106, pcl_107, pcl_108, pcl_109, pcl_110, pcl_111, pcl_112, pcl_15, pcl_22, pcl_25, pcl_26, pcl_33, pcl_44, pcl_50, pcl_59, pcl_8, rOK_i, rOK_z, v_aload_0, v_bipush_12, v_getfield, v_goto, v_iaload, v_ic_ge, v_iconst_0, v_iconst_1, v_iinc_2, v_iload_1, v_iload_2, v_invv, v_ior, v_ireturn, v_ishl, v_istore_1, v_istore_2, vcV_2_6, vgf_i, vgf_r, vgf_s, vc_d, rr_0, rr_1, csT_h, csT_t, csT_n, bI_0, bI_1, bI_z, bT, List.mem_cons, List.not_mem_nil, List.length_cons, List.length_nil, ite_not, ↓reduceIte, true_and, and_true, not_true_eq_false, not_false_eq_true, false_or, or_false, or_true, true_or, Nat.reduceAdd, Nat.reduceEqDiff, Nat.reduceBEq, Nat.reduceLeDiff, Nat.reduceLT, Nat.reduceSub, Int.reduceAdd, Int.reduceLE, Int.reduceLT, Int.reduceToNat, Int.reduceNeg, Int.reduceNatCast', reduceCtorEq, Int32.reduceOfInt, Int32.reduceOfNat, Int32.reduceToNatClampNeg, Int32.reduceToInt, i10, i01, nEM, j2_60, he, c1]
    exact h a
  | succ n ih =>
    intro i s a hi h
    have c1 : ¬ nI m ≤ nI i := nI_ge (by omega) (by omega)
    have c3 : (nI i).toNatClampNeg = i := nI_clamp (by omega)
    have ho := nOK (show i < 6 by omega)
    refine goV (n := 80) [(159, pf_X7_wouldCross)] [4] (T_cons (s_X7_wouldCross hd) T_nil) ?_
    simp only [dX7_wouldFall_0, dX7_wouldFall_1, dX7_wouldFall_2, dX7_wouldFall_3, dX7_wouldFall_4, dX7_wouldFall_5, dX7_wouldFall_6, dX7_wouldFall_9, dX7_wouldFall_10, dX7_wouldFall_11, dX7_wouldFall_14, dX7_wouldFall_15, dX7_wouldFall_16, dX7_wouldFall_17, dX7_wouldFall_20, dX7_wouldFall_22, dX7_wouldFall_25, dX7_wouldFall_26, dX7_wouldFall_27, dX7_wouldFall_28, dX7_wouldFall_31, dX7_wouldFall_32, dX7_wouldFall_33, dX7_wouldFall_34, dX7_wouldFall_37, dX7_wouldFall_40, dX7_wouldFall_41, cr_7_161, fr_7_9, al_10, al_11, al_12, al_13, al_14, al_16, al_17, al_18, al_19, al_2, al_20, al_21, al_23, al_24, al_27, al_28, al_29, al_3, al_30, al_31, al_32, al_34, al_36, al_37, al_38, al_39, al_4, al_40, al_41, al_42, al_43, al_45, al_46, al_47, al_48, al_49, al_5, al_52, al_53, al_54, al_55, al_56, al_57, al_58, al_6, al_60, al_61, al_62, al_63, al_64, al_65, al_66, al_67, al_69, al_7, al_70, al_71, al_72, al_73, al_9, cat_i, cat_l, cat_r, cat_u, gf_6_0_59, pcl_0, pcl_1, pcl_100, pcl_101, pcl_102, pcl_103, pcl_104, pcl_105, pcl_106, pcl_107, pcl_108, pcl_109, pcl_110, pcl_111, pcl_112, pcl_15, pcl_22, pcl_25, pcl_26, pcl_33, pcl_44, pcl_50, pcl_59, pcl_8, rOK_i, rOK_z, v_aload_0, v_bipush_12, v_getfield, v_goto, v_iaload, v_ic_ge, v_iconst_0, v_iconst_1, v_iinc_2, v_iload_1, v_iload_2, v_invv, v_ior, v_ireturn, v_ishl, v_istore_1, v_istore_2, vcV_2_6, vgf_i, vgf_r, vgf_s, vc_d, rr_0, rr_1, csT_h, csT_t, csT_n, bI_0, bI_1, bI_z, bT, List.mem_cons, List.not_mem_nil, List.length_cons, List.length_nil, ite_not, ↓reduceIte, true_and, and_true, not_true_eq_false, not_false_eq_true, false_or, or_false, or_true, true_or, Nat.reduceAdd, Nat.reduceEqDiff, Nat.reduceBEq, Nat.reduceLeDiff, Nat.reduceLT, Nat.reduceSub, Int.reduceAdd, Int.reduceLE, Int.reduceLT, Int.reduceToNat, Int.reduceNeg, Int.reduceNatCast', reduceCtorEq, Int32.reduceOfInt, Int32.reduceOfNat, Int32.reduceToNatClampNeg, Int32.reduceToInt, i10, i01, nEM, pe_X7_wouldCross, j2_60, j2_j2, he, c1, c3, ho, nI_1, or0, ge12 crx_le]
    intro a'
    by_cases hc : (crx (M 60) i).1 < 12
    · simp only [hc, not_true_eq_false, not_false_eq_true, if_true, if_false]
      exact ih (i + 1) _ _ (by omega) (fun a => by have := h a; rw [stF, if_pos hc] at this; exact this)
    · simp only [hc, not_true_eq_false, not_false_eq_true, if_true, if_false]
      exact ih (i + 1) _ _ (by omega) (fun a => by have := h a; rw [stF, if_neg hc] at this; exact this)
def pf_X7_wouldFall : PF := fun args M k => match args with
  | [.ref o] => (o = 59 ∧ IM (M 60)) ∧ (∀ a, k (.int (stF (fun i => (crx (M 60) i).1 < 12) (M 60 1).toNatClampNeg 0 0)) (j2 M a (M 60)))
  | _ => False
theorem pe_X7_wouldFall {o : Nat} {M : Mem} {k : Value → Mem → Prop} : pf_X7_wouldFall [.ref o] M k = ((o = 59 ∧ IM (M 60)) ∧ (∀ a, k (.int (stF (fun i => (crx (M 60) i).1 < 12) (M 60 1).toNatClampNeg 0 0)) (j2 M a (M 60)))) := rfl
theorem le_X7_wouldFall {o : Nat} : lent 3 ([.ref o] : List Value) = [.ref o, .retAddr 0, .retAddr 0] := rfl
set_option maxRecDepth 100000 in
set_option maxHeartbeats 4000000 in
theorem c_X7_wouldFall {d : Nat} (hd : 8 ≤ d) {o : Nat} {M : Mem} {k : Value → Mem → Prop} (h : (o = 59 ∧ IM (M 60)) ∧ (∀ a, k (.int (stF (fun i => (crx (M 60) i).1 < 12) (M 60 1).toNatClampNeg 0 0)) (j2 M a (M 60)))) : CallP d 160 [.ref o] M k := by
  obtain ⟨hp, h⟩ := h
  obtain ⟨d, rfl⟩ : ∃ d', d = d' + 1 := ⟨d - 1, by omega⟩
  obtain ⟨rfl, m, hm, he⟩ := hp
  · refine enterV (n := 80) [] [4] mI_160 (by decide) (Nat.le_of_ble_eq_true rfl) T_nil ?_
    rw [le_X7_wouldFall]
    simp only [dX7_wouldFall_0, dX7_wouldFall_1, dX7_wouldFall_2, dX7_wouldFall_3, dX7_wouldFall_4, dX7_wouldFall_5, dX7_wouldFall_6, dX7_wouldFall_9, dX7_wouldFall_10, dX7_wouldFall_11, dX7_wouldFall_14, dX7_wouldFall_15, dX7_wouldFall_16, dX7_wouldFall_17, dX7_wouldFall_20, dX7_wouldFall_22, dX7_wouldFall_25, dX7_wouldFall_26, dX7_wouldFall_27, dX7_wouldFall_28, dX7_wouldFall_31, dX7_wouldFall_32, dX7_wouldFall_33, dX7_wouldFall_34, dX7_wouldFall_37, dX7_wouldFall_40, dX7_wouldFall_41, cr_7_161, fr_7_9, al_10, al_11, al_12, al_13, al_14, al_16, al_17, al_18, al_19, al_2, al_20, al_21, al_23, al_24, al_27, al_28, al_29, al_3, al_30, al_31, al_32, al_34, al_36, al_37, al_38, al_39, al_4, al_40, al_41, al_42, al_43, al_45, al_46, al_47, al_48, al_49, al_5, al_52, al_53, al_54, al_55, al_56, al_57, al_58, al_6, al_60, al_61, al_62, al_63, al_64, al_65, al_66, al_67, al_69, al_7, al_70, al_71, al_72, al_73, al_9, cat_i, cat_l, cat_r, cat_u, gf_6_0_59, pcl_0, pcl_1, pcl_100, pcl_101, pcl_102, pcl_103, pcl_104, pcl_105, pcl_106, pcl_107, pcl_108, pcl_109, pcl_110, pcl_111, pcl_112, pcl_15, pcl_22, pcl_25, pcl_26, pcl_33, pcl_44, pcl_50, pcl_59, pcl_8, rOK_i, rOK_z, v_aload_0, v_bipush_12, v_getfield, v_goto, v_iaload, v_ic_ge, v_iconst_0, v_iconst_1, v_iinc_2, v_iload_1, v_iload_2, v_invv, v_ior, v_ireturn, v_ishl, v_istore_1, v_istore_2, vcV_2_6, vgf_i, vgf_r, vgf_s, vc_d, rr_0, rr_1, csT_h, csT_t, csT_n, bI_0, bI_1, bI_z, bT, List.mem_cons, List.not_mem_nil, List.length_cons, List.length_nil, ite_not, ↓reduceIte, true_and, and_true, not_true_eq_false, not_false_eq_true, false_or, or_false, or_true, true_or, Nat.reduceAdd, Nat.reduceEqDiff, Nat.reduceBEq, Nat.reduceLeDiff, Nat.reduceLT, Nat.reduceSub, Int.reduceAdd, Int.reduceLE, Int.reduceLT, Int.reduceToNat, Int.reduceNeg, Int.reduceNatCast', reduceCtorEq, Int32.reduceOfInt, Int32.reduceOfNat, Int32.reduceToNatClampNeg, Int32.reduceToInt, i10, i01, nEM]
    rw [he, nI_clamp (by omega)] at h
    have := lp_wouldFall (d := d) (by omega) (k := k) hm he m 0 0 (M 62) (by omega) h
    rw [j2_self] at this
    exact this

theorem s_X7_wouldFall {d : Nat} (hd : 8 ≤ d) : Snd d 160 pf_X7_wouldFall := by
  intro args M k h
  unfold pf_X7_wouldFall at h
  split at h
  · exact c_X7_wouldFall hd h
  · exact h.elim
set_option maxRecDepth 100000 in
set_option maxHeartbeats 4000000 in
theorem lp_sumOf {d : Nat} (hd : 2 ≤ d) {M : Mem} {k : Value → Mem → Prop} {m f : Nat} (hf : f < 4) (hm : m ≤ 6) (he : M 60 1 = nI m) : ∀ (n i : Nat) (s : Int32), i + n = m → k (.int (sumF (fun i => M 60 (wf i f)) n i s)) M → WP (7, yX7_sumOf, cX7_sumOf, 4, (some .int)) (d + 1) k 4 [.ref 59, .int (nI f), .int s, .int (nI i)] [] M := by
  intro n
  induction n with
  | zero =>
    intro i s hi h
    have c1 : nI m ≤ nI i := nI_le (by omega) (by omega)
    refine goV (n := 80) [(139, pf_X7_walkerIs)] [4] (T_cons (s_X7_walkerIs hd) T_nil) ?_
    simp only [dX7_sumOf_0, dX7_sumOf_1, dX7_sumOf_2, dX7_sumOf_3, dX7_sumOf_4, dX7_sumOf_5, dX7_sumOf_6, dX7_sumOf_9, dX7_sumOf_10, dX7_sumOf_11, dX7_sumOf_14, dX7_sumOf_15, dX7_sumOf_16, dX7_sumOf_17, dX7_sumOf_18, dX7_sumOf_21, dX7_sumOf_22, dX7_sumOf_23, dX7_sumOf_26, dX7_sumOf_29, dX7_sumOf_30, cr_7_113, fr_7_9, al_10, al_11, al_12, al_13, al_14, al_16, al_17, al_18, al_19, al_2, al_20, al_21, al_23, al_24, al_27, al_28, al_29, al_3, al_30, al_31, al_32, al_34, al_36, al_37, al_38, al_39, al_4, al_40, al_41, al_42, al_43, al_45, al_46, al_47, al_48, al_49, al_5, al_52, al_53, al_54, al_55, al_56, al_57, al_58, al_6, al_60, al_61, al_62, al_63, al_64, al_65, al_66, al_67, al_69, al_7, al_70, al_71, al_72, al_73, al_9, cat_i, cat_l, cat_r, cat_u, gf_6_0_59, pcl_0, pcl_1, pcl_100, pcl_101, pcl_102, pcl_103, pcl_104, pcl_105, pcl_106, pcl_107, pcl_108, pcl_109, pcl_110, pcl_111, pcl_112, pcl_15, pcl_22, pcl_25, pcl_26, pcl_33, pcl_44, pcl_50, pcl_59, pcl_8, rOK_i, rOK_z, v_aload_0, v_getfield, v_goto, v_iadd, v_iaload, v_ic_ge, v_iconst_0, v_iconst_1, v_iinc_3, v_iload_1, v_iload_2, v_iload_3, v_invv, v_ireturn, v_istore_2, v_istore_3, vcV_3_6, vgf_i, vgf_r, vgf_s, vc_d, rr_0, rr_1, csT_h, csT_t, csT_n, bI_0, bI_1, bI_z, bT, List.mem_cons, List.not_mem_nil, List.length_cons, List.length_nil, ite_not, ↓reduceIte, true_and, and_true, not_true_eq_false, not_false_eq_true, false_or, or_false, or_true, true_or, Nat.reduceAdd, Nat.reduceEqDiff, Nat.reduceBEq, Nat.reduceLeDiff, Nat.reduceLT, Nat.reduceSub, Int.reduceAdd, Int.reduceLE, Int.reduceLT, Int.reduceToNat, Int.reduceNeg, Int.reduceNatCast', reduceCtorEq, Int32.reduceOfInt, Int32.reduceOfNat, Int32.reduceToNatClampNeg, Int32.reduceToInt, i10, i01, nEM, he, c1]
    exact h
  | succ n ih =>
    intro i s hi h
    have c1 : ¬ nI m ≤ nI i := nI_ge (by omega) (by omega)
    have c3 : (nI i).toNatClampNeg = i := nI_clamp (by omega)
    have cf : (nI f).toNatClampNeg = f := nI_clamp (by omega)
    have f1 : ¬ nI f < 0 := nI_pos (by omega)
    have f2 : ¬ 4 ≤ nI f := nI_ge (b := 4) hf (by decide)
    have ho := nOK (show i < 6 by omega)
    refine goV (n := 80) [(139, pf_X7_walkerIs)] [4] (T_cons (s_X7_walkerIs hd) T_nil) ?_
    simp only [dX7_sumOf_0, dX7_sumOf_1, dX7_sumOf_2, dX7_sumOf_3, dX7_sumOf_4, dX7_sumOf_5, dX7_sumOf_6, dX7_sumOf_9, dX7_sumOf_10, dX7_sumOf_11, dX7_sumOf_14, dX7_sumOf_15, dX7_sumOf_16, dX7_sumOf_17, dX7_sumOf_18, dX7_sumOf_21, dX7_sumOf_22, dX7_sumOf_23, dX7_sumOf_26, dX7_sumOf_29, dX7_sumOf_30, cr_7_113, fr_7_9, al_10, al_11, al_12, al_13, al_14, al_16, al_17, al_18, al_19, al_2, al_20, al_21, al_23, al_24, al_27, al_28, al_29, al_3, al_30, al_31, al_32, al_34, al_36, al_37, al_38, al_39, al_4, al_40, al_41, al_42, al_43, al_45, al_46, al_47, al_48, al_49, al_5, al_52, al_53, al_54, al_55, al_56, al_57, al_58, al_6, al_60, al_61, al_62, al_63, al_64, al_65, al_66, al_67, al_69, al_7, al_70, al_71, al_72, al_73, al_9, cat_i, cat_l, cat_r, cat_u, gf_6_0_59, pcl_0, pcl_1, pcl_100, pcl_101, pcl_102, pcl_103, pcl_104, pcl_105, pcl_106, pcl_107, pcl_108, pcl_109, pcl_110, pcl_111, pcl_112, pcl_15, pcl_22, pcl_25, pcl_26, pcl_33, pcl_44, pcl_50, pcl_59, pcl_8, rOK_i, rOK_z, v_aload_0, v_getfield, v_goto, v_iadd, v_iaload, v_ic_ge, v_iconst_0, v_iconst_1, v_iinc_3, v_iload_1, v_iload_2, v_iload_3, v_invv, v_ireturn, v_istore_2, v_istore_3, vcV_3_6, vgf_i, vgf_r, vgf_s, vc_d, rr_0, rr_1, csT_h, csT_t, csT_n, bI_0, bI_1, bI_z, bT, List.mem_cons, List.not_mem_nil, List.length_cons, List.length_nil, ite_not, ↓reduceIte, true_and, and_true, not_true_eq_false, not_false_eq_true, false_or, or_false, or_true, true_or, Nat.reduceAdd, Nat.reduceEqDiff, Nat.reduceBEq, Nat.reduceLeDiff, Nat.reduceLT, Nat.reduceSub, Int.reduceAdd, Int.reduceLE, Int.reduceLT, Int.reduceToNat, Int.reduceNeg, Int.reduceNatCast', reduceCtorEq, Int32.reduceOfInt, Int32.reduceOfNat, Int32.reduceToNatClampNeg, Int32.reduceToInt, i10, i01, nEM, pe_X7_walkerIs, he, c1, c3, cf, f1, f2, ho, nI_1]
    exact ih (i + 1) _ (by omega) h
def pf_X7_sumOf : PF := fun args M k => match args with
  | [.ref o, .int f] => (o = 59 ∧ IM (M 60) ∧ ¬ f < 0 ∧ ¬ 4 ≤ f) ∧ (k (.int (sumF (fun i => M 60 (wf i (f).toNatClampNeg)) (M 60 1).toNatClampNeg 0 0)) M)
  | _ => False
theorem pe_X7_sumOf {o : Nat} {f : Int32} {M : Mem} {k : Value → Mem → Prop} : pf_X7_sumOf [.ref o, .int f] M k = ((o = 59 ∧ IM (M 60) ∧ ¬ f < 0 ∧ ¬ 4 ≤ f) ∧ (k (.int (sumF (fun i => M 60 (wf i (f).toNatClampNeg)) (M 60 1).toNatClampNeg 0 0)) M)) := rfl
theorem le_X7_sumOf {o : Nat} {f : Int32} : lent 4 ([.ref o, .int f] : List Value) = [.ref o, .int f, .retAddr 0, .retAddr 0] := rfl
set_option maxRecDepth 100000 in
set_option maxHeartbeats 4000000 in
theorem c_X7_sumOf {d : Nat} (hd : 3 ≤ d) {o : Nat} {f : Int32} {M : Mem} {k : Value → Mem → Prop} (h : (o = 59 ∧ IM (M 60) ∧ ¬ f < 0 ∧ ¬ 4 ≤ f) ∧ (k (.int (sumF (fun i => M 60 (wf i (f).toNatClampNeg)) (M 60 1).toNatClampNeg 0 0)) M)) : CallP d 157 [.ref o, .int f] M k := by
  obtain ⟨hp, h⟩ := h
  obtain ⟨d, rfl⟩ : ∃ d', d = d' + 1 := ⟨d - 1, by omega⟩
  obtain ⟨rfl, ⟨m, hm, he⟩, h1, h2⟩ := hp
  obtain ⟨j, hj, rfl⟩ := f4_n h1 h2
  · refine enterV (n := 80) [] [4] mI_157 (by decide) (Nat.le_of_ble_eq_true rfl) T_nil ?_
    rw [le_X7_sumOf]
    simp only [dX7_sumOf_0, dX7_sumOf_1, dX7_sumOf_2, dX7_sumOf_3, dX7_sumOf_4, dX7_sumOf_5, dX7_sumOf_6, dX7_sumOf_9, dX7_sumOf_10, dX7_sumOf_11, dX7_sumOf_14, dX7_sumOf_15, dX7_sumOf_16, dX7_sumOf_17, dX7_sumOf_18, dX7_sumOf_21, dX7_sumOf_22, dX7_sumOf_23, dX7_sumOf_26, dX7_sumOf_29, dX7_sumOf_30, cr_7_113, fr_7_9, al_10, al_11, al_12, al_13, al_14, al_16, al_17, al_18, al_19, al_2, al_20, al_21, al_23, al_24, al_27, al_28, al_29, al_3, al_30, al_31, al_32, al_34, al_36, al_37, al_38, al_39, al_4, al_40, al_41, al_42, al_43, al_45, al_46, al_47, al_48, al_49, al_5, al_52, al_53, al_54, al_55, al_56, al_57, al_58, al_6, al_60, al_61, al_62, al_63, al_64, al_65, al_66, al_67, al_69, al_7, al_70, al_71, al_72, al_73, al_9, cat_i, cat_l, cat_r, cat_u, gf_6_0_59, pcl_0, pcl_1, pcl_100, pcl_101, pcl_102, pcl_103, pcl_104, pcl_105, pcl_106, pcl_107, pcl_108, pcl_109, pcl_110, pcl_111, pcl_112, pcl_15, pcl_22, pcl_25, pcl_26, pcl_33, pcl_44, pcl_50, pcl_59, pcl_8, rOK_i, rOK_z, v_aload_0, v_getfield, v_goto, v_iadd, v_iaload, v_ic_ge, v_iconst_0, v_iconst_1, v_iinc_3, v_iload_1, v_iload_2, v_iload_3, v_invv, v_ireturn, v_istore_2, v_istore_3, vcV_3_6, vgf_i, vgf_r, vgf_s, vc_d, rr_0, rr_1, csT_h, csT_t, csT_n, bI_0, bI_1, bI_z, bT, List.mem_cons, List.not_mem_nil, List.length_cons, List.length_nil, ite_not, ↓reduceIte, true_and, and_true, not_true_eq_false, not_false_eq_true, false_or, or_false, or_true, true_or, Nat.reduceAdd, Nat.reduceEqDiff, Nat.reduceBEq, Nat.reduceLeDiff, Nat.reduceLT, Nat.reduceSub, Int.reduceAdd, Int.reduceLE, Int.reduceLT, Int.reduceToNat, Int.reduceNeg, Int.reduceNatCast', reduceCtorEq, Int32.reduceOfInt, Int32.reduceOfNat, Int32.reduceToNatClampNeg, Int32.reduceToInt, i10, i01, nEM]
    rw [he, nI_clamp (show m < 2 ^ 31 by omega), nI_clamp (show j < 2 ^ 31 by omega)] at h
    exact lp_sumOf (by omega) hj hm he m 0 0 (by omega) h

theorem s_X7_sumOf {d : Nat} (hd : 3 ≤ d) : Snd d 157 pf_X7_sumOf := by
  intro args M k h
  unfold pf_X7_sumOf at h
  split at h
  · exact c_X7_sumOf hd h
  · exact h.elim
set_option maxRecDepth 100000 in
set_option maxHeartbeats 4000000 in
theorem lp_keptAll {d : Nat} {M : Mem} {k : Value → Mem → Prop} : ∀ (n i : Nat) (s : Int32), i + n = 12 → k (.int (sumF (plr (M 60)) n i s)) M → WP (7, yX7_keptAll, cX7_keptAll, 3, (some .int)) (d + 1) k 4 [.ref 59, .int s, .int (nI i)] [] M := by
  intro n
  induction n with
  | zero =>
    intro i s hi h
    have : i = 12 := by omega
    subst this
    refine goV (n := 80) [] [4] T_nil ?_
    simp only [dX7_keptAll_0, dX7_keptAll_1, dX7_keptAll_2, dX7_keptAll_3, dX7_keptAll_4, dX7_keptAll_5, dX7_keptAll_7, dX7_keptAll_10, dX7_keptAll_11, dX7_keptAll_12, dX7_keptAll_15, dX7_keptAll_17, dX7_keptAll_18, dX7_keptAll_19, dX7_keptAll_20, dX7_keptAll_21, dX7_keptAll_22, dX7_keptAll_25, dX7_keptAll_28, dX7_keptAll_29, fr_7_9, al_10, al_11, al_12, al_13, al_14, al_16, al_17, al_18, al_19, al_2, al_20, al_21, al_23, al_24, al_27, al_28, al_29, al_3, al_30, al_31, al_32, al_34, al_36, al_37, al_38, al_39, al_4, al_40, al_41, al_42, al_43, al_45, al_46, al_47, al_48, al_49, al_5, al_52, al_53, al_54, al_55, al_56, al_57, al_58, al_6, al_60, al_61, al_62, al_63, al_64, al_65, al_66, al_67, al_69, al_7, al_70, al_71, al_72, al_73, al_9, cat_i, cat_l, cat_r, cat_u, gf_6_0_59, rOK_i, rOK_z, v_aload_0, v_bipush_12, v_bipush_14, v_getfield, v_goto, v_iadd, v_iaload, v_ic_ge, v_iconst_0, v_iinc_2, v_iload_1, v_iload_2, v_ireturn, v_istore_1, v_istore_2, vgf_i, vgf_r, vgf_s, vc_d, rr_0, rr_1, csT_h, csT_t, csT_n, bI_0, bI_1, bI_z, bT, List.mem_cons, List.not_mem_nil, List.length_cons, List.length_nil, ite_not, ↓reduceIte, true_and, and_true, not_true_eq_false, not_false_eq_true, false_or, or_false, or_true, true_or, Nat.reduceAdd, Nat.reduceEqDiff, Nat.reduceBEq, Nat.reduceLeDiff, Nat.reduceLT, Nat.reduceSub, Int.reduceAdd, Int.reduceLE, Int.reduceLT, Int.reduceToNat, Int.reduceNeg, Int.reduceNatCast', reduceCtorEq, Int32.reduceOfInt, Int32.reduceOfNat, Int32.reduceToNatClampNeg, Int32.reduceToInt, i10, i01, nEM, show (12 : Int32) ≤ nI 12 from by decide]
    exact h
  | succ n ih =>
    intro i s hi h
    have c1 : ¬ (12 : Int32) ≤ nI i := nI_ge (b := 12) (by omega) (by decide)
    have c2 : (nI (14 + i)).toInt = ((14 + i : Nat) : Int) := nI_toInt (by omega)
    have c3 : (nI (14 + i)).toNatClampNeg = 14 + i := nI_clamp (by omega)
    refine goV (n := 80) [] [4] T_nil ?_
    simp only [dX7_keptAll_0, dX7_keptAll_1, dX7_keptAll_2, dX7_keptAll_3, dX7_keptAll_4, dX7_keptAll_5, dX7_keptAll_7, dX7_keptAll_10, dX7_keptAll_11, dX7_keptAll_12, dX7_keptAll_15, dX7_keptAll_17, dX7_keptAll_18, dX7_keptAll_19, dX7_keptAll_20, dX7_keptAll_21, dX7_keptAll_22, dX7_keptAll_25, dX7_keptAll_28, dX7_keptAll_29, fr_7_9, al_10, al_11, al_12, al_13, al_14, al_16, al_17, al_18, al_19, al_2, al_20, al_21, al_23, al_24, al_27, al_28, al_29, al_3, al_30, al_31, al_32, al_34, al_36, al_37, al_38, al_39, al_4, al_40, al_41, al_42, al_43, al_45, al_46, al_47, al_48, al_49, al_5, al_52, al_53, al_54, al_55, al_56, al_57, al_58, al_6, al_60, al_61, al_62, al_63, al_64, al_65, al_66, al_67, al_69, al_7, al_70, al_71, al_72, al_73, al_9, cat_i, cat_l, cat_r, cat_u, gf_6_0_59, rOK_i, rOK_z, v_aload_0, v_bipush_12, v_bipush_14, v_getfield, v_goto, v_iadd, v_iaload, v_ic_ge, v_iconst_0, v_iinc_2, v_iload_1, v_iload_2, v_ireturn, v_istore_1, v_istore_2, vgf_i, vgf_r, vgf_s, vc_d, rr_0, rr_1, csT_h, csT_t, csT_n, bI_0, bI_1, bI_z, bT, List.mem_cons, List.not_mem_nil, List.length_cons, List.length_nil, ite_not, ↓reduceIte, true_and, and_true, not_true_eq_false, not_false_eq_true, false_or, or_false, or_true, true_or, Nat.reduceAdd, Nat.reduceEqDiff, Nat.reduceBEq, Nat.reduceLeDiff, Nat.reduceLT, Nat.reduceSub, Int.reduceAdd, Int.reduceLE, Int.reduceLT, Int.reduceToNat, Int.reduceNeg, Int.reduceNatCast', reduceCtorEq, Int32.reduceOfInt, Int32.reduceOfNat, Int32.reduceToNatClampNeg, Int32.reduceToInt, i10, i01, nEM, c1, p14, c2, c3, nI_1]
    exact ⟨by omega, ih (i + 1) _ (by omega) h⟩
def pf_X7_keptAll : PF := fun args M k => match args with
  | [.ref o] => (o = 59) ∧ (k (.int (sumF (plr (M 60)) 12 0 0)) M)
  | _ => False
theorem pe_X7_keptAll {o : Nat} {M : Mem} {k : Value → Mem → Prop} : pf_X7_keptAll [.ref o] M k = ((o = 59) ∧ (k (.int (sumF (plr (M 60)) 12 0 0)) M)) := rfl
theorem le_X7_keptAll {o : Nat} : lent 3 ([.ref o] : List Value) = [.ref o, .retAddr 0, .retAddr 0] := rfl
set_option maxRecDepth 100000 in
set_option maxHeartbeats 4000000 in
theorem c_X7_keptAll {d : Nat} (hd : 1 ≤ d) {o : Nat} {M : Mem} {k : Value → Mem → Prop} (h : (o = 59) ∧ (k (.int (sumF (plr (M 60)) 12 0 0)) M)) : CallP d 158 [.ref o] M k := by
  obtain ⟨hp, h⟩ := h
  obtain ⟨d, rfl⟩ : ∃ d', d = d' + 1 := ⟨d - 1, by omega⟩
  obtain rfl := hp
  · refine enterV (n := 80) [] [4] mI_158 (by decide) (Nat.le_of_ble_eq_true rfl) T_nil ?_
    rw [le_X7_keptAll]
    simp only [dX7_keptAll_0, dX7_keptAll_1, dX7_keptAll_2, dX7_keptAll_3, dX7_keptAll_4, dX7_keptAll_5, dX7_keptAll_7, dX7_keptAll_10, dX7_keptAll_11, dX7_keptAll_12, dX7_keptAll_15, dX7_keptAll_17, dX7_keptAll_18, dX7_keptAll_19, dX7_keptAll_20, dX7_keptAll_21, dX7_keptAll_22, dX7_keptAll_25, dX7_keptAll_28, dX7_keptAll_29, fr_7_9, al_10, al_11, al_12, al_13, al_14, al_16, al_17, al_18, al_19, al_2, al_20, al_21, al_23, al_24, al_27, al_28, al_29, al_3, al_30, al_31, al_32, al_34, al_36, al_37, al_38, al_39, al_4, al_40, al_41, al_42, al_43, al_45, al_46, al_47, al_48, al_49, al_5, al_52, al_53, al_54, al_55, al_56, al_57, al_58, al_6, al_60, al_61, al_62, al_63, al_64, al_65, al_66, al_67, al_69, al_7, al_70, al_71, al_72, al_73, al_9, cat_i, cat_l, cat_r, cat_u, gf_6_0_59, rOK_i, rOK_z, v_aload_0, v_bipush_12, v_bipush_14, v_getfield, v_goto, v_iadd, v_iaload, v_ic_ge, v_iconst_0, v_iinc_2, v_iload_1, v_iload_2, v_ireturn, v_istore_1, v_istore_2, vgf_i, vgf_r, vgf_s, vc_d, rr_0, rr_1, csT_h, csT_t, csT_n, bI_0, bI_1, bI_z, bT, List.mem_cons, List.not_mem_nil, List.length_cons, List.length_nil, ite_not, ↓reduceIte, true_and, and_true, not_true_eq_false, not_false_eq_true, false_or, or_false, or_true, true_or, Nat.reduceAdd, Nat.reduceEqDiff, Nat.reduceBEq, Nat.reduceLeDiff, Nat.reduceLT, Nat.reduceSub, Int.reduceAdd, Int.reduceLE, Int.reduceLT, Int.reduceToNat, Int.reduceNeg, Int.reduceNatCast', reduceCtorEq, Int32.reduceOfInt, Int32.reduceOfNat, Int32.reduceToNatClampNeg, Int32.reduceToInt, i10, i01, nEM]
    exact lp_keptAll 12 0 0 rfl h

theorem s_X7_keptAll {d : Nat} (hd : 1 ≤ d) : Snd d 158 pf_X7_keptAll := by
  intro args M k h
  unfold pf_X7_keptAll at h
  split at h
  · exact c_X7_keptAll hd h
  · exact h.elim
def pf_X7_now : PF := fun args M k => match args with
  | [.ref o, .int q] => (o = 59 ∧ IM (M 60)) ∧ (if q = 0 then k (.int (M 60 0)) M else if q = 1 then k (.int (sumF (plr (M 60)) 12 0 0)) M else if q = 2 then (∀ a, k (.int (stF (fun i => (crx (M 60) i).1 < 12) (M 60 1).toNatClampNeg 0 0)) (j2 M a (M 60))) else if q = 3 then k (.int (M 60 3)) M else if q = 4 then k (.int (sumF (fun i => M 60 (wf i 3)) (M 60 1).toNatClampNeg 0 0)) M else if q = 5 then k (.int (sumF (fun i => M 60 (wf i 1)) (M 60 1).toNatClampNeg 0 0)) M else k (.int (-1000001)) (fndM M 0))
  | _ => False
theorem pe_X7_now {o : Nat} {q : Int32} {M : Mem} {k : Value → Mem → Prop} : pf_X7_now [.ref o, .int q] M k = ((o = 59 ∧ IM (M 60)) ∧ (if q = 0 then k (.int (M 60 0)) M else if q = 1 then k (.int (sumF (plr (M 60)) 12 0 0)) M else if q = 2 then (∀ a, k (.int (stF (fun i => (crx (M 60) i).1 < 12) (M 60 1).toNatClampNeg 0 0)) (j2 M a (M 60))) else if q = 3 then k (.int (M 60 3)) M else if q = 4 then k (.int (sumF (fun i => M 60 (wf i 3)) (M 60 1).toNatClampNeg 0 0)) M else if q = 5 then k (.int (sumF (fun i => M 60 (wf i 1)) (M 60 1).toNatClampNeg 0 0)) M else k (.int (-1000001)) (fndM M 0))) := rfl
theorem le_X7_now {o : Nat} {q : Int32} : lent 2 ([.ref o, .int q] : List Value) = [.ref o, .int q] := rfl
set_option maxRecDepth 100000 in
set_option maxHeartbeats 4000000 in
theorem c_X7_now {d : Nat} (hd : 9 ≤ d) {o : Nat} {q : Int32} {M : Mem} {k : Value → Mem → Prop} (h : (o = 59 ∧ IM (M 60)) ∧ (if q = 0 then k (.int (M 60 0)) M else if q = 1 then k (.int (sumF (plr (M 60)) 12 0 0)) M else if q = 2 then (∀ a, k (.int (stF (fun i => (crx (M 60) i).1 < 12) (M 60 1).toNatClampNeg 0 0)) (j2 M a (M 60))) else if q = 3 then k (.int (M 60 3)) M else if q = 4 then k (.int (sumF (fun i => M 60 (wf i 3)) (M 60 1).toNatClampNeg 0 0)) M else if q = 5 then k (.int (sumF (fun i => M 60 (wf i 1)) (M 60 1).toNatClampNeg 0 0)) M else k (.int (-1000001)) (fndM M 0))) : CallP d 161 [.ref o, .int q] M k := by
  obtain ⟨hp, h⟩ := h
  obtain ⟨d, rfl⟩ : ∃ d', d = d' + 1 := ⟨d - 1, by omega⟩
  obtain ⟨rfl, hI⟩ := hp
  · refine enterV (n := 80) [(158, pf_X7_keptAll), (160, pf_X7_wouldFall), (157, pf_X7_sumOf), (125, pf_X7_finding)] [] mI_161 (by decide) (Nat.le_of_ble_eq_true rfl) (T_cons (s_X7_keptAll (by omega)) (T_cons (s_X7_wouldFall (by omega)) (T_cons (s_X7_sumOf (by omega)) (T_cons (s_X7_finding (by omega)) T_nil)))) ?_
    rw [le_X7_now]
    simp only [dX7_now_0, dX7_now_1, dX7_now_40, dX7_now_41, dX7_now_44, dX7_now_45, dX7_now_46, dX7_now_47, dX7_now_48, dX7_now_51, dX7_now_52, dX7_now_53, dX7_now_56, dX7_now_57, dX7_now_58, dX7_now_61, dX7_now_62, dX7_now_63, dX7_now_64, dX7_now_65, dX7_now_66, dX7_now_69, dX7_now_70, dX7_now_71, dX7_now_72, dX7_now_75, dX7_now_76, dX7_now_77, dX7_now_79, dX7_now_82, cr_7_164, cr_7_168, cr_7_171, cr_7_75, fr_7_9, kr_7_69, skr_7_69, al_10, al_11, al_12, al_13, al_14, al_16, al_17, al_18, al_19, al_2, al_20, al_21, al_23, al_24, al_27, al_28, al_29, al_3, al_30, al_31, al_32, al_34, al_36, al_37, al_38, al_39, al_4, al_40, al_41, al_42, al_43, al_45, al_46, al_47, al_48, al_49, al_5, al_52, al_53, al_54, al_55, al_56, al_57, al_58, al_6, al_60, al_61, al_62, al_63, al_64, al_65, al_66, al_67, al_69, al_7, al_70, al_71, al_72, al_73, al_9, gf_6_0_59, pcl_0, pcl_1, pcl_100, pcl_101, pcl_102, pcl_103, pcl_104, pcl_105, pcl_106, pcl_107, pcl_108, pcl_109, pcl_110, pcl_111, pcl_112, pcl_15, pcl_22, pcl_25, pcl_26, pcl_33, pcl_44, pcl_50, pcl_59, pcl_8, rOK_i, rOK_z, v_aload_0, v_getfield, v_iaload, v_iconst_0, v_iconst_1, v_iconst_3, v_iload_1, v_invv, v_ireturn, v_ldc, v_table, vcV_1_6, vcV_2_6, vgf_i, vgf_r, vgf_s, vld_i, vld_s, vtab_c, vtab_n, vc_d, rr_0, rr_1, csT_h, csT_t, csT_n, bI_0, bI_1, bI_z, bT, List.mem_cons, List.not_mem_nil, List.length_cons, List.length_nil, ite_not, ↓reduceIte, true_and, and_true, not_true_eq_false, not_false_eq_true, false_or, or_false, or_true, true_or, Nat.reduceAdd, Nat.reduceEqDiff, Nat.reduceBEq, Nat.reduceLeDiff, Nat.reduceLT, Nat.reduceSub, Int.reduceAdd, Int.reduceLE, Int.reduceLT, Int.reduceToNat, Int.reduceNeg, Int.reduceNatCast', reduceCtorEq, Int32.reduceOfInt, Int32.reduceOfNat, Int32.reduceToNatClampNeg, Int32.reduceToInt, i10, i01, nEM, pe_X7_keptAll, pe_X7_wouldFall, pe_X7_sumOf, fn_0, fn_1, fn_2, fn_3, fn_4, fn_5, fn_6, hI, Array.toList, List.length_cons, Int.reduceSub, Int32.reduceLT, Int32.reduceLE, not_false_eq_true]
    exact h

theorem s_X7_now {d : Nat} (hd : 9 ≤ d) : Snd d 161 pf_X7_now := by
  intro args M k h
  unfold pf_X7_now at h
  split at h
  · exact c_X7_now hd h
  · exact h.elim
def pf_X7_would : PF := fun args M k => match args with
  | [.ref o, .int w] => (o = 59 ∧ IM (M 60)) ∧ (if hasM (M 60) w then ∀ a, k (.int (nI (crx (M 60) (w).toNatClampNeg).1)) (j2 M a (M 60)) else k (.int (-1000001)) (fndM M 0))
  | _ => False
theorem pe_X7_would {o : Nat} {w : Int32} {M : Mem} {k : Value → Mem → Prop} : pf_X7_would [.ref o, .int w] M k = ((o = 59 ∧ IM (M 60)) ∧ (if hasM (M 60) w then ∀ a, k (.int (nI (crx (M 60) (w).toNatClampNeg).1)) (j2 M a (M 60)) else k (.int (-1000001)) (fndM M 0))) := rfl
theorem le_X7_would {o : Nat} {w : Int32} : lent 2 ([.ref o, .int w] : List Value) = [.ref o, .int w] := rfl
set_option maxRecDepth 100000 in
set_option maxHeartbeats 4000000 in
theorem c_X7_would {d : Nat} (hd : 8 ≤ d) {o : Nat} {w : Int32} {M : Mem} {k : Value → Mem → Prop} (h : (o = 59 ∧ IM (M 60)) ∧ (if hasM (M 60) w then ∀ a, k (.int (nI (crx (M 60) (w).toNatClampNeg).1)) (j2 M a (M 60)) else k (.int (-1000001)) (fndM M 0))) : CallP d 162 [.ref o, .int w] M k := by
  obtain ⟨hp, h⟩ := h
  obtain ⟨d, rfl⟩ : ∃ d', d = d' + 1 := ⟨d - 1, by omega⟩
  obtain ⟨rfl, hI⟩ := hp
  · refine enterV (n := 80) [(136, pf_X7_isWalker), (159, pf_X7_wouldCross), (125, pf_X7_finding)] [] mI_162 (by decide) (Nat.le_of_ble_eq_true rfl) (T_cons (s_X7_isWalker (by omega)) (T_cons (s_X7_wouldCross (by omega)) (T_cons (s_X7_finding (by omega)) T_nil))) ?_
    rw [le_X7_would]
    simp only [dX7_would_0, dX7_would_1, dX7_would_2, dX7_would_5, dX7_would_8, dX7_would_9, dX7_would_10, dX7_would_13, dX7_would_16, dX7_would_17, dX7_would_19, dX7_would_22, cr_7_126, cr_7_161, cr_7_75, kr_7_69, skr_7_69, al_10, al_11, al_12, al_13, al_14, al_16, al_17, al_18, al_19, al_2, al_20, al_21, al_23, al_24, al_27, al_28, al_29, al_3, al_30, al_31, al_32, al_34, al_36, al_37, al_38, al_39, al_4, al_40, al_41, al_42, al_43, al_45, al_46, al_47, al_48, al_49, al_5, al_52, al_53, al_54, al_55, al_56, al_57, al_58, al_6, al_60, al_61, al_62, al_63, al_64, al_65, al_66, al_67, al_69, al_7, al_70, al_71, al_72, al_73, al_9, pcl_0, pcl_1, pcl_100, pcl_101, pcl_102, pcl_103, pcl_104, pcl_105, pcl_106, pcl_107, pcl_108, pcl_109, pcl_110, pcl_111, pcl_112, pcl_15, pcl_22, pcl_25, pcl_26, pcl_33, pcl_44, pcl_50, pcl_59, pcl_8, rOK_i, rOK_z, v_aload_0, v_goto, v_if_eq, v_iload_1, v_invv, v_ireturn, v_ldc, vcV_2_6, vld_i, vld_s, vc_d, rr_0, rr_1, csT_h, csT_t, csT_n, bI_0, bI_1, bI_z, bT, List.mem_cons, List.not_mem_nil, List.length_cons, List.length_nil, ite_not, ↓reduceIte, true_and, and_true, not_true_eq_false, not_false_eq_true, false_or, or_false, or_true, true_or, Nat.reduceAdd, Nat.reduceEqDiff, Nat.reduceBEq, Nat.reduceLeDiff, Nat.reduceLT, Nat.reduceSub, Int.reduceAdd, Int.reduceLE, Int.reduceLT, Int.reduceToNat, Int.reduceNeg, Int.reduceNatCast', reduceCtorEq, Int32.reduceOfInt, Int32.reduceOfNat, Int32.reduceToNatClampNeg, Int32.reduceToInt, i10, i01, nEM, pe_X7_isWalker, pe_X7_wouldCross, fn_0, fn_1, fn_2, fn_3, fn_4, fn_5, fn_6, hI]
    by_cases h1 : hasM (M 60) w
    · rw [if_pos h1] at h ⊢
      exact ⟨hasM_o h1, h⟩
    · rw [if_neg h1] at h ⊢
      exact h

theorem s_X7_would {d : Nat} (hd : 8 ≤ d) : Snd d 162 pf_X7_would := by
  intro args M k h
  unfold pf_X7_would at h
  split at h
  · exact c_X7_would hd h
  · exact h.elim
def pf_X7_becomes : PF := fun args M k => match args with
  | [.ref o, .int w] => (o = 59 ∧ IM (M 60)) ∧ (if hasM (M 60) w then ∀ a, k (.int (crr (M 60) (w).toNatClampNeg (wf (w).toNatClampNeg 1))) (j2 M a (M 60)) else k (.int (-1000001)) (fndM M 0))
  | _ => False
theorem pe_X7_becomes {o : Nat} {w : Int32} {M : Mem} {k : Value → Mem → Prop} : pf_X7_becomes [.ref o, .int w] M k = ((o = 59 ∧ IM (M 60)) ∧ (if hasM (M 60) w then ∀ a, k (.int (crr (M 60) (w).toNatClampNeg (wf (w).toNatClampNeg 1))) (j2 M a (M 60)) else k (.int (-1000001)) (fndM M 0))) := rfl
theorem le_X7_becomes {o : Nat} {w : Int32} : lent 2 ([.ref o, .int w] : List Value) = [.ref o, .int w] := rfl
set_option maxRecDepth 100000 in
set_option maxHeartbeats 4000000 in
theorem c_X7_becomes {d : Nat} (hd : 8 ≤ d) {o : Nat} {w : Int32} {M : Mem} {k : Value → Mem → Prop} (h : (o = 59 ∧ IM (M 60)) ∧ (if hasM (M 60) w then ∀ a, k (.int (crr (M 60) (w).toNatClampNeg (wf (w).toNatClampNeg 1))) (j2 M a (M 60)) else k (.int (-1000001)) (fndM M 0))) : CallP d 164 [.ref o, .int w] M k := by
  obtain ⟨hp, h⟩ := h
  obtain ⟨d, rfl⟩ : ∃ d', d = d' + 1 := ⟨d - 1, by omega⟩
  obtain ⟨rfl, hI⟩ := hp
  · refine enterV (n := 80) [(136, pf_X7_isWalker), (138, pf_X7_place), (163, pf_X7_behind), (125, pf_X7_finding)] [] mI_164 (by decide) (Nat.le_of_ble_eq_true rfl) (T_cons (s_X7_isWalker (by omega)) (T_cons (s_X7_place (by omega)) (T_cons (s_X7_behind (by omega)) (T_cons (s_X7_finding (by omega)) T_nil)))) ?_
    rw [le_X7_becomes]
    simp only [dX7_becomes_0, dX7_becomes_1, dX7_becomes_2, dX7_becomes_5, dX7_becomes_8, dX7_becomes_9, dX7_becomes_10, dX7_becomes_11, dX7_becomes_12, dX7_becomes_15, dX7_becomes_18, dX7_becomes_21, dX7_becomes_22, dX7_becomes_24, dX7_becomes_27, cr_7_126, cr_7_174, cr_7_75, cr_7_92, kr_7_69, skr_7_69, al_10, al_11, al_12, al_13, al_14, al_16, al_17, al_18, al_19, al_2, al_20, al_21, al_23, al_24, al_27, al_28, al_29, al_3, al_30, al_31, al_32, al_34, al_36, al_37, al_38, al_39, al_4, al_40, al_41, al_42, al_43, al_45, al_46, al_47, al_48, al_49, al_5, al_52, al_53, al_54, al_55, al_56, al_57, al_58, al_6, al_60, al_61, al_62, al_63, al_64, al_65, al_66, al_67, al_69, al_7, al_70, al_71, al_72, al_73, al_9, pcl_0, pcl_1, pcl_100, pcl_101, pcl_102, pcl_103, pcl_104, pcl_105, pcl_106, pcl_107, pcl_108, pcl_109, pcl_110, pcl_111, pcl_112, pcl_15, pcl_22, pcl_25, pcl_26, pcl_33, pcl_44, pcl_50, pcl_59, pcl_8, rOK_i, rOK_z, v_aload_0, v_goto, v_iconst_1, v_if_eq, v_iload_1, v_invs, v_invv, v_ireturn, v_ldc, vcS_2_1, vcV_2_6, vcV_3_6, vld_i, vld_s, vc_d, rr_0, rr_1, csT_h, csT_t, csT_n, bI_0, bI_1, bI_z, bT, List.mem_cons, List.not_mem_nil, List.length_cons, List.length_nil, ite_not, ↓reduceIte, true_and, and_true, not_true_eq_false, not_false_eq_true, false_or, or_false, or_true, true_or, Nat.reduceAdd, Nat.reduceEqDiff, Nat.reduceBEq, Nat.reduceLeDiff, Nat.reduceLT, Nat.reduceSub, Int.reduceAdd, Int.reduceLE, Int.reduceLT, Int.reduceToNat, Int.reduceNeg, Int.reduceNatCast', reduceCtorEq, Int32.reduceOfInt, Int32.reduceOfNat, Int32.reduceToNatClampNeg, Int32.reduceToInt, i10, i01, nEM, pe_X7_isWalker, pe_X7_place, pe_X7_behind, fn_0, fn_1, fn_2, fn_3, fn_4, fn_5, fn_6, hI, Int32.reduceLT, Int32.reduceLE, not_false_eq_true]
    by_cases h1 : hasM (M 60) w
    · rw [if_pos h1] at h ⊢
      have hw := hasM_o h1
      obtain ⟨i, hi, rfl⟩ := wOK_n hw
      have hl := wf_lt hi (f := 1) (by decide)
      rw [nI_clamp (show i < 2 ^ 31 by omega)] at h ⊢
      rw [wf_c hi (by decide)]
      exact ⟨hw, ⟨hw, nI_pos (by omega), nI_ge (b := 50) hl (by decide)⟩, h⟩
    · rw [if_neg h1] at h ⊢
      exact h

theorem s_X7_becomes {d : Nat} (hd : 8 ≤ d) : Snd d 164 pf_X7_becomes := by
  intro args M k h
  unfold pf_X7_becomes at h
  split at h
  · exact c_X7_becomes hd h
  · exact h.elim
def pf_X7_leaves : PF := fun args M k => match args with
  | [.ref o, .int w, .int p] => (o = 59 ∧ IM (M 60)) ∧ (if hasM (M 60) w ∧ isP p then ∀ a, k (.int (crr (M 60) (w).toNatClampNeg (14 + (p).toNatClampNeg))) (j2 M a (M 60)) else k (.int (-1000001)) (fndM M 0))
  | _ => False
theorem pe_X7_leaves {o : Nat} {w : Int32} {p : Int32} {M : Mem} {k : Value → Mem → Prop} : pf_X7_leaves [.ref o, .int w, .int p] M k = ((o = 59 ∧ IM (M 60)) ∧ (if hasM (M 60) w ∧ isP p then ∀ a, k (.int (crr (M 60) (w).toNatClampNeg (14 + (p).toNatClampNeg))) (j2 M a (M 60)) else k (.int (-1000001)) (fndM M 0))) := rfl
theorem le_X7_leaves {o : Nat} {w : Int32} {p : Int32} : lent 3 ([.ref o, .int w, .int p] : List Value) = [.ref o, .int w, .int p] := rfl
set_option maxRecDepth 100000 in
set_option maxHeartbeats 4000000 in
theorem c_X7_leaves {d : Nat} (hd : 8 ≤ d) {o : Nat} {w : Int32} {p : Int32} {M : Mem} {k : Value → Mem → Prop} (h : (o = 59 ∧ IM (M 60)) ∧ (if hasM (M 60) w ∧ isP p then ∀ a, k (.int (crr (M 60) (w).toNatClampNeg (14 + (p).toNatClampNeg))) (j2 M a (M 60)) else k (.int (-1000001)) (fndM M 0))) : CallP d 165 [.ref o, .int w, .int p] M k := by
  obtain ⟨hp, h⟩ := h
  obtain ⟨d, rfl⟩ : ∃ d', d = d' + 1 := ⟨d - 1, by omega⟩
  obtain ⟨rfl, hI⟩ := hp
  · refine enterV (n := 80) [(136, pf_X7_isWalker), (134, pf_X7_isPlank), (163, pf_X7_behind), (125, pf_X7_finding)] [] mI_165 (by decide) (Nat.le_of_ble_eq_true rfl) (T_cons (s_X7_isWalker (by omega)) (T_cons (s_X7_isPlank (by omega)) (T_cons (s_X7_behind (by omega)) (T_cons (s_X7_finding (by omega)) T_nil)))) ?_
    rw [le_X7_leaves]
    simp only [dX7_leaves_0, dX7_leaves_1, dX7_leaves_2, dX7_leaves_5, dX7_leaves_8, dX7_leaves_9, dX7_leaves_12, dX7_leaves_15, dX7_leaves_16, dX7_leaves_17, dX7_leaves_19, dX7_leaves_20, dX7_leaves_21, dX7_leaves_24, dX7_leaves_27, dX7_leaves_28, dX7_leaves_30, dX7_leaves_33, cr_7_126, cr_7_174, cr_7_75, cr_7_95, kr_7_69, skr_7_69, al_10, al_11, al_12, al_13, al_14, al_16, al_17, al_18, al_19, al_2, al_20, al_21, al_23, al_24, al_27, al_28, al_29, al_3, al_30, al_31, al_32, al_34, al_36, al_37, al_38, al_39, al_4, al_40, al_41, al_42, al_43, al_45, al_46, al_47, al_48, al_49, al_5, al_52, al_53, al_54, al_55, al_56, al_57, al_58, al_6, al_60, al_61, al_62, al_63, al_64, al_65, al_66, al_67, al_69, al_7, al_70, al_71, al_72, al_73, al_9, pcl_0, pcl_1, pcl_100, pcl_101, pcl_102, pcl_103, pcl_104, pcl_105, pcl_106, pcl_107, pcl_108, pcl_109, pcl_110, pcl_111, pcl_112, pcl_15, pcl_22, pcl_25, pcl_26, pcl_33, pcl_44, pcl_50, pcl_59, pcl_8, rOK_i, rOK_z, v_aload_0, v_bipush_14, v_goto, v_iadd, v_if_eq, v_iload_1, v_iload_2, v_invs, v_invv, v_ireturn, v_ldc, vcS_1_1, vcV_2_6, vcV_3_6, vld_i, vld_s, vc_d, rr_0, rr_1, csT_h, csT_t, csT_n, bI_0, bI_1, bI_z, bT, List.mem_cons, List.not_mem_nil, List.length_cons, List.length_nil, ite_not, ↓reduceIte, true_and, and_true, not_true_eq_false, not_false_eq_true, false_or, or_false, or_true, true_or, Nat.reduceAdd, Nat.reduceEqDiff, Nat.reduceBEq, Nat.reduceLeDiff, Nat.reduceLT, Nat.reduceSub, Int.reduceAdd, Int.reduceLE, Int.reduceLT, Int.reduceToNat, Int.reduceNeg, Int.reduceNatCast', reduceCtorEq, Int32.reduceOfInt, Int32.reduceOfNat, Int32.reduceToNatClampNeg, Int32.reduceToInt, i10, i01, nEM, pe_X7_isWalker, pe_X7_isPlank, pe_X7_behind, fn_0, fn_1, fn_2, fn_3, fn_4, fn_5, fn_6, hI, Int32.reduceLT, Int32.reduceLE, not_false_eq_true, isP_m]
    by_cases h1 : hasM (M 60) w
    · rw [if_pos h1]
      have hw := hasM_o h1
      by_cases h2 : isP p
      · rw [if_pos ⟨h1, h2⟩] at h
        rw [if_pos h2]
        obtain ⟨t, ht, rfl⟩ := i32_14 h2.1 h2.2
        rw [nI_clamp (show t < 2 ^ 31 by omega)] at h
        rw [p14, nI_clamp (show 14 + t < 2 ^ 31 by omega)]
        exact ⟨⟨hw, nI_pos (by omega), nI_ge (b := 50) (by omega) (by decide)⟩, h⟩
      · rw [if_neg (fun z => h2 z.2)] at h
        rw [if_neg h2]
        exact h
    · rw [if_neg (fun z => h1 z.1)] at h
      rw [if_neg h1]
      exact h

theorem s_X7_leaves {d : Nat} (hd : 8 ≤ d) : Snd d 165 pf_X7_leaves := by
  intro args M k h
  unfold pf_X7_leaves at h
  split at h
  · exact c_X7_leaves hd h
  · exact h.elim
def pf_X7_areTwo : PF := fun args M k => match args with
  | [.ref o, .int x, .int y] => (o = 59 ∧ IM (M 60)) ∧ (k (.int (bI (hasM (M 60) x ∧ hasM (M 60) y ∧ ¬ x = y))) M)
  | _ => False
theorem pe_X7_areTwo {o : Nat} {x : Int32} {y : Int32} {M : Mem} {k : Value → Mem → Prop} : pf_X7_areTwo [.ref o, .int x, .int y] M k = ((o = 59 ∧ IM (M 60)) ∧ (k (.int (bI (hasM (M 60) x ∧ hasM (M 60) y ∧ ¬ x = y))) M)) := rfl
theorem le_X7_areTwo {o : Nat} {x : Int32} {y : Int32} : lent 3 ([.ref o, .int x, .int y] : List Value) = [.ref o, .int x, .int y] := rfl
set_option maxRecDepth 100000 in
set_option maxHeartbeats 4000000 in
theorem c_X7_areTwo {d : Nat} (hd : 3 ≤ d) {o : Nat} {x : Int32} {y : Int32} {M : Mem} {k : Value → Mem → Prop} (h : (o = 59 ∧ IM (M 60)) ∧ (k (.int (bI (hasM (M 60) x ∧ hasM (M 60) y ∧ ¬ x = y))) M)) : CallP d 166 [.ref o, .int x, .int y] M k := by
  obtain ⟨hp, h⟩ := h
  obtain ⟨d, rfl⟩ : ∃ d', d = d' + 1 := ⟨d - 1, by omega⟩
  obtain ⟨rfl, hI⟩ := hp
  · refine enterV (n := 80) [(136, pf_X7_isWalker)] [] mI_166 (by decide) (Nat.le_of_ble_eq_true rfl) (T_cons (s_X7_isWalker (by omega)) T_nil) ?_
    rw [le_X7_areTwo]
    simp only [dX7_areTwo_0, dX7_areTwo_1, dX7_areTwo_2, dX7_areTwo_5, dX7_areTwo_8, dX7_areTwo_9, dX7_areTwo_10, dX7_areTwo_13, dX7_areTwo_16, dX7_areTwo_17, dX7_areTwo_18, dX7_areTwo_21, dX7_areTwo_22, dX7_areTwo_25, dX7_areTwo_26, cr_7_126, al_10, al_11, al_12, al_13, al_14, al_16, al_17, al_18, al_19, al_2, al_20, al_21, al_23, al_24, al_27, al_28, al_29, al_3, al_30, al_31, al_32, al_34, al_36, al_37, al_38, al_39, al_4, al_40, al_41, al_42, al_43, al_45, al_46, al_47, al_48, al_49, al_5, al_52, al_53, al_54, al_55, al_56, al_57, al_58, al_6, al_60, al_61, al_62, al_63, al_64, al_65, al_66, al_67, al_69, al_7, al_70, al_71, al_72, al_73, al_9, pcl_0, pcl_1, pcl_100, pcl_101, pcl_102, pcl_103, pcl_104, pcl_105, pcl_106, pcl_107, pcl_108, pcl_109, pcl_110, pcl_111, pcl_112, pcl_15, pcl_22, pcl_25, pcl_26, pcl_33, pcl_44, pcl_50, pcl_59, pcl_8, rOK_i, rOK_z, v_aload_0, v_goto, v_ic_eq, v_iconst_0, v_iconst_1, v_if_eq, v_iload_1, v_iload_2, v_invv, v_ireturn, vcV_2_6, vc_d, rr_0, rr_1, csT_h, csT_t, csT_n, bI_0, bI_1, bI_z, bT, List.mem_cons, List.not_mem_nil, List.length_cons, List.length_nil, ite_not, ↓reduceIte, true_and, and_true, not_true_eq_false, not_false_eq_true, false_or, or_false, or_true, true_or, Nat.reduceAdd, Nat.reduceEqDiff, Nat.reduceBEq, Nat.reduceLeDiff, Nat.reduceLT, Nat.reduceSub, Int.reduceAdd, Int.reduceLE, Int.reduceLT, Int.reduceToNat, Int.reduceNeg, Int.reduceNatCast', reduceCtorEq, Int32.reduceOfInt, Int32.reduceOfNat, Int32.reduceToNatClampNeg, Int32.reduceToInt, i10, i01, nEM, pe_X7_isWalker, hI]
    by_cases h1 : hasM (M 60) x
    · rw [if_pos h1]
      by_cases h2 : hasM (M 60) y
      · rw [if_pos h2]
        by_cases h3 : x = y
        · rw [bI_f (fun z => z.2.2 h3)] at h
          rw [if_pos h3]
          exact h
        · rw [bI_t ⟨h1, h2, h3⟩] at h
          rw [if_neg h3]
          exact h
      · rw [bI_f (fun z => h2 z.2.1)] at h
        rw [if_neg h2]
        exact h
    · rw [bI_f (fun z => h1 z.1)] at h
      rw [if_neg h1]
      exact h

theorem s_X7_areTwo {d : Nat} (hd : 3 ≤ d) : Snd d 166 pf_X7_areTwo := by
  intro args M k h
  unfold pf_X7_areTwo at h
  split at h
  · exact c_X7_areTwo hd h
  · exact h.elim
def pf_X7_after : PF := fun args M k => match args with
  | [.ref o, .int w, .int f] => (o = 59 ∧ IM (M 60)) ∧ (if hasM (M 60) w ∧ hasM (M 60) f ∧ ¬ w = f then ∀ a, k (.int (nI (crx (crr (M 60) (f).toNatClampNeg) (w).toNatClampNeg).1)) (j2 M a (M 60)) else k (.int (-1000001)) (fndM M 0))
  | _ => False
theorem pe_X7_after {o : Nat} {w : Int32} {f : Int32} {M : Mem} {k : Value → Mem → Prop} : pf_X7_after [.ref o, .int w, .int f] M k = ((o = 59 ∧ IM (M 60)) ∧ (if hasM (M 60) w ∧ hasM (M 60) f ∧ ¬ w = f then ∀ a, k (.int (nI (crx (crr (M 60) (f).toNatClampNeg) (w).toNatClampNeg).1)) (j2 M a (M 60)) else k (.int (-1000001)) (fndM M 0))) := rfl
theorem le_X7_after {o : Nat} {w : Int32} {f : Int32} : lent 4 ([.ref o, .int w, .int f] : List Value) = [.ref o, .int w, .int f, .retAddr 0] := rfl
set_option maxRecDepth 100000 in
set_option maxHeartbeats 4000000 in
theorem c_X7_after {d : Nat} (hd : 7 ≤ d) {o : Nat} {w : Int32} {f : Int32} {M : Mem} {k : Value → Mem → Prop} (h : (o = 59 ∧ IM (M 60)) ∧ (if hasM (M 60) w ∧ hasM (M 60) f ∧ ¬ w = f then ∀ a, k (.int (nI (crx (crr (M 60) (f).toNatClampNeg) (w).toNatClampNeg).1)) (j2 M a (M 60)) else k (.int (-1000001)) (fndM M 0))) : CallP d 167 [.ref o, .int w, .int f] M k := by
  obtain ⟨hp, h⟩ := h
  obtain ⟨d, rfl⟩ : ∃ d', d = d' + 1 := ⟨d - 1, by omega⟩
  obtain ⟨rfl, hI⟩ := hp
  · refine enterV (n := 80) [(166, pf_X7_areTwo), (128, pf_X7_copyRow), (153, pf_X7_crosses), (129, pf_X7_putBack), (125, pf_X7_finding)] [] mI_167 (by decide) (Nat.le_of_ble_eq_true rfl) (T_cons (s_X7_areTwo (by omega)) (T_cons (s_X7_copyRow (by omega)) (T_cons (s_X7_crosses (by omega)) (T_cons (s_X7_putBack (by omega)) (T_cons (s_X7_finding (by omega)) T_nil))))) ?_
    rw [le_X7_after]
    simp only [dX7_after_0, dX7_after_1, dX7_after_2, dX7_after_3, dX7_after_6, dX7_after_9, dX7_after_10, dX7_after_12, dX7_after_15, dX7_after_16, dX7_after_17, dX7_after_20, dX7_after_21, dX7_after_24, dX7_after_27, dX7_after_28, dX7_after_29, dX7_after_32, dX7_after_33, dX7_after_34, dX7_after_35, dX7_after_38, dX7_after_39, dX7_after_42, dX7_after_43, dX7_after_44, dX7_after_47, dX7_after_50, cr_7_146, cr_7_158, cr_7_177, cr_7_70, cr_7_75, fr_7_16, fr_7_9, kr_7_69, skr_7_69, al_10, al_11, al_12, al_13, al_14, al_16, al_17, al_18, al_19, al_2, al_20, al_21, al_23, al_24, al_27, al_28, al_29, al_3, al_30, al_31, al_32, al_34, al_36, al_37, al_38, al_39, al_4, al_40, al_41, al_42, al_43, al_45, al_46, al_47, al_48, al_49, al_5, al_52, al_53, al_54, al_55, al_56, al_57, al_58, al_6, al_60, al_61, al_62, al_63, al_64, al_65, al_66, al_67, al_69, al_7, al_70, al_71, al_72, al_73, al_9, cat_i, cat_l, cat_r, cat_u, gf_6_0_59, gf_6_2_59, pcl_0, pcl_1, pcl_100, pcl_101, pcl_102, pcl_103, pcl_104, pcl_105, pcl_106, pcl_107, pcl_108, pcl_109, pcl_110, pcl_111, pcl_112, pcl_15, pcl_22, pcl_25, pcl_26, pcl_33, pcl_44, pcl_50, pcl_59, pcl_8, rOK_i, rOK_z, v_aload_0, v_getfield, v_goto, v_if_ge, v_if_ne, v_iload_1, v_iload_2, v_iload_3, v_invs, v_invv, v_ireturn, v_istore_3, v_ldc, vcS_2_1, vcV_2_6, vcV_3_6, vgf_i, vgf_r, vgf_s, vld_i, vld_s, vc_d, rr_0, rr_1, csT_h, csT_t, csT_n, bI_0, bI_1, bI_z, bT, List.mem_cons, List.not_mem_nil, List.length_cons, List.length_nil, ite_not, ↓reduceIte, true_and, and_true, not_true_eq_false, not_false_eq_true, false_or, or_false, or_true, true_or, Nat.reduceAdd, Nat.reduceEqDiff, Nat.reduceBEq, Nat.reduceLeDiff, Nat.reduceLT, Nat.reduceSub, Int.reduceAdd, Int.reduceLE, Int.reduceLT, Int.reduceToNat, Int.reduceNeg, Int.reduceNatCast', reduceCtorEq, Int32.reduceOfInt, Int32.reduceOfNat, Int32.reduceToNatClampNeg, Int32.reduceToInt, i10, i01, nEM, pe_X7_areTwo, pe_X7_copyRow, pe_X7_crosses, pe_X7_putBack, fn_0, fn_1, fn_2, fn_3, fn_4, fn_5, fn_6, hI, Int32.reduceLT, Int32.reduceLE, not_false_eq_true, n12 crx_le, j2_a, j2_60, j2_62, j2_m60]
    by_cases h1 : hasM (M 60) w ∧ hasM (M 60) f ∧ ¬ w = f
    · rw [if_pos h1] at h ⊢
      have hw := hasM_o h1.1
      have hf := hasM_o h1.2.1
      obtain ⟨i, hi, rfl⟩ := wOK_n hw
      obtain ⟨j, hj, rfl⟩ := wOK_n hf
      rw [nI_clamp (show i < 2 ^ 31 by omega), nI_clamp (show j < 2 ^ 31 by omega)] at h ⊢
      rw [back (fun t ht => by rw [crr_hi hi ht, crr_hi hj ht])]
      exact ⟨hf, hw, h _⟩
    · rw [if_neg h1] at h ⊢
      exact h

theorem s_X7_after {d : Nat} (hd : 7 ≤ d) : Snd d 167 pf_X7_after := by
  intro args M k h
  unfold pf_X7_after at h
  split at h
  · exact c_X7_after hd h
  · exact h.elim
/-- how often one can cross, in the model -/
def ofM (i : Nat) : Nat → Nat → (Nat → Int32) → Nat
  | 0, t, _ => t
  | n + 1, t, r => if (crx r i).1 < 12 then t else ofM i n (t + 1) (crr r i)
set_option maxRecDepth 100000 in
set_option maxHeartbeats 4000000 in
theorem lp_oftenM {d : Nat} (hd : 6 ≤ d) {M : Mem} {k : Value → Mem → Prop} {i : Nat} {a r0 : Nat → Int32} (hi : i < 6) : ∀ (n t : Nat) (r : Nat → Int32), t + n = 60 → (∀ j, 50 ≤ j → r j = r0 j) → (k (.int (nI (ofM i n t r))) (j2 M (cpN 50 r0 a) r0)) → WP (7, yX7_often, cX7_often, 3, (some .int)) (d + 1) k 28 [.ref 59, .int (nI i), .int (nI t)] [] (j2 M (cpN 50 r0 a) r) := by
  have ci : (nI i).toNatClampNeg = i := nI_clamp (by omega)
  have ho := nOK hi
  intro n
  induction n with
  | zero =>
    intro t r ht hr h
    have : t = 60 := by omega
    subst this
    refine goV (n := 80) [(129, pf_X7_putBack)] [28] (T_cons (s_X7_putBack (by omega)) T_nil) ?_
    simp only [dX7_often_0, dX7_often_1, dX7_often_2, dX7_often_5, dX7_often_8, dX7_often_9, dX7_often_11, dX7_often_14, dX7_often_15, dX7_often_16, dX7_often_19, dX7_often_20, dX7_often_23, dX7_often_26, dX7_often_27, dX7_often_28, dX7_often_29, dX7_often_31, dX7_often_34, dX7_often_35, dX7_often_36, dX7_often_39, dX7_often_41, dX7_often_44, dX7_often_47, dX7_often_50, dX7_often_51, dX7_often_52, dX7_often_55, cr_7_126, cr_7_146, cr_7_158, cr_7_70, cr_7_75, fr_7_16, fr_7_9, kr_7_69, skr_7_69, al_10, al_11, al_12, al_13, al_14, al_16, al_17, al_18, al_19, al_2, al_20, al_21, al_23, al_24, al_27, al_28, al_29, al_3, al_30, al_31, al_32, al_34, al_36, al_37, al_38, al_39, al_4, al_40, al_41, al_42, al_43, al_45, al_46, al_47, al_48, al_49, al_5, al_52, al_53, al_54, al_55, al_56, al_57, al_58, al_6, al_60, al_61, al_62, al_63, al_64, al_65, al_66, al_67, al_69, al_7, al_70, al_71, al_72, al_73, al_9, cat_i, cat_l, cat_r, cat_u, gf_6_0_59, gf_6_2_59, pcl_0, pcl_1, pcl_100, pcl_101, pcl_102, pcl_103, pcl_104, pcl_105, pcl_106, pcl_107, pcl_108, pcl_109, pcl_110, pcl_111, pcl_112, pcl_15, pcl_22, pcl_25, pcl_26, pcl_33, pcl_44, pcl_50, pcl_59, pcl_8, rOK_i, rOK_z, v_aload_0, v_bipush_12, v_bipush_60, v_getfield, v_goto, v_ic_ge, v_ic_ne, v_iconst_0, v_if_ne, v_iinc_2, v_iload_1, v_iload_2, v_invs, v_invv, v_ireturn, v_istore_2, v_ldc, vcS_2_1, vcV_2_6, vgf_i, vgf_r, vgf_s, vld_i, vld_s, vc_d, rr_0, rr_1, csT_h, csT_t, csT_n, bI_0, bI_1, bI_z, bT, List.mem_cons, List.not_mem_nil, List.length_cons, List.length_nil, ite_not, ↓reduceIte, true_and, and_true, not_true_eq_false, not_false_eq_true, false_or, or_false, or_true, true_or, Nat.reduceAdd, Nat.reduceEqDiff, Nat.reduceBEq, Nat.reduceLeDiff, Nat.reduceLT, Nat.reduceSub, Int.reduceAdd, Int.reduceLE, Int.reduceLT, Int.reduceToNat, Int.reduceNeg, Int.reduceNatCast', reduceCtorEq, Int32.reduceOfInt, Int32.reduceOfNat, Int32.reduceToNatClampNeg, Int32.reduceToInt, i10, i01, nEM, pe_X7_putBack, show ((60 : Int32) ≤ nI 60) = True from by decide, j2_60, j2_62, j2_m60, back hr]
    exact h
  | succ n ih =>
    intro t r ht hr h
    have c1 : ¬ (60 : Int32) ≤ nI t := nI_ge (b := 60) (by omega) (by decide)
    refine goV (n := 80) [(129, pf_X7_putBack), (153, pf_X7_crosses)] [28] (T_cons (s_X7_putBack (by omega)) (T_cons (s_X7_crosses (by omega)) T_nil)) ?_
    simp only [dX7_often_0, dX7_often_1, dX7_often_2, dX7_often_5, dX7_often_8, dX7_often_9, dX7_often_11, dX7_often_14, dX7_often_15, dX7_often_16, dX7_often_19, dX7_often_20, dX7_often_23, dX7_often_26, dX7_often_27, dX7_often_28, dX7_often_29, dX7_often_31, dX7_often_34, dX7_often_35, dX7_often_36, dX7_often_39, dX7_often_41, dX7_often_44, dX7_often_47, dX7_often_50, dX7_often_51, dX7_often_52, dX7_often_55, cr_7_126, cr_7_146, cr_7_158, cr_7_70, cr_7_75, fr_7_16, fr_7_9, kr_7_69, skr_7_69, al_10, al_11, al_12, al_13, al_14, al_16, al_17, al_18, al_19, al_2, al_20, al_21, al_23, al_24, al_27, al_28, al_29, al_3, al_30, al_31, al_32, al_34, al_36, al_37, al_38, al_39, al_4, al_40, al_41, al_42, al_43, al_45, al_46, al_47, al_48, al_49, al_5, al_52, al_53, al_54, al_55, al_56, al_57, al_58, al_6, al_60, al_61, al_62, al_63, al_64, al_65, al_66, al_67, al_69, al_7, al_70, al_71, al_72, al_73, al_9, cat_i, cat_l, cat_r, cat_u, gf_6_0_59, gf_6_2_59, pcl_0, pcl_1, pcl_100, pcl_101, pcl_102, pcl_103, pcl_104, pcl_105, pcl_106, pcl_107, pcl_108, pcl_109, pcl_110, pcl_111, pcl_112, pcl_15, pcl_22, pcl_25, pcl_26, pcl_33, pcl_44, pcl_50, pcl_59, pcl_8, rOK_i, rOK_z, v_aload_0, v_bipush_12, v_bipush_60, v_getfield, v_goto, v_ic_ge, v_ic_ne, v_iconst_0, v_if_ne, v_iinc_2, v_iload_1, v_iload_2, v_invs, v_invv, v_ireturn, v_istore_2, v_ldc, vcS_2_1, vcV_2_6, vgf_i, vgf_r, vgf_s, vld_i, vld_s, vc_d, rr_0, rr_1, csT_h, csT_t, csT_n, bI_0, bI_1, bI_z, bT, List.mem_cons, List.not_mem_nil, List.length_cons, List.length_nil, ite_not, ↓reduceIte, true_and, and_true, not_true_eq_false, not_false_eq_true, false_or, or_false, or_true, true_or, Nat.reduceAdd, Nat.reduceEqDiff, Nat.reduceBEq, Nat.reduceLeDiff, Nat.reduceLT, Nat.reduceSub, Int.reduceAdd, Int.reduceLE, Int.reduceLT, Int.reduceToNat, Int.reduceNeg, Int.reduceNatCast', reduceCtorEq, Int32.reduceOfInt, Int32.reduceOfNat, Int32.reduceToNatClampNeg, Int32.reduceToInt, i10, i01, nEM, pe_X7_putBack, pe_X7_crosses, c1, ci, ho, nI_1, j2_60, j2_62, j2_m60, eq12 crx_le, back (fun j hj => (crr_hi hi hj).trans (hr j hj))]
    rw [ofM] at h
    by_cases hc : (crx r i).1 < 12
    · rw [if_pos hc] at h ⊢
      exact h
    · rw [if_neg hc] at h ⊢
      exact ih (t + 1) _ (by omega) (fun j hj => (crr_hi hi hj).trans (hr j hj)) h
def pf_X7_often : PF := fun args M k => match args with
  | [.ref o, .int w] => (o = 59 ∧ IM (M 60)) ∧ (if hasM (M 60) w then ∀ a, k (.int (nI (ofM (w).toNatClampNeg 60 0 (M 60)))) (j2 M a (M 60)) else k (.int (-1000001)) (fndM M 0))
  | _ => False
theorem pe_X7_often {o : Nat} {w : Int32} {M : Mem} {k : Value → Mem → Prop} : pf_X7_often [.ref o, .int w] M k = ((o = 59 ∧ IM (M 60)) ∧ (if hasM (M 60) w then ∀ a, k (.int (nI (ofM (w).toNatClampNeg 60 0 (M 60)))) (j2 M a (M 60)) else k (.int (-1000001)) (fndM M 0))) := rfl
theorem le_X7_often {o : Nat} {w : Int32} : lent 3 ([.ref o, .int w] : List Value) = [.ref o, .int w, .retAddr 0] := rfl
set_option maxRecDepth 100000 in
set_option maxHeartbeats 4000000 in
theorem c_X7_often {d : Nat} (hd : 7 ≤ d) {o : Nat} {w : Int32} {M : Mem} {k : Value → Mem → Prop} (h : (o = 59 ∧ IM (M 60)) ∧ (if hasM (M 60) w then ∀ a, k (.int (nI (ofM (w).toNatClampNeg 60 0 (M 60)))) (j2 M a (M 60)) else k (.int (-1000001)) (fndM M 0))) : CallP d 168 [.ref o, .int w] M k := by
  obtain ⟨hp, h⟩ := h
  obtain ⟨d, rfl⟩ : ∃ d', d = d' + 1 := ⟨d - 1, by omega⟩
  obtain ⟨rfl, hI⟩ := hp
  · refine enterV (n := 80) [(136, pf_X7_isWalker), (128, pf_X7_copyRow), (125, pf_X7_finding)] [28] mI_168 (by decide) (Nat.le_of_ble_eq_true rfl) (T_cons (s_X7_isWalker (by omega)) (T_cons (s_X7_copyRow (by omega)) (T_cons (s_X7_finding (by omega)) T_nil))) ?_
    rw [le_X7_often]
    simp only [dX7_often_0, dX7_often_1, dX7_often_2, dX7_often_5, dX7_often_8, dX7_often_9, dX7_often_11, dX7_often_14, dX7_often_15, dX7_often_16, dX7_often_19, dX7_often_20, dX7_often_23, dX7_often_26, dX7_often_27, dX7_often_28, dX7_often_29, dX7_often_31, dX7_often_34, dX7_often_35, dX7_often_36, dX7_often_39, dX7_often_41, dX7_often_44, dX7_often_47, dX7_often_50, dX7_often_51, dX7_often_52, dX7_often_55, cr_7_126, cr_7_146, cr_7_158, cr_7_70, cr_7_75, fr_7_16, fr_7_9, kr_7_69, skr_7_69, al_10, al_11, al_12, al_13, al_14, al_16, al_17, al_18, al_19, al_2, al_20, al_21, al_23, al_24, al_27, al_28, al_29, al_3, al_30, al_31, al_32, al_34, al_36, al_37, al_38, al_39, al_4, al_40, al_41, al_42, al_43, al_45, al_46, al_47, al_48, al_49, al_5, al_52, al_53, al_54, al_55, al_56, al_57, al_58, al_6, al_60, al_61, al_62, al_63, al_64, al_65, al_66, al_67, al_69, al_7, al_70, al_71, al_72, al_73, al_9, cat_i, cat_l, cat_r, cat_u, gf_6_0_59, gf_6_2_59, pcl_0, pcl_1, pcl_100, pcl_101, pcl_102, pcl_103, pcl_104, pcl_105, pcl_106, pcl_107, pcl_108, pcl_109, pcl_110, pcl_111, pcl_112, pcl_15, pcl_22, pcl_25, pcl_26, pcl_33, pcl_44, pcl_50, pcl_59, pcl_8, rOK_i, rOK_z, v_aload_0, v_bipush_12, v_bipush_60, v_getfield, v_goto, v_ic_ge, v_ic_ne, v_iconst_0, v_if_ne, v_iinc_2, v_iload_1, v_iload_2, v_invs, v_invv, v_ireturn, v_istore_2, v_ldc, vcS_2_1, vcV_2_6, vgf_i, vgf_r, vgf_s, vld_i, vld_s, vc_d, rr_0, rr_1, csT_h, csT_t, csT_n, bI_0, bI_1, bI_z, bT, List.mem_cons, List.not_mem_nil, List.length_cons, List.length_nil, ite_not, ↓reduceIte, true_and, and_true, not_true_eq_false, not_false_eq_true, false_or, or_false, or_true, true_or, Nat.reduceAdd, Nat.reduceEqDiff, Nat.reduceBEq, Nat.reduceLeDiff, Nat.reduceLT, Nat.reduceSub, Int.reduceAdd, Int.reduceLE, Int.reduceLT, Int.reduceToNat, Int.reduceNeg, Int.reduceNatCast', reduceCtorEq, Int32.reduceOfInt, Int32.reduceOfNat, Int32.reduceToNatClampNeg, Int32.reduceToInt, i10, i01, nEM, pe_X7_isWalker, pe_X7_copyRow, fn_0, fn_1, fn_2, fn_3, fn_4, fn_5, fn_6, hI, j2_a]
    by_cases h1 : hasM (M 60) w
    · rw [if_pos h1] at h ⊢
      obtain ⟨i, hi, rfl⟩ := wOK_n (hasM_o h1)
      rw [nI_clamp (show i < 2 ^ 31 by omega)] at h
      exact lp_oftenM (by omega) hi 60 0 (M 60) rfl (fun _ _ => rfl) (h _)
    · rw [if_neg h1] at h ⊢
      exact h

theorem s_X7_often {d : Nat} (hd : 7 ≤ d) : Snd d 168 pf_X7_often := by
  intro args M k h
  unfold pf_X7_often at h
  split at h
  · exact c_X7_often hd h
  · exact h.elim
