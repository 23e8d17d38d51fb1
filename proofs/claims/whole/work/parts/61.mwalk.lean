/-! M: walkers, one crossing -/
/-- where field f of walker i lies in the model's row -/
def wf (i f : Nat) : Nat := 26 + 4 * i + f
def wOK (w : Int32) : Prop := ¬ w < 0 ∧ ¬ 6 ≤ w
theorem wOK_n {w : Int32} (h : wOK w) : ∃ i, i < 6 ∧ w = nI i := by
  obtain ⟨i, hi, e⟩ := nI_of h.1
  subst e
  have h2 := h.2
  rw [show (6 : Int32) = nI 6 from rfl, nI_leI (by omega) hi] at h2
  exact ⟨i, by omega, rfl⟩
theorem nOK {i : Nat} (h : i < 6) : wOK (nI i) := And.intro (nI_pos (by omega)) (nI_ge (b := 6) h (by decide))
theorem f4_n {f : Int32} (h1 : ¬ f < 0) (h2 : ¬ 4 ≤ f) : ∃ j, j < 4 ∧ f = nI j := by
  obtain ⟨i, hi, e⟩ := nI_of h1
  subst e
  rw [show (4 : Int32) = nI 4 from rfl, nI_leI (by omega) hi] at h2
  exact ⟨i, by omega, rfl⟩
theorem wf_lt {i f : Nat} (hi : i < 6) (hf : f < 4) : wf i f < 50 := by
  unfold wf
  omega
theorem wf_c {i f : Nat} (hi : i < 6) (hf : f < 4) : (nI (wf i f)).toNatClampNeg = wf i f := nI_clamp (by have := wf_lt hi hf; omega)
theorem wf_t {i f : Nat} (hi : i < 6) (hf : f < 4) : 0 ≤ (nI (wf i f)).toInt ∧ (nI (wf i f)).toInt < (50 : Nat) := by
  have := wf_lt hi hf
  rw [nI_toInt (by omega)]
  omega
theorem wf_I (i j : Nat) : (26 : Int32) + 4 * nI i + nI j = nI (wf i j) := by
  rw [show (4 : Int32) = nI 4 from rfl, pk_mul, show (26 : Int32) = nI 26 from rfl, nI_add, nI_add]
  rfl
theorem p14 (t : Nat) : (14 : Int32) + nI t = nI (14 + t) := by
  rw [show (14 : Int32) = nI 14 from rfl, nI_add]
def pf_X7_place : PF := fun args M k => match args with
  | [.int w, .int f] => (wOK w ∧ ¬ f < 0 ∧ ¬ 4 ≤ f) ∧ (k (.int (nI (wf (w).toNatClampNeg (f).toNatClampNeg))) M)
  | _ => False
theorem pe_X7_place {w : Int32} {f : Int32} {M : Mem} {k : Value → Mem → Prop} : pf_X7_place [.int w, .int f] M k = ((wOK w ∧ ¬ f < 0 ∧ ¬ 4 ≤ f) ∧ (k (.int (nI (wf (w).toNatClampNeg (f).toNatClampNeg))) M)) := rfl
theorem le_X7_place {w : Int32} {f : Int32} : lent 2 ([.int w, .int f] : List Value) = [.int w, .int f] := rfl
set_option maxRecDepth 100000 in
set_option maxHeartbeats 4000000 in
theorem c_X7_place {d : Nat} (hd : 1 ≤ d) {w : Int32} {f : Int32} {M : Mem} {k : Value → Mem → Prop} (h : (wOK w ∧ ¬ f < 0 ∧ ¬ 4 ≤ f) ∧ (k (.int (nI (wf (w).toNatClampNeg (f).toNatClampNeg))) M)) : CallP d 138 [.int w, .int f] M k := by
  obtain ⟨hp, h⟩ := h
  obtain ⟨d, rfl⟩ : ∃ d', d = d' + 1 := ⟨d - 1, by omega⟩
  obtain ⟨hw, h1, h2⟩ := hp
  obtain ⟨i, hi, rfl⟩ := wOK_n hw
  obtain ⟨j, hj, rfl⟩ := f4_n h1 h2
  rw [nI_clamp (by omega), nI_clamp (by omega)] at h
  refine enterV (n := 80) [] [] mI_138 (by decide) (Nat.le_of_ble_eq_true rfl) T_nil ?_
  rw [le_X7_place]
  simp only [dX7_place_0, dX7_place_2, dX7_place_3, dX7_place_4, dX7_place_5, dX7_place_6, dX7_place_7, dX7_place_8, rOK_i, rOK_z, v_bipush_26, v_iadd, v_iconst_4, v_iload_0, v_iload_1, v_imul, v_ireturn, vc_d, rr_0, rr_1, csT_h, csT_t, csT_n, bI_0, bI_1, bI_z, bT, List.mem_cons, List.not_mem_nil, List.length_cons, List.length_nil, ite_not, ↓reduceIte, true_and, and_true, not_true_eq_false, not_false_eq_true, false_or, or_false, or_true, true_or, Nat.reduceAdd, Nat.reduceEqDiff, Nat.reduceBEq, Nat.reduceLeDiff, Nat.reduceLT, Nat.reduceSub, Int.reduceAdd, Int.reduceLE, Int.reduceLT, Int.reduceToNat, Int.reduceNeg, Int.reduceNatCast', reduceCtorEq, Int32.reduceOfInt, Int32.reduceOfNat, Int32.reduceToNatClampNeg, Int32.reduceToInt, i10, i01, nEM, wf_I]
  exact h
theorem s_X7_place {d : Nat} (hd : 1 ≤ d) : Snd d 138 pf_X7_place := by
  intro args M k h
  unfold pf_X7_place at h
  split at h
  · exact c_X7_place hd h
  · exact h.elim
def pf_X7_walkerIs : PF := fun args M k => match args with
  | [.ref o, .int w, .int f] => (o = 59 ∧ wOK w ∧ ¬ f < 0 ∧ ¬ 4 ≤ f) ∧ (k (.int (M 60 (wf (w).toNatClampNeg (f).toNatClampNeg))) M)
  | _ => False
theorem pe_X7_walkerIs {o : Nat} {w : Int32} {f : Int32} {M : Mem} {k : Value → Mem → Prop} : pf_X7_walkerIs [.ref o, .int w, .int f] M k = ((o = 59 ∧ wOK w ∧ ¬ f < 0 ∧ ¬ 4 ≤ f) ∧ (k (.int (M 60 (wf (w).toNatClampNeg (f).toNatClampNeg))) M)) := rfl
theorem le_X7_walkerIs {o : Nat} {w : Int32} {f : Int32} : lent 3 ([.ref o, .int w, .int f] : List Value) = [.ref o, .int w, .int f] := rfl
set_option maxRecDepth 100000 in
set_option maxHeartbeats 4000000 in
theorem c_X7_walkerIs {d : Nat} (hd : 2 ≤ d) {o : Nat} {w : Int32} {f : Int32} {M : Mem} {k : Value → Mem → Prop} (h : (o = 59 ∧ wOK w ∧ ¬ f < 0 ∧ ¬ 4 ≤ f) ∧ (k (.int (M 60 (wf (w).toNatClampNeg (f).toNatClampNeg))) M)) : CallP d 139 [.ref o, .int w, .int f] M k := by
  obtain ⟨hp, h⟩ := h
  obtain ⟨d, rfl⟩ : ∃ d', d = d' + 1 := ⟨d - 1, by omega⟩
  obtain ⟨rfl, hw, h1, h2⟩ := hp
  obtain ⟨i, hi, rfl⟩ := wOK_n hw
  obtain ⟨j, hj, rfl⟩ := f4_n h1 h2
  have c1 : (nI i).toNatClampNeg = i := nI_clamp (by omega)
  have c2 : (nI j).toNatClampNeg = j := nI_clamp (by omega)
  rw [c1, c2] at h
  · refine enterV (n := 80) [(138, pf_X7_place)] [] mI_139 (by decide) (Nat.le_of_ble_eq_true rfl) (T_cons (s_X7_place (by omega)) T_nil) ?_
    rw [le_X7_walkerIs]
    simp only [dX7_walkerIs_0, dX7_walkerIs_1, dX7_walkerIs_4, dX7_walkerIs_5, dX7_walkerIs_6, dX7_walkerIs_9, dX7_walkerIs_10, cr_7_92, fr_7_9, al_10, al_11, al_12, al_13, al_14, al_16, al_17, al_18, al_19, al_2, al_20, al_21, al_23, al_24, al_27, al_28, al_29, al_3, al_30, al_31, al_32, al_34, al_36, al_37, al_38, al_39, al_4, al_40, al_41, al_42, al_43, al_45, al_46, al_47, al_48, al_49, al_5, al_52, al_53, al_54, al_55, al_56, al_57, al_58, al_6, al_60, al_61, al_62, al_63, al_64, al_65, al_66, al_67, al_69, al_7, al_70, al_71, al_72, al_73, al_9, gf_6_0_59, rOK_i, rOK_z, v_aload_0, v_getfield, v_iaload, v_iload_1, v_iload_2, v_invs, v_ireturn, vcS_2_1, vgf_i, vgf_r, vgf_s, vc_d, rr_0, rr_1, csT_h, csT_t, csT_n, bI_0, bI_1, bI_z, bT, List.mem_cons, List.not_mem_nil, List.length_cons, List.length_nil, ite_not, ↓reduceIte, true_and, and_true, not_true_eq_false, not_false_eq_true, false_or, or_false, or_true, true_or, Nat.reduceAdd, Nat.reduceEqDiff, Nat.reduceBEq, Nat.reduceLeDiff, Nat.reduceLT, Nat.reduceSub, Int.reduceAdd, Int.reduceLE, Int.reduceLT, Int.reduceToNat, Int.reduceNeg, Int.reduceNatCast', reduceCtorEq, Int32.reduceOfInt, Int32.reduceOfNat, Int32.reduceToNatClampNeg, Int32.reduceToInt, i10, i01, nEM, pe_X7_place, hw, h1, h2, c1, c2, wf_c hi hj]
    exact ⟨wf_t hi hj, h⟩

theorem s_X7_walkerIs {d : Nat} (hd : 2 ≤ d) : Snd d 139 pf_X7_walkerIs := by
  intro args M k h
  unfold pf_X7_walkerIs at h
  split at h
  · exact c_X7_walkerIs hd h
  · exact h.elim
def pf_X7_bears : PF := fun args M k => match args with
  | [.ref o, .int w] => (o = 59 ∧ wOK w) ∧ (k (.int (brs (M 60 (wf (w).toNatClampNeg 0)) (M 60 (wf (w).toNatClampNeg 2)) (M 60 3))) M)
  | _ => False
theorem pe_X7_bears {o : Nat} {w : Int32} {M : Mem} {k : Value → Mem → Prop} : pf_X7_bears [.ref o, .int w] M k = ((o = 59 ∧ wOK w) ∧ (k (.int (brs (M 60 (wf (w).toNatClampNeg 0)) (M 60 (wf (w).toNatClampNeg 2)) (M 60 3))) M)) := rfl
theorem le_X7_bears {o : Nat} {w : Int32} : lent 4 ([.ref o, .int w] : List Value) = [.ref o, .int w, .retAddr 0, .retAddr 0] := rfl
set_option maxRecDepth 100000 in
set_option maxHeartbeats 4000000 in
theorem c_X7_bears {d : Nat} (hd : 3 ≤ d) {o : Nat} {w : Int32} {M : Mem} {k : Value → Mem → Prop} (h : (o = 59 ∧ wOK w) ∧ (k (.int (brs (M 60 (wf (w).toNatClampNeg 0)) (M 60 (wf (w).toNatClampNeg 2)) (M 60 3))) M)) : CallP d 144 [.ref o, .int w] M k := by
  obtain ⟨hp, h⟩ := h
  obtain ⟨d, rfl⟩ : ∃ d', d = d' + 1 := ⟨d - 1, by omega⟩
  obtain ⟨rfl, hw⟩ := hp
  · refine enterV (n := 80) [(139, pf_X7_walkerIs)] [] mI_144 (by decide) (Nat.le_of_ble_eq_true rfl) (T_cons (s_X7_walkerIs (by omega)) T_nil) ?_
    rw [le_X7_bears]
    simp only [dX7_bears_0, dX7_bears_1, dX7_bears_2, dX7_bears_3, dX7_bears_6, dX7_bears_7, dX7_bears_8, dX7_bears_9, dX7_bears_11, dX7_bears_12, dX7_bears_15, dX7_bears_16, dX7_bears_17, dX7_bears_18, dX7_bears_19, dX7_bears_22, dX7_bears_60, dX7_bears_61, dX7_bears_62, dX7_bears_63, dX7_bears_64, dX7_bears_65, dX7_bears_66, dX7_bears_67, dX7_bears_69, dX7_bears_70, dX7_bears_71, dX7_bears_72, dX7_bears_73, dX7_bears_74, dX7_bears_76, dX7_bears_77, dX7_bears_78, dX7_bears_79, dX7_bears_82, dX7_bears_83, dX7_bears_84, dX7_bears_85, dX7_bears_88, dX7_bears_90, dX7_bears_93, dX7_bears_94, dX7_bears_96, dX7_bears_97, dX7_bears_98, dX7_bears_100, dX7_bears_101, dX7_bears_102, cr_7_113, cr_7_85, fr_7_9, al_10, al_11, al_12, al_13, al_14, al_16, al_17, al_18, al_19, al_2, al_20, al_21, al_23, al_24, al_27, al_28, al_29, al_3, al_30, al_31, al_32, al_34, al_36, al_37, al_38, al_39, al_4, al_40, al_41, al_42, al_43, al_45, al_46, al_47, al_48, al_49, al_5, al_52, al_53, al_54, al_55, al_56, al_57, al_58, al_6, al_60, al_61, al_62, al_63, al_64, al_65, al_66, al_67, al_69, al_7, al_70, al_71, al_72, al_73, al_9, cat_i, cat_l, cat_r, cat_u, gf_6_0_59, pcl_0, pcl_1, pcl_100, pcl_101, pcl_102, pcl_103, pcl_104, pcl_105, pcl_106, pcl_107, pcl_108, pcl_109, pcl_110, pcl_111, pcl_112, pcl_15, pcl_22, pcl_25, pcl_26, pcl_33, pcl_44, pcl_50, pcl_59, pcl_8, rOK_i, rOK_z, v_aload_0, v_bipush_10, v_bipush_20, v_bipush_40, v_bipush_99, v_getfield, v_goto, v_iadd, v_iaload, v_ic_ne, v_iconst_0, v_iconst_1, v_iconst_2, v_iconst_3, v_idiv, v_iload_1, v_iload_2, v_iload_3, v_invs, v_invv, v_ireturn, v_istore_2, v_istore_3, v_isub, v_table, vcS_max, vcV_3_6, vgf_i, vgf_r, vgf_s, vtab_c, vtab_n, vc_d, rr_0, rr_1, csT_h, csT_t, csT_n, bI_0, bI_1, bI_z, bT, List.mem_cons, List.not_mem_nil, List.length_cons, List.length_nil, ite_not, ↓reduceIte, true_and, and_true, not_true_eq_false, not_false_eq_true, false_or, or_false, or_true, true_or, Nat.reduceAdd, Nat.reduceEqDiff, Nat.reduceBEq, Nat.reduceLeDiff, Nat.reduceLT, Nat.reduceSub, Int.reduceAdd, Int.reduceLE, Int.reduceLT, Int.reduceToNat, Int.reduceNeg, Int.reduceNatCast', reduceCtorEq, Int32.reduceOfInt, Int32.reduceOfNat, Int32.reduceToNatClampNeg, Int32.reduceToInt, i10, i01, nEM, pe_X7_walkerIs, hw, Int32.reduceLT, Int32.reduceLE, not_false_eq_true, Array.toList, List.length_cons, Int.reduceSub]
    unfold brs mx0 at h
    generalize M 60 (wf (w).toNatClampNeg 0) = a at h ⊢
    generalize M 60 (wf (w).toNatClampNeg 2) = b at h ⊢
    repeat' (first | split | apply And.intro)
    all_goals first | (simpa [*] using h) | simp

theorem s_X7_bears {d : Nat} (hd : 3 ≤ d) : Snd d 144 pf_X7_bears := by
  intro args M k h
  unfold pf_X7_bears at h
  split at h
  · exact c_X7_bears hd h
  · exact h.elim
theorem i32_14 {p : Int32} (h1 : ¬ p < 0) (h2 : ¬ 12 ≤ p) : ∃ t, t < 12 ∧ p = nI t := by
  obtain ⟨i, hi, e⟩ := nI_of h1
  subst e
  rw [show (12 : Int32) = nI 12 from rfl, nI_leI (by omega) hi] at h2
  exact ⟨i, by omega, rfl⟩
def pf_X7_doesFall : PF := fun args M k => match args with
  | [.ref o, .int w, .int p] => (o = 59 ∧ wOK w ∧ ¬ p < 0 ∧ ¬ 12 ≤ p) ∧ (k (.int (bI (¬ abI (M 60 (wf (w).toNatClampNeg 1) - M 60 (14 + (p).toNatClampNeg)) ≤ brs (M 60 (wf (w).toNatClampNeg 0)) (M 60 (wf (w).toNatClampNeg 2)) (M 60 3)))) M)
  | _ => False
theorem pe_X7_doesFall {o : Nat} {w : Int32} {p : Int32} {M : Mem} {k : Value → Mem → Prop} : pf_X7_doesFall [.ref o, .int w, .int p] M k = ((o = 59 ∧ wOK w ∧ ¬ p < 0 ∧ ¬ 12 ≤ p) ∧ (k (.int (bI (¬ abI (M 60 (wf (w).toNatClampNeg 1) - M 60 (14 + (p).toNatClampNeg)) ≤ brs (M 60 (wf (w).toNatClampNeg 0)) (M 60 (wf (w).toNatClampNeg 2)) (M 60 3)))) M)) := rfl
theorem le_X7_doesFall {o : Nat} {w : Int32} {p : Int32} : lent 3 ([.ref o, .int w, .int p] : List Value) = [.ref o, .int w, .int p] := rfl
set_option maxRecDepth 100000 in
set_option maxHeartbeats 4000000 in
theorem c_X7_doesFall {d : Nat} (hd : 4 ≤ d) {o : Nat} {w : Int32} {p : Int32} {M : Mem} {k : Value → Mem → Prop} (h : (o = 59 ∧ wOK w ∧ ¬ p < 0 ∧ ¬ 12 ≤ p) ∧ (k (.int (bI (¬ abI (M 60 (wf (w).toNatClampNeg 1) - M 60 (14 + (p).toNatClampNeg)) ≤ brs (M 60 (wf (w).toNatClampNeg 0)) (M 60 (wf (w).toNatClampNeg 2)) (M 60 3)))) M)) : CallP d 145 [.ref o, .int w, .int p] M k := by
  obtain ⟨hp, h⟩ := h
  obtain ⟨d, rfl⟩ : ∃ d', d = d' + 1 := ⟨d - 1, by omega⟩
  obtain ⟨rfl, hw, h1, h2⟩ := hp
  obtain ⟨t, ht, rfl⟩ := i32_14 h1 h2
  have c1 : (nI t).toNatClampNeg = t := nI_clamp (by omega)
  have c2 : (nI (14 + t)).toNatClampNeg = 14 + t := nI_clamp (by omega)
  have c3 : (nI (14 + t)).toInt = ((14 + t : Nat) : Int) := nI_toInt (by omega)
  rw [c1] at h
  · refine enterV (n := 80) [(139, pf_X7_walkerIs), (144, pf_X7_bears)] [] mI_145 (by decide) (Nat.le_of_ble_eq_true rfl) (T_cons (s_X7_walkerIs (by omega)) (T_cons (s_X7_bears (by omega)) T_nil)) ?_
    rw [le_X7_doesFall]
    simp only [dX7_doesFall_0, dX7_doesFall_1, dX7_doesFall_2, dX7_doesFall_3, dX7_doesFall_6, dX7_doesFall_7, dX7_doesFall_10, dX7_doesFall_12, dX7_doesFall_13, dX7_doesFall_14, dX7_doesFall_15, dX7_doesFall_16, dX7_doesFall_19, dX7_doesFall_20, dX7_doesFall_21, dX7_doesFall_24, dX7_doesFall_27, dX7_doesFall_28, dX7_doesFall_31, dX7_doesFall_32, cr_7_113, cr_7_116, cr_7_119, fr_7_9, al_10, al_11, al_12, al_13, al_14, al_16, al_17, al_18, al_19, al_2, al_20, al_21, al_23, al_24, al_27, al_28, al_29, al_3, al_30, al_31, al_32, al_34, al_36, al_37, al_38, al_39, al_4, al_40, al_41, al_42, al_43, al_45, al_46, al_47, al_48, al_49, al_5, al_52, al_53, al_54, al_55, al_56, al_57, al_58, al_6, al_60, al_61, al_62, al_63, al_64, al_65, al_66, al_67, al_69, al_7, al_70, al_71, al_72, al_73, al_9, gf_6_0_59, pcl_0, pcl_1, pcl_100, pcl_101, pcl_102, pcl_103, pcl_104, pcl_105, pcl_106, pcl_107, pcl_108, pcl_109, pcl_110, pcl_111, pcl_112, pcl_15, pcl_22, pcl_25, pcl_26, pcl_33, pcl_44, pcl_50, pcl_59, pcl_8, rOK_i, rOK_z, v_aload_0, v_bipush_14, v_getfield, v_goto, v_iadd, v_iaload, v_ic_le, v_iconst_0, v_iconst_1, v_iload_1, v_iload_2, v_invs, v_invv, v_ireturn, v_isub, vcS_abs, vcV_2_6, vcV_3_6, vgf_i, vgf_r, vgf_s, vc_d, rr_0, rr_1, csT_h, csT_t, csT_n, bI_0, bI_1, bI_z, bT, List.mem_cons, List.not_mem_nil, List.length_cons, List.length_nil, ite_not, ↓reduceIte, true_and, and_true, not_true_eq_false, not_false_eq_true, false_or, or_false, or_true, true_or, Nat.reduceAdd, Nat.reduceEqDiff, Nat.reduceBEq, Nat.reduceLeDiff, Nat.reduceLT, Nat.reduceSub, Int.reduceAdd, Int.reduceLE, Int.reduceLT, Int.reduceToNat, Int.reduceNeg, Int.reduceNatCast', reduceCtorEq, Int32.reduceOfInt, Int32.reduceOfNat, Int32.reduceToNatClampNeg, Int32.reduceToInt, i10, i01, nEM, pe_X7_walkerIs, pe_X7_bears, hw, Int32.reduceLT, Int32.reduceLE, not_false_eq_true, p14, c2, c3]
    refine ⟨by omega, ?_⟩
    by_cases hc : abI (M 60 (wf (w).toNatClampNeg 1) - M 60 (14 + t)) ≤ brs (M 60 (wf (w).toNatClampNeg 0)) (M 60 (wf (w).toNatClampNeg 2)) (M 60 3)
    · rw [bI_f (fun z => z hc)] at h
      rw [if_pos (by exact hc)]
      exact h
    · rw [bI_t hc] at h
      rw [if_neg (by exact hc)]
      exact h

theorem s_X7_doesFall {d : Nat} (hd : 4 ≤ d) : Snd d 145 pf_X7_doesFall := by
  intro args M k h
  unfold pf_X7_doesFall at h
  split at h
  · exact c_X7_doesFall hd h
  · exact h.elim
/-- the planks of a row -/
def plr (r : Nat → Int32) : Nat → Int32 := fun j => r (14 + j)
theorem or0 (x : Int32) : x ||| 0 = x := Int32.or_zero
set_option maxRecDepth 100000 in
set_option maxHeartbeats 4000000 in
theorem lp_fallsOn {d : Nat} (hd : 4 ≤ d) {M : Mem} {k : Value → Mem → Prop} {w : Int32} (hw : wOK w) : ∀ (n i : Nat) (s : Int32), i + n = 12 → k (.int (unfF (M 60 (wf (w).toNatClampNeg 1)) (brs (M 60 (wf (w).toNatClampNeg 0)) (M 60 (wf (w).toNatClampNeg 2)) (M 60 3)) (plr (M 60)) n i s)) M → WP (7, yX7_fallsOn, cX7_fallsOn, 4, (some .int)) (d + 1) k 4 [.ref 59, .int w, .int s, .int (nI i)] [] M := by
  intro n
  induction n with
  | zero =>
    intro i s hi h
    have : i = 12 := by omega
    subst this
    refine goV (n := 80) [(145, pf_X7_doesFall)] [4] (T_cons (s_X7_doesFall hd) T_nil) ?_
    simp only [dX7_fallsOn_0, dX7_fallsOn_1, dX7_fallsOn_2, dX7_fallsOn_3, dX7_fallsOn_4, dX7_fallsOn_5, dX7_fallsOn_7, dX7_fallsOn_10, dX7_fallsOn_11, dX7_fallsOn_12, dX7_fallsOn_13, dX7_fallsOn_14, dX7_fallsOn_17, dX7_fallsOn_20, dX7_fallsOn_21, dX7_fallsOn_22, dX7_fallsOn_23, dX7_fallsOn_26, dX7_fallsOn_27, dX7_fallsOn_28, dX7_fallsOn_29, dX7_fallsOn_32, dX7_fallsOn_35, dX7_fallsOn_36, cr_7_122, al_10, al_11, al_12, al_13, al_14, al_16, al_17, al_18, al_19, al_2, al_20, al_21, al_23, al_24, al_27, al_28, al_29, al_3, al_30, al_31, al_32, al_34, al_36, al_37, al_38, al_39, al_4, al_40, al_41, al_42, al_43, al_45, al_46, al_47, al_48, al_49, al_5, al_52, al_53, al_54, al_55, al_56, al_57, al_58, al_6, al_60, al_61, al_62, al_63, al_64, al_65, al_66, al_67, al_69, al_7, al_70, al_71, al_72, al_73, al_9, cat_i, cat_l, cat_r, cat_u, pcl_0, pcl_1, pcl_100, pcl_101, pcl_102, pcl_103, pcl_104, pcl_105, pcl_106, pcl_107, pcl_108, pcl_109, pcl_110, pcl_111, pcl_112, pcl_15, pcl_22, pcl_25, pcl_26, pcl_33, pcl_44, pcl_50, pcl_59, pcl_8, rOK_i, rOK_z, v_aload_0, v_bipush_12, v_goto, v_ic_ge, v_iconst_0, v_iconst_1, v_if_eq, v_iinc_3, v_iload_1, v_iload_2, v_iload_3, v_invv, v_ior, v_ireturn, v_ishl, v_istore_2, v_istore_3, vcV_3_6, vc_d, rr_0, rr_1, csT_h, csT_t, csT_n, bI_0, bI_1, bI_z, bT, List.mem_cons, List.not_mem_nil, List.length_cons, List.length_nil, ite_not, ↓reduceIte, true_and, and_true, not_true_eq_false, not_false_eq_true, false_or, or_false, or_true, true_or, Nat.reduceAdd, Nat.reduceEqDiff, Nat.reduceBEq, Nat.reduceLeDiff, Nat.reduceLT, Nat.reduceSub, Int.reduceAdd, Int.reduceLE, Int.reduceLT, Int.reduceToNat, Int.reduceNeg, Int.reduceNatCast', reduceCtorEq, Int32.reduceOfInt, Int32.reduceOfNat, Int32.reduceToNatClampNeg, Int32.reduceToInt, i10, i01, nEM, show (12 : Int32) ≤ nI 12 from by decide]
    exact h
  | succ n ih =>
    intro i s hi h
    refine goV (n := 80) [(145, pf_X7_doesFall)] [4] (T_cons (s_X7_doesFall hd) T_nil) ?_
    have c1 : ¬ (12 : Int32) ≤ nI i := nI_ge (b := 12) (by omega) (by decide)
    have c3 : (nI i).toNatClampNeg = i := nI_clamp (by omega)
    have c4 : ¬ nI i < 0 := nI_pos (by omega)
    simp only [dX7_fallsOn_0, dX7_fallsOn_1, dX7_fallsOn_2, dX7_fallsOn_3, dX7_fallsOn_4, dX7_fallsOn_5, dX7_fallsOn_7, dX7_fallsOn_10, dX7_fallsOn_11, dX7_fallsOn_12, dX7_fallsOn_13, dX7_fallsOn_14, dX7_fallsOn_17, dX7_fallsOn_20, dX7_fallsOn_21, dX7_fallsOn_22, dX7_fallsOn_23, dX7_fallsOn_26, dX7_fallsOn_27, dX7_fallsOn_28, dX7_fallsOn_29, dX7_fallsOn_32, dX7_fallsOn_35, dX7_fallsOn_36, cr_7_122, al_10, al_11, al_12, al_13, al_14, al_16, al_17, al_18, al_19, al_2, al_20, al_21, al_23, al_24, al_27, al_28, al_29, al_3, al_30, al_31, al_32, al_34, al_36, al_37, al_38, al_39, al_4, al_40, al_41, al_42, al_43, al_45, al_46, al_47, al_48, al_49, al_5, al_52, al_53, al_54, al_55, al_56, al_57, al_58, al_6, al_60, al_61, al_62, al_63, al_64, al_65, al_66, al_67, al_69, al_7, al_70, al_71, al_72, al_73, al_9, cat_i, cat_l, cat_r, cat_u, pcl_0, pcl_1, pcl_100, pcl_101, pcl_102, pcl_103, pcl_104, pcl_105, pcl_106, pcl_107, pcl_108, pcl_109, pcl_110, pcl_111, pcl_112, pcl_15, pcl_22, pcl_25, pcl_26, pcl_33, pcl_44, pcl_50, pcl_59, pcl_8, rOK_i, rOK_z, v_aload_0, v_bipush_12, v_goto, v_ic_ge, v_iconst_0, v_iconst_1, v_if_eq, v_iinc_3, v_iload_1, v_iload_2, v_iload_3, v_invv, v_ior, v_ireturn, v_ishl, v_istore_2, v_istore_3, vcV_3_6, vc_d, rr_0, rr_1, csT_h, csT_t, csT_n, bI_0, bI_1, bI_z, bT, List.mem_cons, List.not_mem_nil, List.length_cons, List.length_nil, ite_not, ↓reduceIte, true_and, and_true, not_true_eq_false, not_false_eq_true, false_or, or_false, or_true, true_or, Nat.reduceAdd, Nat.reduceEqDiff, Nat.reduceBEq, Nat.reduceLeDiff, Nat.reduceLT, Nat.reduceSub, Int.reduceAdd, Int.reduceLE, Int.reduceLT, Int.reduceToNat, Int.reduceNeg, Int.reduceNatCast', reduceCtorEq, Int32.reduceOfInt, Int32.reduceOfNat, Int32.reduceToNatClampNeg, Int32.reduceToInt, i10, i01, nEM, pe_X7_doesFall, hw, c1, c3, c4, nI_1, or0]
    rw [unfF] at h
    by_cases hc : abI (M 60 (wf (w).toNatClampNeg 1) - M 60 (14 + i)) ≤ brs (M 60 (wf (w).toNatClampNeg 0)) (M 60 (wf (w).toNatClampNeg 2)) (M 60 3)
    · rw [if_pos (show abI (M 60 (wf (w).toNatClampNeg 1) - plr (M 60) i) ≤ brs (M 60 (wf (w).toNatClampNeg 0)) (M 60 (wf (w).toNatClampNeg 2)) (M 60 3) from hc)] at h
      simp only [hc, not_true_eq_false, not_false_eq_true, if_true, if_false]
      exact ih (i + 1) s (by omega) h
    · rw [if_neg (show ¬ abI (M 60 (wf (w).toNatClampNeg 1) - plr (M 60) i) ≤ brs (M 60 (wf (w).toNatClampNeg 0)) (M 60 (wf (w).toNatClampNeg 2)) (M 60 3) from hc)] at h
      simp only [hc, not_true_eq_false, not_false_eq_true, if_true, if_false]
      exact ih (i + 1) _ (by omega) h
def pf_X7_fallsOn : PF := fun args M k => match args with
  | [.ref o, .int w] => (o = 59 ∧ wOK w) ∧ (k (.int (unfF (M 60 (wf (w).toNatClampNeg 1)) (brs (M 60 (wf (w).toNatClampNeg 0)) (M 60 (wf (w).toNatClampNeg 2)) (M 60 3)) (plr (M 60)) 12 0 0)) M)
  | _ => False
theorem pe_X7_fallsOn {o : Nat} {w : Int32} {M : Mem} {k : Value → Mem → Prop} : pf_X7_fallsOn [.ref o, .int w] M k = ((o = 59 ∧ wOK w) ∧ (k (.int (unfF (M 60 (wf (w).toNatClampNeg 1)) (brs (M 60 (wf (w).toNatClampNeg 0)) (M 60 (wf (w).toNatClampNeg 2)) (M 60 3)) (plr (M 60)) 12 0 0)) M)) := rfl
theorem le_X7_fallsOn {o : Nat} {w : Int32} : lent 4 ([.ref o, .int w] : List Value) = [.ref o, .int w, .retAddr 0, .retAddr 0] := rfl
set_option maxRecDepth 100000 in
set_option maxHeartbeats 4000000 in
theorem c_X7_fallsOn {d : Nat} (hd : 5 ≤ d) {o : Nat} {w : Int32} {M : Mem} {k : Value → Mem → Prop} (h : (o = 59 ∧ wOK w) ∧ (k (.int (unfF (M 60 (wf (w).toNatClampNeg 1)) (brs (M 60 (wf (w).toNatClampNeg 0)) (M 60 (wf (w).toNatClampNeg 2)) (M 60 3)) (plr (M 60)) 12 0 0)) M)) : CallP d 146 [.ref o, .int w] M k := by
  obtain ⟨hp, h⟩ := h
  obtain ⟨d, rfl⟩ : ∃ d', d = d' + 1 := ⟨d - 1, by omega⟩
  obtain ⟨rfl, hw⟩ := hp
  · refine enterV (n := 80) [] [4] mI_146 (by decide) (Nat.le_of_ble_eq_true rfl) T_nil ?_
    rw [le_X7_fallsOn]
    simp only [dX7_fallsOn_0, dX7_fallsOn_1, dX7_fallsOn_2, dX7_fallsOn_3, dX7_fallsOn_4, dX7_fallsOn_5, dX7_fallsOn_7, dX7_fallsOn_10, dX7_fallsOn_11, dX7_fallsOn_12, dX7_fallsOn_13, dX7_fallsOn_14, dX7_fallsOn_17, dX7_fallsOn_20, dX7_fallsOn_21, dX7_fallsOn_22, dX7_fallsOn_23, dX7_fallsOn_26, dX7_fallsOn_27, dX7_fallsOn_28, dX7_fallsOn_29, dX7_fallsOn_32, dX7_fallsOn_35, dX7_fallsOn_36, cr_7_122, al_10, al_11, al_12, al_13, al_14, al_16, al_17, al_18, al_19, al_2, al_20, al_21, al_23, al_24, al_27, al_28, al_29, al_3, al_30, al_31, al_32, al_34, al_36, al_37, al_38, al_39, al_4, al_40, al_41, al_42, al_43, al_45, al_46, al_47, al_48, al_49, al_5, al_52, al_53, al_54, al_55, al_56, al_57, al_58, al_6, al_60, al_61, al_62, al_63, al_64, al_65, al_66, al_67, al_69, al_7, al_70, al_71, al_72, al_73, al_9, cat_i, cat_l, cat_r, cat_u, pcl_0, pcl_1, pcl_100, pcl_101, pcl_102, pcl_103, pcl_104, pcl_105, pcl_106, pcl_107, pcl_108, pcl_109, pcl_110, pcl_111, pcl_112, pcl_15, pcl_22, pcl_25, pcl_26, pcl_33, pcl_44, pcl_50, pcl_59, pcl_8, rOK_i, rOK_z, v_aload_0, v_bipush_12, v_goto, v_ic_ge, v_iconst_0, v_iconst_1, v_if_eq, v_iinc_3, v_iload_1, v_iload_2, v_iload_3, v_invv, v_ior, v_ireturn, v_ishl, v_istore_2, v_istore_3, vcV_3_6, vc_d, rr_0, rr_1, csT_h, csT_t, csT_n, bI_0, bI_1, bI_z, bT, List.mem_cons, List.not_mem_nil, List.length_cons, List.length_nil, ite_not, ↓reduceIte, true_and, and_true, not_true_eq_false, not_false_eq_true, false_or, or_false, or_true, true_or, Nat.reduceAdd, Nat.reduceEqDiff, Nat.reduceBEq, Nat.reduceLeDiff, Nat.reduceLT, Nat.reduceSub, Int.reduceAdd, Int.reduceLE, Int.reduceLT, Int.reduceToNat, Int.reduceNeg, Int.reduceNatCast', reduceCtorEq, Int32.reduceOfInt, Int32.reduceOfNat, Int32.reduceToNatClampNeg, Int32.reduceToInt, i10, i01, nEM]
    exact lp_fallsOn (by omega) hw 12 0 0 rfl h

theorem s_X7_fallsOn {d : Nat} (hd : 5 ≤ d) : Snd d 146 pf_X7_fallsOn := by
  intro args M k h
  unfold pf_X7_fallsOn at h
  split at h
  · exact c_X7_fallsOn hd h
  · exact h.elim
/-- other numbers than a kind's change and leave nothing, like 6 -/
def nk (kd : Int32) : Int32 := if isK kd then kd else 6
theorem nk_no {kd : Int32} (h : ¬ isK kd) : ¬ kd = 0 ∧ ¬ kd = 1 ∧ ¬ kd = 2 ∧ ¬ kd = 3 ∧ ¬ kd = 4 ∧ ¬ kd = 5 := by
  refine ⟨?_, ?_, ?_, ?_, ?_, ?_⟩ <;> (intro e; subst e; exact h (by decide))
def pf_X7_changedBy : PF := fun args M k => match args with
  | [.int kd, .int g, .int p] => (True) ∧ (k (.int (swy (nk kd) g p)) M)
  | _ => False
theorem pe_X7_changedBy {kd : Int32} {g : Int32} {p : Int32} {M : Mem} {k : Value → Mem → Prop} : pf_X7_changedBy [.int kd, .int g, .int p] M k = ((True) ∧ (k (.int (swy (nk kd) g p)) M)) := rfl
theorem le_X7_changedBy {kd : Int32} {g : Int32} {p : Int32} : lent 4 ([.int kd, .int g, .int p] : List Value) = [.int kd, .int g, .int p, .retAddr 0] := rfl
set_option maxRecDepth 100000 in
set_option maxHeartbeats 4000000 in
theorem c_X7_changedBy {d : Nat} (hd : 1 ≤ d) {kd : Int32} {g : Int32} {p : Int32} {M : Mem} {k : Value → Mem → Prop} (h : (True) ∧ (k (.int (swy (nk kd) g p)) M)) : CallP d 151 [.int kd, .int g, .int p] M k := by
  obtain ⟨hp, h⟩ := h
  obtain ⟨d, rfl⟩ : ∃ d', d = d' + 1 := ⟨d - 1, by omega⟩
  unfold nk swy at h
  by_cases hK : isK kd
  · rw [if_pos hK] at h
    rcases k7 hK with e | e | e | e | e | e | e
    all_goals
      refine enterV (n := 80) [] [] mI_151 (by decide) (Nat.le_of_ble_eq_true rfl) T_nil ?_
      rw [le_X7_changedBy]
      simp only [dX7_changedBy_0, dX7_changedBy_1, dX7_changedBy_2, dX7_changedBy_3, dX7_changedBy_4, dX7_changedBy_5, dX7_changedBy_44, dX7_changedBy_45, dX7_changedBy_46, dX7_changedBy_47, dX7_changedBy_48, dX7_changedBy_49, dX7_changedBy_50, dX7_changedBy_51, dX7_changedBy_52, dX7_changedBy_53, dX7_changedBy_55, dX7_changedBy_56, dX7_changedBy_57, dX7_changedBy_58, dX7_changedBy_59, dX7_changedBy_60, dX7_changedBy_62, dX7_changedBy_63, dX7_changedBy_64, dX7_changedBy_65, dX7_changedBy_66, dX7_changedBy_68, dX7_changedBy_69, dX7_changedBy_71, dX7_changedBy_72, dX7_changedBy_73, dX7_changedBy_76, dX7_changedBy_79, dX7_changedBy_80, dX7_changedBy_81, cr_7_79, cr_7_85, al_10, al_11, al_12, al_13, al_14, al_16, al_17, al_18, al_19, al_2, al_20, al_21, al_23, al_24, al_27, al_28, al_29, al_3, al_30, al_31, al_32, al_34, al_36, al_37, al_38, al_39, al_4, al_40, al_41, al_42, al_43, al_45, al_46, al_47, al_48, al_49, al_5, al_52, al_53, al_54, al_55, al_56, al_57, al_58, al_6, al_60, al_61, al_62, al_63, al_64, al_65, al_66, al_67, al_69, al_7, al_70, al_71, al_72, al_73, al_9, cat_i, cat_l, cat_r, cat_u, rOK_i, rOK_z, v_bipush_10, v_bipush_20, v_bipush_m5, v_iadd, v_iconst_0, v_iconst_1, v_iconst_2, v_iconst_4, v_iconst_5, v_idiv, v_iload_0, v_iload_1, v_iload_2, v_iload_3, v_invs, v_ireturn, v_istore_3, v_isub, v_table, vcS_max, vcS_min, vtab_c, vtab_n, vc_d, rr_0, rr_1, csT_h, csT_t, csT_n, bI_0, bI_1, bI_z, bT, List.mem_cons, List.not_mem_nil, List.length_cons, List.length_nil, ite_not, ↓reduceIte, true_and, and_true, not_true_eq_false, not_false_eq_true, false_or, or_false, or_true, true_or, Nat.reduceAdd, Nat.reduceEqDiff, Nat.reduceBEq, Nat.reduceLeDiff, Nat.reduceLT, Nat.reduceSub, Int.reduceAdd, Int.reduceLE, Int.reduceLT, Int.reduceToNat, Int.reduceNeg, Int.reduceNatCast', reduceCtorEq, Int32.reduceOfInt, Int32.reduceOfNat, Int32.reduceToNatClampNeg, Int32.reduceToInt, i10, i01, nEM, e, Int32.reduceLT, Int32.reduceLE, not_false_eq_true, Array.toList, List.length_cons, Int.reduceSub]
      simpa [e] using h
  · rw [if_neg hK] at h
    obtain ⟨k0, k1, k2, k3, k4, k5⟩ := nk_no hK
    refine enterV (n := 80) [] [] mI_151 (by decide) (Nat.le_of_ble_eq_true rfl) T_nil ?_
    rw [le_X7_changedBy]
    simp only [dX7_changedBy_0, dX7_changedBy_1, dX7_changedBy_2, dX7_changedBy_3, dX7_changedBy_4, dX7_changedBy_5, dX7_changedBy_44, dX7_changedBy_45, dX7_changedBy_46, dX7_changedBy_47, dX7_changedBy_48, dX7_changedBy_49, dX7_changedBy_50, dX7_changedBy_51, dX7_changedBy_52, dX7_changedBy_53, dX7_changedBy_55, dX7_changedBy_56, dX7_changedBy_57, dX7_changedBy_58, dX7_changedBy_59, dX7_changedBy_60, dX7_changedBy_62, dX7_changedBy_63, dX7_changedBy_64, dX7_changedBy_65, dX7_changedBy_66, dX7_changedBy_68, dX7_changedBy_69, dX7_changedBy_71, dX7_changedBy_72, dX7_changedBy_73, dX7_changedBy_76, dX7_changedBy_79, dX7_changedBy_80, dX7_changedBy_81, cr_7_79, cr_7_85, al_10, al_11, al_12, al_13, al_14, al_16, al_17, al_18, al_19, al_2, al_20, al_21, al_23, al_24, al_27, al_28, al_29, al_3, al_30, al_31, al_32, al_34, al_36, al_37, al_38, al_39, al_4, al_40, al_41, al_42, al_43, al_45, al_46, al_47, al_48, al_49, al_5, al_52, al_53, al_54, al_55, al_56, al_57, al_58, al_6, al_60, al_61, al_62, al_63, al_64, al_65, al_66, al_67, al_69, al_7, al_70, al_71, al_72, al_73, al_9, cat_i, cat_l, cat_r, cat_u, rOK_i, rOK_z, v_bipush_10, v_bipush_20, v_bipush_m5, v_iadd, v_iconst_0, v_iconst_1, v_iconst_2, v_iconst_4, v_iconst_5, v_idiv, v_iload_0, v_iload_1, v_iload_2, v_iload_3, v_invs, v_ireturn, v_istore_3, v_isub, v_table, vcS_max, vcS_min, vtab_c, vtab_n, vc_d, rr_0, rr_1, csT_h, csT_t, csT_n, bI_0, bI_1, bI_z, bT, List.mem_cons, List.not_mem_nil, List.length_cons, List.length_nil, ite_not, ↓reduceIte, true_and, and_true, not_true_eq_false, not_false_eq_true, false_or, or_false, or_true, true_or, Nat.reduceAdd, Nat.reduceEqDiff, Nat.reduceBEq, Nat.reduceLeDiff, Nat.reduceLT, Nat.reduceSub, Int.reduceAdd, Int.reduceLE, Int.reduceLT, Int.reduceToNat, Int.reduceNeg, Int.reduceNatCast', reduceCtorEq, Int32.reduceOfInt, Int32.reduceOfNat, Int32.reduceToNatClampNeg, Int32.reduceToInt, i10, i01, nEM, Int32.reduceLT, Int32.reduceLE, not_false_eq_true, Array.toList, List.length_cons, Int.reduceSub, k0, k1, k2, k3, k4, k5]
    simpa using h
theorem s_X7_changedBy {d : Nat} (hd : 1 ≤ d) : Snd d 151 pf_X7_changedBy := by
  intro args M k h
  unfold pf_X7_changedBy at h
  split at h
  · exact c_X7_changedBy hd h
  · exact h.elim
def pf_X7_keptOf : PF := fun args M k => match args with
  | [.int kd, .int g, .int p] => (True) ∧ (k (.int (ftp (nk kd) g p)) M)
  | _ => False
theorem pe_X7_keptOf {kd : Int32} {g : Int32} {p : Int32} {M : Mem} {k : Value → Mem → Prop} : pf_X7_keptOf [.int kd, .int g, .int p] M k = ((True) ∧ (k (.int (ftp (nk kd) g p)) M)) := rfl
theorem le_X7_keptOf {kd : Int32} {g : Int32} {p : Int32} : lent 3 ([.int kd, .int g, .int p] : List Value) = [.int kd, .int g, .int p] := rfl
set_option maxRecDepth 100000 in
set_option maxHeartbeats 4000000 in
theorem c_X7_keptOf {d : Nat} (hd : 1 ≤ d) {kd : Int32} {g : Int32} {p : Int32} {M : Mem} {k : Value → Mem → Prop} (h : (True) ∧ (k (.int (ftp (nk kd) g p)) M)) : CallP d 152 [.int kd, .int g, .int p] M k := by
  obtain ⟨hp, h⟩ := h
  obtain ⟨d, rfl⟩ : ∃ d', d = d' + 1 := ⟨d - 1, by omega⟩
  unfold nk ftp at h
  by_cases hK : isK kd
  · rw [if_pos hK] at h
    rcases k7 hK with e | e | e | e | e | e | e
    all_goals
      refine enterV (n := 80) [] [] mI_152 (by decide) (Nat.le_of_ble_eq_true rfl) T_nil ?_
      rw [le_X7_keptOf]
      simp only [dX7_keptOf_0, dX7_keptOf_1, dX7_keptOf_36, dX7_keptOf_37, dX7_keptOf_38, dX7_keptOf_39, dX7_keptOf_40, dX7_keptOf_41, dX7_keptOf_42, dX7_keptOf_43, dX7_keptOf_44, dX7_keptOf_45, dX7_keptOf_46, dX7_keptOf_47, dX7_keptOf_48, dX7_keptOf_49, dX7_keptOf_50, dX7_keptOf_51, dX7_keptOf_52, dX7_keptOf_53, dX7_keptOf_54, dX7_keptOf_56, dX7_keptOf_57, dX7_keptOf_58, rOK_i, rOK_z, v_bipush_20, v_iadd, v_iconst_2, v_iconst_3, v_iconst_5, v_idiv, v_iload_0, v_iload_1, v_iload_2, v_ireturn, v_table, vtab_c, vtab_n, vc_d, rr_0, rr_1, csT_h, csT_t, csT_n, bI_0, bI_1, bI_z, bT, List.mem_cons, List.not_mem_nil, List.length_cons, List.length_nil, ite_not, ↓reduceIte, true_and, and_true, not_true_eq_false, not_false_eq_true, false_or, or_false, or_true, true_or, Nat.reduceAdd, Nat.reduceEqDiff, Nat.reduceBEq, Nat.reduceLeDiff, Nat.reduceLT, Nat.reduceSub, Int.reduceAdd, Int.reduceLE, Int.reduceLT, Int.reduceToNat, Int.reduceNeg, Int.reduceNatCast', reduceCtorEq, Int32.reduceOfInt, Int32.reduceOfNat, Int32.reduceToNatClampNeg, Int32.reduceToInt, i10, i01, nEM, e, Int32.reduceLT, Int32.reduceLE, not_false_eq_true, Array.toList, List.length_cons, Int.reduceSub]
      simpa [e] using h
  · rw [if_neg hK] at h
    obtain ⟨k0, k1, k2, k3, k4, k5⟩ := nk_no hK
    refine enterV (n := 80) [] [] mI_152 (by decide) (Nat.le_of_ble_eq_true rfl) T_nil ?_
    rw [le_X7_keptOf]
    simp only [dX7_keptOf_0, dX7_keptOf_1, dX7_keptOf_36, dX7_keptOf_37, dX7_keptOf_38, dX7_keptOf_39, dX7_keptOf_40, dX7_keptOf_41, dX7_keptOf_42, dX7_keptOf_43, dX7_keptOf_44, dX7_keptOf_45, dX7_keptOf_46, dX7_keptOf_47, dX7_keptOf_48, dX7_keptOf_49, dX7_keptOf_50, dX7_keptOf_51, dX7_keptOf_52, dX7_keptOf_53, dX7_keptOf_54, dX7_keptOf_56, dX7_keptOf_57, dX7_keptOf_58, rOK_i, rOK_z, v_bipush_20, v_iadd, v_iconst_2, v_iconst_3, v_iconst_5, v_idiv, v_iload_0, v_iload_1, v_iload_2, v_ireturn, v_table, vtab_c, vtab_n, vc_d, rr_0, rr_1, csT_h, csT_t, csT_n, bI_0, bI_1, bI_z, bT, List.mem_cons, List.not_mem_nil, List.length_cons, List.length_nil, ite_not, ↓reduceIte, true_and, and_true, not_true_eq_false, not_false_eq_true, false_or, or_false, or_true, true_or, Nat.reduceAdd, Nat.reduceEqDiff, Nat.reduceBEq, Nat.reduceLeDiff, Nat.reduceLT, Nat.reduceSub, Int.reduceAdd, Int.reduceLE, Int.reduceLT, Int.reduceToNat, Int.reduceNeg, Int.reduceNatCast', reduceCtorEq, Int32.reduceOfInt, Int32.reduceOfNat, Int32.reduceToNatClampNeg, Int32.reduceToInt, i10, i01, nEM, Int32.reduceLT, Int32.reduceLE, not_false_eq_true, Array.toList, List.length_cons, Int.reduceSub, k0, k1, k2, k3, k4, k5]
    simpa using h
theorem s_X7_keptOf {d : Nat} (hd : 1 ≤ d) : Snd d 152 pf_X7_keptOf := by
  intro args M k h
  unfold pf_X7_keptOf at h
  split at h
  · exact c_X7_keptOf hd h
  · exact h.elim
