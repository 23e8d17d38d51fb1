/-! M: the model's leaves -/
theorem bI_c {c d : Prop} [Decidable c] [Decidable d] (h : c ↔ d) : bI c = bI d := by
  unfold bI
  by_cases q : c
  · rw [if_pos q, if_pos (h.mp q)]
  · rw [if_neg q, if_neg (fun z => q (h.mpr z))]
theorem nEM {c : Prop} : (¬ c ∨ c) = True := eq_true ((Classical.em c).symm)
theorem and1 (x : Int32) : (x &&& 1 = 1) = ¬ (x &&& 1 = 0) := by
  obtain ⟨j, hj, e⟩ := pk_andE x (m := 1) 1 (by decide)
  rw [e]
  have : j = 0 ∨ j = 1 := by omega
  rcases this with rfl | rfl
  · exact propext ⟨fun z => absurd z (by decide), fun z => absurd rfl z⟩
  · exact propext ⟨fun _ => by decide, fun _ => rfl⟩
def pf_X7_within : PF := fun args M k => match args with
  | [.int v, .int l, .int u] => (True) ∧ (k (.int (bI (¬ v < l ∧ ¬ u < v))) M)
  | _ => False
theorem pe_X7_within {v : Int32} {l : Int32} {u : Int32} {M : Mem} {k : Value → Mem → Prop} : pf_X7_within [.int v, .int l, .int u] M k = ((True) ∧ (k (.int (bI (¬ v < l ∧ ¬ u < v))) M)) := rfl
theorem le_X7_within {v : Int32} {l : Int32} {u : Int32} : lent 3 ([.int v, .int l, .int u] : List Value) = [.int v, .int l, .int u] := rfl
set_option maxRecDepth 100000 in
set_option maxHeartbeats 4000000 in
theorem c_X7_within {d : Nat} (hd : 1 ≤ d) {v : Int32} {l : Int32} {u : Int32} {M : Mem} {k : Value → Mem → Prop} (h : (True) ∧ (k (.int (bI (¬ v < l ∧ ¬ u < v))) M)) : CallP d 126 [.int v, .int l, .int u] M k := by
  obtain ⟨hp, h⟩ := h
  obtain ⟨d, rfl⟩ : ∃ d', d = d' + 1 := ⟨d - 1, by omega⟩
  refine enterV (n := 80) [] [] mI_126 (by decide) (Nat.le_of_ble_eq_true rfl) T_nil ?_
  rw [le_X7_within]
  simp only [dX7_within_0, dX7_within_1, dX7_within_2, dX7_within_5, dX7_within_6, dX7_within_7, dX7_within_10, dX7_within_11, dX7_within_14, dX7_within_15, rOK_i, rOK_z, v_goto, v_ic_gt, v_ic_lt, v_iconst_0, v_iconst_1, v_iload_0, v_iload_1, v_iload_2, v_ireturn, vc_d, rr_0, rr_1, csT_h, csT_t, csT_n, bI_0, bI_1, bI_z, bT, List.mem_cons, List.not_mem_nil, List.length_cons, List.length_nil, ite_not, ↓reduceIte, true_and, and_true, not_true_eq_false, not_false_eq_true, false_or, or_false, or_true, true_or, Nat.reduceAdd, Nat.reduceEqDiff, Nat.reduceBEq, Nat.reduceLeDiff, Nat.reduceLT, Nat.reduceSub, Int.reduceAdd, Int.reduceLE, Int.reduceLT, Int.reduceToNat, Int.reduceNeg, Int.reduceNatCast', reduceCtorEq, Int32.reduceOfInt, Int32.reduceOfNat, Int32.reduceToNatClampNeg, Int32.reduceToInt, i10, i01, nEM]
  repeat' (first | split | apply And.intro)
  all_goals first | (simpa [bI, hasW, *] using h) | (simp only [Int32.lt_iff_toInt_lt, Int32.le_iff_toInt_le, Int32.reduceToInt] at *; omega)
theorem s_X7_within {d : Nat} (hd : 1 ≤ d) : Snd d 126 pf_X7_within := by
  intro args M k h
  unfold pf_X7_within at h
  split at h
  · exact c_X7_within hd h
  · exact h.elim
def pf_X7_has : PF := fun args M k => match args with
  | [.int s, .int m] => (True) ∧ (k (.int (bI (¬ (s >>> (m &&& 31)) &&& 1 = 0))) M)
  | _ => False
theorem pe_X7_has {s : Int32} {m : Int32} {M : Mem} {k : Value → Mem → Prop} : pf_X7_has [.int s, .int m] M k = ((True) ∧ (k (.int (bI (¬ (s >>> (m &&& 31)) &&& 1 = 0))) M)) := rfl
theorem le_X7_has {s : Int32} {m : Int32} : lent 2 ([.int s, .int m] : List Value) = [.int s, .int m] := rfl
set_option maxRecDepth 100000 in
set_option maxHeartbeats 4000000 in
theorem c_X7_has {d : Nat} (hd : 1 ≤ d) {s : Int32} {m : Int32} {M : Mem} {k : Value → Mem → Prop} (h : (True) ∧ (k (.int (bI (¬ (s >>> (m &&& 31)) &&& 1 = 0))) M)) : CallP d 131 [.int s, .int m] M k := by
  obtain ⟨hp, h⟩ := h
  obtain ⟨d, rfl⟩ : ∃ d', d = d' + 1 := ⟨d - 1, by omega⟩
  refine enterV (n := 80) [] [] mI_131 (by decide) (Nat.le_of_ble_eq_true rfl) T_nil ?_
  rw [le_X7_has]
  simp only [dX7_has_0, dX7_has_1, dX7_has_2, dX7_has_3, dX7_has_4, dX7_has_5, dX7_has_6, dX7_has_9, dX7_has_10, dX7_has_13, dX7_has_14, rOK_i, rOK_z, v_goto, v_iand, v_ic_ne, v_iconst_0, v_iconst_1, v_iload_0, v_iload_1, v_ireturn, v_ishr, vc_d, rr_0, rr_1, csT_h, csT_t, csT_n, bI_0, bI_1, bI_z, bT, List.mem_cons, List.not_mem_nil, List.length_cons, List.length_nil, ite_not, ↓reduceIte, true_and, and_true, not_true_eq_false, not_false_eq_true, false_or, or_false, or_true, true_or, Nat.reduceAdd, Nat.reduceEqDiff, Nat.reduceBEq, Nat.reduceLeDiff, Nat.reduceLT, Nat.reduceSub, Int.reduceAdd, Int.reduceLE, Int.reduceLT, Int.reduceToNat, Int.reduceNeg, Int.reduceNatCast', reduceCtorEq, Int32.reduceOfInt, Int32.reduceOfNat, Int32.reduceToNatClampNeg, Int32.reduceToInt, i10, i01, nEM, and1]
  repeat' (first | split | apply And.intro)
  all_goals first | (simpa [bI, hasW, *] using h) | (simp only [Int32.lt_iff_toInt_lt, Int32.le_iff_toInt_le, Int32.reduceToInt] at *; omega)
theorem s_X7_has {d : Nat} (hd : 1 ≤ d) : Snd d 131 pf_X7_has := by
  intro args M k h
  unfold pf_X7_has at h
  split at h
  · exact c_X7_has hd h
  · exact h.elim
def pf_X7_held : PF := fun args M k => match args with
  | [.int g] => (True) ∧ (k (.int (hld g)) M)
  | _ => False
theorem pe_X7_held {g : Int32} {M : Mem} {k : Value → Mem → Prop} : pf_X7_held [.int g] M k = ((True) ∧ (k (.int (hld g)) M)) := rfl
theorem le_X7_held {g : Int32} : lent 1 ([.int g] : List Value) = [.int g] := rfl
set_option maxRecDepth 100000 in
set_option maxHeartbeats 4000000 in
theorem c_X7_held {d : Nat} (hd : 1 ≤ d) {g : Int32} {M : Mem} {k : Value → Mem → Prop} (h : (True) ∧ (k (.int (hld g)) M)) : CallP d 133 [.int g] M k := by
  obtain ⟨hp, h⟩ := h
  obtain ⟨d, rfl⟩ : ∃ d', d = d' + 1 := ⟨d - 1, by omega⟩
  refine enterV (n := 80) [] [] mI_133 (by decide) (Nat.le_of_ble_eq_true rfl) T_nil ?_
  rw [le_X7_held]
  simp only [dX7_held_0, dX7_held_1, dX7_held_3, dX7_held_4, dX7_held_7, dX7_held_10, cr_7_79, cr_7_85, al_10, al_11, al_12, al_13, al_14, al_16, al_17, al_18, al_19, al_2, al_20, al_21, al_23, al_24, al_27, al_28, al_29, al_3, al_30, al_31, al_32, al_34, al_36, al_37, al_38, al_39, al_4, al_40, al_41, al_42, al_43, al_45, al_46, al_47, al_48, al_49, al_5, al_52, al_53, al_54, al_55, al_56, al_57, al_58, al_6, al_60, al_61, al_62, al_63, al_64, al_65, al_66, al_67, al_69, al_7, al_70, al_71, al_72, al_73, al_9, rOK_i, rOK_z, v_bipush_99, v_iconst_0, v_iload_0, v_invs, v_ireturn, vcS_max, vcS_min, vc_d, rr_0, rr_1, csT_h, csT_t, csT_n, bI_0, bI_1, bI_z, bT, List.mem_cons, List.not_mem_nil, List.length_cons, List.length_nil, ite_not, ↓reduceIte, true_and, and_true, not_true_eq_false, not_false_eq_true, false_or, or_false, or_true, true_or, Nat.reduceAdd, Nat.reduceEqDiff, Nat.reduceBEq, Nat.reduceLeDiff, Nat.reduceLT, Nat.reduceSub, Int.reduceAdd, Int.reduceLE, Int.reduceLT, Int.reduceToNat, Int.reduceNeg, Int.reduceNatCast', reduceCtorEq, Int32.reduceOfInt, Int32.reduceOfNat, Int32.reduceToNatClampNeg, Int32.reduceToInt, i10, i01, nEM]
  exact h
theorem s_X7_held {d : Nat} (hd : 1 ≤ d) : Snd d 133 pf_X7_held := by
  intro args M k h
  unfold pf_X7_held at h
  split at h
  · exact c_X7_held hd h
  · exact h.elim
def pf_X7_isPlank : PF := fun args M k => match args with
  | [.int p] => (True) ∧ (k (.int (bI (¬ p < 0 ∧ ¬ 11 < p))) M)
  | _ => False
theorem pe_X7_isPlank {p : Int32} {M : Mem} {k : Value → Mem → Prop} : pf_X7_isPlank [.int p] M k = ((True) ∧ (k (.int (bI (¬ p < 0 ∧ ¬ 11 < p))) M)) := rfl
theorem le_X7_isPlank {p : Int32} : lent 1 ([.int p] : List Value) = [.int p] := rfl
set_option maxRecDepth 100000 in
set_option maxHeartbeats 4000000 in
theorem c_X7_isPlank {d : Nat} (hd : 2 ≤ d) {p : Int32} {M : Mem} {k : Value → Mem → Prop} (h : (True) ∧ (k (.int (bI (¬ p < 0 ∧ ¬ 11 < p))) M)) : CallP d 134 [.int p] M k := by
  obtain ⟨hp, h⟩ := h
  obtain ⟨d, rfl⟩ : ∃ d', d = d' + 1 := ⟨d - 1, by omega⟩
  refine enterV (n := 80) [(126, pf_X7_within)] [] mI_134 (by decide) (Nat.le_of_ble_eq_true rfl) (T_cons (s_X7_within (by omega)) T_nil) ?_
  rw [le_X7_isPlank]
  simp only [dX7_isPlank_0, dX7_isPlank_1, dX7_isPlank_2, dX7_isPlank_4, dX7_isPlank_7, cr_7_88, al_10, al_11, al_12, al_13, al_14, al_16, al_17, al_18, al_19, al_2, al_20, al_21, al_23, al_24, al_27, al_28, al_29, al_3, al_30, al_31, al_32, al_34, al_36, al_37, al_38, al_39, al_4, al_40, al_41, al_42, al_43, al_45, al_46, al_47, al_48, al_49, al_5, al_52, al_53, al_54, al_55, al_56, al_57, al_58, al_6, al_60, al_61, al_62, al_63, al_64, al_65, al_66, al_67, al_69, al_7, al_70, al_71, al_72, al_73, al_9, rOK_i, rOK_z, v_bipush_11, v_iconst_0, v_iload_0, v_invs, v_ireturn, vcS_3_1, vc_d, rr_0, rr_1, csT_h, csT_t, csT_n, bI_0, bI_1, bI_z, bT, List.mem_cons, List.not_mem_nil, List.length_cons, List.length_nil, ite_not, ↓reduceIte, true_and, and_true, not_true_eq_false, not_false_eq_true, false_or, or_false, or_true, true_or, Nat.reduceAdd, Nat.reduceEqDiff, Nat.reduceBEq, Nat.reduceLeDiff, Nat.reduceLT, Nat.reduceSub, Int.reduceAdd, Int.reduceLE, Int.reduceLT, Int.reduceToNat, Int.reduceNeg, Int.reduceNatCast', reduceCtorEq, Int32.reduceOfInt, Int32.reduceOfNat, Int32.reduceToNatClampNeg, Int32.reduceToInt, i10, i01, nEM, pe_X7_within]
  exact h
theorem s_X7_isPlank {d : Nat} (hd : 2 ≤ d) : Snd d 134 pf_X7_isPlank := by
  intro args M k h
  unfold pf_X7_isPlank at h
  split at h
  · exact c_X7_isPlank hd h
  · exact h.elim
def pf_X7_isGait : PF := fun args M k => match args with
  | [.int p] => (True) ∧ (k (.int (bI (¬ p < 0 ∧ ¬ 99 < p))) M)
  | _ => False
theorem pe_X7_isGait {p : Int32} {M : Mem} {k : Value → Mem → Prop} : pf_X7_isGait [.int p] M k = ((True) ∧ (k (.int (bI (¬ p < 0 ∧ ¬ 99 < p))) M)) := rfl
theorem le_X7_isGait {p : Int32} : lent 1 ([.int p] : List Value) = [.int p] := rfl
set_option maxRecDepth 100000 in
set_option maxHeartbeats 4000000 in
theorem c_X7_isGait {d : Nat} (hd : 2 ≤ d) {p : Int32} {M : Mem} {k : Value → Mem → Prop} (h : (True) ∧ (k (.int (bI (¬ p < 0 ∧ ¬ 99 < p))) M)) : CallP d 135 [.int p] M k := by
  obtain ⟨hp, h⟩ := h
  obtain ⟨d, rfl⟩ : ∃ d', d = d' + 1 := ⟨d - 1, by omega⟩
  refine enterV (n := 80) [(126, pf_X7_within)] [] mI_135 (by decide) (Nat.le_of_ble_eq_true rfl) (T_cons (s_X7_within (by omega)) T_nil) ?_
  rw [le_X7_isGait]
  simp only [dX7_isGait_0, dX7_isGait_1, dX7_isGait_2, dX7_isGait_4, dX7_isGait_7, cr_7_88, al_10, al_11, al_12, al_13, al_14, al_16, al_17, al_18, al_19, al_2, al_20, al_21, al_23, al_24, al_27, al_28, al_29, al_3, al_30, al_31, al_32, al_34, al_36, al_37, al_38, al_39, al_4, al_40, al_41, al_42, al_43, al_45, al_46, al_47, al_48, al_49, al_5, al_52, al_53, al_54, al_55, al_56, al_57, al_58, al_6, al_60, al_61, al_62, al_63, al_64, al_65, al_66, al_67, al_69, al_7, al_70, al_71, al_72, al_73, al_9, rOK_i, rOK_z, v_bipush_99, v_iconst_0, v_iload_0, v_invs, v_ireturn, vcS_3_1, vc_d, rr_0, rr_1, csT_h, csT_t, csT_n, bI_0, bI_1, bI_z, bT, List.mem_cons, List.not_mem_nil, List.length_cons, List.length_nil, ite_not, ↓reduceIte, true_and, and_true, not_true_eq_false, not_false_eq_true, false_or, or_false, or_true, true_or, Nat.reduceAdd, Nat.reduceEqDiff, Nat.reduceBEq, Nat.reduceLeDiff, Nat.reduceLT, Nat.reduceSub, Int.reduceAdd, Int.reduceLE, Int.reduceLT, Int.reduceToNat, Int.reduceNeg, Int.reduceNatCast', reduceCtorEq, Int32.reduceOfInt, Int32.reduceOfNat, Int32.reduceToNatClampNeg, Int32.reduceToInt, i10, i01, nEM, pe_X7_within]
  exact h
theorem s_X7_isGait {d : Nat} (hd : 2 ≤ d) : Snd d 135 pf_X7_isGait := by
  intro args M k h
  unfold pf_X7_isGait at h
  split at h
  · exact c_X7_isGait hd h
  · exact h.elim
def pf_X7_isKind : PF := fun args M k => match args with
  | [.int p] => (True) ∧ (k (.int (bI (¬ p < 0 ∧ ¬ 6 < p))) M)
  | _ => False
theorem pe_X7_isKind {p : Int32} {M : Mem} {k : Value → Mem → Prop} : pf_X7_isKind [.int p] M k = ((True) ∧ (k (.int (bI (¬ p < 0 ∧ ¬ 6 < p))) M)) := rfl
theorem le_X7_isKind {p : Int32} : lent 1 ([.int p] : List Value) = [.int p] := rfl
set_option maxRecDepth 100000 in
set_option maxHeartbeats 4000000 in
theorem c_X7_isKind {d : Nat} (hd : 2 ≤ d) {p : Int32} {M : Mem} {k : Value → Mem → Prop} (h : (True) ∧ (k (.int (bI (¬ p < 0 ∧ ¬ 6 < p))) M)) : CallP d 137 [.int p] M k := by
  obtain ⟨hp, h⟩ := h
  obtain ⟨d, rfl⟩ : ∃ d', d = d' + 1 := ⟨d - 1, by omega⟩
  refine enterV (n := 80) [(126, pf_X7_within)] [] mI_137 (by decide) (Nat.le_of_ble_eq_true rfl) (T_cons (s_X7_within (by omega)) T_nil) ?_
  rw [le_X7_isKind]
  simp only [dX7_isKind_0, dX7_isKind_1, dX7_isKind_2, dX7_isKind_4, dX7_isKind_7, cr_7_88, al_10, al_11, al_12, al_13, al_14, al_16, al_17, al_18, al_19, al_2, al_20, al_21, al_23, al_24, al_27, al_28, al_29, al_3, al_30, al_31, al_32, al_34, al_36, al_37, al_38, al_39, al_4, al_40, al_41, al_42, al_43, al_45, al_46, al_47, al_48, al_49, al_5, al_52, al_53, al_54, al_55, al_56, al_57, al_58, al_6, al_60, al_61, al_62, al_63, al_64, al_65, al_66, al_67, al_69, al_7, al_70, al_71, al_72, al_73, al_9, rOK_i, rOK_z, v_bipush_6, v_iconst_0, v_iload_0, v_invs, v_ireturn, vcS_3_1, vc_d, rr_0, rr_1, csT_h, csT_t, csT_n, bI_0, bI_1, bI_z, bT, List.mem_cons, List.not_mem_nil, List.length_cons, List.length_nil, ite_not, ↓reduceIte, true_and, and_true, not_true_eq_false, not_false_eq_true, false_or, or_false, or_true, true_or, Nat.reduceAdd, Nat.reduceEqDiff, Nat.reduceBEq, Nat.reduceLeDiff, Nat.reduceLT, Nat.reduceSub, Int.reduceAdd, Int.reduceLE, Int.reduceLT, Int.reduceToNat, Int.reduceNeg, Int.reduceNatCast', reduceCtorEq, Int32.reduceOfInt, Int32.reduceOfNat, Int32.reduceToNatClampNeg, Int32.reduceToInt, i10, i01, nEM, pe_X7_within]
  exact h
theorem s_X7_isKind {d : Nat} (hd : 2 ≤ d) : Snd d 137 pf_X7_isKind := by
  intro args M k h
  unfold pf_X7_isKind at h
  split at h
  · exact c_X7_isKind hd h
  · exact h.elim
def pf_X7_isSpot : PF := fun args M k => match args with
  | [.int p] => (True) ∧ (k (.int (bI (¬ p < 0 ∧ ¬ 9 < p))) M)
  | _ => False
theorem pe_X7_isSpot {p : Int32} {M : Mem} {k : Value → Mem → Prop} : pf_X7_isSpot [.int p] M k = ((True) ∧ (k (.int (bI (¬ p < 0 ∧ ¬ 9 < p))) M)) := rfl
theorem le_X7_isSpot {p : Int32} : lent 1 ([.int p] : List Value) = [.int p] := rfl
set_option maxRecDepth 100000 in
set_option maxHeartbeats 4000000 in
theorem c_X7_isSpot {d : Nat} (hd : 2 ≤ d) {p : Int32} {M : Mem} {k : Value → Mem → Prop} (h : (True) ∧ (k (.int (bI (¬ p < 0 ∧ ¬ 9 < p))) M)) : CallP d 213 [.int p] M k := by
  obtain ⟨hp, h⟩ := h
  obtain ⟨d, rfl⟩ : ∃ d', d = d' + 1 := ⟨d - 1, by omega⟩
  refine enterV (n := 80) [(126, pf_X7_within)] [] mI_213 (by decide) (Nat.le_of_ble_eq_true rfl) (T_cons (s_X7_within (by omega)) T_nil) ?_
  rw [le_X7_isSpot]
  simp only [dX7_isSpot_0, dX7_isSpot_1, dX7_isSpot_2, dX7_isSpot_4, dX7_isSpot_7, cr_7_88, al_10, al_11, al_12, al_13, al_14, al_16, al_17, al_18, al_19, al_2, al_20, al_21, al_23, al_24, al_27, al_28, al_29, al_3, al_30, al_31, al_32, al_34, al_36, al_37, al_38, al_39, al_4, al_40, al_41, al_42, al_43, al_45, al_46, al_47, al_48, al_49, al_5, al_52, al_53, al_54, al_55, al_56, al_57, al_58, al_6, al_60, al_61, al_62, al_63, al_64, al_65, al_66, al_67, al_69, al_7, al_70, al_71, al_72, al_73, al_9, rOK_i, rOK_z, v_bipush_9, v_iconst_0, v_iload_0, v_invs, v_ireturn, vcS_3_1, vc_d, rr_0, rr_1, csT_h, csT_t, csT_n, bI_0, bI_1, bI_z, bT, List.mem_cons, List.not_mem_nil, List.length_cons, List.length_nil, ite_not, ↓reduceIte, true_and, and_true, not_true_eq_false, not_false_eq_true, false_or, or_false, or_true, true_or, Nat.reduceAdd, Nat.reduceEqDiff, Nat.reduceBEq, Nat.reduceLeDiff, Nat.reduceLT, Nat.reduceSub, Int.reduceAdd, Int.reduceLE, Int.reduceLT, Int.reduceToNat, Int.reduceNeg, Int.reduceNatCast', reduceCtorEq, Int32.reduceOfInt, Int32.reduceOfNat, Int32.reduceToNatClampNeg, Int32.reduceToInt, i10, i01, nEM, pe_X7_within]
  exact h
theorem s_X7_isSpot {d : Nat} (hd : 2 ≤ d) : Snd d 213 pf_X7_isSpot := by
  intro args M k h
  unfold pf_X7_isSpot at h
  split at h
  · exact c_X7_isSpot hd h
  · exact h.elim
def pf_X7_isSheet : PF := fun args M k => match args with
  | [.int p] => (True) ∧ (k (.int (bI (¬ p < 0 ∧ ¬ 3 < p))) M)
  | _ => False
theorem pe_X7_isSheet {p : Int32} {M : Mem} {k : Value → Mem → Prop} : pf_X7_isSheet [.int p] M k = ((True) ∧ (k (.int (bI (¬ p < 0 ∧ ¬ 3 < p))) M)) := rfl
theorem le_X7_isSheet {p : Int32} : lent 1 ([.int p] : List Value) = [.int p] := rfl
set_option maxRecDepth 100000 in
set_option maxHeartbeats 4000000 in
theorem c_X7_isSheet {d : Nat} (hd : 2 ≤ d) {p : Int32} {M : Mem} {k : Value → Mem → Prop} (h : (True) ∧ (k (.int (bI (¬ p < 0 ∧ ¬ 3 < p))) M)) : CallP d 216 [.int p] M k := by
  obtain ⟨hp, h⟩ := h
  obtain ⟨d, rfl⟩ : ∃ d', d = d' + 1 := ⟨d - 1, by omega⟩
  refine enterV (n := 80) [(126, pf_X7_within)] [] mI_216 (by decide) (Nat.le_of_ble_eq_true rfl) (T_cons (s_X7_within (by omega)) T_nil) ?_
  rw [le_X7_isSheet]
  simp only [dX7_isSheet_0, dX7_isSheet_1, dX7_isSheet_2, dX7_isSheet_3, dX7_isSheet_6, cr_7_88, al_10, al_11, al_12, al_13, al_14, al_16, al_17, al_18, al_19, al_2, al_20, al_21, al_23, al_24, al_27, al_28, al_29, al_3, al_30, al_31, al_32, al_34, al_36, al_37, al_38, al_39, al_4, al_40, al_41, al_42, al_43, al_45, al_46, al_47, al_48, al_49, al_5, al_52, al_53, al_54, al_55, al_56, al_57, al_58, al_6, al_60, al_61, al_62, al_63, al_64, al_65, al_66, al_67, al_69, al_7, al_70, al_71, al_72, al_73, al_9, rOK_i, rOK_z, v_iconst_0, v_iconst_3, v_iload_0, v_invs, v_ireturn, vcS_3_1, vc_d, rr_0, rr_1, csT_h, csT_t, csT_n, bI_0, bI_1, bI_z, bT, List.mem_cons, List.not_mem_nil, List.length_cons, List.length_nil, ite_not, ↓reduceIte, true_and, and_true, not_true_eq_false, not_false_eq_true, false_or, or_false, or_true, true_or, Nat.reduceAdd, Nat.reduceEqDiff, Nat.reduceBEq, Nat.reduceLeDiff, Nat.reduceLT, Nat.reduceSub, Int.reduceAdd, Int.reduceLE, Int.reduceLT, Int.reduceToNat, Int.reduceNeg, Int.reduceNatCast', reduceCtorEq, Int32.reduceOfInt, Int32.reduceOfNat, Int32.reduceToNatClampNeg, Int32.reduceToInt, i10, i01, nEM, pe_X7_within]
  exact h
theorem s_X7_isSheet {d : Nat} (hd : 2 ≤ d) : Snd d 216 pf_X7_isSheet := by
  intro args M k h
  unfold pf_X7_isSheet at h
  split at h
  · exact c_X7_isSheet hd h
  · exact h.elim
/-- one more of a finding, in the model -/
def fndM (M : Mem) (c : Nat) : Mem := mset (mset M 63 (c + 1) (M 63 (c + 1) + 1)) 63 0 (M 63 0 + 1)
def pf_X7_finding : PF := fun args M k => match args with
  | [.ref o, .int f] => (o = 59 ∧ ¬ -1000001 - f < 0 ∧ ¬ 7 ≤ -1000001 - f) ∧ (k (.int f) (fndM M (-1000001 - f).toNatClampNeg))
  | _ => False
theorem pe_X7_finding {o : Nat} {f : Int32} {M : Mem} {k : Value → Mem → Prop} : pf_X7_finding [.ref o, .int f] M k = ((o = 59 ∧ ¬ -1000001 - f < 0 ∧ ¬ 7 ≤ -1000001 - f) ∧ (k (.int f) (fndM M (-1000001 - f).toNatClampNeg))) := rfl
theorem le_X7_finding {o : Nat} {f : Int32} : lent 2 ([.ref o, .int f] : List Value) = [.ref o, .int f] := rfl
set_option maxRecDepth 100000 in
set_option maxHeartbeats 4000000 in
theorem c_X7_finding {d : Nat} (hd : 1 ≤ d) {o : Nat} {f : Int32} {M : Mem} {k : Value → Mem → Prop} (h : (o = 59 ∧ ¬ -1000001 - f < 0 ∧ ¬ 7 ≤ -1000001 - f) ∧ (k (.int f) (fndM M (-1000001 - f).toNatClampNeg))) : CallP d 125 [.ref o, .int f] M k := by
  obtain ⟨hp, h⟩ := h
  obtain ⟨d, rfl⟩ : ∃ d', d = d' + 1 := ⟨d - 1, by omega⟩
  obtain ⟨rfl, h1, h2⟩ := hp
  obtain ⟨c, hc, e⟩ := nI_of2 (M := 6) (n := 6) rfl h1 (by
    rw [Int32.le_iff_toInt_le] at h2 ⊢
    simp only [Int32.reduceToInt] at h2 ⊢
    omega)
  rw [e, nI_clamp (by omega)] at h
  have c2 : (nI (c + 1)).toInt = ((c + 1 : Nat) : Int) := nI_toInt (by omega)
  have c3 : (nI (c + 1)).toNatClampNeg = c + 1 := nI_clamp (by omega)
  have c4 : (0 == c + 1) = false := by simp
  · refine enterV (n := 80) [] [] mI_125 (by decide) (Nat.le_of_ble_eq_true rfl) T_nil ?_
    rw [le_X7_finding]
    simp only [dX7_finding_0, dX7_finding_1, dX7_finding_4, dX7_finding_6, dX7_finding_7, dX7_finding_8, dX7_finding_9, dX7_finding_10, dX7_finding_11, dX7_finding_12, dX7_finding_13, dX7_finding_14, dX7_finding_15, dX7_finding_16, dX7_finding_19, dX7_finding_20, dX7_finding_21, dX7_finding_22, dX7_finding_23, dX7_finding_24, dX7_finding_25, dX7_finding_26, fr_7_19, kr_7_69, skr_7_69, al_10, al_11, al_12, al_13, al_14, al_16, al_17, al_18, al_19, al_2, al_20, al_21, al_23, al_24, al_27, al_28, al_29, al_3, al_30, al_31, al_32, al_34, al_36, al_37, al_38, al_39, al_4, al_40, al_41, al_42, al_43, al_45, al_46, al_47, al_48, al_49, al_5, al_52, al_53, al_54, al_55, al_56, al_57, al_58, al_6, al_60, al_61, al_62, al_63, al_64, al_65, al_66, al_67, al_69, al_7, al_70, al_71, al_72, al_73, al_9, cat_i, cat_l, cat_r, cat_u, gf_6_4_59, rOK_i, rOK_z, v_aload_0, v_dup2, v_getfield, v_iadd, v_iaload, v_iastore, v_iconst_0, v_iconst_1, v_iload_1, v_ireturn, v_isub, v_ldc, vgf_i, vgf_r, vgf_s, vld_i, vld_s, vc_d, rr_0, rr_1, csT_h, csT_t, csT_n, bI_0, bI_1, bI_z, bT, List.mem_cons, List.not_mem_nil, List.length_cons, List.length_nil, ite_not, ↓reduceIte, true_and, and_true, not_true_eq_false, not_false_eq_true, false_or, or_false, or_true, true_or, Nat.reduceAdd, Nat.reduceEqDiff, Nat.reduceBEq, Nat.reduceLeDiff, Nat.reduceLT, Nat.reduceSub, Int.reduceAdd, Int.reduceLE, Int.reduceLT, Int.reduceToNat, Int.reduceNeg, Int.reduceNatCast', reduceCtorEq, Int32.reduceOfInt, Int32.reduceOfNat, Int32.reduceToNatClampNeg, Int32.reduceToInt, i10, i01, nEM, e, nI_1, c2, c3, c4, mset_s, mset_n, upd_s, upd_n]
    exact ⟨by omega, by omega, h⟩

theorem s_X7_finding {d : Nat} (hd : 1 ≤ d) : Snd d 125 pf_X7_finding := by
  intro args M k h
  unfold pf_X7_finding at h
  split at h
  · exact c_X7_finding hd h
  · exact h.elim
theorem fn_0 {M : Mem} {k : Value → Mem → Prop} : pf_X7_finding [.ref 59, .int (-1000001)] M k = k (.int (-1000001)) (fndM M 0) := propext ⟨fun h => h.2, fun h => ⟨⟨rfl, by decide, by decide⟩, h⟩⟩
theorem fn_1 {M : Mem} {k : Value → Mem → Prop} : pf_X7_finding [.ref 59, .int (-1000002)] M k = k (.int (-1000002)) (fndM M 1) := propext ⟨fun h => h.2, fun h => ⟨⟨rfl, by decide, by decide⟩, h⟩⟩
theorem fn_2 {M : Mem} {k : Value → Mem → Prop} : pf_X7_finding [.ref 59, .int (-1000003)] M k = k (.int (-1000003)) (fndM M 2) := propext ⟨fun h => h.2, fun h => ⟨⟨rfl, by decide, by decide⟩, h⟩⟩
theorem fn_3 {M : Mem} {k : Value → Mem → Prop} : pf_X7_finding [.ref 59, .int (-1000004)] M k = k (.int (-1000004)) (fndM M 3) := propext ⟨fun h => h.2, fun h => ⟨⟨rfl, by decide, by decide⟩, h⟩⟩
theorem fn_4 {M : Mem} {k : Value → Mem → Prop} : pf_X7_finding [.ref 59, .int (-1000005)] M k = k (.int (-1000005)) (fndM M 4) := propext ⟨fun h => h.2, fun h => ⟨⟨rfl, by decide, by decide⟩, h⟩⟩
theorem fn_5 {M : Mem} {k : Value → Mem → Prop} : pf_X7_finding [.ref 59, .int (-1000006)] M k = k (.int (-1000006)) (fndM M 5) := propext ⟨fun h => h.2, fun h => ⟨⟨rfl, by decide, by decide⟩, h⟩⟩
theorem fn_6 {M : Mem} {k : Value → Mem → Prop} : pf_X7_finding [.ref 59, .int (-1000007)] M k = k (.int (-1000007)) (fndM M 6) := propext ⟨fun h => h.2, fun h => ⟨⟨rfl, by decide, by decide⟩, h⟩⟩
def pf_X7_become : PF := fun args M k => match args with
  | [.ref o, .int p, .int v] => (o = 59 ∧ ¬ p < 0 ∧ ¬ 50 ≤ p) ∧ (k (.int (M 60 (p).toNatClampNeg)) (mset M 60 (p).toNatClampNeg v))
  | _ => False
theorem pe_X7_become {o : Nat} {p : Int32} {v : Int32} {M : Mem} {k : Value → Mem → Prop} : pf_X7_become [.ref o, .int p, .int v] M k = ((o = 59 ∧ ¬ p < 0 ∧ ¬ 50 ≤ p) ∧ (k (.int (M 60 (p).toNatClampNeg)) (mset M 60 (p).toNatClampNeg v))) := rfl
theorem le_X7_become {o : Nat} {p : Int32} {v : Int32} : lent 4 ([.ref o, .int p, .int v] : List Value) = [.ref o, .int p, .int v, .retAddr 0] := rfl
set_option maxRecDepth 100000 in
set_option maxHeartbeats 4000000 in
theorem c_X7_become {d : Nat} (hd : 1 ≤ d) {o : Nat} {p : Int32} {v : Int32} {M : Mem} {k : Value → Mem → Prop} (h : (o = 59 ∧ ¬ p < 0 ∧ ¬ 50 ≤ p) ∧ (k (.int (M 60 (p).toNatClampNeg)) (mset M 60 (p).toNatClampNeg v))) : CallP d 127 [.ref o, .int p, .int v] M k := by
  obtain ⟨hp, h⟩ := h
  obtain ⟨d, rfl⟩ : ∃ d', d = d' + 1 := ⟨d - 1, by omega⟩
  obtain ⟨rfl, h1, h2⟩ := hp
  · refine enterV (n := 80) [] [] mI_127 (by decide) (Nat.le_of_ble_eq_true rfl) T_nil ?_
    rw [le_X7_become]
    simp only [dX7_become_0, dX7_become_1, dX7_become_4, dX7_become_5, dX7_become_6, dX7_become_7, dX7_become_8, dX7_become_11, dX7_become_12, dX7_become_13, dX7_become_14, dX7_become_15, fr_7_9, al_10, al_11, al_12, al_13, al_14, al_16, al_17, al_18, al_19, al_2, al_20, al_21, al_23, al_24, al_27, al_28, al_29, al_3, al_30, al_31, al_32, al_34, al_36, al_37, al_38, al_39, al_4, al_40, al_41, al_42, al_43, al_45, al_46, al_47, al_48, al_49, al_5, al_52, al_53, al_54, al_55, al_56, al_57, al_58, al_6, al_60, al_61, al_62, al_63, al_64, al_65, al_66, al_67, al_69, al_7, al_70, al_71, al_72, al_73, al_9, cat_i, cat_l, cat_r, cat_u, gf_6_0_59, rOK_i, rOK_z, v_aload_0, v_getfield, v_iaload, v_iastore, v_iload_1, v_iload_2, v_iload_3, v_ireturn, v_istore_3, vgf_i, vgf_r, vgf_s, vc_d, rr_0, rr_1, csT_h, csT_t, csT_n, bI_0, bI_1, bI_z, bT, List.mem_cons, List.not_mem_nil, List.length_cons, List.length_nil, ite_not, ↓reduceIte, true_and, and_true, not_true_eq_false, not_false_eq_true, false_or, or_false, or_true, true_or, Nat.reduceAdd, Nat.reduceEqDiff, Nat.reduceBEq, Nat.reduceLeDiff, Nat.reduceLT, Nat.reduceSub, Int.reduceAdd, Int.reduceLE, Int.reduceLT, Int.reduceToNat, Int.reduceNeg, Int.reduceNatCast', reduceCtorEq, Int32.reduceOfInt, Int32.reduceOfNat, Int32.reduceToNatClampNeg, Int32.reduceToInt, i10, i01, nEM]
    exact ⟨bd h1 h2 rfl, bd h1 h2 rfl, h⟩

theorem s_X7_become {d : Nat} (hd : 1 ≤ d) : Snd d 127 pf_X7_become := by
  intro args M k h
  unfold pf_X7_become at h
  split at h
  · exact c_X7_become hd h
  · exact h.elim
set_option maxRecDepth 100000 in
set_option maxHeartbeats 4000000 in
theorem lp_copyRow {d : Nat} {M : Mem} {k : Value → Mem → Prop} {p q : Nat} (hp : al p = 50) (hq : al q = 50) (hn : ¬ p = q) (h : k (.int 0) (mrow M q (cpN 50 (M p) (M q)))) : ∀ (n i : Nat), i + n = 50 → WP (7, yX7_copyRow, cX7_copyRow, 3, none) (d + 1) k 2 [.ref p, .ref q, .int (nI i)] [] (mrow M q (cpN i (M p) (M q))) := by
  have hpp : 0 < al p := by omega
  have h90 : (p = 90) = False := eq_false (al_ne hpp al_90)
  have e1 := bq hn
  intro n
  induction n with
  | zero =>
    intro i hi
    have : i = 50 := by omega
    subst this
    refine goV (n := 80) [] [2] T_nil ?_
    simp only [dX7_copyRow_0, dX7_copyRow_1, dX7_copyRow_2, dX7_copyRow_3, dX7_copyRow_5, dX7_copyRow_8, dX7_copyRow_9, dX7_copyRow_10, dX7_copyRow_11, dX7_copyRow_12, dX7_copyRow_13, dX7_copyRow_14, dX7_copyRow_17, dX7_copyRow_20, al_10, al_11, al_12, al_13, al_14, al_16, al_17, al_18, al_19, al_2, al_20, al_21, al_23, al_24, al_27, al_28, al_29, al_3, al_30, al_31, al_32, al_34, al_36, al_37, al_38, al_39, al_4, al_40, al_41, al_42, al_43, al_45, al_46, al_47, al_48, al_49, al_5, al_52, al_53, al_54, al_55, al_56, al_57, al_58, al_6, al_60, al_61, al_62, al_63, al_64, al_65, al_66, al_67, al_69, al_7, al_70, al_71, al_72, al_73, al_9, cat_i, cat_l, cat_r, cat_u, v_aload_0, v_aload_1, v_bipush_50, v_goto, v_iaload, v_iastore, v_ic_ge, v_iconst_0, v_iinc_2, v_iload_2, v_istore_2, v_return, vc_d, rr_0, rr_1, csT_h, csT_t, csT_n, bI_0, bI_1, bI_z, bT, List.mem_cons, List.not_mem_nil, List.length_cons, List.length_nil, ite_not, ↓reduceIte, true_and, and_true, not_true_eq_false, not_false_eq_true, false_or, or_false, or_true, true_or, Nat.reduceAdd, Nat.reduceEqDiff, Nat.reduceBEq, Nat.reduceLeDiff, Nat.reduceLT, Nat.reduceSub, Int.reduceAdd, Int.reduceLE, Int.reduceLT, Int.reduceToNat, Int.reduceNeg, Int.reduceNatCast', reduceCtorEq, Int32.reduceOfInt, Int32.reduceOfNat, Int32.reduceToNatClampNeg, Int32.reduceToInt, i10, i01, nEM, show (50 : Int32) ≤ nI 50 from by decide]
    exact h
  | succ n ih =>
    intro i hi
    refine goV (n := 80) [] [2] T_nil ?_
    have c1 : ¬ (50 : Int32) ≤ nI i := nI_ge (b := 50) (by omega) (by decide)
    have c2 : (nI i).toInt = i := nI_toInt (by omega)
    have c3 : (nI i).toNatClampNeg = i := nI_clamp (by omega)
    simp only [dX7_copyRow_0, dX7_copyRow_1, dX7_copyRow_2, dX7_copyRow_3, dX7_copyRow_5, dX7_copyRow_8, dX7_copyRow_9, dX7_copyRow_10, dX7_copyRow_11, dX7_copyRow_12, dX7_copyRow_13, dX7_copyRow_14, dX7_copyRow_17, dX7_copyRow_20, al_10, al_11, al_12, al_13, al_14, al_16, al_17, al_18, al_19, al_2, al_20, al_21, al_23, al_24, al_27, al_28, al_29, al_3, al_30, al_31, al_32, al_34, al_36, al_37, al_38, al_39, al_4, al_40, al_41, al_42, al_43, al_45, al_46, al_47, al_48, al_49, al_5, al_52, al_53, al_54, al_55, al_56, al_57, al_58, al_6, al_60, al_61, al_62, al_63, al_64, al_65, al_66, al_67, al_69, al_7, al_70, al_71, al_72, al_73, al_9, cat_i, cat_l, cat_r, cat_u, v_aload_0, v_aload_1, v_bipush_50, v_goto, v_iaload, v_iastore, v_ic_ge, v_iconst_0, v_iinc_2, v_iload_2, v_istore_2, v_return, vc_d, rr_0, rr_1, csT_h, csT_t, csT_n, bI_0, bI_1, bI_z, bT, List.mem_cons, List.not_mem_nil, List.length_cons, List.length_nil, ite_not, ↓reduceIte, true_and, and_true, not_true_eq_false, not_false_eq_true, false_or, or_false, or_true, true_or, Nat.reduceAdd, Nat.reduceEqDiff, Nat.reduceBEq, Nat.reduceLeDiff, Nat.reduceLT, Nat.reduceSub, Int.reduceAdd, Int.reduceLE, Int.reduceLT, Int.reduceToNat, Int.reduceNeg, Int.reduceNatCast', reduceCtorEq, Int32.reduceOfInt, Int32.reduceOfNat, Int32.reduceToNatClampNeg, Int32.reduceToInt, i10, i01, nEM, c1, c2, c3, hp, hq, h90, e1, nI_1, mset, mrow_s, mrow_n, mrow_mrow, cpN_s]
    exact ⟨by omega, by omega, ih (i + 1) (by omega)⟩
def pf_X7_copyRow : PF := fun args M k => match args with
  | [.ref p, .ref q] => (al p = 50 ∧ al q = 50 ∧ ¬ p = q) ∧ (k (.int 0) (mrow M q (cpN 50 (M p) (M q))))
  | _ => False
theorem pe_X7_copyRow {p : Nat} {q : Nat} {M : Mem} {k : Value → Mem → Prop} : pf_X7_copyRow [.ref p, .ref q] M k = ((al p = 50 ∧ al q = 50 ∧ ¬ p = q) ∧ (k (.int 0) (mrow M q (cpN 50 (M p) (M q))))) := rfl
theorem le_X7_copyRow {p : Nat} {q : Nat} : lent 3 ([.ref p, .ref q] : List Value) = [.ref p, .ref q, .retAddr 0] := rfl
set_option maxRecDepth 100000 in
set_option maxHeartbeats 4000000 in
theorem c_X7_copyRow {d : Nat} (hd : 1 ≤ d) {p : Nat} {q : Nat} {M : Mem} {k : Value → Mem → Prop} (h : (al p = 50 ∧ al q = 50 ∧ ¬ p = q) ∧ (k (.int 0) (mrow M q (cpN 50 (M p) (M q))))) : CallP d 128 [.ref p, .ref q] M k := by
  obtain ⟨hp, h⟩ := h
  obtain ⟨d, rfl⟩ : ∃ d', d = d' + 1 := ⟨d - 1, by omega⟩
  obtain ⟨h1, h2, h3⟩ := hp
  refine enterV (n := 80) [] [2] mI_128 (by decide) (Nat.le_of_ble_eq_true rfl) T_nil ?_
  rw [le_X7_copyRow]
  simp only [dX7_copyRow_0, dX7_copyRow_1, dX7_copyRow_2, dX7_copyRow_3, dX7_copyRow_5, dX7_copyRow_8, dX7_copyRow_9, dX7_copyRow_10, dX7_copyRow_11, dX7_copyRow_12, dX7_copyRow_13, dX7_copyRow_14, dX7_copyRow_17, dX7_copyRow_20, al_10, al_11, al_12, al_13, al_14, al_16, al_17, al_18, al_19, al_2, al_20, al_21, al_23, al_24, al_27, al_28, al_29, al_3, al_30, al_31, al_32, al_34, al_36, al_37, al_38, al_39, al_4, al_40, al_41, al_42, al_43, al_45, al_46, al_47, al_48, al_49, al_5, al_52, al_53, al_54, al_55, al_56, al_57, al_58, al_6, al_60, al_61, al_62, al_63, al_64, al_65, al_66, al_67, al_69, al_7, al_70, al_71, al_72, al_73, al_9, cat_i, cat_l, cat_r, cat_u, v_aload_0, v_aload_1, v_bipush_50, v_goto, v_iaload, v_iastore, v_ic_ge, v_iconst_0, v_iinc_2, v_iload_2, v_istore_2, v_return, vc_d, rr_0, rr_1, csT_h, csT_t, csT_n, bI_0, bI_1, bI_z, bT, List.mem_cons, List.not_mem_nil, List.length_cons, List.length_nil, ite_not, ↓reduceIte, true_and, and_true, not_true_eq_false, not_false_eq_true, false_or, or_false, or_true, true_or, Nat.reduceAdd, Nat.reduceEqDiff, Nat.reduceBEq, Nat.reduceLeDiff, Nat.reduceLT, Nat.reduceSub, Int.reduceAdd, Int.reduceLE, Int.reduceLT, Int.reduceToNat, Int.reduceNeg, Int.reduceNatCast', reduceCtorEq, Int32.reduceOfInt, Int32.reduceOfNat, Int32.reduceToNatClampNeg, Int32.reduceToInt, i10, i01, nEM]
  have := lp_copyRow (d := d) h1 h2 h3 h 50 0 rfl
  rw [cpN_0, mrow_self] at this
  exact this
theorem s_X7_copyRow {d : Nat} (hd : 1 ≤ d) : Snd d 128 pf_X7_copyRow := by
  intro args M k h
  unfold pf_X7_copyRow at h
  split at h
  · exact c_X7_copyRow hd h
  · exact h.elim
def pf_X7_putBack : PF := fun args M k => match args with
  | [.ref o, .int v] => (o = 59) ∧ (k (.int v) (mrow M 60 (cpN 50 (M 62) (M 60))))
  | _ => False
theorem pe_X7_putBack {o : Nat} {v : Int32} {M : Mem} {k : Value → Mem → Prop} : pf_X7_putBack [.ref o, .int v] M k = ((o = 59) ∧ (k (.int v) (mrow M 60 (cpN 50 (M 62) (M 60))))) := rfl
theorem le_X7_putBack {o : Nat} {v : Int32} : lent 2 ([.ref o, .int v] : List Value) = [.ref o, .int v] := rfl
set_option maxRecDepth 100000 in
set_option maxHeartbeats 4000000 in
theorem c_X7_putBack {d : Nat} (hd : 2 ≤ d) {o : Nat} {v : Int32} {M : Mem} {k : Value → Mem → Prop} (h : (o = 59) ∧ (k (.int v) (mrow M 60 (cpN 50 (M 62) (M 60))))) : CallP d 129 [.ref o, .int v] M k := by
  obtain ⟨hp, h⟩ := h
  obtain ⟨d, rfl⟩ : ∃ d', d = d' + 1 := ⟨d - 1, by omega⟩
  obtain rfl := hp
  · refine enterV (n := 80) [(128, pf_X7_copyRow)] [] mI_129 (by decide) (Nat.le_of_ble_eq_true rfl) (T_cons (s_X7_copyRow (by omega)) T_nil) ?_
    rw [le_X7_putBack]
    simp only [dX7_putBack_0, dX7_putBack_1, dX7_putBack_4, dX7_putBack_5, dX7_putBack_8, dX7_putBack_11, dX7_putBack_12, cr_7_70, fr_7_16, fr_7_9, al_10, al_11, al_12, al_13, al_14, al_16, al_17, al_18, al_19, al_2, al_20, al_21, al_23, al_24, al_27, al_28, al_29, al_3, al_30, al_31, al_32, al_34, al_36, al_37, al_38, al_39, al_4, al_40, al_41, al_42, al_43, al_45, al_46, al_47, al_48, al_49, al_5, al_52, al_53, al_54, al_55, al_56, al_57, al_58, al_6, al_60, al_61, al_62, al_63, al_64, al_65, al_66, al_67, al_69, al_7, al_70, al_71, al_72, al_73, al_9, gf_6_0_59, gf_6_2_59, rOK_i, rOK_z, v_aload_0, v_getfield, v_iload_1, v_invs, v_ireturn, vcS_2_1, vgf_i, vgf_r, vgf_s, vc_d, rr_0, rr_1, csT_h, csT_t, csT_n, bI_0, bI_1, bI_z, bT, List.mem_cons, List.not_mem_nil, List.length_cons, List.length_nil, ite_not, ↓reduceIte, true_and, and_true, not_true_eq_false, not_false_eq_true, false_or, or_false, or_true, true_or, Nat.reduceAdd, Nat.reduceEqDiff, Nat.reduceBEq, Nat.reduceLeDiff, Nat.reduceLT, Nat.reduceSub, Int.reduceAdd, Int.reduceLE, Int.reduceLT, Int.reduceToNat, Int.reduceNeg, Int.reduceNatCast', reduceCtorEq, Int32.reduceOfInt, Int32.reduceOfNat, Int32.reduceToNatClampNeg, Int32.reduceToInt, i10, i01, nEM, pe_X7_copyRow]
    exact h

theorem s_X7_putBack {d : Nat} (hd : 2 ≤ d) : Snd d 129 pf_X7_putBack := by
  intro args M k h
  unfold pf_X7_putBack at h
  split at h
  · exact c_X7_putBack hd h
  · exact h.elim
def pf_X7_orNone : PF := fun args M k => match args with
  | [.ref o, .int v] => (o = 59) ∧ (if v < 0 then k (.int (-1000004)) (fndM M 3) else k (.int v) M)
  | _ => False
theorem pe_X7_orNone {o : Nat} {v : Int32} {M : Mem} {k : Value → Mem → Prop} : pf_X7_orNone [.ref o, .int v] M k = ((o = 59) ∧ (if v < 0 then k (.int (-1000004)) (fndM M 3) else k (.int v) M)) := rfl
theorem le_X7_orNone {o : Nat} {v : Int32} : lent 2 ([.ref o, .int v] : List Value) = [.ref o, .int v] := rfl
set_option maxRecDepth 100000 in
set_option maxHeartbeats 4000000 in
theorem c_X7_orNone {d : Nat} (hd : 2 ≤ d) {o : Nat} {v : Int32} {M : Mem} {k : Value → Mem → Prop} (h : (o = 59) ∧ (if v < 0 then k (.int (-1000004)) (fndM M 3) else k (.int v) M)) : CallP d 130 [.ref o, .int v] M k := by
  obtain ⟨hp, h⟩ := h
  obtain ⟨d, rfl⟩ : ∃ d', d = d' + 1 := ⟨d - 1, by omega⟩
  obtain rfl := hp
  · refine enterV (n := 80) [(125, pf_X7_finding)] [] mI_130 (by decide) (Nat.le_of_ble_eq_true rfl) (T_cons (s_X7_finding (by omega)) T_nil) ?_
    rw [le_X7_orNone]
    simp only [dX7_orNone_0, dX7_orNone_1, dX7_orNone_4, dX7_orNone_5, dX7_orNone_7, dX7_orNone_10, dX7_orNone_13, dX7_orNone_14, cr_7_75, kr_7_74, skr_7_74, al_10, al_11, al_12, al_13, al_14, al_16, al_17, al_18, al_19, al_2, al_20, al_21, al_23, al_24, al_27, al_28, al_29, al_3, al_30, al_31, al_32, al_34, al_36, al_37, al_38, al_39, al_4, al_40, al_41, al_42, al_43, al_45, al_46, al_47, al_48, al_49, al_5, al_52, al_53, al_54, al_55, al_56, al_57, al_58, al_6, al_60, al_61, al_62, al_63, al_64, al_65, al_66, al_67, al_69, al_7, al_70, al_71, al_72, al_73, al_9, pcl_0, pcl_1, pcl_100, pcl_101, pcl_102, pcl_103, pcl_104, pcl_105, pcl_106, pcl_107, pcl_108, pcl_109, pcl_110, pcl_111, pcl_112, pcl_15, pcl_22, pcl_25, pcl_26, pcl_33, pcl_44, pcl_50, pcl_59, pcl_8, rOK_i, rOK_z, v_aload_0, v_goto, v_if_ge, v_iload_1, v_invv, v_ireturn, v_ldc, vcV_2_6, vld_i, vld_s, vc_d, rr_0, rr_1, csT_h, csT_t, csT_n, bI_0, bI_1, bI_z, bT, List.mem_cons, List.not_mem_nil, List.length_cons, List.length_nil, ite_not, ↓reduceIte, true_and, and_true, not_true_eq_false, not_false_eq_true, false_or, or_false, or_true, true_or, Nat.reduceAdd, Nat.reduceEqDiff, Nat.reduceBEq, Nat.reduceLeDiff, Nat.reduceLT, Nat.reduceSub, Int.reduceAdd, Int.reduceLE, Int.reduceLT, Int.reduceToNat, Int.reduceNeg, Int.reduceNatCast', reduceCtorEq, Int32.reduceOfInt, Int32.reduceOfNat, Int32.reduceToNatClampNeg, Int32.reduceToInt, i10, i01, nEM, fn_0, fn_1, fn_2, fn_3, fn_4, fn_5, fn_6]
    by_cases h1 : v < 0
    · rw [if_pos h1] at h
      rw [if_neg (fun z => Int32.not_lt.mpr z h1)]
      exact h
    · rw [if_neg h1] at h
      rw [if_pos (Int32.not_lt.mp h1)]
      exact h

theorem s_X7_orNone {d : Nat} (hd : 2 ≤ d) : Snd d 130 pf_X7_orNone := by
  intro args M k h
  unfold pf_X7_orNone at h
  split at h
  · exact c_X7_orNone hd h
  · exact h.elim
/-- the model's walkers -/
def IM (r : Nat → Int32) : Prop := ∃ n, n ≤ 6 ∧ r 1 = nI n
abbrev hasM (r : Nat → Int32) (w : Int32) : Prop := ¬ w < 0 ∧ ¬ r 1 ≤ w ∧ ¬ 6 ≤ w
def pf_X7_isWalker : PF := fun args M k => match args with
  | [.ref o, .int w] => (o = 59 ∧ IM (M 60)) ∧ (k (.int (bI (hasM (M 60) w))) M)
  | _ => False
theorem pe_X7_isWalker {o : Nat} {w : Int32} {M : Mem} {k : Value → Mem → Prop} : pf_X7_isWalker [.ref o, .int w] M k = ((o = 59 ∧ IM (M 60)) ∧ (k (.int (bI (hasM (M 60) w))) M)) := rfl
theorem le_X7_isWalker {o : Nat} {w : Int32} : lent 2 ([.ref o, .int w] : List Value) = [.ref o, .int w] := rfl
set_option maxRecDepth 100000 in
set_option maxHeartbeats 4000000 in
theorem c_X7_isWalker {d : Nat} (hd : 2 ≤ d) {o : Nat} {w : Int32} {M : Mem} {k : Value → Mem → Prop} (h : (o = 59 ∧ IM (M 60)) ∧ (k (.int (bI (hasM (M 60) w))) M)) : CallP d 136 [.ref o, .int w] M k := by
  obtain ⟨hp, h⟩ := h
  obtain ⟨d, rfl⟩ : ∃ d', d = d' + 1 := ⟨d - 1, by omega⟩
  obtain ⟨rfl, n, hn, e⟩ := hp
  have key : bI (hasM (M 60) w) = bI (¬ w < 0 ∧ ¬ M 60 1 - 1 < w) := by
    apply bI_c
    unfold hasM
    rw [e]
    constructor
    · rintro ⟨a, b, c⟩
      refine ⟨a, fun z => b ?_⟩
      cases n with
      | zero => exact nI_0 ▸ Int32.not_lt.mp a
      | succ n =>
        rw [nI_pred] at z
        obtain ⟨j, hj, rfl⟩ := nI_of a
        rw [nI_ltI (by omega) hj] at z
        exact nI_le z hj
    · rintro ⟨a, b⟩
      obtain ⟨j, hj, rfl⟩ := nI_of a
      cases n with
      | zero => exact absurd (by rw [Int32.lt_iff_toInt_lt, nI_toInt hj, show (nI 0 - 1).toInt = -1 from by decide]; omega) b
      | succ n =>
        rw [nI_pred, nI_ltI (by omega) hj] at b
        exact ⟨a, nI_ge (by omega) (by omega), nI_ge (b := 6) (by omega) (by decide)⟩
  rw [key] at h
  · refine enterV (n := 80) [(126, pf_X7_within)] [] mI_136 (by decide) (Nat.le_of_ble_eq_true rfl) (T_cons (s_X7_within (by omega)) T_nil) ?_
    rw [le_X7_isWalker]
    simp only [dX7_isWalker_0, dX7_isWalker_1, dX7_isWalker_2, dX7_isWalker_3, dX7_isWalker_6, dX7_isWalker_7, dX7_isWalker_8, dX7_isWalker_9, dX7_isWalker_10, dX7_isWalker_13, cr_7_88, fr_7_9, al_10, al_11, al_12, al_13, al_14, al_16, al_17, al_18, al_19, al_2, al_20, al_21, al_23, al_24, al_27, al_28, al_29, al_3, al_30, al_31, al_32, al_34, al_36, al_37, al_38, al_39, al_4, al_40, al_41, al_42, al_43, al_45, al_46, al_47, al_48, al_49, al_5, al_52, al_53, al_54, al_55, al_56, al_57, al_58, al_6, al_60, al_61, al_62, al_63, al_64, al_65, al_66, al_67, al_69, al_7, al_70, al_71, al_72, al_73, al_9, gf_6_0_59, rOK_i, rOK_z, v_aload_0, v_getfield, v_iaload, v_iconst_0, v_iconst_1, v_iload_1, v_invs, v_ireturn, v_isub, vcS_3_1, vgf_i, vgf_r, vgf_s, vc_d, rr_0, rr_1, csT_h, csT_t, csT_n, bI_0, bI_1, bI_z, bT, List.mem_cons, List.not_mem_nil, List.length_cons, List.length_nil, ite_not, ↓reduceIte, true_and, and_true, not_true_eq_false, not_false_eq_true, false_or, or_false, or_true, true_or, Nat.reduceAdd, Nat.reduceEqDiff, Nat.reduceBEq, Nat.reduceLeDiff, Nat.reduceLT, Nat.reduceSub, Int.reduceAdd, Int.reduceLE, Int.reduceLT, Int.reduceToNat, Int.reduceNeg, Int.reduceNatCast', reduceCtorEq, Int32.reduceOfInt, Int32.reduceOfNat, Int32.reduceToNatClampNeg, Int32.reduceToInt, i10, i01, nEM, pe_X7_within]
    exact h

theorem s_X7_isWalker {d : Nat} (hd : 2 ≤ d) : Snd d 136 pf_X7_isWalker := by
  intro args M k h
  unfold pf_X7_isWalker at h
  split at h
  · exact c_X7_isWalker hd h
  · exact h.elim
