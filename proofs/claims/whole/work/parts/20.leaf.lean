/-! X: leaves -/
def BR (b : Nat) : Prop := b = 1 ∨ b = 8 ∨ b = 15 ∨ b = 26
/-- there is such a walker on the bridge at b -/
abbrev hasW (M : Mem) (b : Nat) (w : Int32) : Prop := ¬ w < 0 ∧ ¬ M b 6 ≤ w ∧ ¬ 6 ≤ w
def pf_X6_isPlank : PF := fun args M k => match args with
  | [.int p] => (True) ∧ (k (.int (bI (¬ p < 0 ∧ ¬ 12 ≤ p))) M)
  | _ => False
theorem pe_X6_isPlank {p : Int32} {M : Mem} {k : Value → Mem → Prop} : pf_X6_isPlank [.int p] M k = ((True) ∧ (k (.int (bI (¬ p < 0 ∧ ¬ 12 ≤ p))) M)) := rfl
set_option maxRecDepth 100000 in
set_option maxHeartbeats 4000000 in
theorem c_X6_isPlank {d : Nat} (hd : 1 ≤ d) {p : Int32} {M : Mem} {k : Value → Mem → Prop} (h : (True) ∧ (k (.int (bI (¬ p < 0 ∧ ¬ 12 ≤ p))) M)) : CallP d 104 [.int p] M k := by
  obtain ⟨hp, h⟩ := h
  obtain ⟨d, rfl⟩ : ∃ d', d = d' + 1 := ⟨d - 1, by omega⟩
  refine enterV (n := 80) [] [] mI_104 (by decide) (Nat.le_of_ble_eq_true rfl) T_nil ?_
  rw [show lent 1 ([.int p] : List Value) = [.int p] from rfl]
  simp only [dX6_isPlank_0, dX6_isPlank_1, dX6_isPlank_4, dX6_isPlank_5, dX6_isPlank_7, dX6_isPlank_10, dX6_isPlank_11, dX6_isPlank_14, dX6_isPlank_15, rOK_i, rOK_z, v_bipush_12, v_goto, v_ic_ge, v_iconst_0, v_iconst_1, v_if_lt, v_iload_0, v_ireturn, vc_0, vc_s, rr_0, rr_1, csT_h, csT_t, csT_n, bI_0, bI_1, bI_z, bT, List.mem_cons, List.not_mem_nil, List.length_cons, List.length_nil, ite_not, reduceIte, true_and, and_true, not_true_eq_false, not_false_eq_true, false_or, or_false, or_true, true_or, Nat.reduceAdd, Nat.reduceEqDiff, Nat.reduceBEq, Nat.reduceLeDiff, Nat.reduceLT, Nat.reduceSub, Int.reduceAdd, Int.reduceLE, Int.reduceLT, Int.reduceToNat, Int.reduceNeg, Int.reduceNatCast', reduceCtorEq, Int32.reduceOfInt, Int32.reduceOfNat, Int32.reduceToNatClampNeg, Int32.reduceToInt, i10, i01]
  repeat' (first | split | apply And.intro)
  all_goals first | (simpa [bI, hasW, *] using h) | (simp only [Int32.lt_iff_toInt_lt, Int32.le_iff_toInt_le, Int32.reduceToInt] at *; omega)
theorem s_X6_isPlank {d : Nat} (hd : 1 ≤ d) : Snd d 104 pf_X6_isPlank := by
  intro args M k h
  unfold pf_X6_isPlank at h
  split at h
  · exact c_X6_isPlank hd h
  · exact h.elim
def pf_X6_isGait : PF := fun args M k => match args with
  | [.int p] => (True) ∧ (k (.int (bI (¬ p < 0 ∧ ¬ 99 < p))) M)
  | _ => False
theorem pe_X6_isGait {p : Int32} {M : Mem} {k : Value → Mem → Prop} : pf_X6_isGait [.int p] M k = ((True) ∧ (k (.int (bI (¬ p < 0 ∧ ¬ 99 < p))) M)) := rfl
set_option maxRecDepth 100000 in
set_option maxHeartbeats 4000000 in
theorem c_X6_isGait {d : Nat} (hd : 1 ≤ d) {p : Int32} {M : Mem} {k : Value → Mem → Prop} (h : (True) ∧ (k (.int (bI (¬ p < 0 ∧ ¬ 99 < p))) M)) : CallP d 105 [.int p] M k := by
  obtain ⟨hp, h⟩ := h
  obtain ⟨d, rfl⟩ : ∃ d', d = d' + 1 := ⟨d - 1, by omega⟩
  refine enterV (n := 80) [] [] mI_105 (by decide) (Nat.le_of_ble_eq_true rfl) T_nil ?_
  rw [show lent 1 ([.int p] : List Value) = [.int p] from rfl]
  simp only [dX6_isGait_0, dX6_isGait_1, dX6_isGait_4, dX6_isGait_5, dX6_isGait_7, dX6_isGait_10, dX6_isGait_11, dX6_isGait_14, dX6_isGait_15, rOK_i, rOK_z, v_bipush_99, v_goto, v_ic_gt, v_iconst_0, v_iconst_1, v_if_lt, v_iload_0, v_ireturn, vc_0, vc_s, rr_0, rr_1, csT_h, csT_t, csT_n, bI_0, bI_1, bI_z, bT, List.mem_cons, List.not_mem_nil, List.length_cons, List.length_nil, ite_not, reduceIte, true_and, and_true, not_true_eq_false, not_false_eq_true, false_or, or_false, or_true, true_or, Nat.reduceAdd, Nat.reduceEqDiff, Nat.reduceBEq, Nat.reduceLeDiff, Nat.reduceLT, Nat.reduceSub, Int.reduceAdd, Int.reduceLE, Int.reduceLT, Int.reduceToNat, Int.reduceNeg, Int.reduceNatCast', reduceCtorEq, Int32.reduceOfInt, Int32.reduceOfNat, Int32.reduceToNatClampNeg, Int32.reduceToInt, i10, i01]
  repeat' (first | split | apply And.intro)
  all_goals first | (simpa [bI, hasW, *] using h) | (simp only [Int32.lt_iff_toInt_lt, Int32.le_iff_toInt_le, Int32.reduceToInt] at *; omega)
theorem s_X6_isGait {d : Nat} (hd : 1 ≤ d) : Snd d 105 pf_X6_isGait := by
  intro args M k h
  unfold pf_X6_isGait at h
  split at h
  · exact c_X6_isGait hd h
  · exact h.elim
def pf_X6_isKind : PF := fun args M k => match args with
  | [.int p] => (True) ∧ (k (.int (bI (¬ p < 0 ∧ ¬ 6 < p))) M)
  | _ => False
theorem pe_X6_isKind {p : Int32} {M : Mem} {k : Value → Mem → Prop} : pf_X6_isKind [.int p] M k = ((True) ∧ (k (.int (bI (¬ p < 0 ∧ ¬ 6 < p))) M)) := rfl
set_option maxRecDepth 100000 in
set_option maxHeartbeats 4000000 in
theorem c_X6_isKind {d : Nat} (hd : 1 ≤ d) {p : Int32} {M : Mem} {k : Value → Mem → Prop} (h : (True) ∧ (k (.int (bI (¬ p < 0 ∧ ¬ 6 < p))) M)) : CallP d 106 [.int p] M k := by
  obtain ⟨hp, h⟩ := h
  obtain ⟨d, rfl⟩ : ∃ d', d = d' + 1 := ⟨d - 1, by omega⟩
  refine enterV (n := 80) [] [] mI_106 (by decide) (Nat.le_of_ble_eq_true rfl) T_nil ?_
  rw [show lent 1 ([.int p] : List Value) = [.int p] from rfl]
  simp only [dX6_isKind_0, dX6_isKind_1, dX6_isKind_4, dX6_isKind_5, dX6_isKind_7, dX6_isKind_10, dX6_isKind_11, dX6_isKind_14, dX6_isKind_15, rOK_i, rOK_z, v_bipush_6, v_goto, v_ic_gt, v_iconst_0, v_iconst_1, v_if_lt, v_iload_0, v_ireturn, vc_0, vc_s, rr_0, rr_1, csT_h, csT_t, csT_n, bI_0, bI_1, bI_z, bT, List.mem_cons, List.not_mem_nil, List.length_cons, List.length_nil, ite_not, reduceIte, true_and, and_true, not_true_eq_false, not_false_eq_true, false_or, or_false, or_true, true_or, Nat.reduceAdd, Nat.reduceEqDiff, Nat.reduceBEq, Nat.reduceLeDiff, Nat.reduceLT, Nat.reduceSub, Int.reduceAdd, Int.reduceLE, Int.reduceLT, Int.reduceToNat, Int.reduceNeg, Int.reduceNatCast', reduceCtorEq, Int32.reduceOfInt, Int32.reduceOfNat, Int32.reduceToNatClampNeg, Int32.reduceToInt, i10, i01]
  repeat' (first | split | apply And.intro)
  all_goals first | (simpa [bI, hasW, *] using h) | (simp only [Int32.lt_iff_toInt_lt, Int32.le_iff_toInt_le, Int32.reduceToInt] at *; omega)
theorem s_X6_isKind {d : Nat} (hd : 1 ≤ d) : Snd d 106 pf_X6_isKind := by
  intro args M k h
  unfold pf_X6_isKind at h
  split at h
  · exact c_X6_isKind hd h
  · exact h.elim
def pf_X6_isSpot : PF := fun args M k => match args with
  | [.int p] => (True) ∧ (k (.int (bI (¬ p < 0 ∧ ¬ 10 ≤ p))) M)
  | _ => False
theorem pe_X6_isSpot {p : Int32} {M : Mem} {k : Value → Mem → Prop} : pf_X6_isSpot [.int p] M k = ((True) ∧ (k (.int (bI (¬ p < 0 ∧ ¬ 10 ≤ p))) M)) := rfl
set_option maxRecDepth 100000 in
set_option maxHeartbeats 4000000 in
theorem c_X6_isSpot {d : Nat} (hd : 1 ≤ d) {p : Int32} {M : Mem} {k : Value → Mem → Prop} (h : (True) ∧ (k (.int (bI (¬ p < 0 ∧ ¬ 10 ≤ p))) M)) : CallP d 107 [.int p] M k := by
  obtain ⟨hp, h⟩ := h
  obtain ⟨d, rfl⟩ : ∃ d', d = d' + 1 := ⟨d - 1, by omega⟩
  refine enterV (n := 80) [] [] mI_107 (by decide) (Nat.le_of_ble_eq_true rfl) T_nil ?_
  rw [show lent 1 ([.int p] : List Value) = [.int p] from rfl]
  simp only [dX6_isSpot_0, dX6_isSpot_1, dX6_isSpot_4, dX6_isSpot_5, dX6_isSpot_7, dX6_isSpot_10, dX6_isSpot_11, dX6_isSpot_14, dX6_isSpot_15, rOK_i, rOK_z, v_bipush_10, v_goto, v_ic_ge, v_iconst_0, v_iconst_1, v_if_lt, v_iload_0, v_ireturn, vc_0, vc_s, rr_0, rr_1, csT_h, csT_t, csT_n, bI_0, bI_1, bI_z, bT, List.mem_cons, List.not_mem_nil, List.length_cons, List.length_nil, ite_not, reduceIte, true_and, and_true, not_true_eq_false, not_false_eq_true, false_or, or_false, or_true, true_or, Nat.reduceAdd, Nat.reduceEqDiff, Nat.reduceBEq, Nat.reduceLeDiff, Nat.reduceLT, Nat.reduceSub, Int.reduceAdd, Int.reduceLE, Int.reduceLT, Int.reduceToNat, Int.reduceNeg, Int.reduceNatCast', reduceCtorEq, Int32.reduceOfInt, Int32.reduceOfNat, Int32.reduceToNatClampNeg, Int32.reduceToInt, i10, i01]
  repeat' (first | split | apply And.intro)
  all_goals first | (simpa [bI, hasW, *] using h) | (simp only [Int32.lt_iff_toInt_lt, Int32.le_iff_toInt_le, Int32.reduceToInt] at *; omega)
theorem s_X6_isSpot {d : Nat} (hd : 1 ≤ d) : Snd d 107 pf_X6_isSpot := by
  intro args M k h
  unfold pf_X6_isSpot at h
  split at h
  · exact c_X6_isSpot hd h
  · exact h.elim
def pf_X6_isSheet : PF := fun args M k => match args with
  | [.int p] => (True) ∧ (k (.int (bI (¬ p < 0 ∧ ¬ 4 ≤ p))) M)
  | _ => False
theorem pe_X6_isSheet {p : Int32} {M : Mem} {k : Value → Mem → Prop} : pf_X6_isSheet [.int p] M k = ((True) ∧ (k (.int (bI (¬ p < 0 ∧ ¬ 4 ≤ p))) M)) := rfl
set_option maxRecDepth 100000 in
set_option maxHeartbeats 4000000 in
theorem c_X6_isSheet {d : Nat} (hd : 1 ≤ d) {p : Int32} {M : Mem} {k : Value → Mem → Prop} (h : (True) ∧ (k (.int (bI (¬ p < 0 ∧ ¬ 4 ≤ p))) M)) : CallP d 108 [.int p] M k := by
  obtain ⟨hp, h⟩ := h
  obtain ⟨d, rfl⟩ : ∃ d', d = d' + 1 := ⟨d - 1, by omega⟩
  refine enterV (n := 80) [] [] mI_108 (by decide) (Nat.le_of_ble_eq_true rfl) T_nil ?_
  rw [show lent 1 ([.int p] : List Value) = [.int p] from rfl]
  simp only [dX6_isSheet_0, dX6_isSheet_1, dX6_isSheet_4, dX6_isSheet_5, dX6_isSheet_6, dX6_isSheet_9, dX6_isSheet_10, dX6_isSheet_13, dX6_isSheet_14, rOK_i, rOK_z, v_goto, v_ic_ge, v_iconst_0, v_iconst_1, v_iconst_4, v_if_lt, v_iload_0, v_ireturn, vc_0, vc_s, rr_0, rr_1, csT_h, csT_t, csT_n, bI_0, bI_1, bI_z, bT, List.mem_cons, List.not_mem_nil, List.length_cons, List.length_nil, ite_not, reduceIte, true_and, and_true, not_true_eq_false, not_false_eq_true, false_or, or_false, or_true, true_or, Nat.reduceAdd, Nat.reduceEqDiff, Nat.reduceBEq, Nat.reduceLeDiff, Nat.reduceLT, Nat.reduceSub, Int.reduceAdd, Int.reduceLE, Int.reduceLT, Int.reduceToNat, Int.reduceNeg, Int.reduceNatCast', reduceCtorEq, Int32.reduceOfInt, Int32.reduceOfNat, Int32.reduceToNatClampNeg, Int32.reduceToInt, i10, i01]
  repeat' (first | split | apply And.intro)
  all_goals first | (simpa [bI, hasW, *] using h) | (simp only [Int32.lt_iff_toInt_lt, Int32.le_iff_toInt_le, Int32.reduceToInt] at *; omega)
theorem s_X6_isSheet {d : Nat} (hd : 1 ≤ d) : Snd d 108 pf_X6_isSheet := by
  intro args M k h
  unfold pf_X6_isSheet at h
  split at h
  · exact c_X6_isSheet hd h
  · exact h.elim
def pf_X6_isIn : PF := fun args M k => match args with
  | [.int s, .int m] => (True) ∧ (k (.int (bI (¬ (s >>> (m &&& 31)) &&& 1 = 0))) M)
  | _ => False
theorem pe_X6_isIn {s : Int32} {m : Int32} {M : Mem} {k : Value → Mem → Prop} : pf_X6_isIn [.int s, .int m] M k = ((True) ∧ (k (.int (bI (¬ (s >>> (m &&& 31)) &&& 1 = 0))) M)) := rfl
set_option maxRecDepth 100000 in
set_option maxHeartbeats 4000000 in
theorem c_X6_isIn {d : Nat} (hd : 1 ≤ d) {s : Int32} {m : Int32} {M : Mem} {k : Value → Mem → Prop} (h : (True) ∧ (k (.int (bI (¬ (s >>> (m &&& 31)) &&& 1 = 0))) M)) : CallP d 109 [.int s, .int m] M k := by
  obtain ⟨hp, h⟩ := h
  obtain ⟨d, rfl⟩ : ∃ d', d = d' + 1 := ⟨d - 1, by omega⟩
  refine enterV (n := 80) [] [] mI_109 (by decide) (Nat.le_of_ble_eq_true rfl) T_nil ?_
  rw [show lent 2 ([.int s, .int m] : List Value) = [.int s, .int m] from rfl]
  simp only [dX6_isIn_0, dX6_isIn_1, dX6_isIn_2, dX6_isIn_3, dX6_isIn_4, dX6_isIn_5, dX6_isIn_8, dX6_isIn_9, dX6_isIn_12, dX6_isIn_13, rOK_i, rOK_z, v_goto, v_iand, v_iconst_0, v_iconst_1, v_if_eq, v_iload_0, v_iload_1, v_ireturn, v_ishr, vc_0, vc_s, rr_0, rr_1, csT_h, csT_t, csT_n, bI_0, bI_1, bI_z, bT, List.mem_cons, List.not_mem_nil, List.length_cons, List.length_nil, ite_not, reduceIte, true_and, and_true, not_true_eq_false, not_false_eq_true, false_or, or_false, or_true, true_or, Nat.reduceAdd, Nat.reduceEqDiff, Nat.reduceBEq, Nat.reduceLeDiff, Nat.reduceLT, Nat.reduceSub, Int.reduceAdd, Int.reduceLE, Int.reduceLT, Int.reduceToNat, Int.reduceNeg, Int.reduceNatCast', reduceCtorEq, Int32.reduceOfInt, Int32.reduceOfNat, Int32.reduceToNatClampNeg, Int32.reduceToInt, i10, i01]
  repeat' (first | split | apply And.intro)
  all_goals first | (simpa [bI, hasW, *] using h) | (simp only [Int32.lt_iff_toInt_lt, Int32.le_iff_toInt_le, Int32.reduceToInt] at *; omega)
theorem s_X6_isIn {d : Nat} (hd : 1 ≤ d) : Snd d 109 pf_X6_isIn := by
  intro args M k h
  unfold pf_X6_isIn at h
  split at h
  · exact c_X6_isIn hd h
  · exact h.elim
def pf_X6_held : PF := fun args M k => match args with
  | [.int g] => (True) ∧ (k (.int (hld g)) M)
  | _ => False
theorem pe_X6_held {g : Int32} {M : Mem} {k : Value → Mem → Prop} : pf_X6_held [.int g] M k = ((True) ∧ (k (.int (hld g)) M)) := rfl
set_option maxRecDepth 100000 in
set_option maxHeartbeats 4000000 in
theorem c_X6_held {d : Nat} (hd : 1 ≤ d) {g : Int32} {M : Mem} {k : Value → Mem → Prop} (h : (True) ∧ (k (.int (hld g)) M)) : CallP d 110 [.int g] M k := by
  obtain ⟨hp, h⟩ := h
  obtain ⟨d, rfl⟩ : ∃ d', d = d' + 1 := ⟨d - 1, by omega⟩
  refine enterV (n := 80) [] [] mI_110 (by decide) (Nat.le_of_ble_eq_true rfl) T_nil ?_
  rw [show lent 1 ([.int g] : List Value) = [.int g] from rfl]
  simp only [dX6_held_0, dX6_held_1, dX6_held_3, dX6_held_4, dX6_held_7, dX6_held_10, cr_6_293, cr_6_298, al_10, al_11, al_12, al_13, al_14, al_16, al_17, al_18, al_19, al_2, al_20, al_21, al_23, al_24, al_27, al_28, al_29, al_3, al_30, al_31, al_32, al_34, al_36, al_37, al_38, al_39, al_4, al_40, al_41, al_42, al_43, al_45, al_46, al_47, al_48, al_49, al_5, al_52, al_53, al_54, al_55, al_56, al_57, al_58, al_6, al_60, al_61, al_62, al_63, al_64, al_65, al_66, al_67, al_69, al_7, al_70, al_71, al_72, al_73, al_9, rOK_i, rOK_z, v_bipush_99, v_iconst_0, v_iload_0, v_invs, v_ireturn, vcS_max, vcS_min, vc_0, vc_s, rr_0, rr_1, csT_h, csT_t, csT_n, bI_0, bI_1, bI_z, bT, List.mem_cons, List.not_mem_nil, List.length_cons, List.length_nil, ite_not, reduceIte, true_and, and_true, not_true_eq_false, not_false_eq_true, false_or, or_false, or_true, true_or, Nat.reduceAdd, Nat.reduceEqDiff, Nat.reduceBEq, Nat.reduceLeDiff, Nat.reduceLT, Nat.reduceSub, Int.reduceAdd, Int.reduceLE, Int.reduceLT, Int.reduceToNat, Int.reduceNeg, Int.reduceNatCast', reduceCtorEq, Int32.reduceOfInt, Int32.reduceOfNat, Int32.reduceToNatClampNeg, Int32.reduceToInt, i10, i01]
  exact h
theorem s_X6_held {d : Nat} (hd : 1 ≤ d) : Snd d 110 pf_X6_held := by
  intro args M k h
  unfold pf_X6_held at h
  split at h
  · exact c_X6_held hd h
  · exact h.elim
def pf_X1_bears : PF := fun args M k => match args with
  | [.int kd, .int b, .int n] => (True) ∧ (k (.int (brs kd b n)) M)
  | _ => False
theorem pe_X1_bears {kd : Int32} {b : Int32} {n : Int32} {M : Mem} {k : Value → Mem → Prop} : pf_X1_bears [.int kd, .int b, .int n] M k = ((True) ∧ (k (.int (brs kd b n)) M)) := rfl
set_option maxRecDepth 100000 in
set_option maxHeartbeats 4000000 in
theorem c_X1_bears {d : Nat} (hd : 1 ≤ d) {kd : Int32} {b : Int32} {n : Int32} {M : Mem} {k : Value → Mem → Prop} (h : (True) ∧ (k (.int (brs kd b n)) M)) : CallP d 10 [.int kd, .int b, .int n] M k := by
  obtain ⟨hp, h⟩ := h
  obtain ⟨d, rfl⟩ : ∃ d', d = d' + 1 := ⟨d - 1, by omega⟩
  refine enterV (n := 80) [] [] mI_10 (by decide) (Nat.le_of_ble_eq_true rfl) T_nil ?_
  rw [show lent 3 ([.int kd, .int b, .int n] : List Value) = [.int kd, .int b, .int n] from rfl]
  simp only [dX1_bears_0, dX1_bears_1, dX1_bears_40, dX1_bears_41, dX1_bears_42, dX1_bears_43, dX1_bears_44, dX1_bears_45, dX1_bears_46, dX1_bears_47, dX1_bears_49, dX1_bears_50, dX1_bears_51, dX1_bears_52, dX1_bears_53, dX1_bears_55, dX1_bears_56, dX1_bears_59, dX1_bears_60, dX1_bears_61, dX1_bears_62, dX1_bears_64, dX1_bears_65, dX1_bears_68, dX1_bears_70, dX1_bears_71, dX1_bears_72, dX1_bears_73, dX1_bears_74, dX1_bears_77, dX1_bears_79, dX1_bears_82, dX1_bears_83, dX1_bears_84, dX1_bears_86, dX1_bears_87, dX1_bears_90, dX1_bears_92, dX1_bears_93, dX1_bears_94, dX1_bears_96, dX1_bears_97, dX1_bears_98, cr_1_9, al_10, al_11, al_12, al_13, al_14, al_16, al_17, al_18, al_19, al_2, al_20, al_21, al_23, al_24, al_27, al_28, al_29, al_3, al_30, al_31, al_32, al_34, al_36, al_37, al_38, al_39, al_4, al_40, al_41, al_42, al_43, al_45, al_46, al_47, al_48, al_49, al_5, al_52, al_53, al_54, al_55, al_56, al_57, al_58, al_6, al_60, al_61, al_62, al_63, al_64, al_65, al_66, al_67, al_69, al_7, al_70, al_71, al_72, al_73, al_9, rOK_i, rOK_z, v_bipush_10, v_bipush_20, v_bipush_40, v_bipush_99, v_goto, v_iadd, v_ic_ne, v_iconst_0, v_iconst_1, v_iconst_2, v_idiv, v_iload_0, v_iload_1, v_iload_2, v_invs, v_ireturn, v_isub, v_table, vcS_max, vtab_c, vtab_n, vc_0, vc_s, rr_0, rr_1, csT_h, csT_t, csT_n, bI_0, bI_1, bI_z, bT, List.mem_cons, List.not_mem_nil, List.length_cons, List.length_nil, ite_not, reduceIte, true_and, and_true, not_true_eq_false, not_false_eq_true, false_or, or_false, or_true, true_or, Nat.reduceAdd, Nat.reduceEqDiff, Nat.reduceBEq, Nat.reduceLeDiff, Nat.reduceLT, Nat.reduceSub, Int.reduceAdd, Int.reduceLE, Int.reduceLT, Int.reduceToNat, Int.reduceNeg, Int.reduceNatCast', reduceCtorEq, Int32.reduceOfInt, Int32.reduceOfNat, Int32.reduceToNatClampNeg, Int32.reduceToInt, i10, i01]
  unfold brs mx0 at h
  repeat' (first | split | apply And.intro)
  all_goals first | (simpa [bI, hasW, *] using h) | (simp only [Int32.lt_iff_toInt_lt, Int32.le_iff_toInt_le, Int32.reduceToInt] at *; omega)
theorem s_X1_bears {d : Nat} (hd : 1 ≤ d) : Snd d 10 pf_X1_bears := by
  intro args M k h
  unfold pf_X1_bears at h
  split at h
  · exact c_X1_bears hd h
  · exact h.elim
def pf_X1_sway : PF := fun args M k => match args with
  | [.int kd, .int g, .int p] => (True) ∧ (k (.int (swy kd g p)) M)
  | _ => False
theorem pe_X1_sway {kd : Int32} {g : Int32} {p : Int32} {M : Mem} {k : Value → Mem → Prop} : pf_X1_sway [.int kd, .int g, .int p] M k = ((True) ∧ (k (.int (swy kd g p)) M)) := rfl
set_option maxRecDepth 100000 in
set_option maxHeartbeats 4000000 in
theorem c_X1_sway {d : Nat} (hd : 1 ≤ d) {kd : Int32} {g : Int32} {p : Int32} {M : Mem} {k : Value → Mem → Prop} (h : (True) ∧ (k (.int (swy kd g p)) M)) : CallP d 11 [.int kd, .int g, .int p] M k := by
  obtain ⟨hp, h⟩ := h
  obtain ⟨d, rfl⟩ : ∃ d', d = d' + 1 := ⟨d - 1, by omega⟩
  refine enterV (n := 80) [] [] mI_11 (by decide) (Nat.le_of_ble_eq_true rfl) T_nil ?_
  rw [show lent 4 ([.int kd, .int g, .int p] : List Value) = [.int kd, .int g, .int p, .retAddr 0] from rfl]
  simp only [dX1_sway_0, dX1_sway_1, dX1_sway_2, dX1_sway_3, dX1_sway_4, dX1_sway_5, dX1_sway_44, dX1_sway_45, dX1_sway_46, dX1_sway_47, dX1_sway_48, dX1_sway_49, dX1_sway_50, dX1_sway_51, dX1_sway_53, dX1_sway_54, dX1_sway_55, dX1_sway_56, dX1_sway_57, dX1_sway_58, dX1_sway_60, dX1_sway_61, dX1_sway_62, dX1_sway_63, dX1_sway_64, dX1_sway_66, dX1_sway_67, dX1_sway_69, dX1_sway_70, dX1_sway_71, dX1_sway_74, dX1_sway_77, dX1_sway_78, dX1_sway_79, dX1_sway_80, dX1_sway_81, cr_1_15, cr_1_9, al_10, al_11, al_12, al_13, al_14, al_16, al_17, al_18, al_19, al_2, al_20, al_21, al_23, al_24, al_27, al_28, al_29, al_3, al_30, al_31, al_32, al_34, al_36, al_37, al_38, al_39, al_4, al_40, al_41, al_42, al_43, al_45, al_46, al_47, al_48, al_49, al_5, al_52, al_53, al_54, al_55, al_56, al_57, al_58, al_6, al_60, al_61, al_62, al_63, al_64, al_65, al_66, al_67, al_69, al_7, al_70, al_71, al_72, al_73, al_9, cat_i, cat_l, cat_r, cat_u, rOK_i, rOK_z, v_bipush_10, v_bipush_20, v_bipush_m5, v_iadd, v_iconst_0, v_iconst_1, v_iconst_2, v_iconst_4, v_iconst_5, v_idiv, v_iload_0, v_iload_1, v_iload_2, v_iload_3, v_invs, v_ireturn, v_istore_3, v_isub, v_table, vcS_max, vcS_min, vtab_c, vtab_n, vc_0, vc_s, rr_0, rr_1, csT_h, csT_t, csT_n, bI_0, bI_1, bI_z, bT, List.mem_cons, List.not_mem_nil, List.length_cons, List.length_nil, ite_not, reduceIte, true_and, and_true, not_true_eq_false, not_false_eq_true, false_or, or_false, or_true, true_or, Nat.reduceAdd, Nat.reduceEqDiff, Nat.reduceBEq, Nat.reduceLeDiff, Nat.reduceLT, Nat.reduceSub, Int.reduceAdd, Int.reduceLE, Int.reduceLT, Int.reduceToNat, Int.reduceNeg, Int.reduceNatCast', reduceCtorEq, Int32.reduceOfInt, Int32.reduceOfNat, Int32.reduceToNatClampNeg, Int32.reduceToInt, i10, i01]
  unfold swy at h
  repeat' (first | split | apply And.intro)
  all_goals first | (simpa [bI, hasW, *] using h) | (simp only [Int32.lt_iff_toInt_lt, Int32.le_iff_toInt_le, Int32.reduceToInt] at *; omega)
theorem s_X1_sway {d : Nat} (hd : 1 ≤ d) : Snd d 11 pf_X1_sway := by
  intro args M k h
  unfold pf_X1_sway at h
  split at h
  · exact c_X1_sway hd h
  · exact h.elim
def pf_X1_footprint : PF := fun args M k => match args with
  | [.int kd, .int g, .int p] => (True) ∧ (k (.int (ftp kd g p)) M)
  | _ => False
theorem pe_X1_footprint {kd : Int32} {g : Int32} {p : Int32} {M : Mem} {k : Value → Mem → Prop} : pf_X1_footprint [.int kd, .int g, .int p] M k = ((True) ∧ (k (.int (ftp kd g p)) M)) := rfl
set_option maxRecDepth 100000 in
set_option maxHeartbeats 4000000 in
theorem c_X1_footprint {d : Nat} (hd : 1 ≤ d) {kd : Int32} {g : Int32} {p : Int32} {M : Mem} {k : Value → Mem → Prop} (h : (True) ∧ (k (.int (ftp kd g p)) M)) : CallP d 12 [.int kd, .int g, .int p] M k := by
  obtain ⟨hp, h⟩ := h
  obtain ⟨d, rfl⟩ : ∃ d', d = d' + 1 := ⟨d - 1, by omega⟩
  refine enterV (n := 80) [] [] mI_12 (by decide) (Nat.le_of_ble_eq_true rfl) T_nil ?_
  rw [show lent 3 ([.int kd, .int g, .int p] : List Value) = [.int kd, .int g, .int p] from rfl]
  simp only [dX1_footprint_0, dX1_footprint_1, dX1_footprint_36, dX1_footprint_37, dX1_footprint_38, dX1_footprint_39, dX1_footprint_40, dX1_footprint_41, dX1_footprint_42, dX1_footprint_43, dX1_footprint_44, dX1_footprint_45, dX1_footprint_46, dX1_footprint_47, dX1_footprint_48, dX1_footprint_49, dX1_footprint_50, dX1_footprint_51, dX1_footprint_52, dX1_footprint_53, dX1_footprint_54, dX1_footprint_56, dX1_footprint_57, dX1_footprint_58, rOK_i, rOK_z, v_bipush_20, v_iadd, v_iconst_2, v_iconst_3, v_iconst_5, v_idiv, v_iload_0, v_iload_1, v_iload_2, v_ireturn, v_table, vtab_c, vtab_n, vc_0, vc_s, rr_0, rr_1, csT_h, csT_t, csT_n, bI_0, bI_1, bI_z, bT, List.mem_cons, List.not_mem_nil, List.length_cons, List.length_nil, ite_not, reduceIte, true_and, and_true, not_true_eq_false, not_false_eq_true, false_or, or_false, or_true, true_or, Nat.reduceAdd, Nat.reduceEqDiff, Nat.reduceBEq, Nat.reduceLeDiff, Nat.reduceLT, Nat.reduceSub, Int.reduceAdd, Int.reduceLE, Int.reduceLT, Int.reduceToNat, Int.reduceNeg, Int.reduceNatCast', reduceCtorEq, Int32.reduceOfInt, Int32.reduceOfNat, Int32.reduceToNatClampNeg, Int32.reduceToInt, i10, i01]
  unfold ftp at h
  repeat' (first | split | apply And.intro)
  all_goals first | (simpa [bI, hasW, *] using h) | (simp only [Int32.lt_iff_toInt_lt, Int32.le_iff_toInt_le, Int32.reduceToInt] at *; omega)
theorem s_X1_footprint {d : Nat} (hd : 1 ≤ d) : Snd d 12 pf_X1_footprint := by
  intro args M k h
  unfold pf_X1_footprint at h
  split at h
  · exact c_X1_footprint hd h
  · exact h.elim
def pf_X0_has : PF := fun args M k => match args with
  | [.ref b, .int w] => (BR b) ∧ (k (.int (bI (hasW M b w))) M)
  | _ => False
theorem pe_X0_has {b : Nat} {w : Int32} {M : Mem} {k : Value → Mem → Prop} : pf_X0_has [.ref b, .int w] M k = ((BR b) ∧ (k (.int (bI (hasW M b w))) M)) := rfl
set_option maxRecDepth 100000 in
set_option maxHeartbeats 4000000 in
theorem c_X0_has {d : Nat} (hd : 1 ≤ d) {b : Nat} {w : Int32} {M : Mem} {k : Value → Mem → Prop} (h : (BR b) ∧ (k (.int (bI (hasW M b w))) M)) : CallP d 2 [.ref b, .int w] M k := by
  obtain ⟨hp, h⟩ := h
  obtain ⟨d, rfl⟩ : ∃ d', d = d' + 1 := ⟨d - 1, by omega⟩
  rcases hp with rfl | rfl | rfl | rfl
  · refine enterV (n := 80) [] [] mI_2 (by decide) (Nat.le_of_ble_eq_true rfl) T_nil ?_
    rw [show lent 2 ([.ref 1, .int w] : List Value) = [.ref 1, .int w] from rfl]
    simp only [dX0_has_0, dX0_has_1, dX0_has_4, dX0_has_5, dX0_has_6, dX0_has_9, dX0_has_12, dX0_has_13, dX0_has_15, dX0_has_18, dX0_has_19, dX0_has_22, dX0_has_23, fr_0_30, gf_0_6_1, gf_0_6_15, gf_0_6_26, gf_0_6_8, pft_0_6, rOK_i, rOK_z, v_aload_0, v_bipush_6, v_getfield, v_goto, v_ic_ge, v_iconst_0, v_iconst_1, v_if_lt, v_iload_1, v_ireturn, vgf_i, vgf_r, vgf_s, vc_0, vc_s, rr_0, rr_1, csT_h, csT_t, csT_n, bI_0, bI_1, bI_z, bT, List.mem_cons, List.not_mem_nil, List.length_cons, List.length_nil, ite_not, reduceIte, true_and, and_true, not_true_eq_false, not_false_eq_true, false_or, or_false, or_true, true_or, Nat.reduceAdd, Nat.reduceEqDiff, Nat.reduceBEq, Nat.reduceLeDiff, Nat.reduceLT, Nat.reduceSub, Int.reduceAdd, Int.reduceLE, Int.reduceLT, Int.reduceToNat, Int.reduceNeg, Int.reduceNatCast', reduceCtorEq, Int32.reduceOfInt, Int32.reduceOfNat, Int32.reduceToNatClampNeg, Int32.reduceToInt, i10, i01]
    repeat' (first | split | apply And.intro)
    all_goals first | (simpa [bI, hasW, *] using h) | (simp only [Int32.lt_iff_toInt_lt, Int32.le_iff_toInt_le, Int32.reduceToInt] at *; omega)
  · refine enterV (n := 80) [] [] mI_2 (by decide) (Nat.le_of_ble_eq_true rfl) T_nil ?_
    rw [show lent 2 ([.ref 8, .int w] : List Value) = [.ref 8, .int w] from rfl]
    simp only [dX0_has_0, dX0_has_1, dX0_has_4, dX0_has_5, dX0_has_6, dX0_has_9, dX0_has_12, dX0_has_13, dX0_has_15, dX0_has_18, dX0_has_19, dX0_has_22, dX0_has_23, fr_0_30, gf_0_6_1, gf_0_6_15, gf_0_6_26, gf_0_6_8, pft_0_6, rOK_i, rOK_z, v_aload_0, v_bipush_6, v_getfield, v_goto, v_ic_ge, v_iconst_0, v_iconst_1, v_if_lt, v_iload_1, v_ireturn, vgf_i, vgf_r, vgf_s, vc_0, vc_s, rr_0, rr_1, csT_h, csT_t, csT_n, bI_0, bI_1, bI_z, bT, List.mem_cons, List.not_mem_nil, List.length_cons, List.length_nil, ite_not, reduceIte, true_and, and_true, not_true_eq_false, not_false_eq_true, false_or, or_false, or_true, true_or, Nat.reduceAdd, Nat.reduceEqDiff, Nat.reduceBEq, Nat.reduceLeDiff, Nat.reduceLT, Nat.reduceSub, Int.reduceAdd, Int.reduceLE, Int.reduceLT, Int.reduceToNat, Int.reduceNeg, Int.reduceNatCast', reduceCtorEq, Int32.reduceOfInt, Int32.reduceOfNat, Int32.reduceToNatClampNeg, Int32.reduceToInt, i10, i01]
    repeat' (first | split | apply And.intro)
    all_goals first | (simpa [bI, hasW, *] using h) | (simp only [Int32.lt_iff_toInt_lt, Int32.le_iff_toInt_le, Int32.reduceToInt] at *; omega)
  · refine enterV (n := 80) [] [] mI_2 (by decide) (Nat.le_of_ble_eq_true rfl) T_nil ?_
    rw [show lent 2 ([.ref 15, .int w] : List Value) = [.ref 15, .int w] from rfl]
    simp only [dX0_has_0, dX0_has_1, dX0_has_4, dX0_has_5, dX0_has_6, dX0_has_9, dX0_has_12, dX0_has_13, dX0_has_15, dX0_has_18, dX0_has_19, dX0_has_22, dX0_has_23, fr_0_30, gf_0_6_1, gf_0_6_15, gf_0_6_26, gf_0_6_8, pft_0_6, rOK_i, rOK_z, v_aload_0, v_bipush_6, v_getfield, v_goto, v_ic_ge, v_iconst_0, v_iconst_1, v_if_lt, v_iload_1, v_ireturn, vgf_i, vgf_r, vgf_s, vc_0, vc_s, rr_0, rr_1, csT_h, csT_t, csT_n, bI_0, bI_1, bI_z, bT, List.mem_cons, List.not_mem_nil, List.length_cons, List.length_nil, ite_not, reduceIte, true_and, and_true, not_true_eq_false, not_false_eq_true, false_or, or_false, or_true, true_or, Nat.reduceAdd, Nat.reduceEqDiff, Nat.reduceBEq, Nat.reduceLeDiff, Nat.reduceLT, Nat.reduceSub, Int.reduceAdd, Int.reduceLE, Int.reduceLT, Int.reduceToNat, Int.reduceNeg, Int.reduceNatCast', reduceCtorEq, Int32.reduceOfInt, Int32.reduceOfNat, Int32.reduceToNatClampNeg, Int32.reduceToInt, i10, i01]
    repeat' (first | split | apply And.intro)
    all_goals first | (simpa [bI, hasW, *] using h) | (simp only [Int32.lt_iff_toInt_lt, Int32.le_iff_toInt_le, Int32.reduceToInt] at *; omega)
  · refine enterV (n := 80) [] [] mI_2 (by decide) (Nat.le_of_ble_eq_true rfl) T_nil ?_
    rw [show lent 2 ([.ref 26, .int w] : List Value) = [.ref 26, .int w] from rfl]
    simp only [dX0_has_0, dX0_has_1, dX0_has_4, dX0_has_5, dX0_has_6, dX0_has_9, dX0_has_12, dX0_has_13, dX0_has_15, dX0_has_18, dX0_has_19, dX0_has_22, dX0_has_23, fr_0_30, gf_0_6_1, gf_0_6_15, gf_0_6_26, gf_0_6_8, pft_0_6, rOK_i, rOK_z, v_aload_0, v_bipush_6, v_getfield, v_goto, v_ic_ge, v_iconst_0, v_iconst_1, v_if_lt, v_iload_1, v_ireturn, vgf_i, vgf_r, vgf_s, vc_0, vc_s, rr_0, rr_1, csT_h, csT_t, csT_n, bI_0, bI_1, bI_z, bT, List.mem_cons, List.not_mem_nil, List.length_cons, List.length_nil, ite_not, reduceIte, true_and, and_true, not_true_eq_false, not_false_eq_true, false_or, or_false, or_true, true_or, Nat.reduceAdd, Nat.reduceEqDiff, Nat.reduceBEq, Nat.reduceLeDiff, Nat.reduceLT, Nat.reduceSub, Int.reduceAdd, Int.reduceLE, Int.reduceLT, Int.reduceToNat, Int.reduceNeg, Int.reduceNatCast', reduceCtorEq, Int32.reduceOfInt, Int32.reduceOfNat, Int32.reduceToNatClampNeg, Int32.reduceToInt, i10, i01]
    repeat' (first | split | apply And.intro)
    all_goals first | (simpa [bI, hasW, *] using h) | (simp only [Int32.lt_iff_toInt_lt, Int32.le_iff_toInt_le, Int32.reduceToInt] at *; omega)

theorem s_X0_has {d : Nat} (hd : 1 ≤ d) : Snd d 2 pf_X0_has := by
  intro args M k h
  unfold pf_X0_has at h
  split at h
  · exact c_X0_has hd h
  · exact h.elim
def pf_X0_hasAll : PF := fun args M k => match args with
  | [.ref b, .int s] => (b = 1) ∧ (k (.int (bI (¬ s < 0 ∧ ¬ 1 <<< (M b 6 &&& 31) ≤ s))) M)
  | _ => False
theorem pe_X0_hasAll {b : Nat} {s : Int32} {M : Mem} {k : Value → Mem → Prop} : pf_X0_hasAll [.ref b, .int s] M k = ((b = 1) ∧ (k (.int (bI (¬ s < 0 ∧ ¬ 1 <<< (M b 6 &&& 31) ≤ s))) M)) := rfl
set_option maxRecDepth 100000 in
set_option maxHeartbeats 4000000 in
theorem c_X0_hasAll {d : Nat} (hd : 1 ≤ d) {b : Nat} {s : Int32} {M : Mem} {k : Value → Mem → Prop} (h : (b = 1) ∧ (k (.int (bI (¬ s < 0 ∧ ¬ 1 <<< (M b 6 &&& 31) ≤ s))) M)) : CallP d 3 [.ref b, .int s] M k := by
  obtain ⟨hp, h⟩ := h
  obtain ⟨d, rfl⟩ : ∃ d', d = d' + 1 := ⟨d - 1, by omega⟩
  rcases hp with rfl
  · refine enterV (n := 80) [] [] mI_3 (by decide) (Nat.le_of_ble_eq_true rfl) T_nil ?_
    rw [show lent 2 ([.ref 1, .int s] : List Value) = [.ref 1, .int s] from rfl]
    simp only [dX0_hasAll_0, dX0_hasAll_1, dX0_hasAll_4, dX0_hasAll_5, dX0_hasAll_6, dX0_hasAll_7, dX0_hasAll_10, dX0_hasAll_11, dX0_hasAll_14, dX0_hasAll_15, dX0_hasAll_18, dX0_hasAll_19, fr_0_30, gf_0_6_1, gf_0_6_15, gf_0_6_26, gf_0_6_8, pft_0_6, rOK_i, rOK_z, v_aload_0, v_getfield, v_goto, v_ic_ge, v_iconst_0, v_iconst_1, v_if_lt, v_iload_1, v_ireturn, v_ishl, vgf_i, vgf_r, vgf_s, vc_0, vc_s, rr_0, rr_1, csT_h, csT_t, csT_n, bI_0, bI_1, bI_z, bT, List.mem_cons, List.not_mem_nil, List.length_cons, List.length_nil, ite_not, reduceIte, true_and, and_true, not_true_eq_false, not_false_eq_true, false_or, or_false, or_true, true_or, Nat.reduceAdd, Nat.reduceEqDiff, Nat.reduceBEq, Nat.reduceLeDiff, Nat.reduceLT, Nat.reduceSub, Int.reduceAdd, Int.reduceLE, Int.reduceLT, Int.reduceToNat, Int.reduceNeg, Int.reduceNatCast', reduceCtorEq, Int32.reduceOfInt, Int32.reduceOfNat, Int32.reduceToNatClampNeg, Int32.reduceToInt, i10, i01]
    repeat' (first | split | apply And.intro)
    all_goals first | (simpa [bI, hasW, *] using h) | (simp only [Int32.lt_iff_toInt_lt, Int32.le_iff_toInt_le, Int32.reduceToInt] at *; omega)

theorem s_X0_hasAll {d : Nat} (hd : 1 ≤ d) : Snd d 3 pf_X0_hasAll := by
  intro args M k h
  unfold pf_X0_hasAll at h
  split at h
  · exact c_X0_hasAll hd h
  · exact h.elim
def pf_X0_isFull : PF := fun args M k => match args with
  | [.ref b] => (b = 1 ∨ b = 15) ∧ (k (.int (bI (¬ M b 6 < 6))) M)
  | _ => False
theorem pe_X0_isFull {b : Nat} {M : Mem} {k : Value → Mem → Prop} : pf_X0_isFull [.ref b] M k = ((b = 1 ∨ b = 15) ∧ (k (.int (bI (¬ M b 6 < 6))) M)) := rfl
set_option maxRecDepth 100000 in
set_option maxHeartbeats 4000000 in
theorem c_X0_isFull {d : Nat} (hd : 1 ≤ d) {b : Nat} {M : Mem} {k : Value → Mem → Prop} (h : (b = 1 ∨ b = 15) ∧ (k (.int (bI (¬ M b 6 < 6))) M)) : CallP d 4 [.ref b] M k := by
  obtain ⟨hp, h⟩ := h
  obtain ⟨d, rfl⟩ : ∃ d', d = d' + 1 := ⟨d - 1, by omega⟩
  rcases hp with rfl | rfl
  · refine enterV (n := 80) [] [] mI_4 (by decide) (Nat.le_of_ble_eq_true rfl) T_nil ?_
    rw [show lent 1 ([.ref 1] : List Value) = [.ref 1] from rfl]
    simp only [dX0_isFull_0, dX0_isFull_1, dX0_isFull_4, dX0_isFull_6, dX0_isFull_9, dX0_isFull_10, dX0_isFull_13, dX0_isFull_14, fr_0_30, gf_0_6_1, gf_0_6_15, gf_0_6_26, gf_0_6_8, pft_0_6, rOK_i, rOK_z, v_aload_0, v_bipush_6, v_getfield, v_goto, v_ic_lt, v_iconst_0, v_iconst_1, v_ireturn, vgf_i, vgf_r, vgf_s, vc_0, vc_s, rr_0, rr_1, csT_h, csT_t, csT_n, bI_0, bI_1, bI_z, bT, List.mem_cons, List.not_mem_nil, List.length_cons, List.length_nil, ite_not, reduceIte, true_and, and_true, not_true_eq_false, not_false_eq_true, false_or, or_false, or_true, true_or, Nat.reduceAdd, Nat.reduceEqDiff, Nat.reduceBEq, Nat.reduceLeDiff, Nat.reduceLT, Nat.reduceSub, Int.reduceAdd, Int.reduceLE, Int.reduceLT, Int.reduceToNat, Int.reduceNeg, Int.reduceNatCast', reduceCtorEq, Int32.reduceOfInt, Int32.reduceOfNat, Int32.reduceToNatClampNeg, Int32.reduceToInt, i10, i01]
    repeat' (first | split | apply And.intro)
    all_goals first | (simpa [bI, hasW, *] using h) | (simp only [Int32.lt_iff_toInt_lt, Int32.le_iff_toInt_le, Int32.reduceToInt] at *; omega)
  · refine enterV (n := 80) [] [] mI_4 (by decide) (Nat.le_of_ble_eq_true rfl) T_nil ?_
    rw [show lent 1 ([.ref 15] : List Value) = [.ref 15] from rfl]
    simp only [dX0_isFull_0, dX0_isFull_1, dX0_isFull_4, dX0_isFull_6, dX0_isFull_9, dX0_isFull_10, dX0_isFull_13, dX0_isFull_14, fr_0_30, gf_0_6_1, gf_0_6_15, gf_0_6_26, gf_0_6_8, pft_0_6, rOK_i, rOK_z, v_aload_0, v_bipush_6, v_getfield, v_goto, v_ic_lt, v_iconst_0, v_iconst_1, v_ireturn, vgf_i, vgf_r, vgf_s, vc_0, vc_s, rr_0, rr_1, csT_h, csT_t, csT_n, bI_0, bI_1, bI_z, bT, List.mem_cons, List.not_mem_nil, List.length_cons, List.length_nil, ite_not, reduceIte, true_and, and_true, not_true_eq_false, not_false_eq_true, false_or, or_false, or_true, true_or, Nat.reduceAdd, Nat.reduceEqDiff, Nat.reduceBEq, Nat.reduceLeDiff, Nat.reduceLT, Nat.reduceSub, Int.reduceAdd, Int.reduceLE, Int.reduceLT, Int.reduceToNat, Int.reduceNeg, Int.reduceNatCast', reduceCtorEq, Int32.reduceOfInt, Int32.reduceOfNat, Int32.reduceToNatClampNeg, Int32.reduceToInt, i10, i01]
    repeat' (first | split | apply And.intro)
    all_goals first | (simpa [bI, hasW, *] using h) | (simp only [Int32.lt_iff_toInt_lt, Int32.le_iff_toInt_le, Int32.reduceToInt] at *; omega)

theorem s_X0_isFull {d : Nat} (hd : 1 ≤ d) : Snd d 4 pf_X0_isFull := by
  intro args M k h
  unfold pf_X0_isFull at h
  split at h
  · exact c_X0_isFull hd h
  · exact h.elim
/-- one more of a finding -/
def tellM (M : Mem) (c : Nat) : Mem := mset M 58 c (M 58 c + 1)
def pf_X6_tell : PF := fun args M k => match args with
  | [.ref o, .int f] => (o = 0 ∧ ¬ -1000001 - f < 0 ∧ ¬ 7 ≤ -1000001 - f) ∧ (k (.int f) (tellM M (-1000001 - f).toNatClampNeg))
  | _ => False
theorem pe_X6_tell {o : Nat} {f : Int32} {M : Mem} {k : Value → Mem → Prop} : pf_X6_tell [.ref o, .int f] M k = ((o = 0 ∧ ¬ -1000001 - f < 0 ∧ ¬ 7 ≤ -1000001 - f) ∧ (k (.int f) (tellM M (-1000001 - f).toNatClampNeg))) := rfl
set_option maxRecDepth 100000 in
set_option maxHeartbeats 4000000 in
theorem c_X6_tell {d : Nat} (hd : 1 ≤ d) {o : Nat} {f : Int32} {M : Mem} {k : Value → Mem → Prop} (h : (o = 0 ∧ ¬ -1000001 - f < 0 ∧ ¬ 7 ≤ -1000001 - f) ∧ (k (.int f) (tellM M (-1000001 - f).toNatClampNeg))) : CallP d 103 [.ref o, .int f] M k := by
  obtain ⟨hp, h⟩ := h
  obtain ⟨d, rfl⟩ : ∃ d', d = d' + 1 := ⟨d - 1, by omega⟩
  obtain ⟨rfl, h1, h2⟩ := hp
  · refine enterV (n := 80) [] [] mI_103 (by decide) (Nat.le_of_ble_eq_true rfl) T_nil ?_
    rw [show lent 3 ([.ref 0, .int f] : List Value) = [.ref 0, .int f, .retAddr 0] from rfl]
    simp only [dX6_tell_0, dX6_tell_2, dX6_tell_3, dX6_tell_4, dX6_tell_5, dX6_tell_6, dX6_tell_9, dX6_tell_10, dX6_tell_12, dX6_tell_15, dX6_tell_16, dX6_tell_19, dX6_tell_20, dX6_tell_21, dX6_tell_22, dX6_tell_23, dX6_tell_24, dX6_tell_25, dX6_tell_26, fr_6_54, kr_6_68, skr_6_68, al_10, al_11, al_12, al_13, al_14, al_16, al_17, al_18, al_19, al_2, al_20, al_21, al_23, al_24, al_27, al_28, al_29, al_3, al_30, al_31, al_32, al_34, al_36, al_37, al_38, al_39, al_4, al_40, al_41, al_42, al_43, al_45, al_46, al_47, al_48, al_49, al_5, al_52, al_53, al_54, al_55, al_56, al_57, al_58, al_6, al_60, al_61, al_62, al_63, al_64, al_65, al_66, al_67, al_69, al_7, al_70, al_71, al_72, al_73, al_9, cat_i, cat_l, cat_r, cat_u, gf_5_8_0, rOK_i, rOK_z, v_aload_0, v_bipush_7, v_dup2, v_getfield, v_iadd, v_iaload, v_iastore, v_ic_ge, v_iconst_1, v_if_lt, v_iload_1, v_iload_2, v_ireturn, v_istore_2, v_isub, v_ldc, vgf_i, vgf_r, vgf_s, vld_i, vld_s, vc_0, vc_s, rr_0, rr_1, csT_h, csT_t, csT_n, bI_0, bI_1, bI_z, bT, List.mem_cons, List.not_mem_nil, List.length_cons, List.length_nil, ite_not, reduceIte, true_and, and_true, not_true_eq_false, not_false_eq_true, false_or, or_false, or_true, true_or, Nat.reduceAdd, Nat.reduceEqDiff, Nat.reduceBEq, Nat.reduceLeDiff, Nat.reduceLT, Nat.reduceSub, Int.reduceAdd, Int.reduceLE, Int.reduceLT, Int.reduceToNat, Int.reduceNeg, Int.reduceNatCast', reduceCtorEq, Int32.reduceOfInt, Int32.reduceOfNat, Int32.reduceToNatClampNeg, Int32.reduceToInt, i10, i01, h1, h2]
    exact ⟨bd h1 h2 rfl, bd h1 h2 rfl, h⟩

theorem s_X6_tell {d : Nat} (hd : 1 ≤ d) : Snd d 103 pf_X6_tell := by
  intro args M k h
  unfold pf_X6_tell at h
  split at h
  · exact c_X6_tell hd h
  · exact h.elim
