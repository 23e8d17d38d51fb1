/-! X: acts, straight ones -/
theorem tl_0 {M : Mem} {k : Value → Mem → Prop} : pf_X6_tell [.ref 0, .int (-1000001)] M k = k (.int (-1000001)) (tellM M 0) := propext ⟨fun h => h.2, fun h => ⟨⟨rfl, by decide, by decide⟩, h⟩⟩
theorem tl_1 {M : Mem} {k : Value → Mem → Prop} : pf_X6_tell [.ref 0, .int (-1000002)] M k = k (.int (-1000002)) (tellM M 1) := propext ⟨fun h => h.2, fun h => ⟨⟨rfl, by decide, by decide⟩, h⟩⟩
theorem tl_2 {M : Mem} {k : Value → Mem → Prop} : pf_X6_tell [.ref 0, .int (-1000003)] M k = k (.int (-1000003)) (tellM M 2) := propext ⟨fun h => h.2, fun h => ⟨⟨rfl, by decide, by decide⟩, h⟩⟩
theorem tl_3 {M : Mem} {k : Value → Mem → Prop} : pf_X6_tell [.ref 0, .int (-1000004)] M k = k (.int (-1000004)) (tellM M 3) := propext ⟨fun h => h.2, fun h => ⟨⟨rfl, by decide, by decide⟩, h⟩⟩
theorem tl_4 {M : Mem} {k : Value → Mem → Prop} : pf_X6_tell [.ref 0, .int (-1000005)] M k = k (.int (-1000005)) (tellM M 4) := propext ⟨fun h => h.2, fun h => ⟨⟨rfl, by decide, by decide⟩, h⟩⟩
theorem tl_5 {M : Mem} {k : Value → Mem → Prop} : pf_X6_tell [.ref 0, .int (-1000006)] M k = k (.int (-1000006)) (tellM M 5) := propext ⟨fun h => h.2, fun h => ⟨⟨rfl, by decide, by decide⟩, h⟩⟩
theorem tl_6 {M : Mem} {k : Value → Mem → Prop} : pf_X6_tell [.ref 0, .int (-1000007)] M k = k (.int (-1000007)) (tellM M 6) := propext ⟨fun h => h.2, fun h => ⟨⟨rfl, by decide, by decide⟩, h⟩⟩

def us (x : Int32) (n : Int32) : Int32 := (x.toUInt32 >>> (n.toUInt32 &&& Int32.toUInt32 31)).toInt32
def bcF (x : Int32) : Int32 :=
  let a := x - (us x 1 &&& 1431655765)
  let b := (a &&& 858993459) + (us a 2 &&& 858993459)
  let c := (b + us b 4) &&& 252645135
  let d := c + us c 8
  let e := d + us d 16
  e &&& 63
def pf_J6_bitCount_0f7a4 : PF := fun args M k => match args with
  | [.int x] => (True) ∧ (k (.int (bcF x)) M)
  | _ => False
theorem pe_J6_bitCount_0f7a4 {x : Int32} {M : Mem} {k : Value → Mem → Prop} : pf_J6_bitCount_0f7a4 [.int x] M k = ((True) ∧ (k (.int (bcF x)) M)) := rfl
set_option maxRecDepth 100000 in
set_option maxHeartbeats 4000000 in
theorem c_J6_bitCount_0f7a4 {d : Nat} (hd : 1 ≤ d) {x : Int32} {M : Mem} {k : Value → Mem → Prop} (h : (True) ∧ (k (.int (bcF x)) M)) : CallP d 230 [.int x] M k := by
  obtain ⟨hp, h⟩ := h
  obtain ⟨d, rfl⟩ : ∃ d', d = d' + 1 := ⟨d - 1, by omega⟩
  refine enterV (n := 80) [] [] mI_230 (by decide) (Nat.le_of_ble_eq_true rfl) T_nil ?_
  rw [show lent 1 ([.int x] : List Value) = [.int x] from rfl]
  simp only [dJ6_bitCount_0f7a4_0, dJ6_bitCount_0f7a4_1, dJ6_bitCount_0f7a4_2, dJ6_bitCount_0f7a4_3, dJ6_bitCount_0f7a4_4, dJ6_bitCount_0f7a4_7, dJ6_bitCount_0f7a4_8, dJ6_bitCount_0f7a4_9, dJ6_bitCount_0f7a4_10, dJ6_bitCount_0f7a4_11, dJ6_bitCount_0f7a4_14, dJ6_bitCount_0f7a4_15, dJ6_bitCount_0f7a4_16, dJ6_bitCount_0f7a4_17, dJ6_bitCount_0f7a4_18, dJ6_bitCount_0f7a4_21, dJ6_bitCount_0f7a4_22, dJ6_bitCount_0f7a4_23, dJ6_bitCount_0f7a4_24, dJ6_bitCount_0f7a4_25, dJ6_bitCount_0f7a4_26, dJ6_bitCount_0f7a4_27, dJ6_bitCount_0f7a4_28, dJ6_bitCount_0f7a4_29, dJ6_bitCount_0f7a4_32, dJ6_bitCount_0f7a4_33, dJ6_bitCount_0f7a4_34, dJ6_bitCount_0f7a4_35, dJ6_bitCount_0f7a4_36, dJ6_bitCount_0f7a4_38, dJ6_bitCount_0f7a4_39, dJ6_bitCount_0f7a4_40, dJ6_bitCount_0f7a4_41, dJ6_bitCount_0f7a4_42, dJ6_bitCount_0f7a4_43, dJ6_bitCount_0f7a4_45, dJ6_bitCount_0f7a4_46, dJ6_bitCount_0f7a4_47, dJ6_bitCount_0f7a4_48, dJ6_bitCount_0f7a4_49, dJ6_bitCount_0f7a4_51, dJ6_bitCount_0f7a4_52, kr_16_265, kr_16_266, kr_16_267, skr_16_265, skr_16_266, skr_16_267, cat_i, cat_l, cat_r, cat_u, rOK_i, rOK_z, v_bipush_16, v_bipush_63, v_bipush_8, v_iadd, v_iand, v_iconst_1, v_iconst_2, v_iconst_4, v_iload_0, v_ireturn, v_istore_0, v_isub, v_iushr, v_ldcw, vld_i, vc_0, vc_s, rr_0, rr_1, csT_h, csT_t, csT_n, bI_0, bI_1, bI_z, bT, List.mem_cons, List.not_mem_nil, List.length_cons, List.length_nil, ite_not, ↓reduceIte, true_and, and_true, not_true_eq_false, not_false_eq_true, false_or, or_false, or_true, true_or, Nat.reduceAdd, Nat.reduceEqDiff, Nat.reduceBEq, Nat.reduceLeDiff, Nat.reduceLT, Nat.reduceSub, Int.reduceAdd, Int.reduceLE, Int.reduceLT, Int.reduceToNat, Int.reduceNeg, Int.reduceNatCast', reduceCtorEq, Int32.reduceOfInt, Int32.reduceOfNat, Int32.reduceToNatClampNeg, Int32.reduceToInt, i10, i01]
  exact h
theorem s_J6_bitCount_0f7a4 {d : Nat} (hd : 1 ≤ d) : Snd d 230 pf_J6_bitCount_0f7a4 := by
  intro args M k h
  unfold pf_J6_bitCount_0f7a4 at h
  split at h
  · exact c_J6_bitCount_0f7a4 hd h
  · exact h.elim
abbrev isP (p : Int32) : Prop := ¬ p < 0 ∧ ¬ 12 ≤ p
abbrev isG (v : Int32) : Prop := ¬ v < 0 ∧ ¬ 99 < v
abbrev isK (v : Int32) : Prop := ¬ v < 0 ∧ ¬ 6 < v
def pf_X6_plank : PF := fun args M k => match args with
  | [.ref o, .int p, .int v] => (o = 0) ∧ (if isP p ∧ isG v then k (.int (M 2 (p).toNatClampNeg)) (mset M 2 (p).toNatClampNeg v) else k (.int (-1000001)) (tellM M 0))
  | _ => False
theorem pe_X6_plank {o : Nat} {p : Int32} {v : Int32} {M : Mem} {k : Value → Mem → Prop} : pf_X6_plank [.ref o, .int p, .int v] M k = ((o = 0) ∧ (if isP p ∧ isG v then k (.int (M 2 (p).toNatClampNeg)) (mset M 2 (p).toNatClampNeg v) else k (.int (-1000001)) (tellM M 0))) := rfl
set_option maxRecDepth 100000 in
set_option maxHeartbeats 4000000 in
theorem c_X6_plank {d : Nat} (hd : 2 ≤ d) {o : Nat} {p : Int32} {v : Int32} {M : Mem} {k : Value → Mem → Prop} (h : (o = 0) ∧ (if isP p ∧ isG v then k (.int (M 2 (p).toNatClampNeg)) (mset M 2 (p).toNatClampNeg v) else k (.int (-1000001)) (tellM M 0))) : CallP d 56 [.ref o, .int p, .int v] M k := by
  obtain ⟨hp, h⟩ := h
  obtain ⟨d, rfl⟩ : ∃ d', d = d' + 1 := ⟨d - 1, by omega⟩
  obtain rfl := hp
  · refine enterV (n := 80) [(104, pf_X6_isPlank), (105, pf_X6_isGait), (103, pf_X6_tell)] [] mI_56 (by decide) (Nat.le_of_ble_eq_true rfl) (T_cons (s_X6_isPlank (by omega)) (T_cons (s_X6_isGait (by omega)) (T_cons (s_X6_tell (by omega)) T_nil))) ?_
    rw [show lent 4 ([.ref 0, .int p, .int v] : List Value) = [.ref 0, .int p, .int v, .retAddr 0] from rfl]
    simp only [dX6_plank_0, dX6_plank_1, dX6_plank_4, dX6_plank_7, dX6_plank_8, dX6_plank_11, dX6_plank_14, dX6_plank_15, dX6_plank_17, dX6_plank_20, dX6_plank_21, dX6_plank_22, dX6_plank_25, dX6_plank_28, dX6_plank_29, dX6_plank_30, dX6_plank_31, dX6_plank_32, dX6_plank_35, dX6_plank_38, dX6_plank_39, dX6_plank_40, dX6_plank_41, dX6_plank_42, cr_6_61, cr_6_65, cr_6_69, fr_6_12, fr_6_73, kr_6_68, skr_6_68, al_10, al_11, al_12, al_13, al_14, al_16, al_17, al_18, al_19, al_2, al_20, al_21, al_23, al_24, al_27, al_28, al_29, al_3, al_30, al_31, al_32, al_34, al_36, al_37, al_38, al_39, al_4, al_40, al_41, al_42, al_43, al_45, al_46, al_47, al_48, al_49, al_5, al_52, al_53, al_54, al_55, al_56, al_57, al_58, al_6, al_60, al_61, al_62, al_63, al_64, al_65, al_66, al_67, al_69, al_7, al_70, al_71, al_72, al_73, al_9, cat_i, cat_l, cat_r, cat_u, gf_0_0_1, gf_0_0_15, gf_0_0_26, gf_0_0_8, gf_5_0_0, pcl_0, pcl_1, pcl_100, pcl_101, pcl_102, pcl_103, pcl_104, pcl_105, pcl_106, pcl_107, pcl_108, pcl_109, pcl_110, pcl_111, pcl_112, pcl_15, pcl_22, pcl_25, pcl_26, pcl_33, pcl_44, pcl_50, pcl_59, pcl_8, rOK_i, rOK_z, v_aload_0, v_getfield, v_iaload, v_iastore, v_if_eq, v_if_ne, v_iload_1, v_iload_2, v_iload_3, v_invs, v_invv, v_ireturn, v_istore_3, v_ldc, vcS_1_1, vcV_2_5, vgf_i, vgf_r, vgf_s, vld_i, vld_s, vc_0, vc_s, rr_0, rr_1, csT_h, csT_t, csT_n, bI_0, bI_1, bI_z, bT, List.mem_cons, List.not_mem_nil, List.length_cons, List.length_nil, ite_not, ↓reduceIte, true_and, and_true, not_true_eq_false, not_false_eq_true, false_or, or_false, or_true, true_or, Nat.reduceAdd, Nat.reduceEqDiff, Nat.reduceBEq, Nat.reduceLeDiff, Nat.reduceLT, Nat.reduceSub, Int.reduceAdd, Int.reduceLE, Int.reduceLT, Int.reduceToNat, Int.reduceNeg, Int.reduceNatCast', reduceCtorEq, Int32.reduceOfInt, Int32.reduceOfNat, Int32.reduceToNatClampNeg, Int32.reduceToInt, i10, i01, pe_X6_isPlank, pe_X6_isGait, tl_0, tl_1, tl_2, tl_3, tl_4, tl_5, tl_6]
    by_cases h1 : isP p
    · rw [if_pos h1]
      by_cases h2 : isG v
      · rw [if_pos ⟨h1, h2⟩] at h
        rw [if_pos h2]
        exact ⟨bd h1.1 h1.2 rfl, bd h1.1 h1.2 rfl, h⟩
      · rw [if_neg (fun z => h2 z.2)] at h
        rw [if_neg h2]
        exact h
    · rw [if_neg (fun z => h1 z.1)] at h
      rw [if_neg h1]
      exact h

theorem s_X6_plank {d : Nat} (hd : 2 ≤ d) : Snd d 56 pf_X6_plank := by
  intro args M k h
  unfold pf_X6_plank at h
  split at h
  · exact c_X6_plank hd h
  · exact h.elim
def pf_X6_keeps : PF := fun args M k => match args with
  | [.ref o, .int p] => (o = 0) ∧ (if isP p then k (.int (M 2 (p).toNatClampNeg)) M else k (.int (-1000001)) (tellM M 0))
  | _ => False
theorem pe_X6_keeps {o : Nat} {p : Int32} {M : Mem} {k : Value → Mem → Prop} : pf_X6_keeps [.ref o, .int p] M k = ((o = 0) ∧ (if isP p then k (.int (M 2 (p).toNatClampNeg)) M else k (.int (-1000001)) (tellM M 0))) := rfl
set_option maxRecDepth 100000 in
set_option maxHeartbeats 4000000 in
theorem c_X6_keeps {d : Nat} (hd : 2 ≤ d) {o : Nat} {p : Int32} {M : Mem} {k : Value → Mem → Prop} (h : (o = 0) ∧ (if isP p then k (.int (M 2 (p).toNatClampNeg)) M else k (.int (-1000001)) (tellM M 0))) : CallP d 57 [.ref o, .int p] M k := by
  obtain ⟨hp, h⟩ := h
  obtain ⟨d, rfl⟩ : ∃ d', d = d' + 1 := ⟨d - 1, by omega⟩
  obtain rfl := hp
  · refine enterV (n := 80) [(104, pf_X6_isPlank), (103, pf_X6_tell)] [] mI_57 (by decide) (Nat.le_of_ble_eq_true rfl) (T_cons (s_X6_isPlank (by omega)) (T_cons (s_X6_tell (by omega)) T_nil)) ?_
    rw [show lent 2 ([.ref 0, .int p] : List Value) = [.ref 0, .int p] from rfl]
    simp only [dX6_keeps_0, dX6_keeps_1, dX6_keeps_4, dX6_keeps_7, dX6_keeps_8, dX6_keeps_11, dX6_keeps_14, dX6_keeps_15, dX6_keeps_16, dX6_keeps_19, dX6_keeps_20, dX6_keeps_22, dX6_keeps_25, cr_6_61, cr_6_69, fr_6_12, fr_6_73, kr_6_68, skr_6_68, al_10, al_11, al_12, al_13, al_14, al_16, al_17, al_18, al_19, al_2, al_20, al_21, al_23, al_24, al_27, al_28, al_29, al_3, al_30, al_31, al_32, al_34, al_36, al_37, al_38, al_39, al_4, al_40, al_41, al_42, al_43, al_45, al_46, al_47, al_48, al_49, al_5, al_52, al_53, al_54, al_55, al_56, al_57, al_58, al_6, al_60, al_61, al_62, al_63, al_64, al_65, al_66, al_67, al_69, al_7, al_70, al_71, al_72, al_73, al_9, gf_0_0_1, gf_0_0_15, gf_0_0_26, gf_0_0_8, gf_5_0_0, pcl_0, pcl_1, pcl_100, pcl_101, pcl_102, pcl_103, pcl_104, pcl_105, pcl_106, pcl_107, pcl_108, pcl_109, pcl_110, pcl_111, pcl_112, pcl_15, pcl_22, pcl_25, pcl_26, pcl_33, pcl_44, pcl_50, pcl_59, pcl_8, rOK_i, rOK_z, v_aload_0, v_getfield, v_goto, v_iaload, v_if_eq, v_iload_1, v_invs, v_invv, v_ireturn, v_ldc, vcS_1_1, vcV_2_5, vgf_i, vgf_r, vgf_s, vld_i, vld_s, vc_0, vc_s, rr_0, rr_1, csT_h, csT_t, csT_n, bI_0, bI_1, bI_z, bT, List.mem_cons, List.not_mem_nil, List.length_cons, List.length_nil, ite_not, ↓reduceIte, true_and, and_true, not_true_eq_false, not_false_eq_true, false_or, or_false, or_true, true_or, Nat.reduceAdd, Nat.reduceEqDiff, Nat.reduceBEq, Nat.reduceLeDiff, Nat.reduceLT, Nat.reduceSub, Int.reduceAdd, Int.reduceLE, Int.reduceLT, Int.reduceToNat, Int.reduceNeg, Int.reduceNatCast', reduceCtorEq, Int32.reduceOfInt, Int32.reduceOfNat, Int32.reduceToNatClampNeg, Int32.reduceToInt, i10, i01, pe_X6_isPlank, tl_0, tl_1, tl_2, tl_3, tl_4, tl_5, tl_6]
    by_cases h1 : isP p
    · rw [if_pos h1] at h ⊢
      exact ⟨bd h1.1 h1.2 rfl, h⟩
    · rw [if_neg h1] at h ⊢
      exact h

theorem s_X6_keeps {d : Nat} (hd : 2 ≤ d) : Snd d 57 pf_X6_keeps := by
  intro args M k h
  unfold pf_X6_keeps at h
  split at h
  · exact c_X6_keeps hd h
  · exact h.elim
def pf_X6_walker : PF := fun args M k => match args with
  | [.ref o, .int kd, .int g] => (o = 0 ∧ IV M) ∧ (if isK kd ∧ isG g then (if M 1 6 < 6 then k (.int (M 1 6 + 1 - 1)) (addM M 1 kd g 30) else k (.int (-1000002)) (tellM M 1)) else k (.int (-1000001)) (tellM M 0))
  | _ => False
theorem pe_X6_walker {o : Nat} {kd : Int32} {g : Int32} {M : Mem} {k : Value → Mem → Prop} : pf_X6_walker [.ref o, .int kd, .int g] M k = ((o = 0 ∧ IV M) ∧ (if isK kd ∧ isG g then (if M 1 6 < 6 then k (.int (M 1 6 + 1 - 1)) (addM M 1 kd g 30) else k (.int (-1000002)) (tellM M 1)) else k (.int (-1000001)) (tellM M 0))) := rfl
set_option maxRecDepth 100000 in
set_option maxHeartbeats 4000000 in
theorem c_X6_walker {d : Nat} (hd : 3 ≤ d) {o : Nat} {kd : Int32} {g : Int32} {M : Mem} {k : Value → Mem → Prop} (h : (o = 0 ∧ IV M) ∧ (if isK kd ∧ isG g then (if M 1 6 < 6 then k (.int (M 1 6 + 1 - 1)) (addM M 1 kd g 30) else k (.int (-1000002)) (tellM M 1)) else k (.int (-1000001)) (tellM M 0))) : CallP d 58 [.ref o, .int kd, .int g] M k := by
  obtain ⟨hp, h⟩ := h
  obtain ⟨d, rfl⟩ : ∃ d', d = d' + 1 := ⟨d - 1, by omega⟩
  obtain ⟨rfl, m, hm, he⟩ := hp
  · refine enterV (n := 80) [(106, pf_X6_isKind), (105, pf_X6_isGait), (103, pf_X6_tell), (4, pf_X0_isFull), (5, pf_X0_add)] [] mI_58 (by decide) (Nat.le_of_ble_eq_true rfl) (T_cons (s_X6_isKind (by omega)) (T_cons (s_X6_isGait (by omega)) (T_cons (s_X6_tell (by omega)) (T_cons (s_X0_isFull (by omega)) (T_cons (s_X0_add (by omega)) T_nil))))) ?_
    rw [show lent 3 ([.ref 0, .int kd, .int g] : List Value) = [.ref 0, .int kd, .int g] from rfl]
    simp only [dX6_walker_0, dX6_walker_1, dX6_walker_4, dX6_walker_7, dX6_walker_8, dX6_walker_11, dX6_walker_14, dX6_walker_15, dX6_walker_17, dX6_walker_20, dX6_walker_21, dX6_walker_22, dX6_walker_25, dX6_walker_28, dX6_walker_31, dX6_walker_32, dX6_walker_34, dX6_walker_37, dX6_walker_38, dX6_walker_39, dX6_walker_42, dX6_walker_43, dX6_walker_44, dX6_walker_46, dX6_walker_49, cr_6_65, cr_6_69, cr_6_76, cr_6_79, cr_6_84, fr_6_12, kr_6_68, kr_6_83, skr_6_68, skr_6_83, al_10, al_11, al_12, al_13, al_14, al_16, al_17, al_18, al_19, al_2, al_20, al_21, al_23, al_24, al_27, al_28, al_29, al_3, al_30, al_31, al_32, al_34, al_36, al_37, al_38, al_39, al_4, al_40, al_41, al_42, al_43, al_45, al_46, al_47, al_48, al_49, al_5, al_52, al_53, al_54, al_55, al_56, al_57, al_58, al_6, al_60, al_61, al_62, al_63, al_64, al_65, al_66, al_67, al_69, al_7, al_70, al_71, al_72, al_73, al_9, gf_5_0_0, pcl_0, pcl_1, pcl_100, pcl_101, pcl_102, pcl_103, pcl_104, pcl_105, pcl_106, pcl_107, pcl_108, pcl_109, pcl_110, pcl_111, pcl_112, pcl_15, pcl_22, pcl_25, pcl_26, pcl_33, pcl_44, pcl_50, pcl_59, pcl_8, rOK_i, rOK_z, v_aload_0, v_bipush_30, v_getfield, v_if_eq, v_if_ne, v_iload_1, v_iload_2, v_invs, v_invv, v_ireturn, v_ldc, vcS_1_1, vcV_1_0, vcV_2_5, vcV_4_0, vgf_i, vgf_r, vgf_s, vld_i, vld_s, vc_0, vc_s, rr_0, rr_1, csT_h, csT_t, csT_n, bI_0, bI_1, bI_z, bT, List.mem_cons, List.not_mem_nil, List.length_cons, List.length_nil, ite_not, ↓reduceIte, true_and, and_true, not_true_eq_false, not_false_eq_true, false_or, or_false, or_true, true_or, Nat.reduceAdd, Nat.reduceEqDiff, Nat.reduceBEq, Nat.reduceLeDiff, Nat.reduceLT, Nat.reduceSub, Int.reduceAdd, Int.reduceLE, Int.reduceLT, Int.reduceToNat, Int.reduceNeg, Int.reduceNatCast', reduceCtorEq, Int32.reduceOfInt, Int32.reduceOfNat, Int32.reduceToNatClampNeg, Int32.reduceToInt, i10, i01, pe_X6_isKind, pe_X6_isGait, tl_0, tl_1, tl_2, tl_3, tl_4, tl_5, tl_6, pe_X0_isFull, pe_X0_add]
    by_cases h1 : isK kd
    · rw [if_pos h1]
      by_cases h2 : isG g
      · rw [if_pos ⟨h1, h2⟩] at h
        rw [if_pos h2]
        by_cases h3 : M 1 6 < 6
        · rw [if_pos h3] at h ⊢
          exact ⟨⟨by rw [he]; exact nI_pos (by omega), Int32.not_le.mpr h3⟩, h⟩
        · rw [if_neg h3] at h ⊢
          exact h
      · rw [if_neg (fun z => h2 z.2)] at h
        rw [if_neg h2]
        exact h
    · rw [if_neg (fun z => h1 z.1)] at h
      rw [if_neg h1]
      exact h

theorem s_X6_walker {d : Nat} (hd : 3 ≤ d) : Snd d 58 pf_X6_walker := by
  intro args M k h
  unfold pf_X6_walker at h
  split at h
  · exact c_X6_walker hd h
  · exact h.elim
def pf_X6_of : PF := fun args M k => match args with
  | [.ref o, .int w, .int q] => (o = 0) ∧ (if hasW M 1 w then (if q = 0 then k (.int (M 3 (w).toNatClampNeg)) M else if q = 1 then k (.int (M 4 (w).toNatClampNeg)) M else if q = 2 then k (.int (M 5 (w).toNatClampNeg)) M else if q = 3 then k (.int (M 6 (w).toNatClampNeg)) M else if q = 4 then k (.int (brs (M 3 (w).toNatClampNeg) (M 5 (w).toNatClampNeg) (M 1 7))) M else if q = 5 then k (.int (unfF (M 4 (w).toNatClampNeg) (brs (M 3 (w).toNatClampNeg) (M 5 (w).toNatClampNeg) (M 1 7)) (M 2) 12 0 0)) M else k (.int (-1000001)) (tellM M 0)) else k (.int (-1000001)) (tellM M 0))
  | _ => False
theorem pe_X6_of {o : Nat} {w : Int32} {q : Int32} {M : Mem} {k : Value → Mem → Prop} : pf_X6_of [.ref o, .int w, .int q] M k = ((o = 0) ∧ (if hasW M 1 w then (if q = 0 then k (.int (M 3 (w).toNatClampNeg)) M else if q = 1 then k (.int (M 4 (w).toNatClampNeg)) M else if q = 2 then k (.int (M 5 (w).toNatClampNeg)) M else if q = 3 then k (.int (M 6 (w).toNatClampNeg)) M else if q = 4 then k (.int (brs (M 3 (w).toNatClampNeg) (M 5 (w).toNatClampNeg) (M 1 7))) M else if q = 5 then k (.int (unfF (M 4 (w).toNatClampNeg) (brs (M 3 (w).toNatClampNeg) (M 5 (w).toNatClampNeg) (M 1 7)) (M 2) 12 0 0)) M else k (.int (-1000001)) (tellM M 0)) else k (.int (-1000001)) (tellM M 0))) := rfl
set_option maxRecDepth 100000 in
set_option maxHeartbeats 4000000 in
theorem c_X6_of {d : Nat} (hd : 4 ≤ d) {o : Nat} {w : Int32} {q : Int32} {M : Mem} {k : Value → Mem → Prop} (h : (o = 0) ∧ (if hasW M 1 w then (if q = 0 then k (.int (M 3 (w).toNatClampNeg)) M else if q = 1 then k (.int (M 4 (w).toNatClampNeg)) M else if q = 2 then k (.int (M 5 (w).toNatClampNeg)) M else if q = 3 then k (.int (M 6 (w).toNatClampNeg)) M else if q = 4 then k (.int (brs (M 3 (w).toNatClampNeg) (M 5 (w).toNatClampNeg) (M 1 7))) M else if q = 5 then k (.int (unfF (M 4 (w).toNatClampNeg) (brs (M 3 (w).toNatClampNeg) (M 5 (w).toNatClampNeg) (M 1 7)) (M 2) 12 0 0)) M else k (.int (-1000001)) (tellM M 0)) else k (.int (-1000001)) (tellM M 0))) : CallP d 59 [.ref o, .int w, .int q] M k := by
  obtain ⟨hp, h⟩ := h
  obtain ⟨d, rfl⟩ : ∃ d', d = d' + 1 := ⟨d - 1, by omega⟩
  obtain rfl := hp
  · refine enterV (n := 80) [(2, pf_X0_has), (103, pf_X6_tell), (6, pf_X0_bears), (7, pf_X0_unfit)] [] mI_59 (by decide) (Nat.le_of_ble_eq_true rfl) (T_cons (s_X0_has (by omega)) (T_cons (s_X6_tell (by omega)) (T_cons (s_X0_bears (by omega)) (T_cons (s_X0_unfit (by omega)) T_nil)))) ?_
    rw [show lent 3 ([.ref 0, .int w, .int q] : List Value) = [.ref 0, .int w, .int q] from rfl]
    simp only [dX6_of_0, dX6_of_1, dX6_of_4, dX6_of_5, dX6_of_8, dX6_of_11, dX6_of_12, dX6_of_14, dX6_of_17, dX6_of_18, dX6_of_19, dX6_of_56, dX6_of_57, dX6_of_60, dX6_of_63, dX6_of_64, dX6_of_65, dX6_of_66, dX6_of_67, dX6_of_70, dX6_of_73, dX6_of_74, dX6_of_75, dX6_of_76, dX6_of_77, dX6_of_80, dX6_of_83, dX6_of_84, dX6_of_85, dX6_of_86, dX6_of_87, dX6_of_90, dX6_of_93, dX6_of_94, dX6_of_95, dX6_of_96, dX6_of_97, dX6_of_100, dX6_of_101, dX6_of_104, dX6_of_105, dX6_of_106, dX6_of_109, dX6_of_110, dX6_of_113, dX6_of_114, dX6_of_115, dX6_of_117, dX6_of_120, cr_6_103, cr_6_106, cr_6_69, cr_6_88, fr_6_100, fr_6_12, fr_6_91, fr_6_94, fr_6_97, kr_6_68, skr_6_68, al_10, al_11, al_12, al_13, al_14, al_16, al_17, al_18, al_19, al_2, al_20, al_21, al_23, al_24, al_27, al_28, al_29, al_3, al_30, al_31, al_32, al_34, al_36, al_37, al_38, al_39, al_4, al_40, al_41, al_42, al_43, al_45, al_46, al_47, al_48, al_49, al_5, al_52, al_53, al_54, al_55, al_56, al_57, al_58, al_6, al_60, al_61, al_62, al_63, al_64, al_65, al_66, al_67, al_69, al_7, al_70, al_71, al_72, al_73, al_9, gf_0_1_1, gf_0_1_15, gf_0_1_26, gf_0_1_8, gf_0_2_1, gf_0_2_15, gf_0_2_26, gf_0_2_8, gf_0_3_1, gf_0_3_15, gf_0_3_26, gf_0_3_8, gf_0_4_1, gf_0_4_15, gf_0_4_26, gf_0_4_8, gf_5_0_0, pcl_0, pcl_1, pcl_100, pcl_101, pcl_102, pcl_103, pcl_104, pcl_105, pcl_106, pcl_107, pcl_108, pcl_109, pcl_110, pcl_111, pcl_112, pcl_15, pcl_22, pcl_25, pcl_26, pcl_33, pcl_44, pcl_50, pcl_59, pcl_8, rOK_i, rOK_z, v_aload_0, v_getfield, v_iaload, v_if_ne, v_iload_1, v_iload_2, v_invv, v_ireturn, v_ldc, v_table, vcV_2_0, vcV_2_5, vgf_i, vgf_r, vgf_s, vld_i, vld_s, vtab_c, vtab_n, vc_0, vc_s, rr_0, rr_1, csT_h, csT_t, csT_n, bI_0, bI_1, bI_z, bT, List.mem_cons, List.not_mem_nil, List.length_cons, List.length_nil, ite_not, ↓reduceIte, true_and, and_true, not_true_eq_false, not_false_eq_true, false_or, or_false, or_true, true_or, Nat.reduceAdd, Nat.reduceEqDiff, Nat.reduceBEq, Nat.reduceLeDiff, Nat.reduceLT, Nat.reduceSub, Int.reduceAdd, Int.reduceLE, Int.reduceLT, Int.reduceToNat, Int.reduceNeg, Int.reduceNatCast', reduceCtorEq, Int32.reduceOfInt, Int32.reduceOfNat, Int32.reduceToNatClampNeg, Int32.reduceToInt, i10, i01, pe_X0_has, tl_0, tl_1, tl_2, tl_3, tl_4, tl_5, tl_6, pe_X0_bears, pe_X0_unfit, BR, Array.toList, List.length_cons, Int.reduceSub]
    by_cases h1 : hasW M 1 w
    · rw [if_pos h1] at h
      simp only [if_pos h1, h1, true_and]
      have hb := bd h1.1 h1.2.2 (n := 6) rfl
      repeat' (first | split | apply And.intro)
      all_goals first | exact hb.1 | exact hb.2 | (simpa [*] using h)
    · rw [if_neg h1] at h
      simp only [if_neg h1]
      exact h

theorem s_X6_of {d : Nat} (hd : 4 ≤ d) : Snd d 59 pf_X6_of := by
  intro args M k h
  unfold pf_X6_of at h
  split at h
  · exact c_X6_of hd h
  · exact h.elim
def pf_X6_night : PF := fun args M k => match args with
  | [.ref o, .int v] => (o = 0) ∧ (if v = 0 ∨ v = 1 then k (.int (M 1 7)) (mset M 1 7 v) else k (.int (-1000001)) (tellM M 0))
  | _ => False
theorem pe_X6_night {o : Nat} {v : Int32} {M : Mem} {k : Value → Mem → Prop} : pf_X6_night [.ref o, .int v] M k = ((o = 0) ∧ (if v = 0 ∨ v = 1 then k (.int (M 1 7)) (mset M 1 7 v) else k (.int (-1000001)) (tellM M 0))) := rfl
set_option maxRecDepth 100000 in
set_option maxHeartbeats 4000000 in
theorem c_X6_night {d : Nat} (hd : 2 ≤ d) {o : Nat} {v : Int32} {M : Mem} {k : Value → Mem → Prop} (h : (o = 0) ∧ (if v = 0 ∨ v = 1 then k (.int (M 1 7)) (mset M 1 7 v) else k (.int (-1000001)) (tellM M 0))) : CallP d 61 [.ref o, .int v] M k := by
  obtain ⟨hp, h⟩ := h
  obtain ⟨d, rfl⟩ : ∃ d', d = d' + 1 := ⟨d - 1, by omega⟩
  obtain rfl := hp
  · refine enterV (n := 80) [(103, pf_X6_tell)] [] mI_61 (by decide) (Nat.le_of_ble_eq_true rfl) (T_cons (s_X6_tell (by omega)) T_nil) ?_
    rw [show lent 3 ([.ref 0, .int v] : List Value) = [.ref 0, .int v, .retAddr 0] from rfl]
    simp only [dX6_night_0, dX6_night_1, dX6_night_4, dX6_night_5, dX6_night_6, dX6_night_9, dX6_night_10, dX6_night_12, dX6_night_15, dX6_night_16, dX6_night_17, dX6_night_20, dX6_night_23, dX6_night_24, dX6_night_25, dX6_night_28, dX6_night_29, dX6_night_32, dX6_night_33, cr_6_69, fr_6_113, fr_6_12, kr_6_68, skr_6_68, al_10, al_11, al_12, al_13, al_14, al_16, al_17, al_18, al_19, al_2, al_20, al_21, al_23, al_24, al_27, al_28, al_29, al_3, al_30, al_31, al_32, al_34, al_36, al_37, al_38, al_39, al_4, al_40, al_41, al_42, al_43, al_45, al_46, al_47, al_48, al_49, al_5, al_52, al_53, al_54, al_55, al_56, al_57, al_58, al_6, al_60, al_61, al_62, al_63, al_64, al_65, al_66, al_67, al_69, al_7, al_70, al_71, al_72, al_73, al_9, cat_i, cat_l, cat_r, cat_u, gf_0_7_1, gf_0_7_15, gf_0_7_26, gf_0_7_8, gf_5_0_0, pcl_0, pcl_1, pcl_100, pcl_101, pcl_102, pcl_103, pcl_104, pcl_105, pcl_106, pcl_107, pcl_108, pcl_109, pcl_110, pcl_111, pcl_112, pcl_15, pcl_22, pcl_25, pcl_26, pcl_33, pcl_44, pcl_50, pcl_59, pcl_8, pft_0_7, rOK_i, rOK_z, v_aload_0, v_getfield, v_ic_eq, v_iconst_1, v_if_eq, v_iload_1, v_iload_2, v_invv, v_ireturn, v_istore_2, v_ldc, v_putfield, vcV_2_5, vgf_i, vgf_r, vgf_s, vld_i, vld_s, vpf_s, vc_0, vc_s, rr_0, rr_1, csT_h, csT_t, csT_n, bI_0, bI_1, bI_z, bT, List.mem_cons, List.not_mem_nil, List.length_cons, List.length_nil, ite_not, ↓reduceIte, true_and, and_true, not_true_eq_false, not_false_eq_true, false_or, or_false, or_true, true_or, Nat.reduceAdd, Nat.reduceEqDiff, Nat.reduceBEq, Nat.reduceLeDiff, Nat.reduceLT, Nat.reduceSub, Int.reduceAdd, Int.reduceLE, Int.reduceLT, Int.reduceToNat, Int.reduceNeg, Int.reduceNatCast', reduceCtorEq, Int32.reduceOfInt, Int32.reduceOfNat, Int32.reduceToNatClampNeg, Int32.reduceToInt, i10, i01, tl_0, tl_1, tl_2, tl_3, tl_4, tl_5, tl_6]
    by_cases h1 : v = 0
    · rw [if_pos (Or.inl h1)] at h
      rw [if_pos h1]
      exact h
    · rw [if_neg h1]
      by_cases h2 : v = 1
      · rw [if_pos (Or.inr h2)] at h
        rw [if_pos h2]
        exact h
      · rw [if_neg (fun z => z.elim h1 h2)] at h
        rw [if_neg h2]
        exact h

theorem s_X6_night {d : Nat} (hd : 2 ≤ d) : Snd d 61 pf_X6_night := by
  intro args M k h
  unfold pf_X6_night at h
  split at h
  · exact c_X6_night hd h
  · exact h.elim
def pf_X6_cross : PF := fun args M k => match args with
  | [.ref o, .int w] => (o = 0) ∧ (if hasW M 1 w then (if M 1 8 + 1 ≤ 99999 then ∀ a, k (.int (nI (xw M (w).toNatClampNeg).1)) (mrow (cx1 M (w).toNatClampNeg) 22 a) else k (.int (-1000005)) (tellM M 4)) else k (.int (-1000001)) (tellM M 0))
  | _ => False
theorem pe_X6_cross {o : Nat} {w : Int32} {M : Mem} {k : Value → Mem → Prop} : pf_X6_cross [.ref o, .int w] M k = ((o = 0) ∧ (if hasW M 1 w then (if M 1 8 + 1 ≤ 99999 then ∀ a, k (.int (nI (xw M (w).toNatClampNeg).1)) (mrow (cx1 M (w).toNatClampNeg) 22 a) else k (.int (-1000005)) (tellM M 4)) else k (.int (-1000001)) (tellM M 0))) := rfl
set_option maxRecDepth 100000 in
set_option maxHeartbeats 4000000 in
theorem c_X6_cross {d : Nat} (hd : 4 ≤ d) {o : Nat} {w : Int32} {M : Mem} {k : Value → Mem → Prop} (h : (o = 0) ∧ (if hasW M 1 w then (if M 1 8 + 1 ≤ 99999 then ∀ a, k (.int (nI (xw M (w).toNatClampNeg).1)) (mrow (cx1 M (w).toNatClampNeg) 22 a) else k (.int (-1000005)) (tellM M 4)) else k (.int (-1000001)) (tellM M 0))) : CallP d 62 [.ref o, .int w] M k := by
  obtain ⟨hp, h⟩ := h
  obtain ⟨d, rfl⟩ : ∃ d', d = d' + 1 := ⟨d - 1, by omega⟩
  obtain rfl := hp
  · refine enterV (n := 80) [(2, pf_X0_has), (103, pf_X6_tell), (113, pf_X6_reallyCross)] [] mI_62 (by decide) (Nat.le_of_ble_eq_true rfl) (T_cons (s_X0_has (by omega)) (T_cons (s_X6_tell (by omega)) (T_cons (s_X6_reallyCross (by omega)) T_nil))) ?_
    rw [show lent 2 ([.ref 0, .int w] : List Value) = [.ref 0, .int w] from rfl]
    simp only [dX6_cross_0, dX6_cross_1, dX6_cross_4, dX6_cross_5, dX6_cross_8, dX6_cross_11, dX6_cross_12, dX6_cross_14, dX6_cross_17, dX6_cross_18, dX6_cross_19, dX6_cross_22, dX6_cross_25, dX6_cross_26, dX6_cross_27, dX6_cross_29, dX6_cross_32, dX6_cross_33, dX6_cross_35, dX6_cross_38, dX6_cross_39, dX6_cross_40, dX6_cross_41, dX6_cross_44, cr_6_122, cr_6_69, cr_6_88, fr_6_117, fr_6_12, kr_6_120, kr_6_121, kr_6_68, skr_6_120, skr_6_121, skr_6_68, al_10, al_11, al_12, al_13, al_14, al_16, al_17, al_18, al_19, al_2, al_20, al_21, al_23, al_24, al_27, al_28, al_29, al_3, al_30, al_31, al_32, al_34, al_36, al_37, al_38, al_39, al_4, al_40, al_41, al_42, al_43, al_45, al_46, al_47, al_48, al_49, al_5, al_52, al_53, al_54, al_55, al_56, al_57, al_58, al_6, al_60, al_61, al_62, al_63, al_64, al_65, al_66, al_67, al_69, al_7, al_70, al_71, al_72, al_73, al_9, gf_0_8_1, gf_0_8_15, gf_0_8_26, gf_0_8_8, gf_5_0_0, pcl_0, pcl_1, pcl_100, pcl_101, pcl_102, pcl_103, pcl_104, pcl_105, pcl_106, pcl_107, pcl_108, pcl_109, pcl_110, pcl_111, pcl_112, pcl_15, pcl_22, pcl_25, pcl_26, pcl_33, pcl_44, pcl_50, pcl_59, pcl_8, pft_0_8, rOK_i, rOK_z, v_aload_0, v_getfield, v_iadd, v_ic_le, v_iconst_1, v_if_ne, v_iload_1, v_invv, v_ireturn, v_ldc, vcV_2_0, vcV_2_5, vgf_i, vgf_r, vgf_s, vld_i, vld_s, vc_0, vc_s, rr_0, rr_1, csT_h, csT_t, csT_n, bI_0, bI_1, bI_z, bT, List.mem_cons, List.not_mem_nil, List.length_cons, List.length_nil, ite_not, ↓reduceIte, true_and, and_true, not_true_eq_false, not_false_eq_true, false_or, or_false, or_true, true_or, Nat.reduceAdd, Nat.reduceEqDiff, Nat.reduceBEq, Nat.reduceLeDiff, Nat.reduceLT, Nat.reduceSub, Int.reduceAdd, Int.reduceLE, Int.reduceLT, Int.reduceToNat, Int.reduceNeg, Int.reduceNatCast', reduceCtorEq, Int32.reduceOfInt, Int32.reduceOfNat, Int32.reduceToNatClampNeg, Int32.reduceToInt, i10, i01, pe_X0_has, tl_0, tl_1, tl_2, tl_3, tl_4, tl_5, tl_6, pe_X6_reallyCross, BR]
    by_cases h1 : hasW M 1 w
    · rw [if_pos h1] at h ⊢
      by_cases h2 : M 1 8 + 1 ≤ 99999
      · rw [if_pos h2] at h ⊢
        exact ⟨h1, h⟩
      · rw [if_neg h2] at h ⊢
        exact h
    · rw [if_neg h1] at h ⊢
      exact h

theorem s_X6_cross {d : Nat} (hd : 4 ≤ d) : Snd d 62 pf_X6_cross := by
  intro args M k h
  unfold pf_X6_cross at h
  split at h
  · exact c_X6_cross hd h
  · exact h.elim
def pf_X6_now : PF := fun args M k => match args with
  | [.ref o, .int q] => (o = 0 ∧ IV M) ∧ (if q = 0 then k (.int (M 1 8)) M else if q = 1 then k (.int (sumF (M 2) 12 0 0)) M else if q = 2 then (∀ a b, k (.int (stF (fun i => (xw M i).1 < 12) (M 1 6).toNatClampNeg 0 0)) (jk M a b)) else if q = 3 then k (.int (M 1 7)) M else if q = 4 then k (.int (sumF (M 6) (M 1 6).toNatClampNeg 0 0)) M else if q = 5 then k (.int (sumF (M 4) (M 1 6).toNatClampNeg 0 0)) M else k (.int (-1000001)) (tellM M 0))
  | _ => False
theorem pe_X6_now {o : Nat} {q : Int32} {M : Mem} {k : Value → Mem → Prop} : pf_X6_now [.ref o, .int q] M k = ((o = 0 ∧ IV M) ∧ (if q = 0 then k (.int (M 1 8)) M else if q = 1 then k (.int (sumF (M 2) 12 0 0)) M else if q = 2 then (∀ a b, k (.int (stF (fun i => (xw M i).1 < 12) (M 1 6).toNatClampNeg 0 0)) (jk M a b)) else if q = 3 then k (.int (M 1 7)) M else if q = 4 then k (.int (sumF (M 6) (M 1 6).toNatClampNeg 0 0)) M else if q = 5 then k (.int (sumF (M 4) (M 1 6).toNatClampNeg 0 0)) M else k (.int (-1000001)) (tellM M 0))) := rfl
set_option maxRecDepth 100000 in
set_option maxHeartbeats 4000000 in
theorem c_X6_now {d : Nat} (hd : 6 ≤ d) {o : Nat} {q : Int32} {M : Mem} {k : Value → Mem → Prop} (h : (o = 0 ∧ IV M) ∧ (if q = 0 then k (.int (M 1 8)) M else if q = 1 then k (.int (sumF (M 2) 12 0 0)) M else if q = 2 then (∀ a b, k (.int (stF (fun i => (xw M i).1 < 12) (M 1 6).toNatClampNeg 0 0)) (jk M a b)) else if q = 3 then k (.int (M 1 7)) M else if q = 4 then k (.int (sumF (M 6) (M 1 6).toNatClampNeg 0 0)) M else if q = 5 then k (.int (sumF (M 4) (M 1 6).toNatClampNeg 0 0)) M else k (.int (-1000001)) (tellM M 0))) : CallP d 64 [.ref o, .int q] M k := by
  obtain ⟨hp, h⟩ := h
  obtain ⟨d, rfl⟩ : ∃ d', d = d' + 1 := ⟨d - 1, by omega⟩
  obtain ⟨rfl, hI⟩ := hp
  · refine enterV (n := 80) [(103, pf_X6_tell), (111, pf_X6_sum), (114, pf_X6_fallers)] [] mI_64 (by decide) (Nat.le_of_ble_eq_true rfl) (T_cons (s_X6_tell (by omega)) (T_cons (s_X6_sum (by omega)) (T_cons (s_X6_fallers (by omega)) T_nil))) ?_
    rw [show lent 2 ([.ref 0, .int q] : List Value) = [.ref 0, .int q] from rfl]
    obtain ⟨m, hm, he⟩ := id hI
    have hs : ¬ M 1 6 < 0 ∧ (M 1 6).toInt ≤ 6 := by
      rw [he, nI_toInt (by omega)]
      exact ⟨nI_pos (by omega), by omega⟩
    simp only [dX6_now_0, dX6_now_1, dX6_now_40, dX6_now_41, dX6_now_44, dX6_now_47, dX6_now_48, dX6_now_49, dX6_now_52, dX6_now_55, dX6_now_57, dX6_now_60, dX6_now_61, dX6_now_62, dX6_now_65, dX6_now_66, dX6_now_67, dX6_now_70, dX6_now_73, dX6_now_74, dX6_now_75, dX6_now_78, dX6_now_81, dX6_now_82, dX6_now_85, dX6_now_88, dX6_now_91, dX6_now_92, dX6_now_93, dX6_now_96, dX6_now_99, dX6_now_100, dX6_now_103, dX6_now_106, dX6_now_109, dX6_now_110, dX6_now_111, dX6_now_113, dX6_now_116, cr_6_137, cr_6_141, cr_6_69, fr_6_100, fr_6_113, fr_6_117, fr_6_12, fr_6_145, fr_6_73, fr_6_94, kr_6_68, skr_6_68, al_10, al_11, al_12, al_13, al_14, al_16, al_17, al_18, al_19, al_2, al_20, al_21, al_23, al_24, al_27, al_28, al_29, al_3, al_30, al_31, al_32, al_34, al_36, al_37, al_38, al_39, al_4, al_40, al_41, al_42, al_43, al_45, al_46, al_47, al_48, al_49, al_5, al_52, al_53, al_54, al_55, al_56, al_57, al_58, al_6, al_60, al_61, al_62, al_63, al_64, al_65, al_66, al_67, al_69, al_7, al_70, al_71, al_72, al_73, al_9, gf_0_0_1, gf_0_0_15, gf_0_0_26, gf_0_0_8, gf_0_2_1, gf_0_2_15, gf_0_2_26, gf_0_2_8, gf_0_4_1, gf_0_4_15, gf_0_4_26, gf_0_4_8, gf_0_6_1, gf_0_6_15, gf_0_6_26, gf_0_6_8, gf_0_7_1, gf_0_7_15, gf_0_7_26, gf_0_7_8, gf_0_8_1, gf_0_8_15, gf_0_8_26, gf_0_8_8, gf_5_0_0, pcl_0, pcl_1, pcl_100, pcl_101, pcl_102, pcl_103, pcl_104, pcl_105, pcl_106, pcl_107, pcl_108, pcl_109, pcl_110, pcl_111, pcl_112, pcl_15, pcl_22, pcl_25, pcl_26, pcl_33, pcl_44, pcl_50, pcl_59, pcl_8, pft_0_6, pft_0_7, pft_0_8, rOK_i, rOK_z, v_aload_0, v_bipush_12, v_getfield, v_iload_1, v_invs, v_invv, v_ireturn, v_ldc, v_table, vcS_2_1, vcV_1_5, vcV_2_5, vgf_i, vgf_r, vgf_s, vld_i, vld_s, vtab_c, vtab_n, vc_0, vc_s, rr_0, rr_1, csT_h, csT_t, csT_n, bI_0, bI_1, bI_z, bT, List.mem_cons, List.not_mem_nil, List.length_cons, List.length_nil, ite_not, ↓reduceIte, true_and, and_true, not_true_eq_false, not_false_eq_true, false_or, or_false, or_true, true_or, Nat.reduceAdd, Nat.reduceEqDiff, Nat.reduceBEq, Nat.reduceLeDiff, Nat.reduceLT, Nat.reduceSub, Int.reduceAdd, Int.reduceLE, Int.reduceLT, Int.reduceToNat, Int.reduceNeg, Int.reduceNatCast', reduceCtorEq, Int32.reduceOfInt, Int32.reduceOfNat, Int32.reduceToNatClampNeg, Int32.reduceToInt, i10, i01, tl_0, tl_1, tl_2, tl_3, tl_4, tl_5, tl_6, pe_X6_sum, pe_X6_fallers, Array.toList, List.length_cons, Int.reduceSub, Int32.reduceLT]
    repeat' split
    all_goals first | (simpa [*] using h) | skip
    all_goals simp_all

theorem s_X6_now {d : Nat} (hd : 6 ≤ d) : Snd d 64 pf_X6_now := by
  intro args M k h
  unfold pf_X6_now at h
  split at h
  · exact c_X6_now hd h
  · exact h.elim
def pf_X6_would : PF := fun args M k => match args with
  | [.ref o, .int w] => (o = 0) ∧ (if hasW M 1 w then ∀ a b, k (.int (nI (xw M (w).toNatClampNeg).1)) (jk M a b) else k (.int (-1000001)) (tellM M 0))
  | _ => False
theorem pe_X6_would {o : Nat} {w : Int32} {M : Mem} {k : Value → Mem → Prop} : pf_X6_would [.ref o, .int w] M k = ((o = 0) ∧ (if hasW M 1 w then ∀ a b, k (.int (nI (xw M (w).toNatClampNeg).1)) (jk M a b) else k (.int (-1000001)) (tellM M 0))) := rfl
set_option maxRecDepth 100000 in
set_option maxHeartbeats 4000000 in
theorem c_X6_would {d : Nat} (hd : 5 ≤ d) {o : Nat} {w : Int32} {M : Mem} {k : Value → Mem → Prop} (h : (o = 0) ∧ (if hasW M 1 w then ∀ a b, k (.int (nI (xw M (w).toNatClampNeg).1)) (jk M a b) else k (.int (-1000001)) (tellM M 0))) : CallP d 65 [.ref o, .int w] M k := by
  obtain ⟨hp, h⟩ := h
  obtain ⟨d, rfl⟩ : ∃ d', d = d' + 1 := ⟨d - 1, by omega⟩
  obtain rfl := hp
  · refine enterV (n := 80) [(2, pf_X0_has), (103, pf_X6_tell), (116, pf_X6_tryWalk)] [] mI_65 (by decide) (Nat.le_of_ble_eq_true rfl) (T_cons (s_X0_has (by omega)) (T_cons (s_X6_tell (by omega)) (T_cons (s_X6_tryWalk (by omega)) T_nil))) ?_
    rw [show lent 2 ([.ref 0, .int w] : List Value) = [.ref 0, .int w] from rfl]
    simp only [dX6_would_0, dX6_would_1, dX6_would_4, dX6_would_5, dX6_would_8, dX6_would_11, dX6_would_12, dX6_would_13, dX6_would_16, dX6_would_19, dX6_would_20, dX6_would_22, dX6_would_25, cr_6_148, cr_6_69, cr_6_88, fr_6_12, kr_6_68, skr_6_68, al_10, al_11, al_12, al_13, al_14, al_16, al_17, al_18, al_19, al_2, al_20, al_21, al_23, al_24, al_27, al_28, al_29, al_3, al_30, al_31, al_32, al_34, al_36, al_37, al_38, al_39, al_4, al_40, al_41, al_42, al_43, al_45, al_46, al_47, al_48, al_49, al_5, al_52, al_53, al_54, al_55, al_56, al_57, al_58, al_6, al_60, al_61, al_62, al_63, al_64, al_65, al_66, al_67, al_69, al_7, al_70, al_71, al_72, al_73, al_9, gf_5_0_0, pcl_0, pcl_1, pcl_100, pcl_101, pcl_102, pcl_103, pcl_104, pcl_105, pcl_106, pcl_107, pcl_108, pcl_109, pcl_110, pcl_111, pcl_112, pcl_15, pcl_22, pcl_25, pcl_26, pcl_33, pcl_44, pcl_50, pcl_59, pcl_8, rOK_i, rOK_z, v_aload_0, v_getfield, v_goto, v_if_eq, v_iload_1, v_invv, v_ireturn, v_ldc, vcV_2_0, vcV_2_5, vgf_i, vgf_r, vgf_s, vld_i, vld_s, vc_0, vc_s, rr_0, rr_1, csT_h, csT_t, csT_n, bI_0, bI_1, bI_z, bT, List.mem_cons, List.not_mem_nil, List.length_cons, List.length_nil, ite_not, ↓reduceIte, true_and, and_true, not_true_eq_false, not_false_eq_true, false_or, or_false, or_true, true_or, Nat.reduceAdd, Nat.reduceEqDiff, Nat.reduceBEq, Nat.reduceLeDiff, Nat.reduceLT, Nat.reduceSub, Int.reduceAdd, Int.reduceLE, Int.reduceLT, Int.reduceToNat, Int.reduceNeg, Int.reduceNatCast', reduceCtorEq, Int32.reduceOfInt, Int32.reduceOfNat, Int32.reduceToNatClampNeg, Int32.reduceToInt, i10, i01, pe_X0_has, tl_0, tl_1, tl_2, tl_3, tl_4, tl_5, tl_6, pe_X6_tryWalk, BR]
    by_cases h1 : hasW M 1 w
    · rw [if_pos h1] at h ⊢
      exact ⟨h1, fun a b _ _ => h a b⟩
    · rw [if_neg h1] at h ⊢
      exact h

theorem s_X6_would {d : Nat} (hd : 5 ≤ d) : Snd d 65 pf_X6_would := by
  intro args M k h
  unfold pf_X6_would at h
  split at h
  · exact c_X6_would hd h
  · exact h.elim
def pf_X6_becomes : PF := fun args M k => match args with
  | [.ref o, .int w] => (o = 0) ∧ (if hasW M 1 w then ∀ a b, k (.int (if (xw M (w).toNatClampNeg).1 < 12 then M 4 (w).toNatClampNeg else (xw M (w).toNatClampNeg).2.1)) (jk M a b) else k (.int (-1000001)) (tellM M 0))
  | _ => False
theorem pe_X6_becomes {o : Nat} {w : Int32} {M : Mem} {k : Value → Mem → Prop} : pf_X6_becomes [.ref o, .int w] M k = ((o = 0) ∧ (if hasW M 1 w then ∀ a b, k (.int (if (xw M (w).toNatClampNeg).1 < 12 then M 4 (w).toNatClampNeg else (xw M (w).toNatClampNeg).2.1)) (jk M a b) else k (.int (-1000001)) (tellM M 0))) := rfl
set_option maxRecDepth 100000 in
set_option maxHeartbeats 4000000 in
theorem c_X6_becomes {d : Nat} (hd : 5 ≤ d) {o : Nat} {w : Int32} {M : Mem} {k : Value → Mem → Prop} (h : (o = 0) ∧ (if hasW M 1 w then ∀ a b, k (.int (if (xw M (w).toNatClampNeg).1 < 12 then M 4 (w).toNatClampNeg else (xw M (w).toNatClampNeg).2.1)) (jk M a b) else k (.int (-1000001)) (tellM M 0))) : CallP d 66 [.ref o, .int w] M k := by
  obtain ⟨hp, h⟩ := h
  obtain ⟨d, rfl⟩ : ∃ d', d = d' + 1 := ⟨d - 1, by omega⟩
  obtain rfl := hp
  · refine enterV (n := 80) [(2, pf_X0_has), (103, pf_X6_tell), (116, pf_X6_tryWalk)] [] mI_66 (by decide) (Nat.le_of_ble_eq_true rfl) (T_cons (s_X0_has (by omega)) (T_cons (s_X6_tell (by omega)) (T_cons (s_X6_tryWalk (by omega)) T_nil))) ?_
    rw [show lent 2 ([.ref 0, .int w] : List Value) = [.ref 0, .int w] from rfl]
    simp only [dX6_becomes_0, dX6_becomes_1, dX6_becomes_4, dX6_becomes_5, dX6_becomes_8, dX6_becomes_11, dX6_becomes_12, dX6_becomes_14, dX6_becomes_17, dX6_becomes_18, dX6_becomes_19, dX6_becomes_20, dX6_becomes_23, dX6_becomes_24, dX6_becomes_25, dX6_becomes_28, dX6_becomes_31, cr_6_148, cr_6_69, cr_6_88, fr_6_12, fr_6_151, fr_6_25, kr_6_68, skr_6_68, al_10, al_11, al_12, al_13, al_14, al_16, al_17, al_18, al_19, al_2, al_20, al_21, al_23, al_24, al_27, al_28, al_29, al_3, al_30, al_31, al_32, al_34, al_36, al_37, al_38, al_39, al_4, al_40, al_41, al_42, al_43, al_45, al_46, al_47, al_48, al_49, al_5, al_52, al_53, al_54, al_55, al_56, al_57, al_58, al_6, al_60, al_61, al_62, al_63, al_64, al_65, al_66, al_67, al_69, al_7, al_70, al_71, al_72, al_73, al_9, cat_i, cat_l, cat_r, cat_u, gf_4_2_22, gf_4_2_33, gf_5_0_0, gf_5_3_0, pcl_0, pcl_1, pcl_100, pcl_101, pcl_102, pcl_103, pcl_104, pcl_105, pcl_106, pcl_107, pcl_108, pcl_109, pcl_110, pcl_111, pcl_112, pcl_15, pcl_22, pcl_25, pcl_26, pcl_33, pcl_44, pcl_50, pcl_59, pcl_8, pft_4_2, rOK_i, rOK_z, v_aload_0, v_getfield, v_if_ne, v_iload_1, v_invv, v_ireturn, v_ldc, v_pop, vcV_2_0, vcV_2_5, vgf_i, vgf_r, vgf_s, vld_i, vld_s, vc_0, vc_s, rr_0, rr_1, csT_h, csT_t, csT_n, bI_0, bI_1, bI_z, bT, List.mem_cons, List.not_mem_nil, List.length_cons, List.length_nil, ite_not, ↓reduceIte, true_and, and_true, not_true_eq_false, not_false_eq_true, false_or, or_false, or_true, true_or, Nat.reduceAdd, Nat.reduceEqDiff, Nat.reduceBEq, Nat.reduceLeDiff, Nat.reduceLT, Nat.reduceSub, Int.reduceAdd, Int.reduceLE, Int.reduceLT, Int.reduceToNat, Int.reduceNeg, Int.reduceNatCast', reduceCtorEq, Int32.reduceOfInt, Int32.reduceOfNat, Int32.reduceToNatClampNeg, Int32.reduceToInt, i10, i01, pe_X0_has, tl_0, tl_1, tl_2, tl_3, tl_4, tl_5, tl_6, pe_X6_tryWalk, BR, jk_22]
    by_cases h1 : hasW M 1 w
    · rw [if_pos h1] at h ⊢
      exact ⟨h1, fun a b ha _ => by rw [ha]; exact h a b⟩
    · rw [if_neg h1] at h ⊢
      exact h

theorem s_X6_becomes {d : Nat} (hd : 5 ≤ d) : Snd d 66 pf_X6_becomes := by
  intro args M k h
  unfold pf_X6_becomes at h
  split at h
  · exact c_X6_becomes hd h
  · exact h.elim
def pf_X6_leaves : PF := fun args M k => match args with
  | [.ref o, .int w, .int p] => (o = 0) ∧ (if hasW M 1 w ∧ isP p then ∀ a b, k (.int ((xw M (w).toNatClampNeg).2.2 (p).toNatClampNeg)) (jk M a b) else k (.int (-1000001)) (tellM M 0))
  | _ => False
theorem pe_X6_leaves {o : Nat} {w : Int32} {p : Int32} {M : Mem} {k : Value → Mem → Prop} : pf_X6_leaves [.ref o, .int w, .int p] M k = ((o = 0) ∧ (if hasW M 1 w ∧ isP p then ∀ a b, k (.int ((xw M (w).toNatClampNeg).2.2 (p).toNatClampNeg)) (jk M a b) else k (.int (-1000001)) (tellM M 0))) := rfl
set_option maxRecDepth 100000 in
set_option maxHeartbeats 4000000 in
theorem c_X6_leaves {d : Nat} (hd : 5 ≤ d) {o : Nat} {w : Int32} {p : Int32} {M : Mem} {k : Value → Mem → Prop} (h : (o = 0) ∧ (if hasW M 1 w ∧ isP p then ∀ a b, k (.int ((xw M (w).toNatClampNeg).2.2 (p).toNatClampNeg)) (jk M a b) else k (.int (-1000001)) (tellM M 0))) : CallP d 67 [.ref o, .int w, .int p] M k := by
  obtain ⟨hp, h⟩ := h
  obtain ⟨d, rfl⟩ : ∃ d', d = d' + 1 := ⟨d - 1, by omega⟩
  obtain rfl := hp
  · refine enterV (n := 80) [(2, pf_X0_has), (104, pf_X6_isPlank), (103, pf_X6_tell), (116, pf_X6_tryWalk)] [] mI_67 (by decide) (Nat.le_of_ble_eq_true rfl) (T_cons (s_X0_has (by omega)) (T_cons (s_X6_isPlank (by omega)) (T_cons (s_X6_tell (by omega)) (T_cons (s_X6_tryWalk (by omega)) T_nil)))) ?_
    rw [show lent 3 ([.ref 0, .int w, .int p] : List Value) = [.ref 0, .int w, .int p] from rfl]
    simp only [dX6_leaves_0, dX6_leaves_1, dX6_leaves_4, dX6_leaves_5, dX6_leaves_8, dX6_leaves_11, dX6_leaves_12, dX6_leaves_15, dX6_leaves_18, dX6_leaves_19, dX6_leaves_21, dX6_leaves_24, dX6_leaves_25, dX6_leaves_26, dX6_leaves_27, dX6_leaves_30, dX6_leaves_31, dX6_leaves_32, dX6_leaves_35, dX6_leaves_38, dX6_leaves_39, dX6_leaves_40, cr_6_148, cr_6_61, cr_6_69, cr_6_88, fr_6_12, fr_6_154, fr_6_25, kr_6_68, skr_6_68, al_10, al_11, al_12, al_13, al_14, al_16, al_17, al_18, al_19, al_2, al_20, al_21, al_23, al_24, al_27, al_28, al_29, al_3, al_30, al_31, al_32, al_34, al_36, al_37, al_38, al_39, al_4, al_40, al_41, al_42, al_43, al_45, al_46, al_47, al_48, al_49, al_5, al_52, al_53, al_54, al_55, al_56, al_57, al_58, al_6, al_60, al_61, al_62, al_63, al_64, al_65, al_66, al_67, al_69, al_7, al_70, al_71, al_72, al_73, al_9, cat_i, cat_l, cat_r, cat_u, gf_4_0_22, gf_4_0_33, gf_5_0_0, gf_5_3_0, pcl_0, pcl_1, pcl_100, pcl_101, pcl_102, pcl_103, pcl_104, pcl_105, pcl_106, pcl_107, pcl_108, pcl_109, pcl_110, pcl_111, pcl_112, pcl_15, pcl_22, pcl_25, pcl_26, pcl_33, pcl_44, pcl_50, pcl_59, pcl_8, rOK_i, rOK_z, v_aload_0, v_getfield, v_iaload, v_if_eq, v_if_ne, v_iload_1, v_iload_2, v_invs, v_invv, v_ireturn, v_ldc, v_pop, vcS_1_1, vcV_2_0, vcV_2_5, vgf_i, vgf_r, vgf_s, vld_i, vld_s, vc_0, vc_s, rr_0, rr_1, csT_h, csT_t, csT_n, bI_0, bI_1, bI_z, bT, List.mem_cons, List.not_mem_nil, List.length_cons, List.length_nil, ite_not, ↓reduceIte, true_and, and_true, not_true_eq_false, not_false_eq_true, false_or, or_false, or_true, true_or, Nat.reduceAdd, Nat.reduceEqDiff, Nat.reduceBEq, Nat.reduceLeDiff, Nat.reduceLT, Nat.reduceSub, Int.reduceAdd, Int.reduceLE, Int.reduceLT, Int.reduceToNat, Int.reduceNeg, Int.reduceNatCast', reduceCtorEq, Int32.reduceOfInt, Int32.reduceOfNat, Int32.reduceToNatClampNeg, Int32.reduceToInt, i10, i01, pe_X0_has, pe_X6_isPlank, tl_0, tl_1, tl_2, tl_3, tl_4, tl_5, tl_6, pe_X6_tryWalk, BR, jk_23]
    by_cases h1 : hasW M 1 w
    · rw [if_pos h1]
      by_cases h2 : isP p
      · rw [if_pos ⟨h1, h2⟩] at h
        rw [if_pos h2]
        obtain ⟨j, hj, rfl⟩ := nI_of2 (M := 11) (n := 11) rfl h2.1 (by
          have := h2.2
          rw [Int32.le_iff_toInt_le] at this ⊢
          simp only [Int32.reduceToInt] at this ⊢
          omega)
        rw [nI_clamp (by omega)] at h ⊢
        exact ⟨h1, fun a b _ hb => ⟨bd h2.1 h2.2 rfl, by rw [hb j (by omega)]; exact h a b⟩⟩
      · rw [if_neg (fun z => h2 z.2)] at h
        rw [if_neg h2]
        exact h
    · rw [if_neg (fun z => h1 z.1)] at h
      rw [if_neg h1]
      exact h

theorem s_X6_leaves {d : Nat} (hd : 5 ≤ d) : Snd d 67 pf_X6_leaves := by
  intro args M k h
  unfold pf_X6_leaves at h
  split at h
  · exact c_X6_leaves hd h
  · exact h.elim
/-- walker i crosses once another row lies there -/
def xwr (M : Mem) (i : Nat) (r : Nat → Int32) : Nat × Int32 × (Nat → Int32) := wk (M 3 i) (M 5 i) (M 1 7) (M 4 i) r
theorem goR_jk {M : Mem} {w : Int32} {a b r : Nat → Int32} (ha : isW M w a) (hb : ∀ j, j < 12 → b j = r j) : (goR (jk M a b) 22 23).1 = (xwr M (w).toNatClampNeg r).1 ∧ (goR (jk M a b) 22 23).2.1 = (xwr M (w).toNatClampNeg r).2.1 ∧ ∀ j, j < 12 → (goR (jk M a b) 22 23).2.2 j = (xwr M (w).toNatClampNeg r).2.2 j := by
  obtain ⟨a1, a2, a3, a4⟩ := ha
  have hr : goR (jk M a b) 22 23 = goF (M 3 (w).toNatClampNeg) (brs (M 3 (w).toNatClampNeg) (M 5 (w).toNatClampNeg) (M 1 7)) 12 0 (M 4 (w).toNatClampNeg) b := by
    unfold goR
    rw [jk_22, jk_23, a1, a2, a3, a4]
  rw [hr]
  exact goF_congr 12 0 _ _ _ (by decide) hb
theorem goM_jk {M : Mem} {a b : Nat → Int32} : goM (jk M a b) 22 23 = jk M (upd a 2 (if (goR (jk M a b) 22 23).1 < 12 then a 2 else (goR (jk M a b) 22 23).2.1)) (goR (jk M a b) 22 23).2.2 := by
  unfold goM mset
  rw [jk_m23, jk_22, jk_m22, jk_22]
theorem wb_jk {M : Mem} {w : Int32} {a b : Nat → Int32} : ∃ c, isW M w c ∧ wbM (jk M a b) 22 1 w = jk M c b := by
  refine ⟨upd (upd (upd (upd a 1 (M 3 (w).toNatClampNeg)) 2 (M 4 (w).toNatClampNeg)) 3 (M 5 (w).toNatClampNeg)) 4 (M 1 7), ⟨rfl, rfl, rfl, rfl⟩, ?_⟩
  unfold wbM mset
  rw [jk_22, jk_m22, jk_22, jk_m22, jk_22, jk_m22, jk_22, jk_m22, jk_n (by decide) (by decide), jk_n (by decide) (by decide), jk_n (by decide) (by decide), jk_n (by decide) (by decide)]
def pf_X6_after : PF := fun args M k => match args with
  | [.ref o, .int w, .int f] => (o = 0) ∧ (if hasW M 1 w ∧ hasW M 1 f ∧ ¬ w = f then ∀ a b, k (.int (nI (xwr M (w).toNatClampNeg (xw M (f).toNatClampNeg).2.2).1)) (jk M a b) else k (.int (-1000001)) (tellM M 0))
  | _ => False
theorem pe_X6_after {o : Nat} {w : Int32} {f : Int32} {M : Mem} {k : Value → Mem → Prop} : pf_X6_after [.ref o, .int w, .int f] M k = ((o = 0) ∧ (if hasW M 1 w ∧ hasW M 1 f ∧ ¬ w = f then ∀ a b, k (.int (nI (xwr M (w).toNatClampNeg (xw M (f).toNatClampNeg).2.2).1)) (jk M a b) else k (.int (-1000001)) (tellM M 0))) := rfl
set_option maxRecDepth 100000 in
set_option maxHeartbeats 4000000 in
theorem c_X6_after {d : Nat} (hd : 5 ≤ d) {o : Nat} {w : Int32} {f : Int32} {M : Mem} {k : Value → Mem → Prop} (h : (o = 0) ∧ (if hasW M 1 w ∧ hasW M 1 f ∧ ¬ w = f then ∀ a b, k (.int (nI (xwr M (w).toNatClampNeg (xw M (f).toNatClampNeg).2.2).1)) (jk M a b) else k (.int (-1000001)) (tellM M 0))) : CallP d 68 [.ref o, .int w, .int f] M k := by
  obtain ⟨hp, h⟩ := h
  obtain ⟨d, rfl⟩ : ∃ d', d = d' + 1 := ⟨d - 1, by omega⟩
  obtain rfl := hp
  · refine enterV (n := 80) [(2, pf_X0_has), (103, pf_X6_tell), (116, pf_X6_tryWalk), (52, pf_X5_become), (54, pf_X5_go)] [] mI_68 (by decide) (Nat.le_of_ble_eq_true rfl) (T_cons (s_X0_has (by omega)) (T_cons (s_X6_tell (by omega)) (T_cons (s_X6_tryWalk (by omega)) (T_cons (s_X5_become (by omega)) (T_cons (s_X5_go (by omega)) T_nil))))) ?_
    rw [show lent 3 ([.ref 0, .int w, .int f] : List Value) = [.ref 0, .int w, .int f] from rfl]
    simp only [dX6_after_0, dX6_after_1, dX6_after_4, dX6_after_5, dX6_after_8, dX6_after_11, dX6_after_12, dX6_after_15, dX6_after_16, dX6_after_19, dX6_after_22, dX6_after_23, dX6_after_24, dX6_after_27, dX6_after_28, dX6_after_30, dX6_after_33, dX6_after_34, dX6_after_35, dX6_after_36, dX6_after_39, dX6_after_40, dX6_after_41, dX6_after_44, dX6_after_45, dX6_after_48, dX6_after_49, dX6_after_52, dX6_after_53, dX6_after_56, dX6_after_57, dX6_after_60, dX6_after_63, dX6_after_66, cr_6_148, cr_6_157, cr_6_161, cr_6_69, cr_6_88, fr_6_12, fr_6_154, fr_6_25, kr_6_68, skr_6_68, al_10, al_11, al_12, al_13, al_14, al_16, al_17, al_18, al_19, al_2, al_20, al_21, al_23, al_24, al_27, al_28, al_29, al_3, al_30, al_31, al_32, al_34, al_36, al_37, al_38, al_39, al_4, al_40, al_41, al_42, al_43, al_45, al_46, al_47, al_48, al_49, al_5, al_52, al_53, al_54, al_55, al_56, al_57, al_58, al_6, al_60, al_61, al_62, al_63, al_64, al_65, al_66, al_67, al_69, al_7, al_70, al_71, al_72, al_73, al_9, cat_i, cat_l, cat_r, cat_u, gf_4_0_22, gf_4_0_33, gf_5_0_0, gf_5_3_0, pcl_0, pcl_1, pcl_100, pcl_101, pcl_102, pcl_103, pcl_104, pcl_105, pcl_106, pcl_107, pcl_108, pcl_109, pcl_110, pcl_111, pcl_112, pcl_15, pcl_22, pcl_25, pcl_26, pcl_33, pcl_44, pcl_50, pcl_59, pcl_8, rOK_i, rOK_z, v_aload_0, v_getfield, v_ic_ne, v_if_eq, v_iload_1, v_iload_2, v_invv, v_ireturn, v_ldc, v_pop, vcV_2_0, vcV_2_4, vcV_2_5, vcV_3_4, vgf_i, vgf_r, vgf_s, vld_i, vld_s, vc_0, vc_s, rr_0, rr_1, csT_h, csT_t, csT_n, bI_0, bI_1, bI_z, bT, List.mem_cons, List.not_mem_nil, List.length_cons, List.length_nil, ite_not, ↓reduceIte, true_and, and_true, not_true_eq_false, not_false_eq_true, false_or, or_false, or_true, true_or, Nat.reduceAdd, Nat.reduceEqDiff, Nat.reduceBEq, Nat.reduceLeDiff, Nat.reduceLT, Nat.reduceSub, Int.reduceAdd, Int.reduceLE, Int.reduceLT, Int.reduceToNat, Int.reduceNeg, Int.reduceNatCast', reduceCtorEq, Int32.reduceOfInt, Int32.reduceOfNat, Int32.reduceToNatClampNeg, Int32.reduceToInt, i10, i01, pe_X0_has, tl_0, tl_1, tl_2, tl_3, tl_4, tl_5, tl_6, pe_X6_tryWalk, pe_X5_become, pe_X5_go, BR, jk_n]
    by_cases h1 : hasW M 1 w
    · rw [if_pos h1]
      by_cases h2 : hasW M 1 f
      · rw [if_pos h2]
        by_cases h3 : w = f
        · rw [if_neg (fun z => z.2.2 h3)] at h
          rw [if_pos h3]
          exact h
        · rw [if_pos ⟨h1, h2, h3⟩] at h
          rw [if_neg h3]
          refine ⟨h2, fun a b _ hb => ⟨h1, ?_⟩⟩
          obtain ⟨c, hc, e⟩ := wb_jk (M := M) (w := w) (a := a) (b := b)
          rw [e, goM_jk, (goR_jk hc hb).1]
          exact h _ _
      · rw [if_neg (fun z => h2 z.2.1)] at h
        rw [if_neg h2]
        exact h
    · rw [if_neg (fun z => h1 z.1)] at h
      rw [if_neg h1]
      exact h

theorem s_X6_after {d : Nat} (hd : 5 ≤ d) : Snd d 68 pf_X6_after := by
  intro args M k h
  unfold pf_X6_after at h
  split at h
  · exact c_X6_after hd h
  · exact h.elim
