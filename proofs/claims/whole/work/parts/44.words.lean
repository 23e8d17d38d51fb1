/-! X: the number of a word -/
theorem kn_3_116 : kres 3 116 = none := by decide +kernel
theorem kn_3_122 : kres 3 122 = none := by decide +kernel
theorem kn_3_124 : kres 3 124 = none := by decide +kernel
theorem kn_3_126 : kres 3 126 = none := by decide +kernel
theorem kn_3_128 : kres 3 128 = none := by decide +kernel
theorem kn_3_130 : kres 3 130 = none := by decide +kernel
theorem kn_3_132 : kres 3 132 = none := by decide +kernel
theorem kn_3_134 : kres 3 134 = none := by decide +kernel
theorem kn_3_136 : kres 3 136 = none := by decide +kernel
theorem kn_3_138 : kres 3 138 = none := by decide +kernel
theorem kn_3_139 : kres 3 139 = none := by decide +kernel
theorem kn_3_141 : kres 3 141 = none := by decide +kernel
theorem kn_3_143 : kres 3 143 = none := by decide +kernel
/-- the bytes from a to b are the string j -/
abbrev wdI (M : Mem) (a b j : Nat) : Prop := b - a = sbl j ∧ spD M a j
def wnG (M : Mem) (a b : Nat) : Nat → Nat → Int32
  | 0, _ => 13
  | n + 1, j => if wdI M a b j then nI j else wnG M a b n (j + 1)
def pf_X3_wordNumber : PF := fun args M k => match args with
  | [.ref o, .int s, .int e] => (o = 44 ∧ (∃ a b, s = nI a ∧ e = nI b ∧ a ≤ b ∧ b ≤ 120)) ∧ (k (.int (wnG M (s).toNatClampNeg (e).toNatClampNeg 13 0)) M)
  | _ => False
theorem pe_X3_wordNumber {o : Nat} {s : Int32} {e : Int32} {M : Mem} {k : Value → Mem → Prop} : pf_X3_wordNumber [.ref o, .int s, .int e] M k = ((o = 44 ∧ (∃ a b, s = nI a ∧ e = nI b ∧ a ≤ b ∧ b ≤ 120)) ∧ (k (.int (wnG M (s).toNatClampNeg (e).toNatClampNeg 13 0)) M)) := rfl
set_option maxRecDepth 100000 in
set_option maxHeartbeats 4000000 in
theorem c_X3_wordNumber {d : Nat} (hd : 5 ≤ d) {o : Nat} {s : Int32} {e : Int32} {M : Mem} {k : Value → Mem → Prop} (h : (o = 44 ∧ (∃ a b, s = nI a ∧ e = nI b ∧ a ≤ b ∧ b ≤ 120)) ∧ (k (.int (wnG M (s).toNatClampNeg (e).toNatClampNeg 13 0)) M)) : CallP d 43 [.ref o, .int s, .int e] M k := by
  obtain ⟨hp, h⟩ := h
  obtain ⟨d, rfl⟩ : ∃ d', d = d' + 1 := ⟨d - 1, by omega⟩
  obtain ⟨rfl, hx⟩ := hp
  have hx := eq_true hx
  · refine enterV (n := 140) [(44, pf_X3_spells)] [] mI_43 (by decide) (Nat.le_of_ble_eq_true rfl) (T_cons (s_X3_spells (by omega)) T_nil) ?_
    rw [show lent 3 ([.ref 44, .int s, .int e] : List Value) = [.ref 44, .int s, .int e] from rfl]
    simp only [dX3_wordNumber_0, dX3_wordNumber_1, dX3_wordNumber_2, dX3_wordNumber_3, dX3_wordNumber_5, dX3_wordNumber_8, dX3_wordNumber_11, dX3_wordNumber_12, dX3_wordNumber_13, dX3_wordNumber_14, dX3_wordNumber_15, dX3_wordNumber_16, dX3_wordNumber_18, dX3_wordNumber_21, dX3_wordNumber_24, dX3_wordNumber_25, dX3_wordNumber_26, dX3_wordNumber_27, dX3_wordNumber_28, dX3_wordNumber_29, dX3_wordNumber_31, dX3_wordNumber_34, dX3_wordNumber_37, dX3_wordNumber_38, dX3_wordNumber_39, dX3_wordNumber_40, dX3_wordNumber_41, dX3_wordNumber_42, dX3_wordNumber_44, dX3_wordNumber_47, dX3_wordNumber_50, dX3_wordNumber_51, dX3_wordNumber_52, dX3_wordNumber_53, dX3_wordNumber_54, dX3_wordNumber_55, dX3_wordNumber_57, dX3_wordNumber_60, dX3_wordNumber_63, dX3_wordNumber_64, dX3_wordNumber_65, dX3_wordNumber_66, dX3_wordNumber_67, dX3_wordNumber_68, dX3_wordNumber_70, dX3_wordNumber_73, dX3_wordNumber_76, dX3_wordNumber_77, dX3_wordNumber_78, dX3_wordNumber_79, dX3_wordNumber_80, dX3_wordNumber_81, dX3_wordNumber_83, dX3_wordNumber_86, dX3_wordNumber_89, dX3_wordNumber_91, dX3_wordNumber_92, dX3_wordNumber_93, dX3_wordNumber_94, dX3_wordNumber_95, dX3_wordNumber_97, dX3_wordNumber_100, dX3_wordNumber_103, dX3_wordNumber_105, dX3_wordNumber_106, dX3_wordNumber_107, dX3_wordNumber_108, dX3_wordNumber_109, dX3_wordNumber_111, dX3_wordNumber_114, dX3_wordNumber_117, dX3_wordNumber_119, dX3_wordNumber_120, dX3_wordNumber_121, dX3_wordNumber_122, dX3_wordNumber_123, dX3_wordNumber_125, dX3_wordNumber_128, dX3_wordNumber_131, dX3_wordNumber_133, dX3_wordNumber_134, dX3_wordNumber_135, dX3_wordNumber_136, dX3_wordNumber_137, dX3_wordNumber_139, dX3_wordNumber_142, dX3_wordNumber_145, dX3_wordNumber_147, dX3_wordNumber_148, dX3_wordNumber_149, dX3_wordNumber_150, dX3_wordNumber_151, dX3_wordNumber_153, dX3_wordNumber_156, dX3_wordNumber_159, dX3_wordNumber_161, dX3_wordNumber_162, dX3_wordNumber_163, dX3_wordNumber_164, dX3_wordNumber_165, dX3_wordNumber_167, dX3_wordNumber_170, dX3_wordNumber_173, dX3_wordNumber_175, dX3_wordNumber_178, dX3_wordNumber_180, cr_3_118, sr_3_116, sr_3_122, sr_3_124, sr_3_126, sr_3_128, sr_3_130, sr_3_132, sr_3_134, sr_3_136, sr_3_138, sr_3_139, sr_3_141, sr_3_143, al_10, al_11, al_12, al_13, al_14, al_16, al_17, al_18, al_19, al_2, al_20, al_21, al_23, al_24, al_27, al_28, al_29, al_3, al_30, al_31, al_32, al_34, al_36, al_37, al_38, al_39, al_4, al_40, al_41, al_42, al_43, al_45, al_46, al_47, al_48, al_49, al_5, al_52, al_53, al_54, al_55, al_56, al_57, al_58, al_6, al_60, al_61, al_62, al_63, al_64, al_65, al_66, al_67, al_69, al_7, al_70, al_71, al_72, al_73, al_9, pcl_0, pcl_1, pcl_100, pcl_101, pcl_102, pcl_103, pcl_104, pcl_105, pcl_106, pcl_107, pcl_108, pcl_109, pcl_110, pcl_111, pcl_112, pcl_15, pcl_22, pcl_25, pcl_26, pcl_33, pcl_44, pcl_50, pcl_59, pcl_8, rOK_i, rOK_z, v_aload_0, v_bipush_10, v_bipush_11, v_bipush_12, v_bipush_13, v_bipush_6, v_bipush_7, v_bipush_8, v_bipush_9, v_goto, v_iconst_0, v_iconst_1, v_iconst_2, v_iconst_3, v_iconst_4, v_iconst_5, v_if_eq, v_iload_1, v_iload_2, v_invv, v_ireturn, v_ldc, vcV_4_2, vld_i, vld_s, vc_d, rr_0, rr_1, csT_h, csT_t, csT_n, bI_0, bI_1, bI_z, bT, List.mem_cons, List.not_mem_nil, List.length_cons, List.length_nil, ite_not, ↓reduceIte, true_and, and_true, not_true_eq_false, not_false_eq_true, false_or, or_false, or_true, true_or, Nat.reduceAdd, Nat.reduceEqDiff, Nat.reduceBEq, Nat.reduceLeDiff, Nat.reduceLT, Nat.reduceSub, Int.reduceAdd, Int.reduceLE, Int.reduceLT, Int.reduceToNat, Int.reduceNeg, Int.reduceNatCast', reduceCtorEq, Int32.reduceOfInt, Int32.reduceOfNat, Int32.reduceToNatClampNeg, Int32.reduceToInt, i10, i01, pe_X3_spells, hx, kn_3_116, kn_3_122, kn_3_124, kn_3_126, kn_3_128, kn_3_130, kn_3_132, kn_3_134, kn_3_136, kn_3_138, kn_3_139, kn_3_141, kn_3_143]
    rw [wnG] at h
    by_cases z : wdI M (s).toNatClampNeg (e).toNatClampNeg 0
    · rw [if_pos z] at h ⊢
      exact h
    rw [if_neg z] at h ⊢
    clear z
    rw [wnG] at h
    by_cases z : wdI M (s).toNatClampNeg (e).toNatClampNeg 1
    · rw [if_pos z] at h ⊢
      exact h
    rw [if_neg z] at h ⊢
    clear z
    rw [wnG] at h
    by_cases z : wdI M (s).toNatClampNeg (e).toNatClampNeg 2
    · rw [if_pos z] at h ⊢
      exact h
    rw [if_neg z] at h ⊢
    clear z
    rw [wnG] at h
    by_cases z : wdI M (s).toNatClampNeg (e).toNatClampNeg 3
    · rw [if_pos z] at h ⊢
      exact h
    rw [if_neg z] at h ⊢
    clear z
    rw [wnG] at h
    by_cases z : wdI M (s).toNatClampNeg (e).toNatClampNeg 4
    · rw [if_pos z] at h ⊢
      exact h
    rw [if_neg z] at h ⊢
    clear z
    rw [wnG] at h
    by_cases z : wdI M (s).toNatClampNeg (e).toNatClampNeg 5
    · rw [if_pos z] at h ⊢
      exact h
    rw [if_neg z] at h ⊢
    clear z
    rw [wnG] at h
    by_cases z : wdI M (s).toNatClampNeg (e).toNatClampNeg 6
    · rw [if_pos z] at h ⊢
      exact h
    rw [if_neg z] at h ⊢
    clear z
    rw [wnG] at h
    by_cases z : wdI M (s).toNatClampNeg (e).toNatClampNeg 7
    · rw [if_pos z] at h ⊢
      exact h
    rw [if_neg z] at h ⊢
    clear z
    rw [wnG] at h
    by_cases z : wdI M (s).toNatClampNeg (e).toNatClampNeg 8
    · rw [if_pos z] at h ⊢
      exact h
    rw [if_neg z] at h ⊢
    clear z
    rw [wnG] at h
    by_cases z : wdI M (s).toNatClampNeg (e).toNatClampNeg 9
    · rw [if_pos z] at h ⊢
      exact h
    rw [if_neg z] at h ⊢
    clear z
    rw [wnG] at h
    by_cases z : wdI M (s).toNatClampNeg (e).toNatClampNeg 10
    · rw [if_pos z] at h ⊢
      exact h
    rw [if_neg z] at h ⊢
    clear z
    rw [wnG] at h
    by_cases z : wdI M (s).toNatClampNeg (e).toNatClampNeg 11
    · rw [if_pos z] at h ⊢
      exact h
    rw [if_neg z] at h ⊢
    clear z
    rw [wnG] at h
    by_cases z : wdI M (s).toNatClampNeg (e).toNatClampNeg 12
    · rw [if_pos z] at h ⊢
      exact h
    rw [if_neg z] at h ⊢
    clear z
    rw [wnG] at h
    exact h

theorem s_X3_wordNumber {d : Nat} (hd : 5 ≤ d) : Snd d 43 pf_X3_wordNumber := by
  intro args M k h
  unfold pf_X3_wordNumber at h
  split at h
  · exact c_X3_wordNumber hd h
  · exact h.elim
