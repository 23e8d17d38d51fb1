def pf_X6_as : PF := fun args M k => match args with
  | [.ref o, .int s, .int q] => (o = 0 ∧ ∀ i, i < 6 → isK (M 3 i)) ∧ (if isS s ∧ isK q then (if hasW M 1 (M 7 (s).toNatClampNeg) then ((undF (M 3 (M 7 (s).toNatClampNeg).toNatClampNeg) q → k (.int (M 7 (s).toNatClampNeg)) M) ∧ (¬ undF (M 3 (M 7 (s).toNatClampNeg).toNatClampNeg) q → k (.int (-1000003)) (tellM M 2))) else k (.int (-1000006)) (tellM M 5)) else k (.int (-1000001)) (tellM M 0))
  | _ => False
theorem pe_X6_as {o : Nat} {s : Int32} {q : Int32} {M : Mem} {k : Value → Mem → Prop} : pf_X6_as [.ref o, .int s, .int q] M k = ((o = 0 ∧ ∀ i, i < 6 → isK (M 3 i)) ∧ (if isS s ∧ isK q then (if hasW M 1 (M 7 (s).toNatClampNeg) then ((undF (M 3 (M 7 (s).toNatClampNeg).toNatClampNeg) q → k (.int (M 7 (s).toNatClampNeg)) M) ∧ (¬ undF (M 3 (M 7 (s).toNatClampNeg).toNatClampNeg) q → k (.int (-1000003)) (tellM M 2))) else k (.int (-1000006)) (tellM M 5)) else k (.int (-1000001)) (tellM M 0))) := rfl
set_option maxRecDepth 100000 in
set_option maxHeartbeats 4000000 in
theorem c_X6_as {d : Nat} (hd : 3 ≤ d) {o : Nat} {s : Int32} {q : Int32} {M : Mem} {k : Value → Mem → Prop} (h : (o = 0 ∧ ∀ i, i < 6 → isK (M 3 i)) ∧ (if isS s ∧ isK q then (if hasW M 1 (M 7 (s).toNatClampNeg) then ((undF (M 3 (M 7 (s).toNatClampNeg).toNatClampNeg) q → k (.int (M 7 (s).toNatClampNeg)) M) ∧ (¬ undF (M 3 (M 7 (s).toNatClampNeg).toNatClampNeg) q → k (.int (-1000003)) (tellM M 2))) else k (.int (-1000006)) (tellM M 5)) else k (.int (-1000001)) (tellM M 0))) : CallP d 92 [.ref o, .int s, .int q] M k := by
  obtain ⟨hp, h⟩ := h
  obtain ⟨d, rfl⟩ : ∃ d', d = d' + 1 := ⟨d - 1, by omega⟩
  obtain ⟨rfl, hK⟩ := hp
  · refine enterV (n := 80) [(107, pf_X6_isSpot), (106, pf_X6_isKind), (103, pf_X6_tell), (2, pf_X0_has), (13, pf_X1_isUnder)] [] mI_92 (by decide) (Nat.le_of_ble_eq_true rfl) (T_cons (s_X6_isSpot (by omega)) (T_cons (s_X6_isKind (by omega)) (T_cons (s_X6_tell (by omega)) (T_cons (s_X0_has (by omega)) (T_cons (s_X1_isUnder (by omega)) T_nil))))) ?_
    rw [show lent 4 ([.ref 0, .int s, .int q] : List Value) = [.ref 0, .int s, .int q, .retAddr 0] from rfl]
    simp only [dX6_as_0, dX6_as_1, dX6_as_4, dX6_as_7, dX6_as_8, dX6_as_11, dX6_as_14, dX6_as_15, dX6_as_17, dX6_as_20, dX6_as_21, dX6_as_22, dX6_as_25, dX6_as_28, dX6_as_29, dX6_as_30, dX6_as_31, dX6_as_32, dX6_as_35, dX6_as_36, dX6_as_39, dX6_as_42, dX6_as_43, dX6_as_45, dX6_as_48, dX6_as_49, dX6_as_50, dX6_as_53, dX6_as_56, dX6_as_57, dX6_as_58, dX6_as_59, dX6_as_62, dX6_as_65, dX6_as_66, dX6_as_69, dX6_as_70, dX6_as_73, dX6_as_76, cr_6_246, cr_6_253, cr_6_69, cr_6_76, cr_6_88, fr_6_12, fr_6_249, fr_6_91, kr_6_252, kr_6_258, kr_6_68, skr_6_252, skr_6_258, skr_6_68, al_10, al_11, al_12, al_13, al_14, al_16, al_17, al_18, al_19, al_2, al_20, al_21, al_23, al_24, al_27, al_28, al_29, al_3, al_30, al_31, al_32, al_34, al_36, al_37, al_38, al_39, al_4, al_40, al_41, al_42, al_43, al_45, al_46, al_47, al_48, al_49, al_5, al_52, al_53, al_54, al_55, al_56, al_57, al_58, al_6, al_60, al_61, al_62, al_63, al_64, al_65, al_66, al_67, al_69, al_7, al_70, al_71, al_72, al_73, al_9, cat_i, cat_l, cat_r, cat_u, gf_0_1_1, gf_0_1_15, gf_0_1_26, gf_0_1_8, gf_0_5_1, gf_0_5_15, gf_0_5_26, gf_0_5_8, gf_5_0_0, pcl_0, pcl_1, pcl_100, pcl_101, pcl_102, pcl_103, pcl_104, pcl_105, pcl_106, pcl_107, pcl_108, pcl_109, pcl_110, pcl_111, pcl_112, pcl_15, pcl_22, pcl_25, pcl_26, pcl_33, pcl_44, pcl_50, pcl_59, pcl_8, rOK_i, rOK_z, v_aload_0, v_getfield, v_goto, v_iaload, v_if_eq, v_if_ne, v_iload_1, v_iload_2, v_iload_3, v_invs, v_invv, v_ireturn, v_istore_3, v_ldc, v_ldcw, vcS_1_1, vcS_2_1, vcV_2_0, vcV_2_5, vgf_i, vgf_r, vgf_s, vld_i, vld_s, vc_d, rr_0, rr_1, csT_h, csT_t, csT_n, bI_0, bI_1, bI_z, bT, List.mem_cons, List.not_mem_nil, List.length_cons, List.length_nil, ite_not, ↓reduceIte, true_and, and_true, not_true_eq_false, not_false_eq_true, false_or, or_false, or_true, true_or, Nat.reduceAdd, Nat.reduceEqDiff, Nat.reduceBEq, Nat.reduceLeDiff, Nat.reduceLT, Nat.reduceSub, Int.reduceAdd, Int.reduceLE, Int.reduceLT, Int.reduceToNat, Int.reduceNeg, Int.reduceNatCast', reduceCtorEq, Int32.reduceOfInt, Int32.reduceOfNat, Int32.reduceToNatClampNeg, Int32.reduceToInt, i10, i01, pe_X6_isSpot, pe_X6_isKind, tl_0, tl_1, tl_2, tl_3, tl_4, tl_5, tl_6, pe_X0_has, pe_X1_isUnder, BR]
    by_cases h1 : isS s
    · rw [if_pos h1]
      by_cases h2 : isK q
      · rw [if_pos ⟨h1, h2⟩] at h
        rw [if_pos h2]
        refine ⟨bd h1.1 h1.2 rfl, ?_⟩
        by_cases h3 : hasW M 1 (M 7 (s).toNatClampNeg)
        · rw [if_pos h3] at h ⊢
          refine ⟨bd h3.1 h3.2.2 rfl, ⟨hK _ ?_, h2⟩, h.1, h.2⟩
          have := bd h3.1 h3.2.2 (n := 6) rfl
          obtain ⟨j, hj, e⟩ := nI_of h3.1
          rw [e, nI_toInt hj] at this
          rw [e, nI_clamp hj]
          omega
        · rw [if_neg h3] at h ⊢
          exact h
      · rw [if_neg (fun z => h2 z.2)] at h
        rw [if_neg h2]
        exact h
    · rw [if_neg (fun z => h1 z.1)] at h
      rw [if_neg h1]
      exact h

theorem s_X6_as {d : Nat} (hd : 3 ≤ d) : Snd d 92 pf_X6_as := by
  intro args M k h
  unfold pf_X6_as at h
  split at h
  · exact c_X6_as hd h
  · exact h.elim
def pf_X6_sheet : PF := fun args M k => match args with
  | [.ref o, .int s, .int b, .int n] => (o = 0) ∧ (if shOK s ∧ okB b then (if n < 0 then k (.int (-1000007)) (tellM M 6) else if 40 < n then k (.int (-1000001)) (tellM M 0) else k (.int (if b = 0 then 0 else n)) (rnM M s b (if b = 0 then 0 else n))) else k (.int (-1000001)) (tellM M 0))
  | _ => False
theorem pe_X6_sheet {o : Nat} {s : Int32} {b : Int32} {n : Int32} {M : Mem} {k : Value → Mem → Prop} : pf_X6_sheet [.ref o, .int s, .int b, .int n] M k = ((o = 0) ∧ (if shOK s ∧ okB b then (if n < 0 then k (.int (-1000007)) (tellM M 6) else if 40 < n then k (.int (-1000001)) (tellM M 0) else k (.int (if b = 0 then 0 else n)) (rnM M s b (if b = 0 then 0 else n))) else k (.int (-1000001)) (tellM M 0))) := rfl
set_option maxRecDepth 100000 in
set_option maxHeartbeats 4000000 in
theorem c_X6_sheet {d : Nat} (hd : 3 ≤ d) {o : Nat} {s : Int32} {b : Int32} {n : Int32} {M : Mem} {k : Value → Mem → Prop} (h : (o = 0) ∧ (if shOK s ∧ okB b then (if n < 0 then k (.int (-1000007)) (tellM M 6) else if 40 < n then k (.int (-1000001)) (tellM M 0) else k (.int (if b = 0 then 0 else n)) (rnM M s b (if b = 0 then 0 else n))) else k (.int (-1000001)) (tellM M 0))) : CallP d 93 [.ref o, .int s, .int b, .int n] M k := by
  obtain ⟨hp, h⟩ := h
  obtain ⟨d, rfl⟩ : ∃ d', d = d' + 1 := ⟨d - 1, by omega⟩
  obtain rfl := hp
  · refine enterV (n := 80) [(108, pf_X6_isSheet), (103, pf_X6_tell), (47, pf_X4_renew)] [] mI_93 (by decide) (Nat.le_of_ble_eq_true rfl) (T_cons (s_X6_isSheet (by omega)) (T_cons (s_X6_tell (by omega)) (T_cons (s_X4_renew (by omega)) T_nil))) ?_
    rw [show lent 4 ([.ref 0, .int s, .int b, .int n] : List Value) = [.ref 0, .int s, .int b, .int n] from rfl]
    simp only [dX6_sheet_0, dX6_sheet_1, dX6_sheet_4, dX6_sheet_7, dX6_sheet_8, dX6_sheet_11, dX6_sheet_12, dX6_sheet_14, dX6_sheet_17, dX6_sheet_18, dX6_sheet_20, dX6_sheet_23, dX6_sheet_24, dX6_sheet_26, dX6_sheet_29, dX6_sheet_30, dX6_sheet_32, dX6_sheet_35, dX6_sheet_36, dX6_sheet_37, dX6_sheet_40, dX6_sheet_41, dX6_sheet_44, dX6_sheet_47, dX6_sheet_48, dX6_sheet_49, dX6_sheet_51, dX6_sheet_54, dX6_sheet_55, dX6_sheet_57, dX6_sheet_60, dX6_sheet_61, dX6_sheet_62, dX6_sheet_65, dX6_sheet_66, dX6_sheet_67, dX6_sheet_68, dX6_sheet_71, dX6_sheet_72, dX6_sheet_75, dX6_sheet_76, dX6_sheet_79, dX6_sheet_80, dX6_sheet_83, dX6_sheet_86, dX6_sheet_87, dX6_sheet_88, cr_6_259, cr_6_263, cr_6_69, fr_6_218, fr_6_50, kr_6_262, kr_6_68, skr_6_262, skr_6_68, al_10, al_11, al_12, al_13, al_14, al_16, al_17, al_18, al_19, al_2, al_20, al_21, al_23, al_24, al_27, al_28, al_29, al_3, al_30, al_31, al_32, al_34, al_36, al_37, al_38, al_39, al_4, al_40, al_41, al_42, al_43, al_45, al_46, al_47, al_48, al_49, al_5, al_52, al_53, al_54, al_55, al_56, al_57, al_58, al_6, al_60, al_61, al_62, al_63, al_64, al_65, al_66, al_67, al_69, al_7, al_70, al_71, al_72, al_73, al_9, gf_3_2_50, gf_5_7_0, pcl_0, pcl_1, pcl_100, pcl_101, pcl_102, pcl_103, pcl_104, pcl_105, pcl_106, pcl_107, pcl_108, pcl_109, pcl_110, pcl_111, pcl_112, pcl_15, pcl_22, pcl_25, pcl_26, pcl_33, pcl_44, pcl_50, pcl_59, pcl_8, rOK_i, rOK_z, v_aload_0, v_bipush_16, v_bipush_32, v_bipush_40, v_bipush_8, v_getfield, v_goto, v_iaload, v_ic_eq, v_ic_le, v_iconst_0, v_if_eq, v_if_ge, v_if_ne, v_iload_1, v_iload_2, v_iload_3, v_invs, v_invv, v_ireturn, v_ldc, v_ldcw, vcS_1_1, vcV_2_5, vcV_4_3, vgf_i, vgf_r, vgf_s, vld_i, vld_s, vc_d, rr_0, rr_1, csT_h, csT_t, csT_n, bI_0, bI_1, bI_z, bT, List.mem_cons, List.not_mem_nil, List.length_cons, List.length_nil, ite_not, ↓reduceIte, true_and, and_true, not_true_eq_false, not_false_eq_true, false_or, or_false, or_true, true_or, Nat.reduceAdd, Nat.reduceEqDiff, Nat.reduceBEq, Nat.reduceLeDiff, Nat.reduceLT, Nat.reduceSub, Int.reduceAdd, Int.reduceLE, Int.reduceLT, Int.reduceToNat, Int.reduceNeg, Int.reduceNatCast', reduceCtorEq, Int32.reduceOfInt, Int32.reduceOfNat, Int32.reduceToNatClampNeg, Int32.reduceToInt, i10, i01, pe_X6_isSheet, tl_0, tl_1, tl_2, tl_3, tl_4, tl_5, tl_6, pe_X4_renew]
    by_cases h1 : shOK s
    · have hrn : ∀ x y, rnM M s x y 57 (s).toNatClampNeg = y := by
        intro x y
        unfold rnM
        rw [mrow_n (by rcases sh4 h1 with rfl | rfl | rfl | rfl <;> decide), mset_s, upd_s]
      have key : okB b → (if n < 0 then k (.int (-1000007)) (tellM M 6) else if 40 < n then k (.int (-1000001)) (tellM M 0) else k (.int (if b = 0 then 0 else n)) (rnM M s b (if b = 0 then 0 else n))) := fun z => by
        rw [if_pos ⟨h1, z⟩] at h
        exact h
      rw [if_pos h1]
      by_cases hb : okB b
      · have h := key hb
        have hb0 := bd h1.1 h1.2 (n := 4) rfl
        have hbb : (b = 0) ∨ (¬ b = 0 ∧ (b = 8 ∨ ¬ b = 8 ∧ (b = 16 ∨ ¬ b = 16 ∧ b = 32))) := by
          rcases hb with rfl | rfl | rfl | rfl <;> decide
        have G : if 0 ≤ n then (if n ≤ 40 then (if b = 0 then (shOK s ∧ ¬ (0 : Int32) < 0 ∧ ¬ (40 : Int32) < 0) ∧ (0 ≤ s.toInt ∧ s.toInt < 4) ∧ k (.int (rnM M s b 0 57 (s).toNatClampNeg)) (rnM M s b 0) else (shOK s ∧ ¬ n < 0 ∧ ¬ 40 < n) ∧ (0 ≤ s.toInt ∧ s.toInt < 4) ∧ k (.int (rnM M s b n 57 (s).toNatClampNeg)) (rnM M s b n)) else k (.int (-1000001)) (tellM M 0)) else k (.int (-1000007)) (tellM M 6) := by
          by_cases hn : n < 0
          · rw [if_pos hn] at h
            rw [if_neg (fun z => Int32.not_lt.mpr z hn)]
            exact h
          · rw [if_neg hn] at h
            rw [if_pos (Int32.not_lt.mp hn)]
            by_cases hn2 : 40 < n
            · rw [if_pos hn2] at h
              rw [if_neg (fun z => Int32.not_lt.mpr z hn2)]
              exact h
            · rw [if_neg hn2] at h
              rw [if_pos (Int32.not_lt.mp hn2)]
              by_cases e0 : b = 0
              · rw [if_pos e0] at h
                rw [if_pos e0, hrn]
                exact ⟨⟨h1, by decide, by decide⟩, hb0, h⟩
              · rw [if_neg e0] at h
                rw [if_neg e0, hrn]
                exact ⟨⟨h1, hn, hn2⟩, hb0, h⟩
        rcases hbb with e0 | ⟨e0, e1 | ⟨e1, e2 | ⟨e2, e3⟩⟩⟩
        · rw [if_pos e0]; exact G
        · rw [if_neg e0, if_pos e1]; exact G
        · rw [if_neg e0, if_neg e1, if_pos e2]; exact G
        · rw [if_neg e0, if_neg e1, if_neg e2, if_pos e3]; exact G
      · have e : ¬ b = 0 ∧ ¬ b = 8 ∧ ¬ b = 16 ∧ ¬ b = 32 := by
          refine ⟨fun z => hb (Or.inl z), fun z => hb (Or.inr (Or.inl z)), fun z => hb (Or.inr (Or.inr (Or.inl z))), fun z => hb (Or.inr (Or.inr (Or.inr z)))⟩
        rw [if_neg (fun z => hb z.2)] at h
        simp only [e.1, e.2.1, e.2.2.1, e.2.2.2, if_false]
        exact h
    · rw [if_neg (fun z => h1 z.1)] at h
      rw [if_neg h1]
      exact h

theorem s_X6_sheet {d : Nat} (hd : 3 ≤ d) : Snd d 93 pf_X6_sheet := by
  intro args M k h
  unfold pf_X6_sheet at h
  split at h
  · exact c_X6_sheet hd h
  · exact h.elim
