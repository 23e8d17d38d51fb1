/-! X: read, whole -/
theorem stepM_o {M : Mem} {b : Int32} {i p : Nat} (h : p < 44 ∨ p = 45 ∨ 49 < p) : stepM M b i p = M p := by
  unfold stepM gwL
  split
  · rfl
  · rw [gwM_o (by omega) (by omega)]
    split
    · rfl
    · rw [bgM_o (by omega) (by omega) (by omega) (by omega) (by omega)]
theorem spM_o : ∀ (n i : Nat) (b : Int32) (M : Mem) (p : Nat), (p < 44 ∨ p = 45 ∨ 49 < p) → spM n i b M p = M p := by
  intro n
  induction n with
  | zero => intro i b M p _; rfl
  | succ n ih =>
    intro i b M p h
    rw [spM, ih _ _ _ _ h, stepM_o h]
theorem splM_o {M : Mem} {N p : Nat} (h : p < 44 ∨ p = 45 ∨ 49 < p) : splM M N p = M p := by
  unfold splM
  rw [bgM_o (by omega) (by omega) (by omega) (by omega) (by omega), spM_o _ _ _ _ _ h]
  unfold mset
  rw [mrow_n (bq (by omega))]
theorem nwM_o : ∀ (n i : Nat) (M : Mem) (p : Nat), p ≠ 49 → nwM n i M p = M p := by
  intro n
  induction n with
  | zero => intro i M p _; rfl
  | succ n ih =>
    intro i M p h
    rw [nwM, ih _ _ _ h]
    split
    · unfold mset
      rw [mrow_n (bq h)]
    · rfl
/-- the tokens, the words named -/
def tkM (M : Mem) (N : Nat) : Mem := nwM (splM M N 44 6).toNatClampNeg 0 (splM M N)
theorem tkM_o {M : Mem} {N p : Nat} (h : p < 44 ∨ p = 45 ∨ 49 < p) : tkM M N p = M p := by
  unfold tkM
  rw [nwM_o _ _ _ _ (by omega), splM_o h]
def rdP (M : Mem) (N : Nat) : Int32 × Mem := rdF 120 1 (lkM (tkM M N) 0)
def pf_X3_read : PF := fun args M k => match args with
  | [.ref o, .ref b] => ((o = 44 ∧ b = 15) ∧ (∃ N, M 44 1 = nI N ∧ N ≤ 120) ∧ w6 M) ∧ (k (.int (rdP M (M 44 1).toNatClampNeg).1) (rdP M (M 44 1).toNatClampNeg).2)
  | _ => False
theorem pe_X3_read {o : Nat} {b : Nat} {M : Mem} {k : Value → Mem → Prop} : pf_X3_read [.ref o, .ref b] M k = (((o = 44 ∧ b = 15) ∧ (∃ N, M 44 1 = nI N ∧ N ≤ 120) ∧ w6 M) ∧ (k (.int (rdP M (M 44 1).toNatClampNeg).1) (rdP M (M 44 1).toNatClampNeg).2)) := rfl
set_option maxRecDepth 100000 in
set_option maxHeartbeats 4000000 in
theorem c_X3_read {d : Nat} (hd : 7 ≤ d) {o : Nat} {b : Nat} {M : Mem} {k : Value → Mem → Prop} (h : ((o = 44 ∧ b = 15) ∧ (∃ N, M 44 1 = nI N ∧ N ≤ 120) ∧ w6 M) ∧ (k (.int (rdP M (M 44 1).toNatClampNeg).1) (rdP M (M 44 1).toNatClampNeg).2)) : CallP d 29 [.ref o, .ref b] M k := by
  obtain ⟨hp, h⟩ := h
  obtain ⟨d, rfl⟩ : ∃ d', d = d' + 1 := ⟨d - 1, by omega⟩
  obtain ⟨⟨rfl, rfl⟩, ⟨N, hN, hl⟩, hw⟩ := hp
  have eN : (M 44 1).toNatClampNeg = N := by rw [hN, nI_clamp (by omega)]
  rw [eN] at h
  obtain ⟨T, hT⟩ := spl_tkOK (M := M) hl
  have hT1 := hT.2.1
  refine enterV (n := 80) [(38, pf_X3_split), (42, pf_X3_nameWords), (31, pf_X3_look)] [15] mI_29 (by decide) (Nat.le_of_ble_eq_true rfl) (T_cons (s_X3_split (by omega)) (T_cons (s_X3_nameWords (by omega)) (T_cons (s_X3_look (by omega)) T_nil))) ?_
  rw [show lent 3 ([.ref 44, .ref 15] : List Value) = [.ref 44, .ref 15, .retAddr 0] from rfl]
  have x1 : (∃ N, M 44 1 = nI N ∧ N ≤ 120) = True := eq_true ⟨N, hN, hl⟩
  have x2 : (∃ T, tkOK (splM M N) T) = True := eq_true ⟨T, hT⟩
  simp only [dX3_read_0, dX3_read_1, dX3_read_4, dX3_read_5, dX3_read_8, dX3_read_9, dX3_read_10, dX3_read_13, dX3_read_14, dX3_read_15, dX3_read_16, dX3_read_18, dX3_read_21, dX3_read_22, dX3_read_23, dX3_read_26, dX3_read_29, dX3_read_30, dX3_read_31, dX3_read_34, dX3_read_35, dX3_read_36, dX3_read_37, dX3_read_40, dX3_read_41, dX3_read_44, dX3_read_45, dX3_read_46, dX3_read_47, dX3_read_50, dX3_read_51, dX3_read_54, dX3_read_55, dX3_read_56, dX3_read_59, dX3_read_60, dX3_read_61, dX3_read_62, dX3_read_63, dX3_read_66, dX3_read_67, dX3_read_68, dX3_read_71, dX3_read_74, dX3_read_77, dX3_read_78, dX3_read_79, dX3_read_82, dX3_read_83, cr_3_43, cr_3_46, cr_3_49, cr_3_53, cr_3_57, fr_3_34, fr_3_37, al_10, al_11, al_12, al_13, al_14, al_16, al_17, al_18, al_19, al_2, al_20, al_21, al_23, al_24, al_27, al_28, al_29, al_3, al_30, al_31, al_32, al_34, al_36, al_37, al_38, al_39, al_4, al_40, al_41, al_42, al_43, al_45, al_46, al_47, al_48, al_49, al_5, al_52, al_53, al_54, al_55, al_56, al_57, al_58, al_6, al_60, al_61, al_62, al_63, al_64, al_65, al_66, al_67, al_69, al_7, al_70, al_71, al_72, al_73, al_9, cat_i, cat_l, cat_r, cat_u, gf_2_7_44, gf_2_8_44, pcl_0, pcl_1, pcl_100, pcl_101, pcl_102, pcl_103, pcl_104, pcl_105, pcl_106, pcl_107, pcl_108, pcl_109, pcl_110, pcl_111, pcl_112, pcl_15, pcl_22, pcl_25, pcl_26, pcl_33, pcl_44, pcl_50, pcl_59, pcl_8, pft_2_7, pft_2_8, rOK_i, rOK_z, v_aload_0, v_aload_1, v_bipush_121, v_getfield, v_goto, v_iadd, v_ic_eq, v_ic_ge, v_ic_ne, v_iconst_0, v_iconst_1, v_iconst_3, v_iconst_5, v_iconst_m1, v_if_ne, v_iinc_2, v_iload_2, v_invv, v_ireturn, v_istore_2, v_isub, vcV_1_2, vcV_2_2, vgf_i, vgf_r, vgf_s, vc_d, rr_0, rr_1, csT_h, csT_t, csT_n, bI_0, bI_1, bI_z, bT, List.mem_cons, List.not_mem_nil, List.length_cons, List.length_nil, ite_not, ↓reduceIte, true_and, and_true, not_true_eq_false, not_false_eq_true, false_or, or_false, or_true, true_or, Nat.reduceAdd, Nat.reduceEqDiff, Nat.reduceBEq, Nat.reduceLeDiff, Nat.reduceLT, Nat.reduceSub, Int.reduceAdd, Int.reduceLE, Int.reduceLT, Int.reduceToNat, Int.reduceNeg, Int.reduceNatCast', reduceCtorEq, Int32.reduceOfInt, Int32.reduceOfNat, Int32.reduceToNatClampNeg, Int32.reduceToInt, i10, i01, pe_X3_split, pe_X3_nameWords, pe_X3_look, x1, x2, eN]
  refine lp_read (d := d) (by omega) (T := T) hT1 120 1 _ (by omega) ?_ ?_ h
  · show lkM (tkM M N) 0 44 6 = nI T
    unfold lkM
    rw [mset_s, upd_n (by decide), mset_s, upd_n (by decide), mset_s, upd_n (by decide)]
    unfold tkM
    rw [nwM_o _ _ _ _ (by decide)]
    exact hT.1
  · refine w6_o hw ?_
    show lkM (tkM M N) 0 15 6 = M 15 6
    rw [lkM_o (by decide), tkM_o (by decide)]
theorem s_X3_read {d : Nat} (hd : 7 ≤ d) : Snd d 29 pf_X3_read := by
  intro args M k h
  unfold pf_X3_read at h
  split at h
  · exact c_X3_read hd h
  · exact h.elim
