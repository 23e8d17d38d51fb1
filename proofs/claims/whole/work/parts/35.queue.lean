/-! X: the queue -/
theorem al36 : ∀ t, t < 7 → al (36 + t) = 12 := by decide +kernel
theorem goM_ne {M : Mem} {q p z : Nat} (h1 : z ≠ q) (h2 : z ≠ p) : goM M q p z = M z := by
  unfold goM mset
  rw [mrow_n (bq h1), mrow_n (bq h2)]
theorem goM_p {M : Mem} {q p : Nat} (h : p ≠ q) : goM M q p p = (goR M q p).2.2 := by
  unfold goM mset
  rw [mrow_n (bq h), mrow_s]
theorem wbM_ne {M : Mem} {q b z : Nat} {w : Int32} (h : z ≠ q) : wbM M q b w z = M z := by
  unfold wbM mset
  rw [mrow_n (bq h), mrow_n (bq h), mrow_n (bq h), mrow_n (bq h)]
/-- walker i of the queue's bridge over a row -/
def xq (M : Mem) (i : Nat) (r : Nat → Int32) : Nat × Int32 × (Nat → Int32) := wk (M 28 i) (M 30 i) (M 26 7) (M 29 i) r
def pf_X2_crosses : PF := fun args M k => match args with
  | [.ref o, .int w, .int e] => (o = 25 ∧ hasW M 26 w ∧ ¬ e < 0 ∧ ¬ 6 ≤ e) ∧ (∀ M', (∀ p, p ≠ 33 → p ≠ 37 + (e).toNatClampNeg → M' p = M p) → (∀ j, j < 12 → M' (37 + (e).toNatClampNeg) j = (xq M (w).toNatClampNeg (M (36 + (e).toNatClampNeg))).2.2 j) → k (.int (bI (¬ (xq M (w).toNatClampNeg (M (36 + (e).toNatClampNeg))).1 < 12))) M')
  | _ => False
theorem pe_X2_crosses {o : Nat} {w : Int32} {e : Int32} {M : Mem} {k : Value → Mem → Prop} : pf_X2_crosses [.ref o, .int w, .int e] M k = ((o = 25 ∧ hasW M 26 w ∧ ¬ e < 0 ∧ ¬ 6 ≤ e) ∧ (∀ M', (∀ p, p ≠ 33 → p ≠ 37 + (e).toNatClampNeg → M' p = M p) → (∀ j, j < 12 → M' (37 + (e).toNatClampNeg) j = (xq M (w).toNatClampNeg (M (36 + (e).toNatClampNeg))).2.2 j) → k (.int (bI (¬ (xq M (w).toNatClampNeg (M (36 + (e).toNatClampNeg))).1 < 12))) M')) := rfl
set_option maxRecDepth 100000 in
set_option maxHeartbeats 4000000 in
theorem c_X2_crosses {d : Nat} (hd : 3 ≤ d) {o : Nat} {w : Int32} {e : Int32} {M : Mem} {k : Value → Mem → Prop} (h : (o = 25 ∧ hasW M 26 w ∧ ¬ e < 0 ∧ ¬ 6 ≤ e) ∧ (∀ M', (∀ p, p ≠ 33 → p ≠ 37 + (e).toNatClampNeg → M' p = M p) → (∀ j, j < 12 → M' (37 + (e).toNatClampNeg) j = (xq M (w).toNatClampNeg (M (36 + (e).toNatClampNeg))).2.2 j) → k (.int (bI (¬ (xq M (w).toNatClampNeg (M (36 + (e).toNatClampNeg))).1 < 12))) M')) : CallP d 21 [.ref o, .int w, .int e] M k := by
  obtain ⟨hp, h⟩ := h
  obtain ⟨d, rfl⟩ : ∃ d', d = d' + 1 := ⟨d - 1, by omega⟩
  obtain ⟨rfl, hw, h1, h2⟩ := hp
  obtain ⟨t, ht, rfl⟩ := nI_of2 (M := 5) (n := 5) rfl h1 (by
    rw [Int32.le_iff_toInt_le] at h2 ⊢
    simp only [Int32.reduceToInt] at h2 ⊢
    omega)
  rw [nI_clamp (by omega)] at h
  · refine enterV (n := 80) [(52, pf_X5_become), (54, pf_X5_go)] [] mI_21 (by decide) (Nat.le_of_ble_eq_true rfl) (T_cons (s_X5_become (by omega)) (T_cons (s_X5_go (by omega)) T_nil)) ?_
    rw [show lent 3 ([.ref 25, .int w, .int (nI t)] : List Value) = [.ref 25, .int w, .int (nI t)] from rfl]
    have c2 : (nI t).toInt = t := nI_toInt (by omega)
    have c3 : (nI t).toNatClampNeg = t := nI_clamp (by omega)
    have c4 : (nI (t + 1)).toInt = (t + 1 : Nat) := nI_toInt (by omega)
    have c5 : (nI (t + 1)).toNatClampNeg = t + 1 := nI_clamp (by omega)
    have a1 := al36 t (by omega)
    have a2 := al36 (t + 1) (by omega)
    have hlt : nI t < 6 := Int32.not_le.mp h2
    have n1 : ∀ z, z < 36 → (z == 36 + (t + 1)) = false := fun z hz => bq (by omega)
    have m26 : ∀ f, mrow M (36 + (t + 1)) f 26 = M 26 := fun f => mrow_n (n1 26 (by decide))
    obtain ⟨w1, w2, w3⟩ := hw
    simp only [dX2_crosses_0, dX2_crosses_1, dX2_crosses_4, dX2_crosses_5, dX2_crosses_7, dX2_crosses_10, dX2_crosses_11, dX2_crosses_12, dX2_crosses_13, dX2_crosses_16, dX2_crosses_17, dX2_crosses_18, dX2_crosses_19, dX2_crosses_20, dX2_crosses_23, dX2_crosses_24, dX2_crosses_25, dX2_crosses_26, dX2_crosses_27, dX2_crosses_28, dX2_crosses_30, dX2_crosses_33, dX2_crosses_34, dX2_crosses_37, dX2_crosses_38, dX2_crosses_41, dX2_crosses_42, dX2_crosses_45, dX2_crosses_46, dX2_crosses_49, dX2_crosses_50, dX2_crosses_53, dX2_crosses_54, dX2_crosses_55, dX2_crosses_56, dX2_crosses_57, dX2_crosses_60, dX2_crosses_62, dX2_crosses_65, dX2_crosses_66, dX2_crosses_69, dX2_crosses_70, cr_2_59, cr_2_65, cr_2_68, fr_2_12, fr_2_21, fr_2_27, al_10, al_11, al_12, al_13, al_14, al_16, al_17, al_18, al_19, al_2, al_20, al_21, al_23, al_24, al_27, al_28, al_29, al_3, al_30, al_31, al_32, al_34, al_36, al_37, al_38, al_39, al_4, al_40, al_41, al_42, al_43, al_45, al_46, al_47, al_48, al_49, al_5, al_52, al_53, al_54, al_55, al_56, al_57, al_58, al_6, al_60, al_61, al_62, al_63, al_64, al_65, al_66, al_67, al_69, al_7, al_70, al_71, al_72, al_73, al_9, gf_1_0_25, gf_1_1_25, gf_1_2_25, pcl_0, pcl_1, pcl_100, pcl_101, pcl_102, pcl_103, pcl_104, pcl_105, pcl_106, pcl_107, pcl_108, pcl_109, pcl_110, pcl_111, pcl_112, pcl_15, pcl_22, pcl_25, pcl_26, pcl_33, pcl_44, pcl_50, pcl_59, pcl_8, rOK_i, rOK_z, ra_35, ra_51, ra_68, v_aaload, v_aload_0, v_bipush_12, v_bipush_6, v_getfield, v_goto, v_iadd, v_ic_lt, v_ic_ne, v_iconst_0, v_iconst_1, v_if_lt, v_iload_1, v_iload_2, v_invs, v_invv, v_ireturn, vaa_s, vcS_cp, vcV_2_4, vcV_3_4, vgf_i, vgf_r, vgf_s, vc_d, rr_0, rr_1, csT_h, csT_t, csT_n, bI_0, bI_1, bI_z, bT, List.mem_cons, List.not_mem_nil, List.length_cons, List.length_nil, ite_not, ↓reduceIte, true_and, and_true, not_true_eq_false, not_false_eq_true, false_or, or_false, or_true, true_or, Nat.reduceAdd, Nat.reduceEqDiff, Nat.reduceBEq, Nat.reduceLeDiff, Nat.reduceLT, Nat.reduceSub, Int.reduceAdd, Int.reduceLE, Int.reduceLT, Int.reduceToNat, Int.reduceNeg, Int.reduceNatCast', reduceCtorEq, Int32.reduceOfInt, Int32.reduceOfNat, Int32.reduceToNatClampNeg, Int32.reduceToInt, i10, i01, pe_X5_become, pe_X5_go, h1, hlt, c2, c3, c4, c5, nI_1, a1, a2, cpy0, w1, w2, w3, hasW, m26, reduceCtorEq, false_and]
    refine ⟨by omega, by omega, by omega, ?_⟩
    have key : ∀ N : Mem, N = wbM (mrow M (36 + (t + 1)) (cpN 12 (M (36 + t)) (M (36 + (t + 1))))) 33 26 w → (goR N 33 (36 + (t + 1))).1 = (xq M (w).toNatClampNeg (M (36 + t))).1 ∧ (∀ j, j < 12 → (goR N 33 (36 + (t + 1))).2.2 j = (xq M (w).toNatClampNeg (M (36 + t))).2.2 j) ∧ ∀ p, p ≠ 33 → p ≠ 37 + t → goM N 33 (36 + (t + 1)) p = M p := by
      intro N hN
      have f1 : N 33 1 = M 28 (w).toNatClampNeg := by
        rw [hN]; unfold wbM
        rw [mset_s, upd_n (by decide), mset_s, upd_n (by decide), mset_s, upd_n (by decide), mset_s, upd_s, mrow_n (n1 28 (by decide))]
      have f2 : N 33 2 = M 29 (w).toNatClampNeg := by
        rw [hN]; unfold wbM
        rw [mset_s, upd_n (by decide), mset_s, upd_n (by decide), mset_s, upd_s, mrow_n (n1 29 (by decide))]
      have f3 : N 33 3 = M 30 (w).toNatClampNeg := by
        rw [hN]; unfold wbM
        rw [mset_s, upd_n (by decide), mset_s, upd_s, mrow_n (n1 30 (by decide))]
      have f4 : N 33 4 = M 26 7 := by
        rw [hN]; unfold wbM
        rw [mset_s, upd_s, mrow_n (n1 26 (by decide))]
      have f5 : N (36 + (t + 1)) = cpN 12 (M (36 + t)) (M (36 + (t + 1))) := by
        rw [hN, wbM_ne (by omega), mrow_s]
      have hr : goR N 33 (36 + (t + 1)) = goF (M 28 (w).toNatClampNeg) (brs (M 28 (w).toNatClampNeg) (M 30 (w).toNatClampNeg) (M 26 7)) 12 0 (M 29 (w).toNatClampNeg) (cpN 12 (M (36 + t)) (M (36 + (t + 1)))) := by
        unfold goR
        rw [f1, f2, f3, f4, f5]
      have hc := goF_congr (kd := M 28 (w).toNatClampNeg) (bs := brs (M 28 (w).toNatClampNeg) (M 30 (w).toNatClampNeg) (M 26 7)) 12 0 (M 29 (w).toNatClampNeg) (cpN 12 (M (36 + t)) (M (36 + (t + 1)))) (M (36 + t)) (by decide) (fun j hj => cpN_lt hj)
      refine ⟨by rw [hr]; exact hc.1, fun j hj => by rw [hr]; exact hc.2.2 j hj, fun p p1 p2 => ?_⟩
      rw [goM_ne p1 (by omega), hN, wbM_ne p1, mrow_n (bq (by omega))]
    generalize hN : wbM (mrow M (36 + (t + 1)) (cpN 12 (M (36 + t)) (M (36 + (t + 1))))) 33 26 w = N
    obtain ⟨k1, k2, k3⟩ := key N hN.symm
    have h12 := eq12 (show (goR N 33 (36 + (t + 1))).1 ≤ 12 from goF_le 12 0 _ _)
    have := h (goM N 33 (36 + (t + 1))) k3 (fun j hj => by
      have e : goM N 33 (36 + (t + 1)) (37 + t) = (goR N 33 (36 + (t + 1))).2.2 := by
        rw [show 37 + t = 36 + (t + 1) by omega]
        exact goM_p (by omega)
      rw [e]
      exact k2 j hj)
    rw [← k1] at this
    by_cases hc : (goR N 33 (36 + (t + 1))).1 < 12
    · rw [bI_f (fun z => z hc)] at this
      rw [if_neg (by rw [h12]; exact fun z => z hc)]
      exact this
    · rw [bI_t hc] at this
      rw [if_pos (by rw [h12]; exact hc)]
      exact this

theorem s_X2_crosses {d : Nat} (hd : 3 ≤ d) : Snd d 21 pf_X2_crosses := by
  intro args M k h
  unfold pf_X2_crosses at h
  split at h
  · exact c_X2_crosses hd h
  · exact h.elim
