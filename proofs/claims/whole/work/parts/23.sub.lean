/-! X: what the acts share -/
theorem goF_congr {kd bs : Int32} : ∀ (n i : Nat) (g : Int32) (r s : Nat → Int32), i + n ≤ 12 → (∀ j, j < 12 → r j = s j) → (goF kd bs n i g r).1 = (goF kd bs n i g s).1 ∧ (goF kd bs n i g r).2.1 = (goF kd bs n i g s).2.1 ∧ ∀ j, j < 12 → (goF kd bs n i g r).2.2 j = (goF kd bs n i g s).2.2 j := by
  intro n
  induction n with
  | zero => intro i g r s hi h; exact ⟨rfl, rfl, h⟩
  | succ n ih =>
    intro i g r s hi h
    have e := h i (by omega)
    rw [goF, goF, e]
    split
    · refine ih (i + 1) _ _ _ (by omega) (fun j hj => ?_)
      unfold upd
      split
      · rfl
      · exact h j hj
    · exact ⟨rfl, rfl, h⟩
/-- a crossing of one of this kind, balance, gait over a row -/
def wk (kd bl nt g : Int32) (r : Nat → Int32) : Nat × Int32 × (Nat → Int32) := goF kd (brs kd bl nt) 12 0 g r
/-- walker i crosses now; with another gait -/
def xw (M : Mem) (i : Nat) : Nat × Int32 × (Nat → Int32) := wk (M 3 i) (M 5 i) (M 1 7) (M 4 i) (M 2)
def xwg (M : Mem) (i : Nat) (g : Int32) : Nat × Int32 × (Nat → Int32) := wk (M 3 i) (M 5 i) (M 1 7) g (M 2)
theorem goF_le {kd bs : Int32} : ∀ (n i : Nat) (g : Int32) (r : Nat → Int32), (goF kd bs n i g r).1 ≤ i + n := by
  intro n
  induction n with
  | zero => intro i g r; exact Nat.le_refl _
  | succ n ih =>
    intro i g r
    rw [goF]
    split
    · have := ih (i + 1) (hld (g + swy kd g (r i))) (upd r i (hld (ftp kd g (r i))))
      omega
    · show i ≤ _
      omega
theorem wk_le {kd bl nt g : Int32} {r : Nat → Int32} : (wk kd bl nt g r).1 ≤ 12 := goF_le 12 0 g r
theorem xw_le {M : Mem} {i : Nat} : (xw M i).1 ≤ 12 := wk_le
/-- the walker's row at 22 and the row at 23 are scratch -/
def jk (M : Mem) (a b : Nat → Int32) : Mem := mrow (mrow M 22 a) 23 b
theorem jk_22 {M : Mem} {a b : Nat → Int32} : jk M a b 22 = a := by simp [jk, mrow]
theorem jk_23 {M : Mem} {a b : Nat → Int32} : jk M a b 23 = b := by simp [jk, mrow]
theorem jk_n {M : Mem} {a b : Nat → Int32} {p : Nat} (h1 : (p == 22) = false) (h2 : (p == 23) = false) : jk M a b p = M p := by
  have h1 : p ≠ 22 := by simpa using h1
  have h2 : p ≠ 23 := by simpa using h2
  simp [jk, mrow, h1, h2]
theorem jk_jk {M : Mem} {a b a' b' : Nat → Int32} : jk (jk M a b) a' b' = jk M a' b' := by
  unfold jk
  rw [mrow_comm (p := 23) (q := 22) (by decide), mrow_mrow, mrow_mrow]
theorem jk_self {M : Mem} : jk M (M 22) (M 23) = M := by
  unfold jk
  rw [mrow_self, mrow_self]
theorem jk_m22 {M : Mem} {a b c : Nat → Int32} : mrow (jk M a b) 22 c = jk M c b := by
  unfold jk
  rw [mrow_comm (p := 23) (q := 22) (by decide), mrow_mrow]
theorem jk_m23 {M : Mem} {a b c : Nat → Int32} : mrow (jk M a b) 23 c = jk M a c := by
  unfold jk
  rw [mrow_mrow]
theorem xw_jk {M : Mem} {a b : Nat → Int32} {i : Nat} : xw (jk M a b) i = xw M i := by
  unfold xw
  rw [jk_n (by decide) (by decide), jk_n (by decide) (by decide), jk_n (by decide) (by decide), jk_n (by decide) (by decide), jk_n (by decide) (by decide)]
theorem xwg_jk {M : Mem} {a b : Nat → Int32} {i : Nat} {g : Int32} : xwg (jk M a b) i g = xwg M i g := by
  unfold xwg
  rw [jk_n (by decide) (by decide), jk_n (by decide) (by decide), jk_n (by decide) (by decide), jk_n (by decide) (by decide)]
theorem ge12 {n : Nat} (h : n ≤ 12) : (12 ≤ nI n) = ¬ n < 12 := by
  have : ((12 : Int32) ≤ nI n) ↔ 12 ≤ n := nI_leI (a := 12) (by decide) (by omega)
  rw [propext this]
  exact propext ⟨fun q => by omega, fun q => by omega⟩
theorem eq12 {n : Nat} (h : n ≤ 12) : (nI n = 12) = ¬ n < 12 := by
  have : (nI n = (12 : Int32)) ↔ n = 12 := nI_eq (b := 12) (by omega) (by decide)
  rw [propext this]
  exact propext ⟨fun q => by omega, fun q => by omega⟩
/-- what the walk at 22 is, once it has become walker w -/
def isW (M : Mem) (w : Int32) (a : Nat → Int32) : Prop := a 1 = M 3 (w).toNatClampNeg ∧ a 2 = M 4 (w).toNatClampNeg ∧ a 3 = M 5 (w).toNatClampNeg ∧ a 4 = M 1 7
def pf_X6_prepare : PF := fun args M k => match args with
  | [.ref o, .int w] => (o = 0 ∧ hasW M 1 w) ∧ (∀ a b, isW M w a → (∀ j, j < 12 → b j = M 2 j) → k (.int 0) (jk M a b))
  | _ => False
theorem pe_X6_prepare {o : Nat} {w : Int32} {M : Mem} {k : Value → Mem → Prop} : pf_X6_prepare [.ref o, .int w] M k = ((o = 0 ∧ hasW M 1 w) ∧ (∀ a b, isW M w a → (∀ j, j < 12 → b j = M 2 j) → k (.int 0) (jk M a b))) := rfl
set_option maxRecDepth 100000 in
set_option maxHeartbeats 4000000 in
theorem c_X6_prepare {d : Nat} (hd : 3 ≤ d) {o : Nat} {w : Int32} {M : Mem} {k : Value → Mem → Prop} (h : (o = 0 ∧ hasW M 1 w) ∧ (∀ a b, isW M w a → (∀ j, j < 12 → b j = M 2 j) → k (.int 0) (jk M a b))) : CallP d 115 [.ref o, .int w] M k := by
  obtain ⟨hp, h⟩ := h
  obtain ⟨d, rfl⟩ : ∃ d', d = d' + 1 := ⟨d - 1, by omega⟩
  obtain ⟨rfl, h1, h2, h3⟩ := hp
  · refine enterV (n := 80) [(52, pf_X5_become), (53, pf_X5_layRow)] [] mI_115 (by decide) (Nat.le_of_ble_eq_true rfl) (T_cons (s_X5_become (by omega)) (T_cons (s_X5_layRow (by omega)) T_nil)) ?_
    rw [show lent 2 ([.ref 0, .int w] : List Value) = [.ref 0, .int w] from rfl]
    simp only [dX6_prepare_0, dX6_prepare_1, dX6_prepare_4, dX6_prepare_5, dX6_prepare_8, dX6_prepare_9, dX6_prepare_12, dX6_prepare_13, dX6_prepare_16, dX6_prepare_17, dX6_prepare_20, dX6_prepare_23, dX6_prepare_26, cr_6_157, cr_6_286, fr_6_12, fr_6_25, fr_6_73, al_10, al_11, al_12, al_13, al_14, al_16, al_17, al_18, al_19, al_2, al_20, al_21, al_23, al_24, al_27, al_28, al_29, al_3, al_30, al_31, al_32, al_34, al_36, al_37, al_38, al_39, al_4, al_40, al_41, al_42, al_43, al_45, al_46, al_47, al_48, al_49, al_5, al_52, al_53, al_54, al_55, al_56, al_57, al_58, al_6, al_60, al_61, al_62, al_63, al_64, al_65, al_66, al_67, al_69, al_7, al_70, al_71, al_72, al_73, al_9, gf_0_0_1, gf_0_0_15, gf_0_0_26, gf_0_0_8, gf_5_0_0, gf_5_3_0, pcl_0, pcl_1, pcl_100, pcl_101, pcl_102, pcl_103, pcl_104, pcl_105, pcl_106, pcl_107, pcl_108, pcl_109, pcl_110, pcl_111, pcl_112, pcl_15, pcl_22, pcl_25, pcl_26, pcl_33, pcl_44, pcl_50, pcl_59, pcl_8, v_aload_0, v_getfield, v_iload_1, v_invv, v_return, vcV_2_4, vcV_3_4, vgf_i, vgf_r, vgf_s, vc_0, vc_s, rr_0, rr_1, csT_h, csT_t, csT_n, bI_0, bI_1, bI_z, bT, List.mem_cons, List.not_mem_nil, List.length_cons, List.length_nil, ite_not, reduceIte, true_and, and_true, not_true_eq_false, not_false_eq_true, false_or, or_false, or_true, true_or, Nat.reduceAdd, Nat.reduceEqDiff, Nat.reduceBEq, Nat.reduceLeDiff, Nat.reduceLT, Nat.reduceSub, Int.reduceAdd, Int.reduceLE, Int.reduceLT, Int.reduceToNat, Int.reduceNeg, Int.reduceNatCast', reduceCtorEq, Int32.reduceOfInt, Int32.reduceOfNat, Int32.reduceToNatClampNeg, Int32.reduceToInt, i10, i01, pe_X5_become, pe_X5_layRow, h1, h2, h3, hasW, reduceCtorEq, false_and]
    have := h (wbM M 22 1 w 22) (cpN 12 (M 2) (M 23)) ⟨rfl, rfl, rfl, rfl⟩ (fun j hj => cpN_lt hj)
    have e : mrow (wbM M 22 1 w) 23 (cpN 12 (wbM M 22 1 w 2) (wbM M 22 1 w 23)) = jk M (wbM M 22 1 w 22) (cpN 12 (M 2) (M 23)) := by
      unfold wbM
      simp only [mset, mrow_s, mrow_n, mrow_mrow, mrow_comm, upd_s, upd_n, Nat.reduceBEq, jk]
    rw [e]
    exact this

theorem s_X6_prepare {d : Nat} (hd : 3 ≤ d) : Snd d 115 pf_X6_prepare := by
  intro args M k h
  unfold pf_X6_prepare at h
  split at h
  · exact c_X6_prepare hd h
  · exact h.elim
def pf_X6_tryWalk : PF := fun args M k => match args with
  | [.ref o, .int w] => (o = 0 ∧ hasW M 1 w) ∧ (∀ a b, a 2 = (if (xw M (w).toNatClampNeg).1 < 12 then M 4 (w).toNatClampNeg else (xw M (w).toNatClampNeg).2.1) → (∀ j, j < 12 → b j = (xw M (w).toNatClampNeg).2.2 j) → k (.int (nI (xw M (w).toNatClampNeg).1)) (jk M a b))
  | _ => False
theorem pe_X6_tryWalk {o : Nat} {w : Int32} {M : Mem} {k : Value → Mem → Prop} : pf_X6_tryWalk [.ref o, .int w] M k = ((o = 0 ∧ hasW M 1 w) ∧ (∀ a b, a 2 = (if (xw M (w).toNatClampNeg).1 < 12 then M 4 (w).toNatClampNeg else (xw M (w).toNatClampNeg).2.1) → (∀ j, j < 12 → b j = (xw M (w).toNatClampNeg).2.2 j) → k (.int (nI (xw M (w).toNatClampNeg).1)) (jk M a b))) := rfl
set_option maxRecDepth 100000 in
set_option maxHeartbeats 4000000 in
theorem c_X6_tryWalk {d : Nat} (hd : 4 ≤ d) {o : Nat} {w : Int32} {M : Mem} {k : Value → Mem → Prop} (h : (o = 0 ∧ hasW M 1 w) ∧ (∀ a b, a 2 = (if (xw M (w).toNatClampNeg).1 < 12 then M 4 (w).toNatClampNeg else (xw M (w).toNatClampNeg).2.1) → (∀ j, j < 12 → b j = (xw M (w).toNatClampNeg).2.2 j) → k (.int (nI (xw M (w).toNatClampNeg).1)) (jk M a b))) : CallP d 116 [.ref o, .int w] M k := by
  obtain ⟨hp, h⟩ := h
  obtain ⟨d, rfl⟩ : ∃ d', d = d' + 1 := ⟨d - 1, by omega⟩
  obtain ⟨rfl, hw⟩ := hp
  · refine enterV (n := 80) [(115, pf_X6_prepare), (54, pf_X5_go)] [] mI_116 (by decide) (Nat.le_of_ble_eq_true rfl) (T_cons (s_X6_prepare (by omega)) (T_cons (s_X5_go (by omega)) T_nil)) ?_
    rw [show lent 2 ([.ref 0, .int w] : List Value) = [.ref 0, .int w] from rfl]
    simp only [dX6_tryWalk_0, dX6_tryWalk_1, dX6_tryWalk_2, dX6_tryWalk_5, dX6_tryWalk_6, dX6_tryWalk_9, dX6_tryWalk_10, dX6_tryWalk_13, dX6_tryWalk_16, dX6_tryWalk_19, cr_6_161, cr_6_165, fr_6_154, fr_6_25, al_10, al_11, al_12, al_13, al_14, al_16, al_17, al_18, al_19, al_2, al_20, al_21, al_23, al_24, al_27, al_28, al_29, al_3, al_30, al_31, al_32, al_34, al_36, al_37, al_38, al_39, al_4, al_40, al_41, al_42, al_43, al_45, al_46, al_47, al_48, al_49, al_5, al_52, al_53, al_54, al_55, al_56, al_57, al_58, al_6, al_60, al_61, al_62, al_63, al_64, al_65, al_66, al_67, al_69, al_7, al_70, al_71, al_72, al_73, al_9, gf_4_0_22, gf_4_0_33, gf_5_3_0, pcl_0, pcl_1, pcl_100, pcl_101, pcl_102, pcl_103, pcl_104, pcl_105, pcl_106, pcl_107, pcl_108, pcl_109, pcl_110, pcl_111, pcl_112, pcl_15, pcl_22, pcl_25, pcl_26, pcl_33, pcl_44, pcl_50, pcl_59, pcl_8, rOK_i, rOK_z, v_aload_0, v_getfield, v_iload_1, v_invv, v_ireturn, vcV_2_4, vcV_2_5, vgf_i, vgf_r, vgf_s, vc_0, vc_s, rr_0, rr_1, csT_h, csT_t, csT_n, bI_0, bI_1, bI_z, bT, List.mem_cons, List.not_mem_nil, List.length_cons, List.length_nil, ite_not, reduceIte, true_and, and_true, not_true_eq_false, not_false_eq_true, false_or, or_false, or_true, true_or, Nat.reduceAdd, Nat.reduceEqDiff, Nat.reduceBEq, Nat.reduceLeDiff, Nat.reduceLT, Nat.reduceSub, Int.reduceAdd, Int.reduceLE, Int.reduceLT, Int.reduceToNat, Int.reduceNeg, Int.reduceNatCast', reduceCtorEq, Int32.reduceOfInt, Int32.reduceOfNat, Int32.reduceToNatClampNeg, Int32.reduceToInt, i10, i01, pe_X6_prepare, pe_X5_go, hw, hasW, reduceCtorEq, false_and]
    intro a b ⟨a1, a2, a3, a4⟩ hb
    have hc := goF_congr (kd := M 3 (w).toNatClampNeg) (bs := brs (M 3 (w).toNatClampNeg) (M 5 (w).toNatClampNeg) (M 1 7)) 12 0 (M 4 (w).toNatClampNeg) b (M 2) (by decide) hb
    have hr : goR (jk M a b) 22 23 = goF (M 3 (w).toNatClampNeg) (brs (M 3 (w).toNatClampNeg) (M 5 (w).toNatClampNeg) (M 1 7)) 12 0 (M 4 (w).toNatClampNeg) b := by
      unfold goR
      rw [jk_22, jk_23, a1, a2, a3, a4]
    have hm : goM (jk M a b) 22 23 = jk M (upd a 2 (if (goR (jk M a b) 22 23).1 < 12 then a 2 else (goR (jk M a b) 22 23).2.1)) (goR (jk M a b) 22 23).2.2 := by
      unfold goM mset
      rw [jk_m23, jk_22, jk_m22, jk_22]
    rw [hm, hr]
    have h0 := h (upd a 2 (if (goF (M 3 (w).toNatClampNeg) (brs (M 3 (w).toNatClampNeg) (M 5 (w).toNatClampNeg) (M 1 7)) 12 0 (M 4 (w).toNatClampNeg) b).1 < 12 then a 2 else (goF (M 3 (w).toNatClampNeg) (brs (M 3 (w).toNatClampNeg) (M 5 (w).toNatClampNeg) (M 1 7)) 12 0 (M 4 (w).toNatClampNeg) b).2.1)) (goF (M 3 (w).toNatClampNeg) (brs (M 3 (w).toNatClampNeg) (M 5 (w).toNatClampNeg) (M 1 7)) 12 0 (M 4 (w).toNatClampNeg) b).2.2 (by rw [upd_s, hc.1, hc.2.1, a2]; rfl) hc.2.2
    have e : (xw M (w).toNatClampNeg).1 = (goF (M 3 (w).toNatClampNeg) (brs (M 3 (w).toNatClampNeg) (M 5 (w).toNatClampNeg) (M 1 7)) 12 0 (M 4 (w).toNatClampNeg) b).1 := hc.1.symm
    rw [e] at h0
    exact h0

theorem s_X6_tryWalk {d : Nat} (hd : 4 ≤ d) : Snd d 116 pf_X6_tryWalk := by
  intro args M k h
  unfold pf_X6_tryWalk at h
  split at h
  · exact c_X6_tryWalk hd h
  · exact h.elim
def pf_X6_tryGait : PF := fun args M k => match args with
  | [.ref o, .int w, .int g] => (o = 0 ∧ hasW M 1 w) ∧ (∀ a b, (∀ j, j < 12 → b j = (xwg M (w).toNatClampNeg g).2.2 j) → k (.int (nI (xwg M (w).toNatClampNeg g).1)) (jk M a b))
  | _ => False
theorem pe_X6_tryGait {o : Nat} {w : Int32} {g : Int32} {M : Mem} {k : Value → Mem → Prop} : pf_X6_tryGait [.ref o, .int w, .int g] M k = ((o = 0 ∧ hasW M 1 w) ∧ (∀ a b, (∀ j, j < 12 → b j = (xwg M (w).toNatClampNeg g).2.2 j) → k (.int (nI (xwg M (w).toNatClampNeg g).1)) (jk M a b))) := rfl
set_option maxRecDepth 100000 in
set_option maxHeartbeats 4000000 in
theorem c_X6_tryGait {d : Nat} (hd : 4 ≤ d) {o : Nat} {w : Int32} {g : Int32} {M : Mem} {k : Value → Mem → Prop} (h : (o = 0 ∧ hasW M 1 w) ∧ (∀ a b, (∀ j, j < 12 → b j = (xwg M (w).toNatClampNeg g).2.2 j) → k (.int (nI (xwg M (w).toNatClampNeg g).1)) (jk M a b))) : CallP d 117 [.ref o, .int w, .int g] M k := by
  obtain ⟨hp, h⟩ := h
  obtain ⟨d, rfl⟩ : ∃ d', d = d' + 1 := ⟨d - 1, by omega⟩
  obtain ⟨rfl, hw⟩ := hp
  · refine enterV (n := 80) [(115, pf_X6_prepare), (54, pf_X5_go)] [] mI_117 (by decide) (Nat.le_of_ble_eq_true rfl) (T_cons (s_X6_prepare (by omega)) (T_cons (s_X5_go (by omega)) T_nil)) ?_
    rw [show lent 3 ([.ref 0, .int w, .int g] : List Value) = [.ref 0, .int w, .int g] from rfl]
    simp only [dX6_tryGait_0, dX6_tryGait_1, dX6_tryGait_2, dX6_tryGait_5, dX6_tryGait_6, dX6_tryGait_9, dX6_tryGait_10, dX6_tryGait_13, dX6_tryGait_14, dX6_tryGait_17, dX6_tryGait_18, dX6_tryGait_21, dX6_tryGait_24, dX6_tryGait_27, cr_6_161, cr_6_165, fr_6_151, fr_6_154, fr_6_25, al_10, al_11, al_12, al_13, al_14, al_16, al_17, al_18, al_19, al_2, al_20, al_21, al_23, al_24, al_27, al_28, al_29, al_3, al_30, al_31, al_32, al_34, al_36, al_37, al_38, al_39, al_4, al_40, al_41, al_42, al_43, al_45, al_46, al_47, al_48, al_49, al_5, al_52, al_53, al_54, al_55, al_56, al_57, al_58, al_6, al_60, al_61, al_62, al_63, al_64, al_65, al_66, al_67, al_69, al_7, al_70, al_71, al_72, al_73, al_9, gf_4_0_22, gf_4_0_33, gf_4_2_22, gf_4_2_33, gf_5_3_0, pcl_0, pcl_1, pcl_100, pcl_101, pcl_102, pcl_103, pcl_104, pcl_105, pcl_106, pcl_107, pcl_108, pcl_109, pcl_110, pcl_111, pcl_112, pcl_15, pcl_22, pcl_25, pcl_26, pcl_33, pcl_44, pcl_50, pcl_59, pcl_8, pft_4_2, rOK_i, rOK_z, v_aload_0, v_getfield, v_iload_1, v_iload_2, v_invv, v_ireturn, v_putfield, vcV_2_4, vcV_2_5, vgf_i, vgf_r, vgf_s, vpf_s, vc_0, vc_s, rr_0, rr_1, csT_h, csT_t, csT_n, bI_0, bI_1, bI_z, bT, List.mem_cons, List.not_mem_nil, List.length_cons, List.length_nil, ite_not, reduceIte, true_and, and_true, not_true_eq_false, not_false_eq_true, false_or, or_false, or_true, true_or, Nat.reduceAdd, Nat.reduceEqDiff, Nat.reduceBEq, Nat.reduceLeDiff, Nat.reduceLT, Nat.reduceSub, Int.reduceAdd, Int.reduceLE, Int.reduceLT, Int.reduceToNat, Int.reduceNeg, Int.reduceNatCast', reduceCtorEq, Int32.reduceOfInt, Int32.reduceOfNat, Int32.reduceToNatClampNeg, Int32.reduceToInt, i10, i01, pe_X6_prepare, pe_X5_go, hw, hasW, reduceCtorEq, false_and]
    intro a b ⟨a1, a2, a3, a4⟩ hb
    have hc := goF_congr (kd := M 3 (w).toNatClampNeg) (bs := brs (M 3 (w).toNatClampNeg) (M 5 (w).toNatClampNeg) (M 1 7)) 12 0 g b (M 2) (by decide) hb
    have e0 : mset (jk M a b) 22 2 g = jk M (upd a 2 g) b := by
      unfold mset
      rw [jk_22, jk_m22]
    rw [e0]
    have hr : goR (jk M (upd a 2 g) b) 22 23 = goF (M 3 (w).toNatClampNeg) (brs (M 3 (w).toNatClampNeg) (M 5 (w).toNatClampNeg) (M 1 7)) 12 0 g b := by
      unfold goR
      rw [jk_22, jk_23, upd_s, upd_n (by decide), upd_n (by decide), upd_n (by decide), a1, a3, a4]
    have hm : goM (jk M (upd a 2 g) b) 22 23 = jk M (upd (upd a 2 g) 2 (if (goR (jk M (upd a 2 g) b) 22 23).1 < 12 then upd a 2 g 2 else (goR (jk M (upd a 2 g) b) 22 23).2.1)) (goR (jk M (upd a 2 g) b) 22 23).2.2 := by
      unfold goM mset
      rw [jk_m23, jk_22, jk_m22, jk_22]
    rw [hm, hr]
    have h0 := h (upd (upd a 2 g) 2 (if (goF (M 3 (w).toNatClampNeg) (brs (M 3 (w).toNatClampNeg) (M 5 (w).toNatClampNeg) (M 1 7)) 12 0 g b).1 < 12 then upd a 2 g 2 else (goF (M 3 (w).toNatClampNeg) (brs (M 3 (w).toNatClampNeg) (M 5 (w).toNatClampNeg) (M 1 7)) 12 0 g b).2.1)) (goF (M 3 (w).toNatClampNeg) (brs (M 3 (w).toNatClampNeg) (M 5 (w).toNatClampNeg) (M 1 7)) 12 0 g b).2.2 hc.2.2
    have e : (xwg M (w).toNatClampNeg g).1 = (goF (M 3 (w).toNatClampNeg) (brs (M 3 (w).toNatClampNeg) (M 5 (w).toNatClampNeg) (M 1 7)) 12 0 g b).1 := hc.1.symm
    rw [e] at h0
    exact h0

theorem s_X6_tryGait {d : Nat} (hd : 4 ≤ d) : Snd d 117 pf_X6_tryGait := by
  intro args M k h
  unfold pf_X6_tryGait at h
  split at h
  · exact c_X6_tryGait hd h
  · exact h.elim
def sumF (r : Nat → Int32) : Nat → Nat → Int32 → Int32
  | 0, _, s => s
  | n + 1, i, s => sumF r n (i + 1) (s + r i)
set_option maxRecDepth 100000 in
set_option maxHeartbeats 4000000 in
theorem lp_sum {d : Nat} {M : Mem} {k : Value → Mem → Prop} {p m : Nat} (hal : 0 < al p) (h31 : al p < 2 ^ 31) (hm : m ≤ al p) : ∀ (n i : Nat) (s : Int32), i + n = m → k (.int (sumF (M p) n i s)) M → WP (6, yX6_sum, cX6_sum, 4, (some .int)) (d + 1) k 4 [.ref p, .int (nI m), .int s, .int (nI i)] [] M := by
  have hra := al_ra hal
  have h90 : (p = 90) = False := eq_false (al_ne hal al_90)
  intro n
  induction n with
  | zero =>
    intro i s hi h
    have : i = m := by omega
    subst this
    refine goV (n := 80) [] [4] T_nil ?_
    simp only [dX6_sum_0, dX6_sum_1, dX6_sum_2, dX6_sum_3, dX6_sum_4, dX6_sum_5, dX6_sum_6, dX6_sum_9, dX6_sum_10, dX6_sum_11, dX6_sum_12, dX6_sum_15, dX6_sum_16, dX6_sum_17, dX6_sum_18, dX6_sum_19, dX6_sum_20, dX6_sum_21, dX6_sum_24, dX6_sum_27, dX6_sum_28, al_10, al_11, al_12, al_13, al_14, al_16, al_17, al_18, al_19, al_2, al_20, al_21, al_23, al_24, al_27, al_28, al_29, al_3, al_30, al_31, al_32, al_34, al_36, al_37, al_38, al_39, al_4, al_40, al_41, al_42, al_43, al_45, al_46, al_47, al_48, al_49, al_5, al_52, al_53, al_54, al_55, al_56, al_57, al_58, al_6, al_60, al_61, al_62, al_63, al_64, al_65, al_66, al_67, al_69, al_7, al_70, al_71, al_72, al_73, al_9, cat_i, cat_l, cat_r, cat_u, rOK_i, rOK_z, ran_10, ran_11, ran_12, ran_13, ran_14, ran_16, ran_17, ran_18, ran_19, ran_2, ran_20, ran_21, ran_23, ran_24, ran_27, ran_28, ran_29, ran_3, ran_30, ran_31, ran_32, ran_34, ran_36, ran_37, ran_38, ran_39, ran_4, ran_40, ran_41, ran_42, ran_43, ran_45, ran_46, ran_47, ran_48, ran_49, ran_5, ran_52, ran_53, ran_54, ran_55, ran_56, ran_57, ran_58, ran_6, ran_60, ran_61, ran_62, ran_63, ran_64, ran_65, ran_66, ran_67, ran_69, ran_7, ran_70, ran_71, ran_72, ran_73, ran_9, v_aload_0, v_arraylength, v_goto, v_iadd, v_iaload, v_ic_ge, v_iconst_0, v_iinc_3, v_iload_1, v_iload_2, v_iload_3, v_ireturn, v_istore_2, v_istore_3, vln_n, vln_s, vc_0, vc_s, rr_0, rr_1, csT_h, csT_t, csT_n, bI_0, bI_1, bI_z, bT, List.mem_cons, List.not_mem_nil, List.length_cons, List.length_nil, ite_not, reduceIte, true_and, and_true, not_true_eq_false, not_false_eq_true, false_or, or_false, or_true, true_or, Nat.reduceAdd, Nat.reduceEqDiff, Nat.reduceBEq, Nat.reduceLeDiff, Nat.reduceLT, Nat.reduceSub, Int.reduceAdd, Int.reduceLE, Int.reduceLT, Int.reduceToNat, Int.reduceNeg, Int.reduceNatCast', reduceCtorEq, Int32.reduceOfInt, Int32.reduceOfNat, Int32.reduceToNatClampNeg, Int32.reduceToInt, i10, i01, show nI i ≤ nI i from nI_le (Nat.le_refl _) (by omega)]
    exact h
  | succ n ih =>
    intro i s hi h
    refine goV (n := 80) [] [4] T_nil ?_
    have c1 : ¬ nI m ≤ nI i := nI_ge (by omega) (by omega)
    have c4 : ¬ Int32.ofNat (al p) ≤ nI i := nI_ge (by omega) (by omega)
    have c2 : (nI i).toInt = i := nI_toInt (by omega)
    have c3 : (nI i).toNatClampNeg = i := nI_clamp (by omega)
    simp only [dX6_sum_0, dX6_sum_1, dX6_sum_2, dX6_sum_3, dX6_sum_4, dX6_sum_5, dX6_sum_6, dX6_sum_9, dX6_sum_10, dX6_sum_11, dX6_sum_12, dX6_sum_15, dX6_sum_16, dX6_sum_17, dX6_sum_18, dX6_sum_19, dX6_sum_20, dX6_sum_21, dX6_sum_24, dX6_sum_27, dX6_sum_28, al_10, al_11, al_12, al_13, al_14, al_16, al_17, al_18, al_19, al_2, al_20, al_21, al_23, al_24, al_27, al_28, al_29, al_3, al_30, al_31, al_32, al_34, al_36, al_37, al_38, al_39, al_4, al_40, al_41, al_42, al_43, al_45, al_46, al_47, al_48, al_49, al_5, al_52, al_53, al_54, al_55, al_56, al_57, al_58, al_6, al_60, al_61, al_62, al_63, al_64, al_65, al_66, al_67, al_69, al_7, al_70, al_71, al_72, al_73, al_9, cat_i, cat_l, cat_r, cat_u, rOK_i, rOK_z, ran_10, ran_11, ran_12, ran_13, ran_14, ran_16, ran_17, ran_18, ran_19, ran_2, ran_20, ran_21, ran_23, ran_24, ran_27, ran_28, ran_29, ran_3, ran_30, ran_31, ran_32, ran_34, ran_36, ran_37, ran_38, ran_39, ran_4, ran_40, ran_41, ran_42, ran_43, ran_45, ran_46, ran_47, ran_48, ran_49, ran_5, ran_52, ran_53, ran_54, ran_55, ran_56, ran_57, ran_58, ran_6, ran_60, ran_61, ran_62, ran_63, ran_64, ran_65, ran_66, ran_67, ran_69, ran_7, ran_70, ran_71, ran_72, ran_73, ran_9, v_aload_0, v_arraylength, v_goto, v_iadd, v_iaload, v_ic_ge, v_iconst_0, v_iinc_3, v_iload_1, v_iload_2, v_iload_3, v_ireturn, v_istore_2, v_istore_3, vln_n, vln_s, vc_0, vc_s, rr_0, rr_1, csT_h, csT_t, csT_n, bI_0, bI_1, bI_z, bT, List.mem_cons, List.not_mem_nil, List.length_cons, List.length_nil, ite_not, reduceIte, true_and, and_true, not_true_eq_false, not_false_eq_true, false_or, or_false, or_true, true_or, Nat.reduceAdd, Nat.reduceEqDiff, Nat.reduceBEq, Nat.reduceLeDiff, Nat.reduceLT, Nat.reduceSub, Int.reduceAdd, Int.reduceLE, Int.reduceLT, Int.reduceToNat, Int.reduceNeg, Int.reduceNatCast', reduceCtorEq, Int32.reduceOfInt, Int32.reduceOfNat, Int32.reduceToNatClampNeg, Int32.reduceToInt, i10, i01, c1, c2, c3, c4, nI_1, hra, h90, hal]
    exact ⟨by omega, ih (i + 1) _ (by omega) h⟩
def pf_X6_sum : PF := fun args M k => match args with
  | [.ref p, .int n] => ((al p = 12 ∨ al p = 6 ∨ al p = 7) ∧ ¬ n < 0 ∧ n.toInt ≤ al p) ∧ (k (.int (sumF (M p) (n).toNatClampNeg 0 0)) M)
  | _ => False
theorem pe_X6_sum {p : Nat} {n : Int32} {M : Mem} {k : Value → Mem → Prop} : pf_X6_sum [.ref p, .int n] M k = (((al p = 12 ∨ al p = 6 ∨ al p = 7) ∧ ¬ n < 0 ∧ n.toInt ≤ al p) ∧ (k (.int (sumF (M p) (n).toNatClampNeg 0 0)) M)) := rfl
set_option maxRecDepth 100000 in
set_option maxHeartbeats 4000000 in
theorem c_X6_sum {d : Nat} (hd : 1 ≤ d) {p : Nat} {n : Int32} {M : Mem} {k : Value → Mem → Prop} (h : ((al p = 12 ∨ al p = 6 ∨ al p = 7) ∧ ¬ n < 0 ∧ n.toInt ≤ al p) ∧ (k (.int (sumF (M p) (n).toNatClampNeg 0 0)) M)) : CallP d 111 [.ref p, .int n] M k := by
  obtain ⟨hp, h⟩ := h
  obtain ⟨d, rfl⟩ : ∃ d', d = d' + 1 := ⟨d - 1, by omega⟩
  obtain ⟨ha, h1, h2⟩ := hp
  obtain ⟨m, hm, rfl⟩ := nI_of h1
  rw [nI_toInt hm] at h2
  rw [nI_clamp hm] at h
  refine enterV (n := 80) [] [4] mI_111 (by decide) (Nat.le_of_ble_eq_true rfl) T_nil ?_
  rw [show lent 4 ([.ref p, .int (nI m)] : List Value) = [.ref p, .int (nI m), .retAddr 0, .retAddr 0] from rfl]
  simp only [dX6_sum_0, dX6_sum_1, dX6_sum_2, dX6_sum_3, dX6_sum_4, dX6_sum_5, dX6_sum_6, dX6_sum_9, dX6_sum_10, dX6_sum_11, dX6_sum_12, dX6_sum_15, dX6_sum_16, dX6_sum_17, dX6_sum_18, dX6_sum_19, dX6_sum_20, dX6_sum_21, dX6_sum_24, dX6_sum_27, dX6_sum_28, al_10, al_11, al_12, al_13, al_14, al_16, al_17, al_18, al_19, al_2, al_20, al_21, al_23, al_24, al_27, al_28, al_29, al_3, al_30, al_31, al_32, al_34, al_36, al_37, al_38, al_39, al_4, al_40, al_41, al_42, al_43, al_45, al_46, al_47, al_48, al_49, al_5, al_52, al_53, al_54, al_55, al_56, al_57, al_58, al_6, al_60, al_61, al_62, al_63, al_64, al_65, al_66, al_67, al_69, al_7, al_70, al_71, al_72, al_73, al_9, cat_i, cat_l, cat_r, cat_u, rOK_i, rOK_z, ran_10, ran_11, ran_12, ran_13, ran_14, ran_16, ran_17, ran_18, ran_19, ran_2, ran_20, ran_21, ran_23, ran_24, ran_27, ran_28, ran_29, ran_3, ran_30, ran_31, ran_32, ran_34, ran_36, ran_37, ran_38, ran_39, ran_4, ran_40, ran_41, ran_42, ran_43, ran_45, ran_46, ran_47, ran_48, ran_49, ran_5, ran_52, ran_53, ran_54, ran_55, ran_56, ran_57, ran_58, ran_6, ran_60, ran_61, ran_62, ran_63, ran_64, ran_65, ran_66, ran_67, ran_69, ran_7, ran_70, ran_71, ran_72, ran_73, ran_9, v_aload_0, v_arraylength, v_goto, v_iadd, v_iaload, v_ic_ge, v_iconst_0, v_iinc_3, v_iload_1, v_iload_2, v_iload_3, v_ireturn, v_istore_2, v_istore_3, vln_n, vln_s, vc_0, vc_s, rr_0, rr_1, csT_h, csT_t, csT_n, bI_0, bI_1, bI_z, bT, List.mem_cons, List.not_mem_nil, List.length_cons, List.length_nil, ite_not, reduceIte, true_and, and_true, not_true_eq_false, not_false_eq_true, false_or, or_false, or_true, true_or, Nat.reduceAdd, Nat.reduceEqDiff, Nat.reduceBEq, Nat.reduceLeDiff, Nat.reduceLT, Nat.reduceSub, Int.reduceAdd, Int.reduceLE, Int.reduceLT, Int.reduceToNat, Int.reduceNeg, Int.reduceNatCast', reduceCtorEq, Int32.reduceOfInt, Int32.reduceOfNat, Int32.reduceToNatClampNeg, Int32.reduceToInt, i10, i01]
  exact lp_sum (by omega) (by omega) (by omega) m 0 0 (by omega) h
theorem s_X6_sum {d : Nat} (hd : 1 ≤ d) : Snd d 111 pf_X6_sum := by
  intro args M k h
  unfold pf_X6_sum at h
  split at h
  · exact c_X6_sum hd h
  · exact h.elim
def pf_X6_replace : PF := fun args M k => match args with
  | [.ref p, .int i, .int v] => (al p = 6 ∧ ¬ i < 0 ∧ ¬ 6 ≤ i) ∧ (k (.int (M p (i).toNatClampNeg)) (mset M p (i).toNatClampNeg v))
  | _ => False
theorem pe_X6_replace {p : Nat} {i : Int32} {v : Int32} {M : Mem} {k : Value → Mem → Prop} : pf_X6_replace [.ref p, .int i, .int v] M k = ((al p = 6 ∧ ¬ i < 0 ∧ ¬ 6 ≤ i) ∧ (k (.int (M p (i).toNatClampNeg)) (mset M p (i).toNatClampNeg v))) := rfl
set_option maxRecDepth 100000 in
set_option maxHeartbeats 4000000 in
theorem c_X6_replace {d : Nat} (hd : 1 ≤ d) {p : Nat} {i : Int32} {v : Int32} {M : Mem} {k : Value → Mem → Prop} (h : (al p = 6 ∧ ¬ i < 0 ∧ ¬ 6 ≤ i) ∧ (k (.int (M p (i).toNatClampNeg)) (mset M p (i).toNatClampNeg v))) : CallP d 112 [.ref p, .int i, .int v] M k := by
  obtain ⟨hp, h⟩ := h
  obtain ⟨d, rfl⟩ : ∃ d', d = d' + 1 := ⟨d - 1, by omega⟩
  obtain ⟨ha, h1, h2⟩ := hp
  have hpos : 0 < al p := by omega
  have hra := al_ra hpos
  have h90 : (p = 90) = False := eq_false (al_ne hpos al_90)
  have h3 : i < 6 := Int32.not_le.mp h2
  refine enterV (n := 80) [] [] mI_112 (by decide) (Nat.le_of_ble_eq_true rfl) T_nil ?_
  rw [show lent 4 ([.ref p, .int i, .int v] : List Value) = [.ref p, .int i, .int v, .retAddr 0] from rfl]
  simp only [dX6_replace_0, dX6_replace_1, dX6_replace_4, dX6_replace_5, dX6_replace_6, dX6_replace_7, dX6_replace_10, dX6_replace_11, dX6_replace_12, dX6_replace_13, dX6_replace_14, dX6_replace_15, dX6_replace_16, dX6_replace_17, dX6_replace_18, dX6_replace_19, dX6_replace_20, dX6_replace_21, al_10, al_11, al_12, al_13, al_14, al_16, al_17, al_18, al_19, al_2, al_20, al_21, al_23, al_24, al_27, al_28, al_29, al_3, al_30, al_31, al_32, al_34, al_36, al_37, al_38, al_39, al_4, al_40, al_41, al_42, al_43, al_45, al_46, al_47, al_48, al_49, al_5, al_52, al_53, al_54, al_55, al_56, al_57, al_58, al_6, al_60, al_61, al_62, al_63, al_64, al_65, al_66, al_67, al_69, al_7, al_70, al_71, al_72, al_73, al_9, cat_i, cat_l, cat_r, cat_u, rOK_i, rOK_z, ran_10, ran_11, ran_12, ran_13, ran_14, ran_16, ran_17, ran_18, ran_19, ran_2, ran_20, ran_21, ran_23, ran_24, ran_27, ran_28, ran_29, ran_3, ran_30, ran_31, ran_32, ran_34, ran_36, ran_37, ran_38, ran_39, ran_4, ran_40, ran_41, ran_42, ran_43, ran_45, ran_46, ran_47, ran_48, ran_49, ran_5, ran_52, ran_53, ran_54, ran_55, ran_56, ran_57, ran_58, ran_6, ran_60, ran_61, ran_62, ran_63, ran_64, ran_65, ran_66, ran_67, ran_69, ran_7, ran_70, ran_71, ran_72, ran_73, ran_9, v_aload_0, v_arraylength, v_iaload, v_iastore, v_ic_lt, v_iconst_0, v_if_lt, v_iload_1, v_iload_2, v_iload_3, v_ireturn, v_istore_3, vln_n, vln_s, vc_0, vc_s, rr_0, rr_1, csT_h, csT_t, csT_n, bI_0, bI_1, bI_z, bT, List.mem_cons, List.not_mem_nil, List.length_cons, List.length_nil, ite_not, reduceIte, true_and, and_true, not_true_eq_false, not_false_eq_true, false_or, or_false, or_true, true_or, Nat.reduceAdd, Nat.reduceEqDiff, Nat.reduceBEq, Nat.reduceLeDiff, Nat.reduceLT, Nat.reduceSub, Int.reduceAdd, Int.reduceLE, Int.reduceLT, Int.reduceToNat, Int.reduceNeg, Int.reduceNatCast', reduceCtorEq, Int32.reduceOfInt, Int32.reduceOfNat, Int32.reduceToNatClampNeg, Int32.reduceToInt, i10, i01, ha, h1, h3, hra, h90]
  exact ⟨bd h1 h2 rfl, bd h1 h2 rfl, h⟩
theorem s_X6_replace {d : Nat} (hd : 1 ≤ d) : Snd d 112 pf_X6_replace := by
  intro args M k h
  unfold pf_X6_replace at h
  split at h
  · exact c_X6_replace hd h
  · exact h.elim
