/-! M: planks laid new, the best plank, loads, judging, copying -/
theorem rwQ_one {r ps : Nat → Int32} {t : Nat} {v : Int32} (ht : t < 12) : upd (rwQ r ps) (14 + t) v = rwQ r (upd ps t v) := by
  funext j
  unfold upd rwQ
  by_cases h1 : j = 14 + t
  · subst h1
    simp [ht]
    intro h
    omega
  · simp only [h1, if_false]
    by_cases h3 : 14 ≤ j ∧ j < 26
    · simp only [h3, and_self, if_true]
      rw [if_neg (by omega)]
    · simp only [h3, if_false]
theorem rwQ_congr {r p q : Nat → Int32} (h : ∀ j, j < 12 → p j = q j) : rwQ r p = rwQ r q := by
  funext j
  unfold rwQ
  by_cases h3 : 14 ≤ j ∧ j < 26
  · rw [if_pos h3, if_pos h3]
    exact h _ (by omega)
  · rw [if_neg h3, if_neg h3]
set_option maxRecDepth 100000 in
set_option maxHeartbeats 4000000 in
theorem lp_layNew {d : Nat} (hd : 1 ≤ d) {M : Mem} {k : Value → Mem → Prop} {s : Int32} {r : Nat → Int32} (h : k (.int 0) (mrow M 60 (rwQ r (layF s (plr r))))) : ∀ (n i : Nat) (ps : Nat → Int32), i + n = 12 → (∀ j, j < 12 → ps j = if j < i then layF s (plr r) j else plr r j) → WP (7, yX7_layNew, cX7_layNew, 3, none) (d + 1) k 2 [.ref 59, .int s, .int (nI i)] [] (mrow M 60 (rwQ r ps)) := by
  intro n
  induction n with
  | zero =>
    intro i ps hi hps
    have : i = 12 := by omega
    subst this
    have e : rwQ r ps = rwQ r (layF s (plr r)) := rwQ_congr (fun j hj => by rw [hps j hj, if_pos hj])
    refine goV (n := 80) [(131, pf_X7_has)] [2] (T_cons (s_X7_has hd) T_nil) ?_
    simp only [dX7_layNew_0, dX7_layNew_1, dX7_layNew_2, dX7_layNew_3, dX7_layNew_5, dX7_layNew_8, dX7_layNew_9, dX7_layNew_12, dX7_layNew_14, dX7_layNew_15, dX7_layNew_16, dX7_layNew_17, dX7_layNew_18, dX7_layNew_21, dX7_layNew_24, dX7_layNew_26, dX7_layNew_29, dX7_layNew_30, dX7_layNew_33, dX7_layNew_35, dX7_layNew_36, dX7_layNew_37, dX7_layNew_38, dX7_layNew_39, dX7_layNew_42, dX7_layNew_45, cr_7_155, fr_7_9, al_10, al_11, al_12, al_13, al_14, al_16, al_17, al_18, al_19, al_2, al_20, al_21, al_23, al_24, al_27, al_28, al_29, al_3, al_30, al_31, al_32, al_34, al_36, al_37, al_38, al_39, al_4, al_40, al_41, al_42, al_43, al_45, al_46, al_47, al_48, al_49, al_5, al_52, al_53, al_54, al_55, al_56, al_57, al_58, al_6, al_60, al_61, al_62, al_63, al_64, al_65, al_66, al_67, al_69, al_7, al_70, al_71, al_72, al_73, al_9, cat_i, cat_l, cat_r, cat_u, gf_6_0_59, v_aload_0, v_bipush_12, v_bipush_14, v_bipush_50, v_getfield, v_goto, v_iadd, v_iaload, v_iastore, v_ic_ge, v_iconst_0, v_if_eq, v_iinc_2, v_iload_1, v_iload_2, v_invs, v_istore_2, v_return, vcS_2_1, vgf_i, vgf_r, vgf_s, vc_d, rr_0, rr_1, csT_h, csT_t, csT_n, bI_0, bI_1, bI_z, bT, List.mem_cons, List.not_mem_nil, List.length_cons, List.length_nil, ite_not, ↓reduceIte, true_and, and_true, not_true_eq_false, not_false_eq_true, false_or, or_false, or_true, true_or, Nat.reduceAdd, Nat.reduceEqDiff, Nat.reduceBEq, Nat.reduceLeDiff, Nat.reduceLT, Nat.reduceSub, Int.reduceAdd, Int.reduceLE, Int.reduceLT, Int.reduceToNat, Int.reduceNeg, Int.reduceNatCast', reduceCtorEq, Int32.reduceOfInt, Int32.reduceOfNat, Int32.reduceToNatClampNeg, Int32.reduceToInt, i10, i01, nEM, show (12 : Int32) ≤ nI 12 from by decide]
    rw [e]
    exact h
  | succ n ih =>
    intro i ps hi hps
    have c1 : ¬ (12 : Int32) ≤ nI i := nI_ge (b := 12) (by omega) (by decide)
    have c2 : (nI (14 + i)).toInt = ((14 + i : Nat) : Int) := nI_toInt (by omega)
    have c3 : (nI (14 + i)).toNatClampNeg = 14 + i := nI_clamp (by omega)
    have e1 : ps i = plr r i := by rw [hps i (by omega), if_neg (Nat.lt_irrefl _)]
    refine goV (n := 80) [(131, pf_X7_has)] [2] (T_cons (s_X7_has hd) T_nil) ?_
    simp only [dX7_layNew_0, dX7_layNew_1, dX7_layNew_2, dX7_layNew_3, dX7_layNew_5, dX7_layNew_8, dX7_layNew_9, dX7_layNew_12, dX7_layNew_14, dX7_layNew_15, dX7_layNew_16, dX7_layNew_17, dX7_layNew_18, dX7_layNew_21, dX7_layNew_24, dX7_layNew_26, dX7_layNew_29, dX7_layNew_30, dX7_layNew_33, dX7_layNew_35, dX7_layNew_36, dX7_layNew_37, dX7_layNew_38, dX7_layNew_39, dX7_layNew_42, dX7_layNew_45, cr_7_155, fr_7_9, al_10, al_11, al_12, al_13, al_14, al_16, al_17, al_18, al_19, al_2, al_20, al_21, al_23, al_24, al_27, al_28, al_29, al_3, al_30, al_31, al_32, al_34, al_36, al_37, al_38, al_39, al_4, al_40, al_41, al_42, al_43, al_45, al_46, al_47, al_48, al_49, al_5, al_52, al_53, al_54, al_55, al_56, al_57, al_58, al_6, al_60, al_61, al_62, al_63, al_64, al_65, al_66, al_67, al_69, al_7, al_70, al_71, al_72, al_73, al_9, cat_i, cat_l, cat_r, cat_u, gf_6_0_59, v_aload_0, v_bipush_12, v_bipush_14, v_bipush_50, v_getfield, v_goto, v_iadd, v_iaload, v_iastore, v_ic_ge, v_iconst_0, v_if_eq, v_iinc_2, v_iload_1, v_iload_2, v_invs, v_istore_2, v_return, vcS_2_1, vgf_i, vgf_r, vgf_s, vc_d, rr_0, rr_1, csT_h, csT_t, csT_n, bI_0, bI_1, bI_z, bT, List.mem_cons, List.not_mem_nil, List.length_cons, List.length_nil, ite_not, ↓reduceIte, true_and, and_true, not_true_eq_false, not_false_eq_true, false_or, or_false, or_true, true_or, Nat.reduceAdd, Nat.reduceEqDiff, Nat.reduceBEq, Nat.reduceLeDiff, Nat.reduceLT, Nat.reduceSub, Int.reduceAdd, Int.reduceLE, Int.reduceLT, Int.reduceToNat, Int.reduceNeg, Int.reduceNatCast', reduceCtorEq, Int32.reduceOfInt, Int32.reduceOfNat, Int32.reduceToNatClampNeg, Int32.reduceToInt, i10, i01, nEM, pe_X7_has, c1, p14, c2, c3, nI_1, mset, mrow_s, mrow_mrow, Classical.not_not, rwQ_in (show i < 12 by omega), rwQ_one (show i < 12 by omega)]
    by_cases hc : (s >>> (nI i &&& 31)) &&& 1 = 0
    · rw [if_pos hc]
      refine ⟨by omega, by omega, ih (i + 1) _ (by omega) (fun j hj => ?_)⟩
      unfold upd
      by_cases e : j = i
      · subst e
        rw [if_pos rfl, if_pos (Nat.lt_succ_self _), layF, if_pos hc, e1]
      · rw [if_neg e, hps j hj]
        by_cases e2 : j < i
        · rw [if_pos e2, if_pos (by omega)]
        · rw [if_neg e2, if_neg (by omega)]
    · rw [if_neg hc]
      refine ⟨by omega, ih (i + 1) _ (by omega) (fun j hj => ?_)⟩
      unfold upd
      by_cases e : j = i
      · subst e
        rw [if_pos rfl, if_pos (Nat.lt_succ_self _), layF, if_neg hc]
      · rw [if_neg e, hps j hj]
        by_cases e2 : j < i
        · rw [if_pos e2, if_pos (by omega)]
        · rw [if_neg e2, if_neg (by omega)]
def pf_X7_layNew : PF := fun args M k => match args with
  | [.ref o, .int s] => (o = 59) ∧ (k (.int 0) (mrow M 60 (rwQ (M 60) (layF s (plr (M 60))))))
  | _ => False
theorem pe_X7_layNew {o : Nat} {s : Int32} {M : Mem} {k : Value → Mem → Prop} : pf_X7_layNew [.ref o, .int s] M k = ((o = 59) ∧ (k (.int 0) (mrow M 60 (rwQ (M 60) (layF s (plr (M 60))))))) := rfl
theorem le_X7_layNew {o : Nat} {s : Int32} : lent 3 ([.ref o, .int s] : List Value) = [.ref o, .int s, .retAddr 0] := rfl
set_option maxRecDepth 100000 in
set_option maxHeartbeats 4000000 in
theorem c_X7_layNew {d : Nat} (hd : 2 ≤ d) {o : Nat} {s : Int32} {M : Mem} {k : Value → Mem → Prop} (h : (o = 59) ∧ (k (.int 0) (mrow M 60 (rwQ (M 60) (layF s (plr (M 60))))))) : CallP d 183 [.ref o, .int s] M k := by
  obtain ⟨hp, h⟩ := h
  obtain ⟨d, rfl⟩ : ∃ d', d = d' + 1 := ⟨d - 1, by omega⟩
  obtain rfl := hp
  · refine enterV (n := 80) [] [2] mI_183 (by decide) (Nat.le_of_ble_eq_true rfl) T_nil ?_
    rw [le_X7_layNew]
    simp only [dX7_layNew_0, dX7_layNew_1, dX7_layNew_2, dX7_layNew_3, dX7_layNew_5, dX7_layNew_8, dX7_layNew_9, dX7_layNew_12, dX7_layNew_14, dX7_layNew_15, dX7_layNew_16, dX7_layNew_17, dX7_layNew_18, dX7_layNew_21, dX7_layNew_24, dX7_layNew_26, dX7_layNew_29, dX7_layNew_30, dX7_layNew_33, dX7_layNew_35, dX7_layNew_36, dX7_layNew_37, dX7_layNew_38, dX7_layNew_39, dX7_layNew_42, dX7_layNew_45, cr_7_155, fr_7_9, al_10, al_11, al_12, al_13, al_14, al_16, al_17, al_18, al_19, al_2, al_20, al_21, al_23, al_24, al_27, al_28, al_29, al_3, al_30, al_31, al_32, al_34, al_36, al_37, al_38, al_39, al_4, al_40, al_41, al_42, al_43, al_45, al_46, al_47, al_48, al_49, al_5, al_52, al_53, al_54, al_55, al_56, al_57, al_58, al_6, al_60, al_61, al_62, al_63, al_64, al_65, al_66, al_67, al_69, al_7, al_70, al_71, al_72, al_73, al_9, cat_i, cat_l, cat_r, cat_u, gf_6_0_59, v_aload_0, v_bipush_12, v_bipush_14, v_bipush_50, v_getfield, v_goto, v_iadd, v_iaload, v_iastore, v_ic_ge, v_iconst_0, v_if_eq, v_iinc_2, v_iload_1, v_iload_2, v_invs, v_istore_2, v_return, vcS_2_1, vgf_i, vgf_r, vgf_s, vc_d, rr_0, rr_1, csT_h, csT_t, csT_n, bI_0, bI_1, bI_z, bT, List.mem_cons, List.not_mem_nil, List.length_cons, List.length_nil, ite_not, ↓reduceIte, true_and, and_true, not_true_eq_false, not_false_eq_true, false_or, or_false, or_true, true_or, Nat.reduceAdd, Nat.reduceEqDiff, Nat.reduceBEq, Nat.reduceLeDiff, Nat.reduceLT, Nat.reduceSub, Int.reduceAdd, Int.reduceLE, Int.reduceLT, Int.reduceToNat, Int.reduceNeg, Int.reduceNatCast', reduceCtorEq, Int32.reduceOfInt, Int32.reduceOfNat, Int32.reduceToNatClampNeg, Int32.reduceToInt, i10, i01, nEM]
    have := lp_layNew (d := d) (by omega) (r := M 60) h 12 0 (plr (M 60)) rfl (fun j _ => by rw [if_neg (Nat.not_lt_zero _)])
    rw [rwQ_self, mrow_self] at this
    exact this

theorem s_X7_layNew {d : Nat} (hd : 2 ≤ d) : Snd d 183 pf_X7_layNew := by
  intro args M k h
  unfold pf_X7_layNew at h
  split at h
  · exact c_X7_layNew hd h
  · exact h.elim
/-- a set, or none: as the model's best -/
def oI : Option Nat → Int32
  | none => -1
  | some b => nI b
def lyB (i : Nat) : Option Nat → Bool
  | none => true
  | some x => decide (popc i < popc x)
def lyN (c : Nat → Prop) [DecidablePred c] : Nat → Nat → Option Nat → Option Nat
  | 0, _, b => b
  | n + 1, i, b => lyN c n (i + 1) (if popc i ≤ 3 ∧ lyB i b = true then (if c i then some i else b) else b)
def lyR (c : Nat → Prop) [DecidablePred c] (n i : Nat) (b : Option Nat) : Int32 := oI (lyN c n i b)
theorem lyR_s {c : Nat → Prop} [DecidablePred c] {n i : Nat} {b : Option Nat} : lyR c (n + 1) i b = lyR c n (i + 1) (if popc i ≤ 3 ∧ lyB i b = true then (if c i then some i else b) else b) := rfl
theorem lyR_0 {c : Nat → Prop} [DecidablePred c] {i : Nat} {b : Option Nat} : lyR c 0 i b = oI b := rfl
/-- walker i crosses with the planks of set t new, in the model -/
def lyC (r : Nat → Int32) (i t : Nat) : Prop := ¬ (crx (rwQ r (layF (nI t) (plr r))) i).1 < 12
set_option maxRecDepth 100000 in
set_option maxHeartbeats 4000000 in
theorem lp_layM {d : Nat} (hd : 6 ≤ d) {M : Mem} {k : Value → Mem → Prop} {x : Nat} (hx : x < 6) {C : Nat → Prop} [DecidablePred C] (hC : ∀ t, C t ↔ lyC (M 60) x t) : ∀ (n t : Nat) (b : Option Nat) (a : Nat → Int32), t + n = 4096 → (∀ y, b = some y → y < 4096) → (∀ a, (lyR C n t b < 0 → k (.int (-1000004)) (fndM (j2 M a (M 60)) 3)) ∧ (¬ lyR C n t b < 0 → k (.int (lyR C n t b)) (j2 M a (M 60)))) → WP (7, yX7_lay, cX7_lay, 4, (some .int)) (d + 1) k 19 [.ref 59, .int (nI x), .int (oI b), .int (nI t)] [] (j2 M a (M 60)) := by
  have cx : (nI x).toNatClampNeg = x := nI_clamp (by omega)
  have ox := nOK hx
  intro n
  induction n with
  | zero =>
    intro t b a ht hb h
    have : t = 4096 := by omega
    subst this
    refine goV (n := 80) [(130, pf_X7_orNone)] [19] (T_cons (s_X7_orNone (by omega)) T_nil) ?_
    simp only [dX7_lay_0, dX7_lay_1, dX7_lay_2, dX7_lay_5, dX7_lay_8, dX7_lay_9, dX7_lay_11, dX7_lay_14, dX7_lay_15, dX7_lay_16, dX7_lay_17, dX7_lay_18, dX7_lay_19, dX7_lay_20, dX7_lay_23, dX7_lay_26, dX7_lay_27, dX7_lay_30, dX7_lay_31, dX7_lay_34, dX7_lay_35, dX7_lay_38, dX7_lay_39, dX7_lay_42, dX7_lay_43, dX7_lay_46, dX7_lay_49, dX7_lay_50, dX7_lay_53, dX7_lay_54, dX7_lay_57, dX7_lay_60, dX7_lay_61, dX7_lay_62, dX7_lay_65, dX7_lay_66, dX7_lay_67, dX7_lay_68, dX7_lay_71, dX7_lay_73, dX7_lay_76, dX7_lay_77, dX7_lay_80, dX7_lay_81, dX7_lay_84, dX7_lay_85, dX7_lay_88, dX7_lay_91, dX7_lay_92, dX7_lay_93, dX7_lay_96, cr_7_126, cr_7_146, cr_7_152, cr_7_158, cr_7_183, cr_7_211, cr_7_70, cr_7_75, fr_7_16, fr_7_9, kr_7_69, skr_7_69, al_10, al_11, al_12, al_13, al_14, al_16, al_17, al_18, al_19, al_2, al_20, al_21, al_23, al_24, al_27, al_28, al_29, al_3, al_30, al_31, al_32, al_34, al_36, al_37, al_38, al_39, al_4, al_40, al_41, al_42, al_43, al_45, al_46, al_47, al_48, al_49, al_5, al_52, al_53, al_54, al_55, al_56, al_57, al_58, al_6, al_60, al_61, al_62, al_63, al_64, al_65, al_66, al_67, al_69, al_7, al_70, al_71, al_72, al_73, al_9, cat_i, cat_l, cat_r, cat_u, gf_6_0_59, gf_6_2_59, pcl_0, pcl_1, pcl_100, pcl_101, pcl_102, pcl_103, pcl_104, pcl_105, pcl_106, pcl_107, pcl_108, pcl_109, pcl_110, pcl_111, pcl_112, pcl_15, pcl_22, pcl_25, pcl_26, pcl_33, pcl_44, pcl_50, pcl_59, pcl_8, rOK_i, rOK_z, v_aload_0, v_bipush_12, v_getfield, v_goto, v_ic_ge, v_ic_gt, v_ic_ne, v_iconst_0, v_iconst_3, v_iconst_m1, v_if_lt, v_if_ne, v_iinc_3, v_iload_1, v_iload_2, v_iload_3, v_invs, v_invv, v_ireturn, v_istore_2, v_istore_3, v_ldc, v_sipush_4096, vcS_1_1, vcS_2_1, vcV_2_6, vgf_i, vgf_r, vgf_s, vld_i, vld_s, vc_d, rr_0, rr_1, csT_h, csT_t, csT_n, bI_0, bI_1, bI_z, bT, List.mem_cons, List.not_mem_nil, List.length_cons, List.length_nil, ite_not, ↓reduceIte, true_and, and_true, not_true_eq_false, not_false_eq_true, false_or, or_false, or_true, true_or, Nat.reduceAdd, Nat.reduceEqDiff, Nat.reduceBEq, Nat.reduceLeDiff, Nat.reduceLT, Nat.reduceSub, Int.reduceAdd, Int.reduceLE, Int.reduceLT, Int.reduceToNat, Int.reduceNeg, Int.reduceNatCast', reduceCtorEq, Int32.reduceOfInt, Int32.reduceOfNat, Int32.reduceToNatClampNeg, Int32.reduceToInt, i10, i01, nEM, pe_X7_orNone, show (4096 : Int32) ≤ nI 4096 from by decide]
    have ha := h a
    rw [lyR_0] at ha
    by_cases h0 : oI b < 0
    · rw [if_pos h0]
      exact ha.1 h0
    · rw [if_neg h0]
      exact ha.2 h0
  | succ n ih =>
    intro t b a ht hb h
    have c1 : ¬ (4096 : Int32) ≤ nI t := nI_ge (b := 4096) (by omega) (by decide)
    have ct : (nI t).toNatClampNeg = t := nI_clamp (by omega)
    have pt : popc t ≤ 12 := popc_le t
    have ex : (∃ b, b < 4096 ∧ nI t = nI b) = True := eq_true ⟨t, by omega, rfl⟩
    have c3 : (3 < nI (popc t)) = ¬ popc t ≤ 3 := by
      rw [show (3 : Int32) = nI 3 from rfl, propext (nI_ltI (by omega) (by omega))]
      exact propext ⟨fun z => by omega, fun z => by omega⟩
    have hbk : ∀ j, 50 ≤ j → crr (rwQ (M 60) (layF (nI t) (plr (M 60)))) x j = M 60 j := fun j hj => by rw [crr_hi hx hj, rwQ_out (by omega)]
    have go1 : lyB t b = true → popc t ≤ 3 → ∀ a', if (crx (rwQ (M 60) (layF (nI t) (plr (M 60)))) x).1 < 12 then WP (7, yX7_lay, cX7_lay, 4, (some .int)) (d + 1) k 19 [.ref 59, .int (nI x), .int (oI b), .int (nI (t + 1))] [] (j2 M a' (M 60)) else WP (7, yX7_lay, cX7_lay, 4, (some .int)) (d + 1) k 19 [.ref 59, .int (nI x), .int (nI t), .int (nI (t + 1))] [] (j2 M a' (M 60)) := by
      intro h1 h2 a'
      rw [lyR_s, if_pos ⟨h2, h1⟩] at h
      by_cases hc : (crx (rwQ (M 60) (layF (nI t) (plr (M 60)))) x).1 < 12
      · rw [if_neg (fun z => (hC t).mp z hc)] at h
        rw [if_pos hc]
        exact ih (t + 1) b a' (by omega) hb h
      · rw [if_pos ((hC t).mpr hc)] at h
        rw [if_neg hc]
        exact ih (t + 1) (some t) a' (by omega) (fun y hy => by cases hy; omega) h
    have go2 : ¬ (popc t ≤ 3 ∧ lyB t b = true) → ∀ a', WP (7, yX7_lay, cX7_lay, 4, (some .int)) (d + 1) k 19 [.ref 59, .int (nI x), .int (oI b), .int (nI (t + 1))] [] (j2 M a' (M 60)) := by
      intro h1 a'
      rw [lyR_s, if_neg h1] at h
      exact ih (t + 1) b a' (by omega) hb h
    refine goV (n := 80) [(132, pf_X7_bits), (128, pf_X7_copyRow), (183, pf_X7_layNew), (153, pf_X7_crosses), (129, pf_X7_putBack)] [19] (T_cons (s_X7_bits (by omega)) (T_cons (s_X7_copyRow (by omega)) (T_cons (s_X7_layNew (by omega)) (T_cons (s_X7_crosses (by omega)) (T_cons (s_X7_putBack (by omega)) T_nil))))) ?_
    cases b with
    | none =>
      simp only [dX7_lay_0, dX7_lay_1, dX7_lay_2, dX7_lay_5, dX7_lay_8, dX7_lay_9, dX7_lay_11, dX7_lay_14, dX7_lay_15, dX7_lay_16, dX7_lay_17, dX7_lay_18, dX7_lay_19, dX7_lay_20, dX7_lay_23, dX7_lay_26, dX7_lay_27, dX7_lay_30, dX7_lay_31, dX7_lay_34, dX7_lay_35, dX7_lay_38, dX7_lay_39, dX7_lay_42, dX7_lay_43, dX7_lay_46, dX7_lay_49, dX7_lay_50, dX7_lay_53, dX7_lay_54, dX7_lay_57, dX7_lay_60, dX7_lay_61, dX7_lay_62, dX7_lay_65, dX7_lay_66, dX7_lay_67, dX7_lay_68, dX7_lay_71, dX7_lay_73, dX7_lay_76, dX7_lay_77, dX7_lay_80, dX7_lay_81, dX7_lay_84, dX7_lay_85, dX7_lay_88, dX7_lay_91, dX7_lay_92, dX7_lay_93, dX7_lay_96, cr_7_126, cr_7_146, cr_7_152, cr_7_158, cr_7_183, cr_7_211, cr_7_70, cr_7_75, fr_7_16, fr_7_9, kr_7_69, skr_7_69, al_10, al_11, al_12, al_13, al_14, al_16, al_17, al_18, al_19, al_2, al_20, al_21, al_23, al_24, al_27, al_28, al_29, al_3, al_30, al_31, al_32, al_34, al_36, al_37, al_38, al_39, al_4, al_40, al_41, al_42, al_43, al_45, al_46, al_47, al_48, al_49, al_5, al_52, al_53, al_54, al_55, al_56, al_57, al_58, al_6, al_60, al_61, al_62, al_63, al_64, al_65, al_66, al_67, al_69, al_7, al_70, al_71, al_72, al_73, al_9, cat_i, cat_l, cat_r, cat_u, gf_6_0_59, gf_6_2_59, pcl_0, pcl_1, pcl_100, pcl_101, pcl_102, pcl_103, pcl_104, pcl_105, pcl_106, pcl_107, pcl_108, pcl_109, pcl_110, pcl_111, pcl_112, pcl_15, pcl_22, pcl_25, pcl_26, pcl_33, pcl_44, pcl_50, pcl_59, pcl_8, rOK_i, rOK_z, v_aload_0, v_bipush_12, v_getfield, v_goto, v_ic_ge, v_ic_gt, v_ic_ne, v_iconst_0, v_iconst_3, v_iconst_m1, v_if_lt, v_if_ne, v_iinc_3, v_iload_1, v_iload_2, v_iload_3, v_invs, v_invv, v_ireturn, v_istore_2, v_istore_3, v_ldc, v_sipush_4096, vcS_1_1, vcS_2_1, vcV_2_6, vgf_i, vgf_r, vgf_s, vld_i, vld_s, vc_d, rr_0, rr_1, csT_h, csT_t, csT_n, bI_0, bI_1, bI_z, bT, List.mem_cons, List.not_mem_nil, List.length_cons, List.length_nil, ite_not, ↓reduceIte, true_and, and_true, not_true_eq_false, not_false_eq_true, false_or, or_false, or_true, true_or, Nat.reduceAdd, Nat.reduceEqDiff, Nat.reduceBEq, Nat.reduceLeDiff, Nat.reduceLT, Nat.reduceSub, Int.reduceAdd, Int.reduceLE, Int.reduceLT, Int.reduceToNat, Int.reduceNeg, Int.reduceNatCast', reduceCtorEq, Int32.reduceOfInt, Int32.reduceOfNat, Int32.reduceToNatClampNeg, Int32.reduceToInt, i10, i01, nEM, pe_X7_bits, pe_X7_copyRow, pe_X7_layNew, pe_X7_crosses, pe_X7_putBack, oI, Int32.reduceLT, Int32.reduceLE, not_false_eq_true, c1, ct, cx, ox, ex, c3, nI_1, j2_60, j2_62, j2_m60, j2_m62, j2_j2, eq12 crx_le, back hbk]
      by_cases h2 : popc t ≤ 3
      · rw [if_pos h2]
        exact go1 rfl h2 _
      · rw [if_neg h2]
        exact go2 (fun z => h2 z.1) a
    | some y =>
      have hy := hb y rfl
      have cy : (nI y).toNatClampNeg = y := nI_clamp (by omega)
      have py : popc y ≤ 12 := popc_le y
      have ey : (∃ b, b < 4096 ∧ nI y = nI b) = True := eq_true ⟨y, by omega, rfl⟩
      have ny : ¬ nI y < 0 := nI_pos (by omega)
      have cl : (nI (popc y) ≤ nI (popc t)) = ¬ popc t < popc y := by
        rw [propext (nI_leI (by omega) (by omega))]
        exact propext ⟨fun z => by omega, fun z => by omega⟩
      simp only [dX7_lay_0, dX7_lay_1, dX7_lay_2, dX7_lay_5, dX7_lay_8, dX7_lay_9, dX7_lay_11, dX7_lay_14, dX7_lay_15, dX7_lay_16, dX7_lay_17, dX7_lay_18, dX7_lay_19, dX7_lay_20, dX7_lay_23, dX7_lay_26, dX7_lay_27, dX7_lay_30, dX7_lay_31, dX7_lay_34, dX7_lay_35, dX7_lay_38, dX7_lay_39, dX7_lay_42, dX7_lay_43, dX7_lay_46, dX7_lay_49, dX7_lay_50, dX7_lay_53, dX7_lay_54, dX7_lay_57, dX7_lay_60, dX7_lay_61, dX7_lay_62, dX7_lay_65, dX7_lay_66, dX7_lay_67, dX7_lay_68, dX7_lay_71, dX7_lay_73, dX7_lay_76, dX7_lay_77, dX7_lay_80, dX7_lay_81, dX7_lay_84, dX7_lay_85, dX7_lay_88, dX7_lay_91, dX7_lay_92, dX7_lay_93, dX7_lay_96, cr_7_126, cr_7_146, cr_7_152, cr_7_158, cr_7_183, cr_7_211, cr_7_70, cr_7_75, fr_7_16, fr_7_9, kr_7_69, skr_7_69, al_10, al_11, al_12, al_13, al_14, al_16, al_17, al_18, al_19, al_2, al_20, al_21, al_23, al_24, al_27, al_28, al_29, al_3, al_30, al_31, al_32, al_34, al_36, al_37, al_38, al_39, al_4, al_40, al_41, al_42, al_43, al_45, al_46, al_47, al_48, al_49, al_5, al_52, al_53, al_54, al_55, al_56, al_57, al_58, al_6, al_60, al_61, al_62, al_63, al_64, al_65, al_66, al_67, al_69, al_7, al_70, al_71, al_72, al_73, al_9, cat_i, cat_l, cat_r, cat_u, gf_6_0_59, gf_6_2_59, pcl_0, pcl_1, pcl_100, pcl_101, pcl_102, pcl_103, pcl_104, pcl_105, pcl_106, pcl_107, pcl_108, pcl_109, pcl_110, pcl_111, pcl_112, pcl_15, pcl_22, pcl_25, pcl_26, pcl_33, pcl_44, pcl_50, pcl_59, pcl_8, rOK_i, rOK_z, v_aload_0, v_bipush_12, v_getfield, v_goto, v_ic_ge, v_ic_gt, v_ic_ne, v_iconst_0, v_iconst_3, v_iconst_m1, v_if_lt, v_if_ne, v_iinc_3, v_iload_1, v_iload_2, v_iload_3, v_invs, v_invv, v_ireturn, v_istore_2, v_istore_3, v_ldc, v_sipush_4096, vcS_1_1, vcS_2_1, vcV_2_6, vgf_i, vgf_r, vgf_s, vld_i, vld_s, vc_d, rr_0, rr_1, csT_h, csT_t, csT_n, bI_0, bI_1, bI_z, bT, List.mem_cons, List.not_mem_nil, List.length_cons, List.length_nil, ite_not, ↓reduceIte, true_and, and_true, not_true_eq_false, not_false_eq_true, false_or, or_false, or_true, true_or, Nat.reduceAdd, Nat.reduceEqDiff, Nat.reduceBEq, Nat.reduceLeDiff, Nat.reduceLT, Nat.reduceSub, Int.reduceAdd, Int.reduceLE, Int.reduceLT, Int.reduceToNat, Int.reduceNeg, Int.reduceNatCast', reduceCtorEq, Int32.reduceOfInt, Int32.reduceOfNat, Int32.reduceToNatClampNeg, Int32.reduceToInt, i10, i01, nEM, pe_X7_bits, pe_X7_copyRow, pe_X7_layNew, pe_X7_crosses, pe_X7_putBack, oI, c1, ct, cx, cy, ox, ex, ey, ny, c3, cl, nI_1, j2_60, j2_62, j2_m60, j2_m62, j2_j2, eq12 crx_le, back hbk]
      by_cases h2 : popc t ≤ 3
      · rw [if_pos h2]
        by_cases h3 : popc t < popc y
        · rw [if_pos h3]
          exact go1 (decide_eq_true h3) h2 _
        · rw [if_neg h3]
          exact go2 (fun z => h3 (of_decide_eq_true z.2)) a
      · rw [if_neg h2]
        exact go2 (fun z => h2 z.1) a
def pf_X7_lay : PF := fun args M k => match args with
  | [.ref o, .int w] => (o = 59 ∧ IM (M 60)) ∧ (if hasM (M 60) w then (∀ (C : Nat → Prop) (_ : DecidablePred C), (∀ t, C t ↔ lyC (M 60) (w).toNatClampNeg t) → ∀ a, (lyR C 4096 0 none < 0 → k (.int (-1000004)) (fndM (j2 M a (M 60)) 3)) ∧ (¬ lyR C 4096 0 none < 0 → k (.int (lyR C 4096 0 none)) (j2 M a (M 60)))) else k (.int (-1000001)) (fndM M 0))
  | _ => False
theorem pe_X7_lay {o : Nat} {w : Int32} {M : Mem} {k : Value → Mem → Prop} : pf_X7_lay [.ref o, .int w] M k = ((o = 59 ∧ IM (M 60)) ∧ (if hasM (M 60) w then (∀ (C : Nat → Prop) (_ : DecidablePred C), (∀ t, C t ↔ lyC (M 60) (w).toNatClampNeg t) → ∀ a, (lyR C 4096 0 none < 0 → k (.int (-1000004)) (fndM (j2 M a (M 60)) 3)) ∧ (¬ lyR C 4096 0 none < 0 → k (.int (lyR C 4096 0 none)) (j2 M a (M 60)))) else k (.int (-1000001)) (fndM M 0))) := rfl
theorem le_X7_lay {o : Nat} {w : Int32} : lent 4 ([.ref o, .int w] : List Value) = [.ref o, .int w, .retAddr 0, .retAddr 0] := rfl
set_option maxRecDepth 100000 in
set_option maxHeartbeats 4000000 in
theorem c_X7_lay {d : Nat} (hd : 8 ≤ d) {o : Nat} {w : Int32} {M : Mem} {k : Value → Mem → Prop} (h : (o = 59 ∧ IM (M 60)) ∧ (if hasM (M 60) w then (∀ (C : Nat → Prop) (_ : DecidablePred C), (∀ t, C t ↔ lyC (M 60) (w).toNatClampNeg t) → ∀ a, (lyR C 4096 0 none < 0 → k (.int (-1000004)) (fndM (j2 M a (M 60)) 3)) ∧ (¬ lyR C 4096 0 none < 0 → k (.int (lyR C 4096 0 none)) (j2 M a (M 60)))) else k (.int (-1000001)) (fndM M 0))) : CallP d 184 [.ref o, .int w] M k := by
  obtain ⟨hp, h⟩ := h
  obtain ⟨d, rfl⟩ : ∃ d', d = d' + 1 := ⟨d - 1, by omega⟩
  obtain ⟨rfl, hI⟩ := hp
  · refine enterV (n := 80) [(136, pf_X7_isWalker), (125, pf_X7_finding)] [19] mI_184 (by decide) (Nat.le_of_ble_eq_true rfl) (T_cons (s_X7_isWalker (by omega)) (T_cons (s_X7_finding (by omega)) T_nil)) ?_
    rw [le_X7_lay]
    simp only [dX7_lay_0, dX7_lay_1, dX7_lay_2, dX7_lay_5, dX7_lay_8, dX7_lay_9, dX7_lay_11, dX7_lay_14, dX7_lay_15, dX7_lay_16, dX7_lay_17, dX7_lay_18, dX7_lay_19, dX7_lay_20, dX7_lay_23, dX7_lay_26, dX7_lay_27, dX7_lay_30, dX7_lay_31, dX7_lay_34, dX7_lay_35, dX7_lay_38, dX7_lay_39, dX7_lay_42, dX7_lay_43, dX7_lay_46, dX7_lay_49, dX7_lay_50, dX7_lay_53, dX7_lay_54, dX7_lay_57, dX7_lay_60, dX7_lay_61, dX7_lay_62, dX7_lay_65, dX7_lay_66, dX7_lay_67, dX7_lay_68, dX7_lay_71, dX7_lay_73, dX7_lay_76, dX7_lay_77, dX7_lay_80, dX7_lay_81, dX7_lay_84, dX7_lay_85, dX7_lay_88, dX7_lay_91, dX7_lay_92, dX7_lay_93, dX7_lay_96, cr_7_126, cr_7_146, cr_7_152, cr_7_158, cr_7_183, cr_7_211, cr_7_70, cr_7_75, fr_7_16, fr_7_9, kr_7_69, skr_7_69, al_10, al_11, al_12, al_13, al_14, al_16, al_17, al_18, al_19, al_2, al_20, al_21, al_23, al_24, al_27, al_28, al_29, al_3, al_30, al_31, al_32, al_34, al_36, al_37, al_38, al_39, al_4, al_40, al_41, al_42, al_43, al_45, al_46, al_47, al_48, al_49, al_5, al_52, al_53, al_54, al_55, al_56, al_57, al_58, al_6, al_60, al_61, al_62, al_63, al_64, al_65, al_66, al_67, al_69, al_7, al_70, al_71, al_72, al_73, al_9, cat_i, cat_l, cat_r, cat_u, gf_6_0_59, gf_6_2_59, pcl_0, pcl_1, pcl_100, pcl_101, pcl_102, pcl_103, pcl_104, pcl_105, pcl_106, pcl_107, pcl_108, pcl_109, pcl_110, pcl_111, pcl_112, pcl_15, pcl_22, pcl_25, pcl_26, pcl_33, pcl_44, pcl_50, pcl_59, pcl_8, rOK_i, rOK_z, v_aload_0, v_bipush_12, v_getfield, v_goto, v_ic_ge, v_ic_gt, v_ic_ne, v_iconst_0, v_iconst_3, v_iconst_m1, v_if_lt, v_if_ne, v_iinc_3, v_iload_1, v_iload_2, v_iload_3, v_invs, v_invv, v_ireturn, v_istore_2, v_istore_3, v_ldc, v_sipush_4096, vcS_1_1, vcS_2_1, vcV_2_6, vgf_i, vgf_r, vgf_s, vld_i, vld_s, vc_d, rr_0, rr_1, csT_h, csT_t, csT_n, bI_0, bI_1, bI_z, bT, List.mem_cons, List.not_mem_nil, List.length_cons, List.length_nil, ite_not, ↓reduceIte, true_and, and_true, not_true_eq_false, not_false_eq_true, false_or, or_false, or_true, true_or, Nat.reduceAdd, Nat.reduceEqDiff, Nat.reduceBEq, Nat.reduceLeDiff, Nat.reduceLT, Nat.reduceSub, Int.reduceAdd, Int.reduceLE, Int.reduceLT, Int.reduceToNat, Int.reduceNeg, Int.reduceNatCast', reduceCtorEq, Int32.reduceOfInt, Int32.reduceOfNat, Int32.reduceToNatClampNeg, Int32.reduceToInt, i10, i01, nEM, pe_X7_isWalker, fn_0, fn_1, fn_2, fn_3, fn_4, fn_5, fn_6, hI]
    by_cases h1 : hasM (M 60) w
    · rw [if_pos h1] at h ⊢
      obtain ⟨x, hx, rfl⟩ := wOK_n (hasM_o h1)
      rw [nI_clamp (show x < 2 ^ 31 by omega)] at h
      have dC : DecidablePred (lyC (M 60) x) := fun t => inferInstanceAs (Decidable (¬ (crx (rwQ (M 60) (layF (nI t) (plr (M 60)))) x).1 < 12))
      have := lp_layM (d := d) (by omega) (M := M) (k := k) hx (C := lyC (M 60) x) (fun t => Iff.rfl) 4096 0 none (M 62) rfl (fun y hy => by cases hy) (h (lyC (M 60) x) dC (fun t => Iff.rfl))
      rw [j2_self] at this
      exact this
    · rw [if_neg h1] at h ⊢
      exact h

theorem s_X7_lay {d : Nat} (hd : 8 ≤ d) : Snd d 184 pf_X7_lay := by
  intro args M k h
  unfold pf_X7_lay at h
  split at h
  · exact c_X7_lay hd h
  · exact h.elim
/-- how many fall if plank p is new, in the model -/
def bcM (r : Nat → Int32) (q p : Nat) : Int32 := nI (popc (stN (fun i => (crx (upd r (14 + p) 50) i).1 < 12) q 0 0))
set_option maxRecDepth 100000 in
set_option maxHeartbeats 4000000 in
theorem lp_bestM {d : Nat} (hd : 8 ≤ d) {M : Mem} {k : Value → Mem → Prop} {q : Nat} (hq : q ≤ 6) (hn : M 60 1 = nI q) : ∀ (n i : Nat) (x1 x2 : Int32) (x4 x5 : Value) (a : Nat → Int32), i + n = 12 → x4.category = 1 → (∀ a, k (.int (bsF (bcM (M 60) q) n i x1 x2)) (j2 M a (M 60))) → WP (7, yX7_best, cX7_best, 6, (some .int)) (d + 1) k 7 [.ref 59, .int x1, .int x2, .int (nI i), x4, x5] [] (j2 M a (M 60)) := by
  intro n
  induction n with
  | zero =>
    intro i x1 x2 x4 x5 a hi h4 h
    have : i = 12 := by omega
    subst this
    refine goV (n := 80) [] [7] T_nil ?_
    simp only [dX7_best_0, dX7_best_1, dX7_best_2, dX7_best_4, dX7_best_5, dX7_best_6, dX7_best_7, dX7_best_8, dX7_best_10, dX7_best_13, dX7_best_14, dX7_best_16, dX7_best_17, dX7_best_18, dX7_best_20, dX7_best_23, dX7_best_25, dX7_best_26, dX7_best_29, dX7_best_32, dX7_best_34, dX7_best_35, dX7_best_38, dX7_best_40, dX7_best_41, dX7_best_42, dX7_best_44, dX7_best_45, dX7_best_47, dX7_best_48, dX7_best_51, dX7_best_52, dX7_best_55, dX7_best_56, dX7_best_57, dX7_best_58, dX7_best_60, dX7_best_63, dX7_best_64, dX7_best_67, dX7_best_70, dX7_best_71, cr_7_102, cr_7_152, cr_7_168, cr_7_79, fr_7_9, al_10, al_11, al_12, al_13, al_14, al_16, al_17, al_18, al_19, al_2, al_20, al_21, al_23, al_24, al_27, al_28, al_29, al_3, al_30, al_31, al_32, al_34, al_36, al_37, al_38, al_39, al_4, al_40, al_41, al_42, al_43, al_45, al_46, al_47, al_48, al_49, al_5, al_52, al_53, al_54, al_55, al_56, al_57, al_58, al_6, al_60, al_61, al_62, al_63, al_64, al_65, al_66, al_67, al_69, al_7, al_70, al_71, al_72, al_73, al_9, cat_i, cat_l, cat_r, cat_u, gf_6_0_59, pcl_0, pcl_1, pcl_100, pcl_101, pcl_102, pcl_103, pcl_104, pcl_105, pcl_106, pcl_107, pcl_108, pcl_109, pcl_110, pcl_111, pcl_112, pcl_15, pcl_22, pcl_25, pcl_26, pcl_33, pcl_44, pcl_50, pcl_59, pcl_8, rOK_i, rOK_z, v_aload_0, v_bipush_12, v_bipush_14, v_bipush_50, v_bipush_7, v_getfield, v_goto, v_iadd, v_iastore, v_ic_ge, v_iconst_0, v_iinc_3, v_iload_1, v_iload_2, v_iload_3, v_iload_4, v_iload_5, v_invs, v_invv, v_ireturn, v_istore_1, v_istore_2, v_istore_3, v_istore_4, v_istore_5, vcS_1_1, vcS_min, vcV_1_6, vcV_3_6, vgf_i, vgf_r, vgf_s, vc_d, rr_0, rr_1, csT_h, csT_t, csT_n, bI_0, bI_1, bI_z, bT, List.mem_cons, List.not_mem_nil, List.length_cons, List.length_nil, ite_not, ↓reduceIte, true_and, and_true, not_true_eq_false, not_false_eq_true, false_or, or_false, or_true, true_or, Nat.reduceAdd, Nat.reduceEqDiff, Nat.reduceBEq, Nat.reduceLeDiff, Nat.reduceLT, Nat.reduceSub, Int.reduceAdd, Int.reduceLE, Int.reduceLT, Int.reduceToNat, Int.reduceNeg, Int.reduceNatCast', reduceCtorEq, Int32.reduceOfInt, Int32.reduceOfNat, Int32.reduceToNatClampNeg, Int32.reduceToInt, i10, i01, nEM, show (12 : Int32) ≤ nI 12 from by decide]
    exact h a
  | succ n ih =>
    intro i x1 x2 x4 x5 a hi h4 h
    have c1 : ¬ (12 : Int32) ≤ nI i := nI_ge (b := 12) (by omega) (by decide)
    have c2 : (nI (14 + i)).toInt = ((14 + i : Nat) : Int) := nI_toInt (by omega)
    have c3 : (nI (14 + i)).toNatClampNeg = 14 + i := nI_clamp (by omega)
    have c4 : ¬ nI (14 + i) < 0 := nI_pos (by omega)
    have c5 : ¬ 50 ≤ nI (14 + i) := nI_ge (b := 50) (by omega) (by decide)
    have u1 : upd (M 60) (14 + i) 50 1 = nI q := by rw [un (by omega)]; exact hn
    have cq : (nI q).toNatClampNeg = q := nI_clamp (by omega)
    have hIM : IM (upd (M 60) (14 + i) 50) := ⟨q, hq, u1⟩
    have es : stF (fun j => (crx (upd (M 60) (14 + i) 50) j).1 < 12) q 0 0 = nI (stN (fun j => (crx (upd (M 60) (14 + i) 50) j).1 < 12) q 0 0) := stF_N q 0 0 (by omega)
    have hl := stN_lt (c := fun j => (crx (upd (M 60) (14 + i) 50) j).1 < 12) q 0 0 (by decide)
    have h64 : 2 ^ (0 + q) ≤ 64 := by rw [Nat.zero_add]; exact Nat.pow_le_pow_right (n := 2) (by decide) hq
    have hex : (∃ b, b < 4096 ∧ nI (stN (fun j => (crx (upd (M 60) (14 + i) 50) j).1 < 12) q 0 0) = nI b) = True := eq_true ⟨_, by omega, rfl⟩
    have cs : (nI (stN (fun j => (crx (upd (M 60) (14 + i) 50) j).1 < 12) q 0 0)).toNatClampNeg = stN (fun j => (crx (upd (M 60) (14 + i) 50) j).1 < 12) q 0 0 := nI_clamp (by omega)
    have eb : nI (popc (stN (fun j => (crx (upd (M 60) (14 + i) 50) j).1 < 12) q 0 0)) = bcM (M 60) q i := rfl
    refine goV (n := 80) [(127, pf_X7_become), (160, pf_X7_wouldFall), (132, pf_X7_bits)] [7] (T_cons (s_X7_become (by omega)) (T_cons (s_X7_wouldFall (by omega)) (T_cons (s_X7_bits (by omega)) T_nil))) ?_
    simp only [dX7_best_0, dX7_best_1, dX7_best_2, dX7_best_4, dX7_best_5, dX7_best_6, dX7_best_7, dX7_best_8, dX7_best_10, dX7_best_13, dX7_best_14, dX7_best_16, dX7_best_17, dX7_best_18, dX7_best_20, dX7_best_23, dX7_best_25, dX7_best_26, dX7_best_29, dX7_best_32, dX7_best_34, dX7_best_35, dX7_best_38, dX7_best_40, dX7_best_41, dX7_best_42, dX7_best_44, dX7_best_45, dX7_best_47, dX7_best_48, dX7_best_51, dX7_best_52, dX7_best_55, dX7_best_56, dX7_best_57, dX7_best_58, dX7_best_60, dX7_best_63, dX7_best_64, dX7_best_67, dX7_best_70, dX7_best_71, cr_7_102, cr_7_152, cr_7_168, cr_7_79, fr_7_9, al_10, al_11, al_12, al_13, al_14, al_16, al_17, al_18, al_19, al_2, al_20, al_21, al_23, al_24, al_27, al_28, al_29, al_3, al_30, al_31, al_32, al_34, al_36, al_37, al_38, al_39, al_4, al_40, al_41, al_42, al_43, al_45, al_46, al_47, al_48, al_49, al_5, al_52, al_53, al_54, al_55, al_56, al_57, al_58, al_6, al_60, al_61, al_62, al_63, al_64, al_65, al_66, al_67, al_69, al_7, al_70, al_71, al_72, al_73, al_9, cat_i, cat_l, cat_r, cat_u, gf_6_0_59, pcl_0, pcl_1, pcl_100, pcl_101, pcl_102, pcl_103, pcl_104, pcl_105, pcl_106, pcl_107, pcl_108, pcl_109, pcl_110, pcl_111, pcl_112, pcl_15, pcl_22, pcl_25, pcl_26, pcl_33, pcl_44, pcl_50, pcl_59, pcl_8, rOK_i, rOK_z, v_aload_0, v_bipush_12, v_bipush_14, v_bipush_50, v_bipush_7, v_getfield, v_goto, v_iadd, v_iastore, v_ic_ge, v_iconst_0, v_iinc_3, v_iload_1, v_iload_2, v_iload_3, v_iload_4, v_iload_5, v_invs, v_invv, v_ireturn, v_istore_1, v_istore_2, v_istore_3, v_istore_4, v_istore_5, vcS_1_1, vcS_min, vcV_1_6, vcV_3_6, vgf_i, vgf_r, vgf_s, vc_d, rr_0, rr_1, csT_h, csT_t, csT_n, bI_0, bI_1, bI_z, bT, List.mem_cons, List.not_mem_nil, List.length_cons, List.length_nil, ite_not, ↓reduceIte, true_and, and_true, not_true_eq_false, not_false_eq_true, false_or, or_false, or_true, true_or, Nat.reduceAdd, Nat.reduceEqDiff, Nat.reduceBEq, Nat.reduceLeDiff, Nat.reduceLT, Nat.reduceSub, Int.reduceAdd, Int.reduceLE, Int.reduceLT, Int.reduceToNat, Int.reduceNeg, Int.reduceNatCast', reduceCtorEq, Int32.reduceOfInt, Int32.reduceOfNat, Int32.reduceToNatClampNeg, Int32.reduceToInt, i10, i01, nEM, pe_X7_become, pe_X7_wouldFall, pe_X7_bits, c1, p14, c2, c3, c4, c5, h4, u1, cq, hIM, es, hex, cs, eb, nI_1, j2_60, j2_s, j2_j2, upd_upd, upd_self]
    intro a'
    refine ⟨by omega, ?_⟩
    rw [bsF] at h
    by_cases hc : bcM (M 60) q i < x2
    · rw [if_pos hc] at h
      rw [if_neg (fun z => Int32.not_lt.mpr z hc), if_pos hc]
      exact ih (i + 1) _ _ _ _ _ (by omega) rfl h
    · rw [if_neg hc] at h
      rw [if_pos (Int32.not_lt.mp hc), if_neg hc]
      exact ih (i + 1) _ _ _ _ _ (by omega) rfl h
def pf_X7_best : PF := fun args M k => match args with
  | [.ref o] => (o = 59 ∧ IM (M 60)) ∧ (∀ a, k (.int (bsF (bcM (M 60) (M 60 1).toNatClampNeg) 12 0 0 7)) (j2 M a (M 60)))
  | _ => False
theorem pe_X7_best {o : Nat} {M : Mem} {k : Value → Mem → Prop} : pf_X7_best [.ref o] M k = ((o = 59 ∧ IM (M 60)) ∧ (∀ a, k (.int (bsF (bcM (M 60) (M 60 1).toNatClampNeg) 12 0 0 7)) (j2 M a (M 60)))) := rfl
theorem le_X7_best {o : Nat} : lent 6 ([.ref o] : List Value) = [.ref o, .retAddr 0, .retAddr 0, .retAddr 0, .retAddr 0, .retAddr 0] := rfl
set_option maxRecDepth 100000 in
set_option maxHeartbeats 4000000 in
theorem c_X7_best {d : Nat} (hd : 9 ≤ d) {o : Nat} {M : Mem} {k : Value → Mem → Prop} (h : (o = 59 ∧ IM (M 60)) ∧ (∀ a, k (.int (bsF (bcM (M 60) (M 60 1).toNatClampNeg) 12 0 0 7)) (j2 M a (M 60)))) : CallP d 185 [.ref o] M k := by
  obtain ⟨hp, h⟩ := h
  obtain ⟨d, rfl⟩ : ∃ d', d = d' + 1 := ⟨d - 1, by omega⟩
  obtain ⟨rfl, q, hq, hn⟩ := hp
  · refine enterV (n := 80) [] [7] mI_185 (by decide) (Nat.le_of_ble_eq_true rfl) T_nil ?_
    rw [le_X7_best]
    simp only [dX7_best_0, dX7_best_1, dX7_best_2, dX7_best_4, dX7_best_5, dX7_best_6, dX7_best_7, dX7_best_8, dX7_best_10, dX7_best_13, dX7_best_14, dX7_best_16, dX7_best_17, dX7_best_18, dX7_best_20, dX7_best_23, dX7_best_25, dX7_best_26, dX7_best_29, dX7_best_32, dX7_best_34, dX7_best_35, dX7_best_38, dX7_best_40, dX7_best_41, dX7_best_42, dX7_best_44, dX7_best_45, dX7_best_47, dX7_best_48, dX7_best_51, dX7_best_52, dX7_best_55, dX7_best_56, dX7_best_57, dX7_best_58, dX7_best_60, dX7_best_63, dX7_best_64, dX7_best_67, dX7_best_70, dX7_best_71, cr_7_102, cr_7_152, cr_7_168, cr_7_79, fr_7_9, al_10, al_11, al_12, al_13, al_14, al_16, al_17, al_18, al_19, al_2, al_20, al_21, al_23, al_24, al_27, al_28, al_29, al_3, al_30, al_31, al_32, al_34, al_36, al_37, al_38, al_39, al_4, al_40, al_41, al_42, al_43, al_45, al_46, al_47, al_48, al_49, al_5, al_52, al_53, al_54, al_55, al_56, al_57, al_58, al_6, al_60, al_61, al_62, al_63, al_64, al_65, al_66, al_67, al_69, al_7, al_70, al_71, al_72, al_73, al_9, cat_i, cat_l, cat_r, cat_u, gf_6_0_59, pcl_0, pcl_1, pcl_100, pcl_101, pcl_102, pcl_103, pcl_104, pcl_105, pcl_106, pcl_107, pcl_108, pcl_109, pcl_110, pcl_111, pcl_112, pcl_15, pcl_22, pcl_25, pcl_26, pcl_33, pcl_44, pcl_50, pcl_59, pcl_8, rOK_i, rOK_z, v_aload_0, v_bipush_12, v_bipush_14, v_bipush_50, v_bipush_7, v_getfield, v_goto, v_iadd, v_iastore, v_ic_ge, v_iconst_0, v_iinc_3, v_iload_1, v_iload_2, v_iload_3, v_iload_4, v_iload_5, v_invs, v_invv, v_ireturn, v_istore_1, v_istore_2, v_istore_3, v_istore_4, v_istore_5, vcS_1_1, vcS_min, vcV_1_6, vcV_3_6, vgf_i, vgf_r, vgf_s, vc_d, rr_0, rr_1, csT_h, csT_t, csT_n, bI_0, bI_1, bI_z, bT, List.mem_cons, List.not_mem_nil, List.length_cons, List.length_nil, ite_not, ↓reduceIte, true_and, and_true, not_true_eq_false, not_false_eq_true, false_or, or_false, or_true, true_or, Nat.reduceAdd, Nat.reduceEqDiff, Nat.reduceBEq, Nat.reduceLeDiff, Nat.reduceLT, Nat.reduceSub, Int.reduceAdd, Int.reduceLE, Int.reduceLT, Int.reduceToNat, Int.reduceNeg, Int.reduceNatCast', reduceCtorEq, Int32.reduceOfInt, Int32.reduceOfNat, Int32.reduceToNatClampNeg, Int32.reduceToInt, i10, i01, nEM]
    rw [hn, nI_clamp (by omega)] at h
    have := lp_bestM (d := d) (by omega) (M := M) (k := k) hq hn 12 0 0 7 (.retAddr 0) (.retAddr 0) (M 62) rfl rfl h
    rw [j2_self] at this
    exact this

theorem s_X7_best {d : Nat} (hd : 9 ≤ d) : Snd d 185 pf_X7_best := by
  intro args M k h
  unfold pf_X7_best at h
  split at h
  · exact c_X7_best hd h
  · exact h.elim
set_option maxRecDepth 100000 in
set_option maxHeartbeats 4000000 in
theorem lp_loadM {d : Nat} (hd : 2 ≤ d) {M : Mem} {k : Value → Mem → Prop} {s m : Nat} {r : Nat → Int32} (hs : s < 4) (hm : m ≤ 40) (he : M 71 s = nI m) : ∀ (n i : Nat) (ps : Nat → Int32), i + n = 12 → k (.int (nI (ldF (shR M s) m n i ps).1)) (mrow M 60 (rwQ r (ldF (shR M s) m n i ps).2)) → WP (7, yX7_load, cX7_load, 3, (some .int)) (d + 1) k 20 [.ref 59, .int (nI s), .int (nI i)] [] (mrow M 60 (rwQ r ps)) := by
  have cs : (nI s).toNatClampNeg = s := nI_clamp (by omega)
  have ct : (nI s).toInt = (s : Int) := nI_toInt (by omega)
  intro n
  induction n with
  | zero =>
    intro i ps hi h
    have : i = 12 := by omega
    subst this
    refine goV (n := 80) [(134, pf_X7_isPlank), (135, pf_X7_isGait)] [20] (T_cons (s_X7_isPlank hd) (T_cons (s_X7_isGait hd) T_nil)) ?_
    simp only [dX7_load_0, dX7_load_1, dX7_load_2, dX7_load_5, dX7_load_8, dX7_load_9, dX7_load_10, dX7_load_11, dX7_load_14, dX7_load_17, dX7_load_18, dX7_load_19, dX7_load_20, dX7_load_21, dX7_load_22, dX7_load_25, dX7_load_26, dX7_load_27, dX7_load_30, dX7_load_31, dX7_load_34, dX7_load_37, dX7_load_38, dX7_load_41, dX7_load_43, dX7_load_44, dX7_load_45, dX7_load_46, dX7_load_47, dX7_load_48, dX7_load_51, dX7_load_54, dX7_load_55, dX7_load_58, dX7_load_60, dX7_load_61, dX7_load_62, dX7_load_63, dX7_load_66, dX7_load_68, dX7_load_69, dX7_load_70, dX7_load_71, dX7_load_72, dX7_load_73, dX7_load_74, dX7_load_77, dX7_load_80, dX7_load_81, cr_7_224, cr_7_75, cr_7_95, cr_7_99, fr_7_60, fr_7_63, fr_7_9, al_10, al_11, al_12, al_13, al_14, al_16, al_17, al_18, al_19, al_2, al_20, al_21, al_23, al_24, al_27, al_28, al_29, al_3, al_30, al_31, al_32, al_34, al_36, al_37, al_38, al_39, al_4, al_40, al_41, al_42, al_43, al_45, al_46, al_47, al_48, al_49, al_5, al_52, al_53, al_54, al_55, al_56, al_57, al_58, al_6, al_60, al_61, al_62, al_63, al_64, al_65, al_66, al_67, al_69, al_7, al_70, al_71, al_72, al_73, al_9, cat_i, cat_l, cat_r, cat_u, gf_6_0_59, gf_6_23_59, gf_6_24_59, pcl_0, pcl_1, pcl_100, pcl_101, pcl_102, pcl_103, pcl_104, pcl_105, pcl_106, pcl_107, pcl_108, pcl_109, pcl_110, pcl_111, pcl_112, pcl_15, pcl_22, pcl_25, pcl_26, pcl_33, pcl_44, pcl_50, pcl_59, pcl_8, rOK_i, rOK_z, v_aload_0, v_bipush_14, v_bipush_40, v_getfield, v_goto, v_iadd, v_iaload, v_iastore, v_ic_ge, v_iconst_0, v_if_eq, v_iinc_2, v_iload_1, v_iload_2, v_imul, v_invs, v_invv, v_ireturn, v_istore_2, vcS_1_1, vcV_2_6, vgf_i, vgf_r, vgf_s, vc_d, rr_0, rr_1, csT_h, csT_t, csT_n, bI_0, bI_1, bI_z, bT, List.mem_cons, List.not_mem_nil, List.length_cons, List.length_nil, ite_not, ↓reduceIte, true_and, and_true, not_true_eq_false, not_false_eq_true, false_or, or_false, or_true, true_or, Nat.reduceAdd, Nat.reduceEqDiff, Nat.reduceBEq, Nat.reduceLeDiff, Nat.reduceLT, Nat.reduceSub, Int.reduceAdd, Int.reduceLE, Int.reduceLT, Int.reduceToNat, Int.reduceNeg, Int.reduceNatCast', reduceCtorEq, Int32.reduceOfInt, Int32.reduceOfNat, Int32.reduceToNatClampNeg, Int32.reduceToInt, i10, i01, nEM, pe_X7_isPlank, isP_m, show (isP (nI 12)) = False from by decide, cs, ct, mrow_n, he]
    refine ⟨by omega, ?_⟩
    by_cases h0 : nI m ≤ nI 12
    · rw [if_pos h0]
      exact h
    · rw [if_neg h0]
      exact h
  | succ n ih =>
    intro i ps hi h
    have c2 : (nI (40 * s + i)).toInt = ((40 * s + i : Nat) : Int) := nI_toInt (by omega)
    have c3 : (nI (40 * s + i)).toNatClampNeg = 40 * s + i := nI_clamp (by omega)
    have c4 : (nI (14 + i)).toInt = ((14 + i : Nat) : Int) := nI_toInt (by omega)
    have c5 : (nI (14 + i)).toNatClampNeg = 14 + i := nI_clamp (by omega)
    have hP : isP (nI i) := ⟨nI_pos (by omega), nI_ge (b := 12) (by omega) (by decide)⟩
    have hle : (nI m ≤ nI i) = ¬ i < m := by
      rw [propext (nI_leI (by omega) (by omega))]
      exact propext ⟨fun z => by omega, fun z => by omega⟩
    refine goV (n := 80) [(134, pf_X7_isPlank), (135, pf_X7_isGait)] [20] (T_cons (s_X7_isPlank hd) (T_cons (s_X7_isGait hd) T_nil)) ?_
    simp only [dX7_load_0, dX7_load_1, dX7_load_2, dX7_load_5, dX7_load_8, dX7_load_9, dX7_load_10, dX7_load_11, dX7_load_14, dX7_load_17, dX7_load_18, dX7_load_19, dX7_load_20, dX7_load_21, dX7_load_22, dX7_load_25, dX7_load_26, dX7_load_27, dX7_load_30, dX7_load_31, dX7_load_34, dX7_load_37, dX7_load_38, dX7_load_41, dX7_load_43, dX7_load_44, dX7_load_45, dX7_load_46, dX7_load_47, dX7_load_48, dX7_load_51, dX7_load_54, dX7_load_55, dX7_load_58, dX7_load_60, dX7_load_61, dX7_load_62, dX7_load_63, dX7_load_66, dX7_load_68, dX7_load_69, dX7_load_70, dX7_load_71, dX7_load_72, dX7_load_73, dX7_load_74, dX7_load_77, dX7_load_80, dX7_load_81, cr_7_224, cr_7_75, cr_7_95, cr_7_99, fr_7_60, fr_7_63, fr_7_9, al_10, al_11, al_12, al_13, al_14, al_16, al_17, al_18, al_19, al_2, al_20, al_21, al_23, al_24, al_27, al_28, al_29, al_3, al_30, al_31, al_32, al_34, al_36, al_37, al_38, al_39, al_4, al_40, al_41, al_42, al_43, al_45, al_46, al_47, al_48, al_49, al_5, al_52, al_53, al_54, al_55, al_56, al_57, al_58, al_6, al_60, al_61, al_62, al_63, al_64, al_65, al_66, al_67, al_69, al_7, al_70, al_71, al_72, al_73, al_9, cat_i, cat_l, cat_r, cat_u, gf_6_0_59, gf_6_23_59, gf_6_24_59, pcl_0, pcl_1, pcl_100, pcl_101, pcl_102, pcl_103, pcl_104, pcl_105, pcl_106, pcl_107, pcl_108, pcl_109, pcl_110, pcl_111, pcl_112, pcl_15, pcl_22, pcl_25, pcl_26, pcl_33, pcl_44, pcl_50, pcl_59, pcl_8, rOK_i, rOK_z, v_aload_0, v_bipush_14, v_bipush_40, v_getfield, v_goto, v_iadd, v_iaload, v_iastore, v_ic_ge, v_iconst_0, v_if_eq, v_iinc_2, v_iload_1, v_iload_2, v_imul, v_invs, v_invv, v_ireturn, v_istore_2, vcS_1_1, vcV_2_6, vgf_i, vgf_r, vgf_s, vc_d, rr_0, rr_1, csT_h, csT_t, csT_n, bI_0, bI_1, bI_z, bT, List.mem_cons, List.not_mem_nil, List.length_cons, List.length_nil, ite_not, ↓reduceIte, true_and, and_true, not_true_eq_false, not_false_eq_true, false_or, or_false, or_true, true_or, Nat.reduceAdd, Nat.reduceEqDiff, Nat.reduceBEq, Nat.reduceLeDiff, Nat.reduceLT, Nat.reduceSub, Int.reduceAdd, Int.reduceLE, Int.reduceLT, Int.reduceToNat, Int.reduceNeg, Int.reduceNatCast', reduceCtorEq, Int32.reduceOfInt, Int32.reduceOfNat, Int32.reduceToNatClampNeg, Int32.reduceToInt, i10, i01, nEM, pe_X7_isPlank, pe_X7_isGait, isP_m, eq_true hP, cs, ct, mrow_n, he, hle, c2, c3, c4, c5, p40, p14, nI_1, mset, mrow_s, mrow_mrow, rwQ_one (show i < 12 by omega)]
    refine ⟨by omega, ?_⟩
    rw [ldF] at h
    by_cases h1 : i < m
    · rw [if_pos h1]
      refine ⟨by omega, ?_⟩
      by_cases h2 : isG (M 72 (40 * s + i))
      · rw [if_pos ⟨h1, h2⟩] at h
        rw [if_pos h2]
        exact ⟨by omega, by omega, ih (i + 1) _ (by omega) h⟩
      · rw [if_neg (fun z => h2 z.2)] at h
        rw [if_neg h2]
        exact h
    · rw [if_neg (fun z => h1 z.1)] at h
      rw [if_neg h1]
      exact h
def pf_X7_load : PF := fun args M k => match args with
  | [.ref o, .int s] => (o = 59 ∧ ZM M) ∧ (if fdG M s = 0 then k (.int (nI (ldF (shR M (s).toNatClampNeg) (M 71 (s).toNatClampNeg).toNatClampNeg 12 0 (plr (M 60))).1)) (mrow M 60 (rwQ (M 60) (ldF (shR M (s).toNatClampNeg) (M 71 (s).toNatClampNeg).toNatClampNeg 12 0 (plr (M 60))).2)) else k (.int (fdG M s)) (fndM M (-1000001 - fdG M s).toNatClampNeg))
  | _ => False
theorem pe_X7_load {o : Nat} {s : Int32} {M : Mem} {k : Value → Mem → Prop} : pf_X7_load [.ref o, .int s] M k = ((o = 59 ∧ ZM M) ∧ (if fdG M s = 0 then k (.int (nI (ldF (shR M (s).toNatClampNeg) (M 71 (s).toNatClampNeg).toNatClampNeg 12 0 (plr (M 60))).1)) (mrow M 60 (rwQ (M 60) (ldF (shR M (s).toNatClampNeg) (M 71 (s).toNatClampNeg).toNatClampNeg 12 0 (plr (M 60))).2)) else k (.int (fdG M s)) (fndM M (-1000001 - fdG M s).toNatClampNeg))) := rfl
theorem le_X7_load {o : Nat} {s : Int32} : lent 3 ([.ref o, .int s] : List Value) = [.ref o, .int s, .retAddr 0] := rfl
set_option maxRecDepth 100000 in
set_option maxHeartbeats 4000000 in
theorem c_X7_load {d : Nat} (hd : 4 ≤ d) {o : Nat} {s : Int32} {M : Mem} {k : Value → Mem → Prop} (h : (o = 59 ∧ ZM M) ∧ (if fdG M s = 0 then k (.int (nI (ldF (shR M (s).toNatClampNeg) (M 71 (s).toNatClampNeg).toNatClampNeg 12 0 (plr (M 60))).1)) (mrow M 60 (rwQ (M 60) (ldF (shR M (s).toNatClampNeg) (M 71 (s).toNatClampNeg).toNatClampNeg 12 0 (plr (M 60))).2)) else k (.int (fdG M s)) (fndM M (-1000001 - fdG M s).toNatClampNeg))) : CallP d 223 [.ref o, .int s] M k := by
  obtain ⟨hp, h⟩ := h
  obtain ⟨d, rfl⟩ : ∃ d', d = d' + 1 := ⟨d - 1, by omega⟩
  obtain ⟨rfl, hz⟩ := hp
  · refine enterV (n := 80) [(189, pf_X7_lacks), (125, pf_X7_finding)] [20] mI_223 (by decide) (Nat.le_of_ble_eq_true rfl) (T_cons (s_X7_lacks (by omega)) (T_cons (s_X7_finding (by omega)) T_nil)) ?_
    rw [le_X7_load]
    simp only [dX7_load_0, dX7_load_1, dX7_load_2, dX7_load_5, dX7_load_8, dX7_load_9, dX7_load_10, dX7_load_11, dX7_load_14, dX7_load_17, dX7_load_18, dX7_load_19, dX7_load_20, dX7_load_21, dX7_load_22, dX7_load_25, dX7_load_26, dX7_load_27, dX7_load_30, dX7_load_31, dX7_load_34, dX7_load_37, dX7_load_38, dX7_load_41, dX7_load_43, dX7_load_44, dX7_load_45, dX7_load_46, dX7_load_47, dX7_load_48, dX7_load_51, dX7_load_54, dX7_load_55, dX7_load_58, dX7_load_60, dX7_load_61, dX7_load_62, dX7_load_63, dX7_load_66, dX7_load_68, dX7_load_69, dX7_load_70, dX7_load_71, dX7_load_72, dX7_load_73, dX7_load_74, dX7_load_77, dX7_load_80, dX7_load_81, cr_7_224, cr_7_75, cr_7_95, cr_7_99, fr_7_60, fr_7_63, fr_7_9, al_10, al_11, al_12, al_13, al_14, al_16, al_17, al_18, al_19, al_2, al_20, al_21, al_23, al_24, al_27, al_28, al_29, al_3, al_30, al_31, al_32, al_34, al_36, al_37, al_38, al_39, al_4, al_40, al_41, al_42, al_43, al_45, al_46, al_47, al_48, al_49, al_5, al_52, al_53, al_54, al_55, al_56, al_57, al_58, al_6, al_60, al_61, al_62, al_63, al_64, al_65, al_66, al_67, al_69, al_7, al_70, al_71, al_72, al_73, al_9, cat_i, cat_l, cat_r, cat_u, gf_6_0_59, gf_6_23_59, gf_6_24_59, pcl_0, pcl_1, pcl_100, pcl_101, pcl_102, pcl_103, pcl_104, pcl_105, pcl_106, pcl_107, pcl_108, pcl_109, pcl_110, pcl_111, pcl_112, pcl_15, pcl_22, pcl_25, pcl_26, pcl_33, pcl_44, pcl_50, pcl_59, pcl_8, rOK_i, rOK_z, v_aload_0, v_bipush_14, v_bipush_40, v_getfield, v_goto, v_iadd, v_iaload, v_iastore, v_ic_ge, v_iconst_0, v_if_eq, v_iinc_2, v_iload_1, v_iload_2, v_imul, v_invs, v_invv, v_ireturn, v_istore_2, vcS_1_1, vcV_2_6, vgf_i, vgf_r, vgf_s, vc_d, rr_0, rr_1, csT_h, csT_t, csT_n, bI_0, bI_1, bI_z, bT, List.mem_cons, List.not_mem_nil, List.length_cons, List.length_nil, ite_not, ↓reduceIte, true_and, and_true, not_true_eq_false, not_false_eq_true, false_or, or_false, or_true, true_or, Nat.reduceAdd, Nat.reduceEqDiff, Nat.reduceBEq, Nat.reduceLeDiff, Nat.reduceLT, Nat.reduceSub, Int.reduceAdd, Int.reduceLE, Int.reduceLT, Int.reduceToNat, Int.reduceNeg, Int.reduceNatCast', reduceCtorEq, Int32.reduceOfInt, Int32.reduceOfNat, Int32.reduceToNatClampNeg, Int32.reduceToInt, i10, i01, nEM, pe_X7_lacks, fn_0, fn_1, fn_2, fn_3, fn_4, fn_5, fn_6]
    by_cases h0 : fdG M s = 0
    · rw [if_pos h0] at h ⊢
      have hs := (fg0 h0).1
      obtain ⟨t, ht, rfl⟩ := s4_n hs
      obtain ⟨m, hm, he⟩ := hz t ht
      rw [nI_clamp (show t < 2 ^ 31 by omega), he, nI_clamp (show m < 2 ^ 31 by omega)] at h
      have := lp_loadM (d := d) (by omega) (M := M) (k := k) (r := M 60) ht hm he 12 0 (plr (M 60)) rfl h
      rw [rwQ_self, mrow_self] at this
      exact this
    · rw [if_neg h0] at h ⊢
      rw [fg_fn h0]
      simp only [dX7_load_0, dX7_load_1, dX7_load_2, dX7_load_5, dX7_load_8, dX7_load_9, dX7_load_10, dX7_load_11, dX7_load_14, dX7_load_17, dX7_load_18, dX7_load_19, dX7_load_20, dX7_load_21, dX7_load_22, dX7_load_25, dX7_load_26, dX7_load_27, dX7_load_30, dX7_load_31, dX7_load_34, dX7_load_37, dX7_load_38, dX7_load_41, dX7_load_43, dX7_load_44, dX7_load_45, dX7_load_46, dX7_load_47, dX7_load_48, dX7_load_51, dX7_load_54, dX7_load_55, dX7_load_58, dX7_load_60, dX7_load_61, dX7_load_62, dX7_load_63, dX7_load_66, dX7_load_68, dX7_load_69, dX7_load_70, dX7_load_71, dX7_load_72, dX7_load_73, dX7_load_74, dX7_load_77, dX7_load_80, dX7_load_81, cr_7_224, cr_7_75, cr_7_95, cr_7_99, fr_7_60, fr_7_63, fr_7_9, al_10, al_11, al_12, al_13, al_14, al_16, al_17, al_18, al_19, al_2, al_20, al_21, al_23, al_24, al_27, al_28, al_29, al_3, al_30, al_31, al_32, al_34, al_36, al_37, al_38, al_39, al_4, al_40, al_41, al_42, al_43, al_45, al_46, al_47, al_48, al_49, al_5, al_52, al_53, al_54, al_55, al_56, al_57, al_58, al_6, al_60, al_61, al_62, al_63, al_64, al_65, al_66, al_67, al_69, al_7, al_70, al_71, al_72, al_73, al_9, cat_i, cat_l, cat_r, cat_u, gf_6_0_59, gf_6_23_59, gf_6_24_59, pcl_0, pcl_1, pcl_100, pcl_101, pcl_102, pcl_103, pcl_104, pcl_105, pcl_106, pcl_107, pcl_108, pcl_109, pcl_110, pcl_111, pcl_112, pcl_15, pcl_22, pcl_25, pcl_26, pcl_33, pcl_44, pcl_50, pcl_59, pcl_8, rOK_i, rOK_z, v_aload_0, v_bipush_14, v_bipush_40, v_getfield, v_goto, v_iadd, v_iaload, v_iastore, v_ic_ge, v_iconst_0, v_if_eq, v_iinc_2, v_iload_1, v_iload_2, v_imul, v_invs, v_invv, v_ireturn, v_istore_2, vcS_1_1, vcV_2_6, vgf_i, vgf_r, vgf_s, vc_d, rr_0, rr_1, csT_h, csT_t, csT_n, bI_0, bI_1, bI_z, bT, List.mem_cons, List.not_mem_nil, List.length_cons, List.length_nil, ite_not, ↓reduceIte, true_and, and_true, not_true_eq_false, not_false_eq_true, false_or, or_false, or_true, true_or, Nat.reduceAdd, Nat.reduceEqDiff, Nat.reduceBEq, Nat.reduceLeDiff, Nat.reduceLT, Nat.reduceSub, Int.reduceAdd, Int.reduceLE, Int.reduceLT, Int.reduceToNat, Int.reduceNeg, Int.reduceNatCast', reduceCtorEq, Int32.reduceOfInt, Int32.reduceOfNat, Int32.reduceToNatClampNeg, Int32.reduceToInt, i10, i01, nEM, pe_X7_lacks, fn_0, fn_1, fn_2, fn_3, fn_4, fn_5, fn_6]
      exact h

theorem s_X7_load {d : Nat} (hd : 4 ≤ d) : Snd d 223 pf_X7_load := by
  intro args M k h
  unfold pf_X7_load at h
  split at h
  · exact c_X7_load hd h
  · exact h.elim
