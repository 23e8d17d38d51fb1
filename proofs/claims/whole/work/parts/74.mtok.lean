/-! M: tokens -/
theorem r_ldcwS {mi : MI} {d : Nat} {post : Value → Mem → Prop} {pc : Nat} {L st : List Value} {M : Mem} {i j : Nat} (hd : decode mi.2.2.1 pc = .ok (.ldc_w i, 3)) (hv : sres mi.1 i = some j) (k : WP mi d post (pc + 3) L (.ref (100 + j) :: st) M) : WP mi d post pc L st M :=
  fun l D tc σ p e s m args below meth c H locs ls C hL hP hS hl => by
    have hZ := C.2.2.2.2.2.2.2.2.2.2.2.2.2.2.2.2 _ _ _ hv
    intro T hT X
    obtain ⟨t, a1, b1⟩ := k l D tc σ p e s m args below meth c H locs ls C hL hP hS hl T hT X
    exact ⟨t, X.ldcStringW C.2.1 C.2.2.2.2.2.1 hZ.1 hZ.2 (g := F0 m pc ls (st.map (vr σ))) rfl (by rw [C.2.2.1]; exact hd) t a1, b1⟩
/-- a token: its class, where it begins, ends, its value -/
abbrev Tok : Type := Int32 × Nat × Nat × Int32
def vN (v c : Int32) : Int32 := if 10 * v + c - 48 < 1000 then 10 * v + c - 48 else 1000
/-- the tokens of the n bytes from i on; one may be open -/
def scT (f : Nat → Int32) : Nat → Nat → Option (Int32 × Nat × Int32) → List Tok
  | 0, _, none => []
  | 0, i, some (c, s, v) => [(c, s, i, v)]
  | n + 1, i, none => if stO (f i) = 0 then scT f n (i + 1) none else if stO (f i) = 1 ∨ stO (f i) = 2 then scT f n (i + 1) (some (stO (f i), i, if stO (f i) = 2 then vN 0 (f i) else 0)) else (stO (f i), i, i + 1, 0) :: scT f n (i + 1) none
  | n + 1, i, some (c, s, v) => if stO (f i) = c then scT f n (i + 1) (some (c, s, if c = 2 then vN v (f i) else v)) else (c, s, i, v) :: (if stO (f i) = 0 then scT f n (i + 1) none else if stO (f i) = 1 ∨ stO (f i) = 2 then scT f n (i + 1) (some (stO (f i), i, if stO (f i) = 2 then vN 0 (f i) else 0)) else (stO (f i), i, i + 1, 0) :: scT f n (i + 1) none)
theorem sc_close {f : Nat → Int32} {n i s : Nat} {c v : Int32} (h : n = 0 ∨ ¬ stO (f i) = c) : scT f n i (some (c, s, v)) = (c, s, i, v) :: scT f n i none := by
  cases n with
  | zero => rfl
  | succ n =>
    have h2 : ¬ stO (f i) = c := h.resolve_left (by omega)
    rw [scT, scT, if_neg h2]
theorem sc_go {f : Nat → Int32} {n i s : Nat} {c v : Int32} (h : stO (f i) = c) : scT f (n + 1) i (some (c, s, v)) = scT f n (i + 1) (some (c, s, if c = 2 then vN v (f i) else v)) := by
  rw [scT, if_pos h]
theorem sc_blank {f : Nat → Int32} {n i : Nat} (h : stO (f i) = 0) : scT f (n + 1) i none = scT f n (i + 1) none := by
  rw [scT, if_pos h]
theorem sc_w {f : Nat → Int32} {n i : Nat} (h : stO (f i) = 1) : scT f (n + 1) i none = scT f (n + 1) i (some (1, i, 0)) := by
  rw [scT, h, if_neg (by decide), if_pos (Or.inl rfl), if_neg (by decide), sc_go h, if_neg (by decide)]
theorem sc_n {f : Nat → Int32} {n i : Nat} (h : stO (f i) = 2) : scT f (n + 1) i none = scT f (n + 1) i (some (2, i, 0)) := by
  rw [scT, h, if_neg (by decide), if_pos (Or.inr rfl), if_pos rfl, sc_go h, if_pos rfl]
theorem sc_s {f : Nat → Int32} {n i : Nat} (h0 : ¬ stO (f i) = 0) (h1 : ¬ stO (f i) = 1) (h2 : ¬ stO (f i) = 2) : scT f (n + 1) i none = (stO (f i), i, i + 1, 0) :: scT f n (i + 1) none := by
  rw [scT, if_neg h0, if_neg (fun z => z.elim h1 h2)]
theorem stO_1 {v : Int32} : (stO v = 1) = (¬ v < 97 ∧ ¬ 122 < v) := by
  unfold stO
  apply propext
  by_cases h1 : ¬ v < 97 ∧ ¬ 122 < v
  · rw [if_pos h1]
    exact ⟨fun _ => h1, fun _ => rfl⟩
  · rw [if_neg h1]
    refine ⟨fun z => ?_, fun z => absurd z h1⟩
    repeat' split at z
    all_goals exact absurd z (by decide)
theorem stO_2 {v : Int32} : (stO v = 2) = (¬ v < 48 ∧ ¬ 57 < v) := by
  unfold stO
  apply propext
  by_cases h1 : ¬ v < 97 ∧ ¬ 122 < v
  · rw [if_pos h1]
    refine ⟨fun z => absurd z (by decide), fun z => ?_⟩
    exfalso
    have a := h1.1
    have b := z.2
    rw [Int32.lt_iff_toInt_lt] at a b
    simp only [Int32.reduceToInt] at a b
    omega
  · rw [if_neg h1]
    by_cases h2 : ¬ v < 48 ∧ ¬ 57 < v
    · rw [if_pos h2]
      exact ⟨fun _ => h2, fun _ => rfl⟩
    · rw [if_neg h2]
      refine ⟨fun z => ?_, fun z => absurd z h2⟩
      repeat' split at z
      all_goals exact absurd z (by decide)
theorem stO_0 {v : Int32} : (stO v = 0) = (v = 32) := by
  apply propext
  constructor
  · intro z
    unfold stO at z
    repeat' split at z
    all_goals first | exact absurd z (by decide) | assumption
  · rintro rfl
    decide
theorem stO_5 (v : Int32) : stO v = 0 ∨ stO v = 1 ∨ stO v = 2 ∨ stO v = 3 ∨ stO v = 4 := by
  unfold stO
  repeat' split
  all_goals decide
/-- the model's sort of a class -/
def ms (s : Int32) : Int32 := if s = 1 then 1 else if s = 2 then 2 else 3
/-- the model looks at the first of L -/
def TS (f : Nat → Int32) (N : Nat) (g : Nat → Int32) (L : List Tok) : Prop := ∃ e, e ≤ N ∧ g 14 = nI e ∧ match L with
  | [] => e = N ∧ g 13 = nI N ∧ g 15 = 0
  | (s, b, e', v) :: L' => e' = e ∧ b < e ∧ g 13 = nI b ∧ g 15 = ms s ∧ g 16 = v ∧ (s = 1 ∨ s = 2 ∨ s = 3 ∨ s = 4) ∧ stO (f b) = s ∧ L' = scT f (N - e) e none
def pf_X7_byteAt : PF := fun args M k => match args with
  | [.ref o, .int x] => (o = 59 ∧ ¬ x < 0 ∧ ∃ N, N ≤ 120 ∧ M 59 12 = nI N) ∧ (k (.int (if M 59 12 ≤ x then -1 else M 67 (x).toNatClampNeg)) M)
  | _ => False
theorem pe_X7_byteAt {o : Nat} {x : Int32} {M : Mem} {k : Value → Mem → Prop} : pf_X7_byteAt [.ref o, .int x] M k = ((o = 59 ∧ ¬ x < 0 ∧ ∃ N, N ≤ 120 ∧ M 59 12 = nI N) ∧ (k (.int (if M 59 12 ≤ x then -1 else M 67 (x).toNatClampNeg)) M)) := rfl
theorem le_X7_byteAt {o : Nat} {x : Int32} : lent 2 ([.ref o, .int x] : List Value) = [.ref o, .int x] := rfl
set_option maxRecDepth 100000 in
set_option maxHeartbeats 4000000 in
theorem c_X7_byteAt {d : Nat} (hd : 1 ≤ d) {o : Nat} {x : Int32} {M : Mem} {k : Value → Mem → Prop} (h : (o = 59 ∧ ¬ x < 0 ∧ ∃ N, N ≤ 120 ∧ M 59 12 = nI N) ∧ (k (.int (if M 59 12 ≤ x then -1 else M 67 (x).toNatClampNeg)) M)) : CallP d 202 [.ref o, .int x] M k := by
  obtain ⟨hp, h⟩ := h
  obtain ⟨d, rfl⟩ : ∃ d', d = d' + 1 := ⟨d - 1, by omega⟩
  obtain ⟨rfl, h1, N, hN, e⟩ := hp
  · refine enterV (n := 80) [] [] mI_202 (by decide) (Nat.le_of_ble_eq_true rfl) T_nil ?_
    rw [le_X7_byteAt]
    simp only [dX7_byteAt_0, dX7_byteAt_1, dX7_byteAt_2, dX7_byteAt_5, dX7_byteAt_8, dX7_byteAt_9, dX7_byteAt_12, dX7_byteAt_13, dX7_byteAt_14, dX7_byteAt_17, dX7_byteAt_18, fr_7_243, fr_7_31, al_10, al_11, al_12, al_13, al_14, al_16, al_17, al_18, al_19, al_2, al_20, al_21, al_23, al_24, al_27, al_28, al_29, al_3, al_30, al_31, al_32, al_34, al_36, al_37, al_38, al_39, al_4, al_40, al_41, al_42, al_43, al_45, al_46, al_47, al_48, al_49, al_5, al_52, al_53, al_54, al_55, al_56, al_57, al_58, al_6, al_60, al_61, al_62, al_63, al_64, al_65, al_66, al_67, al_69, al_7, al_70, al_71, al_72, al_73, al_9, gf_6_11_59, gf_6_12_59, pft_6_12, rOK_i, rOK_z, v_aload_0, v_getfield, v_goto, v_iaload, v_ic_ge, v_iconst_m1, v_iload_1, v_ireturn, vgf_i, vgf_r, vgf_s, vc_d, rr_0, rr_1, csT_h, csT_t, csT_n, bI_0, bI_1, bI_z, bT, List.mem_cons, List.not_mem_nil, List.length_cons, List.length_nil, ite_not, ↓reduceIte, true_and, and_true, not_true_eq_false, not_false_eq_true, false_or, or_false, or_true, true_or, Nat.reduceAdd, Nat.reduceEqDiff, Nat.reduceBEq, Nat.reduceLeDiff, Nat.reduceLT, Nat.reduceSub, Int.reduceAdd, Int.reduceLE, Int.reduceLT, Int.reduceToNat, Int.reduceNeg, Int.reduceNatCast', reduceCtorEq, Int32.reduceOfInt, Int32.reduceOfNat, Int32.reduceToNatClampNeg, Int32.reduceToInt, i10, i01, nEM]
    by_cases h2 : M 59 12 ≤ x
    · rw [if_pos h2] at h ⊢
      exact h
    · rw [if_neg h2] at h ⊢
      refine ⟨?_, h⟩
      obtain ⟨i, hi, rfl⟩ := nI_of h1
      rw [e, nI_leI (by omega) hi] at h2
      rw [nI_toInt hi]
      omega

theorem s_X7_byteAt {d : Nat} (hd : 1 ≤ d) : Snd d 202 pf_X7_byteAt := by
  intro args M k h
  unfold pf_X7_byteAt at h
  split at h
  · exact c_X7_byteAt hd h
  · exact h.elim
theorem bt_in {N i : Nat} {f : Nat → Int32} (hN : N ≤ 120) (h : i < N) : (if nI N ≤ nI i then (-1 : Int32) else f (nI i).toNatClampNeg) = f i := by
  rw [if_neg (nI_ge h (by omega)), nI_clamp (by omega)]
theorem bt_out {N i : Nat} {f : Nat → Int32} (hN : N ≤ 120) (h : N ≤ i) (hi : i < 2 ^ 31) : (if nI N ≤ nI i then (-1 : Int32) else f (nI i).toNatClampNeg) = -1 := by
  rw [if_pos (nI_le h (by omega))]
set_option maxRecDepth 100000 in
set_option maxHeartbeats 4000000 in
theorem lp_next1 {d : Nat} (hd : 1 ≤ d) {M : Mem} {k : Value → Mem → Prop} {N e0 : Nat} {x1 : Value} (hN : N ≤ 120) : ∀ (n i : Nat) (g : Nat → Int32), i + n = N → g 12 = nI N → g 13 = nI i → (∀ b, i ≤ b → b ≤ N → scT (M 67) (N - i) i none = scT (M 67) (N - b) b none → (b < N → ¬ stO (M 67 b) = 0) → WP (7, yX7_next, cX7_next, 2, none) (d + 1) k 34 [.ref 59, x1] [] (mrow M 59 (upd g 13 (nI b)))) → WP (7, yX7_next, cX7_next, 2, none) (d + 1) k 8 [.ref 59, x1] [] (mrow M 59 g) := by
  intro n
  induction n with
  | zero =>
    intro i g hi h12 h13 h
    have e := bt_out (f := M 67) hN (show N ≤ i by omega) (by omega)
    have hx : (∃ N', N' ≤ 120 ∧ nI N = nI N') = True := eq_true ⟨N, hN, rfl⟩
    have hp : ¬ nI i < 0 := nI_pos (by omega)
    refine goV (n := 80) [(202, pf_X7_byteAt)] [8, 34] (T_cons (s_X7_byteAt hd) T_nil) ?_
    simp only [dX7_next_0, dX7_next_1, dX7_next_2, dX7_next_5, dX7_next_8, dX7_next_9, dX7_next_10, dX7_next_13, dX7_next_16, dX7_next_18, dX7_next_21, dX7_next_22, dX7_next_23, dX7_next_26, dX7_next_27, dX7_next_28, dX7_next_31, dX7_next_34, dX7_next_35, dX7_next_36, dX7_next_39, dX7_next_42, dX7_next_43, dX7_next_44, dX7_next_45, dX7_next_48, dX7_next_51, dX7_next_52, dX7_next_53, dX7_next_56, dX7_next_57, dX7_next_60, dX7_next_61, dX7_next_62, dX7_next_65, dX7_next_68, dX7_next_69, dX7_next_71, dX7_next_73, dX7_next_76, dX7_next_79, dX7_next_80, dX7_next_81, dX7_next_84, dX7_next_85, dX7_next_86, dX7_next_89, dX7_next_92, dX7_next_94, dX7_next_96, dX7_next_99, dX7_next_102, dX7_next_103, dX7_next_104, dX7_next_107, dX7_next_108, dX7_next_109, dX7_next_112, dX7_next_115, dX7_next_116, dX7_next_118, dX7_next_120, dX7_next_123, dX7_next_126, dX7_next_127, dX7_next_128, dX7_next_131, dX7_next_132, dX7_next_133, dX7_next_136, dX7_next_139, dX7_next_141, dX7_next_143, dX7_next_146, dX7_next_149, dX7_next_150, dX7_next_153, dX7_next_155, dX7_next_156, dX7_next_159, dX7_next_160, dX7_next_161, dX7_next_162, dX7_next_165, dX7_next_168, dX7_next_169, dX7_next_171, dX7_next_172, dX7_next_175, dX7_next_178, dX7_next_179, dX7_next_180, dX7_next_183, dX7_next_184, dX7_next_185, dX7_next_188, dX7_next_191, dX7_next_192, dX7_next_193, dX7_next_196, dX7_next_197, dX7_next_198, dX7_next_201, dX7_next_202, dX7_next_203, dX7_next_206, cr_7_252, cr_7_79, cr_7_88, fr_7_246, fr_7_249, fr_7_255, fr_7_258, al_10, al_11, al_12, al_13, al_14, al_16, al_17, al_18, al_19, al_2, al_20, al_21, al_23, al_24, al_27, al_28, al_29, al_3, al_30, al_31, al_32, al_34, al_36, al_37, al_38, al_39, al_4, al_40, al_41, al_42, al_43, al_45, al_46, al_47, al_48, al_49, al_5, al_52, al_53, al_54, al_55, al_56, al_57, al_58, al_6, al_60, al_61, al_62, al_63, al_64, al_65, al_66, al_67, al_69, al_7, al_70, al_71, al_72, al_73, al_9, cat_i, cat_l, cat_r, cat_u, gf_6_13_59, gf_6_14_59, gf_6_15_59, gf_6_16_59, pcl_0, pcl_1, pcl_100, pcl_101, pcl_102, pcl_103, pcl_104, pcl_105, pcl_106, pcl_107, pcl_108, pcl_109, pcl_110, pcl_111, pcl_112, pcl_15, pcl_22, pcl_25, pcl_26, pcl_33, pcl_44, pcl_50, pcl_59, pcl_8, pft_6_13, pft_6_14, pft_6_15, pft_6_16, v_aload_0, v_bipush_10, v_bipush_122, v_bipush_32, v_bipush_48, v_bipush_57, v_bipush_97, v_dup, v_getfield, v_goto, v_iadd, v_ic_ne, v_iconst_0, v_iconst_1, v_iconst_2, v_iconst_3, v_if_eq, v_if_ge, v_iload_1, v_imul, v_invs, v_invv, v_istore_1, v_isub, v_putfield, v_return, v_sipush_1000, vcS_3_1, vcS_min, vcV_2_6, vgf_i, vgf_r, vgf_s, vpf_s, vc_d, rr_0, rr_1, csT_h, csT_t, csT_n, bI_0, bI_1, bI_z, bT, List.mem_cons, List.not_mem_nil, List.length_cons, List.length_nil, ite_not, ↓reduceIte, true_and, and_true, not_true_eq_false, not_false_eq_true, false_or, or_false, or_true, true_or, Nat.reduceAdd, Nat.reduceEqDiff, Nat.reduceBEq, Nat.reduceLeDiff, Nat.reduceLT, Nat.reduceSub, Int.reduceAdd, Int.reduceLE, Int.reduceLT, Int.reduceToNat, Int.reduceNeg, Int.reduceNatCast', reduceCtorEq, Int32.reduceOfInt, Int32.reduceOfNat, Int32.reduceToNatClampNeg, Int32.reduceToInt, i10, i01, nEM, pe_X7_byteAt, mrow_s, mrow_n, h12, h13, e, hx, hp, show ((-1 : Int32) = 32) = False from by decide]
    have := h i (Nat.le_refl _) (by omega) rfl (fun z => by omega)
    rw [← h13, upd_self] at this
    exact this
  | succ n ih =>
    intro i g hi h12 h13 h
    have e := bt_in (f := M 67) hN (show i < N by omega)
    have hx : (∃ N', N' ≤ 120 ∧ nI N = nI N') = True := eq_true ⟨N, hN, rfl⟩
    have hp : ¬ nI i < 0 := nI_pos (by omega)
    refine goV (n := 80) [(202, pf_X7_byteAt)] [8, 34] (T_cons (s_X7_byteAt hd) T_nil) ?_
    simp only [dX7_next_0, dX7_next_1, dX7_next_2, dX7_next_5, dX7_next_8, dX7_next_9, dX7_next_10, dX7_next_13, dX7_next_16, dX7_next_18, dX7_next_21, dX7_next_22, dX7_next_23, dX7_next_26, dX7_next_27, dX7_next_28, dX7_next_31, dX7_next_34, dX7_next_35, dX7_next_36, dX7_next_39, dX7_next_42, dX7_next_43, dX7_next_44, dX7_next_45, dX7_next_48, dX7_next_51, dX7_next_52, dX7_next_53, dX7_next_56, dX7_next_57, dX7_next_60, dX7_next_61, dX7_next_62, dX7_next_65, dX7_next_68, dX7_next_69, dX7_next_71, dX7_next_73, dX7_next_76, dX7_next_79, dX7_next_80, dX7_next_81, dX7_next_84, dX7_next_85, dX7_next_86, dX7_next_89, dX7_next_92, dX7_next_94, dX7_next_96, dX7_next_99, dX7_next_102, dX7_next_103, dX7_next_104, dX7_next_107, dX7_next_108, dX7_next_109, dX7_next_112, dX7_next_115, dX7_next_116, dX7_next_118, dX7_next_120, dX7_next_123, dX7_next_126, dX7_next_127, dX7_next_128, dX7_next_131, dX7_next_132, dX7_next_133, dX7_next_136, dX7_next_139, dX7_next_141, dX7_next_143, dX7_next_146, dX7_next_149, dX7_next_150, dX7_next_153, dX7_next_155, dX7_next_156, dX7_next_159, dX7_next_160, dX7_next_161, dX7_next_162, dX7_next_165, dX7_next_168, dX7_next_169, dX7_next_171, dX7_next_172, dX7_next_175, dX7_next_178, dX7_next_179, dX7_next_180, dX7_next_183, dX7_next_184, dX7_next_185, dX7_next_188, dX7_next_191, dX7_next_192, dX7_next_193, dX7_next_196, dX7_next_197, dX7_next_198, dX7_next_201, dX7_next_202, dX7_next_203, dX7_next_206, cr_7_252, cr_7_79, cr_7_88, fr_7_246, fr_7_249, fr_7_255, fr_7_258, al_10, al_11, al_12, al_13, al_14, al_16, al_17, al_18, al_19, al_2, al_20, al_21, al_23, al_24, al_27, al_28, al_29, al_3, al_30, al_31, al_32, al_34, al_36, al_37, al_38, al_39, al_4, al_40, al_41, al_42, al_43, al_45, al_46, al_47, al_48, al_49, al_5, al_52, al_53, al_54, al_55, al_56, al_57, al_58, al_6, al_60, al_61, al_62, al_63, al_64, al_65, al_66, al_67, al_69, al_7, al_70, al_71, al_72, al_73, al_9, cat_i, cat_l, cat_r, cat_u, gf_6_13_59, gf_6_14_59, gf_6_15_59, gf_6_16_59, pcl_0, pcl_1, pcl_100, pcl_101, pcl_102, pcl_103, pcl_104, pcl_105, pcl_106, pcl_107, pcl_108, pcl_109, pcl_110, pcl_111, pcl_112, pcl_15, pcl_22, pcl_25, pcl_26, pcl_33, pcl_44, pcl_50, pcl_59, pcl_8, pft_6_13, pft_6_14, pft_6_15, pft_6_16, v_aload_0, v_bipush_10, v_bipush_122, v_bipush_32, v_bipush_48, v_bipush_57, v_bipush_97, v_dup, v_getfield, v_goto, v_iadd, v_ic_ne, v_iconst_0, v_iconst_1, v_iconst_2, v_iconst_3, v_if_eq, v_if_ge, v_iload_1, v_imul, v_invs, v_invv, v_istore_1, v_isub, v_putfield, v_return, v_sipush_1000, vcS_3_1, vcS_min, vcV_2_6, vgf_i, vgf_r, vgf_s, vpf_s, vc_d, rr_0, rr_1, csT_h, csT_t, csT_n, bI_0, bI_1, bI_z, bT, List.mem_cons, List.not_mem_nil, List.length_cons, List.length_nil, ite_not, ↓reduceIte, true_and, and_true, not_true_eq_false, not_false_eq_true, false_or, or_false, or_true, true_or, Nat.reduceAdd, Nat.reduceEqDiff, Nat.reduceBEq, Nat.reduceLeDiff, Nat.reduceLT, Nat.reduceSub, Int.reduceAdd, Int.reduceLE, Int.reduceLT, Int.reduceToNat, Int.reduceNeg, Int.reduceNatCast', reduceCtorEq, Int32.reduceOfInt, Int32.reduceOfNat, Int32.reduceToNatClampNeg, Int32.reduceToInt, i10, i01, nEM, pe_X7_byteAt, mrow_s, mrow_n, h12, h13, e, hx, hp, nI_1, mset, mrow_mrow]
    by_cases hc : M 67 i = 32
    · rw [if_pos hc]
      have h0 : stO (M 67 i) = 0 := by rw [stO_0]; exact hc
      refine ih (i + 1) _ (by omega) (by rw [upd_n (by decide)]; exact h12) upd_s (fun b q1 q2 q3 q4 => ?_)
      rw [upd_upd]
      refine h b (by omega) q2 ?_ q4
      rw [show N - i = (N - (i + 1)) + 1 by omega, sc_blank h0]
      exact q3
    · rw [if_neg hc]
      have := h i (Nat.le_refl _) (by omega) rfl (fun _ => by rw [stO_0]; exact hc)
      rw [← h13, upd_self] at this
      exact this
set_option maxRecDepth 100000 in
set_option maxHeartbeats 4000000 in
theorem lp_next2 {d : Nat} (hd : 1 ≤ d) {M : Mem} {k : Value → Mem → Prop} {N s : Nat} {x1 : Value} (hN : N ≤ 120) : ∀ (n i : Nat) (g : Nat → Int32), i + n = N → g 12 = nI N → g 14 = nI i → (∀ e, i ≤ e → e ≤ N → scT (M 67) (N - i) i (some (1, s, 0)) = (1, s, e, 0) :: scT (M 67) (N - e) e none → k (.int 0) (mrow M 59 (upd g 14 (nI e)))) → WP (7, yX7_next, cX7_next, 2, none) (d + 1) k 84 [.ref 59, x1] [] (mrow M 59 g) := by
  intro n
  induction n with
  | zero =>
    intro i g hi h12 h14 h
    have e := bt_out (f := M 67) hN (show N ≤ i by omega) (by omega)
    have hx : (∃ N', N' ≤ 120 ∧ nI N = nI N') = True := eq_true ⟨N, hN, rfl⟩
    have hp : ¬ nI i < 0 := nI_pos (by omega)
    refine goV (n := 80) [(202, pf_X7_byteAt), (126, pf_X7_within)] [84] (T_cons (s_X7_byteAt hd) (T_cons (s_X7_within hd) T_nil)) ?_
    simp only [dX7_next_0, dX7_next_1, dX7_next_2, dX7_next_5, dX7_next_8, dX7_next_9, dX7_next_10, dX7_next_13, dX7_next_16, dX7_next_18, dX7_next_21, dX7_next_22, dX7_next_23, dX7_next_26, dX7_next_27, dX7_next_28, dX7_next_31, dX7_next_34, dX7_next_35, dX7_next_36, dX7_next_39, dX7_next_42, dX7_next_43, dX7_next_44, dX7_next_45, dX7_next_48, dX7_next_51, dX7_next_52, dX7_next_53, dX7_next_56, dX7_next_57, dX7_next_60, dX7_next_61, dX7_next_62, dX7_next_65, dX7_next_68, dX7_next_69, dX7_next_71, dX7_next_73, dX7_next_76, dX7_next_79, dX7_next_80, dX7_next_81, dX7_next_84, dX7_next_85, dX7_next_86, dX7_next_89, dX7_next_92, dX7_next_94, dX7_next_96, dX7_next_99, dX7_next_102, dX7_next_103, dX7_next_104, dX7_next_107, dX7_next_108, dX7_next_109, dX7_next_112, dX7_next_115, dX7_next_116, dX7_next_118, dX7_next_120, dX7_next_123, dX7_next_126, dX7_next_127, dX7_next_128, dX7_next_131, dX7_next_132, dX7_next_133, dX7_next_136, dX7_next_139, dX7_next_141, dX7_next_143, dX7_next_146, dX7_next_149, dX7_next_150, dX7_next_153, dX7_next_155, dX7_next_156, dX7_next_159, dX7_next_160, dX7_next_161, dX7_next_162, dX7_next_165, dX7_next_168, dX7_next_169, dX7_next_171, dX7_next_172, dX7_next_175, dX7_next_178, dX7_next_179, dX7_next_180, dX7_next_183, dX7_next_184, dX7_next_185, dX7_next_188, dX7_next_191, dX7_next_192, dX7_next_193, dX7_next_196, dX7_next_197, dX7_next_198, dX7_next_201, dX7_next_202, dX7_next_203, dX7_next_206, cr_7_252, cr_7_79, cr_7_88, fr_7_246, fr_7_249, fr_7_255, fr_7_258, al_10, al_11, al_12, al_13, al_14, al_16, al_17, al_18, al_19, al_2, al_20, al_21, al_23, al_24, al_27, al_28, al_29, al_3, al_30, al_31, al_32, al_34, al_36, al_37, al_38, al_39, al_4, al_40, al_41, al_42, al_43, al_45, al_46, al_47, al_48, al_49, al_5, al_52, al_53, al_54, al_55, al_56, al_57, al_58, al_6, al_60, al_61, al_62, al_63, al_64, al_65, al_66, al_67, al_69, al_7, al_70, al_71, al_72, al_73, al_9, cat_i, cat_l, cat_r, cat_u, gf_6_13_59, gf_6_14_59, gf_6_15_59, gf_6_16_59, pcl_0, pcl_1, pcl_100, pcl_101, pcl_102, pcl_103, pcl_104, pcl_105, pcl_106, pcl_107, pcl_108, pcl_109, pcl_110, pcl_111, pcl_112, pcl_15, pcl_22, pcl_25, pcl_26, pcl_33, pcl_44, pcl_50, pcl_59, pcl_8, pft_6_13, pft_6_14, pft_6_15, pft_6_16, v_aload_0, v_bipush_10, v_bipush_122, v_bipush_32, v_bipush_48, v_bipush_57, v_bipush_97, v_dup, v_getfield, v_goto, v_iadd, v_ic_ne, v_iconst_0, v_iconst_1, v_iconst_2, v_iconst_3, v_if_eq, v_if_ge, v_iload_1, v_imul, v_invs, v_invv, v_istore_1, v_isub, v_putfield, v_return, v_sipush_1000, vcS_3_1, vcS_min, vcV_2_6, vgf_i, vgf_r, vgf_s, vpf_s, vc_d, rr_0, rr_1, csT_h, csT_t, csT_n, bI_0, bI_1, bI_z, bT, List.mem_cons, List.not_mem_nil, List.length_cons, List.length_nil, ite_not, ↓reduceIte, true_and, and_true, not_true_eq_false, not_false_eq_true, false_or, or_false, or_true, true_or, Nat.reduceAdd, Nat.reduceEqDiff, Nat.reduceBEq, Nat.reduceLeDiff, Nat.reduceLT, Nat.reduceSub, Int.reduceAdd, Int.reduceLE, Int.reduceLT, Int.reduceToNat, Int.reduceNeg, Int.reduceNatCast', reduceCtorEq, Int32.reduceOfInt, Int32.reduceOfNat, Int32.reduceToNatClampNeg, Int32.reduceToInt, i10, i01, nEM, pe_X7_byteAt, pe_X7_within, mrow_s, mrow_n, h12, h14, e, hx, hp, show ((-1 : Int32) < 97) = True from by decide]
    have := h i (Nat.le_refl _) (by omega) (sc_close (Or.inl (by omega)))
    rw [← h14, upd_self] at this
    exact this
  | succ n ih =>
    intro i g hi h12 h14 h
    have e := bt_in (f := M 67) hN (show i < N by omega)
    have hx : (∃ N', N' ≤ 120 ∧ nI N = nI N') = True := eq_true ⟨N, hN, rfl⟩
    have hp : ¬ nI i < 0 := nI_pos (by omega)
    refine goV (n := 80) [(202, pf_X7_byteAt), (126, pf_X7_within)] [84] (T_cons (s_X7_byteAt hd) (T_cons (s_X7_within hd) T_nil)) ?_
    simp only [dX7_next_0, dX7_next_1, dX7_next_2, dX7_next_5, dX7_next_8, dX7_next_9, dX7_next_10, dX7_next_13, dX7_next_16, dX7_next_18, dX7_next_21, dX7_next_22, dX7_next_23, dX7_next_26, dX7_next_27, dX7_next_28, dX7_next_31, dX7_next_34, dX7_next_35, dX7_next_36, dX7_next_39, dX7_next_42, dX7_next_43, dX7_next_44, dX7_next_45, dX7_next_48, dX7_next_51, dX7_next_52, dX7_next_53, dX7_next_56, dX7_next_57, dX7_next_60, dX7_next_61, dX7_next_62, dX7_next_65, dX7_next_68, dX7_next_69, dX7_next_71, dX7_next_73, dX7_next_76, dX7_next_79, dX7_next_80, dX7_next_81, dX7_next_84, dX7_next_85, dX7_next_86, dX7_next_89, dX7_next_92, dX7_next_94, dX7_next_96, dX7_next_99, dX7_next_102, dX7_next_103, dX7_next_104, dX7_next_107, dX7_next_108, dX7_next_109, dX7_next_112, dX7_next_115, dX7_next_116, dX7_next_118, dX7_next_120, dX7_next_123, dX7_next_126, dX7_next_127, dX7_next_128, dX7_next_131, dX7_next_132, dX7_next_133, dX7_next_136, dX7_next_139, dX7_next_141, dX7_next_143, dX7_next_146, dX7_next_149, dX7_next_150, dX7_next_153, dX7_next_155, dX7_next_156, dX7_next_159, dX7_next_160, dX7_next_161, dX7_next_162, dX7_next_165, dX7_next_168, dX7_next_169, dX7_next_171, dX7_next_172, dX7_next_175, dX7_next_178, dX7_next_179, dX7_next_180, dX7_next_183, dX7_next_184, dX7_next_185, dX7_next_188, dX7_next_191, dX7_next_192, dX7_next_193, dX7_next_196, dX7_next_197, dX7_next_198, dX7_next_201, dX7_next_202, dX7_next_203, dX7_next_206, cr_7_252, cr_7_79, cr_7_88, fr_7_246, fr_7_249, fr_7_255, fr_7_258, al_10, al_11, al_12, al_13, al_14, al_16, al_17, al_18, al_19, al_2, al_20, al_21, al_23, al_24, al_27, al_28, al_29, al_3, al_30, al_31, al_32, al_34, al_36, al_37, al_38, al_39, al_4, al_40, al_41, al_42, al_43, al_45, al_46, al_47, al_48, al_49, al_5, al_52, al_53, al_54, al_55, al_56, al_57, al_58, al_6, al_60, al_61, al_62, al_63, al_64, al_65, al_66, al_67, al_69, al_7, al_70, al_71, al_72, al_73, al_9, cat_i, cat_l, cat_r, cat_u, gf_6_13_59, gf_6_14_59, gf_6_15_59, gf_6_16_59, pcl_0, pcl_1, pcl_100, pcl_101, pcl_102, pcl_103, pcl_104, pcl_105, pcl_106, pcl_107, pcl_108, pcl_109, pcl_110, pcl_111, pcl_112, pcl_15, pcl_22, pcl_25, pcl_26, pcl_33, pcl_44, pcl_50, pcl_59, pcl_8, pft_6_13, pft_6_14, pft_6_15, pft_6_16, v_aload_0, v_bipush_10, v_bipush_122, v_bipush_32, v_bipush_48, v_bipush_57, v_bipush_97, v_dup, v_getfield, v_goto, v_iadd, v_ic_ne, v_iconst_0, v_iconst_1, v_iconst_2, v_iconst_3, v_if_eq, v_if_ge, v_iload_1, v_imul, v_invs, v_invv, v_istore_1, v_isub, v_putfield, v_return, v_sipush_1000, vcS_3_1, vcS_min, vcV_2_6, vgf_i, vgf_r, vgf_s, vpf_s, vc_d, rr_0, rr_1, csT_h, csT_t, csT_n, bI_0, bI_1, bI_z, bT, List.mem_cons, List.not_mem_nil, List.length_cons, List.length_nil, ite_not, ↓reduceIte, true_and, and_true, not_true_eq_false, not_false_eq_true, false_or, or_false, or_true, true_or, Nat.reduceAdd, Nat.reduceEqDiff, Nat.reduceBEq, Nat.reduceLeDiff, Nat.reduceLT, Nat.reduceSub, Int.reduceAdd, Int.reduceLE, Int.reduceLT, Int.reduceToNat, Int.reduceNeg, Int.reduceNatCast', reduceCtorEq, Int32.reduceOfInt, Int32.reduceOfNat, Int32.reduceToNatClampNeg, Int32.reduceToInt, i10, i01, nEM, pe_X7_byteAt, pe_X7_within, mrow_s, mrow_n, h12, h14, e, hx, hp, nI_1, mset, mrow_mrow]
    by_cases hc : ¬ M 67 i < 97 ∧ ¬ 122 < M 67 i
    · rw [if_pos hc]
      have h0 : stO (M 67 i) = 1 := by rw [stO_1]; exact hc
      refine ih (i + 1) _ (by omega) (by rw [upd_n (by decide)]; exact h12) upd_s (fun b q1 q2 q3 => ?_)
      rw [upd_upd]
      refine h b (by omega) q2 ?_
      rw [show N - i = (N - (i + 1)) + 1 by omega, sc_go h0, if_neg (by decide)]
      exact q3
    · rw [if_neg hc]
      have := h i (Nat.le_refl _) (by omega) (sc_close (Or.inr (by rw [stO_1]; exact hc)))
      rw [← h14, upd_self] at this
      exact this
set_option maxRecDepth 100000 in
set_option maxHeartbeats 4000000 in
theorem lp_next3 {d : Nat} (hd : 1 ≤ d) {M : Mem} {k : Value → Mem → Prop} {N s : Nat} {x1 : Value} (hN : N ≤ 120) : ∀ (n i : Nat) (g : Nat → Int32), i + n = N → g 12 = nI N → g 14 = nI i → (∀ e v, i ≤ e → e ≤ N → scT (M 67) (N - i) i (some (2, s, g 16)) = (2, s, e, v) :: scT (M 67) (N - e) e none → k (.int 0) (mrow M 59 (upd (upd g 16 v) 14 (nI e)))) → WP (7, yX7_next, cX7_next, 2, none) (d + 1) k 131 [.ref 59, x1] [] (mrow M 59 g) := by
  intro n
  induction n with
  | zero =>
    intro i g hi h12 h14 h
    have e := bt_out (f := M 67) hN (show N ≤ i by omega) (by omega)
    have hx : (∃ N', N' ≤ 120 ∧ nI N = nI N') = True := eq_true ⟨N, hN, rfl⟩
    have hp : ¬ nI i < 0 := nI_pos (by omega)
    refine goV (n := 80) [(202, pf_X7_byteAt), (126, pf_X7_within)] [131] (T_cons (s_X7_byteAt hd) (T_cons (s_X7_within hd) T_nil)) ?_
    simp only [dX7_next_0, dX7_next_1, dX7_next_2, dX7_next_5, dX7_next_8, dX7_next_9, dX7_next_10, dX7_next_13, dX7_next_16, dX7_next_18, dX7_next_21, dX7_next_22, dX7_next_23, dX7_next_26, dX7_next_27, dX7_next_28, dX7_next_31, dX7_next_34, dX7_next_35, dX7_next_36, dX7_next_39, dX7_next_42, dX7_next_43, dX7_next_44, dX7_next_45, dX7_next_48, dX7_next_51, dX7_next_52, dX7_next_53, dX7_next_56, dX7_next_57, dX7_next_60, dX7_next_61, dX7_next_62, dX7_next_65, dX7_next_68, dX7_next_69, dX7_next_71, dX7_next_73, dX7_next_76, dX7_next_79, dX7_next_80, dX7_next_81, dX7_next_84, dX7_next_85, dX7_next_86, dX7_next_89, dX7_next_92, dX7_next_94, dX7_next_96, dX7_next_99, dX7_next_102, dX7_next_103, dX7_next_104, dX7_next_107, dX7_next_108, dX7_next_109, dX7_next_112, dX7_next_115, dX7_next_116, dX7_next_118, dX7_next_120, dX7_next_123, dX7_next_126, dX7_next_127, dX7_next_128, dX7_next_131, dX7_next_132, dX7_next_133, dX7_next_136, dX7_next_139, dX7_next_141, dX7_next_143, dX7_next_146, dX7_next_149, dX7_next_150, dX7_next_153, dX7_next_155, dX7_next_156, dX7_next_159, dX7_next_160, dX7_next_161, dX7_next_162, dX7_next_165, dX7_next_168, dX7_next_169, dX7_next_171, dX7_next_172, dX7_next_175, dX7_next_178, dX7_next_179, dX7_next_180, dX7_next_183, dX7_next_184, dX7_next_185, dX7_next_188, dX7_next_191, dX7_next_192, dX7_next_193, dX7_next_196, dX7_next_197, dX7_next_198, dX7_next_201, dX7_next_202, dX7_next_203, dX7_next_206, cr_7_252, cr_7_79, cr_7_88, fr_7_246, fr_7_249, fr_7_255, fr_7_258, al_10, al_11, al_12, al_13, al_14, al_16, al_17, al_18, al_19, al_2, al_20, al_21, al_23, al_24, al_27, al_28, al_29, al_3, al_30, al_31, al_32, al_34, al_36, al_37, al_38, al_39, al_4, al_40, al_41, al_42, al_43, al_45, al_46, al_47, al_48, al_49, al_5, al_52, al_53, al_54, al_55, al_56, al_57, al_58, al_6, al_60, al_61, al_62, al_63, al_64, al_65, al_66, al_67, al_69, al_7, al_70, al_71, al_72, al_73, al_9, cat_i, cat_l, cat_r, cat_u, gf_6_13_59, gf_6_14_59, gf_6_15_59, gf_6_16_59, pcl_0, pcl_1, pcl_100, pcl_101, pcl_102, pcl_103, pcl_104, pcl_105, pcl_106, pcl_107, pcl_108, pcl_109, pcl_110, pcl_111, pcl_112, pcl_15, pcl_22, pcl_25, pcl_26, pcl_33, pcl_44, pcl_50, pcl_59, pcl_8, pft_6_13, pft_6_14, pft_6_15, pft_6_16, v_aload_0, v_bipush_10, v_bipush_122, v_bipush_32, v_bipush_48, v_bipush_57, v_bipush_97, v_dup, v_getfield, v_goto, v_iadd, v_ic_ne, v_iconst_0, v_iconst_1, v_iconst_2, v_iconst_3, v_if_eq, v_if_ge, v_iload_1, v_imul, v_invs, v_invv, v_istore_1, v_isub, v_putfield, v_return, v_sipush_1000, vcS_3_1, vcS_min, vcV_2_6, vgf_i, vgf_r, vgf_s, vpf_s, vc_d, rr_0, rr_1, csT_h, csT_t, csT_n, bI_0, bI_1, bI_z, bT, List.mem_cons, List.not_mem_nil, List.length_cons, List.length_nil, ite_not, ↓reduceIte, true_and, and_true, not_true_eq_false, not_false_eq_true, false_or, or_false, or_true, true_or, Nat.reduceAdd, Nat.reduceEqDiff, Nat.reduceBEq, Nat.reduceLeDiff, Nat.reduceLT, Nat.reduceSub, Int.reduceAdd, Int.reduceLE, Int.reduceLT, Int.reduceToNat, Int.reduceNeg, Int.reduceNatCast', reduceCtorEq, Int32.reduceOfInt, Int32.reduceOfNat, Int32.reduceToNatClampNeg, Int32.reduceToInt, i10, i01, nEM, pe_X7_byteAt, pe_X7_within, mrow_s, mrow_n, h12, h14, e, hx, hp, show ((-1 : Int32) < 48) = True from by decide]
    have := h i (g 16) (Nat.le_refl _) (by omega) (sc_close (Or.inl (by omega)))
    rw [upd_self, ← h14, upd_self] at this
    exact this
  | succ n ih =>
    intro i g hi h12 h14 h
    have e := bt_in (f := M 67) hN (show i < N by omega)
    have hx : (∃ N', N' ≤ 120 ∧ nI N = nI N') = True := eq_true ⟨N, hN, rfl⟩
    have hp : ¬ nI i < 0 := nI_pos (by omega)
    refine goV (n := 80) [(202, pf_X7_byteAt), (126, pf_X7_within)] [131] (T_cons (s_X7_byteAt hd) (T_cons (s_X7_within hd) T_nil)) ?_
    simp only [dX7_next_0, dX7_next_1, dX7_next_2, dX7_next_5, dX7_next_8, dX7_next_9, dX7_next_10, dX7_next_13, dX7_next_16, dX7_next_18, dX7_next_21, dX7_next_22, dX7_next_23, dX7_next_26, dX7_next_27, dX7_next_28, dX7_next_31, dX7_next_34, dX7_next_35, dX7_next_36, dX7_next_39, dX7_next_42, dX7_next_43, dX7_next_44, dX7_next_45, dX7_next_48, dX7_next_51, dX7_next_52, dX7_next_53, dX7_next_56, dX7_next_57, dX7_next_60, dX7_next_61, dX7_next_62, dX7_next_65, dX7_next_68, dX7_next_69, dX7_next_71, dX7_next_73, dX7_next_76, dX7_next_79, dX7_next_80, dX7_next_81, dX7_next_84, dX7_next_85, dX7_next_86, dX7_next_89, dX7_next_92, dX7_next_94, dX7_next_96, dX7_next_99, dX7_next_102, dX7_next_103, dX7_next_104, dX7_next_107, dX7_next_108, dX7_next_109, dX7_next_112, dX7_next_115, dX7_next_116, dX7_next_118, dX7_next_120, dX7_next_123, dX7_next_126, dX7_next_127, dX7_next_128, dX7_next_131, dX7_next_132, dX7_next_133, dX7_next_136, dX7_next_139, dX7_next_141, dX7_next_143, dX7_next_146, dX7_next_149, dX7_next_150, dX7_next_153, dX7_next_155, dX7_next_156, dX7_next_159, dX7_next_160, dX7_next_161, dX7_next_162, dX7_next_165, dX7_next_168, dX7_next_169, dX7_next_171, dX7_next_172, dX7_next_175, dX7_next_178, dX7_next_179, dX7_next_180, dX7_next_183, dX7_next_184, dX7_next_185, dX7_next_188, dX7_next_191, dX7_next_192, dX7_next_193, dX7_next_196, dX7_next_197, dX7_next_198, dX7_next_201, dX7_next_202, dX7_next_203, dX7_next_206, cr_7_252, cr_7_79, cr_7_88, fr_7_246, fr_7_249, fr_7_255, fr_7_258, al_10, al_11, al_12, al_13, al_14, al_16, al_17, al_18, al_19, al_2, al_20, al_21, al_23, al_24, al_27, al_28, al_29, al_3, al_30, al_31, al_32, al_34, al_36, al_37, al_38, al_39, al_4, al_40, al_41, al_42, al_43, al_45, al_46, al_47, al_48, al_49, al_5, al_52, al_53, al_54, al_55, al_56, al_57, al_58, al_6, al_60, al_61, al_62, al_63, al_64, al_65, al_66, al_67, al_69, al_7, al_70, al_71, al_72, al_73, al_9, cat_i, cat_l, cat_r, cat_u, gf_6_13_59, gf_6_14_59, gf_6_15_59, gf_6_16_59, pcl_0, pcl_1, pcl_100, pcl_101, pcl_102, pcl_103, pcl_104, pcl_105, pcl_106, pcl_107, pcl_108, pcl_109, pcl_110, pcl_111, pcl_112, pcl_15, pcl_22, pcl_25, pcl_26, pcl_33, pcl_44, pcl_50, pcl_59, pcl_8, pft_6_13, pft_6_14, pft_6_15, pft_6_16, v_aload_0, v_bipush_10, v_bipush_122, v_bipush_32, v_bipush_48, v_bipush_57, v_bipush_97, v_dup, v_getfield, v_goto, v_iadd, v_ic_ne, v_iconst_0, v_iconst_1, v_iconst_2, v_iconst_3, v_if_eq, v_if_ge, v_iload_1, v_imul, v_invs, v_invv, v_istore_1, v_isub, v_putfield, v_return, v_sipush_1000, vcS_3_1, vcS_min, vcV_2_6, vgf_i, vgf_r, vgf_s, vpf_s, vc_d, rr_0, rr_1, csT_h, csT_t, csT_n, bI_0, bI_1, bI_z, bT, List.mem_cons, List.not_mem_nil, List.length_cons, List.length_nil, ite_not, ↓reduceIte, true_and, and_true, not_true_eq_false, not_false_eq_true, false_or, or_false, or_true, true_or, Nat.reduceAdd, Nat.reduceEqDiff, Nat.reduceBEq, Nat.reduceLeDiff, Nat.reduceLT, Nat.reduceSub, Int.reduceAdd, Int.reduceLE, Int.reduceLT, Int.reduceToNat, Int.reduceNeg, Int.reduceNatCast', reduceCtorEq, Int32.reduceOfInt, Int32.reduceOfNat, Int32.reduceToNatClampNeg, Int32.reduceToInt, i10, i01, nEM, pe_X7_byteAt, pe_X7_within, mrow_s, mrow_n, h12, h14, e, hx, hp, nI_1, mset, mrow_mrow, upd_n]
    by_cases hc : ¬ M 67 i < 48 ∧ ¬ 57 < M 67 i
    · rw [if_pos hc]
      have h0 : stO (M 67 i) = 2 := by rw [stO_2]; exact hc
      have key : (if 10 * g 16 + M 67 i - 48 < 1000 then 10 * g 16 + M 67 i - 48 else 1000) = vN (g 16) (M 67 i) := rfl
      rw [key]
      refine ih (i + 1) _ (by omega) (by rw [upd_n (by decide), upd_n (by decide)]; exact h12) upd_s (fun b v q1 q2 q3 => ?_)
      rw [upd_n (by decide), upd_s] at q3
      have := h b v (by omega) q2 (by
        rw [show N - i = (N - (i + 1)) + 1 by omega, sc_go h0, if_pos rfl]
        exact q3)
      have e2 : upd (upd (upd (upd g 16 (vN (g 16) (M 67 i))) 14 (nI (i + 1))) 16 v) 14 (nI b) = upd (upd g 16 v) 14 (nI b) := by
        funext z
        unfold upd
        by_cases z1 : z = 14 <;> by_cases z2 : z = 16 <;> simp [z1, z2]
      rw [e2]
      exact this
    · rw [if_neg hc]
      have := h i (g 16) (Nat.le_refl _) (by omega) (sc_close (Or.inr (by rw [stO_2]; exact hc)))
      rw [upd_self, ← h14, upd_self] at this
      exact this
