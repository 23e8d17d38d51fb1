/-! BOTH: text, whole -/
theorem spM_1 : ∀ (n i : Nat) (b : Int32) (M : Mem), spM n i b M 44 1 = M 44 1 := by
  intro n
  induction n with
  | zero => intro i b M; rfl
  | succ n ih =>
    intro i b M
    rw [spM, ih]
    unfold stepM gwL
    split
    · rfl
    · rw [gwM_o (by decide) (by decide)]
      split
      · rfl
      · exact bgM_44 (by decide)
theorem wnN_c {f g : Nat → Int32} {a b : Nat} (h : ∀ j, j < b → f j = g j) : ∀ (n j : Nat), wnN f a b n j = wnN g a b n j := by
  intro n
  induction n with
  | zero => intro j; rfl
  | succ n ih =>
    intro j
    rw [wnN, wnN, ih]
    have e : wdP f a b j ↔ wdP g a b j := by
      constructor
      · rintro ⟨x, y⟩
        exact ⟨x, fun q hq => by rw [← h _ (by omega)]; exact y q hq⟩
      · rintro ⟨x, y⟩
        exact ⟨x, fun q hq => by rw [h _ (by omega)]; exact y q hq⟩
    by_cases z : wdP g a b j
    · rw [if_pos z, if_pos (e.mpr z)]
    · rw [if_neg z, if_neg (fun y => z (e.mp y))]
theorem nmV_c {f g : Nat → Int32} {x : Tok} (h : ∀ j, j < x.2.2.1 → f j = g j) : nmV f x = nmV g x := by
  unfold nmV
  rw [wnN_c h]
theorem gd_mem {L : List Tok} {t : Nat} (z : t < L.length) : L.getD t (0, 0, 0, 0) ∈ L := by
  have : L.getD t (0, 0, 0, 0) = L[t] := by simp [List.getD, z]
  rw [this]
  exact List.getElem_mem z
theorem tk_AX {M : Mem} {N : Nat} {g : Nat → Int32} (hN : N ≤ 120) (h1 : M 44 1 = nI N) (hg : ∀ j, j < N → M 45 j = g j) : AX g N (scT g N 0 none) (tkM M N) := by
  have eL : scT (M 45) N 0 none = scT g N 0 none := sc_congr N 0 (fun j hj => hg j (by omega)) none
  have hS := spl_rep (M := M) hN
  unfold tkL at hS
  rw [eL] at hS
  have hlen : (scT g N 0 none).length ≤ 120 := Nat.le_trans (sc_len N 0).1 hN
  have hok := (sc_ok (f := g) (N := N) N 0 (by omega)).1
  generalize scT g N 0 none = L at hS hlen hok ⊢
  obtain ⟨s1, s2⟩ := hS
  have el : (L ++ [((5 : Int32), N, N, (0 : Int32))]).length = L.length + 1 := by rw [List.length_append]; rfl
  rw [el] at s1 s2
  have e6 : (splM M N 44 6).toNatClampNeg = L.length + 1 := by rw [s1]; exact nI_clamp (by omega)
  have hb : ∀ t, t < (L ++ [((5 : Int32), N, N, (0 : Int32))]).length → ((L ++ [((5 : Int32), N, N, (0 : Int32))]).getD t (0, 0, 0, 0)).2.1 < 2 ^ 31 ∧ ((L ++ [((5 : Int32), N, N, (0 : Int32))]).getD t (0, 0, 0, 0)).2.2.1 < 2 ^ 31 := by
    intro t ht
    rw [el] at ht
    by_cases z : t = L.length
    · rw [z, gd_r]
      exact ⟨by show N < _; omega, by show N < _; omega⟩
    · rw [gd_l (by omega)]
      have := hok _ (gd_mem (show t < L.length by omega))
      exact ⟨by omega, by omega⟩
  have hw := nw_rep (f := M 45) hb (L.length + 1) 0 (splM M N) (splM_o (by omega)) (by rw [el, Nat.zero_add]) (fun t ht => by
    rw [el] at ht
    exact ⟨(s2 t ht).1, (s2 t ht).2.1, (s2 t ht).2.2.1⟩) (fun t ht => by
    rw [el] at ht
    rw [if_neg (Nat.not_lt_zero _)]
    exact (s2 t ht).2.2.2)
  rw [el] at hw
  have eo : ∀ p, p ≠ 49 → tkM M N p = splM M N p := fun p hp => by
    unfold tkM
    rw [nwM_o _ _ _ _ hp]
  have e49 : ∀ t, t < L.length + 1 → tkM M N 49 t = nmV (M 45) ((L ++ [((5 : Int32), N, N, (0 : Int32))]).getD t (0, 0, 0, 0)) := by
    unfold tkM
    rw [e6]
    exact hw
  have e1 : splM M N 44 1 = nI N := by
    unfold splM
    rw [bgM_44 (by decide), spM_1, mset_s, upd_n (by decide)]
    exact h1
  refine ⟨by rw [eo 44 (by decide)]; exact s1, by rw [eo 44 (by decide)]; exact e1, fun j hj => ?_, ⟨?_, ?_, ?_⟩, hlen⟩
  · obtain ⟨q1, q2, q3, q4⟩ := s2 j (by omega)
    rw [gd_l hj] at q1 q2
    rw [eo 46 (by decide), eo 47 (by decide), e49 j (by omega), gd_l hj]
    have hm := hok _ (gd_mem hj)
    exact ⟨q1, q2, nmV_c (fun i hi => hg i (by omega))⟩
  · have := (s2 L.length (by omega)).1
    rw [gd_r] at this
    rw [eo 46 (by decide)]
    exact this
  · have := (s2 L.length (by omega)).2.1
    rw [gd_r] at this
    rw [eo 47 (by decide)]
    exact this
  · rw [e49 _ (by omega), gd_r]
    rfl
theorem rdF_I : ∀ (n : Nat) (it : Int32) (M : Mem), w6 M → rdI M (rdF n it M).2 := by
  intro n
  induction n with
  | zero => intro it M _; exact rdI.rf
  | succ n ih =>
    intro it M h
    obtain ⟨a, b⟩ := riP_I h
    rw [rdF]
    split
    · exact a
    · split
      · exact a
      · split
        · exact a
        · exact (a.tr nx_I).tr (ih _ _ (nx_w b))
theorem pTx_len {f : Nat → Int32} : ∀ (n : Nat) (L : List Tok) (wt : Nat) (acc I : List It), pTx f n L wt acc = .inr I → I.length ≤ acc.length + n := by
  intro n
  induction n with
  | zero => intro L wt acc I h; cases h
  | succ n ih =>
    intro L wt acc I h
    rw [pTx_s] at h
    cases hp : pIt f L wt with
    | inl F =>
      rw [hp] at h
      cases h
    | inr y =>
      obtain ⟨x, a, b, L'⟩ := y
      rw [hp] at h
      dsimp only at h
      unfold pCt at h
      cases L' with
      | nil =>
        cases h
        rw [List.length_append]
        show acc.length + 1 ≤ _
        omega
      | cons t L' =>
        obtain ⟨s, p, e, v⟩ := t
        dsimp only at h
        by_cases h3 : s = 3
        · rw [if_pos h3] at h
          have := ih _ _ _ _ h
          rw [List.length_append] at this
          have : I.length ≤ acc.length + 1 + n := this
          omega
        · rw [if_neg h3] at h
          cases h
theorem tx_X {M : Mem} (hR : RM M) {N wt : Nat} (hN : N ≤ 120) (e1 : M 44 1 = nI N) (hwt : M 60 1 = nI wt) (hw : wt ≤ 6) : (∀ F, txM M N = .inl F → (txR M).1 = -1 - nI (posL N F) ∧ posL N F ≤ N) ∧ (∀ I, txM M N = .inr I → (txR M).1 = nI I.length ∧ I.length ≤ 121 ∧ RB (txR M).2 15 (I.foldl app (M 60)) ∧ RI (I.foldl app (M 60))) ∧ ∀ p, (p < 15 ∨ 21 < p) → p ≠ 44 → (p < 46 ∨ 49 < p) → (txR M).2 p = M p := by
  obtain ⟨y1, y2, y3⟩ := hR.2.2.2.2.2
  have b44 : becM M 15 1 44 = M 44 := bec_n (by omega)
  have b45 : becM M 15 1 45 = M 45 := bec_n (by omega)
  have hbR : RB (becM M 15 1) 15 (M 60) := bec_RB hR.1
  have hA := tk_AX (M := becM M 15 1) (N := N) (g := M 67) hN (by rw [b44]; exact e1) (fun j hj => by rw [b45]; exact (y1 j (by omega)).1)
  have hX := hA.lk (t := 0) (by decide)
  have hok := (sc_ok (f := M 67) (N := N) N 0 (by omega)).1
  have hb2 : RB (lkM (tkM (becM M 15 1) N) (nI 0)) 15 (M 60) := hbR.ag (fun j hj => by rw [lkM_o (by omega), tkM_o (by omega)])
  have key := rd_X (r0 := M 60) (fun x hx => (hok x hx).2.2) 120 0 wt [] (lkM (tkM (becM M 15 1) N) (nI 0)) hX hb2 hR.2.1 hwt hw (by decide)
  have hlen : (scT (M 67) N 0 none).length ≤ 120 := Nat.le_trans (sc_len N 0).1 hN
  rw [List.drop_zero, ← pTx_m 120 _ wt [] hlen] at key
  have eT : txM M N = pTx (M 67) (120 + 1) (scT (M 67) N 0 none) wt [] := by
    unfold txM
    rw [hwt, nI_clamp (by omega)]
  rw [← eT] at key
  have eR : txR M = rdF 120 (nI (([] : List It).length + 1)) (lkM (tkM (becM M 15 1) N) (nI 0)) := by
    unfold txR rdP
    rw [e1, nI_clamp (by omega)]
    rfl
  rw [← eR] at key
  obtain ⟨k1, k2⟩ := key
  refine ⟨fun F hF => ?_, fun I hI => ?_, fun p a b c => ?_⟩
  · obtain ⟨q1, t', q2⟩ := k1 F hF
    refine ⟨q1, ?_⟩
    rw [q2]
    rcases Nat.lt_or_ge t' (scT (M 67) N 0 none).length with z | z
    · rw [drop_lt z]
      exact Nat.le_of_lt (hok _ (gd_mem z)).1
    · rw [drop_ge z]
      exact Nat.le_refl _
  · obtain ⟨q1, q2, q3⟩ := k2 I hI
    refine ⟨q1, ?_, q2, q3⟩
    rw [eT] at hI
    have := pTx_len _ _ _ _ _ hI
    rw [List.length_nil] at this
    omega
  · rw [eR]
    have hw6 : w6 (lkM (tkM (becM M 15 1) N) (nI 0)) := ⟨wt, hw, by rw [hb2.2.2.2.1]; exact hwt⟩
    rw [(rdF_I 120 _ _ hw6).1 p b (by omega) (by omega), lkM_o b, tkM_o (by omega), bec_n (by omega)]
theorem RM.tx {M N : Mem} (h : RM M) (a : ∀ p, p ≠ 60 → (p = 0 ∨ 8 ≤ p) → JP p = false → N p = M p) (a1 : N 44 1 = 0) (a2 : N 59 3 = M 59 3) (a3 : N 59 12 = 0) (hb : RB N 1 (N 60)) (hi : RI (N 60)) : RM N := by
  obtain ⟨y1, y2, y3⟩ := h.2.2.2.2.2
  have h' : RM (mset (mset M 44 1 0) 59 12 0) := by
    refine h.tp (fun p a b c d => by rw [mset_n (bq c), mset_n (bq a)]) (by rw [mset_s, upd_n (by decide), mset_n (by decide)]) ⟨fun i hi => ?_, ?_, ⟨0, by decide, ?_⟩⟩
    · rw [mset_n (by decide), mset_n (by decide), mset_n (by decide), mset_n (by decide)]
      exact y1 i hi
    · rw [mset_n (by decide), mset_s, upd_s, mset_s, upd_s]
    · rw [mset_s, upd_s]
      rfl
  refine h'.br (fun p x y z => ?_) ?_ ?_ ?_ hb hi
  · have n59 : p ≠ 59 := fun w => by
      rw [w] at z
      exact absurd z (by decide)
    have n44 : p ≠ 44 := fun w => by
      rw [w] at z
      exact absurd z (by decide)
    rw [mset_n (bq n59), mset_n (bq n44)]
    exact a p x y z
  · rw [a1, mset_n (by decide), mset_s, upd_s]
  · rw [a2, mset_s, upd_n (by decide), mset_n (by decide)]
  · rw [a3, mset_s, upd_s]
theorem m1_neg : ∀ p, p ≤ 120 → (-1 : Int32) - nI p < 0 := by decide +kernel
theorem RI.rv {r : Nat → Int32} (h : RI r) : RV r := by
  obtain ⟨⟨n, hn, en⟩, h2, h3, h4, h5, h6⟩ := h
  exact ⟨fun p hp => (h2 p hp).1, h4, by rw [en]; exact nI_pos (by omega)⟩
theorem cmd_text {M : Mem} (hR : RM M) : CallP 20 90 [.ref 0] M (fun x N => CallP 20 212 [.ref 59] N (fun y K => y = x ∧ RM K)) := by
  obtain ⟨y1, y2, N, hN, eN⟩ := id hR.2.2.2.2.2
  obtain ⟨wt, hw, hwt⟩ := id hR.2.1.1
  have e1 : M 44 1 = nI N := y2.trans eN
  obtain ⟨k1, k2, k3⟩ := tx_X hR hN e1 hwt hw
  refine c_X6_text (by omega) ⟨⟨rfl, ⟨N, e1, hN⟩, wt, hw, by rw [hR.n]; exact hwt⟩, ?_⟩
  have hby : ∀ i, i < N → ¬ M 67 i < 0 := fun i hi => (y1 i (by omega)).2
  cases hT : txM M N with
  | inl F =>
    obtain ⟨q1, q2⟩ := k1 F hT
    have hneg : (txR M).1 < 0 := by rw [q1]; exact m1_neg _ (by omega)
    rw [if_pos hneg]
    generalize hA : mset (txR M).2 44 1 0 = A
    have a44 : A 44 1 = 0 := by rw [← hA, mset_s, upd_s]
    have aO : ∀ p, (p < 15 ∨ 21 < p) → p ≠ 44 → (p < 46 ∨ 49 < p) → A p = M p := fun p x y z => by
      rw [← hA, mset_n (bq y)]
      exact k3 p x y z
    have a59 := aO 59 (by omega) (by decide) (by omega)
    have a60 := aO 60 (by omega) (by decide) (by omega)
    have a67 := aO 67 (by omega) (by decide) (by omega)
    have hT' : txM A N = .inl F := by
      rw [← hT]
      unfold txM
      rw [a60, a67]
    refine call_text (by omega) hN (by rw [a59]; exact eN) (by rw [a67]; exact hby) hw (by rw [a60]; exact hwt) (by rw [a60]; exact hR.2.1.rv) (fun F' e R G' g12 gj => ?_) (fun I e => by rw [hT'] at e; cases e)
    rw [hT'] at e
    cases e
    have e60 : mrow (mrow A 69 R) 59 G' 60 = M 60 := by rw [mrow_n (by decide), mrow_n (by decide), a60]
    refine ⟨by rw [q1], hR.tx (fun p x y z => ?_) ?_ ?_ ?_ ?_ ?_⟩
    · have hj : p ≠ 59 ∧ p ≠ 69 ∧ (p < 15 ∨ 44 < p) ∧ (p < 46 ∨ 49 < p) := by
        unfold JP at z
        simp only [Bool.or_eq_false_iff, Bool.and_eq_false_iff, decide_eq_false_iff_not, beq_eq_false_iff_ne] at z
        omega
      rw [mrow_n (bq hj.1), mrow_n (bq hj.2.1), aO p (by omega) (by omega) hj.2.2.2]
    · rw [mrow_n (by decide), mrow_n (by decide)]
      exact a44
    · rw [mrow_s, gj 3 (by decide), a59]
    · rw [mrow_s]
      exact g12
    · rw [e60]
      exact hR.1.ag (fun j hj => by rw [mrow_n (bq (by omega)), mrow_n (bq (by omega)), aO _ (by omega) (by omega) (by omega)])
    · rw [e60]
      exact hR.2.1
  | inr I =>
    obtain ⟨q1, q2, q3, q4⟩ := k2 I hT
    have hneg : ¬ (txR M).1 < 0 := by rw [q1]; exact nI_pos (by omega)
    rw [if_neg hneg]
    have hB : RB (mset (txR M).2 44 1 0) 15 (I.foldl app (M 60)) := q3.ag (fun j hj => mset_n (bq (by omega)))
    have hB1 := bec_RB (b := 1) hB
    generalize hA : becM (mset (txR M).2 44 1 0) 1 15 = A at hB1
    have a44 : A 44 1 = 0 := by rw [← hA, bec_n (by omega), mset_s, upd_s]
    have aO : ∀ p, (p = 0 ∨ (7 < p ∧ p < 15) ∨ 21 < p) → p ≠ 44 → (p < 46 ∨ 49 < p) → A p = M p := fun p x y z => by
      rw [← hA, bec_n (by omega), mset_n (bq y)]
      exact k3 p (by omega) y z
    have a59 := aO 59 (by omega) (by decide) (by omega)
    have a60 := aO 60 (by omega) (by decide) (by omega)
    have a67 := aO 67 (by omega) (by decide) (by omega)
    have hT' : txM A N = .inr I := by
      rw [← hT]
      unfold txM
      rw [a60, a67]
    refine call_text (by omega) hN (by rw [a59]; exact eN) (by rw [a67]; exact hby) hw (by rw [a60]; exact hwt) (by rw [a60]; exact hR.2.1.rv) (fun F e => by rw [hT'] at e; cases e) (fun I' e R G' g12 gj => ?_)
    rw [hT'] at e
    cases e
    rw [a60]
    have e60 : mrow (mrow (mrow A 69 R) 59 G') 60 (I.foldl app (M 60)) 60 = I.foldl app (M 60) := mrow_s
    refine ⟨by rw [q1], hR.tx (fun p x y z => ?_) ?_ ?_ ?_ ?_ ?_⟩
    · have hj : p ≠ 59 ∧ p ≠ 69 ∧ (p < 15 ∨ 44 < p) ∧ (p < 46 ∨ 49 < p) := by
        unfold JP at z
        simp only [Bool.or_eq_false_iff, Bool.and_eq_false_iff, decide_eq_false_iff_not, beq_eq_false_iff_ne] at z
        omega
      rw [mrow_n (bq x), mrow_n (bq hj.1), mrow_n (bq hj.2.1), aO p (by omega) (by omega) hj.2.2.2]
    · rw [mrow_n (by decide), mrow_n (by decide), mrow_n (by decide)]
      exact a44
    · rw [mrow_n (by decide), mrow_s, gj 3 (by decide), a59]
    · rw [mrow_n (by decide), mrow_s]
      exact g12
    · rw [e60]
      exact hB1.ag (fun j hj => by rw [mrow_n (bq (by omega)), mrow_n (bq (by omega)), mrow_n (bq (by omega))])
    · rw [e60]
      exact q4
