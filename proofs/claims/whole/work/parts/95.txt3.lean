/-! BOTH: text -/
theorem add15 {M : Mem} {r : Nat → Int32} {kd g b : Int32} (h : RB M 15 r) (hw : wOK (r 1)) : RB (addM M 15 kd g b) 15 (cmR r kd g b) := by
  have en : M 15 6 = r 1 := h.2.2.2.1
  refine h.add hw ?_ ?_ ?_ ?_ ?_ ?_ ?_
  · unfold addM
    simp [mset, mrow]
  · unfold addM
    rw [en]
    simp [mset, mrow]
  · unfold addM
    rw [en]
    simp [mset, mrow]
  · unfold addM
    rw [en]
    simp [mset, mrow]
  · unfold addM
    rw [en]
    simp [mset, mrow]
  · unfold addM
    simp [mset, mrow]
  · unfold addM
    rw [en]
    simp [mset, mrow]
/-- what one item does, in the class -/
def IX (f : Nat → Int32) (N : Nat) (L : List Tok) (t wt : Nat) (r : Nat → Int32) (P : Int32 × Mem) : Prop := (∀ F, pIt f (L.drop t) wt = .inl F → P.1 = 0 ∧ plc P.2 = nI (posL N F) ∧ ∃ t', F = L.drop t') ∧ ∀ x a b L', pIt f (L.drop t) wt = .inr (x, a, b, L') → P.1 = 1 ∧ (∃ t', t' ≤ t + 6 ∧ L' = L.drop t' ∧ XS f N L P.2 t') ∧ RB P.2 15 (app r (x, a, b)) ∧ RI (app r (x, a, b))
theorem XS.m {f : Nat → Int32} {N : Nat} {L : List Tok} {M : Mem} {t q j : Nat} {v : Int32} (h : XS f N L M t) (hq : q < 44) : XS f N L (mset M q j v) t := h.o (mset_n (bq (by omega))) (mset_n (bq (by omega))) (mset_n (bq (by omega))) (mset_n (bq (by omega)))
theorem XS.add {f : Nat → Int32} {N : Nat} {L : List Tok} {M : Mem} {t : Nat} {a g b : Int32} (h : XS f N L M t) : XS f N L (addM M 15 a g b) t := by
  unfold addM
  exact ((((h.m (by decide)).m (by decide)).m (by decide)).m (by decide)).m (by decide)
theorem app10 {r : Nat → Int32} {q : Nat} {v : Int32} (hq : q < 12) : app r (10, nI q, v) = upd r (14 + q) v := by
  unfold app
  rw [if_pos rfl]
  show upd r (14 + (nI q).toNatClampNeg) v = _
  rw [nI_clamp (by omega)]
theorem nm_n {u v : Int32} {L L' : List Tok} {k : Nat} (hu : u.toInt = k) (h : nmT u L = some (v, L')) : ∃ q, q ≤ k ∧ v = nI q := by
  have := (nm_len h).2
  exact nI_of2 hu this.1 (Int32.not_lt.mp this.2)
theorem rp_X {f : Nat → Int32} {N : Nat} {L : List Tok} {M : Mem} {t wt : Nat} {r : Nat → Int32} (h : XS f N L M t) (hb : RB M 15 r) (hr : RI r) (ht : t + 6 ≤ 3000) (hw : wn f (L.drop t) = 7) : IX f N L t wt r (rpP M) := by
  unfold IX pIt
  rw [hw, if_neg (by decide), if_pos rfl, tail_drop]
  have h1 := h.n (by omega)
  have h2 := h1.n (by omega)
  obtain ⟨a1, a2⟩ := nm_X (u := 11) h1
  obtain ⟨b1, b2⟩ := nm_X (u := 99) h2
  unfold rpP
  by_cases n1 : numN (nx M) 11
  · rw [if_pos n1, a1 n1]
    dsimp only
    obtain ⟨q, hq, eq⟩ := nm_n (k := 11) rfl (a1 n1)
    by_cases n2 : numN (nx (nx M)) 99
    · rw [if_pos n2, b1 n2]
      dsimp only
      obtain ⟨v, hv, ev⟩ := nm_n (k := 99) rfl (b1 n2)
      refine ⟨(fun F e => by cases e), fun x a b L' e => ?_⟩
      cases e
      rw [eq, nI_clamp (show q < 2 ^ 31 by omega), app10 (by omega)]
      have hx := (h2.m (q := 16) (j := q) (v := nx (nx M) 44 9) (by decide)).n (by omega)
      refine ⟨rfl, ⟨t + 1 + 1 + 1, by omega, rfl, hx⟩, ((hb.nx15.nx15).p16 (by omega)).nx15, hr.pl (by omega) ?_⟩
      rw [ev]
      exact ⟨nI_pos (by omega), nI_nlt (a := 99) (by omega) (by decide)⟩
    · rw [if_neg n2, b2 n2]
      dsimp only
      refine ⟨fun F e => ?_, (fun x a b L' e => by cases e)⟩
      cases e
      exact ⟨rfl, h2.p, _, rfl⟩
  · rw [if_neg n1, a2 n1]
    dsimp only
    refine ⟨fun F e => ?_, (fun x a b L' e => by cases e)⟩
    cases e
    exact ⟨rfl, h1.p, _, rfl⟩
theorem rn_X {f : Nat → Int32} {N : Nat} {L : List Tok} {M : Mem} {t wt : Nat} {r : Nat → Int32} (h : XS f N L M t) (hb : RB M 15 r) (hr : RI r) (ht : t + 6 ≤ 3000) (hw : wn f (L.drop t) = 8) : IX f N L t wt r (rnP M) := by
  unfold IX pIt
  rw [hw, if_neg (by decide), if_neg (by decide), if_pos rfl, tail_drop]
  have h1 := h.n (by omega)
  obtain ⟨a1, a2⟩ := nm_X (u := 11) h1
  unfold rnP
  by_cases n1 : numN (nx M) 11
  · rw [if_pos n1, a1 n1]
    dsimp only
    obtain ⟨q, hq, eq⟩ := nm_n (k := 11) rfl (a1 n1)
    refine ⟨(fun F e => by cases e), fun x a b L' e => ?_⟩
    cases e
    rw [eq, nI_clamp (show q < 2 ^ 31 by omega), app10 (by omega)]
    have hx := (h1.m (q := 16) (j := q) (v := 50) (by decide)).n (by omega)
    exact ⟨rfl, ⟨t + 1 + 1, by omega, rfl, hx⟩, (hb.nx15.p16 (by omega)).nx15, hr.pl (by omega) (by decide)⟩
  · rw [if_neg n1, a2 n1]
    dsimp only
    refine ⟨fun F e => ?_, (fun x a b L' e => by cases e)⟩
    cases e
    exact ⟨rfl, h1.p, _, rfl⟩
theorem rw_X {f : Nat → Int32} {N : Nat} {L : List Tok} {M : Mem} {t wt : Nat} {r : Nat → Int32} (h : XS f N L M t) (hb : RB M 15 r) (hr : RI r) (hwt : r 1 = nI wt) (hw6 : wt ≤ 6) (ht : t + 6 ≤ 3000) (hn7 : ¬ wn f (L.drop t) = 7) (hn8 : ¬ wn f (L.drop t) = 8) (hn9 : ¬ wn f (L.drop t) = 9) (hn10 : ¬ wn f (L.drop t) = 10) (h81 : M 44 8 = 1) : IX f N L t wt r (rwP M) := by
  obtain ⟨hle, hh⟩ := X_w h
  have hh : M 44 8 = 1 ∧ M 44 9 = nI (wn f (L.drop t)) := by
    rcases hh with z | z
    · exact z
    · exact absurd h81 z.1
  unfold IX pIt
  rw [tail_drop]
  have e9 := hh.2
  have e6 : M 15 6 = nI wt := hb.2.2.2.1.trans hwt
  unfold rwP
  rw [e9, e6]
  have cK : (¬ nI (wn f (L.drop t)) < 0 ∧ ¬ 6 < nI (wn f (L.drop t))) ↔ wn f (L.drop t) < 7 := by
    constructor
    · rintro ⟨_, z⟩
      rw [show (6 : Int32) = nI 6 from rfl, nI_ltI (by omega) (by omega)] at z
      omega
    · intro z
      exact ⟨nI_pos (by omega), nI_nlt (a := 6) (by omega) (by decide)⟩
  have c6 : (nI wt < 6) ↔ wt < 6 := nI_ltI (b := 6) (by omega) (by decide)
  by_cases hw : wn f (L.drop t) < 7
  · rw [if_pos hw]
    by_cases h6 : wt < 6
    · rw [if_pos h6, if_pos ⟨cK.mpr hw, c6.mpr h6⟩]
      have h1 := h.n (by omega)
      obtain ⟨f1, o1, o2⟩ := one_X (j := 11) (df := 50) h1 (by decide) (by omega)
      unfold rw1
      have hj11 : oneP (nI 11) 50 (nx M) = oneP 11 50 (nx M) := rfl
      rw [hj11] at f1 o1 o2
      generalize hA : oneP 11 50 (nx M) = A at f1 o1 o2
      obtain ⟨A1, A2⟩ := A
      dsimp only at f1 o1 o2
      cases hp1 : pOpt f 11 50 (L.drop (t + 1)) with
      | inl F =>
        obtain ⟨k1, t', k2, k3⟩ := o1 F hp1
        subst k1
        dsimp only
        refine ⟨fun F' e => ?_, (fun x a b L' e => by cases e)⟩
        cases e
        exact ⟨rfl, by rw [k2]; exact k3.p, t', k2⟩
      | inr y =>
        obtain ⟨g, L1⟩ := y
        obtain ⟨k1, t1, k2, k3, k4⟩ := o2 g L1 hp1
        subst k1
        dsimp only
        have hbA : RB A2 15 r := hb.nx15.ag (fun j hj => f1 _ (by omega))
        obtain ⟨f2, p1, p2⟩ := one_X (j := 12) (df := 30) k4 (by decide) (by omega)
        unfold rw2
        have hj12 : oneP (nI 12) 30 A2 = oneP 12 30 A2 := rfl
        rw [hj12] at f2 p1 p2
        rw [k3]
        generalize hB : oneP 12 30 A2 = B at f2 p1 p2
        obtain ⟨B1, B2⟩ := B
        dsimp only at f2 p1 p2
        cases hp2 : pOpt f 12 30 (L.drop t1) with
        | inl F =>
          obtain ⟨q1, t', q2, q3⟩ := p1 F hp2
          subst q1
          dsimp only
          refine ⟨fun F' e => ?_, (fun x a b L' e => by cases e)⟩
          cases e
          exact ⟨rfl, by rw [q2]; exact q3.p, t', q2⟩
        | inr y =>
          obtain ⟨bl, L2⟩ := y
          obtain ⟨q1, t2, q2, q3, q4⟩ := p2 bl L2 hp2
          subst q1
          dsimp only
          refine ⟨(fun F' e => by cases e), fun x a b L' e => ?_⟩
          cases e
          have hbB : RB B2 15 r := hbA.ag (fun j hj => f2 _ (by omega))
          have hk : isK (nI (wn f (L.drop t))) := cK.mpr hw
          have hwo : wOK (r 1) := by rw [hwt]; exact nOK h6
          have ea : app r (nI (wn f (L.drop t)), g, bl) = cmR r (nI (wn f (L.drop t))) g bl := by
            unfold app
            rw [if_neg (k_no10 hk).1, if_neg (k_no10 hk).2]
          rw [ea]
          exact ⟨rfl, ⟨t2, by omega, q3, q4.add⟩, add15 hbB hwo, hr.add hwo hk⟩
    · have n6 : ¬ ((¬ nI (wn f (L.drop t)) < 0 ∧ ¬ 6 < nI (wn f (L.drop t))) ∧ nI wt < 6) := fun z => h6 (c6.mp z.2)
      rw [if_neg h6, if_neg n6]
      refine ⟨fun F e => ?_, (fun x a b L' e => by cases e)⟩
      cases e
      exact ⟨rfl, h.p, _, rfl⟩
  · have n6 : ¬ ((¬ nI (wn f (L.drop t)) < 0 ∧ ¬ 6 < nI (wn f (L.drop t))) ∧ nI wt < 6) := fun z => hw (cK.mp z.1)
    rw [if_neg hw, if_neg n6, if_neg hn7, if_neg hn8, if_neg hn9, if_neg hn10]
    refine ⟨fun F e => ?_, (fun x a b L' e => by cases e)⟩
    cases e
    exact ⟨rfl, h.p, _, rfl⟩
theorem ri_X {f : Nat → Int32} {N : Nat} {L : List Tok} {M : Mem} {t wt : Nat} {r : Nat → Int32} (h : XS f N L M t) (hb : RB M 15 r) (hr : RI r) (hwt : r 1 = nI wt) (hw6 : wt ≤ 6) (ht : t + 6 ≤ 3000) : IX f N L t wt r (riP M) := by
  obtain ⟨hle, hh⟩ := X_w h
  unfold riP
  rcases hh with ⟨h8, h9⟩ | ⟨h8, h9⟩
  · rw [if_neg (fun z => z h8), h9]
    have cj : ∀ j, j < 13 → (nI (wn f (L.drop t)) = nI j ↔ wn f (L.drop t) = j) := fun j hj => nI_eq (by omega) (by omega)
    have c7 : (nI (wn f (L.drop t)) = 7) ↔ wn f (L.drop t) = 7 := cj 7 (by decide)
    have c8 : (nI (wn f (L.drop t)) = 8) ↔ wn f (L.drop t) = 8 := cj 8 (by decide)
    have c9 : (nI (wn f (L.drop t)) = 9) ↔ wn f (L.drop t) = 9 := cj 9 (by decide)
    have c10 : (nI (wn f (L.drop t)) = 10) ↔ wn f (L.drop t) = 10 := cj 10 (by decide)
    by_cases h7 : wn f (L.drop t) = 7
    · rw [if_pos (c7.mpr h7)]
      exact rp_X h hb hr ht h7
    rw [if_neg (fun z => h7 (c7.mp z))]
    by_cases hw8 : wn f (L.drop t) = 8
    · rw [if_pos (c8.mpr hw8)]
      exact rn_X h hb hr ht hw8
    rw [if_neg (fun z => hw8 (c8.mp z))]
    by_cases hw9 : wn f (L.drop t) = 9
    · rw [if_pos (c9.mpr hw9)]
      unfold IX pIt
      rw [hw9, if_neg (by decide), if_neg (by decide), if_neg (by decide), if_pos rfl, tail_drop]
      refine ⟨(fun F e => by cases e), fun x a b L' e => ?_⟩
      cases e
      have ea : app r (11, 1, 0) = upd r 3 1 := by
        unfold app
        rw [if_neg (by decide), if_pos rfl]
      rw [ea]
      exact ⟨rfl, ⟨t + 1, by omega, rfl, (h.m (by decide)).n (by omega)⟩, hb.nt15.nx15, hr.nt (by decide)⟩
    rw [if_neg (fun z => hw9 (c9.mp z))]
    by_cases hw10 : wn f (L.drop t) = 10
    · rw [if_pos (c10.mpr hw10)]
      unfold IX pIt
      rw [hw10, if_neg (by decide), if_neg (by decide), if_neg (by decide), if_neg (by decide), if_pos rfl, tail_drop]
      refine ⟨(fun F e => by cases e), fun x a b L' e => ?_⟩
      cases e
      have ea : app r (11, 0, 0) = upd r 3 0 := by
        unfold app
        rw [if_neg (by decide), if_pos rfl]
      rw [ea]
      exact ⟨rfl, ⟨t + 1, by omega, rfl, (h.m (by decide)).n (by omega)⟩, hb.nt15.nx15, hr.nt (by decide)⟩
    rw [if_neg (fun z => hw10 (c10.mp z))]
    exact rw_X h hb hr hwt hw6 ht h7 hw8 hw9 hw10 h8
  · rw [if_pos h8]
    unfold IX pIt
    rw [h9, if_neg (by decide), if_neg (by decide), if_neg (by decide), if_neg (by decide), if_neg (by decide)]
    refine ⟨fun F e => ?_, (fun x a b L' e => by cases e)⟩
    cases e
    exact ⟨rfl, h.p, _, rfl⟩
theorem rd_X {f : Nat → Int32} {N : Nat} {L : List Tok} {r0 : Nat → Int32} (hcl : ∀ x ∈ L, x.1 = 1 ∨ x.1 = 2 ∨ x.1 = 3 ∨ x.1 = 4) : ∀ (n t wt : Nat) (acc : List It) (M : Mem), XS f N L M t → RB M 15 (acc.foldl app r0) → RI (acc.foldl app r0) → acc.foldl app r0 1 = nI wt → wt ≤ 6 → t + 8 * n ≤ 2000 → (∀ F, pTx f n (L.drop t) wt acc = .inl F → (rdF n (nI (acc.length + 1)) M).1 = -1 - nI (posL N F) ∧ ∃ t', F = L.drop t') ∧ ∀ I, pTx f n (L.drop t) wt acc = .inr I → (rdF n (nI (acc.length + 1)) M).1 = nI I.length ∧ RB (rdF n (nI (acc.length + 1)) M).2 15 (I.foldl app r0) ∧ RI (I.foldl app r0) := by
  intro n
  induction n with
  | zero =>
    intro t wt acc M h _ _ _ _ _
    refine ⟨fun F e => ?_, (fun I e => by cases e)⟩
    cases e
    rw [rdF]
    refine ⟨?_, t, rfl⟩
    show -1 - plc M = _
    rw [h.p]
  | succ n ih =>
    intro t wt acc M h hb hr hwt hw6 ht
    obtain ⟨x1, x2⟩ := ri_X h hb hr hwt hw6 (by omega)
    rw [pTx_s, rdF]
    cases hp : pIt f (L.drop t) wt with
    | inl F =>
      obtain ⟨k1, k2, k3⟩ := x1 F hp
      rw [if_pos k1]
      refine ⟨fun F' e => ?_, (fun I e => by cases e)⟩
      cases e
      refine ⟨?_, k3⟩
      show -1 - plc (riP M).2 = _
      rw [k2]
    | inr y =>
      obtain ⟨x, a, b, L'⟩ := y
      obtain ⟨k1, ⟨t', k2, k3, k4⟩, k5, k6⟩ := x2 x a b L' hp
      have hne : ¬ (riP M).1 = 0 := by
        rw [k1]
        decide
      rw [if_neg hne]
      dsimp only
      have hfold : (acc ++ [(x, a, b)]).foldl app r0 = app (acc.foldl app r0) (x, a, b) := by rw [List.foldl_append]; rfl
      have hw2 := (pIt_ok hwt hp).2.1
      have hw7 : (if wn f (L.drop t) < 7 then wt + 1 else wt) ≤ 6 := by
        by_cases z : wn f (L.drop t) < 7
        · rw [if_pos z]
          unfold pIt at hp
          rw [if_pos z] at hp
          by_cases y : wt < 6
          · omega
          · rw [if_neg y] at hp
            cases hp
        · rw [if_neg z]
          exact hw6
      have e8 := k4.2.2.2.1
      subst k3
      unfold pCt
      rcases Nat.lt_or_ge t' L.length with z | z
      · rw [drop_lt z] at e8 ⊢
        have hm := hcl (L.getD t' (0, 0, 0, 0)) (by
          have : L.getD t' (0, 0, 0, 0) = L[t'] := by simp [List.getD, z]
          rw [this]
          exact List.getElem_mem z)
        generalize hx : L.getD t' (0, 0, 0, 0) = xx at e8 hm
        obtain ⟨s, p, e', v⟩ := xx
        have e8 : (riP M).2 44 8 = s := e8
        have hm : s = 1 ∨ s = 2 ∨ s = 3 ∨ s = 4 := hm
        have h5 : ¬ (riP M).2 44 8 = 5 := by
          rw [e8]
          rcases hm with y | y | y | y <;> (rw [y]; decide)
        rw [if_neg h5]
        dsimp only
        by_cases h3 : s = 3
        · have n3 : ¬ ¬ (riP M).2 44 8 = 3 := fun y => y (e8.trans h3)
          rw [if_neg n3, if_pos h3]
          have key := ih (t' + 1) (if wn f (L.drop t) < 7 then wt + 1 else wt) (acc ++ [(x, a, b)]) (nx (riP M).2) (k4.n (by omega)) (by rw [hfold]; exact k5.nx15) (by rw [hfold]; exact k6) (by rw [hfold]; exact hw2) hw7 (by omega)
          rw [List.length_append] at key
          rw [nI_1]
          exact key
        · have n3 : ¬ (riP M).2 44 8 = 3 := fun y => h3 (e8.symm.trans y)
          rw [if_pos n3, if_neg h3]
          refine ⟨fun F e => ?_, (fun I e => by cases e)⟩
          cases e
          refine ⟨?_, t', by rw [drop_lt z, hx]⟩
          show -1 - plc (riP M).2 = _
          rw [k4.p, drop_lt z, hx]
      · rw [drop_ge z] at e8 ⊢
        have e8 : (riP M).2 44 8 = 5 := e8
        rw [if_pos e8]
        refine ⟨(fun F e => by cases e), fun I e => ?_⟩
        cases e
        rw [hfold, List.length_append]
        exact ⟨rfl, k5, k6⟩
theorem pTx_m {f : Nat → Int32} : ∀ (n : Nat) (L : List Tok) (wt : Nat) (acc : List It), L.length ≤ n → pTx f (n + 1) L wt acc = pTx f n L wt acc := by
  intro n
  induction n with
  | zero =>
    intro L wt acc h
    have : L = [] := List.length_eq_zero_iff.mp (by omega)
    subst this
    rfl
  | succ n ih =>
    intro L wt acc h
    rw [pTx_s, pTx_s]
    cases hp : pIt f L wt with
    | inl F => rfl
    | inr y =>
      obtain ⟨x, a, b, L'⟩ := y
      have hlen := (pIt_ok (r := fun _ => nI wt) rfl hp).2.2
      dsimp only
      unfold pCt
      cases L' with
      | nil => rfl
      | cons t L' =>
        obtain ⟨s, p, e, v⟩ := t
        dsimp only
        have h2 : L'.length + 1 + 1 ≤ L.length := hlen
        rw [ih L' _ _ (by omega)]
theorem sc_congr {f g : Nat → Int32} : ∀ (n i : Nat), (∀ j, j < i + n → f j = g j) → ∀ o, scT f n i o = scT g n i o := by
  intro n
  induction n with
  | zero =>
    intro i _ o
    cases o with
    | none => rfl
    | some x => rfl
  | succ n ih =>
    intro i h o
    have e := h i (by omega)
    have e2 := ih (i + 1) (fun j hj => h j (by omega))
    cases o with
    | none => rw [scT, scT, e, e2, e2]
    | some x =>
      obtain ⟨c, s, v⟩ := x
      rw [scT, scT, e, e2, e2, e2]
