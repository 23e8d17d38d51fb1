/-! BOTH: the class's reader is the model's -/
def sortL : List Tok → Int32
  | [] => 5
  | x :: _ => x.1
def valL (f : Nat → Int32) : List Tok → Int32
  | [] => 0
  | x :: _ => nmV f x
/-- the class's rows of tokens, ready to be read -/
def AX (f : Nat → Int32) (N : Nat) (L : List Tok) (M : Mem) : Prop := M 44 6 = nI (L.length + 1) ∧ M 44 1 = nI N ∧ (∀ j, j < L.length → M 46 j = (L.getD j (0, 0, 0, 0)).1 ∧ M 47 j = nI (L.getD j (0, 0, 0, 0)).2.1 ∧ M 49 j = nmV f (L.getD j (0, 0, 0, 0))) ∧ (M 46 L.length = 5 ∧ M 47 L.length = nI N ∧ M 49 L.length = 0) ∧ L.length ≤ 120
/-- the class looks at token t -/
def XS (f : Nat → Int32) (N : Nat) (L : List Tok) (M : Mem) (t : Nat) : Prop := AX f N L M ∧ M 44 7 = nI t ∧ t ≤ 3000 ∧ M 44 8 = sortL (L.drop t) ∧ M 44 9 = valL f (L.drop t)
theorem drop_lt {L : List Tok} {t : Nat} (h : t < L.length) : L.drop t = L.getD t (0, 0, 0, 0) :: L.drop (t + 1) := by
  rw [List.drop_eq_getElem_cons h]
  simp [List.getD, h]
theorem drop_ge {L : List Tok} {t : Nat} (h : L.length ≤ t) : L.drop t = [] := List.drop_eq_nil_iff.mpr h
theorem AX.lk {f : Nat → Int32} {N : Nat} {L : List Tok} {M : Mem} (h : AX f N L M) {t : Nat} (ht : t ≤ 3000) : XS f N L (lkM M (nI t)) t := by
  obtain ⟨h1, h2, h3, ⟨h4, h5, h6⟩, h7⟩ := h
  have ct : (nI t).toNatClampNeg = t := nI_clamp (by omega)
  have hthr : thr M (nI t) ↔ t ≤ L.length := by
    unfold thr
    rw [h1]
    constructor
    · rintro ⟨_, b, _⟩
      rw [nI_leI (by omega) (by omega)] at b
      omega
    · intro a
      exact ⟨nI_pos (by omega), nI_ge (by omega) (by omega), nI_ge (b := 121) (by omega) (by decide)⟩
  have e44 : ∀ j, j ≠ 7 → j ≠ 8 → j ≠ 9 → lkM M (nI t) 44 j = M 44 j := fun j a b c => by
    unfold lkM
    rw [mset_s, un c, mset_s, un b, mset_s, un a]
  have eo : ∀ p, p ≠ 44 → lkM M (nI t) p = M p := fun p hp => lkM_o hp
  refine ⟨⟨by rw [e44 6 (by decide) (by decide) (by decide)]; exact h1, by rw [e44 1 (by decide) (by decide) (by decide)]; exact h2, fun j hj => by rw [eo 46 (by decide), eo 47 (by decide), eo 49 (by decide)]; exact h3 j hj, by rw [eo 46 (by decide), eo 47 (by decide), eo 49 (by decide)]; exact ⟨h4, h5, h6⟩, h7⟩, ?_, ht, ?_, ?_⟩
  · unfold lkM
    rw [mset_s, upd_n (by decide), mset_s, upd_n (by decide), mset_s, upd_s]
  · unfold lkM
    rw [mset_s, upd_n (by decide), mset_s, upd_s, ct]
    rcases Nat.lt_trichotomy t L.length with z | z | z
    · rw [if_pos (hthr.mpr (by omega)), drop_lt z]
      exact (h3 t z).1
    · rw [if_pos (hthr.mpr (by omega)), drop_ge (by omega), z]
      exact h4
    · rw [if_neg (fun y => by have := hthr.mp y; omega), drop_ge (by omega)]
      rfl
  · unfold lkM
    rw [mset_s, upd_s, ct]
    rcases Nat.lt_trichotomy t L.length with z | z | z
    · rw [if_pos (hthr.mpr (by omega)), drop_lt z]
      exact (h3 t z).2.2
    · rw [if_pos (hthr.mpr (by omega)), drop_ge (by omega), z]
      exact h6
    · rw [if_neg (fun y => by have := hthr.mp y; omega), drop_ge (by omega)]
      rfl
theorem XS.n {f : Nat → Int32} {N : Nat} {L : List Tok} {M : Mem} {t : Nat} (h : XS f N L M t) (ht : t < 3000) : XS f N L (nx M) (t + 1) := by
  unfold nx
  rw [h.2.1, nI_1]
  exact h.1.lk (by omega)
theorem AX.o {f : Nat → Int32} {N : Nat} {L : List Tok} {M K : Mem} (h : AX f N L M) (e44 : K 44 = M 44) (e46 : K 46 = M 46) (e47 : K 47 = M 47) (e49 : K 49 = M 49) : AX f N L K := by
  unfold AX
  rw [e44, e46, e47, e49]
  exact h
theorem XS.o {f : Nat → Int32} {N : Nat} {L : List Tok} {M K : Mem} {t : Nat} (h : XS f N L M t) (e44 : K 44 = M 44) (e46 : K 46 = M 46) (e47 : K 47 = M 47) (e49 : K 49 = M 49) : XS f N L K t := by
  obtain ⟨a, b⟩ := h
  refine ⟨a.o e44 e46 e47 e49, ?_⟩
  rw [e44]
  exact b
theorem XS.p {f : Nat → Int32} {N : Nat} {L : List Tok} {M : Mem} {t : Nat} (h : XS f N L M t) : plc M = nI (posL N (L.drop t)) := by
  obtain ⟨⟨h1, h2, h3, ⟨h4, h5, h6⟩, h7⟩, a, b, _, _⟩ := h
  unfold plc
  rw [a, h1, h2, nI_clamp (show t < 2 ^ 31 by omega)]
  rcases Nat.lt_trichotomy t L.length with z | z | z
  · rw [if_pos ⟨nI_pos (by omega), nI_ge (by omega) (by omega)⟩, drop_lt z, (h3 t z).2.1]
    rfl
  · rw [if_pos ⟨nI_pos (by omega), nI_ge (by omega) (by omega)⟩, drop_ge (by omega), z, h5]
    rfl
  · rw [if_neg (fun y => absurd (nI_le (show L.length + 1 ≤ t by omega) (by omega)) y.2), drop_ge (by omega)]
    rfl
theorem nm_X {f : Nat → Int32} {N : Nat} {L : List Tok} {M : Mem} {t : Nat} {u : Int32} (h : XS f N L M t) : (numN M u → nmT u (L.drop t) = some (M 44 9, L.drop (t + 1))) ∧ (¬ numN M u → nmT u (L.drop t) = none) := by
  obtain ⟨_, _, _, a, b⟩ := h
  rcases Nat.lt_or_ge t L.length with z | z
  · rw [drop_lt z] at a b ⊢
    generalize L.getD t (0, 0, 0, 0) = x at a b
    obtain ⟨s, p, e, v⟩ := x
    have a : M 44 8 = s := a
    have hb : s = 2 → M 44 9 = v := fun hs => by
      rw [b]
      show nmV f (s, p, e, v) = v
      unfold nmV
      rw [if_neg (fun (z : s = 1) => absurd (hs.symm.trans z) (by decide))]
    refine ⟨fun hn => ?_, fun hn => ?_⟩
    · have hs : s = 2 := by rw [← a]; exact hn.1
      show (if s = 2 ∧ ¬ v < 0 ∧ ¬ u < v then some (v, L.drop (t + 1)) else none) = _
      rw [if_pos ⟨hs, by rw [← hb hs]; exact hn.2⟩, hb hs]
    · show (if s = 2 ∧ ¬ v < 0 ∧ ¬ u < v then some (v, L.drop (t + 1)) else none) = none
      rw [if_neg (fun y => hn ⟨a.trans y.1, by rw [hb y.1]; exact y.2⟩)]
  · rw [drop_ge z] at a ⊢
    exact ⟨fun hn => absurd (a.symm.trans hn.1) (by decide), fun _ => rfl⟩
theorem wnN_le {f : Nat → Int32} {a b : Nat} : ∀ (n j : Nat), j + n ≤ 13 → wnN f a b n j ≤ 13 := by
  intro n
  induction n with
  | zero => intro j _; exact Nat.le_refl _
  | succ n ih =>
    intro j hj
    rw [wnN]
    split
    · omega
    · exact ih (j + 1) (by omega)
theorem X_w {f : Nat → Int32} {N : Nat} {L : List Tok} {M : Mem} {t : Nat} (h : XS f N L M t) : wn f (L.drop t) ≤ 13 ∧ ((M 44 8 = 1 ∧ M 44 9 = nI (wn f (L.drop t))) ∨ (¬ M 44 8 = 1 ∧ wn f (L.drop t) = 13)) := by
  obtain ⟨_, _, _, a, b⟩ := h
  rcases Nat.lt_or_ge t L.length with z | z
  · rw [drop_lt z] at a b ⊢
    generalize L.getD t (0, 0, 0, 0) = x at a b
    obtain ⟨s, p, e, v⟩ := x
    have a : M 44 8 = s := a
    by_cases hs : s = 1
    · have ew : wn f ((s, p, e, v) :: L.drop (t + 1)) = wnN f p e 13 0 := if_pos hs
      rw [ew]
      refine ⟨wnN_le 13 0 (Nat.le_refl _), Or.inl ⟨a.trans hs, ?_⟩⟩
      rw [b]
      show nmV f (s, p, e, v) = _
      unfold nmV
      rw [if_pos hs]
    · have ew : wn f ((s, p, e, v) :: L.drop (t + 1)) = 13 := if_neg hs
      rw [ew]
      exact ⟨Nat.le_refl _, Or.inr ⟨fun y => hs (a.symm.trans y), rfl⟩⟩
  · rw [drop_ge z] at a ⊢
    exact ⟨Nat.le_refl _, Or.inr ⟨fun y => absurd (a.symm.trans y) (by decide), rfl⟩⟩
theorem wrd_X {f : Nat → Int32} {N : Nat} {L : List Tok} {M : Mem} {t j : Nat} (h : XS f N L M t) (hj : j < 13) : wrdN M (nI j) ↔ wn f (L.drop t) = j := by
  obtain ⟨hw, h1 | h1⟩ := X_w h
  · unfold wrdN
    rw [h1.1, h1.2]
    constructor
    · rintro ⟨_, b⟩
      exact (nI_eq (by omega) (by omega)).mp b
    · intro b
      exact ⟨rfl, by rw [b]⟩
  · constructor
    · rintro ⟨a, _⟩
      exact absurd a h1.1
    · intro b
      omega
theorem tail_drop {L : List Tok} {t : Nat} : (L.drop t).tail = L.drop (t + 1) := by
  rw [List.tail_drop]
theorem one_X {f : Nat → Int32} {N : Nat} {L : List Tok} {M : Mem} {t j : Nat} {df : Int32} (h : XS f N L M t) (hj : j < 13) (ht : t + 2 ≤ 3000) : (∀ p, p ≠ 44 → (oneP (nI j) df M).2 p = M p) ∧ (∀ F, pOpt f j df (L.drop t) = .inl F → (oneP (nI j) df M).1 = none ∧ ∃ t', F = L.drop t' ∧ XS f N L (oneP (nI j) df M).2 t') ∧ ∀ v L', pOpt f j df (L.drop t) = .inr (v, L') → (oneP (nI j) df M).1 = some v ∧ ∃ t', t' ≤ t + 2 ∧ L' = L.drop t' ∧ XS f N L (oneP (nI j) df M).2 t' := by
  have h2 := h.n (by omega)
  unfold oneP pOpt
  rw [tail_drop]
  by_cases hw : wn f (L.drop t) = j
  · rw [if_pos ((wrd_X h hj).mpr hw), if_pos hw]
    obtain ⟨k1, k2⟩ := nm_X (u := 99) h2
    by_cases hn : numN (nx M) 99
    · rw [if_pos hn, k1 hn]
      refine ⟨fun p hp => (nx_o hp).trans (nx_o hp), (fun F e => by cases e), fun v L' e => ?_⟩
      cases e
      exact ⟨rfl, t + 1 + 1, by omega, rfl, h2.n (by omega)⟩
    · rw [if_neg hn, k2 hn]
      refine ⟨fun p hp => nx_o hp, fun F e => ?_, (fun v L' e => by cases e)⟩
      cases e
      exact ⟨rfl, t + 1, rfl, h2⟩
  · rw [if_neg (fun z => hw ((wrd_X h hj).mp z)), if_neg hw]
    refine ⟨fun p _ => rfl, (fun F e => by cases e), fun v L' e => ?_⟩
    cases e
    exact ⟨rfl, t, by omega, rfl, h⟩
/-- one plank of the draft -/
theorem RB.p16 {M : Mem} {r : Nat → Int32} (h : RB M 15 r) {q : Nat} {v : Int32} (hq : q < 12) : RB (mset M 16 q v) 15 (upd r (14 + q) v) := by
  obtain ⟨b1, b2, b3, b4, b5, b6, b7⟩ := h
  have e : ∀ p, p ≠ 16 → mset M 16 q v p = M p := fun p a => mset_n (bq a)
  refine ⟨fun p hp => ?_, fun i hi => ?_, fun s hs => ?_, ?_, ?_, ?_, ?_⟩
  · show mset M 16 q v 16 p = _
    rw [mset_s]
    by_cases z : p = q
    · rw [z, upd_s, upd_s]
    · rw [un z, un (by omega)]
      exact b1 p hp
  · have n0 : ∀ f, wf i f ≠ 14 + q := fun f => by unfold wf; omega
    rw [un (n0 0), un (n0 1), un (n0 2), un (n0 3), e _ (by decide), e _ (by decide), e _ (by decide), e _ (by decide)]
    exact b2 i hi
  · rw [un (by omega), e _ (by decide)]
    exact b3 s hs
  · rw [un (by omega), e _ (by decide)]
    exact b4
  · rw [un (by omega), e _ (by decide)]
    exact b5
  · rw [un (by omega), e _ (by decide)]
    exact b6
  · rw [un (by omega), e _ (by decide)]
    exact b7
theorem RB.nt15 {M : Mem} {r : Nat → Int32} (h : RB M 15 r) {v : Int32} : RB (mset M 15 7 v) 15 (upd r 3 v) := by
  obtain ⟨b1, b2, b3, b4, b5, b6, b7⟩ := h
  have e : ∀ p, p ≠ 15 → mset M 15 7 v p = M p := fun p a => mset_n (bq a)
  refine ⟨fun p hp => by rw [un (by omega), e _ (by decide)]; exact b1 p hp, fun i hi => ?_, fun s hs => by rw [un (by omega), e _ (by decide)]; exact b3 s hs, ?_, ?_, ?_, ?_⟩
  · have n0 : ∀ f, wf i f ≠ 3 := fun f => by unfold wf; omega
    rw [un (n0 0), un (n0 1), un (n0 2), un (n0 3), e _ (by decide), e _ (by decide), e _ (by decide), e _ (by decide)]
    exact b2 i hi
  · rw [mset_s, upd_n (by decide), upd_n (by decide)]
    exact b4
  · rw [mset_s, upd_s, upd_s]
  · rw [mset_s, upd_n (by decide), upd_n (by decide)]
    exact b6
  · rw [mset_s, upd_n (by decide), upd_n (by decide)]
    exact b7
theorem RI.nt {r : Nat → Int32} (h : RI r) {v : Int32} (hv : ¬ v < 0) : RI (upd r 3 v) := by
  obtain ⟨⟨n, hn, en⟩, h2, h3, h4, h5, h6⟩ := h
  have e1 : upd r 3 v 1 = r 1 := upd_n (by decide)
  refine ⟨⟨n, hn, by rw [e1]; exact en⟩, fun p hp => by rw [un (by omega)]; exact h2 p hp, fun i hi => by rw [un (by unfold wf; omega)]; exact h3 i hi, by rw [upd_s]; exact hv, fun s hs => ?_, by rw [upd_n (by decide)]; exact h6⟩
  unfold hasM
  rw [e1, un (by omega)]
  exact h5 s hs
theorem RB.nx15 {M : Mem} {r : Nat → Int32} (h : RB M 15 r) : RB (nx M) 15 r := h.ag (fun j hj => nx_o (by omega))
