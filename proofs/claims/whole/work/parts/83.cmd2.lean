/-! BOTH: of, change, night, seed, hold, as .. -/
theorem unf_congr {g bs : Int32} {r s : Nat → Int32} (h : ∀ j, j < 12 → r j = s j) : ∀ (n i : Nat) (t : Int32), i + n ≤ 12 → unfF g bs r n i t = unfF g bs s n i t := by
  intro n
  induction n with
  | zero => intro i t _; rfl
  | succ n ih =>
    intro i t hi
    rw [unfF, unfF, h i (by omega)]
    exact ih (i + 1) _ (by omega)
theorem has_n {r : Nat → Int32} {w : Int32} (h : hasM r w) : ∃ i, i < 6 ∧ w = nI i := wOK_n (hasM_o h)
theorem cmd_of {M : Mem} (hR : RM M) {w q : Int32} : CallP 20 59 [.ref 0, .int w, .int q] M (fun x N => CallP 20 147 [.ref 59, .int w, .int q] N (fun y K => y = x ∧ RM K)) := by
  refine c_X6_of (by omega) ⟨rfl, ?_⟩
  have bad : ¬ (hasM (M 60) w ∧ ¬ q < 0 ∧ ¬ 5 < q) → CallP 20 147 [.ref 59, .int w, .int q] (tellM M 0) (fun y K => y = .int (-1000001) ∧ RM K) := by
    intro h
    refine c_X7_of (by omega) ⟨⟨rfl, by rw [tl_n (by decide)]; exact hR.im⟩, ?_⟩
    rw [tl_n (by decide), if_neg h]
    exact ⟨rfl, hR.tell (by decide)⟩
  by_cases hw : hasW M 1 w
  · rw [if_pos hw]
    rw [hR.has] at hw
    obtain ⟨i, hi, rfl⟩ := has_n hw
    obtain ⟨e1, e2, e3, e4⟩ := hR.ww hi
    have ci : (nI i).toNatClampNeg = i := nI_clamp (by omega)
    rw [ci]
    have good : ∀ (j : Nat) (x : Int32), j < 6 → q = nI j → (if j = 4 then brs (M 60 (wf i 0)) (M 60 (wf i 2)) (M 60 3) else if j = 5 then unfF (M 60 (wf i 1)) (brs (M 60 (wf i 0)) (M 60 (wf i 2)) (M 60 3)) (plr (M 60)) 12 0 0 else M 60 (wf i j)) = x → CallP 20 147 [.ref 59, .int (nI i), .int q] M (fun y K => y = .int x ∧ RM K) := by
      intro j x hj hq hx
      subst hq
      refine c_X7_of (by omega) ⟨⟨rfl, hR.im⟩, ?_⟩
      have c4 : (nI j = 4) = (j = 4) := propext (nI_eq (b := 4) (by omega) (by decide))
      have c5 : (nI j = 5) = (j = 5) := propext (nI_eq (b := 5) (by omega) (by decide))
      rw [if_pos ⟨hw, nI_pos (by omega), nI_nlt (a := 5) (by omega) (by decide)⟩]
      simp only [c4, c5]
      rw [ci, nI_clamp (show j < 2 ^ 31 by omega)]
      by_cases z4 : j = 4
      · rw [if_pos z4] at hx ⊢
        exact ⟨by rw [hx], hR⟩
      · rw [if_neg z4] at hx ⊢
        by_cases z5 : j = 5
        · rw [if_pos z5] at hx ⊢
          exact ⟨by rw [hx], hR⟩
        · rw [if_neg z5] at hx ⊢
          exact ⟨by rw [hx], hR⟩
    by_cases q0 : q = 0
    · rw [if_pos q0]
      exact good 0 _ (by decide) q0 e1.symm
    rw [if_neg q0]
    by_cases q1 : q = 1
    · rw [if_pos q1]
      exact good 1 _ (by decide) q1 e2.symm
    rw [if_neg q1]
    by_cases q2 : q = 2
    · rw [if_pos q2]
      exact good 2 _ (by decide) q2 e3.symm
    rw [if_neg q2]
    by_cases q3 : q = 3
    · rw [if_pos q3]
      exact good 3 _ (by decide) q3 e4.symm
    rw [if_neg q3]
    by_cases q4 : q = 4
    · rw [if_pos q4]
      exact good 4 _ (by decide) q4 (by rw [if_pos rfl, e1, e3, hR.nt])
    rw [if_neg q4]
    by_cases q5 : q = 5
    · rw [if_pos q5]
      exact good 5 _ (by decide) q5 (by rw [if_neg (by decide), if_pos rfl, e1, e2, e3, hR.nt]; exact (unf_congr (fun j hj => hR.pl hj) 12 0 0 (by decide)).symm)
    rw [if_neg q5]
    refine bad (fun z => ?_)
    obtain ⟨j, hj, rfl⟩ := nI_of2 (M := 5) (n := 5) rfl z.2.1 (Int32.not_lt.mp z.2.2)
    have : j = 0 ∨ j = 1 ∨ j = 2 ∨ j = 3 ∨ j = 4 ∨ j = 5 := by omega
    rcases this with rfl | rfl | rfl | rfl | rfl | rfl
    · exact q0 rfl
    · exact q1 rfl
    · exact q2 rfl
    · exact q3 rfl
    · exact q4 rfl
    · exact q5 rfl
  · rw [if_neg hw]
    rw [hR.has] at hw
    exact bad (fun z => hw z.1)
/-- one of a walker's numbers, in both -/
theorem RM.fld {M : Mem} (h : RM M) {i f : Nat} {v : Int32} (hi : i < 6) (hf : f < 4) (hk : f = 0 → isK v) : RM (mset (mset M (3 + f) i v) 60 (wf i f) v) := by
  have e : ∀ p, p ≠ 60 → p ≠ 3 + f → mset (mset M (3 + f) i v) 60 (wf i f) v p = M p := fun p a b => by
    rw [mset_n (bq a), mset_n (bq b)]
  have e60 : mset (mset M (3 + f) i v) 60 (wf i f) v 60 = upd (M 60) (wf i f) v := by
    rw [mset_s, mset_n (bq (by omega))]
  have ef : mset (mset M (3 + f) i v) 60 (wf i f) v (3 + f) = upd (M (3 + f)) i v := by
    rw [mset_n (bq (by omega)), mset_s]
  have nl : ∀ j, j < 26 → j ≠ wf i f := fun j hj => by unfold wf; omega
  refine h.br (fun p a b _ => e p a (by omega)) (by rw [e 44 (by decide) (by omega)]) (by rw [e 59 (by decide) (by omega)]) (by rw [e 59 (by decide) (by omega)]) ?_ ?_
  · obtain ⟨b1, b2, b3, b4, b5, b6, b7⟩ := h.1
    rw [e60]
    refine ⟨fun p hp => ?_, fun i' hi' => ?_, fun s hs => ?_, ?_, ?_, ?_, ?_⟩
    · rw [un (nl _ (by omega)), e _ (by omega) (by omega)]
      exact b1 p hp
    · have key : ∀ f', f' < 4 → M (3 + f') i' = M 60 (wf i' f') → mset (mset M (3 + f) i v) 60 (wf i f) v (3 + f') i' = upd (M 60) (wf i f) v (wf i' f') := by
        intro f' hf' hq
        by_cases z : f' = f
        · subst z
          rw [ef]
          by_cases y : i' = i
          · rw [y, upd_s, upd_s]
          · rw [un y, un (by unfold wf; omega)]
            exact hq
        · rw [e _ (by omega) (by omega), un (by unfold wf; omega)]
          exact hq
      obtain ⟨q1, q2, q3, q4⟩ := b2 i' hi'
      exact ⟨key 0 (by decide) q1, key 1 (by decide) q2, key 2 (by decide) q3, key 3 (by decide) q4⟩
    · rw [un (nl _ (by omega)), e _ (by omega) (by omega)]
      exact b3 s hs
    · rw [un (nl _ (by omega)), e 1 (by decide) (by omega)]
      exact b4
    · rw [un (nl _ (by omega)), e 1 (by decide) (by omega)]
      exact b5
    · rw [un (nl _ (by omega)), e 1 (by decide) (by omega)]
      exact b6
    · rw [un (nl _ (by omega)), e 1 (by decide) (by omega)]
      exact b7
  · rw [e60]
    obtain ⟨⟨n, hn, en⟩, h2, h3, h4, h5, h6⟩ := h.2.1
    have e1 : upd (M 60) (wf i f) v 1 = M 60 1 := un (nl _ (by omega))
    refine ⟨⟨n, hn, by rw [e1]; exact en⟩, fun p hp => by rw [un (nl _ (by omega))]; exact h2 p hp, fun i' hi' => ?_, by rw [un (nl _ (by omega))]; exact h4, fun s hs => ?_, by rw [un (nl _ (by omega))]; exact h6⟩
    · by_cases z : wf i' 0 = wf i f
      · rw [z, upd_s]
        exact hk (by unfold wf at z; omega)
      · rw [un z]
        exact h3 i' hi'
    · rw [un (nl (4 + s) (by omega))]
      unfold hasM
      rw [e1]
      exact h5 s hs
theorem cmd_change {M : Mem} (hR : RM M) {w q v : Int32} : CallP 20 60 [.ref 0, .int w, .int q, .int v] M (fun x N => CallP 20 149 [.ref 59, .int w, .int q, .int v] N (fun y K => y = x ∧ RM K)) := by
  refine c_X6_change (by omega) ⟨rfl, ?_⟩
  have bad : ¬ (hasM (M 60) w ∧ mbF q v) → CallP 20 149 [.ref 59, .int w, .int q, .int v] (tellM M 0) (fun y K => y = .int (-1000001) ∧ RM K) := by
    intro h
    refine c_X7_change (by omega) ⟨⟨rfl, by rw [tl_n (by decide)]; exact hR.im⟩, ?_⟩
    rw [tl_n (by decide), if_neg h]
    exact ⟨rfl, hR.tell (by decide)⟩
  by_cases hw : hasW M 1 w ∧ 0 ≤ v
  · rw [if_pos hw]
    obtain ⟨hw, hv⟩ := hw
    have hv' : ¬ v < 0 := Int32.not_lt.mpr hv
    rw [hR.has] at hw
    obtain ⟨i, hi, rfl⟩ := has_n hw
    obtain ⟨e1, e2, e3, e4⟩ := hR.ww hi
    have ci : (nI i).toNatClampNeg = i := nI_clamp (by omega)
    rw [ci]
    have good : ∀ (f : Nat), f < 4 → q = nI f → mbF q v → M (3 + f) i = M 60 (wf i f) → CallP 20 149 [.ref 59, .int (nI i), .int q, .int v] (mset M (3 + f) i v) (fun y K => y = .int (M (3 + f) i) ∧ RM K) := by
      intro f hf hq hm he
      have e60 : mset M (3 + f) i v 60 = M 60 := mset_n (bq (by omega))
      refine c_X7_change (by omega) ⟨⟨rfl, by rw [e60]; exact hR.im⟩, ?_⟩
      rw [e60, if_pos ⟨hw, hm⟩, ci, hq, nI_clamp (show f < 2 ^ 31 by omega)]
      refine ⟨by rw [he], hR.fld hi hf (fun z => ?_)⟩
      subst z
      rcases hm with y | y | y | y
      · exact y.2
      · exact absurd (hq.symm.trans y.1) (by decide)
      · exact absurd (hq.symm.trans y.1) (by decide)
      · exact absurd (hq.symm.trans y.1) (by decide)
    by_cases q0 : q = 0
    · rw [if_pos q0]
      by_cases z : 6 < v
      · rw [if_pos z]
        refine bad (fun y => ?_)
        rcases y.2 with y | y | y | y
        · exact y.2.2 z
        · exact absurd (q0.symm.trans y.1) (by decide)
        · exact absurd (q0.symm.trans y.1) (by decide)
        · exact absurd (q0.symm.trans y.1) (by decide)
      · rw [if_neg z]
        exact good 0 (by decide) q0 (Or.inl ⟨q0, hv', z⟩) e1
    rw [if_neg q0]
    by_cases q1 : q = 1
    · rw [if_pos q1]
      by_cases z : 99 < v
      · rw [if_pos z]
        refine bad (fun y => ?_)
        rcases y.2 with y | y | y | y
        · exact absurd (q1.symm.trans y.1) (by decide)
        · exact y.2.2 z
        · exact absurd (q1.symm.trans y.1) (by decide)
        · exact absurd (q1.symm.trans y.1) (by decide)
      · rw [if_neg z]
        exact good 1 (by decide) q1 (Or.inr (Or.inl ⟨q1, hv', z⟩)) e2
    rw [if_neg q1]
    by_cases q2 : q = 2
    · rw [if_pos q2]
      by_cases z : 99 < v
      · rw [if_pos z]
        refine bad (fun y => ?_)
        rcases y.2 with y | y | y | y
        · exact absurd (q2.symm.trans y.1) (by decide)
        · exact absurd (q2.symm.trans y.1) (by decide)
        · exact y.2.2 z
        · exact absurd (q2.symm.trans y.1) (by decide)
      · rw [if_neg z]
        exact good 2 (by decide) q2 (Or.inr (Or.inr (Or.inl ⟨q2, hv', z⟩))) e3
    rw [if_neg q2]
    by_cases q3 : q = 3
    · rw [if_pos q3]
      by_cases z : 9999 < v
      · rw [if_pos z]
        refine bad (fun y => ?_)
        rcases y.2 with y | y | y | y
        · exact absurd (q3.symm.trans y.1) (by decide)
        · exact absurd (q3.symm.trans y.1) (by decide)
        · exact absurd (q3.symm.trans y.1) (by decide)
        · exact y.2.2 z
      · rw [if_neg z]
        exact good 3 (by decide) q3 (Or.inr (Or.inr (Or.inr ⟨q3, hv', z⟩))) e4
    rw [if_neg q3]
    refine bad (fun y => ?_)
    rcases y.2 with y | y | y | y
    · exact q0 y.1
    · exact q1 y.1
    · exact q2 y.1
    · exact q3 y.1
  · rw [if_neg hw]
    rw [hR.has] at hw
    refine bad (fun z => hw ⟨z.1, Int32.not_lt.mp ?_⟩)
    rcases z.2 with y | y | y | y
    · exact y.2.1
    · exact y.2.1
    · exact y.2.1
    · exact y.2.1
/-- a number of the bridge itself, in both -/
theorem RM.one {M : Mem} (h : RM M) {i j : Nat} {v : Int32} (hij : (i = 7 ∧ j = 3 ∧ ¬ v < 0) ∨ (i = 9 ∧ j = 2)) : RM (mset (mset M 1 i v) 60 j v) := by
  have e : ∀ p, p ≠ 60 → p ≠ 1 → mset (mset M 1 i v) 60 j v p = M p := fun p a b => by
    rw [mset_n (bq a), mset_n (bq b)]
  have e60 : mset (mset M 1 i v) 60 j v 60 = upd (M 60) j v := by
    rw [mset_s, mset_n (by decide)]
  have e1 : mset (mset M 1 i v) 60 j v 1 = upd (M 1) i v := by
    rw [mset_n (by decide), mset_s]
  have hj : j = 2 ∨ j = 3 := by omega
  refine h.br (fun p a b _ => e p a (by omega)) (by rw [e 44 (by decide) (by decide)]) (by rw [e 59 (by decide) (by decide)]) (by rw [e 59 (by decide) (by decide)]) ?_ ?_
  · obtain ⟨b1, b2, b3, b4, b5, b6, b7⟩ := h.1
    rw [e60]
    refine ⟨fun p hp => ?_, fun i' hi' => ?_, fun s hs => ?_, ?_, ?_, ?_, ?_⟩
    · rw [un (by omega), e _ (by omega) (by omega)]
      exact b1 p hp
    · have n0 : ∀ f, wf i' f ≠ j := fun f => by unfold wf; omega
      rw [un (n0 0), un (n0 1), un (n0 2), un (n0 3), e _ (by omega) (by omega), e _ (by omega) (by omega), e _ (by omega) (by omega), e _ (by omega) (by omega)]
      exact b2 i' hi'
    · rw [un (by omega), e _ (by omega) (by omega)]
      exact b3 s hs
    · rw [e1, un (by omega), un (by omega)]
      exact b4
    · rw [e1]
      rcases hij with ⟨rfl, rfl, _⟩ | ⟨rfl, rfl⟩
      · rw [upd_s, upd_s]
      · rw [upd_n (by decide), upd_n (by decide)]
        exact b5
    · rw [e1, un (by omega), un (by omega)]
      exact b6
    · rw [e1]
      rcases hij with ⟨rfl, rfl, _⟩ | ⟨rfl, rfl⟩
      · rw [upd_n (by decide), upd_n (by decide)]
        exact b7
      · rw [upd_s, upd_s]
  · rw [e60]
    obtain ⟨⟨n, hn, en⟩, h2, h3, h4, h5, h6⟩ := h.2.1
    have e1' : upd (M 60) j v 1 = M 60 1 := un (by omega)
    refine ⟨⟨n, hn, by rw [e1']; exact en⟩, fun p hp => by rw [un (by omega)]; exact h2 p hp, fun i' hi' => by rw [un (by unfold wf; omega)]; exact h3 i' hi', ?_, fun s hs => ?_, by rw [un (by omega)]; exact h6⟩
    · rcases hij with ⟨rfl, rfl, hv⟩ | ⟨rfl, rfl⟩
      · rw [upd_s]
        exact hv
      · rw [upd_n (by decide)]
        exact h4
    · rw [un (show 4 + s ≠ j by omega)]
      unfold hasM
      rw [e1']
      exact h5 s hs
theorem cmd_night {M : Mem} (hR : RM M) {v : Int32} : CallP 20 61 [.ref 0, .int v] M (fun x N => CallP 20 150 [.ref 59, .int v] N (fun y K => y = x ∧ RM K)) := by
  refine c_X6_night (by omega) ⟨rfl, ?_⟩
  by_cases h : v = 0 ∨ v = 1
  · rw [if_pos h]
    refine c_X7_night (by omega) ⟨rfl, ?_⟩
    rw [if_pos h, mset_n (by decide)]
    refine ⟨by rw [hR.nt], hR.one (Or.inl ⟨rfl, rfl, ?_⟩)⟩
    rw [← v01] at h
    exact h.1
  · rw [if_neg h]
    refine c_X7_night (by omega) ⟨rfl, ?_⟩
    rw [if_neg h]
    exact ⟨rfl, hR.tell (by decide)⟩
theorem cmd_seed {M : Mem} (hR : RM M) {v : Int32} : CallP 20 87 [.ref 0, .int v] M (fun x N => CallP 20 199 [.ref 59, .int v] N (fun y K => y = x ∧ RM K)) := by
  refine c_X6_seed (by omega) ⟨rfl, ?_⟩
  refine c_X7_seed (by omega) ⟨rfl, ?_⟩
  rw [mset_n (by decide)]
  exact ⟨by rw [hR.1.2.2.2.2.2.2], hR.one (Or.inr ⟨rfl, rfl⟩)⟩
theorem cmd_hold {M : Mem} (hR : RM M) {s w : Int32} : CallP 20 91 [.ref 0, .int s, .int w] M (fun x N => CallP 20 214 [.ref 59, .int s, .int w] N (fun y K => y = x ∧ RM K)) := by
  refine c_X6_hold (by omega) ⟨rfl, ?_⟩
  by_cases h : isS s ∧ (w = -1 ∨ hasW M 1 w)
  · rw [if_pos h]
    have h' : isS s ∧ (w = -1 ∨ hasM (M 60) w) := by
      rw [← hR.has]
      exact h
    obtain ⟨t, ht, rfl⟩ := s10_n h.1
    rw [nI_clamp (by omega)]
    have e60 : mset M 7 t w 60 = M 60 := mset_n (by decide)
    refine c_X7_hold (by omega) ⟨⟨rfl, by rw [e60]; exact hR.im⟩, ?_⟩
    rw [e60, if_pos h', nI_clamp (by omega)]
    refine ⟨rfl, ?_⟩
    have e : ∀ p, p ≠ 60 → p ≠ 7 → mset (mset M 7 t w) 60 (4 + t) w p = M p := fun p a b => by
      rw [mset_n (bq a), mset_n (bq b)]
    have f60 : mset (mset M 7 t w) 60 (4 + t) w 60 = upd (M 60) (4 + t) w := by
      rw [mset_s, mset_n (by decide)]
    have e7 : mset (mset M 7 t w) 60 (4 + t) w 7 = upd (M 7) t w := by
      rw [mset_n (by decide), mset_s]
    refine hR.br (fun p a b _ => e p a (by omega)) (by rw [e 44 (by decide) (by decide)]) (by rw [e 59 (by decide) (by decide)]) (by rw [e 59 (by decide) (by decide)]) ?_ ?_
    · obtain ⟨b1, b2, b3, b4, b5, b6, b7⟩ := hR.1
      rw [f60]
      refine ⟨fun p hp => ?_, fun i' hi' => ?_, fun s hs => ?_, ?_, ?_, ?_, ?_⟩
      · rw [un (by omega), e _ (by omega) (by omega)]
        exact b1 p hp
      · have n0 : ∀ f, wf i' f ≠ 4 + t := fun f => by unfold wf; omega
        rw [un (n0 0), un (n0 1), un (n0 2), un (n0 3), e _ (by omega) (by omega), e _ (by omega) (by omega), e _ (by omega) (by omega), e _ (by omega) (by omega)]
        exact b2 i' hi'
      · show mset (mset M 7 t w) 60 (4 + t) w 7 s = _
        rw [e7]
        by_cases z : s = t
        · rw [z, upd_s, upd_s]
        · rw [un z, un (by omega)]
          exact b3 s hs
      · rw [e 1 (by decide) (by decide), un (by omega)]
        exact b4
      · rw [e 1 (by decide) (by decide), un (by omega)]
        exact b5
      · rw [e 1 (by decide) (by decide), un (by omega)]
        exact b6
      · rw [e 1 (by decide) (by decide), un (by omega)]
        exact b7
    · rw [f60]
      obtain ⟨⟨n, hn, en⟩, h2, h3, h4, h5, h6⟩ := hR.2.1
      have e1' : upd (M 60) (4 + t) w 1 = M 60 1 := un (by omega)
      refine ⟨⟨n, hn, by rw [e1']; exact en⟩, fun p hp => by rw [un (by omega)]; exact h2 p hp, fun i' hi' => by rw [un (by unfold wf; omega)]; exact h3 i' hi', by rw [un (by omega)]; exact h4, fun s hs => ?_, by rw [un (by omega)]; exact h6⟩
      unfold hasM
      rw [e1']
      by_cases z : s = t
      · rw [z, upd_s]
        exact h'.2
      · rw [un (by omega)]
        exact h5 s hs
  · rw [if_neg h]
    rw [hR.has] at h
    refine c_X7_hold (by omega) ⟨⟨rfl, by rw [tl_n (by decide)]; exact hR.im⟩, ?_⟩
    rw [tl_n (by decide), if_neg h]
    exact ⟨rfl, hR.tell (by decide)⟩
