/-! BOTH: what would be -/
theorem ag_jk {M : Mem} {a b : Nat → Int32} : AG M (jk M a b) := by
  refine ⟨fun p hp => jk_n (bq (fun z => ?_)) (bq (fun z => ?_)), by rw [jk_n (by decide) (by decide)], by rw [jk_n (by decide) (by decide)], by rw [jk_n (by decide) (by decide)]⟩
  · subst z
    cases hp
  · subst z
    cases hp
theorem ag_j2 {M : Mem} {a : Nat → Int32} : AG M (j2 M a (M 60)) := by
  refine ⟨fun p hp => ?_, by rw [j2_n (by decide) (by decide)], by rw [j2_n (by decide) (by decide)], by rw [j2_n (by decide) (by decide)]⟩
  by_cases z : p = 60
  · subst z
    exact j2_60
  · refine j2_n (bq z) (bq (fun y => ?_))
    subst y
    cases hp
theorem AG.fnd {M N : Mem} {c : Nat} (h : AG M N) : AG (fndM M c) (fndM N c) := by
  have e63 := h.1 63 rfl
  have f63 : fndM N c 63 = fndM M c 63 := by
    unfold fndM
    rw [mset_s, mset_s, mset_s, mset_s, e63]
  have n : ∀ (K : Mem) (p : Nat), p ≠ 63 → fndM K c p = K p := fun K p z => by
    unfold fndM
    rw [mset_n (bq z), mset_n (bq z)]
  refine ⟨fun p hp => ?_, ?_, ?_, ?_⟩
  · by_cases z : p = 63
    · rw [z]
      exact f63
    · rw [n N p z, n M p z]
      exact h.1 p hp
  · rw [n N 44 (by decide), n M 44 (by decide)]
    exact h.2.1
  · rw [n N 59 (by decide), n M 59 (by decide)]
    exact h.2.2.1
  · rw [n N 59 (by decide), n M 59 (by decide)]
    exact h.2.2.2
theorem crr_p {r : Nat → Int32} {i p : Nat} (hp : p < 12) : crr r i (14 + p) = (crx r i).2.2 p := by
  have n1 : ∀ f, 14 + p ≠ wf i f := fun f => by unfold wf; omega
  unfold crr
  rw [un (by omega)]
  split
  · rw [un (n1 3), rwQ_in hp]
  · rw [un (n1 1), rwQ_in hp]
theorem crr_g {r : Nat → Int32} {i : Nat} : crr r i (wf i 1) = if (crx r i).1 < 12 then r (wf i 1) else (crx r i).2.1 := by
  have n3 : wf i 1 ≠ wf i 3 := by unfold wf; omega
  unfold crr
  rw [un (by unfold wf; omega)]
  by_cases h : (crx r i).1 < 12
  · rw [if_pos h, if_pos h, un n3, rwQ_w]
  · rw [if_neg h, if_neg h, upd_s]
theorem crr_w {r : Nat → Int32} {i j f : Nat} (hf : f < 4) (h : j ≠ i ∨ f = 0 ∨ f = 2) : crr r i (wf j f) = r (wf j f) := by
  have n3 : wf j f ≠ wf i 3 := by unfold wf; omega
  have n1 : wf j f ≠ wf i 1 := by unfold wf; omega
  unfold crr
  rw [un (by unfold wf; omega)]
  split
  · rw [un n3, rwQ_w]
  · rw [un n1, rwQ_w]
theorem crr_l {r : Nat → Int32} {i j : Nat} (hj : j < 14) (h0 : j ≠ 0) : crr r i j = r j := by
  have n : ∀ f, j ≠ wf i f := fun f => by unfold wf; omega
  unfold crr
  rw [un h0]
  split
  · rw [un (n 3), rwQ_out (by omega)]
  · rw [un (n 1), rwQ_out (by omega)]
theorem plr_u {r : Nat → Int32} {i f : Nat} {v : Int32} {j : Nat} (hj : j < 12) : plr (upd r (wf i f) v) j = plr r j := by
  unfold plr
  exact un (by unfold wf; omega)
theorem mwk_c {kd bl nt g : Int32} {p q : Nat → Int32} (h : ∀ j, j < 12 → p j = q j) : (mwk kd bl nt g p).1 = (mwk kd bl nt g q).1 ∧ (mwk kd bl nt g p).2.1 = (mwk kd bl nt g q).2.1 ∧ ∀ j, j < 12 → (mwk kd bl nt g p).2.2 j = (mwk kd bl nt g q).2.2 j := goF_congr 12 0 g p q (by decide) h
theorem RM.xg {M : Mem} (h : RM M) {i : Nat} (hi : i < 6) {g : Int32} : (xwg M i g).1 = (crx (upd (M 60) (wf i 1) g) i).1 ∧ ∀ j, j < 12 → (xwg M i g).2.2 j = (crx (upd (M 60) (wf i 1) g) i).2.2 j := by
  obtain ⟨e1, e2, e3, e4⟩ := h.ww hi
  have n0 : wf i 0 ≠ wf i 1 := by unfold wf; omega
  have n2 : wf i 2 ≠ wf i 1 := by unfold wf; omega
  have n3 : 3 ≠ wf i 1 := by unfold wf; omega
  unfold xwg crx
  rw [e1, e3, h.nt, un n0, un n2, un n3, upd_s]
  have := wk_m (bl := M 60 (wf i 2)) (nt := M 60 3) (g := g) (h.kd hi) (fun j hj => (h.pl hj).trans (plr_u (i := i) (f := 1) (v := g) hj).symm)
  exact ⟨this.1, this.2.2⟩
theorem RM.xb {M : Mem} (h : RM M) {i : Nat} (hi : i < 6) {b : Int32} : (xwb M i b).1 = (crx (upd (M 60) (wf i 2) b) i).1 := by
  obtain ⟨e1, e2, e3, e4⟩ := h.ww hi
  have n0 : wf i 0 ≠ wf i 2 := by unfold wf; omega
  have n2 : wf i 1 ≠ wf i 2 := by unfold wf; omega
  have n3 : 3 ≠ wf i 2 := by unfold wf; omega
  unfold xwb crx
  rw [e1, e2, h.nt, un n0, un n2, un n3, upd_s]
  exact (wk_m (h.kd hi) (fun j hj => (h.pl hj).trans (plr_u hj).symm)).1
theorem RM.xk {M : Mem} (h : RM M) {i : Nat} (hi : i < 6) {k : Int32} (hk : isK k) : (xwk M i k).1 = (crx (upd (M 60) (wf i 0) k) i).1 := by
  obtain ⟨e1, e2, e3, e4⟩ := h.ww hi
  have n0 : wf i 1 ≠ wf i 0 := by unfold wf; omega
  have n2 : wf i 2 ≠ wf i 0 := by unfold wf; omega
  have n3 : 3 ≠ wf i 0 := by unfold wf; omega
  unfold xwk crx
  rw [e2, e3, h.nt, un n0, un n2, un n3, upd_s]
  exact (wk_m hk (fun j hj => (h.pl hj).trans (plr_u hj).symm)).1
theorem st_congr {c e : Nat → Prop} [DecidablePred c] [DecidablePred e] : ∀ (n i : Nat) (s : Int32), (∀ j, j < i + n → (c j ↔ e j)) → stF c n i s = stF e n i s := by
  intro n
  induction n with
  | zero => intro i s _; rfl
  | succ n ih =>
    intro i s h
    rw [stF, stF]
    by_cases z : c i
    · rw [if_pos z, if_pos ((h i (by omega)).mp z)]
      exact ih (i + 1) _ (fun j hj => h j (by omega))
    · rw [if_neg z, if_neg (fun y => z ((h i (by omega)).mpr y))]
      exact ih (i + 1) _ (fun j hj => h j (by omega))
theorem cnt_congr {c e : Nat → Prop} [DecidablePred c] [DecidablePred e] : ∀ (n i : Nat) (s : Int32), (∀ j, j < i + n → (c j ↔ e j)) → cntF c n i s = cntF e n i s := by
  intro n
  induction n with
  | zero => intro i s _; rfl
  | succ n ih =>
    intro i s h
    rw [cntF, cntF]
    by_cases z : c i
    · rw [if_pos z, if_pos ((h i (by omega)).mp z)]
      exact ih (i + 1) _ (fun j hj => h j (by omega))
    · rw [if_neg z, if_neg (fun y => z ((h i (by omega)).mpr y))]
      exact ih (i + 1) _ (fun j hj => h j (by omega))
theorem lst_congr {c e : Nat → Prop} [DecidablePred c] [DecidablePred e] : ∀ (n i : Nat), (∀ j, j < i + n → (c j ↔ e j)) → lstF c n i = lstF e n i := by
  intro n
  induction n with
  | zero => intro i _; rfl
  | succ n ih =>
    intro i h
    rw [lstF, lstF]
    by_cases z : c i
    · rw [if_pos z, if_pos ((h i (by omega)).mp z)]
    · rw [if_neg z, if_neg (fun y => z ((h i (by omega)).mpr y))]
      exact ih (i + 1) (fun j hj => h j (by omega))
theorem jk60 {M : Mem} {a b : Nat → Int32} : jk M a b 60 = M 60 := jk_n (by decide) (by decide)
theorem cmd_now {M : Mem} (hR : RM M) {q : Int32} : CallP 20 64 [.ref 0, .int q] M (fun x N => CallP 20 161 [.ref 59, .int q] N (fun y K => y = x ∧ RM K)) := by
  refine c_X6_now (by omega) ⟨⟨rfl, hR.iv⟩, ?_⟩
  by_cases q0 : q = 0
  · rw [if_pos q0]
    refine c_X7_now (by omega) ⟨⟨rfl, hR.im⟩, ?_⟩
    rw [if_pos q0]
    exact ⟨by rw [hR.1.2.2.2.2.2.1], hR⟩
  rw [if_neg q0]
  by_cases q1 : q = 1
  · rw [if_pos q1]
    refine c_X7_now (by omega) ⟨⟨rfl, hR.im⟩, ?_⟩
    rw [if_neg q0, if_pos q1]
    exact ⟨by rw [hR.sp], hR⟩
  rw [if_neg q1]
  by_cases q2 : q = 2
  · rw [if_pos q2]
    intro a b
    refine c_X7_now (by omega) ⟨⟨rfl, by rw [jk60]; exact hR.im⟩, ?_⟩
    rw [if_neg q0, if_neg q1, if_pos q2]
    intro a'
    refine ⟨?_, (hR.ag ag_jk).ag ag_j2⟩
    rw [jk60]
    obtain ⟨n, hn, e1, e2⟩ := hR.cn
    rw [e1, e2, nI_clamp (by omega)]
    exact congrArg Value.int (st_congr n 0 0 (fun j hj => by rw [(hR.cx (show j < 6 by omega)).1])).symm
  rw [if_neg q2]
  by_cases q3 : q = 3
  · rw [if_pos q3]
    refine c_X7_now (by omega) ⟨⟨rfl, hR.im⟩, ?_⟩
    rw [if_neg q0, if_neg q1, if_neg q2, if_pos q3]
    exact ⟨by rw [hR.nt], hR⟩
  rw [if_neg q3]
  by_cases q4 : q = 4
  · rw [if_pos q4]
    refine c_X7_now (by omega) ⟨⟨rfl, hR.im⟩, ?_⟩
    rw [if_neg q0, if_neg q1, if_neg q2, if_neg q3, if_pos q4]
    exact ⟨by rw [hR.s3], hR⟩
  rw [if_neg q4]
  by_cases q5 : q = 5
  · rw [if_pos q5]
    refine c_X7_now (by omega) ⟨⟨rfl, hR.im⟩, ?_⟩
    rw [if_neg q0, if_neg q1, if_neg q2, if_neg q3, if_neg q4, if_pos q5]
    exact ⟨by rw [hR.s1], hR⟩
  rw [if_neg q5]
  refine c_X7_now (by omega) ⟨⟨rfl, by rw [tl_n (by decide)]; exact hR.im⟩, ?_⟩
  rw [if_neg q0, if_neg q1, if_neg q2, if_neg q3, if_neg q4, if_neg q5]
  exact ⟨rfl, hR.tell (by decide)⟩
theorem cmd_would {M : Mem} (hR : RM M) {w : Int32} : CallP 20 65 [.ref 0, .int w] M (fun x N => CallP 20 162 [.ref 59, .int w] N (fun y K => y = x ∧ RM K)) := by
  refine c_X6_would (by omega) ⟨rfl, ?_⟩
  by_cases h : hasW M 1 w
  · rw [if_pos h]
    rw [hR.has] at h
    obtain ⟨i, hi, rfl⟩ := has_n h
    have ci : (nI i).toNatClampNeg = i := nI_clamp (by omega)
    rw [ci]
    intro a b
    refine c_X7_would (by omega) ⟨⟨rfl, by rw [jk60]; exact hR.im⟩, ?_⟩
    rw [jk60, if_pos h, ci]
    intro a'
    have hz := (hR.ag (ag_jk (a := a) (b := b))).ag (ag_j2 (a := a'))
    rw [jk60] at hz
    refine ⟨?_, hz⟩
    rw [(hR.cx hi).1]
  · rw [if_neg h]
    rw [hR.has] at h
    refine c_X7_would (by omega) ⟨⟨rfl, by rw [tl_n (by decide)]; exact hR.im⟩, ?_⟩
    rw [tl_n (by decide), if_neg h]
    exact ⟨rfl, hR.tell (by decide)⟩
theorem cmd_becomes {M : Mem} (hR : RM M) {w : Int32} : CallP 20 66 [.ref 0, .int w] M (fun x N => CallP 20 164 [.ref 59, .int w] N (fun y K => y = x ∧ RM K)) := by
  refine c_X6_becomes (by omega) ⟨rfl, ?_⟩
  by_cases h : hasW M 1 w
  · rw [if_pos h]
    rw [hR.has] at h
    obtain ⟨i, hi, rfl⟩ := has_n h
    have ci : (nI i).toNatClampNeg = i := nI_clamp (by omega)
    rw [ci]
    intro a b
    refine c_X7_becomes (by omega) ⟨⟨rfl, by rw [jk60]; exact hR.im⟩, ?_⟩
    rw [jk60, if_pos h, ci]
    intro a'
    have hz := (hR.ag (ag_jk (a := a) (b := b))).ag (ag_j2 (a := a'))
    rw [jk60] at hz
    refine ⟨?_, hz⟩
    rw [crr_g, (hR.cx hi).1, (hR.cx hi).2.1, (hR.ww hi).2.1]
  · rw [if_neg h]
    rw [hR.has] at h
    refine c_X7_becomes (by omega) ⟨⟨rfl, by rw [tl_n (by decide)]; exact hR.im⟩, ?_⟩
    rw [tl_n (by decide), if_neg h]
    exact ⟨rfl, hR.tell (by decide)⟩
theorem of_eq {i : Nat} (hi : i < 6) {kd bl nt : Int32} (hk : isK kd) : ∀ (n t : Nat) (g : Int32) (p r : Nat → Int32), r (wf i 0) = kd → r (wf i 2) = bl → r 3 = nt → r (wf i 1) = g → (∀ j, j < 12 → p j = plr r j) → ofF kd (brs kd bl nt) n t g p = ofM i n t r := by
  intro n
  induction n with
  | zero => intro t g p r _ _ _ _ _; rfl
  | succ n ih =>
    intro t g p r e0 e2 e3 e1 hp
    have key := wk_m (bl := bl) (nt := nt) (g := g) hk hp
    have hc : crx r i = mwk kd bl nt g (plr r) := by
      unfold crx
      rw [e0, e1, e2, e3]
    rw [← hc] at key
    rw [ofF, ofM]
    have k1 : (goF kd (brs kd bl nt) 12 0 g p).1 = (crx r i).1 := key.1
    rw [k1]
    by_cases h : (crx r i).1 < 12
    · rw [if_pos h, if_pos h]
    · rw [if_neg h, if_neg h]
      refine ih (t + 1) _ _ (crr r i) ?_ ?_ ?_ ?_ (fun j hj => ?_)
      · rw [crr_w (by decide) (Or.inr (Or.inl rfl))]
        exact e0
      · rw [crr_w (by decide) (Or.inr (Or.inr rfl))]
        exact e2
      · rw [crr_l (by decide) (by decide)]
        exact e3
      · rw [crr_g, if_neg h]
        exact key.2.1.symm
      · show _ = crr r i (14 + j)
        rw [crr_p hj]
        exact key.2.2 j hj
theorem cmd_often {M : Mem} (hR : RM M) {w : Int32} : CallP 20 69 [.ref 0, .int w] M (fun x N => CallP 20 168 [.ref 59, .int w] N (fun y K => y = x ∧ RM K)) := by
  refine c_X6_often (by omega) ⟨rfl, ?_⟩
  by_cases h : hasW M 1 w
  · rw [if_pos h]
    rw [hR.has] at h
    obtain ⟨i, hi, rfl⟩ := has_n h
    have ci : (nI i).toNatClampNeg = i := nI_clamp (by omega)
    rw [ci]
    intro a b
    refine c_X7_often (by omega) ⟨⟨rfl, by rw [jk60]; exact hR.im⟩, ?_⟩
    rw [jk60, if_pos h, ci]
    intro a'
    have hz := (hR.ag (ag_jk (a := a) (b := b))).ag (ag_j2 (a := a'))
    rw [jk60] at hz
    refine ⟨?_, hz⟩
    rw [of_eq hi (kd := M 3 i) (by rw [(hR.ww hi).1]; exact hR.kd hi) 60 0 (M 4 i) (M 2) (M 60) (hR.ww hi).1.symm (hR.ww hi).2.2.1.symm hR.nt.symm (hR.ww hi).2.1.symm (fun j hj => hR.pl hj)]
  · rw [if_neg h]
    rw [hR.has] at h
    refine c_X7_often (by omega) ⟨⟨rfl, by rw [tl_n (by decide)]; exact hR.im⟩, ?_⟩
    rw [tl_n (by decide), if_neg h]
    exact ⟨rfl, hR.tell (by decide)⟩
theorem cmd_gaits {M : Mem} (hR : RM M) {w : Int32} : CallP 20 71 [.ref 0, .int w] M (fun x N => CallP 20 172 [.ref 59, .int w] N (fun y K => y = x ∧ RM K)) := by
  refine c_X6_gaits (by omega) ⟨rfl, ?_⟩
  by_cases h : hasW M 1 w
  · rw [if_pos h]
    rw [hR.has] at h
    obtain ⟨i, hi, rfl⟩ := has_n h
    have ci : (nI i).toNatClampNeg = i := nI_clamp (by omega)
    rw [ci]
    intro a b
    refine c_X7_gaits (by omega) ⟨⟨rfl, by rw [jk60]; exact hR.im⟩, ?_⟩
    rw [jk60, if_pos h, ci]
    intro a'
    have hz := (hR.ag (ag_jk (a := a) (b := b))).ag (ag_j2 (a := a'))
    rw [jk60] at hz
    refine ⟨?_, hz⟩
    exact congrArg Value.int (cnt_congr 100 0 0 (fun j hj => by rw [(hR.xg hi).1])).symm
  · rw [if_neg h]
    rw [hR.has] at h
    refine c_X7_gaits (by omega) ⟨⟨rfl, by rw [tl_n (by decide)]; exact hR.im⟩, ?_⟩
    rw [tl_n (by decide), if_neg h]
    exact ⟨rfl, hR.tell (by decide)⟩
theorem cmd_kindsFor {M : Mem} (hR : RM M) {w : Int32} : CallP 20 73 [.ref 0, .int w] M (fun x N => CallP 20 174 [.ref 59, .int w] N (fun y K => y = x ∧ RM K)) := by
  refine c_X6_kindsFor (by omega) ⟨rfl, ?_⟩
  by_cases h : hasW M 1 w
  · rw [if_pos h]
    rw [hR.has] at h
    obtain ⟨i, hi, rfl⟩ := has_n h
    have ci : (nI i).toNatClampNeg = i := nI_clamp (by omega)
    rw [ci]
    intro a b
    refine c_X7_kindsFor (by omega) ⟨⟨rfl, by rw [jk60]; exact hR.im⟩, ?_⟩
    rw [jk60, if_pos h, ci]
    intro a'
    have hz := (hR.ag (ag_jk (a := a) (b := b))).ag (ag_j2 (a := a'))
    rw [jk60] at hz
    refine ⟨?_, hz⟩
    exact congrArg Value.int (st_congr 7 0 0 (fun j hj => by rw [hR.xk hi ⟨nI_pos (by omega), nI_nlt (a := 6) (by omega) (by decide)⟩])).symm
  · rw [if_neg h]
    rw [hR.has] at h
    refine c_X7_kindsFor (by omega) ⟨⟨rfl, by rw [tl_n (by decide)]; exact hR.im⟩, ?_⟩
    rw [tl_n (by decide), if_neg h]
    exact ⟨rfl, hR.tell (by decide)⟩
theorem cmd_gaitFor {M : Mem} (hR : RM M) {w : Int32} : CallP 20 72 [.ref 0, .int w] M (fun x N => CallP 20 173 [.ref 59, .int w] N (fun y K => y = x ∧ RM K)) := by
  refine c_X6_gaitFor (by omega) ⟨rfl, ?_⟩
  by_cases h : hasW M 1 w
  · rw [if_pos h]
    rw [hR.has] at h
    obtain ⟨i, hi, rfl⟩ := has_n h
    have ci : (nI i).toNatClampNeg = i := nI_clamp (by omega)
    rw [ci]
    intro a b
    have e : lstF (fun g => ¬ (xwg M i (nI g)).1 < 12) 100 0 = lstF (fun v => ¬ (crx (upd (M 60) (wf i 1) (nI v)) i).1 < 12) 100 0 := lst_congr 100 0 (fun j hj => by rw [(hR.xg hi).1])
    by_cases h0 : lstF (fun g => ¬ (xwg M i (nI g)).1 < 12) 100 0 = -1
    · rw [if_pos h0]
      rw [e] at h0
      refine c_X7_gaitFor (by omega) ⟨⟨rfl, by rw [tl_n (by decide), jk60]; exact hR.im⟩, ?_⟩
      rw [tl_n (by decide), jk60, if_pos h, ci]
      intro a'
      rw [if_pos (by rw [h0]; decide)]
      have hz := ((hR.ag (ag_jk (a := a) (b := b))).tell (c := 3) (by decide)).ag ((ag_j2 (M := tellM (jk M a b) 3) (a := a')).fnd (c := 3))
      rw [tl_n (by decide), jk60] at hz
      exact ⟨rfl, hz⟩
    · rw [if_neg h0]
      rw [e] at h0
      refine c_X7_gaitFor (by omega) ⟨⟨rfl, by rw [jk60]; exact hR.im⟩, ?_⟩
      rw [jk60, if_pos h, ci]
      intro a'
      rw [if_neg (by rw [lst_n 100 0 (by decide)]; exact h0)]
      have hz := (hR.ag (ag_jk (a := a) (b := b))).ag (ag_j2 (a := a'))
      rw [jk60] at hz
      exact ⟨by rw [e], hz⟩
  · rw [if_neg h]
    rw [hR.has] at h
    refine c_X7_gaitFor (by omega) ⟨⟨rfl, by rw [tl_n (by decide)]; exact hR.im⟩, ?_⟩
    rw [tl_n (by decide), if_neg h]
    exact ⟨rfl, hR.tell (by decide)⟩
theorem cmd_balanceFor {M : Mem} (hR : RM M) {w : Int32} : CallP 20 70 [.ref 0, .int w] M (fun x N => CallP 20 171 [.ref 59, .int w] N (fun y K => y = x ∧ RM K)) := by
  refine c_X6_balanceFor (by omega) ⟨rfl, ?_⟩
  by_cases h : hasW M 1 w
  · rw [if_pos h]
    rw [hR.has] at h
    obtain ⟨i, hi, rfl⟩ := has_n h
    have ci : (nI i).toNatClampNeg = i := nI_clamp (by omega)
    rw [ci]
    intro a b
    have e : lstF (fun g => ¬ (xwb M i (nI g)).1 < 12) 100 0 = lstF (fun v => ¬ (crx (upd (M 60) (wf i 2) (nI v)) i).1 < 12) 100 0 := lst_congr 100 0 (fun j hj => by rw [hR.xb hi])
    by_cases h0 : lstF (fun g => ¬ (xwb M i (nI g)).1 < 12) 100 0 = -1
    · rw [if_pos h0]
      rw [e] at h0
      refine c_X7_balanceFor (by omega) ⟨⟨rfl, by rw [tl_n (by decide), jk60]; exact hR.im⟩, ?_⟩
      rw [tl_n (by decide), jk60, if_pos h, ci]
      intro a'
      rw [if_pos (by rw [h0]; decide)]
      have hz := ((hR.ag (ag_jk (a := a) (b := b))).tell (c := 3) (by decide)).ag ((ag_j2 (M := tellM (jk M a b) 3) (a := a')).fnd (c := 3))
      rw [tl_n (by decide), jk60] at hz
      exact ⟨rfl, hz⟩
    · rw [if_neg h0]
      rw [e] at h0
      refine c_X7_balanceFor (by omega) ⟨⟨rfl, by rw [jk60]; exact hR.im⟩, ?_⟩
      rw [jk60, if_pos h, ci]
      intro a'
      rw [if_neg (by rw [lst_n 100 0 (by decide)]; exact h0)]
      have hz := (hR.ag (ag_jk (a := a) (b := b))).ag (ag_j2 (a := a'))
      rw [jk60] at hz
      exact ⟨by rw [e], hz⟩
  · rw [if_neg h]
    rw [hR.has] at h
    refine c_X7_balanceFor (by omega) ⟨⟨rfl, by rw [tl_n (by decide)]; exact hR.im⟩, ?_⟩
    rw [tl_n (by decide), if_neg h]
    exact ⟨rfl, hR.tell (by decide)⟩
theorem cmd_leaves {M : Mem} (hR : RM M) {w p : Int32} : CallP 20 67 [.ref 0, .int w, .int p] M (fun x N => CallP 20 165 [.ref 59, .int w, .int p] N (fun y K => y = x ∧ RM K)) := by
  refine c_X6_leaves (by omega) ⟨rfl, ?_⟩
  by_cases h : hasW M 1 w ∧ isP p
  · rw [if_pos h]
    rw [hR.has] at h
    obtain ⟨i, hi, rfl⟩ := has_n h.1
    obtain ⟨t, ht, rfl⟩ := i32_14 h.2.1 h.2.2
    have ci : (nI i).toNatClampNeg = i := nI_clamp (by omega)
    have ct : (nI t).toNatClampNeg = t := nI_clamp (by omega)
    rw [ci, ct]
    intro a b
    refine c_X7_leaves (by omega) ⟨⟨rfl, by rw [jk60]; exact hR.im⟩, ?_⟩
    rw [jk60, if_pos h, ci, ct]
    intro a'
    have hz := (hR.ag (ag_jk (a := a) (b := b))).ag (ag_j2 (a := a'))
    rw [jk60] at hz
    exact ⟨by rw [crr_p ht, (hR.cx hi).2.2 t ht], hz⟩
  · rw [if_neg h]
    rw [hR.has] at h
    refine c_X7_leaves (by omega) ⟨⟨rfl, by rw [tl_n (by decide)]; exact hR.im⟩, ?_⟩
    rw [tl_n (by decide), if_neg h]
    exact ⟨rfl, hR.tell (by decide)⟩
theorem cmd_after {M : Mem} (hR : RM M) {w f : Int32} : CallP 20 68 [.ref 0, .int w, .int f] M (fun x N => CallP 20 167 [.ref 59, .int w, .int f] N (fun y K => y = x ∧ RM K)) := by
  refine c_X6_after (by omega) ⟨rfl, ?_⟩
  by_cases h : hasW M 1 w ∧ hasW M 1 f ∧ ¬ w = f
  · rw [if_pos h]
    rw [hR.has, hR.has] at h
    obtain ⟨i, hi, rfl⟩ := has_n h.1
    obtain ⟨j, hj, rfl⟩ := has_n h.2.1
    have ci : (nI i).toNatClampNeg = i := nI_clamp (by omega)
    have cj : (nI j).toNatClampNeg = j := nI_clamp (by omega)
    have hij : i ≠ j := fun z => h.2.2 (by rw [z])
    rw [ci, cj]
    intro a b
    refine c_X7_after (by omega) ⟨⟨rfl, by rw [jk60]; exact hR.im⟩, ?_⟩
    rw [jk60, if_pos h, ci, cj]
    intro a'
    have hz := (hR.ag (ag_jk (a := a) (b := b))).ag (ag_j2 (a := a'))
    rw [jk60] at hz
    refine ⟨?_, hz⟩
    have e : (xwr M i (xw M j).2.2).1 = (crx (crr (M 60) j) i).1 := by
      obtain ⟨e1, e2, e3, e4⟩ := hR.ww hi
      unfold xwr crx
      rw [crr_w (by decide) (Or.inl hij), crr_w (by decide) (Or.inl hij), crr_w (by decide) (Or.inl hij), crr_l (by decide) (by decide), e1, e2, e3, hR.nt]
      refine (wk_m (hR.kd hi) (fun p hp => ?_)).1
      show _ = crr (M 60) j (14 + p)
      rw [crr_p hp]
      exact (hR.cx hj).2.2 p hp
    rw [e]
  · rw [if_neg h]
    rw [hR.has, hR.has] at h
    refine c_X7_after (by omega) ⟨⟨rfl, by rw [tl_n (by decide)]; exact hR.im⟩, ?_⟩
    rw [tl_n (by decide), if_neg h]
    exact ⟨rfl, hR.tell (by decide)⟩
