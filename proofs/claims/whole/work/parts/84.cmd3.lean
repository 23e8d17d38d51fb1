/-! BOTH: as, images, counts, what would be -/
theorem cmd_as {M : Mem} (hR : RM M) {s q : Int32} : CallP 20 92 [.ref 0, .int s, .int q] M (fun x N => CallP 20 215 [.ref 59, .int s, .int q] N (fun y K => y = x ∧ RM K)) := by
  have pre : ∀ N : Mem, N 60 = M 60 → (59 = 59 ∧ (∀ i, i < 6 → isK (N 60 (wf i 0))) ∧ (∀ t, t < 10 → ¬ N 60 (4 + t) < 0 → wOK (N 60 (4 + t)))) := by
    intro N e
    rw [e]
    refine ⟨rfl, fun i hi => hR.kd hi, fun t ht hz => ?_⟩
    rcases hR.2.1.2.2.2.2.1 t ht with z | z
    · rw [z] at hz
      exact absurd (by decide) hz
    · exact hasM_o z
  refine c_X6_as (by omega) ⟨⟨rfl, fun i hi => by rw [(hR.ww hi).1]; exact hR.kd hi⟩, ?_⟩
  by_cases h : isS s ∧ isK q
  · rw [if_pos h]
    obtain ⟨t, ht, rfl⟩ := s10_n h.1
    have ct : (nI t).toNatClampNeg = t := nI_clamp (by omega)
    rw [ct]
    have e7 : M 7 t = M 60 (4 + t) := hR.1.2.2.1 t ht
    by_cases hw : hasW M 1 (M 7 t)
    · rw [if_pos hw]
      rw [hR.has] at hw
      have hn : ¬ M 60 (4 + t) < 0 := by rw [← e7]; exact hw.1
      obtain ⟨i, hi, ei⟩ := has_n hw
      have ei' : M 60 (4 + t) = nI i := by rw [← e7]; exact ei
      rw [ei, nI_clamp (show i < 2 ^ 31 by omega), (hR.ww hi).1]
      refine ⟨fun hu => ?_, fun hu => ?_⟩
      · refine c_X7_as (by omega) ⟨pre M rfl, ?_⟩
        rw [if_pos h, ct, if_neg hn, ei', nI_clamp (show i < 2 ^ 31 by omega)]
        exact ⟨fun _ => ⟨rfl, hR⟩, fun z => absurd hu z⟩
      · refine c_X7_as (by omega) ⟨pre _ (tl_n (by decide)), ?_⟩
        rw [tl_n (by decide), if_pos h, ct, if_neg hn, ei', nI_clamp (show i < 2 ^ 31 by omega)]
        exact ⟨fun z => absurd z hu, fun _ => ⟨rfl, hR.tell (by decide)⟩⟩
    · rw [if_neg hw]
      rw [hR.has, e7] at hw
      have hn : M 60 (4 + t) < 0 := by
        rcases hR.2.1.2.2.2.2.1 t ht with z | z
        · rw [z]; decide
        · exact absurd z hw
      refine c_X7_as (by omega) ⟨pre _ (tl_n (by decide)), ?_⟩
      rw [tl_n (by decide), if_pos h, ct, if_pos hn]
      exact ⟨rfl, hR.tell (by decide)⟩
  · rw [if_neg h]
    refine c_X7_as (by omega) ⟨pre _ (tl_n (by decide)), ?_⟩
    rw [if_neg h]
    exact ⟨rfl, hR.tell (by decide)⟩
/-- the parts of the relation that a change leaves -/
theorem RM.mk' {M N : Mem} (h : RM M) (a : ∀ p, p ≠ 0 → p ≠ 44 → p ≠ 59 → N p = M p) (k : RK N) (t1 : N 44 1 = N 59 12) (t2 : ∃ m, m ≤ 120 ∧ N 59 12 = nI m) : RM N := by
  obtain ⟨h1, h2, h3, ⟨f1, f2⟩, ⟨s1, s2⟩, ⟨y1, y2, y3⟩⟩ := h
  have e60 := a 60 (by decide) (by decide) (by decide)
  refine ⟨by rw [e60]; exact h1.ag (fun j hj => a _ (by omega) (by omega) (by omega)), by rw [e60]; exact h2, k, ⟨by rw [a 58 (by decide) (by decide) (by decide), a 63 (by decide) (by decide) (by decide)]; exact f1, by rw [a 58 (by decide) (by decide) (by decide), a 63 (by decide) (by decide) (by decide)]; exact f2⟩, ⟨fun s hs => ?_, ?_⟩, ⟨by rw [a 45 (by decide) (by decide) (by decide), a 67 (by decide) (by decide) (by decide)]; exact y1, t1, t2⟩⟩
  · rw [a 56 (by decide) (by decide) (by decide), a 57 (by decide) (by decide) (by decide), a 70 (by decide) (by decide) (by decide), a 71 (by decide) (by decide) (by decide), a 72 (by decide) (by decide) (by decide), a (52 + s) (by omega) (by omega) (by omega)]
    exact s1 s hs
  · unfold ZV
    rw [a 57 (by decide) (by decide) (by decide)]
    exact s2
theorem cmd_wipe {M : Mem} (hR : RM M) : CallP 20 89 [.ref 0] M (fun x N => CallP 20 201 [.ref 59] N (fun y K => y = x ∧ RM K)) := by
  refine c_X6_wipe (by omega) ⟨rfl, ?_⟩
  refine c_X7_wipe (by omega) ⟨rfl, ?_⟩
  obtain ⟨h1, h2, ⟨k1, k2, k3⟩, h4, h5, ⟨y1, y2, y3⟩⟩ := id hR
  have e : ∀ p, p ≠ 44 → p ≠ 59 → mset (mset M 44 1 0) 59 12 0 p = M p := fun p a b => by rw [mset_n (bq b), mset_n (bq a)]
  have e59 : mset (mset M 44 1 0) 59 12 0 59 = upd (M 59) 12 0 := by rw [mset_s, mset_n (by decide)]
  have e44 : mset (mset M 44 1 0) 59 12 0 44 = upd (M 44) 1 0 := by rw [mset_n (by decide), mset_s]
  refine ⟨by rw [mset_n (by decide), y2], hR.mk' (fun p _ a b => e p a b) ⟨?_, ?_, fun z => ?_⟩ ?_ ?_⟩
  · rw [e 0 (by decide) (by decide), e59, upd_n (by decide)]
    exact k1
  · rw [e 0 (by decide) (by decide)]
    exact k2
  · rw [e 0 (by decide) (by decide)] at z
    rw [e 61 (by decide) (by decide)]
    exact ⟨(k3 z).1.ag (fun j hj => e _ (by omega) (by omega)), (k3 z).2⟩
  · rw [e44, e59, upd_s, upd_s]
  · exact ⟨0, by decide, by rw [e59, upd_s]; rfl⟩
theorem cmd_tear {M : Mem} (hR : RM M) : CallP 20 100 [.ref 0] M (fun x N => CallP 20 227 [.ref 59] N (fun y K => y = x ∧ RM K)) := by
  obtain ⟨h1, h2, ⟨k1, k2, k3⟩, h4, h5, ⟨y1, y2, y3⟩⟩ := id hR
  refine c_X6_tear (by omega) ⟨⟨rfl, k2⟩, ?_⟩
  have e9 : mset M 0 9 0 59 = M 59 := mset_n (by decide)
  refine c_X7_tear (by omega) ⟨⟨rfl, by rw [e9, ← k1]; exact k2⟩, ?_⟩
  rw [e9]
  have e : ∀ p, p ≠ 0 → p ≠ 59 → mset (mset M 0 9 0) 59 3 0 p = M p := fun p a b => by rw [mset_n (bq b), mset_n (bq a)]
  have e59 : mset (mset M 0 9 0) 59 3 0 59 = upd (M 59) 3 0 := by rw [mset_s, e9]
  have e0 : mset (mset M 0 9 0) 59 3 0 0 = upd (M 0) 9 0 := by rw [mset_n (by decide), mset_s]
  refine ⟨by rw [k1], hR.mk' (fun p a _ b => e p a b) ⟨?_, ?_, fun z => ?_⟩ ?_ ?_⟩
  · rw [e0, e59, upd_s, upd_s]
  · rw [e0, upd_s]
    exact Or.inl rfl
  · rw [e0, upd_s] at z
    exact absurd rfl z
  · rw [e 44 (by decide) (by decide), e59, upd_n (by decide)]
    exact y2
  · rw [e59, upd_n (by decide)]
    exact y3
theorem RI.congr {r q : Nat → Int32} (h : RI r) (e : ∀ j, j < 50 → q j = r j) : RI q := by
  obtain ⟨⟨n, hn, en⟩, h2, h3, h4, h5, h6⟩ := h
  have e1 := e 1 (by decide)
  refine ⟨⟨n, hn, by rw [e1]; exact en⟩, fun p hp => by rw [e _ (by omega)]; exact h2 p hp, fun i hi => by rw [e _ (wf_lt hi (by decide))]; exact h3 i hi, by rw [e 3 (by decide)]; exact h4, fun s hs => ?_, by rw [e 0 (by decide)]; exact h6⟩
  unfold hasM
  rw [e1, e _ (by omega)]
  exact h5 s hs
theorem RB.congr {M : Mem} {b : Nat} {r q : Nat → Int32} (h : RB M b r) (e : ∀ j, j < 50 → q j = r j) : RB M b q := by
  obtain ⟨b1, b2, b3, b4, b5, b6, b7⟩ := h
  refine ⟨fun p hp => by rw [e _ (by omega)]; exact b1 p hp, fun i hi => ?_, fun s hs => by rw [e _ (by omega)]; exact b3 s hs, by rw [e 1 (by decide)]; exact b4, by rw [e 3 (by decide)]; exact b5, by rw [e 0 (by decide)]; exact b6, by rw [e 2 (by decide)]; exact b7⟩
  rw [e _ (wf_lt hi (f := 0) (by decide)), e _ (wf_lt hi (f := 1) (by decide)), e _ (wf_lt hi (f := 2) (by decide)), e _ (wf_lt hi (f := 3) (by decide))]
  exact b2 i hi
theorem bec_RB {M : Mem} {b o : Nat} {r : Nat → Int32} (h : RB M o r) : RB (becM M b o) b r := by
  obtain ⟨b1, b2, b3, b4, b5, b6, b7⟩ := h
  have e1 : becM M b o (b + 1) = cpN 12 (M (o + 1)) (M (b + 1)) := by simp [becM, mset, mrow]
  have e2 : becM M b o (b + 2) = cpN 6 (M (o + 2)) (M (b + 2)) := by simp [becM, mset, mrow]
  have e3 : becM M b o (b + 3) = cpN 6 (M (o + 3)) (M (b + 3)) := by simp [becM, mset, mrow]
  have e4 : becM M b o (b + 4) = cpN 6 (M (o + 4)) (M (b + 4)) := by simp [becM, mset, mrow]
  have e5 : becM M b o (b + 5) = cpN 6 (M (o + 5)) (M (b + 5)) := by simp [becM, mset, mrow]
  have e6 : becM M b o (b + 6) = cpN 10 (M (o + 6)) (M (b + 6)) := by simp [becM, mset, mrow]
  have f6 : becM M b o b 6 = M o 6 := by simp [becM, mset, mrow, upd]
  have f7 : becM M b o b 7 = M o 7 := by simp [becM, mset, mrow, upd]
  have f8 : becM M b o b 8 = M o 8 := by simp [becM, mset, mrow, upd]
  have f9 : becM M b o b 9 = M o 9 := by simp [becM, mset, mrow, upd]
  refine ⟨fun p hp => by rw [e1, cpN_lt hp]; exact b1 p hp, fun i hi => by rw [e2, e3, e4, e5, cpN_lt hi, cpN_lt hi, cpN_lt hi, cpN_lt hi]; exact b2 i hi, fun s hs => by rw [e6, cpN_lt hs]; exact b3 s hs, by rw [f6]; exact b4, by rw [f7]; exact b5, by rw [f8]; exact b6, by rw [f9]; exact b7⟩
theorem bec_n {M : Mem} {b o p : Nat} (h : p < b ∨ b + 6 < p) : becM M b o p = M p := by
  unfold becM
  rw [mset_n (bq (by omega)), mset_n (bq (by omega)), mset_n (bq (by omega)), mset_n (bq (by omega)), mrow_n (bq (by omega)), mrow_n (bq (by omega)), mrow_n (bq (by omega)), mrow_n (bq (by omega)), mrow_n (bq (by omega)), mrow_n (bq (by omega))]
theorem cmd_image {M : Mem} (hR : RM M) : CallP 20 98 [.ref 0] M (fun x N => CallP 20 225 [.ref 59] N (fun y K => y = x ∧ RM K)) := by
  refine c_X6_image (by omega) ⟨rfl, ?_⟩
  refine c_X7_image (by omega) ⟨rfl, ?_⟩
  refine ⟨rfl, ?_⟩
  obtain ⟨h1, h2, ⟨k1, k2, k3⟩, ⟨f1, f2⟩, ⟨s1, s2⟩, ⟨y1, y2, y3⟩⟩ := id hR
  generalize hA : mset (becM M 8 1) 0 9 1 = A
  have a1 : ∀ p, p ≠ 0 → p < 8 ∨ 14 < p → A p = M p := fun p a b => by
    rw [← hA, mset_n (bq a), bec_n b]
  have a8 : ∀ j, j < 7 → A (8 + j) = becM M 8 1 (8 + j) := fun j hj => by
    rw [← hA, mset_n (bq (by omega))]
  have a0 : A 0 9 = 1 := by rw [← hA, mset_s, upd_s]
  have e : ∀ p, p ≠ 59 → p ≠ 61 → mset (mrow A 61 (cpN 50 (A 60) (A 61))) 59 3 1 p = A p := fun p a b => by
    rw [mset_n (bq a), mrow_n (bq b)]
  have e61 : mset (mrow A 61 (cpN 50 (A 60) (A 61))) 59 3 1 61 = cpN 50 (M 60) (A 61) := by
    rw [mset_n (by decide), mrow_s, a1 60 (by decide) (by omega)]
  have e59 : mset (mrow A 61 (cpN 50 (A 60) (A 61))) 59 3 1 59 = upd (M 59) 3 1 := by
    rw [mset_s, mrow_n (by decide), a1 59 (by decide) (by omega)]
  have eM : ∀ p, p ≠ 0 → p < 8 ∨ 14 < p → p ≠ 59 → p ≠ 61 → mset (mrow A 61 (cpN 50 (A 60) (A 61))) 59 3 1 p = M p := fun p a b c d => by
    rw [e p c d, a1 p a b]
  have e60 := eM 60 (by decide) (by omega) (by decide) (by decide)
  refine ⟨?_, by rw [e60]; exact h2, ⟨?_, ?_, fun _ => ?_⟩, ⟨?_, ?_⟩, ⟨fun s hs => ?_, ?_⟩, ⟨?_, ?_, ?_⟩⟩
  · rw [e60]
    exact h1.ag (fun j hj => eM _ (by omega) (by omega) (by omega) (by omega))
  · rw [e 0 (by decide) (by decide), a0, e59, upd_s]
  · rw [e 0 (by decide) (by decide), a0]
    exact Or.inr rfl
  · rw [e61]
    refine ⟨?_, h2.congr (fun j hj => cpN_lt hj)⟩
    have q := (bec_RB (b := 8) h1).congr (q := cpN 50 (M 60) (A 61)) (fun j hj => cpN_lt hj)
    exact q.ag (fun j hj => by rw [e _ (by omega) (by omega), a8 j hj])
  · rw [eM 58 (by decide) (by omega) (by decide) (by decide), eM 63 (by decide) (by omega) (by decide) (by decide)]
    exact f1
  · rw [eM 58 (by decide) (by omega) (by decide) (by decide), eM 63 (by decide) (by omega) (by decide) (by decide)]
    exact f2
  · rw [eM 56 (by decide) (by omega) (by decide) (by decide), eM 57 (by decide) (by omega) (by decide) (by decide), eM 70 (by decide) (by omega) (by decide) (by decide), eM 71 (by decide) (by omega) (by decide) (by decide), eM 72 (by decide) (by omega) (by decide) (by decide), eM (52 + s) (by omega) (by omega) (by omega) (by omega)]
    exact s1 s hs
  · unfold ZV
    rw [eM 57 (by decide) (by omega) (by decide) (by decide)]
    exact s2
  · rw [eM 45 (by decide) (by omega) (by decide) (by decide), eM 67 (by decide) (by omega) (by decide) (by decide)]
    exact y1
  · rw [eM 44 (by decide) (by omega) (by decide) (by decide), e59, upd_n (by decide)]
    exact y2
  · rw [e59, upd_n (by decide)]
    exact y3
theorem cmd_undo {M : Mem} (hR : RM M) : CallP 20 99 [.ref 0] M (fun x N => CallP 20 226 [.ref 59] N (fun y K => y = x ∧ RM K)) := by
  refine c_X6_undo (by omega) ⟨rfl, ?_⟩
  obtain ⟨k1, k2, k3⟩ := hR.2.2.1
  by_cases h : M 0 9 = 0
  · rw [if_pos h]
    refine c_X7_undo (by omega) ⟨rfl, ?_⟩
    rw [tl_n (by decide), if_pos (by rw [← k1]; exact h)]
    exact ⟨rfl, hR.tell (by decide)⟩
  · rw [if_neg h]
    obtain ⟨q1, q2⟩ := k3 h
    refine c_X7_undo (by omega) ⟨rfl, ?_⟩
    rw [bec_n (p := 59) (by omega), if_neg (by rw [← k1]; exact h), bec_n (p := 61) (by omega), bec_n (p := 60) (by omega)]
    refine ⟨by rw [q1.2.2.2.2.2.1], ?_⟩
    have e : ∀ p, p ≠ 60 → p < 1 ∨ 7 < p → mrow (becM M 1 8) 60 (cpN 50 (M 61) (M 60)) p = M p := fun p a b => by
      rw [mrow_n (bq a), bec_n (by omega)]
    refine hR.br (fun p a b _ => e p a (by omega)) (by rw [e 44 (by decide) (by omega)]) (by rw [e 59 (by decide) (by omega)]) (by rw [e 59 (by decide) (by omega)]) ?_ ?_
    · rw [mrow_s]
      have q := (bec_RB (b := 1) q1).congr (q := cpN 50 (M 61) (M 60)) (fun j hj => cpN_lt hj)
      exact q.ag (fun j hj => mrow_n (bq (by omega)))
    · rw [mrow_s]
      exact q2.congr (fun j hj => cpN_lt hj)
theorem sum_congr {f g : Nat → Int32} : ∀ (n i : Nat) (s : Int32), (∀ j, j < i + n → f j = g j) → sumF f n i s = sumF g n i s := by
  intro n
  induction n with
  | zero => intro i s _; rfl
  | succ n ih =>
    intro i s h
    rw [sumF, sumF, h i (by omega)]
    exact ih (i + 1) _ (fun j hj => h j (by omega))
theorem RM.cn {M : Mem} (h : RM M) : ∃ n, n ≤ 6 ∧ M 60 1 = nI n ∧ M 1 6 = nI n := by
  obtain ⟨n, hn, e⟩ := h.im
  exact ⟨n, hn, e, by rw [h.n]; exact e⟩
theorem RM.s3 {M : Mem} (h : RM M) : sumF (M 6) (M 1 6).toNatClampNeg 0 0 = sumF (fun i => M 60 (wf i 3)) (M 60 1).toNatClampNeg 0 0 := by
  obtain ⟨n, hn, e1, e2⟩ := h.cn
  rw [e1, e2, nI_clamp (by omega)]
  exact sum_congr n 0 0 (fun j hj => (h.ww (by omega)).2.2.2)
theorem RM.s1 {M : Mem} (h : RM M) : sumF (M 4) (M 1 6).toNatClampNeg 0 0 = sumF (fun i => M 60 (wf i 1)) (M 60 1).toNatClampNeg 0 0 := by
  obtain ⟨n, hn, e1, e2⟩ := h.cn
  rw [e1, e2, nI_clamp (by omega)]
  exact sum_congr n 0 0 (fun j hj => (h.ww (by omega)).2.1)
theorem RM.sp {M : Mem} (h : RM M) : sumF (M 2) 12 0 0 = sumF (plr (M 60)) 12 0 0 := sum_congr 12 0 0 (fun j hj => h.pl (by omega))
theorem RM.hs {M : Mem} (h : RM M) : hspF (M 7) 10 0 0 = hsF (M 60) 10 0 0 := by
  have key : ∀ (n i : Nat) (s : Int32), i + n ≤ 10 → hspF (M 7) n i s = hsF (M 60) n i s := by
    intro n
    induction n with
    | zero => intro i s _; rfl
    | succ n ih =>
      intro i s hi
      rw [hspF, hsF]
      have e7 : M 7 i = M 60 (4 + i) := h.1.2.2.1 i (by omega)
      have hc : (M 7 i = -1) = (M 60 (4 + i) < 0) := by
        rw [e7]
        rcases h.2.1.2.2.2.2.1 i (by omega) with z | z
        · rw [z]
          exact propext ⟨fun _ => by decide, fun _ => rfl⟩
        · exact propext ⟨fun y => absurd (y ▸ z.1) (by decide), fun y => absurd y z.1⟩
      by_cases z : M 7 i = -1
      · rw [if_pos z, if_pos (hc ▸ z)]
        exact ih (i + 1) _ (by omega)
      · rw [if_neg z, if_neg (hc ▸ z)]
        exact ih (i + 1) _ (by omega)
  exact key 10 0 0 (by decide)
theorem cmd_count {M : Mem} (hR : RM M) {q : Int32} : CallP 20 101 [.ref 0, .int q] M (fun x N => CallP 20 228 [.ref 59, .int q] N (fun y K => y = x ∧ RM K)) := by
  refine c_X6_count (by omega) ⟨⟨rfl, hR.iv⟩, ?_⟩
  have g : ∀ x : Int32, (if q = 0 then M 60 0 else if q = 1 then M 60 1 else if q = 2 then sumF (fun i => M 60 (wf i 3)) (M 60 1).toNatClampNeg 0 0 else if q = 3 then sumF (fun i => M 60 (wf i 1)) (M 60 1).toNatClampNeg 0 0 else if q = 4 then sumF (plr (M 60)) 12 0 0 else if q = 5 then M 59 12 else if q = 6 then M 60 2 else hsF (M 60) 10 0 0) = x → (q = 0 ∨ q = 1 ∨ q = 2 ∨ q = 3 ∨ q = 4 ∨ q = 5 ∨ q = 6 ∨ q = 7) → CallP 20 228 [.ref 59, .int q] M (fun y K => y = .int x ∧ RM K) := by
    intro x hx hq
    refine c_X7_count (by omega) ⟨⟨rfl, hR.im⟩, ?_⟩
    by_cases q0 : q = 0
    · rw [if_pos q0] at hx ⊢
      exact ⟨by rw [hx], hR⟩
    rw [if_neg q0] at hx ⊢
    by_cases q1 : q = 1
    · rw [if_pos q1] at hx ⊢
      exact ⟨by rw [hx], hR⟩
    rw [if_neg q1] at hx ⊢
    by_cases q2 : q = 2
    · rw [if_pos q2] at hx ⊢
      exact ⟨by rw [hx], hR⟩
    rw [if_neg q2] at hx ⊢
    by_cases q3 : q = 3
    · rw [if_pos q3] at hx ⊢
      exact ⟨by rw [hx], hR⟩
    rw [if_neg q3] at hx ⊢
    by_cases q4 : q = 4
    · rw [if_pos q4] at hx ⊢
      exact ⟨by rw [hx], hR⟩
    rw [if_neg q4] at hx ⊢
    by_cases q5 : q = 5
    · rw [if_pos q5] at hx ⊢
      exact ⟨by rw [hx], hR⟩
    rw [if_neg q5] at hx ⊢
    by_cases q6 : q = 6
    · rw [if_pos q6] at hx ⊢
      exact ⟨by rw [hx], hR⟩
    rw [if_neg q6] at hx ⊢
    have q7 : q = 7 := by
      rcases hq with z | z | z | z | z | z | z | z
      · exact absurd z q0
      · exact absurd z q1
      · exact absurd z q2
      · exact absurd z q3
      · exact absurd z q4
      · exact absurd z q5
      · exact absurd z q6
      · exact z
    rw [if_pos q7]
    exact ⟨by rw [hx], hR⟩
  by_cases q0 : q = 0
  · rw [if_pos q0]
    exact g _ (by rw [if_pos q0, hR.1.2.2.2.2.2.1]) (by simp [q0])
  rw [if_neg q0]
  by_cases q1 : q = 1
  · rw [if_pos q1]
    exact g _ (by rw [if_neg q0, if_pos q1, hR.n]) (by simp [q1])
  rw [if_neg q1]
  by_cases q2 : q = 2
  · rw [if_pos q2]
    exact g _ (by rw [if_neg q0, if_neg q1, if_pos q2, hR.s3]) (by simp [q2])
  rw [if_neg q2]
  by_cases q3 : q = 3
  · rw [if_pos q3]
    exact g _ (by rw [if_neg q0, if_neg q1, if_neg q2, if_pos q3, hR.s1]) (by simp [q3])
  rw [if_neg q3]
  by_cases q4 : q = 4
  · rw [if_pos q4]
    exact g _ (by rw [if_neg q0, if_neg q1, if_neg q2, if_neg q3, if_pos q4, hR.sp]) (by simp [q4])
  rw [if_neg q4]
  by_cases q5 : q = 5
  · rw [if_pos q5]
    exact g _ (by rw [if_neg q0, if_neg q1, if_neg q2, if_neg q3, if_neg q4, if_pos q5, hR.2.2.2.2.2.2.1]) (by simp [q5])
  rw [if_neg q5]
  by_cases q6 : q = 6
  · rw [if_pos q6]
    exact g _ (by rw [if_neg q0, if_neg q1, if_neg q2, if_neg q3, if_neg q4, if_neg q5, if_pos q6, hR.1.2.2.2.2.2.2]) (by simp [q6])
  rw [if_neg q6]
  by_cases q7 : q = 7
  · rw [if_pos q7]
    exact g _ (by rw [if_neg q0, if_neg q1, if_neg q2, if_neg q3, if_neg q4, if_neg q5, if_neg q6, hR.hs]) (by simp [q7])
  rw [if_neg q7]
  refine c_X7_count (by omega) ⟨⟨rfl, by rw [tl_n (by decide)]; exact hR.im⟩, ?_⟩
  rw [if_neg q0, if_neg q1, if_neg q2, if_neg q3, if_neg q4, if_neg q5, if_neg q6, if_neg q7]
  exact ⟨rfl, hR.tell (by decide)⟩
theorem cmd_status {M : Mem} (hR : RM M) {q : Int32} : CallP 20 102 [.ref 0, .int q] M (fun x N => CallP 20 229 [.ref 59, .int q] N (fun y K => y = x ∧ RM K)) := by
  refine c_X6_status (by omega) ⟨rfl, ?_⟩
  obtain ⟨f1, f2⟩ := hR.2.2.2.1
  by_cases q1 : q = -1
  · rw [if_pos q1]
    refine c_X7_status (by omega) ⟨rfl, ?_⟩
    rw [if_pos (by rw [q1]; decide), q1]
    exact ⟨by rw [← f2]; rfl, hR⟩
  · rw [if_neg q1]
    by_cases q2 : ¬ q < 0 ∧ ¬ 7 ≤ q
    · rw [if_pos q2]
      obtain ⟨j, hj, rfl⟩ := nI_of q2.1
      have hj7 : j < 7 := by
        have := q2.2
        rw [show (7 : Int32) = nI 7 from rfl, nI_leI (by omega) hj] at this
        omega
      refine c_X7_status (by omega) ⟨rfl, ?_⟩
      rw [if_pos ⟨fun z => absurd (Int32.lt_trans z (by decide : (-1 : Int32) < 0)) q2.1, nI_nlt (a := 6) (by omega) (by decide)⟩, nI_1, nI_clamp (by omega), nI_clamp (by omega)]
      exact ⟨by rw [f1 j hj7], hR⟩
    · rw [if_neg q2]
      refine c_X7_status (by omega) ⟨rfl, ?_⟩
      rw [if_neg]
      · exact ⟨rfl, hR.tell (by decide)⟩
      · rintro ⟨a, b⟩
        rw [Int32.lt_iff_toInt_lt] at a b
        simp only [Int32.reduceToInt] at a b
        have hne : q.toInt ≠ -1 := fun z => q1 (Int32.toInt_inj.mp z)
        apply q2
        rw [Int32.lt_iff_toInt_lt, Int32.le_iff_toInt_le]
        simp only [Int32.reduceToInt]
        omega
