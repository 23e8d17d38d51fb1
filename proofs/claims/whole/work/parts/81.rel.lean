/-! BOTH: the relation between the class and the model -/
/-- the bridge at b is the row r -/
def RB (M : Mem) (b : Nat) (r : Nat → Int32) : Prop :=
  (∀ p, p < 12 → M (b + 1) p = r (14 + p)) ∧ (∀ i, i < 6 → M (b + 2) i = r (wf i 0) ∧ M (b + 3) i = r (wf i 1) ∧ M (b + 4) i = r (wf i 2) ∧ M (b + 5) i = r (wf i 3)) ∧ (∀ s, s < 10 → M (b + 6) s = r (4 + s)) ∧ M b 6 = r 1 ∧ M b 7 = r 3 ∧ M b 8 = r 0 ∧ M b 9 = r 2
/-- what a row holds -/
def RI (r : Nat → Int32) : Prop :=
  IM r ∧ (∀ p, p < 12 → isG (r (14 + p))) ∧ (∀ i, i < 6 → isK (r (wf i 0))) ∧ ¬ r 3 < 0 ∧ (∀ s, s < 10 → r (4 + s) = -1 ∨ hasM r (r (4 + s))) ∧ ∃ c, c ≤ 99999 ∧ r 0 = nI c
def RS (M : Mem) : Prop := (∀ s, s < 4 → M 56 s = M 70 s ∧ M 57 s = M 71 s ∧ ∀ j, j < 40 → M (52 + s) j = M 72 (40 * s + j)) ∧ ZV M
def RT (M : Mem) : Prop := (∀ i, i < 120 → M 45 i = M 67 i ∧ ¬ M 67 i < 0) ∧ M 44 1 = M 59 12 ∧ ∃ N, N ≤ 120 ∧ M 59 12 = nI N
def RF (M : Mem) : Prop := (∀ i, i < 7 → M 58 i = M 63 (i + 1)) ∧ M 63 0 = sumF (M 58) 7 0 0
def RK (M : Mem) : Prop := M 0 9 = M 59 3 ∧ (M 0 9 = 0 ∨ M 0 9 = 1) ∧ (¬ M 0 9 = 0 → RB M 8 (M 61) ∧ RI (M 61))
def RM (M : Mem) : Prop := RB M 1 (M 60) ∧ RI (M 60) ∧ RK M ∧ RF M ∧ RS M ∧ RT M
/-- places that nothing tells -/
def JP (p : Nat) : Bool := (15 ≤ p && p ≤ 44) || (46 ≤ p && p ≤ 49) || p == 59 || p == 62 || (64 ≤ p && p ≤ 66) || p == 69 || p == 73
def AG (M N : Mem) : Prop := (∀ p, JP p = false → N p = M p) ∧ N 44 1 = M 44 1 ∧ N 59 3 = M 59 3 ∧ N 59 12 = M 59 12
theorem AG.rf {M : Mem} : AG M M := ⟨fun _ _ => rfl, rfl, rfl, rfl⟩
theorem AG.tr {M N K : Mem} (h1 : AG M N) (h2 : AG N K) : AG M K := ⟨fun p z => (h2.1 p z).trans (h1.1 p z), h2.2.1.trans h1.2.1, h2.2.2.1.trans h1.2.2.1, h2.2.2.2.trans h1.2.2.2⟩
theorem RB.ag {M N : Mem} {b : Nat} {r : Nat → Int32} (h : RB M b r) (hb : ∀ j, j < 7 → N (b + j) = M (b + j)) : RB N b r := by
  obtain ⟨h1, h2, h3, h4, h5, h6, h7⟩ := h
  have e0 := hb 0 (by decide)
  rw [Nat.add_zero] at e0
  refine ⟨fun p hp => by rw [hb 1 (by decide)]; exact h1 p hp, fun i hi => ?_, fun s hs => by rw [hb 6 (by decide)]; exact h3 s hs, by rw [e0]; exact h4, by rw [e0]; exact h5, by rw [e0]; exact h6, by rw [e0]; exact h7⟩
  rw [hb 2 (by decide), hb 3 (by decide), hb 4 (by decide), hb 5 (by decide)]
  exact h2 i hi
theorem RM.ag {M N : Mem} (h : RM M) (a : AG M N) : RM N := by
  obtain ⟨h1, h2, ⟨k1, k2, k3⟩, ⟨f1, f2⟩, ⟨s1, s2⟩, ⟨t1, t2, t3⟩⟩ := h
  obtain ⟨a1, a2, a3, a4⟩ := a
  have e0 := a1 0 rfl
  have e60 := a1 60 rfl
  have e61 := a1 61 rfl
  have e58 := a1 58 rfl
  have e63 := a1 63 rfl
  have e56 := a1 56 rfl
  have e57 := a1 57 rfl
  have e70 := a1 70 rfl
  have e71 := a1 71 rfl
  have e72 := a1 72 rfl
  have e45 := a1 45 rfl
  have e67 := a1 67 rfl
  refine ⟨?_, by rw [e60]; exact h2, ⟨by rw [e0, a3]; exact k1, by rw [e0]; exact k2, fun z => ?_⟩, ⟨by rw [e58, e63]; exact f1, by rw [e58, e63]; exact f2⟩, ⟨fun s hs => ?_, ?_⟩, ⟨by rw [e45, e67]; exact t1, by rw [a2, a4]; exact t2, by rw [a4]; exact t3⟩⟩
  · rw [e60]
    refine h1.ag (fun j hj => a1 _ ?_)
    have : j = 0 ∨ j = 1 ∨ j = 2 ∨ j = 3 ∨ j = 4 ∨ j = 5 ∨ j = 6 := by omega
    rcases this with rfl | rfl | rfl | rfl | rfl | rfl | rfl <;> rfl
  · rw [e0] at z
    rw [e61]
    refine ⟨(k3 z).1.ag (fun j hj => a1 _ ?_), (k3 z).2⟩
    have : j = 0 ∨ j = 1 ∨ j = 2 ∨ j = 3 ∨ j = 4 ∨ j = 5 ∨ j = 6 := by omega
    rcases this with rfl | rfl | rfl | rfl | rfl | rfl | rfl <;> rfl
  · have e : N (52 + s) = M (52 + s) := a1 _ (by
      have : s = 0 ∨ s = 1 ∨ s = 2 ∨ s = 3 := by omega
      rcases this with rfl | rfl | rfl | rfl <;> rfl)
    rw [e56, e57, e70, e71, e72, e]
    exact s1 s hs
  · unfold ZV
    rw [e57]
    exact s2
/-! what is told of the relation -/
theorem RM.iv {M : Mem} (h : RM M) : IV M := by
  obtain ⟨n, hn, e⟩ := h.2.1.1
  exact ⟨n, hn, by rw [h.1.2.2.2.1]; exact e⟩
theorem RM.im {M : Mem} (h : RM M) : IM (M 60) := h.2.1.1
theorem RM.n {M : Mem} (h : RM M) : M 1 6 = M 60 1 := h.1.2.2.2.1
theorem RM.has {M : Mem} (h : RM M) {w : Int32} : hasW M 1 w = hasM (M 60) w := by
  unfold hasW hasM
  rw [h.n]
theorem RM.zv {M : Mem} (h : RM M) : ZV M := h.2.2.2.2.1.2
theorem RM.zm {M : Mem} (h : RM M) : ZM M := fun t ht => by
  obtain ⟨m, hm, e⟩ := h.zv t ht
  exact ⟨m, hm, by rw [← (h.2.2.2.2.1.1 t ht).2.1]; exact e⟩
theorem RM.nt {M : Mem} (h : RM M) : M 1 7 = M 60 3 := h.1.2.2.2.2.1
theorem RM.pl {M : Mem} (h : RM M) {p : Nat} (hp : p < 12) : M 2 p = plr (M 60) p := h.1.1 p hp
theorem RM.ww {M : Mem} (h : RM M) {i : Nat} (hi : i < 6) : M 3 i = M 60 (wf i 0) ∧ M 4 i = M 60 (wf i 1) ∧ M 5 i = M 60 (wf i 2) ∧ M 6 i = M 60 (wf i 3) := h.1.2.1 i hi
theorem RM.kd {M : Mem} (h : RM M) {i : Nat} (hi : i < 6) : isK (M 60 (wf i 0)) := h.2.1.2.2.1 i hi
theorem nk_k {kd : Int32} (h : isK kd) : nk kd = kd := if_pos h
theorem wk_m {kd bl nt g : Int32} {p q : Nat → Int32} (hk : isK kd) (h : ∀ j, j < 12 → p j = q j) : (wk kd bl nt g p).1 = (mwk kd bl nt g q).1 ∧ (wk kd bl nt g p).2.1 = (mwk kd bl nt g q).2.1 ∧ ∀ j, j < 12 → (wk kd bl nt g p).2.2 j = (mwk kd bl nt g q).2.2 j := by
  unfold wk mwk
  rw [nk_k hk]
  exact goF_congr 12 0 g p q (by decide) h
theorem RM.cx {M : Mem} (h : RM M) {i : Nat} (hi : i < 6) : (xw M i).1 = (crx (M 60) i).1 ∧ (xw M i).2.1 = (crx (M 60) i).2.1 ∧ ∀ j, j < 12 → (xw M i).2.2 j = (crx (M 60) i).2.2 j := by
  obtain ⟨e1, e2, e3, e4⟩ := h.ww hi
  unfold xw crx
  rw [e1, e2, e3, h.nt]
  exact wk_m (h.kd hi) (fun j hj => h.pl hj)
/-! findings -/
theorem sum_upd {f : Nat → Int32} {c : Nat} (hc : c < 7) : sumF (upd f c (f c + 1)) 7 0 0 = sumF f 7 0 0 + 1 := by
  have key : ∀ a b d : Int32, a + b + d = a + d + b := fun a b d => by rw [Int32.add_assoc, Int32.add_comm b d, ← Int32.add_assoc]
  have hc' : c = 0 ∨ c = 1 ∨ c = 2 ∨ c = 3 ∨ c = 4 ∨ c = 5 ∨ c = 6 := by omega
  have e : ∀ a b : Int32, a + (b + 1) = a + b + 1 := fun a b => (Int32.add_assoc _ _ _).symm
  rcases hc' with rfl | rfl | rfl | rfl | rfl | rfl | rfl
  all_goals
    simp only [sumF, upd, Nat.reduceAdd, Nat.reduceEqDiff, if_true, if_false, ↓reduceIte, Nat.zero_add, reduceCtorEq, e]
    try simp only [key _ 1 _]
theorem RM.tell {M : Mem} (h : RM M) {c : Nat} (hc : c < 7) : RM (fndM (tellM M c) c) := by
  obtain ⟨h1, h2, ⟨k1, k2, k3⟩, ⟨f1, f2⟩, ⟨s1, s2⟩, ⟨t1, t2, t3⟩⟩ := h
  have e : ∀ p, p ≠ 58 → p ≠ 63 → fndM (tellM M c) c p = M p := fun p a b => by
    unfold fndM tellM
    rw [mset_n (bq b), mset_n (bq b), mset_n (bq a)]
  have e58 : fndM (tellM M c) c 58 = upd (M 58) c (M 58 c + 1) := by
    unfold fndM tellM
    rw [mset_n (by decide), mset_n (by decide), mset_s]
  have e63 : fndM (tellM M c) c 63 = upd (upd (M 63) (c + 1) (M 63 (c + 1) + 1)) 0 (M 63 0 + 1) := by
    unfold fndM tellM
    rw [mset_s, mset_s, mset_n (by decide)]
  have e60 := e 60 (by decide) (by decide)
  have e0 := e 0 (by decide) (by decide)
  have e59 := e 59 (by decide) (by decide)
  have e44 := e 44 (by decide) (by decide)
  have e61 := e 61 (by decide) (by decide)
  refine ⟨?_, by rw [e60]; exact h2, ⟨by rw [e0, e59]; exact k1, by rw [e0]; exact k2, fun z => ?_⟩, ⟨fun i hi => ?_, ?_⟩, ⟨fun s hs => ?_, ?_⟩, ⟨by rw [e 45 (by decide) (by decide), e 67 (by decide) (by decide)]; exact t1, by rw [e44, e59]; exact t2, by rw [e59]; exact t3⟩⟩
  · rw [e60]
    exact h1.ag (fun j hj => e _ (by omega) (by omega))
  · rw [e0] at z
    rw [e61]
    exact ⟨(k3 z).1.ag (fun j hj => e _ (by omega) (by omega)), (k3 z).2⟩
  · rw [e58, e63, un (k := 0) (j := i + 1) (by omega)]
    by_cases z : i = c
    · rw [z, upd_s, upd_s, f1 c hc]
    · rw [un z, un (k := c + 1) (by omega)]
      exact f1 i hi
  · rw [e58, e63, upd_s, sum_upd hc, f2]
  · rw [e 56 (by decide) (by decide), e 57 (by decide) (by decide), e 70 (by decide) (by decide), e 71 (by decide) (by decide), e 72 (by decide) (by decide), e (52 + s) (by omega) (by omega)]
    exact s1 s hs
  · unfold ZV
    rw [e 57 (by decide) (by decide)]
    exact s2
