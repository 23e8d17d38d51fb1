/-! BOTH: acts one by one -/
theorem tl_n {M : Mem} {c p : Nat} (h : p ≠ 58) : tellM M c p = M p := mset_n (bq h)
theorem RM.br {M N : Mem} (h : RM M) (a : ∀ p, p ≠ 60 → (p = 0 ∨ 8 ≤ p) → JP p = false → N p = M p) (a1 : N 44 1 = M 44 1) (a2 : N 59 3 = M 59 3) (a3 : N 59 12 = M 59 12) (hb : RB N 1 (N 60)) (hi : RI (N 60)) : RM N := by
  obtain ⟨h1, h2, ⟨k1, k2, k3⟩, ⟨f1, f2⟩, ⟨s1, s2⟩, ⟨t1, t2, t3⟩⟩ := h
  have e0 := a 0 (by decide) (by decide) rfl
  have e61 := a 61 (by decide) (by decide) rfl
  have e58 := a 58 (by decide) (by decide) rfl
  have e63 := a 63 (by decide) (by decide) rfl
  have e56 := a 56 (by decide) (by decide) rfl
  have e57 := a 57 (by decide) (by decide) rfl
  have e70 := a 70 (by decide) (by decide) rfl
  have e71 := a 71 (by decide) (by decide) rfl
  have e72 := a 72 (by decide) (by decide) rfl
  have e45 := a 45 (by decide) (by decide) rfl
  have e67 := a 67 (by decide) (by decide) rfl
  refine ⟨hb, hi, ⟨by rw [e0, a2]; exact k1, by rw [e0]; exact k2, fun z => ?_⟩, ⟨by rw [e58, e63]; exact f1, by rw [e58, e63]; exact f2⟩, ⟨fun s hs => ?_, ?_⟩, ⟨by rw [e45, e67]; exact t1, by rw [a1, a3]; exact t2, by rw [a3]; exact t3⟩⟩
  · rw [e0] at z
    rw [e61]
    refine ⟨(k3 z).1.ag (fun j hj => a _ (by omega) (by omega) ?_), (k3 z).2⟩
    have : j = 0 ∨ j = 1 ∨ j = 2 ∨ j = 3 ∨ j = 4 ∨ j = 5 ∨ j = 6 := by omega
    rcases this with rfl | rfl | rfl | rfl | rfl | rfl | rfl <;> rfl
  · have e : N (52 + s) = M (52 + s) := a _ (by omega) (by omega) (by
      have : s = 0 ∨ s = 1 ∨ s = 2 ∨ s = 3 := by omega
      rcases this with rfl | rfl | rfl | rfl <;> rfl)
    rw [e56, e57, e70, e71, e72, e]
    exact s1 s hs
  · unfold ZV
    rw [e57]
    exact s2
/-- a row with another plank -/
theorem RI.pl {r : Nat → Int32} (h : RI r) {t : Nat} {v : Int32} (ht : t < 12) (hv : isG v) : RI (upd r (14 + t) v) := by
  obtain ⟨⟨n, hn, e⟩, h2, h3, h4, h5, h6⟩ := h
  have e1 : upd r (14 + t) v 1 = r 1 := un (by omega)
  refine ⟨⟨n, hn, by rw [e1]; exact e⟩, fun p hp => ?_, fun i hi => by rw [un (by unfold wf; omega)]; exact h3 i hi, by rw [un (by omega)]; exact h4, fun s hs => ?_, by rw [un (by omega)]; exact h6⟩
  · by_cases z : p = t
    · rw [z, upd_s]
      exact hv
    · rw [un (by omega)]
      exact h2 p hp
  · rw [un (show 4 + s ≠ 14 + t by omega)]
    unfold hasM
    rw [e1]
    exact h5 s hs
theorem RM.plank {M : Mem} (h : RM M) {t : Nat} {v : Int32} (ht : t < 12) (hv : isG v) : RM (mset (mset M 2 t v) 60 (14 + t) v) := by
  have e : ∀ p, p ≠ 60 → p ≠ 2 → mset (mset M 2 t v) 60 (14 + t) v p = M p := fun p a b => by
    rw [mset_n (bq a), mset_n (bq b)]
  have e60 : mset (mset M 2 t v) 60 (14 + t) v 60 = upd (M 60) (14 + t) v := by
    rw [mset_s, mset_n (by decide)]
  have e2 : mset (mset M 2 t v) 60 (14 + t) v 2 = upd (M 2) t v := by
    rw [mset_n (by decide), mset_s]
  refine h.br (fun p a b _ => e p a (by omega)) (by rw [e 44 (by decide) (by decide)]) (by rw [e 59 (by decide) (by decide)]) (by rw [e 59 (by decide) (by decide)]) ?_ (by rw [e60]; exact h.2.1.pl ht hv)
  obtain ⟨b1, b2, b3, b4, b5, b6, b7⟩ := h.1
  rw [e60]
  refine ⟨fun p hp => ?_, fun i hi => ?_, fun s hs => ?_, ?_, ?_, ?_, ?_⟩
  · show mset (mset M 2 t v) 60 (14 + t) v 2 p = _
    rw [e2]
    by_cases z : p = t
    · rw [z, upd_s, upd_s]
    · rw [un z, un (by omega)]
      exact b1 p hp
  · have n0 : ∀ f, wf i f ≠ 14 + t := fun f => by unfold wf; omega
    rw [un (n0 0), un (n0 1), un (n0 2), un (n0 3), e _ (by omega) (by omega), e _ (by omega) (by omega), e _ (by omega) (by omega), e _ (by omega) (by omega)]
    exact b2 i hi
  · rw [un (by omega), e _ (by omega) (by omega)]
    exact b3 s hs
  · rw [un (by omega), e 1 (by decide) (by decide)]
    exact b4
  · rw [un (by omega), e 1 (by decide) (by decide)]
    exact b5
  · rw [un (by omega), e 1 (by decide) (by decide)]
    exact b6
  · rw [un (by omega), e 1 (by decide) (by decide)]
    exact b7
theorem cmd_plank {M : Mem} (hR : RM M) {p v : Int32} : CallP 20 56 [.ref 0, .int p, .int v] M (fun x N => CallP 20 140 [.ref 59, .int p, .int v] N (fun y K => y = x ∧ RM K)) := by
  refine c_X6_plank (by omega) ⟨rfl, ?_⟩
  by_cases h : isP p ∧ isG v
  · rw [if_pos h]
    refine c_X7_plank (by omega) ⟨rfl, ?_⟩
    rw [if_pos h]
    obtain ⟨t, ht, rfl⟩ := i32_14 h.1.1 h.1.2
    rw [nI_clamp (by omega)]
    refine ⟨?_, hR.plank ht h.2⟩
    rw [mset_n (by decide), hR.pl ht]
    rfl
  · rw [if_neg h]
    refine c_X7_plank (by omega) ⟨rfl, ?_⟩
    rw [if_neg h]
    exact ⟨rfl, hR.tell (by decide)⟩
theorem cmd_keeps {M : Mem} (hR : RM M) {p : Int32} : CallP 20 57 [.ref 0, .int p] M (fun x N => CallP 20 141 [.ref 59, .int p] N (fun y K => y = x ∧ RM K)) := by
  refine c_X6_keeps (by omega) ⟨rfl, ?_⟩
  by_cases h : isP p
  · rw [if_pos h]
    refine c_X7_keeps (by omega) ⟨rfl, ?_⟩
    rw [if_pos h]
    obtain ⟨t, ht, rfl⟩ := i32_14 h.1 h.2
    rw [nI_clamp (by omega)]
    refine ⟨?_, hR⟩
    rw [hR.pl ht]
    rfl
  · rw [if_neg h]
    refine c_X7_keeps (by omega) ⟨rfl, ?_⟩
    rw [if_neg h]
    exact ⟨rfl, hR.tell (by decide)⟩
theorem add1 (x : Int32) : x + 1 - 1 = x := Int32.add_sub_cancel _ _
/-- one walker more, in both -/
theorem RI.add {r : Nat → Int32} (h : RI r) {kd g bl : Int32} (hw : wOK (r 1)) (hk : isK kd) : RI (cmR r kd g bl) := by
  obtain ⟨⟨n, hn, e⟩, h2, h3, h4, h5, h6⟩ := h
  obtain ⟨i0, hi0, e0⟩ := wOK_n hw
  have ei : n = i0 := (nI_eq (by omega) (by omega)).mp (e.symm.trans e0)
  subst ei
  unfold cmR
  rw [e, nI_clamp (by omega), nI_1]
  have nl : ∀ j f, j < 26 → j ≠ wf n f := fun j f hj => by unfold wf; omega
  refine ⟨⟨n + 1, by omega, upd_s⟩, fun p hp => ?_, fun i hi => ?_, ?_, fun s hs => ?_, ?_⟩
  · rw [un (by omega), un (nl _ _ (by omega)), un (nl _ _ (by omega)), un (nl _ _ (by omega)), un (nl _ _ (by omega))]
    exact h2 p hp
  · rw [un (by unfold wf; omega), un (by unfold wf; omega), un (by unfold wf; omega), un (by unfold wf; omega)]
    by_cases z : i = n
    · rw [z, upd_s]
      exact hk
    · rw [un (by unfold wf; omega)]
      exact h3 i hi
  · rw [un (by omega), un (nl _ _ (by omega)), un (nl _ _ (by omega)), un (nl _ _ (by omega)), un (nl _ _ (by omega))]
    exact h4
  · have es : upd (upd (upd (upd (upd r (wf n 0) kd) (wf n 1) g) (wf n 2) bl) (wf n 3) 0) 1 (nI (n + 1)) (4 + s) = r (4 + s) := by
      rw [un (by omega), un (nl _ _ (by omega)), un (nl _ _ (by omega)), un (nl _ _ (by omega)), un (nl _ _ (by omega))]
    rw [es]
    rcases h5 s hs with z | z
    · exact Or.inl z
    · refine Or.inr ⟨z.1, ?_, z.2.2⟩
      rw [upd_s]
      obtain ⟨j, hj, ej⟩ := nI_of z.1
      have z2 := z.2.1
      rw [ej] at z2 ⊢
      rw [e, nI_leI (by omega) hj] at z2
      rw [nI_leI (by omega) hj]
      omega
  · rw [un (by omega), un (nl _ _ (by omega)), un (nl _ _ (by omega)), un (nl _ _ (by omega)), un (nl _ _ (by omega))]
    exact h6
theorem RB.add {M N : Mem} {b : Nat} {r : Nat → Int32} {kd g bl : Int32} (h : RB M b r) (hw : wOK (r 1)) (e1 : N (b + 1) = M (b + 1)) (e2 : N (b + 2) = upd (M (b + 2)) (r 1).toNatClampNeg kd) (e3 : N (b + 3) = upd (M (b + 3)) (r 1).toNatClampNeg g) (e4 : N (b + 4) = upd (M (b + 4)) (r 1).toNatClampNeg bl) (e5 : N (b + 5) = upd (M (b + 5)) (r 1).toNatClampNeg 0) (e6 : N (b + 6) = M (b + 6)) (e0 : N b = upd (M b) 6 (r 1 + 1)) : RB N b (cmR r kd g bl) := by
  obtain ⟨b1, b2, b3, b4, b5, b6, b7⟩ := h
  obtain ⟨n, hn, e⟩ := wOK_n hw
  rw [e, nI_clamp (by omega)] at e2 e3 e4 e5
  unfold cmR
  rw [e, nI_clamp (by omega)]
  rw [e] at e0
  have nl : ∀ j f, j < 26 → j ≠ wf n f := fun j f hj => by unfold wf; omega
  have low : ∀ j, j < 26 → j ≠ 1 → upd (upd (upd (upd (upd r (wf n 0) kd) (wf n 1) g) (wf n 2) bl) (wf n 3) 0) 1 (nI n + 1) j = r j := fun j hj h1 => by
    rw [un h1, un (nl _ _ hj), un (nl _ _ hj), un (nl _ _ hj), un (nl _ _ hj)]
  refine ⟨fun p hp => ?_, fun i hi => ?_, fun s hs => ?_, ?_, ?_, ?_, ?_⟩
  · rw [e1, low _ (by omega) (by omega)]
    exact b1 p hp
  · rw [e2, e3, e4, e5]
    by_cases z : i = n
    · subst z
      have a01 : wf i 0 ≠ wf i 1 := by unfold wf; omega
      have a02 : wf i 0 ≠ wf i 2 := by unfold wf; omega
      have a03 : wf i 0 ≠ wf i 3 := by unfold wf; omega
      have a12 : wf i 1 ≠ wf i 2 := by unfold wf; omega
      have a13 : wf i 1 ≠ wf i 3 := by unfold wf; omega
      have a23 : wf i 2 ≠ wf i 3 := by unfold wf; omega
      have n1 : ∀ f, wf i f ≠ 1 := fun f => by unfold wf; omega
      refine ⟨?_, ?_, ?_, ?_⟩
      · rw [upd_s, un (n1 0), un a03, un a02, un a01, upd_s]
      · rw [upd_s, un (n1 1), un a13, un a12, upd_s]
      · rw [upd_s, un (n1 2), un a23, upd_s]
      · rw [upd_s, un (n1 3), upd_s]
    · have hn2 : ∀ f f', f < 4 → f' < 4 → wf i f ≠ wf n f' := fun f f' q1 q2 => by unfold wf; omega
      have hi2 : ∀ f, f < 4 → upd (upd (upd (upd (upd r (wf n 0) kd) (wf n 1) g) (wf n 2) bl) (wf n 3) 0) 1 (nI n + 1) (wf i f) = r (wf i f) := fun f hf => by
        rw [un (by unfold wf; omega), un (hn2 f 3 hf (by decide)), un (hn2 f 2 hf (by decide)), un (hn2 f 1 hf (by decide)), un (hn2 f 0 hf (by decide))]
      rw [un z, un z, un z, un z, hi2 0 (by decide), hi2 1 (by decide), hi2 2 (by decide), hi2 3 (by decide)]
      exact b2 i hi
  · rw [e6, low _ (by omega) (by omega)]
    exact b3 s hs
  · rw [e0, upd_s, upd_s]
  · rw [e0, upd_n (by decide), low _ (by omega) (by omega)]
    exact b5
  · rw [e0, upd_n (by decide), low _ (by omega) (by omega)]
    exact b6
  · rw [e0, upd_n (by decide), low _ (by omega) (by omega)]
    exact b7
theorem cmd_walker {M : Mem} (hR : RM M) {kd g : Int32} : CallP 20 58 [.ref 0, .int kd, .int g] M (fun x N => CallP 20 143 [.ref 59, .int kd, .int g] N (fun y K => y = x ∧ RM K)) := by
  refine c_X6_walker (by omega) ⟨⟨rfl, hR.iv⟩, ?_⟩
  obtain ⟨n, hn, en⟩ := hR.im
  by_cases h : isK kd ∧ isG g
  · rw [if_pos h]
    have h6 : (M 1 6 < 6) = ¬ M 60 1 = 6 := by
      rw [hR.n, en, show (6 : Int32) = nI 6 from rfl, propext (nI_ltI (by omega) (by omega)), propext (nI_eq (by omega) (by omega))]
      exact propext ⟨fun z => by omega, fun z => by omega⟩
    by_cases hf : M 1 6 < 6
    · rw [if_pos hf, add1]
      rw [h6] at hf
      have hw : wOK (M 60 1) := by
        rw [en] at hf ⊢
        exact nOK (Nat.lt_of_le_of_ne hn (fun z => hf (by rw [z]; rfl)))
      have aj : ∀ p, 7 ≤ p → addM M 1 kd g 30 p = M p := fun p hp => by
        unfold addM
        rw [mset_n (bq (by omega)), mset_n (bq (by omega)), mset_n (bq (by omega)), mset_n (bq (by omega)), mset_n (bq (by omega))]
      have a60 := aj 60 (by decide)
      refine c_X7_walker (by omega) ⟨⟨rfl, by rw [a60]; exact hR.im⟩, ?_⟩
      rw [if_pos h, a60, if_neg hf]
      refine ⟨by rw [hR.n], ?_⟩
      have e : ∀ p, p ≠ 60 → mrow (addM M 1 kd g 30) 60 (cmR (M 60) kd g 30) p = addM M 1 kd g 30 p := fun p hp => mrow_n (bq hp)
      refine hR.br (fun p a b _ => ?_) ?_ ?_ ?_ ?_ ?_
      · rw [e p a]
        rcases b with rfl | b
        · unfold addM
          simp [mset, mrow]
        · exact aj p (by omega)
      · rw [e 44 (by decide), aj 44 (by decide)]
      · rw [e 59 (by decide), aj 59 (by decide)]
      · rw [e 59 (by decide), aj 59 (by decide)]
      · rw [mrow_s]
        have en6 := hR.n
        refine hR.1.add hw ?_ ?_ ?_ ?_ ?_ ?_ ?_
        · rw [e _ (by decide)]
          unfold addM
          simp [mset, mrow]
        · rw [e _ (by decide), ← en6]
          unfold addM
          simp [mset, mrow]
        · rw [e _ (by decide), ← en6]
          unfold addM
          simp [mset, mrow]
        · rw [e _ (by decide), ← en6]
          unfold addM
          simp [mset, mrow]
        · rw [e _ (by decide), ← en6]
          unfold addM
          simp [mset, mrow]
        · rw [e _ (by decide)]
          exact aj 7 (by decide)
        · rw [e _ (by decide), ← en6]
          unfold addM
          simp [mset, mrow]
      · rw [mrow_s]
        exact hR.2.1.add hw h.1
    · rw [if_neg hf]
      rw [h6, Classical.not_not] at hf
      refine c_X7_walker (by omega) ⟨⟨rfl, by rw [tl_n (by decide)]; exact hR.im⟩, ?_⟩
      rw [if_pos h, tl_n (by decide), if_pos hf]
      exact ⟨rfl, hR.tell (by decide)⟩
  · rw [if_neg h]
    refine c_X7_walker (by omega) ⟨⟨rfl, by rw [tl_n (by decide)]; exact hR.im⟩, ?_⟩
    rw [if_neg h]
    exact ⟨rfl, hR.tell (by decide)⟩
