/-! BOTH: crossings -/
theorem hld_G (g : Int32) : isG (hld g) := by
  unfold hld
  by_cases h1 : g < 99
  · rw [if_pos h1]
    by_cases h2 : 0 < g
    · rw [if_pos h2]
      refine ⟨fun z => ?_, fun z => ?_⟩
      · rw [Int32.lt_iff_toInt_lt] at z h2
        simp only [Int32.reduceToInt] at z h2
        omega
      · rw [Int32.lt_iff_toInt_lt] at z h1
        simp only [Int32.reduceToInt] at z h1
        omega
    · rw [if_neg h2]
      decide
  · rw [if_neg h1, if_pos (by decide)]
    decide
theorem goF_G {kd bs : Int32} : ∀ (n i : Nat) (g : Int32) (r : Nat → Int32), (∀ j, j < 12 → isG (r j)) → ∀ j, j < 12 → isG ((goF kd bs n i g r).2.2 j) := by
  intro n
  induction n with
  | zero => intro i g r h; exact h
  | succ n ih =>
    intro i g r h
    rw [goF]
    split
    · refine ih (i + 1) _ _ (fun j hj => ?_)
      unfold upd
      split
      · exact hld_G _
      · exact h j hj
    · exact h
theorem crr_f {r : Nat → Int32} {i : Nat} : crr r i (wf i 3) = if (crx r i).1 < 12 then mn9 (r (wf i 3) + 1) else r (wf i 3) := by
  have n1 : wf i 3 ≠ wf i 1 := by unfold wf; omega
  unfold crr
  rw [un (by unfold wf; omega)]
  by_cases h : (crx r i).1 < 12
  · rw [if_pos h, if_pos h, upd_s]
  · rw [if_neg h, if_neg h, un n1, rwQ_w]
theorem crr_0 {r : Nat → Int32} {i : Nat} : crr r i 0 = r 0 + 1 := by
  unfold crr
  exact upd_s
theorem RI.cr {r : Nat → Int32} (h : RI r) {i c : Nat} (hc : c < 99999) (e0 : r 0 = nI c) : RI (crr r i) := by
  obtain ⟨⟨n, hn, e⟩, h2, h3, h4, h5, h6⟩ := h
  refine ⟨⟨n, hn, by rw [crr_1]; exact e⟩, fun p hp => ?_, fun j hj => ?_, by rw [crr_l (by decide) (by decide)]; exact h4, fun s hs => ?_, ⟨c + 1, by omega, by rw [crr_0, e0, nI_1]⟩⟩
  · rw [crr_p hp]
    exact goF_G 12 0 _ _ (fun j hj => h2 j hj) p hp
  · rw [crr_w (by decide) (Or.inr (Or.inl rfl))]
    exact h3 j hj
  · unfold hasM
    rw [crr_1, crr_l (by omega) (by omega)]
    exact h5 s hs
/-- one crosses in both -/
theorem RM.step {M : Mem} {r : Nat → Int32} (h : RM (mrow M 60 r)) {i c : Nat} (hi : i < 6) (hc : c < 99999) (e0 : r 0 = nI c) : RM (mrow (cx1 M i) 60 (crr r i)) := by
  have hx := h.cx hi
  rw [mrow_s] at hx
  have hxw : xw (mrow M 60 r) i = xw M i := by
    unfold xw
    rw [mrow_n (by decide), mrow_n (by decide), mrow_n (by decide), mrow_n (by decide), mrow_n (by decide)]
  rw [hxw] at hx
  have hw := h.ww hi
  rw [mrow_s, mrow_n (by decide), mrow_n (by decide), mrow_n (by decide), mrow_n (by decide)] at hw
  have c2 : cx1 M i 2 = (xw M i).2.2 := by
    unfold cx1
    rw [mset_n (by decide)]
    split <;> simp [mset, mrow]
  have c4 : cx1 M i 4 = upd (M 4) i (if (xw M i).1 < 12 then M 4 i else (xw M i).2.1) := by
    unfold cx1
    rw [mset_n (by decide)]
    by_cases z : (xw M i).1 < 12
    · rw [if_pos z, if_pos z]
      simp [mset, mrow]
    · rw [if_neg z, if_neg z]
      simp [mset, mrow]
  have c6 : cx1 M i 6 = if (xw M i).1 < 12 then upd (M 6) i (mn9 (M 6 i + 1)) else M 6 := by
    unfold cx1
    rw [mset_n (by decide)]
    by_cases z : (xw M i).1 < 12
    · rw [if_pos z, if_pos z]
      simp [mset, mrow]
    · rw [if_neg z, if_neg z]
      simp [mset, mrow]
  have cn : ∀ p, p ≠ 1 → p ≠ 2 → p ≠ 4 → p ≠ 6 → cx1 M i p = M p := fun p a b d f => by
    unfold cx1
    rw [mset_n (bq a)]
    split
    · rw [mset_n (bq f), mset_n (bq d), mrow_n (bq b)]
    · rw [mset_n (bq d), mrow_n (bq b)]
  have c1 : cx1 M i 1 = upd (M 1) 8 (M 1 8 + 1) := by
    unfold cx1
    rw [mset_s]
    split <;> simp [mset, mrow]
  refine h.br (fun p a b _ => ?_) ?_ ?_ ?_ ?_ ?_
  · rw [mrow_n (bq a), mrow_n (bq a)]
    exact cn p (by omega) (by omega) (by omega) (by omega)
  · rw [mrow_n (by decide), mrow_n (by decide), cn 44 (by decide) (by decide) (by decide) (by decide)]
  · rw [mrow_n (by decide), mrow_n (by decide), cn 59 (by decide) (by decide) (by decide) (by decide)]
  · rw [mrow_n (by decide), mrow_n (by decide), cn 59 (by decide) (by decide) (by decide) (by decide)]
  · obtain ⟨b1, b2, b3, b4, b5, b6, b7⟩ := h.1
    rw [mrow_s] at b1 b2 b3 b4 b5 b6 b7
    rw [mrow_n (by decide)] at b4 b5 b6 b7
    rw [mrow_s]
    refine ⟨fun p hp => ?_, fun j hj => ?_, fun s hs => ?_, ?_, ?_, ?_, ?_⟩
    · rw [mrow_n (by decide), crr_p hp]
      show cx1 M i 2 p = _
      rw [c2]
      exact hx.2.2 p hp
    · have q := b2 j hj
      rw [mrow_n (by decide), mrow_n (by decide), mrow_n (by decide), mrow_n (by decide)] at q ⊢
      show cx1 M i 3 j = _ ∧ cx1 M i 4 j = _ ∧ cx1 M i 5 j = _ ∧ cx1 M i 6 j = _
      obtain ⟨q1, q2, q3, q4⟩ := q
      rw [cn 3 (by decide) (by decide) (by decide) (by decide), cn 5 (by decide) (by decide) (by decide) (by decide), c4, c6, crr_w (f := 0) (by decide) (Or.inr (Or.inl rfl)), crr_w (f := 2) (by decide) (Or.inr (Or.inr rfl))]
      refine ⟨q1, ?_, q3, ?_⟩
      · by_cases z : j = i
        · subst z
          rw [upd_s, crr_g, hx.1, hx.2.1, hw.2.1]
        · rw [un z, crr_w (by decide) (Or.inl z)]
          exact q2
      · by_cases z : j = i
        · subst z
          rw [crr_f, hx.1]
          by_cases y : (crx r j).1 < 12
          · rw [if_pos y, if_pos y, upd_s, hw.2.2.2]
          · rw [if_neg y, if_neg y]
            exact q4
        · rw [crr_w (by decide) (Or.inl z)]
          split
          · rw [un z]
            exact q4
          · exact q4
    · rw [mrow_n (by decide), crr_l (by omega) (by omega)]
      have := b3 s hs
      rw [mrow_n (by decide)] at this
      show cx1 M i 7 s = _
      rw [cn 7 (by decide) (by decide) (by decide) (by decide)]
      exact this
    · rw [mrow_n (by decide), c1, upd_n (by decide), crr_1]
      exact b4
    · rw [mrow_n (by decide), c1, upd_n (by decide), crr_l (by decide) (by decide)]
      exact b5
    · rw [mrow_n (by decide), c1, upd_s, crr_0, b6]
    · rw [mrow_n (by decide), c1, upd_n (by decide), crr_l (by decide) (by decide)]
      exact b7
  · rw [mrow_s]
    have := h.2.1
    rw [mrow_s] at this
    exact this.cr hc e0
theorem ag_22 {M : Mem} {a r : Nat → Int32} : AG (mrow M 60 r) (mrow (mrow M 22 a) 60 r) := by
  refine ⟨fun p hp => ?_, ?_, ?_, ?_⟩
  · by_cases z : p = 60
    · subst z
      rw [mrow_s, mrow_s]
    · rw [mrow_n (bq z), mrow_n (bq z), mrow_n (bq (fun y => by subst y; cases hp))]
  · rw [mrow_n (by decide), mrow_n (by decide), mrow_n (by decide)]
  · rw [mrow_n (by decide), mrow_n (by decide), mrow_n (by decide)]
  · rw [mrow_n (by decide), mrow_n (by decide), mrow_n (by decide)]
theorem cmd_cross {M : Mem} (hR : RM M) {w : Int32} : CallP 20 62 [.ref 0, .int w] M (fun x N => CallP 20 154 [.ref 59, .int w] N (fun y K => y = x ∧ RM K)) := by
  refine c_X6_cross (by omega) ⟨rfl, ?_⟩
  obtain ⟨c, hc, e0⟩ := hR.2.1.2.2.2.2.2
  have e8 : M 1 8 = nI c := by rw [hR.1.2.2.2.2.2.1]; exact e0
  by_cases h : hasW M 1 w
  · rw [if_pos h]
    rw [hR.has] at h
    obtain ⟨i, hi, rfl⟩ := has_n h
    have ci : (nI i).toNatClampNeg = i := nI_clamp (by omega)
    have hz : (M 1 8 + 1 ≤ 99999) = ¬ M 60 0 = 99999 := by
      rw [e8, e0, nI_1, show (99999 : Int32) = nI 99999 from rfl, propext (nI_leI (by omega) (by omega)), propext (nI_eq (by omega) (by omega))]
      exact propext ⟨fun z => by omega, fun z => by omega⟩
    by_cases h9 : M 1 8 + 1 ≤ 99999
    · rw [if_pos h9, ci]
      rw [hz] at h9
      intro a
      have c60 : mrow (cx1 M i) 22 a 60 = M 60 := by
        rw [mrow_n (by decide)]
        unfold cx1
        rw [mset_n (by decide)]
        split <;> simp [mset, mrow]
      refine c_X7_cross (by omega) ⟨⟨rfl, by rw [c60]; exact hR.im⟩, ?_⟩
      rw [c60, if_pos h, if_neg h9, ci]
      refine ⟨by rw [(hR.cx hi).1], ?_⟩
      have hc2 : c < 99999 := by
        rcases Nat.lt_or_ge c 99999 with z | z
        · exact z
        · exact absurd (by rw [e0, show c = 99999 by omega]; rfl) h9
      have := RM.step (M := M) (r := M 60) (by rw [mrow_self]; exact hR) hi hc2 e0
      exact this.ag ag_22
    · rw [if_neg h9]
      rw [hz, Classical.not_not] at h9
      refine c_X7_cross (by omega) ⟨⟨rfl, by rw [tl_n (by decide)]; exact hR.im⟩, ?_⟩
      rw [tl_n (by decide), if_pos h, if_pos h9]
      exact ⟨rfl, hR.tell (by decide)⟩
  · rw [if_neg h]
    rw [hR.has] at h
    refine c_X7_cross (by omega) ⟨⟨rfl, by rw [tl_n (by decide)]; exact hR.im⟩, ?_⟩
    rw [tl_n (by decide), if_neg h]
    exact ⟨rfl, hR.tell (by decide)⟩
/-- how many bits from i on -/
def rb (s : Nat) : Nat → Nat → Nat
  | 0, _ => 0
  | n + 1, i => (if s.testBit i then 1 else 0) + rb s n (i + 1)
theorem rb_p : ∀ s, s < 64 → rb s 6 0 = popc s := by decide +kernel
theorem cw_eq {s q : Nat} (hq : q ≤ 6) (hs : s < 2 ^ q) : ∀ (n i f c : Nat) (M : Mem) (r : Nat → Int32), i + n = 6 → RM (mrow M 60 r) → r 0 = nI c → c + rb s n i ≤ 99999 → (cwF s n i f M).1 = (cwM s (q - i) i f r).1 ∧ RM (mrow (cwF s n i f M).2 60 (cwM s (q - i) i f r).2) ∧ ((cwF s n i f M).2 60 = M 60) := by
  intro n
  induction n with
  | zero =>
    intro i f c M r hi hR e0 hc
    rw [show q - i = 0 by omega]
    exact ⟨rfl, hR, rfl⟩
  | succ n ih =>
    intro i f c M r hi hR e0 hc
    rw [rb] at hc
    rw [cwF]
    by_cases hb : s.testBit i = true
    · rw [if_pos hb]
      rw [if_pos hb] at hc
      have hiq : i < q := bit_lt hs hb
      rw [show q - i = (q - (i + 1)) + 1 by omega, cwM, if_pos hb]
      have hx := (hR.cx (show i < 6 by omega)).1
      rw [mrow_s] at hx
      have hxw : xw (mrow M 60 r) i = xw M i := by
        unfold xw
        rw [mrow_n (by decide), mrow_n (by decide), mrow_n (by decide), mrow_n (by decide), mrow_n (by decide)]
      rw [hxw] at hx
      rw [hx]
      have key := ih (i + 1) (if (crx r i).1 < 12 then f + 1 else f) (c + 1) (cx1 M i) (crr r i) (by omega) (hR.step (by omega) (by omega) e0) (by rw [crr_0, e0, nI_1]) (by omega)
      refine ⟨key.1, key.2.1, key.2.2.trans ?_⟩
      unfold cx1
      rw [mset_n (by decide)]
      split <;> simp [mset, mrow]
    · rw [if_neg hb]
      rw [if_neg hb] at hc
      rcases Nat.lt_or_ge i q with z | z
      · rw [show q - i = (q - (i + 1)) + 1 by omega, cwM, if_neg hb]
        exact ih (i + 1) f c M r (by omega) hR e0 (by omega)
      · have := ih (i + 1) f c M r (by omega) hR e0 (by omega)
        rw [show q - (i + 1) = 0 by omega] at this
        rw [show q - i = 0 by omega]
        exact this
theorem RM.set {M : Mem} (h : RM M) {s : Int32} : (¬ s < 0 ∧ ¬ 1 <<< (M 1 6 &&& 31) ≤ s) = (¬ s < 0 ∧ ¬ 1 <<< (M 60 1 &&& 31) ≤ s) := by
  rw [h.n]
theorem cmd_crowd {M : Mem} (hR : RM M) {s : Int32} : CallP 20 63 [.ref 0, .int s] M (fun x N => CallP 20 156 [.ref 59, .int s] N (fun y K => y = x ∧ RM K)) := by
  refine c_X6_crowd (by omega) ⟨⟨rfl, hR.iv⟩, ?_⟩
  obtain ⟨c, hc, e0⟩ := hR.2.1.2.2.2.2.2
  have e8 : M 1 8 = nI c := by rw [hR.1.2.2.2.2.2.1]; exact e0
  by_cases h : ¬ s < 0 ∧ ¬ 1 <<< (M 1 6 &&& 31) ≤ s
  · rw [if_pos h]
    rw [hR.set] at h
    obtain ⟨b, q, hq, he, hb, rfl⟩ := isSet_n hR.im h
    have h64 := lt64 hq hb
    have cb : (nI b).toNatClampNeg = b := nI_clamp (by omega)
    have cq : (nI q).toNatClampNeg = q := nI_clamp (by omega)
    rw [cb]
    by_cases h9 : M 1 8 + nI (popc b) ≤ 99999
    · rw [if_pos h9]
      intro a
      have hp := popc_le b
      have hc2 : c + rb b 6 0 ≤ 99999 := by
        rw [rb_p b h64]
        rw [e8, nI_add, show (99999 : Int32) = nI 99999 from rfl, nI_leI (by omega) (by omega)] at h9
        exact h9
      obtain ⟨k1, k2, k3⟩ := cw_eq hq hb 6 0 0 c M (M 60) rfl (by rw [mrow_self]; exact hR) e0 hc2
      have c60 : mrow (cwF b 6 0 0 M).2 22 a 60 = M 60 := by
        rw [mrow_n (by decide)]
        exact k3
      refine c_X7_crowd (by omega) ⟨⟨rfl, by rw [c60]; exact hR.im⟩, ?_⟩
      rw [c60, if_pos h, cb, if_pos (by rw [e0, ← e8]; exact h9), he, cq]
      rw [Nat.sub_zero] at k1 k2
      exact ⟨by rw [k1], k2.ag ag_22⟩
    · rw [if_neg h9]
      refine c_X7_crowd (by omega) ⟨⟨rfl, by rw [tl_n (by decide)]; exact hR.im⟩, ?_⟩
      rw [tl_n (by decide), if_pos h, cb, if_neg (by rw [e0, ← e8]; exact h9)]
      exact ⟨rfl, hR.tell (by decide)⟩
  · rw [if_neg h]
    rw [hR.set] at h
    refine c_X7_crowd (by omega) ⟨⟨rfl, by rw [tl_n (by decide)]; exact hR.im⟩, ?_⟩
    rw [tl_n (by decide), if_neg h]
    exact ⟨rfl, hR.tell (by decide)⟩
