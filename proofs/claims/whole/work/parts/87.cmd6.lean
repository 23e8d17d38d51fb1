/-! BOTH: who is like whom, the best plank, strangers, odds -/
theorem G_n {x : Int32} (h : isG x) : ∃ a, a ≤ 99 ∧ x = nI a := nI_of2 (M := 99) (n := 99) rfl h.1 (Int32.not_lt.mp h.2)
theorem ab_n {a b : Nat} (ha : a ≤ 99) (hb : b ≤ 99) : ∃ d, d ≤ 99 ∧ abI (nI a - nI b) = nI d ∧ abI (nI b - nI a) = nI d := by
  have key : ∀ a b : Nat, a ≤ 99 → b ≤ a → abI (nI a - nI b) = nI (a - b) ∧ abI (nI b - nI a) = nI (a - b) := by
    intro a b ha hb
    have e1 : nI a - nI b = nI (a - b) := pk_sub hb
    have e2 : nI b - nI a = 0 - nI (a - b) := by
      rw [← e1]
      rw [Int32.zero_sub, Int32.neg_sub]
    refine ⟨?_, ?_⟩
    · rw [e1]
      unfold abI
      rw [if_pos (nI_pos' (by omega))]
    · rw [e2]
      unfold abI
      by_cases z : a - b = 0
      · rw [z]
        decide
      · have h0 : ¬ 0 ≤ 0 - nI (a - b) := by
          rw [Int32.le_iff_toInt_le]
          have := pk_sub_toInt (a := 0) (b := a - b) (by omega) (by omega)
          rw [show (nI 0 : Int32) = 0 from rfl] at this
          rw [this]
          simp only [Int32.reduceToInt]
          omega
        rw [if_neg h0]
        rw [Int32.zero_sub, Int32.zero_sub, Int32.neg_neg]
  rcases Nat.le_total b a with z | z
  · exact ⟨a - b, by omega, key a b ha z⟩
  · have := key b a hb z
    exact ⟨b - a, by omega, this.2, this.1⟩
theorem df_n {f g : Nat → Int32} (hf : ∀ j, j < 12 → isG (f j)) (hg : ∀ j, j < 12 → isG (g j)) : ∀ (n i t : Nat), i + n ≤ 12 → ∃ t', t' ≤ t + 99 * n ∧ dfF f g n i (nI t) = nI t' ∧ dfF g f n i (nI t) = nI t' := by
  intro n
  induction n with
  | zero => intro i t _; exact ⟨t, by omega, rfl, rfl⟩
  | succ n ih =>
    intro i t hi
    obtain ⟨a, ha, ea⟩ := G_n (hf i (by omega))
    obtain ⟨b, hb, eb⟩ := G_n (hg i (by omega))
    obtain ⟨d, hd, e1, e2⟩ := ab_n ha hb
    rw [dfF, dfF, ea, eb, e1, e2, nI_add]
    obtain ⟨t', h1, h2, h3⟩ := ih (i + 1) (t + d) (by omega)
    exact ⟨t', by omega, h2, h3⟩
theorem RM.G {M : Mem} (h : RM M) {i : Nat} {j : Nat} (hj : j < 12) : isG (plr (crr (M 60) i) j) := by
  show isG (crr (M 60) i (14 + j))
  rw [crr_p hj]
  exact goF_G 12 0 _ _ (fun p hp => h.2.1.2.1 p hp) j hj
theorem RM.df {M : Mem} (h : RM M) {x y : Nat} (hx : x < 6) (hy : y < 6) : ∃ t, t ≤ 1188 ∧ dfF (xw M y).2.2 (xw M x).2.2 12 0 0 = nI t ∧ dfF (plr (crr (M 60) x)) (plr (crr (M 60) y)) 12 0 0 = nI t := by
  obtain ⟨t, ht, e1, e2⟩ := df_n (f := plr (crr (M 60) x)) (g := plr (crr (M 60) y)) (fun j hj => h.G hj) (fun j hj => h.G hj) 12 0 0 (by decide)
  refine ⟨t, by omega, ?_, e1⟩
  rw [dfF_congr (r' := plr (crr (M 60) y)) (s' := plr (crr (M 60) x)) (fun j hj => ?_) (fun j hj => ?_) 12 0 0 (by decide)]
  · exact e2
  · show _ = crr (M 60) y (14 + j)
    rw [crr_p hj]
    exact (h.cx hy).2.2 j hj
  · show _ = crr (M 60) x (14 + j)
    rw [crr_p hj]
    exact (h.cx hx).2.2 j hj
theorem ag_24 {M : Mem} {a b c : Nat → Int32} : AG M (mrow (jk M a b) 24 c) := by
  refine ag_jk.tr ⟨fun p hp => mrow_n (bq (fun z => by subst z; cases hp)), by rw [mrow_n (by decide)], by rw [mrow_n (by decide)], by rw [mrow_n (by decide)]⟩
theorem cmd_unlike {M : Mem} (hR : RM M) {x y : Int32} : CallP 20 80 [.ref 0, .int x, .int y] M (fun x' N => CallP 20 187 [.ref 59, .int x, .int y] N (fun y' K => y' = x' ∧ RM K)) := by
  refine c_X6_unlike (by omega) ⟨rfl, ?_⟩
  by_cases h : hasW M 1 x ∧ hasW M 1 y ∧ ¬ x = y
  · rw [if_pos h]
    rw [hR.has, hR.has] at h
    obtain ⟨i, hi, rfl⟩ := has_n h.1
    obtain ⟨j, hj, rfl⟩ := has_n h.2.1
    have ci : (nI i).toNatClampNeg = i := nI_clamp (by omega)
    have cj : (nI j).toNatClampNeg = j := nI_clamp (by omega)
    rw [ci, cj]
    intro a b c
    have e60 : mrow (jk M a b) 24 c 60 = M 60 := by rw [mrow_n (by decide), jk60]
    refine c_X7_unlike (by omega) ⟨⟨rfl, by rw [e60]; exact hR.im⟩, ?_⟩
    rw [e60, if_pos h, ci, cj]
    intro a'
    have hz := (hR.ag (ag_24 (a := a) (b := b) (c := c))).ag (ag_j2 (a := a'))
    rw [e60] at hz
    obtain ⟨t, ht, e1, e2⟩ := hR.df hi hj
    exact ⟨by rw [e1, e2], hz⟩
  · rw [if_neg h]
    rw [hR.has, hR.has] at h
    refine c_X7_unlike (by omega) ⟨⟨rfl, by rw [tl_n (by decide)]; exact hR.im⟩, ?_⟩
    rw [tl_n (by decide), if_neg h]
    exact ⟨rfl, hR.tell (by decide)⟩
theorem tk_eq {f g : Nat → Int32} {w : Int32} {q : Nat} (hq : q ≤ 6) (h : ∀ i, i < q → ∃ t, t ≤ 1188 ∧ f i = nI t ∧ g i = nI t) : ∀ (n i : Nat) (r l l' : Int32), i + n = q → ((r = -1 ∧ l' = 2147483647) ∨ (¬ r < 0 ∧ l' = l ∧ l ≤ 1188)) → tkF f w n i r l = tkG g w n i r l' ∧ (tkF f w n i r l = -1 ∨ ¬ tkF f w n i r l < 0) := by
  intro n
  induction n with
  | zero =>
    intro i r l l' hi hr
    refine ⟨rfl, ?_⟩
    rcases hr with z | z
    · exact Or.inl z.1
    · exact Or.inr z.1
  | succ n ih =>
    intro i r l l' hi hr
    rw [tkF, tkG]
    unfold byO
    by_cases hw : nI i = w
    · have hm : ¬ (2147483647 : Int32) < l' := by
        rcases hr with z | z
        · rw [z.2]; decide
        · rw [z.2.1]
          intro y
          have := z.2.2
          rw [Int32.lt_iff_toInt_lt] at y
          rw [Int32.le_iff_toInt_le] at this
          simp only [Int32.reduceToInt] at y this
          omega
      rw [if_pos hw, if_pos hw, if_neg hm, if_neg hm]
      exact ih (i + 1) r l l' (by omega) hr
    · rw [if_neg hw, if_neg hw]
      obtain ⟨t, ht, e1, e2⟩ := h i (by omega)
      rw [e1, e2]
      have ht2 : nI t ≤ 1188 := nI_le (b := 1188) ht (by decide)
      rcases hr with z | z
      · rw [if_pos (Or.inl z.1), z.2, if_pos (show nI t < 2147483647 by
          rw [Int32.lt_iff_toInt_lt, nI_toInt (by omega)]
          simp only [Int32.reduceToInt]
          omega), if_pos (show nI t < 2147483647 by
          rw [Int32.lt_iff_toInt_lt, nI_toInt (by omega)]
          simp only [Int32.reduceToInt]
          omega)]
        exact ih (i + 1) (nI i) (nI t) (nI t) (by omega) (Or.inr ⟨nI_pos (by omega), rfl, ht2⟩)
      · have hne : ¬ r = -1 := fun y => absurd (y ▸ z.1) (by decide)
        rw [z.2.1]
        by_cases hlt : nI t < l
        · rw [if_pos (Or.inr hlt), if_pos hlt, if_pos hlt]
          exact ih (i + 1) (nI i) (nI t) (nI t) (by omega) (Or.inr ⟨nI_pos (by omega), rfl, ht2⟩)
        · rw [if_neg (fun y => y.elim hne hlt), if_neg hlt, if_neg hlt]
          exact ih (i + 1) r l l (by omega) (Or.inr ⟨z.1, rfl, z.2.2⟩)
theorem cmd_taken {M : Mem} (hR : RM M) {w : Int32} : CallP 20 81 [.ref 0, .int w] M (fun x N => CallP 20 188 [.ref 59, .int w] N (fun y K => y = x ∧ RM K)) := by
  refine c_X6_taken (by omega) ⟨⟨rfl, hR.iv⟩, ?_⟩
  by_cases h : hasW M 1 w
  · rw [if_pos h]
    rw [hR.has] at h
    obtain ⟨i, hi, rfl⟩ := has_n h
    have ci : (nI i).toNatClampNeg = i := nI_clamp (by omega)
    obtain ⟨q, hq, e1, e2⟩ := hR.cn
    have cq : (nI q).toNatClampNeg = q := nI_clamp (by omega)
    rw [ci, e2, cq]
    obtain ⟨key, hs⟩ := tk_eq (f := dfW M i) (g := dfX (M 60) i) (w := nI i) hq (fun j hj => by
      obtain ⟨t, ht, z1, z2⟩ := hR.df hi (show j < 6 by omega)
      exact ⟨t, ht, z1, z2⟩) q 0 (-1) 0 2147483647 (by omega) (Or.inl ⟨rfl, rfl⟩)
    intro a b c
    have e60 : jk3 M a b c 60 = M 60 := jk3_n (by decide) (by decide) (by decide)
    have hag : RM (jk3 M a b c) := hR.ag ag_24
    by_cases h0 : tkF (dfW M i) (nI i) q 0 (-1) 0 = -1
    · rw [if_pos h0]
      refine c_X7_taken (by omega) ⟨⟨rfl, by rw [tl_n (by decide), e60]; exact hR.im⟩, ?_⟩
      rw [tl_n (by decide), e60, if_pos h, ci, e1, cq, ← key]
      intro a'
      rw [if_pos (by rw [h0]; decide)]
      have hz := (hag.tell (c := 3) (by decide)).ag ((ag_j2 (M := tellM (jk3 M a b c) 3) (a := a')).fnd (c := 3))
      rw [tl_n (by decide), e60] at hz
      exact ⟨rfl, hz⟩
    · rw [if_neg h0]
      refine c_X7_taken (by omega) ⟨⟨rfl, by rw [e60]; exact hR.im⟩, ?_⟩
      rw [e60, if_pos h, ci, e1, cq, ← key]
      intro a'
      rw [if_neg (hs.resolve_left h0)]
      have hz := hag.ag (ag_j2 (a := a'))
      rw [e60] at hz
      exact ⟨rfl, hz⟩
  · rw [if_neg h]
    rw [hR.has] at h
    refine c_X7_taken (by omega) ⟨⟨rfl, by rw [tl_n (by decide)]; exact hR.im⟩, ?_⟩
    rw [tl_n (by decide), if_neg h]
    exact ⟨rfl, hR.tell (by decide)⟩
/-- laid planks in both -/
theorem RM.xl {M : Mem} (h : RM M) {i : Nat} (hi : i < 6) {s : Int32} {q : Nat → Int32} (hq : ∀ j, j < 12 → layF s (plr (M 60)) j = plr q j) (e : ∀ f, f < 4 → q (wf i f) = M 60 (wf i f)) (e3 : q 3 = M 60 3) : (xwl M i s).1 = (crx q i).1 := by
  obtain ⟨e1, e2, e4, _⟩ := h.ww hi
  unfold xwl crx
  rw [e 0 (by decide), e 1 (by decide), e 2 (by decide), e3, e1, e2, e4, h.nt]
  refine (wk_m (h.kd hi) (fun j hj => ?_)).1
  rw [← hq j hj]
  unfold layF
  rw [h.pl hj]
theorem pop_or : ∀ i, i < 12 → ∀ s, s < 2 ^ i → popc (s ||| 2 ^ i) = popc s + 1 := by
  have h : (List.range 12).all (fun i => (List.range (2 ^ i)).all (fun s => decide (popc (s ||| 2 ^ i) = popc s + 1))) = true := by decide +kernel
  intro i hi s hs
  exact of_decide_eq_true (List.all_eq_true.mp (List.all_eq_true.mp h i (List.mem_range.mpr hi)) s (List.mem_range.mpr hs))
theorem cnt_pop {c : Nat → Prop} [DecidablePred c] : ∀ (n i s k : Nat), i + n ≤ 12 → s < 2 ^ i → popc s = k → cntF c n i (nI k) = nI (popc (stN c n i s)) := by
  intro n
  induction n with
  | zero => intro i s k _ _ h; rw [cntF, stN, h]
  | succ n ih =>
    intro i s k hi hs hk
    rw [cntF, stN]
    have h2 : s < 2 ^ (i + 1) := Nat.lt_of_lt_of_le hs (Nat.pow_le_pow_right (by decide) (by omega))
    by_cases z : c i
    · rw [if_pos z, if_pos z, nI_1]
      exact ih (i + 1) _ _ (by omega) (Nat.or_lt_two_pow h2 (Nat.pow_lt_pow_right (by decide) (by omega))) (by rw [pop_or i (by omega) s hs, hk])
    · rw [if_neg z, if_neg z]
      exact ih (i + 1) s k (by omega) h2 hk
theorem bs_congr {f g : Nat → Int32} : ∀ (n i : Nat) (b l : Int32), (∀ j, j < i + n → f j = g j) → bsF f n i b l = bsF g n i b l := by
  intro n
  induction n with
  | zero => intro i b l _; rfl
  | succ n ih =>
    intro i b l h
    rw [bsF, bsF, h i (by omega)]
    split
    · exact ih (i + 1) _ _ (fun j hj => h j (by omega))
    · exact ih (i + 1) _ _ (fun j hj => h j (by omega))
theorem two_bit {p j : Nat} : (2 ^ p).testBit j = decide (p = j) := Nat.testBit_two_pow
theorem lay1 {r : Nat → Int32} {p j : Nat} (hp : p < 12) (hj : j < 12) : layF (1 <<< (nI p &&& 31)) (plr r) j = plr (upd r (14 + p) 50) j := by
  have hb : (2 : Nat) ^ p < 2 ^ 31 := Nat.pow_lt_pow_right (by decide) (by omega)
  unfold layF
  rw [sh1 p (by omega)]
  simp only [isin0 hb (show j < 31 by omega), two_bit]
  show _ = upd r (14 + p) 50 (14 + j)
  by_cases z : p = j
  · subst z
    simp [upd_s]
  · rw [un (by omega)]
    simp [z]
    rfl
theorem cmd_best {M : Mem} (hR : RM M) : CallP 20 79 [.ref 0] M (fun x N => CallP 20 185 [.ref 59] N (fun y K => y = x ∧ RM K)) := by
  refine c_X6_best (by omega) ⟨⟨rfl, hR.iv⟩, ?_⟩
  intro a b
  refine c_X7_best (by omega) ⟨⟨rfl, by rw [jk60]; exact hR.im⟩, ?_⟩
  intro a'
  obtain ⟨q, hq, e1, e2⟩ := hR.cn
  have cq : (nI q).toNatClampNeg = q := nI_clamp (by omega)
  refine ⟨?_, (hR.ag (ag_jk (a := a) (b := b))).ag (ag_j2 (a := a'))⟩
  rw [jk60, e1, e2, cq]
  refine congrArg Value.int (bs_congr 12 0 0 7 (fun p hp => ?_)).symm
  unfold bcN bcM
  have key := cnt_pop (c := fun i => (crx (upd (M 60) (14 + p) 50) i).1 < 12) q 0 0 0 (by omega) (by decide) popc_0
  rw [← key]
  refine cnt_congr q 0 0 (fun i hi => ?_)
  rw [hR.xl (show i < 6 by omega) (q := upd (M 60) (14 + p) 50) (fun j hj => lay1 (by omega) hj) (fun f hf => un (by unfold wf; omega)) (un (by omega))]
theorem sg_congr : ∀ (n : Nat) (z : Int32) (p q : Nat → Int32), (∀ j, j < 12 → p j = q j) → (sgF n z p).1 = (sgF n z q).1 ∧ ∀ j, j < 12 → (sgF n z p).2 j = (sgF n z q).2 j := by
  intro n
  induction n with
  | zero => intro z p q h; exact ⟨rfl, h⟩
  | succ n ih =>
    intro z p q h
    rw [sgF, sgF]
    refine ih _ _ _ (fun j hj => ?_)
    unfold upd
    split
    · rfl
    · exact h j hj
theorem rm_G (z : Int32) : isG (rmF z 100) := by
  obtain ⟨j, hj, e⟩ := rm_n z (m := 100) (by decide) (by decide)
  have e : rmF z 100 = nI j := e
  rw [e]
  exact ⟨nI_pos (by omega), nI_nlt (a := 99) (by omega) (by decide)⟩
theorem sg_G : ∀ (n : Nat) (z : Int32) (p : Nat → Int32), (∀ j, j < 12 → isG (p j)) → ∀ j, j < 12 → isG ((sgF n z p).2 j) := by
  intro n
  induction n with
  | zero => intro z p h; exact h
  | succ n ih =>
    intro z p h
    rw [sgF]
    refine ih _ _ (fun j hj => ?_)
    unfold upd
    split
    · exact rm_G _
    · exact h j hj
/-- other planks, another z, in both -/
theorem RM.rowz {M : Mem} (h : RM M) {p ps : Nat → Int32} {z : Int32} (hp : ∀ j, j < 12 → p j = ps j) (hg : ∀ j, j < 12 → isG (ps j)) : RM (mrow (mset (mrow M 2 p) 1 9 z) 60 (upd (rwQ (M 60) ps) 2 z)) := by
  have e : ∀ q, q ≠ 60 → q ≠ 1 → q ≠ 2 → mrow (mset (mrow M 2 p) 1 9 z) 60 (upd (rwQ (M 60) ps) 2 z) q = M q := fun q a b c => by
    rw [mrow_n (bq a), mset_n (bq b), mrow_n (bq c)]
  have e1 : mrow (mset (mrow M 2 p) 1 9 z) 60 (upd (rwQ (M 60) ps) 2 z) 1 = upd (M 1) 9 z := by
    rw [mrow_n (by decide), mset_s, mrow_n (by decide)]
  have e2 : mrow (mset (mrow M 2 p) 1 9 z) 60 (upd (rwQ (M 60) ps) 2 z) 2 = p := by
    rw [mrow_n (by decide), mset_n (by decide), mrow_s]
  have lo : ∀ j, j ≠ 2 → j < 14 ∨ 26 ≤ j → upd (rwQ (M 60) ps) 2 z j = M 60 j := fun j a b => by
    rw [un a, rwQ_out b]
  have pl : ∀ j, j < 12 → upd (rwQ (M 60) ps) 2 z (14 + j) = ps j := fun j hj => by
    rw [un (by omega), rwQ_in hj]
  refine h.br (fun q a b _ => e q a (by omega) (by omega)) (by rw [e 44 (by decide) (by decide) (by decide)]) (by rw [e 59 (by decide) (by decide) (by decide)]) (by rw [e 59 (by decide) (by decide) (by decide)]) ?_ ?_
  · obtain ⟨b1, b2, b3, b4, b5, b6, b7⟩ := h.1
    rw [mrow_s]
    refine ⟨fun j hj => ?_, fun i hi => ?_, fun s hs => ?_, ?_, ?_, ?_, ?_⟩
    · show mrow (mset (mrow M 2 p) 1 9 z) 60 (upd (rwQ (M 60) ps) 2 z) 2 j = _
      rw [e2, pl j hj]
      exact hp j hj
    · have l : ∀ f, upd (rwQ (M 60) ps) 2 z (wf i f) = M 60 (wf i f) := fun f => lo _ (by unfold wf; omega) (by unfold wf; omega)
      rw [l 0, l 1, l 2, l 3, e _ (by omega) (by omega) (by omega), e _ (by omega) (by omega) (by omega), e _ (by omega) (by omega) (by omega), e _ (by omega) (by omega) (by omega)]
      exact b2 i hi
    · rw [lo _ (by omega) (by omega), e _ (by omega) (by omega) (by omega)]
      exact b3 s hs
    · rw [e1, upd_n (by decide), lo 1 (by decide) (by omega)]
      exact b4
    · rw [e1, upd_n (by decide), lo 3 (by decide) (by omega)]
      exact b5
    · rw [e1, upd_n (by decide), lo 0 (by decide) (by omega)]
      exact b6
    · rw [e1, upd_s, upd_s]
  · rw [mrow_s]
    obtain ⟨⟨n, hn, en⟩, h2, h3, h4, h5, h6⟩ := h.2.1
    have e1' := lo 1 (by decide) (by omega)
    refine ⟨⟨n, hn, by rw [e1']; exact en⟩, fun j hj => by rw [pl j hj]; exact hg j hj, fun i hi => by rw [lo _ (by unfold wf; omega) (by unfold wf; omega)]; exact h3 i hi, by rw [lo 3 (by decide) (by omega)]; exact h4, fun s hs => ?_, by rw [lo 0 (by decide) (by omega)]; exact h6⟩
    unfold hasM
    rw [e1', lo _ (by omega) (by omega)]
    exact h5 s hs
theorem cmd_strangers {M : Mem} (hR : RM M) {n : Int32} : CallP 20 85 [.ref 0, .int n] M (fun x N => CallP 20 197 [.ref 59, .int n] N (fun y K => y = x ∧ RM K)) := by
  refine c_X6_strangers (by omega) ⟨rfl, ?_⟩
  have hc : (¬ n < 1 ∧ n ≤ 20) = (¬ n < 1 ∧ ¬ 20 < n) := propext ⟨fun z => ⟨z.1, Int32.not_lt.mpr z.2⟩, fun z => ⟨z.1, Int32.not_lt.mp z.2⟩⟩
  by_cases h : ¬ n < 1 ∧ n ≤ 20
  · rw [if_pos h]
    rw [hc] at h
    have ez : M 1 9 = M 60 2 := hR.1.2.2.2.2.2.2
    rw [ez]
    obtain ⟨k1, k2⟩ := sg_congr (n).toNatClampNeg (M 60 2) (M 2) (plr (M 60)) (fun j hj => hR.pl hj)
    generalize hA : mset (mrow M 2 (sgF (n).toNatClampNeg (M 60 2) (M 2)).2) 1 9 (sgF (n).toNatClampNeg (M 60 2) (M 2)).1 = A
    have a60 : A 60 = M 60 := by rw [← hA, mset_n (by decide), mrow_n (by decide)]
    refine c_X7_strangers (by omega) ⟨rfl, ?_⟩
    rw [a60, if_pos h]
    refine ⟨congrArg Value.int (sum_congr 12 0 0 (fun j hj => (k2 j (by omega)).symm)), ?_⟩
    rw [← hA, k1]
    exact hR.rowz k2 (sg_G _ _ _ (fun j hj => hR.2.1.2.1 j hj))
  · rw [if_neg h]
    rw [hc] at h
    refine c_X7_strangers (by omega) ⟨rfl, ?_⟩
    rw [if_neg h]
    exact ⟨rfl, hR.tell (by decide)⟩
theorem stN_congr {c e : Nat → Prop} [DecidablePred c] [DecidablePred e] : ∀ (n i s : Nat), (∀ j, j < i + n → (c j ↔ e j)) → stN c n i s = stN e n i s := by
  intro n
  induction n with
  | zero => intro i s _; rfl
  | succ n ih =>
    intro i s h
    rw [stN, stN]
    by_cases z : c i
    · rw [if_pos z, if_pos ((h i (by omega)).mp z)]
      exact ih (i + 1) _ (fun j hj => h j (by omega))
    · rw [if_neg z, if_neg (fun y => z ((h i (by omega)).mpr y))]
      exact ih (i + 1) _ (fun j hj => h j (by omega))
theorem cmd_odds {M : Mem} (hR : RM M) {w n q : Int32} : CallP 20 86 [.ref 0, .int w, .int n, .int q] M (fun x N => CallP 20 198 [.ref 59, .int w, .int n, .int q] N (fun y K => y = x ∧ RM K)) := by
  refine c_X6_odds (by omega) ⟨rfl, ?_⟩
  by_cases h : hasW M 1 w ∧ ¬ n < 0 ∧ ¬ 14 < n ∧ (q = 0 ∨ q = 1)
  · rw [if_pos h]
    rw [hR.has] at h
    obtain ⟨i, hi, rfl⟩ := has_n h.1
    have ci : (nI i).toNatClampNeg = i := nI_clamp (by omega)
    refine c_X7_odds (by omega) ⟨⟨rfl, hR.im⟩, ?_⟩
    rw [if_pos h, ci]
    refine ⟨?_, hR⟩
    have e : gdF M i = gdM (M 60) i := by
      unfold gdF gdM
      obtain ⟨e1, e2, e3, e4⟩ := hR.ww hi
      rw [stN_congr 12 0 0 (fun j hj => by rw [hR.pl (show j < 12 by omega), e1, e2, e3, hR.nt])]
    rw [e]
  · rw [if_neg h]
    rw [hR.has] at h
    refine c_X7_odds (by omega) ⟨⟨rfl, by rw [tl_n (by decide)]; exact hR.im⟩, ?_⟩
    rw [tl_n (by decide), if_neg h]
    exact ⟨rfl, hR.tell (by decide)⟩
