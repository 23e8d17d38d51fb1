/-! BOTH: the tape, sheets -/
theorem by_eq (x : Int32) : ∀ m, m < 4 → byX x (nI m) = byM x (nI m) := by
  have hy : x.toBitVec.toNat < 2 ^ 32 := x.toBitVec.isLt
  have hi : x.toInt = if 2 * x.toBitVec.toNat < 2 ^ 32 then (x.toBitVec.toNat : Int) else (x.toBitVec.toNat : Int) - ((2 ^ 32 : Nat) : Int) := BitVec.toInt_eq_toNat_cond x.toBitVec
  have key : ∀ (s : Int32) (k : Nat), (k = 0 ∨ k = 8 ∨ k = 16 ∨ k = 24) → ((s.toUInt32 &&& Int32.toUInt32 31).toBitVec % 32).toNat = k → ((s &&& 31).toBitVec.smod 32).toNat = k → us x s &&& 255 = (x >>> (s &&& 31)) &&& 255 := by
    intro s k hk h1 h2
    rw [pk_and _ 8 (by decide), pk_and _ 8 (by decide)]
    congr 1
    have a := pk_ushr x s k h1
    have b := pk_shr x (s &&& 31) k h2
    have hz : (x >>> (s &&& 31)).toInt = if 2 * (x >>> (s &&& 31)).toBitVec.toNat < 2 ^ 32 then ((x >>> (s &&& 31)).toBitVec.toNat : Int) else ((x >>> (s &&& 31)).toBitVec.toNat : Int) - ((2 ^ 32 : Nat) : Int) := BitVec.toInt_eq_toNat_cond _
    have hz2 : (x >>> (s &&& 31)).toBitVec.toNat < 2 ^ 32 := (x >>> (s &&& 31)).toBitVec.isLt
    show (us x s).toBitVec.toNat % 2 ^ 8 = (x >>> (s &&& 31)).toBitVec.toNat % 2 ^ 8
    unfold us
    rw [a]
    rw [b, Int.shiftRight_eq_div_pow] at hz
    generalize (x >>> (s &&& 31)).toBitVec.toNat = z at hz hz2 ⊢
    generalize x.toBitVec.toNat = y at hi hy ⊢
    rw [hi] at hz
    rcases hk with rfl | rfl | rfl | rfl
    · split at hz <;> split at hz <;> omega
    · split at hz <;> split at hz <;> omega
    · split at hz <;> split at hz <;> omega
    · split at hz <;> split at hz <;> omega
  intro m hm
  have : m = 0 ∨ m = 1 ∨ m = 2 ∨ m = 3 := by omega
  rcases this with rfl | rfl | rfl | rfl
  · exact key (8 * nI 0) 0 (by decide) (by decide) (by decide)
  · exact key (8 * nI 1) 8 (by decide) (by decide) (by decide)
  · exact key (8 * nI 2) 16 (by decide) (by decide) (by decide)
  · exact key (8 * nI 3) 24 (by decide) (by decide) (by decide)
theorem by_p (x m : Int32) : ¬ byM x m < 0 := by
  unfold byM
  obtain ⟨j, hj, e⟩ := pk_andE (x >>> (8 * m &&& 31)) (m := 255) 8 (by decide)
  rw [e]
  exact nI_pos (by omega)
theorem fdS_v {x : Int32} : ∀ (m t : Nat) (M : Mem), M 44 1 = nI t → t + m ≤ 120 → (∀ p, p ≠ 44 → p ≠ 45 → fdS x m M p = M p) ∧ fdS x m M 44 1 = nI (t + m) ∧ ∀ j, fdS x m M 45 j = if t ≤ j ∧ j < t + m then byX x (nI (t + m - 1 - j)) else M 45 j := by
  intro m
  induction m with
  | zero =>
    intro t M h _
    exact ⟨fun p _ _ => rfl, h, fun j => by rw [if_neg (by omega)]; rfl⟩
  | succ m ih =>
    intro t M h hl
    have ct : (nI t).toNatClampNeg = t := nI_clamp (by omega)
    obtain ⟨k1, k2, k3⟩ := ih (t + 1) (putM M (byX x (nI m))) (by rw [put_44, h, nI_1]) (by omega)
    rw [fdS]
    refine ⟨fun p a b => ?_, by rw [k2, show t + 1 + m = t + (m + 1) by omega], fun j => ?_⟩
    · rw [k1 p a b]
      unfold putM
      rw [mset_n (bq a), mset_n (bq b)]
    · rw [k3 j]
      have e45 : putM M (byX x (nI m)) 45 = upd (M 45) t (byX x (nI m)) := by
        unfold putM
        rw [mset_n (by decide), mset_s, h, ct]
      rw [e45]
      by_cases z : j = t
      · subst z
        rw [if_neg (by omega), if_pos (by omega), upd_s, show j + (m + 1) - 1 - j = m by omega]
      · rw [un z]
        by_cases y : t ≤ j ∧ j < t + (m + 1)
        · rw [if_pos y, if_pos (by omega), show t + 1 + m - 1 - j = t + (m + 1) - 1 - j by omega]
        · rw [if_neg y, if_neg (by omega)]
theorem fdT_v {x : Int32} : ∀ (m t : Nat) (M : Mem), M 59 12 = nI t → t + m ≤ 120 → (∀ p, p ≠ 59 → p ≠ 67 → fdT x m M p = M p) ∧ fdT x m M 59 12 = nI (t + m) ∧ fdT x m M 59 3 = M 59 3 ∧ ∀ j, fdT x m M 67 j = if t ≤ j ∧ j < t + m then byM x (nI (t + m - 1 - j)) else M 67 j := by
  intro m
  induction m with
  | zero =>
    intro t M h _
    exact ⟨fun p _ _ => rfl, h, rfl, fun j => by rw [if_neg (by omega)]; rfl⟩
  | succ m ih =>
    intro t M h hl
    have ct : (nI t).toNatClampNeg = t := nI_clamp (by omega)
    obtain ⟨k1, k2, k4, k3⟩ := ih (t + 1) (tpP M (byM x (nI m))) (by rw [tpP_12, h, nI_1]) (by omega)
    rw [fdT]
    refine ⟨fun p a b => ?_, by rw [k2, show t + 1 + m = t + (m + 1) by omega], ?_, fun j => ?_⟩
    · rw [k1 p a b]
      unfold tpP
      rw [mset_n (bq a), mset_n (bq b)]
    · rw [k4]
      unfold tpP
      rw [mset_s, upd_n (by decide), mset_n (by decide)]
    · rw [k3 j]
      have e45 : tpP M (byM x (nI m)) 67 = upd (M 67) t (byM x (nI m)) := by
        unfold tpP
        rw [mset_n (by decide), mset_s, h, ct]
      rw [e45]
      by_cases z : j = t
      · subst z
        rw [if_neg (by omega), if_pos (by omega), upd_s, show j + (m + 1) - 1 - j = m by omega]
      · rw [un z]
        by_cases y : t ≤ j ∧ j < t + (m + 1)
        · rw [if_pos y, if_pos (by omega), show t + 1 + m - 1 - j = t + (m + 1) - 1 - j by omega]
        · rw [if_neg y, if_neg (by omega)]
theorem RM.tp {M N : Mem} (h : RM M) (a : ∀ p, p ≠ 44 → p ≠ 45 → p ≠ 59 → p ≠ 67 → N p = M p) (a3 : N 59 3 = M 59 3) (ht : RT N) : RM N := by
  obtain ⟨h1, h2, ⟨k1, k2, k3⟩, ⟨f1, f2⟩, ⟨s1, s2⟩, _⟩ := h
  have a' : ∀ p, p < 44 ∨ (45 < p ∧ p ≠ 59 ∧ p ≠ 67) → N p = M p := fun p hp => a p (by omega) (by omega) (by omega) (by omega)
  have e60 := a' 60 (by omega)
  refine ⟨by rw [e60]; exact h1.ag (fun j hj => a' _ (by omega)), by rw [e60]; exact h2, ⟨by rw [a' 0 (by omega), a3]; exact k1, by rw [a' 0 (by omega)]; exact k2, fun z => ?_⟩, ⟨by rw [a' 58 (by omega), a' 63 (by omega)]; exact f1, by rw [a' 58 (by omega), a' 63 (by omega)]; exact f2⟩, ⟨fun s hs => ?_, ?_⟩, ht⟩
  · rw [a' 0 (by omega)] at z
    rw [a' 61 (by omega)]
    exact ⟨(k3 z).1.ag (fun j hj => a' _ (by omega)), (k3 z).2⟩
  · rw [a' 56 (by omega), a' 57 (by omega), a' 70 (by omega), a' 71 (by omega), a' 72 (by omega), a' (52 + s) (by omega)]
    exact s1 s hs
  · unfold ZV
    rw [a' 57 (by omega)]
    exact s2
theorem cmd_feed {M : Mem} (hR : RM M) {x n : Int32} : CallP 20 88 [.ref 0, .int x, .int n] M (fun x' N => CallP 20 200 [.ref 59, .int x, .int n] N (fun y K => y = x' ∧ RM K)) := by
  obtain ⟨y1, y2, N, hN, eN⟩ := hR.2.2.2.2.2
  refine c_X6_feed (by omega) ⟨⟨rfl, N, hN, by rw [y2]; exact eN⟩, ?_⟩
  have hc : (¬ n < 1 ∧ n ≤ 4) = (¬ n < 1 ∧ ¬ 4 < n) := propext ⟨fun z => ⟨z.1, Int32.not_lt.mpr z.2⟩, fun z => ⟨z.1, Int32.not_lt.mp z.2⟩⟩
  by_cases h : ¬ n < 1 ∧ n ≤ 4
  · rw [if_pos h]
    rw [hc] at h
    by_cases h2 : M 44 1 + n ≤ 120
    · rw [if_pos h2]
      obtain ⟨m, hm, rfl⟩ := nI_of2 (M := 4) (n := 4) rfl (fun z => h.1 (by
        rw [Int32.lt_iff_toInt_lt] at z ⊢
        simp only [Int32.reduceToInt] at z ⊢
        omega)) (Int32.not_lt.mp h.2)
      have cm : (nI m).toNatClampNeg = m := nI_clamp (by omega)
      rw [cm]
      have hl : N + m ≤ 120 := by
        rw [y2, eN, nI_add] at h2
        exact (nI_leI (b := 120) (by omega) (by decide)).mp h2
      obtain ⟨k1, k2, k3⟩ := fdS_v (x := x) m N M (by rw [y2]; exact eN) hl
      have e59 := k1 59 (by decide) (by decide)
      obtain ⟨l1, l2, l4, l3⟩ := fdT_v (x := x) m N (fdS x m M) (by rw [e59]; exact eN) hl
      refine c_X7_feed (by omega) ⟨⟨rfl, N, hN, by rw [e59]; exact eN⟩, ?_⟩
      rw [if_pos h, e59, if_pos (by rw [← y2]; exact h2), cm]
      refine ⟨by rw [l2, k2], hR.tp (fun p a b c d => by rw [l1 p c d, k1 p a b]) (by rw [l4, e59]) ⟨fun i hi => ?_, ?_, ⟨N + m, hl, l2⟩⟩⟩
      · rw [l1 45 (by decide) (by decide), k3 i, l3 i, k1 67 (by decide) (by decide)]
        by_cases z : N ≤ i ∧ i < N + m
        · rw [if_pos z, if_pos z]
          exact ⟨by_eq x _ (by omega), by_p _ _⟩
        · rw [if_neg z, if_neg z]
          exact y1 i hi
      · rw [l1 44 (by decide) (by decide), k2, l2]
    · rw [if_neg h2]
      refine c_X7_feed (by omega) ⟨⟨rfl, N, hN, by rw [tl_n (by decide)]; exact eN⟩, ?_⟩
      rw [if_pos h, tl_n (by decide), if_neg (by rw [← y2]; exact h2)]
      exact ⟨rfl, hR.tell (by decide)⟩
  · rw [if_neg h]
    rw [hc] at h
    refine c_X7_feed (by omega) ⟨⟨rfl, N, hN, by rw [tl_n (by decide)]; exact eN⟩, ?_⟩
    rw [if_neg h]
    exact ⟨rfl, hR.tell (by decide)⟩
/-- sheets change in both -/
theorem RM.sh {M N : Mem} (h : RM M) (a : ∀ p, p < 52 ∨ (57 < p ∧ p < 70) → N p = M p) (hs : RS N) : RM N := by
  obtain ⟨h1, h2, ⟨k1, k2, k3⟩, ⟨f1, f2⟩, _, ⟨y1, y2, y3⟩⟩ := h
  have e60 := a 60 (by omega)
  refine ⟨by rw [e60]; exact h1.ag (fun j hj => a _ (by omega)), by rw [e60]; exact h2, ⟨by rw [a 0 (by omega), a 59 (by omega)]; exact k1, by rw [a 0 (by omega)]; exact k2, fun z => ?_⟩, ⟨by rw [a 58 (by omega), a 63 (by omega)]; exact f1, by rw [a 58 (by omega), a 63 (by omega)]; exact f2⟩, hs, ⟨by rw [a 45 (by omega), a 67 (by omega)]; exact y1, by rw [a 44 (by omega), a 59 (by omega)]; exact y2, by rw [a 59 (by omega)]; exact y3⟩⟩
  rw [a 0 (by omega)] at z
  rw [a 61 (by omega)]
  exact ⟨(k3 z).1.ag (fun j hj => a _ (by omega)), (k3 z).2⟩
theorem cmd_sheet {M : Mem} (hR : RM M) {s b n : Int32} : CallP 20 93 [.ref 0, .int s, .int b, .int n] M (fun x N => CallP 20 218 [.ref 59, .int s, .int b, .int n] N (fun y K => y = x ∧ RM K)) := by
  refine c_X6_sheet (by omega) ⟨rfl, ?_⟩
  obtain ⟨s1, s2⟩ := hR.2.2.2.2.1
  by_cases h : shOK s ∧ okB b
  · rw [if_pos h]
    by_cases h2 : n < 0
    · rw [if_pos h2]
      refine c_X7_sheet (by omega) ⟨rfl, ?_⟩
      rw [if_pos h, if_pos h2]
      exact ⟨rfl, hR.tell (by decide)⟩
    · rw [if_neg h2]
      by_cases h3 : 40 < n
      · rw [if_pos h3]
        refine c_X7_sheet (by omega) ⟨rfl, ?_⟩
        rw [if_pos h, if_neg h2, if_pos h3]
        exact ⟨rfl, hR.tell (by decide)⟩
      · rw [if_neg h3]
        obtain ⟨t, ht, rfl⟩ := s4_n h.1
        have ct : (nI t).toNatClampNeg = t := nI_clamp (by omega)
        have hv : ∃ m, m ≤ 40 ∧ (if b = 0 then 0 else n) = nI m := by
          by_cases z : b = 0
          · rw [if_pos z]
            exact ⟨0, by decide, rfl⟩
          · rw [if_neg z]
            exact nI_of2 (M := 40) (n := 40) rfl h2 (Int32.not_lt.mp h3)
        refine c_X7_sheet (by omega) ⟨rfl, ?_⟩
        rw [if_pos h, if_neg h2, if_neg h3]
        refine ⟨rfl, ?_⟩
        generalize (if b = 0 then 0 else n) = v at hv
        obtain ⟨m, hm, em⟩ := hv
        unfold shM rnM
        rw [ct]
        generalize hA : mrow (mset (mset M 56 t b) 57 t v) (52 + t) (cpN 40 (fun _ => 0) (M (52 + t))) = A
        have a1 : ∀ p, p ≠ 56 → p ≠ 57 → p ≠ 52 + t → A p = M p := fun p x y z => by
          rw [← hA, mrow_n (bq z), mset_n (bq y), mset_n (bq x)]
        have a56 : A 56 = upd (M 56) t b := by rw [← hA, mrow_n (bq (by omega)), mset_n (by decide), mset_s]
        have a57 : A 57 = upd (M 57) t v := by rw [← hA, mrow_n (bq (by omega)), mset_s, mset_n (by decide)]
        have aR : A (52 + t) = cpN 40 (fun _ => 0) (M (52 + t)) := by rw [← hA, mrow_s]
        generalize hB : mrow (mset (mset A 70 t b) 71 t v) 72 (zrF (40 * t) 40 (A 72)) = B
        have b1 : ∀ p, p ≠ 70 → p ≠ 71 → p ≠ 72 → B p = A p := fun p x y z => by
          rw [← hB, mrow_n (bq z), mset_n (bq y), mset_n (bq x)]
        have b70 : B 70 = upd (M 70) t b := by rw [← hB, mrow_n (by decide), mset_n (by decide), mset_s, a1 70 (by decide) (by decide) (by omega)]
        have b71 : B 71 = upd (M 71) t v := by rw [← hB, mrow_n (by decide), mset_s, mset_n (by decide), a1 71 (by decide) (by decide) (by omega)]
        have b72 : B 72 = zrF (40 * t) 40 (M 72) := by rw [← hB, mrow_s, a1 72 (by decide) (by decide) (by omega)]
        refine hR.sh (fun p hp => by rw [b1 p (by omega) (by omega) (by omega), a1 p (by omega) (by omega) (by omega)]) ⟨fun s hs => ?_, fun s hs => ?_⟩
        · rw [b1 56 (by decide) (by decide) (by decide), a56, b1 57 (by decide) (by decide) (by decide), a57, b70, b71, b72, b1 (52 + s) (by omega) (by omega) (by omega)]
          by_cases z : s = t
          · subst z
            rw [upd_s, upd_s, upd_s, upd_s, aR]
            refine ⟨rfl, rfl, fun j hj => ?_⟩
            rw [cpN_lt hj]
            unfold zrF
            rw [if_pos (by omega)]
          · rw [un z, un z, un z, un z, a1 (52 + s) (by omega) (by omega) (by omega)]
            obtain ⟨q1, q2, q3⟩ := s1 s hs
            refine ⟨q1, q2, fun j hj => ?_⟩
            unfold zrF
            rw [if_neg (by omega)]
            exact q3 j hj
        · rw [b1 57 (by decide) (by decide) (by decide), a57]
          by_cases z : s = t
          · rw [z, upd_s]
            exact ⟨m, hm, em⟩
          · rw [un z]
            exact s2 s hs
  · rw [if_neg h]
    refine c_X7_sheet (by omega) ⟨rfl, ?_⟩
    rw [if_neg h]
    exact ⟨rfl, hR.tell (by decide)⟩
theorem RM.fd {M : Mem} (h : RM M) {s : Int32} : fdF M s = fdG M s := by
  unfold fdF fdG
  by_cases z : shOK s
  · obtain ⟨t, ht, rfl⟩ := s4_n z
    have ct : (nI t).toNatClampNeg = t := nI_clamp (by omega)
    rw [if_pos z, if_pos z, ct, (h.2.2.2.2.1.1 t ht).1]
  · rw [if_neg z, if_neg z]
theorem fd_c {M : Mem} {s : Int32} (h : ¬ fdG M s = 0) : (-1000001 - fdG M s).toNatClampNeg < 7 := by
  unfold fdG at h ⊢
  split
  · rename_i z
    rw [if_pos z] at h
    split
    · decide
    · rename_i y
      rw [if_neg y] at h
      exact absurd rfl h
  · decide
theorem fdG_t {M : Mem} {c : Nat} {s : Int32} : fdG (tellM M c) s = fdG M s := by
  unfold fdG
  rw [tl_n (by decide)]
theorem ZM_t {M : Mem} {c : Nat} (h : ZM M) : ZM (tellM M c) := by
  unfold ZM
  rw [tl_n (by decide)]
  exact h
theorem cmd_write {M : Mem} (hR : RM M) {s i v : Int32} : CallP 20 94 [.ref 0, .int s, .int i, .int v] M (fun x N => CallP 20 219 [.ref 59, .int s, .int i, .int v] N (fun y K => y = x ∧ RM K)) := by
  refine c_X6_write (by omega) ⟨⟨rfl, hR.zv⟩, ?_⟩
  obtain ⟨s1, s2⟩ := hR.2.2.2.2.1
  by_cases h0 : ¬ fdF M s = 0
  · rw [if_pos h0]
    rw [hR.fd] at h0 ⊢
    refine c_X7_write (by omega) ⟨⟨rfl, ZM_t hR.zm⟩, ?_⟩
    rw [fdG_t, if_pos h0]
    exact ⟨rfl, hR.tell (fd_c h0)⟩
  · rw [if_neg h0]
    rw [hR.fd, Classical.not_not] at h0
    obtain ⟨hs, hb⟩ := fg0 h0
    obtain ⟨t, ht, rfl⟩ := s4_n hs
    have ct : (nI t).toNatClampNeg = t := nI_clamp (by omega)
    obtain ⟨q1, q2, q3⟩ := s1 t ht
    rw [ct]
    by_cases h1 : ¬ i < 0 ∧ ¬ M 57 t ≤ i
    · rw [if_pos h1]
      obtain ⟨j, hj, rfl⟩ := nI_of h1.1
      have cj : (nI j).toNatClampNeg = j := nI_clamp hj
      obtain ⟨m, hm, em⟩ := s2 t ht
      have hjm : j < 40 := by
        have := h1.2
        rw [em, nI_leI (by omega) hj] at this
        omega
      rw [cj]
      generalize hA : mset M (52 + t) j (cutF (M 56 t) v) = A
      have a1 : ∀ p, p ≠ 52 + t → A p = M p := fun p z => by rw [← hA, mset_n (bq z)]
      have aR : A (52 + t) = upd (M (52 + t)) j (cutF (M 56 t) v) := by rw [← hA, mset_s]
      have a70 := a1 70 (by omega)
      have a71 := a1 71 (by omega)
      have a72 := a1 72 (by omega)
      refine c_X7_write (by omega) ⟨⟨rfl, by unfold ZM; rw [a71]; exact hR.zm⟩, ?_⟩
      have ef : fdG A (nI t) = 0 := by
        unfold fdG at h0 ⊢
        rw [a70]
        exact h0
      rw [if_neg (fun z => z ef), ct, cj, a71, a70, if_pos ⟨h1.1, by rw [← q2]; exact h1.2⟩]
      refine ⟨rfl, ?_⟩
      have e : ∀ p, p ≠ 72 → mset A 72 (40 * t + j) (cutF (M 70 t) v) p = A p := fun p z => mset_n (bq z)
      refine hR.sh (fun p hp => by rw [e p (by omega), a1 p (by omega)]) ⟨fun s hs => ?_, ?_⟩
      · rw [e 56 (by decide), e 57 (by decide), e 70 (by decide), e 71 (by decide), e (52 + s) (by omega), a1 56 (by omega), a1 57 (by omega), a70, a71, mset_s, a72]
        obtain ⟨w1, w2, w3⟩ := s1 s hs
        refine ⟨w1, w2, fun k hk => ?_⟩
        by_cases z : s = t
        · subst z
          rw [aR]
          by_cases y : k = j
          · rw [y, upd_s, upd_s, w1]
          · rw [un y, un (by omega)]
            exact w3 k hk
        · rw [a1 (52 + s) (by omega), un (by omega)]
          exact w3 k hk
      · unfold ZV
        rw [e 57 (by decide), a1 57 (by omega)]
        exact s2
    · rw [if_neg h1]
      refine c_X7_write (by omega) ⟨⟨rfl, ZM_t hR.zm⟩, ?_⟩
      rw [fdG_t, if_neg (fun z => z h0), ct, tl_n (by decide), if_neg (by rw [← q2]; exact h1)]
      exact ⟨rfl, hR.tell (by decide)⟩
theorem cmd_copy {M : Mem} (hR : RM M) {s f t g n : Int32} : CallP 20 95 [.ref 0, .int s, .int f, .int t, .int g, .int n] M (fun x N => CallP 20 220 [.ref 59, .int s, .int f, .int t, .int g, .int n] N (fun y K => y = x ∧ RM K)) := by
  refine c_X6_copy (by omega) ⟨⟨rfl, hR.zv⟩, ?_⟩
  obtain ⟨s1, s2⟩ := hR.2.2.2.2.1
  have t70 : ∀ c, tellM M c 70 = M 70 := fun c => tl_n (by decide)
  have t71 : ∀ c, tellM M c 71 = M 71 := fun c => tl_n (by decide)
  by_cases h : shOK s ∧ shOK t
  · rw [if_pos h]
    obtain ⟨a, ha, rfl⟩ := s4_n h.1
    obtain ⟨b, hb, rfl⟩ := s4_n h.2
    have ca : (nI a).toNatClampNeg = a := nI_clamp (by omega)
    have cb : (nI b).toNatClampNeg = b := nI_clamp (by omega)
    obtain ⟨p1, p2, p3⟩ := s1 a ha
    obtain ⟨q1, q2, q3⟩ := s1 b hb
    rw [ca, cb, p1, q1, p2, q2]
    by_cases h2 : M 70 a = 0 ∨ M 70 b = 0
    · rw [if_pos h2]
      refine c_X7_copy (by omega) ⟨⟨rfl, ZM_t hR.zm⟩, ?_⟩
      rw [if_pos h, ca, cb, t70, if_pos h2]
      exact ⟨rfl, hR.tell (by decide)⟩
    · rw [if_neg h2]
      by_cases h3 : M 70 a = M 70 b
      · rw [if_pos h3]
        by_cases h4 : (¬ f < 0 ∧ ¬ n < 0 ∧ ¬ M 71 a < n ∧ ¬ M 71 a - n < f) ∧ (¬ g < 0 ∧ ¬ n < 0 ∧ ¬ M 71 b < n ∧ ¬ M 71 b - n < g)
        · rw [if_pos h4]
          obtain ⟨f', hf, ef⟩ := nI_of h4.1.1
          obtain ⟨n', hn, en⟩ := nI_of h4.1.2.1
          obtain ⟨g', hg, eg⟩ := nI_of h4.2.1
          obtain ⟨m1, hm1, em1⟩ := s2 a ha
          obtain ⟨m2, hm2, em2⟩ := s2 b hb
          rw [p2] at em1
          rw [q2] at em2
          have b1 : n' ≤ m1 := by
            have := h4.1.2.2.1
            rw [em1, en, nI_ltI (by omega) hn] at this
            omega
          have b2 : n' ≤ m2 := by
            have := h4.2.2.2.1
            rw [em2, en, nI_ltI (by omega) hn] at this
            omega
          have b3 : f' + n' ≤ m1 := by
            have := h4.1.2.2.2
            rw [em1, en, ef, pk_sub b1, nI_ltI (by omega) hf] at this
            omega
          have b4 : g' + n' ≤ m2 := by
            have := h4.2.2.2.2
            rw [em2, en, eg, pk_sub b2, nI_ltI (by omega) hg] at this
            omega
          have cf : f.toNatClampNeg = f' := by rw [ef]; exact nI_clamp hf
          have cg : g.toNatClampNeg = g' := by rw [eg]; exact nI_clamp hg
          have cn : n.toNatClampNeg = n' := by rw [en]; exact nI_clamp hn
          rw [cf, cg, cn]
          generalize hA : mrow M (52 + b) (va_cpy (M (52 + a)) (M (52 + b)) f' g' n') = A
          have a1 : ∀ p, p ≠ 52 + b → A p = M p := fun p z => by rw [← hA, mrow_n (bq z)]
          have aR : A (52 + b) = va_cpy (M (52 + a)) (M (52 + b)) f' g' n' := by rw [← hA, mrow_s]
          have a70 := a1 70 (by omega)
          have a71 := a1 71 (by omega)
          have a72 := a1 72 (by omega)
          refine c_X7_copy (by omega) ⟨⟨rfl, by unfold ZM; rw [a71]; exact hR.zm⟩, ?_⟩
          rw [if_pos h, ca, cb, a70, a71, if_neg h2, if_pos h3, if_pos h4, cf, cg, cn, a72]
          intro z
          refine ⟨rfl, ?_⟩
          have e : ∀ p, p ≠ 72 → p ≠ 73 → mrow (mrow A 73 z) 72 (va_cpy (M 72) (M 72) (40 * a + f') (40 * b + g') n') p = A p := fun p y w => by rw [mrow_n (bq y), mrow_n (bq w)]
          refine hR.sh (fun p hp => by rw [e p (by omega) (by omega), a1 p (by omega)]) ⟨fun s hs => ?_, ?_⟩
          · rw [e 56 (by decide) (by decide), e 57 (by decide) (by decide), e 70 (by decide) (by decide), e 71 (by decide) (by decide), e (52 + s) (by omega) (by omega), a1 56 (by omega), a1 57 (by omega), a70, a71, mrow_s]
            obtain ⟨w1, w2, w3⟩ := s1 s hs
            refine ⟨w1, w2, fun k hk => ?_⟩
            by_cases y : s = b
            · subst y
              rw [aR]
              unfold va_cpy
              by_cases x : g' ≤ k ∧ k < g' + n'
              · rw [if_pos x, if_pos (by omega), p3 _ (by omega)]
                congr 1
                omega
              · rw [if_neg x, if_neg (by omega)]
                exact w3 k hk
            · rw [a1 (52 + s) (by omega)]
              unfold va_cpy
              rw [if_neg (by omega)]
              exact w3 k hk
          · unfold ZV
            rw [e 57 (by decide) (by decide), a1 57 (by omega)]
            exact s2
        · rw [if_neg h4]
          refine c_X7_copy (by omega) ⟨⟨rfl, ZM_t hR.zm⟩, ?_⟩
          rw [if_pos h, ca, cb, t70, t71, if_neg h2, if_pos h3, if_neg h4]
          exact ⟨rfl, hR.tell (by decide)⟩
      · rw [if_neg h3]
        refine c_X7_copy (by omega) ⟨⟨rfl, ZM_t hR.zm⟩, ?_⟩
        rw [if_pos h, ca, cb, t70, if_neg h2, if_neg h3]
        exact ⟨rfl, hR.tell (by decide)⟩
  · rw [if_neg h]
    refine c_X7_copy (by omega) ⟨⟨rfl, ZM_t hR.zm⟩, ?_⟩
    rw [if_neg h]
    exact ⟨rfl, hR.tell (by decide)⟩
