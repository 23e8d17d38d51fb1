/-! bits of small sets -/
theorem fa_and (a b : Nat) : nI a &&& nI b = nI (a &&& b) := by
  apply Int32.toBitVec_inj.1
  show BitVec.ofNat 32 a &&& BitVec.ofNat 32 b = BitVec.ofNat 32 (a &&& b)
  apply BitVec.eq_of_getLsbD_eq
  intro i hi
  simp [hi]
theorem fa_or (a b : Nat) : nI a ||| nI b = nI (a ||| b) := by
  apply Int32.toBitVec_inj.1
  show BitVec.ofNat 32 a ||| BitVec.ofNat 32 b = BitVec.ofNat 32 (a ||| b)
  apply BitVec.eq_of_getLsbD_eq
  intro i hi
  simp [hi]
theorem sh1 : ∀ i, i < 31 → (1 : Int32) <<< (nI i &&& 31) = nI (2 ^ i) := by decide +kernel
theorem isin0 {n i : Nat} (hn : n < 2 ^ 31) (hi : i < 31) : ((nI n >>> (nI i &&& 31)) &&& 1 = 0) = (n.testBit i = false) := by
  have hs : ∀ i, i < 32 → ((nI i &&& 31).toBitVec.smod 32).toNat = i := by decide +kernel
  rw [pk_shrN hn _ i (hs i (by omega))]
  have h1 : nI (n / 2 ^ i) &&& 1 = nI ((n / 2 ^ i) % 2) := pk_andN (Nat.lt_of_le_of_lt (Nat.div_le_self _ _) (by omega)) (m := 1) 1 (by decide)
  rw [h1]
  have h2 : n.testBit i = decide ((n / 2 ^ i) % 2 = 1) := Nat.testBit_eq_decide_div_mod_eq
  rw [h2]
  rcases Nat.mod_two_eq_zero_or_one (n / 2 ^ i) with e | e
  · rw [e]; exact propext ⟨fun _ => by decide, fun _ => by decide⟩
  · rw [e]; exact propext ⟨fun z => absurd z (by decide), fun z => absurd z (by decide)⟩
/-- a set of bits as a number -/
def stN (c : Nat → Prop) [DecidablePred c] : Nat → Nat → Nat → Nat
  | 0, _, s => s
  | n + 1, i, s => stN c n (i + 1) (if c i then s ||| 2 ^ i else s)
theorem stF_N {c : Nat → Prop} [DecidablePred c] : ∀ (n i s : Nat), i + n ≤ 31 → stF c n i (nI s) = nI (stN c n i s) := by
  intro n
  induction n with
  | zero => intro i s _; rfl
  | succ n ih =>
    intro i s hi
    rw [stF, stN]
    by_cases hc : c i
    · rw [if_pos hc, if_pos hc, sh1 i (by omega), fa_or]
      exact ih (i + 1) _ (by omega)
    · rw [if_neg hc, if_neg hc]
      exact ih (i + 1) _ (by omega)
theorem stN_lt {c : Nat → Prop} [DecidablePred c] : ∀ (n i s : Nat), s < 2 ^ i → stN c n i s < 2 ^ (i + n) := by
  intro n
  induction n with
  | zero => intro i s h; exact h
  | succ n ih =>
    intro i s h
    rw [stN, show i + (n + 1) = i + 1 + n by omega]
    apply ih
    split
    · exact Nat.or_lt_two_pow (Nat.lt_of_lt_of_le h (Nat.pow_le_pow_right (by decide) (by omega))) (Nat.pow_lt_pow_right (by decide) (by omega))
    · exact Nat.lt_of_lt_of_le h (Nat.pow_le_pow_right (by decide) (by omega))
theorem stN_bit {c : Nat → Prop} [DecidablePred c] : ∀ (n i s j : Nat), s < 2 ^ i → (stN c n i s).testBit j = if i ≤ j ∧ j < i + n then decide (c j) else s.testBit j := by
  intro n
  induction n with
  | zero =>
    intro i s j h
    rw [stN, if_neg (by omega)]
  | succ n ih =>
    intro i s j h
    rw [stN]
    have h2 : (if c i then s ||| 2 ^ i else s) < 2 ^ (i + 1) := by
      split
      · exact Nat.or_lt_two_pow (Nat.lt_of_lt_of_le h (Nat.pow_le_pow_right (by decide) (by omega))) (Nat.pow_lt_pow_right (by decide) (by omega))
      · exact Nat.lt_of_lt_of_le h (Nat.pow_le_pow_right (by decide) (by omega))
    rw [ih (i + 1) _ j h2]
    by_cases h3 : i + 1 ≤ j ∧ j < i + 1 + n
    · rw [if_pos h3, if_pos (by omega)]
    · rw [if_neg h3]
      by_cases e : j = i
      · subst e
        rw [if_pos (show j ≤ j ∧ j < j + (n + 1) by omega)]
        have hs : s.testBit j = false := Nat.testBit_lt_two_pow h
        by_cases hc : c j
        · rw [if_pos hc, Nat.testBit_or, hs, Nat.testBit_two_pow_self]
          simp [hc]
        · rw [if_neg hc, hs]
          simp [hc]
      · rw [if_neg (show ¬ (i ≤ j ∧ j < i + (n + 1)) by omega)]
        split
        · rw [Nat.testBit_or, Nat.testBit_two_pow_of_ne (by omega), Bool.or_false]
        · rfl
/-- how many bits of the first twelve -/
def popc (n : Nat) : Nat := ((List.range 12).filter (fun i => n.testBit i)).length
theorem bc_popc : ∀ n, n < 4096 → bcF (nI n) = nI (popc n) := by
  have h : (List.range 4096).all (fun n => decide (bcF (nI n) = nI (popc n))) = true := by decide +kernel
  intro n hn
  exact of_decide_eq_true (List.all_eq_true.mp h n (List.mem_range.mpr hn))
theorem popc_le (n : Nat) : popc n ≤ 12 := Nat.le_trans (List.length_filter_le _ _) (by simp)
theorem unf_st {g bs : Int32} {r : Nat → Int32} : ∀ (n i : Nat) (s : Int32), unfF g bs r n i s = stF (fun j => ¬ abI (g - r j) ≤ bs) n i s := by
  intro n
  induction n with
  | zero => intro i s; rfl
  | succ n ih =>
    intro i s
    rw [unfF, stF, ih]
    by_cases h : abI (g - r i) ≤ bs
    · rw [if_pos h, if_neg (fun z => z h)]
    · rw [if_neg h, if_pos h]
