/-! BOTH: most -/
def key (a : Nat) : Nat := popc a * 64 + (63 - a)
theorem gr_k {a b : Nat} (ha : a < 64) (hb : b < 64) : grF a b = if key b < key a then a else b := by
  unfold grF
  have : (popc b < popc a ∨ (popc a = popc b ∧ a < b)) ↔ key b < key a := by
    unfold key
    omega
  by_cases h : key b < key a
  · rw [if_pos h, if_pos (this.mpr h)]
  · rw [if_neg h, if_neg (fun z => h (this.mp z))]
theorem key_all : ∀ q, q ≤ 6 → ∀ t, t < 2 ^ q → key t ≤ key (2 ^ q - 1) := by
  have k : (List.range 7).all (fun q => (List.range (2 ^ q)).all (fun t => decide (key t ≤ key (2 ^ q - 1)))) = true := by decide +kernel
  intro q hq t ht
  exact of_decide_eq_true (List.all_eq_true.mp (List.all_eq_true.mp k q (List.mem_range.mpr (by omega))) t (List.mem_range.mpr ht))
theorem bits3 {w : Nat} (hw : w < 6) {c : Nat} (hc : c < 64) {e : Nat} (he : e < 64) : (c.testBit w = false → (c ||| 2 ^ w) &&& e = 0 → c &&& (2 ^ w ||| e) = 0 ∧ (2 ^ w ||| e).testBit w = true ∧ clr (2 ^ w ||| e) w = e) ∧ (c &&& e = 0 → e.testBit w = true → c.testBit w = false ∧ (c ||| 2 ^ w) &&& clr e w = 0 ∧ (c ||| 2 ^ w) ||| clr e w = c ||| e) := by
  have k : (List.range 6).all (fun w => (List.range 64).all (fun c => (List.range 64).all (fun e => (c.testBit w || !((c ||| 2 ^ w) &&& e == 0) || ((c &&& (2 ^ w ||| e) == 0) && (2 ^ w ||| e).testBit w && (clr (2 ^ w ||| e) w == e))) && (!(c &&& e == 0) || !(e.testBit w) || (!(c.testBit w) && ((c ||| 2 ^ w) &&& clr e w == 0) && ((c ||| 2 ^ w) ||| clr e w == c ||| e)))))) = true := by decide +kernel
  have k2 := List.all_eq_true.mp (List.all_eq_true.mp (List.all_eq_true.mp k w (List.mem_range.mpr hw)) c (List.mem_range.mpr hc)) e (List.mem_range.mpr he)
  rw [Bool.and_eq_true] at k2
  obtain ⟨k3, k4⟩ := k2
  refine ⟨fun a b => ?_, fun a b => ?_⟩
  · rw [a, b] at k3
    simpa [and_assoc] using k3
  · rw [a, b] at k4
    simpa [and_assoc] using k4
theorem fw_some {f : Nat → Option (List Nat)} : ∀ (n i : Nat), (fwF f n i).isSome = true ↔ ∃ w, i ≤ w ∧ w < i + n ∧ (f w).isSome = true := by
  intro n
  induction n with
  | zero =>
    intro i
    refine ⟨fun h => ?_, fun h => ?_⟩
    · cases h
    · obtain ⟨w, a, b, _⟩ := h
      omega
  | succ n ih =>
    intro i
    rw [fwF]
    cases h : f i with
    | some p => exact ⟨fun _ => ⟨i, Nat.le_refl _, by omega, by rw [h]; rfl⟩, fun _ => rfl⟩
    | none =>
      dsimp only
      rw [ih (i + 1)]
      refine ⟨fun ⟨w, a, b, c⟩ => ⟨w, by omega, by omega, c⟩, fun ⟨w, a, b, c⟩ => ⟨w, ?_, by omega, c⟩⟩
      rcases Nat.lt_or_ge i w with z | z
      · exact z
      · exfalso
        have : w = i := by omega
        subst this
        rw [h] at c
        cases c
theorem ff_some {X : XF} {n e : Nat} {r : Nat → Int32} : (ffF X (n + 1) e r).isSome = true ↔ e = 0 ∨ ∃ w, w < 6 ∧ e.testBit w = true ∧ ¬ (X w r).1 < 12 ∧ (ffF X n (clr e w) (X w r).2.2).isSome = true := by
  rw [ffF]
  by_cases h0 : e = 0
  · rw [if_pos h0]
    exact ⟨fun _ => Or.inl h0, fun _ => rfl⟩
  · rw [if_neg h0, fw_some]
    constructor
    · rintro ⟨w, _, b, c⟩
      by_cases hc : e.testBit w = true ∧ ¬ (X w r).1 < 12
      · rw [if_pos hc] at c
        exact Or.inr ⟨w, by omega, hc.1, hc.2, c⟩
      · rw [if_neg hc] at c
        cases c
    · rintro (z | ⟨w, a, b, c, d⟩)
      · exact absurd z h0
      · exact ⟨w, Nat.zero_le _, by omega, by rw [if_pos ⟨b, c⟩]; exact d⟩
/-- what the search for the greatest set finds -/
def GS (X : XF) (q n c s : Nat) (r : Nat → Int32) (g : Nat) : Prop := g < 2 ^ q ∧ key s ≤ key g ∧ (g = s ∨ ∃ e, e < 2 ^ q ∧ c &&& e = 0 ∧ popc e ≤ n ∧ (ffF X n e r).isSome = true ∧ g = c ||| e) ∧ ∀ e, e < 2 ^ q → c &&& e = 0 → popc e ≤ n → (ffF X n e r).isSome = true → key (c ||| e) ≤ key g
theorem gt_spec {X : XF} {q : Nat} (hq : q ≤ 6) : ∀ (n c s : Nat) (r : Nat → Int32), c < 2 ^ q → s < 2 ^ q → GS X q n c s r (gtF X q n c s r) := by
  have h64 : 2 ^ q ≤ 64 := Nat.pow_le_pow_right (n := 2) (by decide) hq
  intro n
  induction n with
  | zero =>
    intro c s r hc hs
    rw [gtF, gr_k (by omega) (by omega)]
    have z0 : ∀ e, e < 2 ^ q → popc e ≤ 0 → e = 0 := fun e he hp => pop_0 e (by omega) (by omega)
    by_cases h : key s < key c
    · rw [if_pos h]
      refine ⟨hc, by omega, Or.inr ⟨0, by omega, Nat.and_zero _, by rw [popc_0]; exact Nat.le_refl _, rfl, (Nat.or_zero _).symm⟩, fun e he _ hp _ => ?_⟩
      rw [z0 e he hp, Nat.or_zero]
      exact Nat.le_refl _
    · rw [if_neg h]
      refine ⟨hs, Nat.le_refl _, Or.inl rfl, fun e he _ hp _ => ?_⟩
      rw [z0 e he hp, Nat.or_zero]
      omega
  | succ n ih =>
    intro c s r hc hs
    rw [gtF]
    have lp : ∀ (m i g0 : Nat), i + m = q → g0 < 2 ^ q → glF (fun w g => if c.testBit w = false ∧ ¬ (X w r).1 < 12 then some (gtF X q n (c ||| 2 ^ w) g (X w r).2.2) else none) (2 ^ q - 1) m i g0 < 2 ^ q ∧ key g0 ≤ key (glF (fun w g => if c.testBit w = false ∧ ¬ (X w r).1 < 12 then some (gtF X q n (c ||| 2 ^ w) g (X w r).2.2) else none) (2 ^ q - 1) m i g0) ∧ (glF (fun w g => if c.testBit w = false ∧ ¬ (X w r).1 < 12 then some (gtF X q n (c ||| 2 ^ w) g (X w r).2.2) else none) (2 ^ q - 1) m i g0 = g0 ∨ ∃ e, e < 2 ^ q ∧ c &&& e = 0 ∧ popc e ≤ n + 1 ∧ (ffF X (n + 1) e r).isSome = true ∧ glF (fun w g => if c.testBit w = false ∧ ¬ (X w r).1 < 12 then some (gtF X q n (c ||| 2 ^ w) g (X w r).2.2) else none) (2 ^ q - 1) m i g0 = c ||| e) ∧ ∀ w, i ≤ w → w < q → c.testBit w = false → ¬ (X w r).1 < 12 → ∀ e, e < 2 ^ q → (c ||| 2 ^ w) &&& e = 0 → popc e ≤ n → (ffF X n e (X w r).2.2).isSome = true → key ((c ||| 2 ^ w) ||| e) ≤ key (glF (fun w g => if c.testBit w = false ∧ ¬ (X w r).1 < 12 then some (gtF X q n (c ||| 2 ^ w) g (X w r).2.2) else none) (2 ^ q - 1) m i g0) := by
      intro m
      induction m with
      | zero =>
        intro i g0 hi hg
        exact ⟨hg, Nat.le_refl _, Or.inl rfl, fun w a b => by omega⟩
      | succ m ihm =>
        intro i g0 hi hg
        rw [glF]
        by_cases hall : g0 = 2 ^ q - 1
        · rw [if_pos hall]
          refine ⟨hg, Nat.le_refl _, Or.inl rfl, fun w _ hw _ _ e he _ _ _ => ?_⟩
          rw [hall]
          refine key_all q hq _ (Nat.or_lt_two_pow (Nat.or_lt_two_pow hc (Nat.pow_lt_pow_right (by decide) hw)) he)
        · rw [if_neg hall]
          by_cases hcond : c.testBit i = false ∧ ¬ (X i r).1 < 12
          · rw [if_pos hcond]
            dsimp only
            have hci : c ||| 2 ^ i < 2 ^ q := Nat.or_lt_two_pow hc (Nat.pow_lt_pow_right (by decide) (by omega))
            obtain ⟨a1, a2, a3, a4⟩ := ih (c ||| 2 ^ i) g0 (X i r).2.2 hci hg
            obtain ⟨b1, b2, b3, b4⟩ := ihm (i + 1) (gtF X q n (c ||| 2 ^ i) g0 (X i r).2.2) (by omega) a1
            refine ⟨b1, Nat.le_trans a2 b2, ?_, fun w hw1 hw2 hw3 hw4 e he1 he2 he3 he4 => ?_⟩
            · rcases b3 with z | z
              · rw [z]
                rcases a3 with y | ⟨e, e1, e2, e3, e4, e5⟩
                · exact Or.inl y
                · right
                  obtain ⟨x1, x2, x3⟩ := (bits3 (show i < 6 by omega) (show c < 64 by omega) (show e < 64 by omega)).1 hcond.1 e2
                  have hD : 2 ^ i ||| e < 2 ^ q := Nat.or_lt_two_pow (Nat.pow_lt_pow_right (by decide) (by omega)) e1
                  have hpc := clr_pop (2 ^ i ||| e) (by omega) i (by omega) x2
                  rw [x3] at hpc
                  refine ⟨2 ^ i ||| e, hD, x1, by omega, ff_some.mpr (Or.inr ⟨i, by omega, x2, hcond.2, by rw [x3]; exact e4⟩), ?_⟩
                  rw [e5, Nat.or_assoc]
              · exact Or.inr z
            · rcases Nat.lt_or_ge i w with z | z
              · exact b4 w z hw2 hw3 hw4 e he1 he2 he3 he4
              · have : w = i := by omega
                subst this
                exact Nat.le_trans (a4 e he1 he2 he3 he4) b2
          · rw [if_neg hcond]
            dsimp only
            obtain ⟨b1, b2, b3, b4⟩ := ihm (i + 1) g0 (by omega) hg
            refine ⟨b1, b2, b3, fun w hw1 hw2 hw3 hw4 e he1 he2 he3 he4 => ?_⟩
            rcases Nat.lt_or_ge i w with z | z
            · exact b4 w z hw2 hw3 hw4 e he1 he2 he3 he4
            · have : w = i := by omega
              subst this
              exact absurd ⟨hw3, hw4⟩ hcond
    have hg : grF c s < 2 ^ q := gr_lt hc hs
    have hk : key s ≤ key (grF c s) ∧ key c ≤ key (grF c s) := by
      rw [gr_k (by omega) (by omega)]
      split <;> omega
    have hcs : grF c s = s ∨ grF c s = c := by
      unfold grF
      split
      · exact Or.inr rfl
      · exact Or.inl rfl
    obtain ⟨b1, b2, b3, b4⟩ := lp q 0 (grF c s) (by omega) hg
    refine ⟨b1, Nat.le_trans hk.1 b2, ?_, fun e he1 he2 he3 he4 => ?_⟩
    · rcases b3 with z | z
      · rcases hcs with y | y
        · exact Or.inl (z.trans y)
        · exact Or.inr ⟨0, by omega, Nat.and_zero _, by rw [popc_0]; exact Nat.zero_le _, ff_some.mpr (Or.inl rfl), by rw [Nat.or_zero]; exact z.trans y⟩
      · exact Or.inr z
    · rcases ff_some.mp he4 with z | ⟨w, w1, w2, w3, w4⟩
      · rw [z, Nat.or_zero]
        exact Nat.le_trans hk.2 b2
      · obtain ⟨x1, x2, x3⟩ := (bits3 w1 (show c < 64 by omega) (show e < 64 by omega)).2 he2 w2
        have hpc := clr_pop e (by omega) w w1 w2
        have hwq : w < q := bit_lt he1 w2
        have := b4 w (Nat.zero_le _) hwq x1 w3 (clr e w) (clr_bd he1) x2 (by omega) w4
        rw [x3] at this
        exact this
theorem ms_spec {c : Nat → Bool} {q : Nat} (hq : q ≤ 6) (h0 : c 0 = true) : ∀ (n i b : Nat), i + n = 2 ^ q → b ≤ i → b < 2 ^ q → c b = true → (∀ t, t < i → c t = true → key t ≤ key b) → msF c n i b < 2 ^ q ∧ c (msF c n i b) = true ∧ ∀ t, t < 2 ^ q → c t = true → key t ≤ key (msF c n i b) := by
  have h64 : 2 ^ q ≤ 64 := Nat.pow_le_pow_right (n := 2) (by decide) hq
  intro n
  induction n with
  | zero =>
    intro i b hi _ hb hcb h
    exact ⟨hb, hcb, fun t ht hct => h t (by omega) hct⟩
  | succ n ih =>
    intro i b hi hbi hb hcb h
    rw [msF]
    by_cases hp : popc b < popc i
    · rw [if_pos hp]
      by_cases hc : c i = true
      · rw [if_pos hc]
        refine ih (i + 1) i (by omega) (by omega) (by omega) hc (fun t ht hct => ?_)
        rcases Nat.lt_or_ge t i with z | z
        · have := h t z hct
          unfold key at this ⊢
          omega
        · rw [show t = i by omega]
          exact Nat.le_refl _
      · rw [if_neg hc]
        refine ih (i + 1) b (by omega) (by omega) hb hcb (fun t ht hct => ?_)
        rcases Nat.lt_or_ge t i with z | z
        · exact h t z hct
        · rw [show t = i by omega] at hct
          exact absurd hct hc
    · rw [if_neg hp]
      refine ih (i + 1) b (by omega) (by omega) hb hcb (fun t ht hct => ?_)
      rcases Nat.lt_or_ge t i with z | z
      · exact h t z hct
      · rw [show t = i by omega]
        unfold key
        omega
theorem cmd_most {M : Mem} (hR : RM M) : CallP 20 77 [.ref 0] M (fun x N => CallP 20 182 [.ref 59] N (fun y K => y = x ∧ RM K)) := by
  refine c_X6_most (by omega) ⟨⟨rfl, hR.iv⟩, ?_⟩
  obtain ⟨q, hq, e1, e2⟩ := hR.cn
  have h64 : 2 ^ q ≤ 64 := Nat.pow_le_pow_right (n := 2) (by decide) hq
  have cq : (nI q).toNatClampNeg = q := nI_clamp (by omega)
  rw [e2, cq]
  intro N hN
  refine c_X7_most (by omega) ⟨⟨rfl, by rw [hN.r]; exact hR.im⟩, ?_⟩
  rw [hN.r, e1, cq]
  intro K hK
  refine ⟨?_, (hR.ag (ag_qo hN)).ag (ag_nj hK)⟩
  have hol : ∀ t, ordL N 0 t = goS 0 q 6 (M 60) t 0 := fun t => by
    rw [hN.o]
    unfold ordL
    rw [e1, cq]
  have hB : ∀ t, t < 2 ^ q → (ordB N t = true ↔ (ffF (XM M) 6 t (M 2)).isSome = true) := by
    intro t ht
    unfold ordB
    rw [hol, decide_eq_true_eq]
    rcases ff_eq hR hq 6 t (M 60) (M 2) ht (OR.st hR) with ⟨a, b⟩ | ⟨x, L, p, a, b, _⟩
    · rw [a, b]
      exact ⟨fun z => absurd z (by decide), fun z => by cases z⟩
    · rw [a, b]
      exact ⟨fun _ => rfl, fun _ => by simp⟩
  have h0 : ordB N 0 = true := (hB 0 (Nat.two_pow_pos q)).mpr (ff_some.mpr (Or.inl rfl))
  obtain ⟨m1, m2, m3⟩ := ms_spec hq h0 (2 ^ q) 0 0 (by omega) (Nat.le_refl _) (Nat.two_pow_pos q) h0 (fun t ht => by omega)
  obtain ⟨g1, g2, g3, g4⟩ := gt_spec (X := XM M) hq 6 0 0 (M 2) (Nat.two_pow_pos q) (Nat.two_pow_pos q)
  generalize gtF (XM M) q 6 0 0 (M 2) = g at g1 g2 g3 g4
  generalize msF (ordB N) (2 ^ q) 0 0 = b at m1 m2 m3
  have hg : ordB N g = true := by
    rcases g3 with z | ⟨e, x1, x2, x3, x4, x5⟩
    · rw [z]; exact h0
    · rw [x5, Nat.zero_or]
      exact (hB e x1).mpr x4
  have l1 := m3 g g1 hg
  have l2 := g4 b m1 (Nat.zero_and _) (pop_le hq m1) ((hB b m1).mp m2)
  rw [Nat.zero_or] at l2
  have : b = g := by
    unfold key at l1 l2
    omega
  rw [this]
