/-! BOTH: lay -/
/-- the least set below 2^n of m bits with c, beside s -/
def LZ (c : Nat → Prop) (m s n : Nat) (x : Int32) : Prop := (0 ≤ x → ∃ e, e < 2 ^ n ∧ popc e = m ∧ c (s ||| e) ∧ x = nI (s ||| e) ∧ ∀ t, t < e → popc t = m → ¬ c (s ||| t)) ∧ (¬ 0 ≤ x → x = -1 ∧ ∀ e, e < 2 ^ n → popc e = m → ¬ c (s ||| e))
theorem fst_m {f : Nat → Int32} : ∀ (k j : Nat), (∀ p, j ≤ p → p < j + k → 0 ≤ f p ∨ f p = -1) → (∃ p, j ≤ p ∧ p < j + k ∧ fstF f k j = f p ∧ 0 ≤ f p ∧ ∀ i, j ≤ i → i < p → ¬ 0 ≤ f i) ∨ (fstF f k j = -1 ∧ ∀ i, j ≤ i → i < j + k → ¬ 0 ≤ f i) := by
  intro k
  induction k with
  | zero => intro j _; exact Or.inr ⟨rfl, fun i a b => by omega⟩
  | succ k ih =>
    intro j h
    rw [fstF]
    by_cases z : 0 ≤ f j
    · rw [if_pos z]
      exact Or.inl ⟨j, Nat.le_refl _, by omega, rfl, z, fun i a b => by omega⟩
    · rw [if_neg z]
      rcases ih (j + 1) (fun p a b => h p (by omega) (by omega)) with ⟨p, a, b, c, d, e⟩ | ⟨a, b⟩
      · refine Or.inl ⟨p, by omega, by omega, c, d, fun i x y => ?_⟩
        rcases Nat.lt_or_ge j i with w | w
        · exact e i w y
        · rw [show i = j by omega]
          exact z
      · refine Or.inr ⟨a, fun i x y => ?_⟩
        rcases Nat.lt_or_ge j i with w | w
        · exact b i w (by omega)
        · rw [show i = j by omega]
          exact z
theorem or_add {p t : Nat} (ht : t < 2 ^ p) : 2 ^ p ||| t = 2 ^ p + t := by
  have := Nat.two_pow_add_eq_or_of_lt ht 1
  simpa using this.symm
/-- a number above 0 by its highest bit -/
theorem top_bit {e n : Nat} (he : e < 2 ^ n) (h0 : e ≠ 0) : ∃ p t, p < n ∧ t < 2 ^ p ∧ e = 2 ^ p ||| t ∧ e = 2 ^ p + t := by
  refine ⟨e.log2, e - 2 ^ e.log2, ?_, ?_, ?_, ?_⟩
  · exact (Nat.log2_lt h0).mpr he
  · have := Nat.lt_log2_self (n := e)
    have h2 := Nat.log2_self_le h0
    rw [Nat.pow_succ] at this
    omega
  · have := Nat.lt_log2_self (n := e)
    have h2 := Nat.log2_self_le h0
    rw [Nat.pow_succ] at this
    have hlt : e - 2 ^ e.log2 < 2 ^ e.log2 := by omega
    rw [or_add hlt]
    omega
  · have h2 := Nat.log2_self_le h0
    omega
theorem pop_or' {p t : Nat} (hp : p < 12) (ht : t < 2 ^ p) : popc (2 ^ p ||| t) = popc t + 1 := by
  rw [Nat.or_comm]
  exact pop_or p hp t ht
theorem or_l {s e : Nat} (hs : s < 4096) (he : e < 4096) : s ||| e < 4096 := Nat.or_lt_two_pow (n := 12) hs he
theorem pop0 {e : Nat} (he : e < 4096) (h : popc e = 0) : e = 0 := by
  have k : (List.range 4096).all (fun e => !(popc e == 0) || e == 0) = true := by decide +kernel
  have := List.all_eq_true.mp k e (List.mem_range.mpr he)
  rw [h] at this
  simpa using this
theorem lm_spec {C : Int32 → Prop} [DecidablePred C] {c : Nat → Prop} (hc : ∀ t, t < 4096 → (C (nI t) ↔ c t)) : ∀ (m s n : Nat), n ≤ 12 → s < 4096 → LZ c m s n (lmF C m (nI s) n) := by
  intro m
  induction m with
  | zero =>
    intro s n hn hs
    have h12 : 2 ^ n ≤ 4096 := Nat.pow_le_pow_right (n := 2) (by decide) hn
    rw [lmF]
    by_cases h : C (nI s)
    · rw [if_pos h]
      refine ⟨fun _ => ⟨0, Nat.two_pow_pos n, popc_0, by rw [Nat.or_zero]; exact (hc s hs).mp h, by rw [Nat.or_zero], fun t ht => by omega⟩, fun z => absurd (nI_pos' (by omega)) z⟩
    · rw [if_neg h]
      refine ⟨fun z => absurd z (by decide), fun _ => ⟨rfl, fun e he hp => ?_⟩⟩
      rw [pop0 (by omega) hp, Nat.or_zero]
      exact fun z => h ((hc s hs).mpr z)
  | succ m ih =>
    intro s n hn hs
    have h12 : 2 ^ n ≤ 4096 := Nat.pow_le_pow_right (n := 2) (by decide) hn
    rw [lmF]
    have hI : ∀ p, p < n → LZ c m (s ||| 2 ^ p) p (lmF C m (nI s ||| 1 <<< (nI p &&& 31)) p) := by
      intro p hp
      have h2p : 2 ^ p < 4096 := Nat.pow_lt_pow_right (a := 2) (n := 12) (by decide) (by omega)
      rw [sh1 p (by omega), fa_or]
      exact ih (s ||| 2 ^ p) p (by omega) (or_l hs h2p)
    have hpos : ∀ p, 0 ≤ p → p < 0 + n → (0 : Int32) ≤ lmF C m (nI s ||| 1 <<< (nI p &&& 31)) p ∨ lmF C m (nI s ||| 1 <<< (nI p &&& 31)) p = -1 := by
      intro p _ hp
      by_cases z : (0 : Int32) ≤ lmF C m (nI s ||| 1 <<< (nI p &&& 31)) p
      · exact Or.inl z
      · exact Or.inr ((hI p (by omega)).2 z).1
    have hne : ∀ e, popc e = m + 1 → e ≠ 0 := fun e h z => by
      rw [z, popc_0] at h
      omega
    rcases fst_m (f := fun p => lmF C m (nI s ||| 1 <<< (nI p &&& 31)) p) n 0 hpos with ⟨p, _, hp, e1, e2, e3⟩ | ⟨e1, e3⟩
    · rw [e1]
      refine ⟨fun _ => ?_, fun z => absurd e2 z⟩
      obtain ⟨e, he, hpe, hce, hx, hmin⟩ := (hI p (by omega)).1 e2
      have hp12 : p < 12 := by omega
      refine ⟨2 ^ p ||| e, ?_, by rw [pop_or' hp12 he, hpe], by rw [← Nat.or_assoc]; exact hce, by rw [← Nat.or_assoc]; exact hx, fun t ht hpt => ?_⟩
      · have h2 : 2 ^ p < 2 ^ n := Nat.pow_lt_pow_right (by decide) (by omega)
        exact Nat.or_lt_two_pow h2 (Nat.lt_trans he h2)
      · have ht2 : t < 2 ^ (p + 1) := by
          rw [or_add he] at ht
          rw [Nat.pow_succ]
          omega
        obtain ⟨p2, t2, x1, x2, x3, x4⟩ := top_bit ht2 (hne t hpt)
        rw [x3, pop_or' (by omega) x2] at hpt
        rw [x3, ← Nat.or_assoc]
        rcases Nat.lt_or_ge p2 p with y | y
        · have := (hI p2 (by omega)).2 (e3 p2 (Nat.zero_le _) y)
          exact this.2 t2 x2 (by omega)
        · have hpp : p2 = p := by omega
          subst hpp
          refine hmin t2 ?_ (by omega)
          rw [or_add he] at ht
          omega
    · rw [e1]
      refine ⟨fun z => absurd z (by decide), fun _ => ⟨rfl, fun e he hpe => ?_⟩⟩
      obtain ⟨p2, t2, x1, x2, x3, x4⟩ := top_bit he (hne e hpe)
      rw [x3, pop_or' (by omega) x2] at hpe
      rw [x3, ← Nat.or_assoc]
      exact ((hI p2 x1).2 (e3 p2 (Nat.zero_le _) (by omega))).2 t2 x2 (by omega)
/-- the model's best so far -/
def LB (c : Nat → Prop) (i : Nat) (b : Option Nat) : Prop := match b with
  | none => ∀ t, t < i → popc t ≤ 3 → ¬ c t
  | some y => y < i ∧ popc y ≤ 3 ∧ c y ∧ ∀ t, t < i → popc t ≤ 3 → c t → popc y < popc t ∨ (popc t = popc y ∧ y ≤ t)
theorem ly_spec {c : Nat → Prop} [DecidablePred c] : ∀ (n i : Nat) (b : Option Nat), LB c i b → LB c (i + n) (lyN c n i b) := by
  intro n
  induction n with
  | zero => intro i b h; exact h
  | succ n ih =>
    intro i b h
    rw [lyN, show i + (n + 1) = i + 1 + n by omega]
    refine ih (i + 1) _ ?_
    cases b with
    | none =>
      have h : ∀ t, t < i → popc t ≤ 3 → ¬ c t := h
      by_cases z : popc i ≤ 3 ∧ lyB i none = true
      · rw [if_pos z]
        by_cases y : c i
        · rw [if_pos y]
          refine ⟨by omega, z.1, y, fun t ht hp hct => ?_⟩
          rcases Nat.lt_or_ge t i with w | w
          · exact absurd hct (h t w hp)
          · rw [show t = i by omega]
            exact Or.inr ⟨rfl, Nat.le_refl _⟩
        · rw [if_neg y]
          intro t ht hp
          rcases Nat.lt_or_ge t i with w | w
          · exact h t w hp
          · rw [show t = i by omega]
            exact y
      · rw [if_neg z]
        intro t ht hp
        rcases Nat.lt_or_ge t i with w | w
        · exact h t w hp
        · rw [show t = i by omega] at hp
          exact absurd ⟨hp, rfl⟩ z
    | some y =>
      obtain ⟨h1, h2, h3, h4⟩ : y < i ∧ popc y ≤ 3 ∧ c y ∧ ∀ t, t < i → popc t ≤ 3 → c t → popc y < popc t ∨ (popc t = popc y ∧ y ≤ t) := h
      have keep : (¬ c i ∨ ¬ popc i ≤ 3 ∨ ¬ popc i < popc y) → LB c (i + 1) (some y) := by
        intro hk
        refine ⟨by omega, h2, h3, fun t ht hp hct => ?_⟩
        rcases Nat.lt_or_ge t i with w | w
        · exact h4 t w hp hct
        · have : t = i := by omega
          subst this
          rcases hk with z | z | z
          · exact absurd hct z
          · exact absurd hp z
          · omega
      by_cases z : popc i ≤ 3 ∧ lyB i (some y) = true
      · rw [if_pos z]
        have z2 : popc i < popc y := of_decide_eq_true z.2
        by_cases w : c i
        · rw [if_pos w]
          refine ⟨by omega, z.1, w, fun t ht hp hct => ?_⟩
          rcases Nat.lt_or_ge t i with x | x
          · have := h4 t x hp hct
            omega
          · rw [show t = i by omega]
            exact Or.inr ⟨rfl, Nat.le_refl _⟩
        · rw [if_neg w]
          exact keep (Or.inl w)
      · rw [if_neg z]
        refine keep ?_
        by_cases w : popc i ≤ 3
        · exact Or.inr (Or.inr (fun x => z ⟨w, decide_eq_true x⟩))
        · exact Or.inr (Or.inl w)
theorem ly_all {c : Nat → Prop} [DecidablePred c] (n : Nat) : LB c n (lyN c n 0 none) := by
  have h0 : LB c 0 none := fun t ht => absurd ht (Nat.not_lt_zero _)
  have := ly_spec n 0 none h0
  rw [Nat.zero_add] at this
  exact this
theorem RM.lay {M : Mem} (h : RM M) {i : Nat} (hi : i < 6) {t : Nat} : (¬ (xwl M i (nI t)).1 < 12) ↔ lyC (M 60) i t := by
  unfold lyC
  rw [h.xl hi (q := rwQ (M 60) (layF (nI t) (plr (M 60)))) (fun j hj => ?_) (fun f hf => rwQ_w) (rwQ_out (by omega))]
  show _ = rwQ (M 60) (layF (nI t) (plr (M 60))) (14 + j)
  rw [rwQ_in hj]
theorem lay_eq {M : Mem} (hR : RM M) {i : Nat} (hi : i < 6) {C : Nat → Prop} [DecidablePred C] (hC : ∀ t, C t ↔ lyC (M 60) i t) (K : Nat) (hK : K = 4096) : (0 ≤ lyF M i 4 0 → lyR C K 0 none = lyF M i 4 0 ∧ ¬ lyR C K 0 none < 0) ∧ (¬ 0 ≤ lyF M i 4 0 → lyR C K 0 none < 0) := by
  have hm := ly_all (c := C) K
  have hL : ∀ m, LZ C m 0 12 (lmF (fun s => ¬ (xwl M i s).1 < 12) m 0 12) := fun m =>
    lm_spec (C := fun s => ¬ (xwl M i s).1 < 12) (c := C) (fun t _ => (hR.lay hi).trans (hC t).symm) m 0 12 (Nat.le_refl _) (by decide)
  have h4096 : (2 : Nat) ^ 12 = 4096 := by decide
  have hpos : ∀ p, 0 ≤ p → p < 0 + 4 → (0 : Int32) ≤ lmF (fun s => ¬ (xwl M i s).1 < 12) p 0 12 ∨ lmF (fun s => ¬ (xwl M i s).1 < 12) p 0 12 = -1 := by
    intro p _ _
    by_cases z : (0 : Int32) ≤ lmF (fun s => ¬ (xwl M i s).1 < 12) p 0 12
    · exact Or.inl z
    · exact Or.inr ((hL p).2 z).1
  unfold lyR
  unfold lyF
  generalize lyN C K 0 none = b at hm
  rw [hK] at hm
  rcases fst_m (f := fun m => lmF (fun s => ¬ (xwl M i s).1 < 12) m 0 12) 4 0 hpos with ⟨p, _, hp, e1, e2, e3⟩ | ⟨e1, e3⟩
  · rw [e1]
    refine ⟨fun _ => ?_, fun z => absurd e2 z⟩
    obtain ⟨e, he, hpe, hce, hx, hmin⟩ := (hL p).1 e2
    rw [Nat.zero_or] at hce hx
    rw [h4096] at he
    cases b with
    | none => exact absurd hce (hm e he (by omega))
    | some y =>
      obtain ⟨h1, h2, h3, h4⟩ : y < 4096 ∧ popc y ≤ 3 ∧ C y ∧ ∀ t, t < 4096 → popc t ≤ 3 → C t → popc y < popc t ∨ (popc t = popc y ∧ y ≤ t) := hm
      have k1 := h4 e he (by omega) hce
      have hye : y = e := by
        rcases Nat.lt_trichotomy (popc y) p with z | z | z
        · exfalso
          have := ((hL (popc y)).2 (e3 (popc y) (Nat.zero_le _) z)).2 y (by rw [h4096]; exact h1) rfl
          rw [Nat.zero_or] at this
          exact this h3
        · rcases Nat.lt_or_ge y e with w | w
          · exfalso
            have := hmin y w z
            rw [Nat.zero_or] at this
            exact this h3
          · omega
        · omega
      rw [hye]
      have e4 : oI (some e) = nI e := rfl
      rw [e4]
      refine ⟨hx.symm, nI_pos (by omega)⟩
  · rw [e1]
    refine ⟨fun z => absurd z (by decide), fun _ => ?_⟩
    cases b with
    | none =>
      show (-1 : Int32) < 0
      decide
    | some y =>
      exfalso
      obtain ⟨h1, h2, h3, h4⟩ : y < 4096 ∧ popc y ≤ 3 ∧ C y ∧ ∀ t, t < 4096 → popc t ≤ 3 → C t → popc y < popc t ∨ (popc t = popc y ∧ y ≤ t) := hm
      have := ((hL (popc y)).2 (e3 (popc y) (Nat.zero_le _) (by omega))).2 y (by rw [h4096]; exact h1) rfl
      rw [Nat.zero_or] at this
      exact this h3
theorem cmd_lay {M : Mem} (hR : RM M) {w : Int32} : CallP 20 78 [.ref 0, .int w] M (fun x N => CallP 20 184 [.ref 59, .int w] N (fun y K => y = x ∧ RM K)) := by
  refine c_X6_lay (by omega) ⟨rfl, ?_⟩
  by_cases h : hasW M 1 w
  · rw [if_pos h]
    rw [hR.has] at h
    obtain ⟨i, hi, rfl⟩ := has_n h
    have ci : (nI i).toNatClampNeg = i := nI_clamp (by omega)
    rw [ci]
    intro a b
    by_cases h0 : 0 ≤ lyF M i 4 0
    · rw [if_pos h0]
      refine c_X7_lay (by omega) ⟨⟨rfl, by rw [jk60]; exact hR.im⟩, ?_⟩
      rw [jk60, if_pos h, ci]
      intro C dC hC a'
      obtain ⟨k1, k2⟩ := (lay_eq hR hi hC 4096 rfl).1 h0
      have hz := (hR.ag (ag_jk (a := a) (b := b))).ag (ag_j2 (a := a'))
      rw [jk60] at hz
      exact ⟨fun z => absurd z k2, fun _ => ⟨by rw [k1], hz⟩⟩
    · rw [if_neg h0]
      refine c_X7_lay (by omega) ⟨⟨rfl, by rw [tl_n (by decide), jk60]; exact hR.im⟩, ?_⟩
      rw [tl_n (by decide), jk60, if_pos h, ci]
      intro C dC hC a'
      have k2 := (lay_eq hR hi hC 4096 rfl).2 h0
      have hz := ((hR.ag (ag_jk (a := a) (b := b))).tell (c := 3) (by decide)).ag ((ag_j2 (M := tellM (jk M a b) 3) (a := a')).fnd (c := 3))
      rw [tl_n (by decide), jk60] at hz
      exact ⟨fun _ => ⟨rfl, hz⟩, fun z => absurd k2 z⟩
  · rw [if_neg h]
    rw [hR.has] at h
    refine c_X7_lay (by omega) ⟨⟨rfl, by rw [tl_n (by decide)]; exact hR.im⟩, ?_⟩
    rw [tl_n (by decide), if_neg h]
    exact ⟨rfl, hR.tell (by decide)⟩
