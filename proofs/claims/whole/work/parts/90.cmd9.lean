/-! BOTH: orders -/
/-- those of a set are as they were, and the planks are these -/
def OR (M : Mem) (left : Nat) (r p : Nat → Int32) : Prop := (∀ w, w < 6 → left.testBit w = true → ∀ x, x < 3 → r (wf w x) = M 60 (wf w x)) ∧ r 3 = M 60 3 ∧ ∀ j, j < 12 → p j = plr r j
theorem OR.x {M : Mem} (hR : RM M) {left w : Nat} {r p : Nat → Int32} (h : OR M left r p) (hw : w < 6) (hb : left.testBit w = true) : (XM M w p).1 = (crx r w).1 ∧ ∀ j, j < 12 → (XM M w p).2.2 j = (crx r w).2.2 j := by
  obtain ⟨h1, h2, h3⟩ := h
  obtain ⟨z1, z2, z3, z4⟩ := hR.ww hw
  unfold XM xwr crx
  rw [h1 w hw hb 0 (by decide), h1 w hw hb 1 (by decide), h1 w hw hb 2 (by decide), h2, z1, z2, z3, hR.nt]
  have := wk_m (bl := M 60 (wf w 2)) (nt := M 60 3) (g := M 60 (wf w 1)) (hR.kd hw) h3
  exact ⟨this.1, this.2.2⟩
theorem clr_b (b : Nat) (hb : b < 64) (i : Nat) (hi : i < 6) (h : b.testBit i = true) (v : Nat) (hv : v < 6) (h2 : (clr b i).testBit v = true) : b.testBit v = true ∧ v ≠ i := by
  have k : (List.range 64).all (fun b => (List.range 6).all (fun i => (List.range 6).all (fun v => !(b.testBit i) || !((clr b i).testBit v) || (b.testBit v && !(v == i))))) = true := by decide +kernel
  have k2 := List.all_eq_true.mp (List.all_eq_true.mp (List.all_eq_true.mp k b (List.mem_range.mpr hb)) i (List.mem_range.mpr hi)) v (List.mem_range.mpr hv)
  rw [h, h2] at k2
  simpa using k2
theorem OR.s {M : Mem} (hR : RM M) {left w : Nat} {r p : Nat → Int32} (h : OR M left r p) (hl : left < 64) (hw : w < 6) (hb : left.testBit w = true) : OR M (clr left w) (crr r w) (XM M w p).2.2 := by
  have hx := h.x hR hw hb
  obtain ⟨h1, h2, h3⟩ := h
  refine ⟨fun v hv hvb x hx3 => ?_, by rw [crr_l (by decide) (by decide)]; exact h2, fun j hj => ?_⟩
  · obtain ⟨a, b⟩ := clr_b left hl w hw hb v hv hvb
    rw [crr_w (by omega) (Or.inl b)]
    exact h1 v hv a x hx3
  · show _ = crr r w (14 + j)
    rw [crr_p hj]
    exact hx.2 j hj
theorem fl_c {r : Nat → Int32} {w : Nat} : flM r w ≤ 1 := by
  unfold flM
  split <;> omega
theorem ac_wl {f : Nat → Nat} {g : Nat → List (List Nat × Nat)} : ∀ (m i s k : Nat), (∀ w, i ≤ w → w < i + m → (g w).length = f w) → (∀ w, i + m ≤ w → w < i + m + k → f w = 0) → acF f (m + k) i s = s + (wl g m i).length := by
  intro m
  induction m with
  | zero =>
    intro i s k _ h2
    rw [Nat.zero_add]
    have : ∀ (k i s : Nat), (∀ w, i ≤ w → w < i + k → f w = 0) → acF f k i s = s := by
      intro k
      induction k with
      | zero => intro i s _; rfl
      | succ k ih =>
        intro i s h
        rw [acF, h i (Nat.le_refl _) (by omega), Nat.add_zero]
        exact ih (i + 1) s (fun w a b => h w (by omega) (by omega))
    exact this k i s (fun w a b => h2 w (by omega) (by omega))
  | succ m ih =>
    intro i s k h1 h2
    rw [show m + 1 + k = (m + k) + 1 by omega, acF, wl, List.length_append, h1 i (Nat.le_refl _) (by omega)]
    rw [ih (i + 1) _ k (fun w a b => h1 w (by omega) (by omega)) (fun w a b => h2 w (by omega) (by omega))]
    omega
theorem no_bit {left q w : Nat} (hl : left < 2 ^ q) (hw : q ≤ w) : left.testBit w = false := Nat.testBit_lt_two_pow (Nat.lt_of_lt_of_le hl (Nat.pow_le_pow_right (by decide) hw))
theorem cs_eq {M : Mem} (hR : RM M) {q : Nat} (hq : q ≤ 6) : ∀ (n left : Nat) (r p : Nat → Int32), left < 2 ^ q → OR M left r p → (goS 0 q n r left 0).length = csF (XM M) n left p := by
  intro n
  induction n with
  | zero => intro left r p _ _; rfl
  | succ n ih =>
    intro left r p hl hO
    rw [goS, csF]
    by_cases h0 : left = 0
    · rw [if_pos h0, if_pos h0]
      rfl
    · rw [if_neg h0, if_neg h0]
      have key := ac_wl (f := fun w => if left.testBit w = true ∧ ¬ (XM M w p).1 < 12 then csF (XM M) n (clr left w) (XM M w p).2.2 else 0) (g := fun w => if left.testBit w = true ∧ 0 + flM r w ≤ 0 then (goS 0 q n (crr r w) (clr left w) (0 + flM r w)).map (fun x => (w :: x.1, x.2)) else []) q 0 0 (6 - q) (fun w _ hw => ?_) (fun w hw _ => ?_)
      · rw [show q + (6 - q) = 6 by omega, Nat.zero_add] at key
        exact key.symm
      · by_cases hb : left.testBit w = true
        · have hx := (hO.x hR (show w < 6 by omega) hb).1
          by_cases hc : (crx r w).1 < 12
          · have e1 : flM r w = 1 := if_pos hc
            rw [if_neg (fun z => by omega), if_neg (fun z => z.2 (by rw [hx]; exact hc))]
            rfl
          · have e1 : flM r w = 0 := if_neg hc
            rw [if_pos ⟨hb, by omega⟩, if_pos ⟨hb, by rw [hx]; exact hc⟩, List.length_map, e1]
            exact ih _ _ _ (clr_bd hl) (hO.s hR (lt64 hq hl) (by omega) hb)
        · rw [if_neg (fun z => hb z.1), if_neg (fun z => hb z.1)]
          rfl
      · have := no_bit hl (show q ≤ w by omega)
        rw [if_neg (fun z => by rw [this] at z; exact absurd z.1 (by decide))]
theorem ff_wl {f : Nat → Option (List Nat)} {g : Nat → List (List Nat × Nat)} : ∀ (m i k : Nat), (∀ w, i ≤ w → w < i + m → (g w = [] ∧ f w = none) ∨ ∃ x L p, g w = x :: L ∧ f w = some p ∧ x.1 = w :: p) → (∀ w, i + m ≤ w → w < i + m + k → f w = none) → (wl g m i = [] ∧ fwF f (m + k) i = none) ∨ ∃ x L p, wl g m i = x :: L ∧ fwF f (m + k) i = some p ∧ x.1 = p := by
  intro m
  induction m with
  | zero =>
    intro i k _ h2
    left
    refine ⟨rfl, ?_⟩
    rw [Nat.zero_add]
    have : ∀ (k i : Nat), (∀ w, i ≤ w → w < i + k → f w = none) → fwF f k i = none := by
      intro k
      induction k with
      | zero => intro i _; rfl
      | succ k ih =>
        intro i h
        rw [fwF, h i (Nat.le_refl _) (by omega)]
        exact ih (i + 1) (fun w a b => h w (by omega) (by omega))
    exact this k i (fun w a b => h2 w (by omega) (by omega))
  | succ m ih =>
    intro i k h1 h2
    rw [show m + 1 + k = (m + k) + 1 by omega, fwF, wl]
    rcases h1 i (Nat.le_refl _) (by omega) with ⟨a, b⟩ | ⟨x, L, p, a, b, c⟩
    · rw [a, b, List.nil_append]
      exact ih (i + 1) k (fun w a b => h1 w (by omega) (by omega)) (fun w a b => h2 w (by omega) (by omega))
    · right
      rw [a, b]
      exact ⟨x, L ++ wl g m (i + 1), i :: p, rfl, rfl, c⟩
theorem ff_eq {M : Mem} (hR : RM M) {q : Nat} (hq : q ≤ 6) : ∀ (n left : Nat) (r p : Nat → Int32), left < 2 ^ q → OR M left r p → (goS 0 q n r left 0 = [] ∧ ffF (XM M) n left p = none) ∨ ∃ x L t, goS 0 q n r left 0 = x :: L ∧ ffF (XM M) n left p = some t ∧ x.1 = t := by
  intro n
  induction n with
  | zero => intro left r p _ _; exact Or.inr ⟨([], 0), [], [], rfl, rfl, rfl⟩
  | succ n ih =>
    intro left r p hl hO
    rw [goS, ffF]
    by_cases h0 : left = 0
    · rw [if_pos h0, if_pos h0]
      exact Or.inr ⟨([], 0), [], [], rfl, rfl, rfl⟩
    · rw [if_neg h0, if_neg h0]
      have key := ff_wl (f := fun w => if left.testBit w = true ∧ ¬ (XM M w p).1 < 12 then ffF (XM M) n (clr left w) (XM M w p).2.2 else none) (g := fun w => if left.testBit w = true ∧ 0 + flM r w ≤ 0 then (goS 0 q n (crr r w) (clr left w) (0 + flM r w)).map (fun x => (w :: x.1, x.2)) else []) q 0 (6 - q) (fun w _ hw => ?_) (fun w hw _ => ?_)
      · rw [show q + (6 - q) = 6 by omega] at key
        exact key
      · by_cases hb : left.testBit w = true
        · have hx := (hO.x hR (show w < 6 by omega) hb).1
          by_cases hc : (crx r w).1 < 12
          · have e1 : flM r w = 1 := if_pos hc
            left
            exact ⟨if_neg (fun z => by omega), if_neg (fun z => z.2 (by rw [hx]; exact hc))⟩
          · have e1 : flM r w = 0 := if_neg hc
            rw [if_pos ⟨hb, by omega⟩, if_pos ⟨hb, by rw [hx]; exact hc⟩, e1]
            rcases ih _ _ _ (clr_bd hl) (hO.s hR (lt64 hq hl) (by omega) hb) with ⟨a, b⟩ | ⟨x, L, t, a, b, c⟩
            · left
              rw [a, b]
              exact ⟨rfl, rfl⟩
            · right
              rw [a, b]
              exact ⟨(w :: x.1, x.2), _, t, rfl, rfl, by rw [← c]⟩
        · left
          exact ⟨if_neg (fun z => hb z.1), if_neg (fun z => hb z.1)⟩
      · have := no_bit hl (show q ≤ w by omega)
        exact if_neg (fun z => by rw [this] at z; exact absurd z.1 (by decide))
/-- the less of two -/
def mi (a b : Nat) : Nat := if b < a then b else a
theorem mi_e {a b : Nat} : mi a b = min a b := by
  unfold mi
  split <;> omega
theorem fv_wl {F : Nat → Option Nat} {g : Nat → List (List Nat × Nat)} {f0 fell : Nat} : ∀ (m i l k : Nat), (∀ w, i ≤ w → w < i + m → ∀ e, e ≤ 6 → mnF e (g w) = (match F w with
    | some v => mi e (fell + v)
    | none => e)) → (∀ w, i + m ≤ w → w < i + m + k → F w = none) → f0 ≤ 6 → mnF (mi f0 (fell + l)) (wl g m i) = mi f0 (fell + mnL F (m + k) i l) := by
  intro m
  induction m with
  | zero =>
    intro i l k _ h2 _
    have : ∀ (k i l : Nat), (∀ w, i ≤ w → w < i + k → F w = none) → mnL F k i l = l := by
      intro k
      induction k with
      | zero => intro i l _; rfl
      | succ k ih =>
        intro i l h
        rw [mnL, h i (Nat.le_refl _) (by omega)]
        split
        · omega
        · exact ih (i + 1) l (fun w a b => h w (by omega) (by omega))
    rw [Nat.zero_add, this k i l (fun w a b => h2 w (by omega) (by omega))]
    rfl
  | succ m ih =>
    intro i l k h1 h2 hf
    have hle : mi f0 (fell + l) ≤ 6 := by rw [mi_e]; omega
    rw [show m + 1 + k = (m + k) + 1 by omega, mnL, wl, mnF_app, h1 i (Nat.le_refl _) (by omega) _ hle]
    have next := fun l' => ih (i + 1) l' k (fun w a b => h1 w (by omega) (by omega)) (fun w a b => h2 w (by omega) (by omega)) hf
    by_cases h0 : l = 0
    · subst h0
      rw [if_pos rfl]
      have e2 : (match F i with
        | some v => mi (mi f0 (fell + 0)) (fell + v)
        | none => mi f0 (fell + 0)) = mi f0 (fell + 0) := by
        cases F i with
        | none => rfl
        | some v =>
          dsimp only
          rw [mi_e, mi_e]
          omega
      rw [e2]
      have n0 := next 0
      have z : mnL F (m + k) (i + 1) 0 = 0 := Nat.le_zero.mp (mnL_le _ _ _)
      rw [z] at n0
      exact n0
    · rw [if_neg h0]
      cases hF : F i with
      | none =>
        dsimp only
        exact next l
      | some v =>
        dsimp only
        have e2 : mi (mi f0 (fell + l)) (fell + v) = mi f0 (fell + (if v < l then v else l)) := by
          rw [mi_e, mi_e, mi_e]
          split <;> omega
        rw [e2]
        exact next _
theorem fv_eq {M : Mem} (hR : RM M) {q : Nat} (hq : q ≤ 6) : ∀ (n left fell f0 : Nat) (r p : Nat → Int32), left < 2 ^ q → OR M left r p → popc left ≤ n → fell + popc left ≤ 6 → f0 ≤ 6 → mnF f0 (goS 6 q n r left fell) = mi f0 (fell + fvF (XM M) n left p) := by
  intro n
  induction n with
  | zero => intro left fell f0 r p _ _ _ _ _; rfl
  | succ n ih =>
    intro left fell f0 r p hl hO hp h6 hf
    rw [goS, fvF]
    by_cases h0 : left = 0
    · rw [if_pos h0, if_pos h0]
      rfl
    · rw [if_neg h0, if_neg h0]
      have h64 := lt64 hq hl
      have key := fv_wl (F := fun w => if left.testBit w = true then some ((if (XM M w p).1 < 12 then 1 else 0) + fvF (XM M) n (clr left w) (XM M w p).2.2) else none) (g := fun w => if left.testBit w = true ∧ fell + flM r w ≤ 6 then (goS 6 q n (crr r w) (clr left w) (fell + flM r w)).map (fun x => (w :: x.1, x.2)) else []) (f0 := f0) (fell := fell) q 0 6 (6 - q) (fun w _ hw e he => ?_) (fun w hw _ => ?_) hf
      · rw [show q + (6 - q) = 6 by omega] at key
        have e1 : mi f0 (fell + 6) = f0 := by rw [mi_e]; omega
        rw [e1] at key
        exact key
      · by_cases hb : left.testBit w = true
        · have hx := (hO.x hR (show w < 6 by omega) hb).1
          have hpc := clr_pop left h64 w (by omega) hb
          have hfl := fl_c (r := r) (w := w)
          try dsimp only
          rw [if_pos ⟨hb, by omega⟩, if_pos hb]
          try dsimp only
          rw [mnF_map, ih _ _ _ _ _ (clr_bd hl) (hO.s hR h64 (by omega) hb) (by omega) (by omega) he]
          have e2 : (if (XM M w p).1 < 12 then 1 else 0) = flM r w := by
            unfold flM
            rw [hx]
          rw [e2, Nat.add_assoc]
        · try dsimp only
          rw [if_neg (fun z => hb z.1), if_neg hb]
          rfl
      · have := no_bit hl (show q ≤ w by omega)
        exact if_neg (by rw [this]; decide)
theorem OR.st {M : Mem} (hR : RM M) {s : Nat} : OR M s (M 60) (M 2) := ⟨fun _ _ _ _ _ => rfl, rfl, fun j hj => hR.pl hj⟩
theorem ag_qo {M N : Mem} (h : QO M N) : AG M N := by
  refine ⟨fun p hp => ?_, by rw [h 44 (by omega)], by rw [h 59 (by omega)], by rw [h 59 (by omega)]⟩
  rcases Nat.lt_or_ge p 25 with z | z
  · exact h p (Or.inl z)
  · rcases Nat.lt_or_ge 43 p with y | y
    · exact h p (Or.inr y)
    · exfalso
      have : JP p = true := by
        unfold JP
        have a : decide (15 ≤ p) = true := decide_eq_true (by omega)
        have b : decide (p ≤ 44) = true := decide_eq_true (by omega)
        simp [a, b]
      rw [this] at hp
      cases hp
theorem ag_nj {M N : Mem} (h : NJ M N) : AG M N := by
  refine ⟨fun p hp => h.1 p ?_ ?_ ?_ ?_, by rw [h.1 44 (by decide) (by decide) (by decide) (by decide)], h.2 3 (by decide) (by decide), h.2 12 (by decide) (by decide)⟩
  · intro z; subst z; cases hp
  · intro z; subst z; cases hp
  · intro z; subst z; cases hp
  · intro z; subst z; cases hp
theorem QO.r {M N : Mem} (h : QO M N) : N 60 = M 60 := h 60 (by omega)
theorem QO.o {M N : Mem} (h : QO M N) {A s : Nat} : ordL N A s = ordL M A s := by
  unfold ordL
  rw [h.r]
theorem cmd_orders {M : Mem} (hR : RM M) {s : Int32} : CallP 20 75 [.ref 0, .int s] M (fun x N => CallP 20 180 [.ref 59, .int s] N (fun y K => y = x ∧ RM K)) := by
  refine c_X6_orders (by omega) ⟨⟨rfl, hR.iv⟩, ?_⟩
  by_cases h : ¬ s < 0 ∧ ¬ 1 <<< (M 1 6 &&& 31) ≤ s
  · rw [if_pos h]
    rw [hR.set] at h
    obtain ⟨b, q, hq, he, hb, rfl⟩ := isSet_n hR.im h
    have cb : (nI b).toNatClampNeg = b := nI_clamp (by have := lt64 hq hb; omega)
    rw [cb]
    intro N hN
    refine c_X7_orders (by omega) ⟨⟨rfl, by rw [hN.r]; exact hR.im⟩, ?_⟩
    rw [hN.r, if_pos h, cb, hN.o]
    intro K hK
    refine ⟨?_, (hR.ag (ag_qo hN)).ag (ag_nj hK)⟩
    unfold ordL
    rw [he, nI_clamp (by omega), cs_eq hR hq 6 b (M 60) (M 2) hb (OR.st hR)]
  · rw [if_neg h]
    rw [hR.set] at h
    refine c_X7_orders (by omega) ⟨⟨rfl, by rw [tl_n (by decide)]; exact hR.im⟩, ?_⟩
    rw [tl_n (by decide), if_neg h]
    exact ⟨rfl, hR.tell (by decide)⟩
theorem cmd_fewest {M : Mem} (hR : RM M) {s : Int32} : CallP 20 76 [.ref 0, .int s] M (fun x N => CallP 20 181 [.ref 59, .int s] N (fun y K => y = x ∧ RM K)) := by
  refine c_X6_fewest (by omega) ⟨⟨rfl, hR.iv⟩, ?_⟩
  by_cases h : ¬ s < 0 ∧ ¬ 1 <<< (M 1 6 &&& 31) ≤ s
  · rw [if_pos h]
    rw [hR.set] at h
    obtain ⟨b, q, hq, he, hb, rfl⟩ := isSet_n hR.im h
    have cb : (nI b).toNatClampNeg = b := nI_clamp (by have := lt64 hq hb; omega)
    rw [cb]
    intro N hN
    refine c_X7_fewest (by omega) ⟨⟨rfl, by rw [hN.r]; exact hR.im⟩, ?_⟩
    rw [hN.r, if_pos h, cb, hN.o]
    intro K hK
    refine ⟨?_, (hR.ag (ag_qo hN)).ag (ag_nj hK)⟩
    unfold ordL
    have hp6 := pop_le hq hb
    have hv := fv_le (X := XM M) 6 b (M 2)
    rw [he, nI_clamp (by omega), fv_eq hR hq 6 b 0 6 (M 60) (M 2) hb (OR.st hR) hp6 (by omega) (Nat.le_refl _), mi_e]
    congr 2
    omega
  · rw [if_neg h]
    rw [hR.set] at h
    refine c_X7_fewest (by omega) ⟨⟨rfl, by rw [tl_n (by decide)]; exact hR.im⟩, ?_⟩
    rw [tl_n (by decide), if_neg h]
    exact ⟨rfl, hR.tell (by decide)⟩
theorem cmd_order {M : Mem} (hR : RM M) {s i : Int32} : CallP 20 74 [.ref 0, .int s, .int i] M (fun x N => CallP 20 179 [.ref 59, .int s, .int i] N (fun y K => y = x ∧ RM K)) := by
  refine c_X6_order (by omega) ⟨⟨rfl, hR.iv⟩, ?_⟩
  by_cases h : (¬ s < 0 ∧ ¬ 1 <<< (M 1 6 &&& 31) ≤ s) ∧ ¬ i < 0 ∧ i < nI (popc (s).toNatClampNeg)
  · rw [if_pos h]
    rw [hR.set] at h
    obtain ⟨b, q, hq, he, hb, rfl⟩ := isSet_n hR.im h.1
    have cb : (nI b).toNatClampNeg = b := nI_clamp (by have := lt64 hq hb; omega)
    have hol : ordL M 0 b = goS 0 q 6 (M 60) b 0 := by
      unfold ordL
      rw [he, nI_clamp (by omega)]
    have key := ff_eq hR hq 6 b (M 60) (M 2) hb (OR.st hR)
    rw [← hol] at key
    rw [cb]
    intro N hN
    refine ⟨fun t ht => ?_, fun ht => ?_⟩
    · rcases key with ⟨a, c⟩ | ⟨x, L, t', a, c, d⟩
      · rw [ht] at c
        cases c
      · rw [ht] at c
        cases c
        refine c_X7_order (by omega) ⟨⟨rfl, by rw [hN.r]; exact hR.im⟩, ?_⟩
        rw [hN.r, if_pos h, cb]
        intro K hK
        refine ⟨fun y L' e => ?_, fun e => ?_⟩
        · rw [hN.o, a] at e
          cases e
          exact ⟨by rw [d], (hR.ag (ag_qo hN)).ag (ag_nj hK)⟩
        · rw [hN.o, a] at e
          cases e
    · rcases key with ⟨a, c⟩ | ⟨x, L, t', a, c, d⟩
      · have e60 : tellM N 3 60 = M 60 := by rw [tl_n (by decide), hN.r]
        have eo : ordL (tellM N 3) 0 b = ordL M 0 b := by
          unfold ordL
          rw [e60]
        refine c_X7_order (by omega) ⟨⟨rfl, by rw [e60]; exact hR.im⟩, ?_⟩
        rw [e60, if_pos h, cb]
        intro K hK
        refine ⟨fun y L' e => ?_, fun e => ⟨rfl, ?_⟩⟩
        · rw [eo, a] at e
          cases e
        · exact ((hR.ag (ag_qo hN)).tell (c := 3) (by decide)).ag ((ag_nj hK).fnd)
      · rw [ht] at c
        cases c
  · rw [if_neg h]
    rw [hR.set] at h
    refine c_X7_order (by omega) ⟨⟨rfl, by rw [tl_n (by decide)]; exact hR.im⟩, ?_⟩
    rw [tl_n (by decide), if_neg h]
    exact ⟨rfl, hR.tell (by decide)⟩
