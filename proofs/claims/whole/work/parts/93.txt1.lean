/-! BOTH: the class's tokens are the model's -/
/-- the rows of tokens hold these -/
def RP (M : Mem) (ts : List Tok) : Prop := M 44 6 = nI ts.length ∧ ∀ t, t < ts.length → M 46 t = (ts.getD t (0, 0, 0, 0)).1 ∧ M 47 t = nI (ts.getD t (0, 0, 0, 0)).2.1 ∧ M 48 t = nI (ts.getD t (0, 0, 0, 0)).2.2.1 ∧ M 49 t = (ts.getD t (0, 0, 0, 0)).2.2.2
theorem gd_l {ts : List Tok} {x : Tok} {t : Nat} (h : t < ts.length) : (ts ++ [x]).getD t (0, 0, 0, 0) = ts.getD t (0, 0, 0, 0) := by
  simp [List.getD, List.getElem?_append_left h]
theorem gd_r {ts : List Tok} {x : Tok} : (ts ++ [x]).getD ts.length (0, 0, 0, 0) = x := by
  simp [List.getD]
theorem RP.bg {M : Mem} {ts : List Tok} {s : Int32} {b : Nat} (h : RP M ts) (hl : ts.length < 1000) : RP (bgM M s (nI b)) (ts ++ [(s, b, b, 0)]) := by
  obtain ⟨h1, h2⟩ := h
  refine ⟨by rw [bgM_6, h1, nI_1, List.length_append]; rfl, fun t ht => ?_⟩
  rw [List.length_append] at ht
  obtain ⟨e1, e2, e3, e4⟩ := bgM_46 (s := s) (b := nI b) (i := t) h1 (by omega)
  rw [e1, e2, e3, e4]
  by_cases z : t = ts.length
  · rw [if_pos z, if_pos z, if_pos z, if_pos z, z, gd_r]
    exact ⟨rfl, rfl, rfl, rfl⟩
  · have ht2 : t < ts.length + 1 := ht
    rw [if_neg z, if_neg z, if_neg z, if_neg z, gd_l (by omega)]
    exact h2 t (by omega)
theorem gwM_49 {M : Mem} {v : Int32} {l i : Nat} : gwM M v l 49 i = if i = l ∧ M 46 l = 2 then vN (M 49 l) v else M 49 i := by
  unfold gwM
  by_cases h : M 46 l = 2
  · rw [if_pos h, mset_s]
    by_cases z : i = l
    · subst z
      have hc : i = i ∧ M 46 i = 2 := ⟨rfl, h⟩
      rw [if_pos hc, upd_s]
      unfold vN
      rw [Int32.mul_comm]
    · have hc : ¬ (i = l ∧ M 46 l = 2) := fun y => z y.1
      rw [if_neg hc, un z, mset_n (by decide)]
  · have hc : ¬ (i = l ∧ M 46 l = 2) := fun y => h y.2
    rw [if_neg h, if_neg hc, mset_n (by decide)]
theorem RP.gw {M : Mem} {ts : List Tok} {s v c : Int32} {b e : Nat} (h : RP M (ts ++ [(s, b, e, v)])) (hl : ts.length < 1000) : RP (gwL M c) (ts ++ [(s, b, e + 1, if s = 2 then vN v c else v)]) := by
  obtain ⟨h1, h2⟩ := h
  have h1' : M 44 6 = nI (ts.length + 1) := by rw [h1, List.length_append]; rfl
  have hl6 : (M 44 6 - 1).toNatClampNeg = ts.length := by rw [h1', nI_pred, nI_clamp (by omega)]
  have hlast := h2 ts.length (by rw [List.length_append]; exact Nat.lt_succ_self _)
  rw [gd_r] at hlast
  obtain ⟨q1, q2, q3, q4⟩ := hlast
  unfold gwL
  rw [hl6]
  refine ⟨by rw [gwM_o (by decide) (by decide), h1, List.length_append, List.length_append]; rfl, fun t ht => ?_⟩
  rw [List.length_append] at ht
  have ht2 : t < ts.length + 1 := ht
  rw [gwM_o (by decide) (by decide), gwM_o (by decide) (by decide), gwM_48, gwM_49]
  by_cases z : t = ts.length
  · subst z
    rw [gd_r, if_pos rfl, q1, q2, q3, q4, nI_1]
    refine ⟨rfl, rfl, rfl, ?_⟩
    by_cases y : s = 2
    · rw [if_pos ⟨rfl, y⟩, if_pos y]
    · rw [if_neg (fun w => y w.2), if_neg y]
  · rw [gd_l (by omega), if_neg z, if_neg (fun w => z w.1)]
    have := h2 t (by rw [List.length_append]; exact ht)
    rw [gd_l (by omega)] at this
    exact this
theorem sp_rep {f : Nat → Int32} : ∀ (n i : Nat) (b : Int32) (M : Mem) (ts : List Tok), M 45 = f → ts.length ≤ i → i + n ≤ 120 → (RP M ts ∧ ¬ (b = 1 ∨ b = 2) → RP (spM n i b M) (ts ++ scT f n i none)) ∧ (∀ s v, RP M (ts ++ [(b, s, i, v)]) ∧ (b = 1 ∨ b = 2) ∧ ts.length + 1 ≤ i → RP (spM n i b M) (ts ++ scT f n i (some (b, s, v)))) := by
  intro n
  induction n with
  | zero =>
    intro i b M ts _ _ _
    refine ⟨fun h => ?_, fun s v h => ?_⟩
    · rw [spM, scT, List.append_nil]
      exact h.1
    · rw [spM, scT]
      exact h.1
  | succ n ih =>
    intro i b M ts hf hts hi
    have f45 : stepM M b i 45 = f := by rw [stepM_o (by omega)]; exact hf
    have eM : M 45 i = f i := by rw [hf]
    -- a new token
    have fresh : ∀ us : List Tok, us.length ≤ i → RP M us → ¬ goO (stO (f i)) b → RP (spM n (i + 1) (stO (f i)) (stepM M b i)) (us ++ scT f (n + 1) i none) := by
      intro us hus hR hg
      have hst : stepM M b i = if stO (f i) = 0 then M else gwL (bgM M (stO (f i)) (nI i)) (f i) := by
        unfold stepM
        rw [eM, if_neg hg]
      rw [scT]
      by_cases h0 : stO (f i) = 0
      · rw [if_pos h0]
        have e1 : stepM M b i = M := by rw [hst, if_pos h0]
        rw [e1]
        exact (ih (i + 1) (stO (f i)) M us hf (by omega) (by omega)).1 ⟨hR, by rw [h0]; decide⟩
      · rw [if_neg h0]
        have e1 : stepM M b i = gwL (bgM M (stO (f i)) (nI i)) (f i) := by rw [hst, if_neg h0]
        have hR2 := (hR.bg (s := stO (f i)) (b := i) (by omega)).gw (c := f i) (by omega)
        rw [← e1] at hR2
        by_cases h12 : stO (f i) = 1 ∨ stO (f i) = 2
        · rw [if_pos h12]
          exact (ih (i + 1) (stO (f i)) (stepM M b i) us f45 (by omega) (by omega)).2 i _ ⟨hR2, h12, by omega⟩
        · rw [if_neg h12]
          have h2 : ¬ stO (f i) = 2 := fun z => h12 (Or.inr z)
          rw [if_neg h2] at hR2
          have := (ih (i + 1) (stO (f i)) (stepM M b i) (us ++ [(stO (f i), i, i + 1, 0)]) f45 (by rw [List.length_append]; show us.length + 1 ≤ _; omega) (by omega)).1 ⟨hR2, h12⟩
          rw [List.append_assoc] at this
          exact this
    refine ⟨fun h => ?_, fun s v h => ?_⟩
    · rw [spM, eM]
      refine fresh ts hts h.1 (fun z => h.2 ?_)
      rw [← z.1]
      exact z.2
    · obtain ⟨hR, hb, hlen⟩ := h
      rw [spM, eM]
      by_cases hc : stO (f i) = b
      · rw [sc_go hc, hc]
        have hne : ¬ stO (f i) = 0 := by
          rw [hc]
          rcases hb with z | z <;> (rw [z]; decide)
        have e1 : stepM M b i = gwL M (f i) := by
          unfold stepM
          rw [eM, if_neg hne, if_pos ⟨hc, by rw [hc]; exact hb⟩]
        have hR2 := hR.gw (c := f i) (by omega)
        rw [← e1] at hR2
        exact (ih (i + 1) b (stepM M b i) ts f45 (by omega) (by omega)).2 s _ ⟨hR2, hb, by omega⟩
      · rw [sc_close (Or.inr hc)]
        have := fresh (ts ++ [(b, s, i, v)]) (by rw [List.length_append]; exact hlen) hR (fun z => hc z.1)
        rw [List.append_assoc] at this
        exact this
/-- the tokens of the tape -/
def tkL (f : Nat → Int32) (N : Nat) : List Tok := scT f N 0 none
theorem spl_rep {M : Mem} {N : Nat} (hN : N ≤ 120) : RP (splM M N) (tkL (M 45) N ++ [(5, N, N, 0)]) := by
  unfold splM
  have h := (sp_rep (f := M 45) N 0 0 (mset M 44 6 0) [] (mset_n (by decide)) (Nat.le_refl _) (by omega)).1 ⟨⟨by rw [mset_s, upd_s]; rfl, fun t ht => absurd ht (Nat.not_lt_zero _)⟩, by decide⟩
  rw [List.nil_append] at h
  have hl := (sc_len (f := M 45) N 0).1
  exact h.bg (by omega)
/-- words bear their numbers -/
def nmV (f : Nat → Int32) (t : Tok) : Int32 := if t.1 = 1 then nI (wnN f t.2.1 t.2.2.1 13 0) else t.2.2.2
theorem wn_G {M : Mem} {a b : Nat} : ∀ (n j : Nat), wnG M a b n j = nI (wnN (M 45) a b n j) := by
  intro n
  induction n with
  | zero => intro j; rfl
  | succ n ih =>
    intro j
    rw [wnG, wnN]
    by_cases z : wdI M a b j
    · rw [if_pos z, if_pos z]
    · rw [if_neg z, if_neg z]
      exact ih (j + 1)
theorem wn_G49 {M : Mem} {i : Nat} {v : Int32} : (mset M 49 i v) 45 = M 45 := mset_n (by decide)
theorem nw_rep {f : Nat → Int32} {ts : List Tok} (hb : ∀ t, t < ts.length → (ts.getD t (0, 0, 0, 0)).2.1 < 2 ^ 31 ∧ (ts.getD t (0, 0, 0, 0)).2.2.1 < 2 ^ 31) : ∀ (n i : Nat) (M : Mem), M 45 = f → i + n = ts.length → (∀ t, t < ts.length → M 46 t = (ts.getD t (0, 0, 0, 0)).1 ∧ M 47 t = nI (ts.getD t (0, 0, 0, 0)).2.1 ∧ M 48 t = nI (ts.getD t (0, 0, 0, 0)).2.2.1) → (∀ t, t < ts.length → M 49 t = if t < i then nmV f (ts.getD t (0, 0, 0, 0)) else (ts.getD t (0, 0, 0, 0)).2.2.2) → ∀ t, t < ts.length → nwM n i M 49 t = nmV f (ts.getD t (0, 0, 0, 0)) := by
  intro n
  induction n with
  | zero =>
    intro i M hf hi h1 h2 t ht
    rw [nwM, h2 t ht, if_pos (by omega)]
  | succ n ih =>
    intro i M hf hi h1 h2
    rw [nwM]
    obtain ⟨q1, q2, q3⟩ := h1 i (by omega)
    obtain ⟨b1, b2⟩ := hb i (by omega)
    have e : ∀ p, p ≠ 49 → (if M 46 i = 1 then mset M 49 i (wnG M (M 47 i).toNatClampNeg (M 48 i).toNatClampNeg 13 0) else M) p = M p := fun p hp => by
      split
      · exact mset_n (bq hp)
      · rfl
    refine ih (i + 1) _ ((e 45 (by decide)).trans hf) (by omega) (fun t ht => by rw [e 46 (by decide), e 47 (by decide), e 48 (by decide)]; exact h1 t ht) (fun t ht => ?_)
    by_cases z : M 46 i = 1
    · rw [if_pos z, mset_s]
      by_cases y : t = i
      · subst y
        rw [upd_s, if_pos (Nat.lt_succ_self _), q2, q3, nI_clamp b1, nI_clamp b2, wn_G, hf]
        unfold nmV
        rw [if_pos (by rw [← q1]; exact z)]
      · rw [un y, h2 t ht]
        by_cases w : t < i
        · rw [if_pos w, if_pos (by omega)]
        · rw [if_neg w, if_neg (by omega)]
    · rw [if_neg z, h2 t ht]
      by_cases y : t = i
      · subst y
        rw [if_neg (Nat.lt_irrefl _), if_pos (Nat.lt_succ_self _)]
        unfold nmV
        rw [if_neg (by rw [← q1]; exact z)]
      · by_cases w : t < i
        · rw [if_pos w, if_pos (by omega)]
        · rw [if_neg w, if_neg (by omega)]
/-- tokens lie within the bytes, and have a class -/
theorem sc_ok {f : Nat → Int32} {N : Nat} : ∀ (n i : Nat), i + n = N → (∀ t ∈ scT f n i none, t.2.1 < N ∧ t.2.2.1 ≤ N ∧ (t.1 = 1 ∨ t.1 = 2 ∨ t.1 = 3 ∨ t.1 = 4)) ∧ ∀ c s v, (c = 1 ∨ c = 2) → s < i → ∀ t ∈ scT f n i (some (c, s, v)), t.2.1 < N ∧ t.2.2.1 ≤ N ∧ (t.1 = 1 ∨ t.1 = 2 ∨ t.1 = 3 ∨ t.1 = 4) := by
  intro n
  induction n with
  | zero =>
    intro i hi
    refine ⟨fun t ht => absurd ht List.not_mem_nil, fun c s v hc hs t ht => ?_⟩
    have : t = (c, s, i, v) := by simpa [scT] using ht
    rw [this]
    refine ⟨by show s < N; omega, by show i ≤ N; omega, ?_⟩
    rcases hc with z | z
    · exact Or.inl z
    · exact Or.inr (Or.inl z)
  | succ n ih =>
    intro i hi
    obtain ⟨a1, a2⟩ := ih (i + 1) (by omega)
    have hnone : ∀ t ∈ scT f (n + 1) i none, t.2.1 < N ∧ t.2.2.1 ≤ N ∧ (t.1 = 1 ∨ t.1 = 2 ∨ t.1 = 3 ∨ t.1 = 4) := by
      intro t ht
      rw [scT] at ht
      by_cases h0 : stO (f i) = 0
      · rw [if_pos h0] at ht
        exact a1 t ht
      · rw [if_neg h0] at ht
        by_cases h12 : stO (f i) = 1 ∨ stO (f i) = 2
        · rw [if_pos h12] at ht
          exact a2 _ _ _ h12 (by omega) t ht
        · rw [if_neg h12] at ht
          rcases List.mem_cons.mp ht with z | z
          · rw [z]
            refine ⟨by show i < N; omega, by show i + 1 ≤ N; omega, ?_⟩
            rcases stO_5 (f i) with y | y | y | y | y
            · exact absurd y h0
            · exact absurd (Or.inl y) h12
            · exact absurd (Or.inr y) h12
            · exact Or.inr (Or.inr (Or.inl y))
            · exact Or.inr (Or.inr (Or.inr y))
          · exact a1 t z
    refine ⟨hnone, fun c s v hc hs t ht => ?_⟩
    by_cases h : stO (f i) = c
    · rw [sc_go h] at ht
      exact a2 c s _ hc (by omega) t ht
    · rw [sc_close (Or.inr h)] at ht
      rcases List.mem_cons.mp ht with z | z
      · rw [z]
        refine ⟨by show s < N; omega, by show i ≤ N; omega, ?_⟩
        rcases hc with y | y
        · exact Or.inl y
        · exact Or.inr (Or.inl y)
      · exact hnone t z
