/-! X: read -/
def tkI (M : Mem) (t q : Nat) : Prop := M 44 6 = nI t ∧ t ≤ q ∧ ∀ i, i < t → M 46 i = 1 → ∃ a b, M 47 i = nI a ∧ M 48 i = nI b ∧ a ≤ b ∧ b ≤ q
theorem bgM_46 {M : Mem} {s b : Int32} {t i : Nat} (ht : M 44 6 = nI t) (h : t < 2 ^ 31) : bgM M s b 46 i = (if i = t then s else M 46 i) ∧ bgM M s b 47 i = (if i = t then b else M 47 i) ∧ bgM M s b 48 i = (if i = t then b else M 48 i) ∧ bgM M s b 49 i = (if i = t then 0 else M 49 i) := by
  have e : (M 44 6).toNatClampNeg = t := by rw [ht, nI_clamp h]
  unfold bgM mset
  rw [e]
  refine ⟨?_, ?_, ?_, ?_⟩
  · rw [mrow_n (by decide), mrow_n (by decide), mrow_n (by decide), mrow_n (by decide), mrow_s]
    rfl
  · rw [mrow_n (by decide), mrow_n (by decide), mrow_n (by decide), mrow_s, mrow_n (by decide)]
    rfl
  · rw [mrow_n (by decide), mrow_n (by decide), mrow_s, mrow_n (by decide), mrow_n (by decide)]
    rfl
  · rw [mrow_n (by decide), mrow_s, mrow_n (by decide), mrow_n (by decide), mrow_n (by decide)]
    rfl
theorem gwM_48 {M : Mem} {v : Int32} {l i : Nat} : gwM M v l 48 i = if i = l then M 48 l + 1 else M 48 i := by
  unfold gwM mset
  split
  · rw [mrow_n (by decide), mrow_s]
    rfl
  · rw [mrow_s]
    rfl
theorem bg_tkI {M : Mem} {t q : Nat} {s : Int32} (h : tkI M t q) (hq : q < 2 ^ 31) : tkI (bgM M s (nI q)) (t + 1) (q + 1) := by
  obtain ⟨h1, h2, h3⟩ := h
  have hb := fun i => bgM_46 (s := s) (b := nI q) (i := i) h1 (by omega)
  refine ⟨by rw [bgM_6, h1, nI_1], by omega, fun i hi => ?_⟩
  obtain ⟨b1, b2, b3, -⟩ := hb i
  rw [b1, b2, b3]
  by_cases e : i = t
  · rw [if_pos e, if_pos e, if_pos e]
    exact fun _ => ⟨q, q, rfl, rfl, by omega, by omega⟩
  · rw [if_neg e, if_neg e, if_neg e]
    intro hw
    obtain ⟨a, b, z1, z2, z3, z4⟩ := h3 i (by omega) hw
    exact ⟨a, b, z1, z2, z3, by omega⟩
/-- a byte comes to the last token: its end was at most q -/
theorem gw_tkI {M : Mem} {t q : Nat} {v : Int32} (h1 : M 44 6 = nI t) (h2 : t ≤ q + 1) (h0 : 1 ≤ t) (hq : q < 2 ^ 31 - 1) (h3 : ∀ i, i < t → M 46 i = 1 → ∃ a b, M 47 i = nI a ∧ M 48 i = nI b ∧ a ≤ b ∧ b ≤ q) : tkI (gwL M v) t (q + 1) := by
  obtain ⟨u, rfl⟩ : ∃ u, t = u + 1 := ⟨t - 1, by omega⟩
  have e : gwL M v = gwM M v u := by
    unfold gwL
    rw [h1, nI_pred, nI_clamp (by omega)]
  rw [e]
  refine ⟨by rw [gwM_o (by decide) (by decide)]; exact h1, h2, fun i hi => ?_⟩
  rw [gwM_o (p := 46) (by decide) (by decide), gwM_o (p := 47) (by decide) (by decide), gwM_48]
  intro hw
  obtain ⟨a, b, z1, z2, z3, z4⟩ := h3 i hi hw
  by_cases e : i = u
  · subst e
    rw [if_pos rfl]
    exact ⟨a, b + 1, z1, by rw [z2, nI_1], by omega, by omega⟩
  · rw [if_neg e]
    exact ⟨a, b, z1, z2, z3, by omega⟩
theorem bg_at {M : Mem} {t q : Nat} {s : Int32} (h : tkI M t q) (hq : q < 2 ^ 31) : ∀ i, i < t + 1 → bgM M s (nI q) 46 i = 1 → ∃ a b, bgM M s (nI q) 47 i = nI a ∧ bgM M s (nI q) 48 i = nI b ∧ a ≤ b ∧ b ≤ q := by
  intro i hi
  obtain ⟨h1, h2, h3⟩ := h
  obtain ⟨b1, b2, b3, -⟩ := bgM_46 (s := s) (b := nI q) (i := i) h1 (by omega)
  rw [b1, b2, b3]
  by_cases e : i = t
  · rw [if_pos e, if_pos e, if_pos e]
    exact fun _ => ⟨q, q, rfl, rfl, by omega, by omega⟩
  · rw [if_neg e, if_neg e, if_neg e]
    exact h3 i (by omega)
theorem step_tkI {M : Mem} {t q : Nat} {b : Int32} (h : tkI M t q) (hq : q < 1000) (hb : b ≠ 0 → 1 ≤ t) : ∃ t', tkI (stepM M b q) t' (q + 1) ∧ (stO (M 45 q) ≠ 0 → 1 ≤ t') := by
  unfold stepM
  by_cases h0 : stO (M 45 q) = 0
  · rw [if_pos h0]
    refine ⟨t, ⟨h.1, by have := h.2.1; omega, fun i hi hw => ?_⟩, fun z => absurd h0 z⟩
    obtain ⟨a, b, z1, z2, z3, z4⟩ := h.2.2 i hi hw
    exact ⟨a, b, z1, z2, z3, by omega⟩
  · rw [if_neg h0]
    by_cases h1 : goO (stO (M 45 q)) b
    · rw [if_pos h1]
      have ht : 1 ≤ t := hb (by rw [← h1.1]; exact h0)
      exact ⟨t, gw_tkI h.1 (by have := h.2.1; omega) ht (by omega) h.2.2, fun _ => ht⟩
    · rw [if_neg h1]
      refine ⟨t + 1, gw_tkI (by rw [bgM_6, h.1, nI_1]) (by have := h.2.1; omega) (by omega) (by omega) (bg_at h (by omega)), fun _ => by omega⟩
theorem sp_tkI : ∀ (n q t : Nat) (b : Int32) (M : Mem), tkI M t q → q + n < 1000 → (b ≠ 0 → 1 ≤ t) → ∃ t', tkI (spM n q b M) t' (q + n) := by
  intro n
  induction n with
  | zero => intro q t b M h _ _; exact ⟨t, h⟩
  | succ n ih =>
    intro q t b M h hq hb
    obtain ⟨t', h1, h2⟩ := step_tkI h (by omega) hb
    obtain ⟨t'', h3⟩ := ih (q + 1) t' _ _ h1 (by omega) h2
    refine ⟨t'', ?_⟩
    rw [spM, show q + (n + 1) = q + 1 + n by omega]
    exact h3
theorem spl_tkOK {M : Mem} {N : Nat} (hN : N ≤ 120) : ∃ T, tkOK (splM M N) T := by
  have h0 : tkI (mset M 44 6 0) 0 0 := ⟨by rw [mset_s, upd_s]; rfl, by omega, fun i hi => by omega⟩
  obtain ⟨t, h1⟩ := sp_tkI N 0 0 0 _ h0 (by omega) (fun z => absurd rfl z)
  rw [Nat.zero_add] at h1
  have hb := bg_at (s := 5) h1 (by omega)
  refine ⟨t + 1, ?_, by have := h1.2.1; omega, fun i hi hw => ?_⟩
  · unfold splM
    rw [bgM_6, h1.1, nI_1]
  · unfold splM at hw ⊢
    obtain ⟨a, b, z1, z2, z3, z4⟩ := hb i hi hw
    exact ⟨a, b, z1, z2, z3, by omega⟩
