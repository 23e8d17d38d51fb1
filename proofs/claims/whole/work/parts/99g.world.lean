/-! THE FIRST WORLD -/
theorem rw_35 (σ : Nat → Nat) : (fun i => ((shO 35).2.2.getD i none).map σ) = (fun i => if i < 7 then some (σ (36 + i)) else none) := by
  funext i
  by_cases h : i < 7
  · rw [if_pos h]
    have : i = 0 ∨ i = 1 ∨ i = 2 ∨ i = 3 ∨ i = 4 ∨ i = 5 ∨ i = 6 := by omega
    rcases this with rfl | rfl | rfl | rfl | rfl | rfl | rfl <;> rfl
  · rw [if_neg h]
    have e : (shO 35).2.2.length ≤ i := by
      show 7 ≤ i
      omega
    simp [List.getD, List.getElem?_eq_none e]
theorem rw_51 (σ : Nat → Nat) : (fun i => ((shO 51).2.2.getD i none).map σ) = (fun i => if i < 4 then some (σ (52 + i)) else none) := by
  funext i
  by_cases h : i < 4
  · rw [if_pos h]
    have : i = 0 ∨ i = 1 ∨ i = 2 ∨ i = 3 := by omega
    rcases this with rfl | rfl | rfl | rfl <;> rfl
  · rw [if_neg h]
    have e : (shO 51).2.2.length ≤ i := by
      show 4 ≤ i
      omega
    simp [List.getD, List.getElem?_eq_none e]
theorem rw_68 (σ : Nat → Nat) : (fun i => ((shO 68).2.2.getD i none).map σ) = (fun i => if i < 7 then some (σ (100 + i)) else none) := by
  funext i
  by_cases h : i < 7
  · rw [if_pos h]
    have : i = 0 ∨ i = 1 ∨ i = 2 ∨ i = 3 ∨ i = 4 ∨ i = 5 ∨ i = 6 := by omega
    rcases this with rfl | rfl | rfl | rfl | rfl | rfl | rfl <;> rfl
  · rw [if_neg h]
    have e : (shO 68).2.2.length ≤ i := by
      show 7 ≤ i
      omega
    simp [List.getD, List.getElem?_eq_none e]
def w0A (σ : Nat → Nat) (tc : Nat × Nat × Nat) : va_W := [(σ 0, .inr (5, [.ref (σ 1), .ref (σ 8), .ref (σ 15), .ref (σ 22), .ref (σ 24), .ref (σ 25), .ref (σ 44), .ref (σ 50), .ref (σ 58), .int 0])), (σ 1, .inr (0, [.ref (σ 2), .ref (σ 3), .ref (σ 4), .ref (σ 5), .ref (σ 6), .ref (σ 7), .int 0, .int 0, .int 0, .int 1])), (σ 2, .inl (tc.1, 12, .inl (upd (upd (upd (upd (upd (upd (upd (upd (upd (upd (upd (upd (fun _ => 0) 0 (50)) 1 (50)) 2 (50)) 3 (50)) 4 (50)) 5 (50)) 6 (50)) 7 (50)) 8 (50)) 9 (50)) 10 (50)) 11 (50)))), (σ 3, .inl (tc.1, 6, .inl (fun _ => 0))), (σ 4, .inl (tc.1, 6, .inl (fun _ => 0))), (σ 5, .inl (tc.1, 6, .inl (fun _ => 0))), (σ 6, .inl (tc.1, 6, .inl (fun _ => 0))), (σ 7, .inl (tc.1, 10, .inl (upd (upd (upd (upd (upd (upd (upd (upd (upd (upd (fun _ => 0) 0 (-1)) 1 (-1)) 2 (-1)) 3 (-1)) 4 (-1)) 5 (-1)) 6 (-1)) 7 (-1)) 8 (-1)) 9 (-1)))), (σ 8, .inr (0, [.ref (σ 9), .ref (σ 10), .ref (σ 11), .ref (σ 12), .ref (σ 13), .ref (σ 14), .int 0, .int 0, .int 0, .int 1])), (σ 9, .inl (tc.1, 12, .inl (upd (upd (upd (upd (upd (upd (upd (upd (upd (upd (upd (upd (fun _ => 0) 0 (50)) 1 (50)) 2 (50)) 3 (50)) 4 (50)) 5 (50)) 6 (50)) 7 (50)) 8 (50)) 9 (50)) 10 (50)) 11 (50)))), (σ 10, .inl (tc.1, 6, .inl (fun _ => 0))), (σ 11, .inl (tc.1, 6, .inl (fun _ => 0))), (σ 12, .inl (tc.1, 6, .inl (fun _ => 0))), (σ 13, .inl (tc.1, 6, .inl (fun _ => 0))), (σ 14, .inl (tc.1, 10, .inl (upd (upd (upd (upd (upd (upd (upd (upd (upd (upd (fun _ => 0) 0 (-1)) 1 (-1)) 2 (-1)) 3 (-1)) 4 (-1)) 5 (-1)) 6 (-1)) 7 (-1)) 8 (-1)) 9 (-1)))), (σ 15, .inr (0, [.ref (σ 16), .ref (σ 17), .ref (σ 18), .ref (σ 19), .ref (σ 20), .ref (σ 21), .int 0, .int 0, .int 0, .int 1])), (σ 16, .inl (tc.1, 12, .inl (upd (upd (upd (upd (upd (upd (upd (upd (upd (upd (upd (upd (fun _ => 0) 0 (50)) 1 (50)) 2 (50)) 3 (50)) 4 (50)) 5 (50)) 6 (50)) 7 (50)) 8 (50)) 9 (50)) 10 (50)) 11 (50)))), (σ 17, .inl (tc.1, 6, .inl (fun _ => 0))), (σ 18, .inl (tc.1, 6, .inl (fun _ => 0))), (σ 19, .inl (tc.1, 6, .inl (fun _ => 0))), (σ 20, .inl (tc.1, 6, .inl (fun _ => 0))), (σ 21, .inl (tc.1, 10, .inl (upd (upd (upd (upd (upd (upd (upd (upd (upd (upd (fun _ => 0) 0 (-1)) 1 (-1)) 2 (-1)) 3 (-1)) 4 (-1)) 5 (-1)) 6 (-1)) 7 (-1)) 8 (-1)) 9 (-1)))), (σ 22, .inr (4, [.ref (σ 23), .int 0, .int 50, .int 30, .int 0])), (σ 23, .inl (tc.1, 12, .inl (fun _ => 0))), (σ 24, .inl (tc.1, 12, .inl (fun _ => 0))), (σ 25, .inr (1, [.ref (σ 26), .ref (σ 33), .ref (σ 35), .ref (σ 43)])), (σ 26, .inr (0, [.ref (σ 27), .ref (σ 28), .ref (σ 29), .ref (σ 30), .ref (σ 31), .ref (σ 32), .int 0, .int 0, .int 0, .int 1])), (σ 27, .inl (tc.1, 12, .inl (upd (upd (upd (upd (upd (upd (upd (upd (upd (upd (upd (upd (fun _ => 0) 0 (50)) 1 (50)) 2 (50)) 3 (50)) 4 (50)) 5 (50)) 6 (50)) 7 (50)) 8 (50)) 9 (50)) 10 (50)) 11 (50)))), (σ 28, .inl (tc.1, 6, .inl (fun _ => 0))), (σ 29, .inl (tc.1, 6, .inl (fun _ => 0))), (σ 30, .inl (tc.1, 6, .inl (fun _ => 0))), (σ 31, .inl (tc.1, 6, .inl (fun _ => 0))), (σ 32, .inl (tc.1, 10, .inl (upd (upd (upd (upd (upd (upd (upd (upd (upd (upd (fun _ => 0) 0 (-1)) 1 (-1)) 2 (-1)) 3 (-1)) 4 (-1)) 5 (-1)) 6 (-1)) 7 (-1)) 8 (-1)) 9 (-1)))), (σ 33, .inr (4, [.ref (σ 34), .int 0, .int 50, .int 30, .int 0])), (σ 34, .inl (tc.1, 12, .inl (fun _ => 0))), (σ 35, .inl (tc.2.1, 7, .inr (.inr (.inr (.inr (fun i => if i < 7 then some (σ (36 + i)) else none)))))), (σ 36, .inl (tc.1, 12, .inl (fun _ => 0))), (σ 37, .inl (tc.1, 12, .inl (fun _ => 0))), (σ 38, .inl (tc.1, 12, .inl (fun _ => 0))), (σ 39, .inl (tc.1, 12, .inl (fun _ => 0))), (σ 40, .inl (tc.1, 12, .inl (fun _ => 0))), (σ 41, .inl (tc.1, 12, .inl (fun _ => 0))), (σ 42, .inl (tc.1, 12, .inl (fun _ => 0))), (σ 43, .inl (tc.1, 6, .inl (fun _ => 0))), (σ 44, .inr (2, [.ref (σ 45), .int 0, .ref (σ 46), .ref (σ 47), .ref (σ 48), .ref (σ 49), .int 0, .int 0, .int 5, .int 0])), (σ 45, .inl (tc.1, 120, .inl (fun _ => 0))), (σ 46, .inl (tc.1, 121, .inl (fun _ => 0))), (σ 47, .inl (tc.1, 121, .inl (fun _ => 0))), (σ 48, .inl (tc.1, 121, .inl (fun _ => 0))), (σ 49, .inl (tc.1, 121, .inl (fun _ => 0))), (σ 50, .inr (3, [.ref (σ 51), .ref (σ 56), .ref (σ 57)])), (σ 51, .inl (tc.2.1, 4, .inr (.inr (.inr (.inr (fun i => if i < 4 then some (σ (52 + i)) else none)))))), (σ 52, .inl (tc.1, 40, .inl (fun _ => 0))), (σ 53, .inl (tc.1, 40, .inl (fun _ => 0))), (σ 54, .inl (tc.1, 40, .inl (fun _ => 0))), (σ 55, .inl (tc.1, 40, .inl (fun _ => 0))), (σ 56, .inl (tc.1, 4, .inl (fun _ => 0))), (σ 57, .inl (tc.1, 4, .inl (fun _ => 0))), (σ 58, .inl (tc.1, 7, .inl (fun _ => 0)))]
def w0B (σ : Nat → Nat) (tc : Nat × Nat × Nat) : va_W := [(σ 59, .inr (6, [.ref (σ 60), .ref (σ 61), .ref (σ 62), .int 0, .ref (σ 63), .ref (σ 64), .ref (σ 65), .ref (σ 66), .int 0, .int 0, .int 0, .ref (σ 67), .int 0, .int 0, .int 0, .int 0, .int 0, .int 0, .ref (σ 68), .ref (σ 69), .int 0, .int 0, .ref (σ 70), .ref (σ 71), .ref (σ 72), .ref (σ 73)])), (σ 60, .inl (tc.1, 50, .inl (upd (upd (upd (upd (upd (upd (upd (upd (upd (upd (upd (upd (upd (upd (upd (upd (upd (upd (upd (upd (upd (upd (upd (fun _ => 0) 2 (1)) 14 (50)) 15 (50)) 16 (50)) 17 (50)) 18 (50)) 19 (50)) 20 (50)) 21 (50)) 22 (50)) 23 (50)) 24 (50)) 25 (50)) 4 (-1)) 5 (-1)) 6 (-1)) 7 (-1)) 8 (-1)) 9 (-1)) 10 (-1)) 11 (-1)) 12 (-1)) 13 (-1)))), (σ 61, .inl (tc.1, 50, .inl (fun _ => 0))), (σ 62, .inl (tc.1, 50, .inl (fun _ => 0))), (σ 63, .inl (tc.1, 8, .inl (fun _ => 0))), (σ 64, .inl (tc.1, 350, .inl (fun _ => 0))), (σ 65, .inl (tc.1, 6, .inl (fun _ => 0))), (σ 66, .inl (tc.1, 6, .inl (fun _ => 0))), (σ 67, .inl (tc.1, 120, .inl (fun _ => 0))), (σ 68, .inl (tc.2.2, 7, .inr (.inr (.inr (.inr (fun i => if i < 7 then some (σ (100 + i)) else none)))))), (σ 69, .inl (tc.1, 360, .inl (fun _ => 0))), (σ 70, .inl (tc.1, 4, .inl (fun _ => 0))), (σ 71, .inl (tc.1, 4, .inl (fun _ => 0))), (σ 72, .inl (tc.1, 160, .inl (fun _ => 0))), (σ 73, .inl (tc.1, 40, .inl (fun _ => 0)))]
theorem w0_at (σ : Nat → Nat) (tc : Nat × Nat × Nat) : ∀ k, k < 74 → (w0A σ tc ++ w0B σ tc)[k]? = some (σ k, cel σ tc M0 k)
  | 0, _ => rfl
  | 1, _ => rfl
  | 2, _ => rfl
  | 3, _ => rfl
  | 4, _ => rfl
  | 5, _ => rfl
  | 6, _ => rfl
  | 7, _ => rfl
  | 8, _ => rfl
  | 9, _ => rfl
  | 10, _ => rfl
  | 11, _ => rfl
  | 12, _ => rfl
  | 13, _ => rfl
  | 14, _ => rfl
  | 15, _ => rfl
  | 16, _ => rfl
  | 17, _ => rfl
  | 18, _ => rfl
  | 19, _ => rfl
  | 20, _ => rfl
  | 21, _ => rfl
  | 22, _ => rfl
  | 23, _ => rfl
  | 24, _ => rfl
  | 25, _ => rfl
  | 26, _ => rfl
  | 27, _ => rfl
  | 28, _ => rfl
  | 29, _ => rfl
  | 30, _ => rfl
  | 31, _ => rfl
  | 32, _ => rfl
  | 33, _ => rfl
  | 34, _ => rfl
  | 35, _ => by
    show some (σ 35, _) = _
    rw [← rw_35 σ]
    rfl
  | 36, _ => rfl
  | 37, _ => rfl
  | 38, _ => rfl
  | 39, _ => rfl
  | 40, _ => rfl
  | 41, _ => rfl
  | 42, _ => rfl
  | 43, _ => rfl
  | 44, _ => rfl
  | 45, _ => rfl
  | 46, _ => rfl
  | 47, _ => rfl
  | 48, _ => rfl
  | 49, _ => rfl
  | 50, _ => rfl
  | 51, _ => by
    show some (σ 51, _) = _
    rw [← rw_51 σ]
    rfl
  | 52, _ => rfl
  | 53, _ => rfl
  | 54, _ => rfl
  | 55, _ => rfl
  | 56, _ => rfl
  | 57, _ => rfl
  | 58, _ => rfl
  | 59, _ => rfl
  | 60, _ => rfl
  | 61, _ => rfl
  | 62, _ => rfl
  | 63, _ => rfl
  | 64, _ => rfl
  | 65, _ => rfl
  | 66, _ => rfl
  | 67, _ => rfl
  | 68, _ => by
    show some (σ 68, _) = _
    rw [← rw_68 σ]
    rfl
  | 69, _ => rfl
  | 70, _ => rfl
  | 71, _ => rfl
  | 72, _ => rfl
  | 73, _ => rfl
  | k + 74, h => absurd h (by omega)
theorem ws_0 (σ : Nat → Nat) (tc : Nat × Nat × Nat) : w0A σ tc ++ w0B σ tc = wsM σ tc M0 := by
  apply List.ext_getElem?
  intro k
  by_cases h : k < 74
  · rw [w0_at σ tc k h, ws_get (show k < NP from h)]
  · rw [List.getElem?_eq_none (by show 74 ≤ k; omega), List.getElem?_eq_none (by rw [ws_len]; show 74 ≤ k; omega)]
theorem inj_0 {σ : Nat → Nat} {tc : Nat × Nat × Nat} {A : Nat → Prop} (h : va_D A (w0A σ tc ++ w0B σ tc)) : InjM σ ∧ ∀ q, Am σ q → A q := by
  refine ⟨fun p q hp hq e => h.1 p q _ _ (w0_at σ tc p hp) (w0_at σ tc q hq) e, ?_⟩
  rintro q ⟨p, hp, rfl⟩
  exact h.2 p _ (w0_at σ tc p hp)
