/-! THE FIRST MEMORY -/
def r50 : Nat → Int32 := upd (upd (upd (upd (upd (upd (upd (upd (upd (upd (upd (upd (fun _ => 0) 0 (50)) 1 (50)) 2 (50)) 3 (50)) 4 (50)) 5 (50)) 6 (50)) 7 (50)) 8 (50)) 9 (50)) 10 (50)) 11 (50)
def rM1 : Nat → Int32 := upd (upd (upd (upd (upd (upd (upd (upd (upd (upd (fun _ => 0) 0 (-1)) 1 (-1)) 2 (-1)) 3 (-1)) 4 (-1)) 5 (-1)) 6 (-1)) 7 (-1)) 8 (-1)) 9 (-1)
def rNow : Nat → Int32 := upd (upd (upd (upd (upd (upd (upd (upd (upd (upd (upd (upd (upd (upd (upd (upd (upd (upd (upd (upd (upd (upd (upd (fun _ => 0) 2 (1)) 14 (50)) 15 (50)) 16 (50)) 17 (50)) 18 (50)) 19 (50)) 20 (50)) 21 (50)) 22 (50)) 23 (50)) 24 (50)) 25 (50)) 4 (-1)) 5 (-1)) 6 (-1)) 7 (-1)) 8 (-1)) 9 (-1)) 10 (-1)) 11 (-1)) 12 (-1)) 13 (-1)
/-- what the constructors leave, by places -/
def M0 : Mem := fun p =>
  if p = 1 ∨ p = 8 ∨ p = 15 ∨ p = 26 then (fun k => if k = 9 then 1 else 0)
  else if p = 2 ∨ p = 9 ∨ p = 16 ∨ p = 27 then r50
  else if p = 7 ∨ p = 14 ∨ p = 21 ∨ p = 32 then rM1
  else if p = 22 ∨ p = 33 then (fun k => if k = 2 then 50 else if k = 3 then 30 else 0)
  else if p = 44 then (fun k => if k = 8 then 5 else 0)
  else if p = 60 then rNow
  else fun _ => 0
theorem M0_RB : RB M0 1 (M0 60) := by
  refine ⟨by decide +kernel, by decide +kernel, by decide +kernel, by decide +kernel, by decide +kernel, by decide +kernel, by decide +kernel⟩
theorem M0_RI : RI (M0 60) := by
  refine ⟨⟨0, by decide, by decide +kernel⟩, ?_, ?_, by decide +kernel, fun s hs => Or.inl ?_, ⟨0, by decide, by decide +kernel⟩⟩
  · unfold isG
    decide +kernel
  · unfold isK
    decide +kernel
  · revert s
    decide +kernel
theorem M0_RS : RS M0 := by
  refine ⟨fun s hs => ?_, fun s hs => ⟨0, by decide, ?_⟩⟩
  · have : s = 0 ∨ s = 1 ∨ s = 2 ∨ s = 3 := by omega
    rcases this with rfl | rfl | rfl | rfl
    · exact ⟨rfl, rfl, fun _ _ => rfl⟩
    · exact ⟨rfl, rfl, fun _ _ => rfl⟩
    · exact ⟨rfl, rfl, fun _ _ => rfl⟩
    · exact ⟨rfl, rfl, fun _ _ => rfl⟩
  · rfl
theorem M0_RM : RM M0 := ⟨M0_RB, M0_RI, ⟨rfl, Or.inl rfl, fun z => absurd rfl z⟩, ⟨fun _ _ => rfl, by decide +kernel⟩, M0_RS, ⟨fun _ _ => ⟨rfl, by show ¬ (0 : Int32) < 0; decide⟩, rfl, ⟨0, by decide, rfl⟩⟩⟩
