/-! a step, its fuel a literal -/
theorem vc_d {oc : Nat} {cc : ByteArray} {ret : Option FieldType} {cs : Nat → List Value → Mem → (Value → Mem → Prop) → Prop} {post : Value → Mem → Prop} {cuts : List Nat} {P : Nat → List Value → List Value → Mem → Prop} {n pc : Nat} {L st : List Value} {M : Mem} : vc oc cc ret cs post cuts P n pc L st M = if n = 0 then P pc L st M else if pc ∈ cuts then P pc L st M else vstp oc ret cs post (vc oc cc ret cs post cuts P (n - 1)) (decode cc pc) pc L st M := by
  cases n with
  | zero => rfl
  | succ n =>
    rw [if_neg (Nat.succ_ne_zero n)]
    rfl
