/-! WHAT THE CONSTRUCTORS LEAVE, BY PLACES -/
theorem RA_at {D : va_G} {tys : List (ClassId × FieldType)} {t : State} {c : ClassId} {ty : FieldType} {k : Nat} (h : va_K D vwCl tys t) (hk : tys[k]? = some (c, ty)) : va_RA t c ty := (h.2 k _ hk).2
set_option maxHeartbeats 8000000 in
set_option maxRecDepth 100000 in
theorem post6 {D : va_G} {cI : ClassId} {h0 : Nat} {A : Nat → Prop} {t : State} (hB : ∃ (o5 : Nat), ∃ (q1_o5 : Nat), ∃ (q2_o5 : Nat), ∃ (q3_o5 : Nat), ∃ (q4_o5 : Nat), ∃ (q5_o5 : Nat), ∃ (q6_o5 : Nat), ∃ (o16 : Nat), ∃ (q1_o16 : Nat), ∃ (q2_o16 : Nat), ∃ (q3_o16 : Nat), ∃ (q4_o16 : Nat), ∃ (q5_o16 : Nat), ∃ (q6_o16 : Nat), ∃ (o27 : Nat), ∃ (q1_o27 : Nat), ∃ (q2_o27 : Nat), ∃ (q3_o27 : Nat), ∃ (q4_o27 : Nat), ∃ (q5_o27 : Nat), ∃ (q6_o27 : Nat), ∃ (o38 : Nat), ∃ (q1_o38 : Nat), ∃ (q24 : Nat), ∃ (o57 : Nat), ∃ (o5_o57 : Nat), ∃ (q1_o5_o57 : Nat), ∃ (q2_o5_o57 : Nat), ∃ (q3_o5_o57 : Nat), ∃ (q4_o5_o57 : Nat), ∃ (q5_o5_o57 : Nat), ∃ (q6_o5_o57 : Nat), ∃ (o16_o57 : Nat), ∃ (q1_o16_o57 : Nat), ∃ (q10_o57 : Nat), ∃ (rq10_o57 : Nat → Nat), ∃ (cAq10_o57 : ClassId), ∃ (q18_o57 : Nat), ∃ (o68 : Nat), ∃ (q1_o68 : Nat), ∃ (q2_o68 : Nat), ∃ (q3_o68 : Nat), ∃ (q4_o68 : Nat), ∃ (q5_o68 : Nat), ∃ (o79 : Nat), ∃ (q1_o79 : Nat), ∃ (rq1_o79 : Nat → Nat), ∃ (cAq1_o79 : ClassId), ∃ (q6_o79 : Nat), ∃ (q7_o79 : Nat), ∃ (q58 : Nat), va_P D vwCl [(h0, .inr (5, [.ref o5, .ref o16, .ref o27, .ref o38, .ref q24, .ref o57, .ref o68, .ref o79, .ref q58, .int 0])), (o5, .inr (0, [.ref q1_o5, .ref q2_o5, .ref q3_o5, .ref q4_o5, .ref q5_o5, .ref q6_o5, .int 0, .int 0, .int 0, .int 1])), (q1_o5, .inl (cI, 12, .inl (upd (upd (upd (upd (upd (upd (upd (upd (upd (upd (upd (upd (fun _ => 0) 0 (50)) 1 (50)) 2 (50)) 3 (50)) 4 (50)) 5 (50)) 6 (50)) 7 (50)) 8 (50)) 9 (50)) 10 (50)) 11 (50)))), (q2_o5, .inl (cI, 6, .inl (fun _ => 0))), (q3_o5, .inl (cI, 6, .inl (fun _ => 0))), (q4_o5, .inl (cI, 6, .inl (fun _ => 0))), (q5_o5, .inl (cI, 6, .inl (fun _ => 0))), (q6_o5, .inl (cI, 10, .inl (upd (upd (upd (upd (upd (upd (upd (upd (upd (upd (fun _ => 0) 0 (-1)) 1 (-1)) 2 (-1)) 3 (-1)) 4 (-1)) 5 (-1)) 6 (-1)) 7 (-1)) 8 (-1)) 9 (-1)))), (o16, .inr (0, [.ref q1_o16, .ref q2_o16, .ref q3_o16, .ref q4_o16, .ref q5_o16, .ref q6_o16, .int 0, .int 0, .int 0, .int 1])), (q1_o16, .inl (cI, 12, .inl (upd (upd (upd (upd (upd (upd (upd (upd (upd (upd (upd (upd (fun _ => 0) 0 (50)) 1 (50)) 2 (50)) 3 (50)) 4 (50)) 5 (50)) 6 (50)) 7 (50)) 8 (50)) 9 (50)) 10 (50)) 11 (50)))), (q2_o16, .inl (cI, 6, .inl (fun _ => 0))), (q3_o16, .inl (cI, 6, .inl (fun _ => 0))), (q4_o16, .inl (cI, 6, .inl (fun _ => 0))), (q5_o16, .inl (cI, 6, .inl (fun _ => 0))), (q6_o16, .inl (cI, 10, .inl (upd (upd (upd (upd (upd (upd (upd (upd (upd (upd (fun _ => 0) 0 (-1)) 1 (-1)) 2 (-1)) 3 (-1)) 4 (-1)) 5 (-1)) 6 (-1)) 7 (-1)) 8 (-1)) 9 (-1)))), (o27, .inr (0, [.ref q1_o27, .ref q2_o27, .ref q3_o27, .ref q4_o27, .ref q5_o27, .ref q6_o27, .int 0, .int 0, .int 0, .int 1])), (q1_o27, .inl (cI, 12, .inl (upd (upd (upd (upd (upd (upd (upd (upd (upd (upd (upd (upd (fun _ => 0) 0 (50)) 1 (50)) 2 (50)) 3 (50)) 4 (50)) 5 (50)) 6 (50)) 7 (50)) 8 (50)) 9 (50)) 10 (50)) 11 (50)))), (q2_o27, .inl (cI, 6, .inl (fun _ => 0))), (q3_o27, .inl (cI, 6, .inl (fun _ => 0))), (q4_o27, .inl (cI, 6, .inl (fun _ => 0))), (q5_o27, .inl (cI, 6, .inl (fun _ => 0))), (q6_o27, .inl (cI, 10, .inl (upd (upd (upd (upd (upd (upd (upd (upd (upd (upd (fun _ => 0) 0 (-1)) 1 (-1)) 2 (-1)) 3 (-1)) 4 (-1)) 5 (-1)) 6 (-1)) 7 (-1)) 8 (-1)) 9 (-1)))), (o38, .inr (4, [.ref q1_o38, .int 0, .int 50, .int 30, .int 0])), (q1_o38, .inl (cI, 12, .inl (fun _ => 0))), (q24, .inl (cI, 12, .inl (fun _ => 0))), (o57, .inr (1, [.ref o5_o57, .ref o16_o57, .ref q10_o57, .ref q18_o57])), (o5_o57, .inr (0, [.ref q1_o5_o57, .ref q2_o5_o57, .ref q3_o5_o57, .ref q4_o5_o57, .ref q5_o5_o57, .ref q6_o5_o57, .int 0, .int 0, .int 0, .int 1])), (q1_o5_o57, .inl (cI, 12, .inl (upd (upd (upd (upd (upd (upd (upd (upd (upd (upd (upd (upd (fun _ => 0) 0 (50)) 1 (50)) 2 (50)) 3 (50)) 4 (50)) 5 (50)) 6 (50)) 7 (50)) 8 (50)) 9 (50)) 10 (50)) 11 (50)))), (q2_o5_o57, .inl (cI, 6, .inl (fun _ => 0))), (q3_o5_o57, .inl (cI, 6, .inl (fun _ => 0))), (q4_o5_o57, .inl (cI, 6, .inl (fun _ => 0))), (q5_o5_o57, .inl (cI, 6, .inl (fun _ => 0))), (q6_o5_o57, .inl (cI, 10, .inl (upd (upd (upd (upd (upd (upd (upd (upd (upd (upd (fun _ => 0) 0 (-1)) 1 (-1)) 2 (-1)) 3 (-1)) 4 (-1)) 5 (-1)) 6 (-1)) 7 (-1)) 8 (-1)) 9 (-1)))), (o16_o57, .inr (4, [.ref q1_o16_o57, .int 0, .int 50, .int 30, .int 0])), (q1_o16_o57, .inl (cI, 12, .inl (fun _ => 0))), (q10_o57, .inl (cAq10_o57, 7, .inr (.inr (.inr (.inr (fun i => if i < 7 then some (rq10_o57 i) else none)))))), (rq10_o57 0, .inl (cI, 12, .inl (fun _ => 0))), (rq10_o57 1, .inl (cI, 12, .inl (fun _ => 0))), (rq10_o57 2, .inl (cI, 12, .inl (fun _ => 0))), (rq10_o57 3, .inl (cI, 12, .inl (fun _ => 0))), (rq10_o57 4, .inl (cI, 12, .inl (fun _ => 0))), (rq10_o57 5, .inl (cI, 12, .inl (fun _ => 0))), (rq10_o57 6, .inl (cI, 12, .inl (fun _ => 0))), (q18_o57, .inl (cI, 6, .inl (fun _ => 0))), (o68, .inr (2, [.ref q1_o68, .int 0, .ref q2_o68, .ref q3_o68, .ref q4_o68, .ref q5_o68, .int 0, .int 0, .int 5, .int 0])), (q1_o68, .inl (cI, 120, .inl (fun _ => 0))), (q2_o68, .inl (cI, 121, .inl (fun _ => 0))), (q3_o68, .inl (cI, 121, .inl (fun _ => 0))), (q4_o68, .inl (cI, 121, .inl (fun _ => 0))), (q5_o68, .inl (cI, 121, .inl (fun _ => 0))), (o79, .inr (3, [.ref q1_o79, .ref q6_o79, .ref q7_o79])), (q1_o79, .inl (cAq1_o79, 4, .inr (.inr (.inr (.inr (fun i => if i < 4 then some (rq1_o79 i) else none)))))), (rq1_o79 0, .inl (cI, 40, .inl (fun _ => 0))), (rq1_o79 1, .inl (cI, 40, .inl (fun _ => 0))), (rq1_o79 2, .inl (cI, 40, .inl (fun _ => 0))), (rq1_o79 3, .inl (cI, 40, .inl (fun _ => 0))), (q6_o79, .inl (cI, 4, .inl (fun _ => 0))), (q7_o79, .inl (cI, 4, .inl (fun _ => 0))), (q58, .inl (cI, 7, .inl (fun _ => 0)))] t.heap ∧ va_K D vwCl [(cI, .int), (cI, .int), (cAq10_o57, .array .int), (cI, .int), (cAq1_o79, .array .int)] t ∧ va_D A [(h0, .inr (5, [.ref o5, .ref o16, .ref o27, .ref o38, .ref q24, .ref o57, .ref o68, .ref o79, .ref q58, .int 0])), (o5, .inr (0, [.ref q1_o5, .ref q2_o5, .ref q3_o5, .ref q4_o5, .ref q5_o5, .ref q6_o5, .int 0, .int 0, .int 0, .int 1])), (q1_o5, .inl (cI, 12, .inl (upd (upd (upd (upd (upd (upd (upd (upd (upd (upd (upd (upd (fun _ => 0) 0 (50)) 1 (50)) 2 (50)) 3 (50)) 4 (50)) 5 (50)) 6 (50)) 7 (50)) 8 (50)) 9 (50)) 10 (50)) 11 (50)))), (q2_o5, .inl (cI, 6, .inl (fun _ => 0))), (q3_o5, .inl (cI, 6, .inl (fun _ => 0))), (q4_o5, .inl (cI, 6, .inl (fun _ => 0))), (q5_o5, .inl (cI, 6, .inl (fun _ => 0))), (q6_o5, .inl (cI, 10, .inl (upd (upd (upd (upd (upd (upd (upd (upd (upd (upd (fun _ => 0) 0 (-1)) 1 (-1)) 2 (-1)) 3 (-1)) 4 (-1)) 5 (-1)) 6 (-1)) 7 (-1)) 8 (-1)) 9 (-1)))), (o16, .inr (0, [.ref q1_o16, .ref q2_o16, .ref q3_o16, .ref q4_o16, .ref q5_o16, .ref q6_o16, .int 0, .int 0, .int 0, .int 1])), (q1_o16, .inl (cI, 12, .inl (upd (upd (upd (upd (upd (upd (upd (upd (upd (upd (upd (upd (fun _ => 0) 0 (50)) 1 (50)) 2 (50)) 3 (50)) 4 (50)) 5 (50)) 6 (50)) 7 (50)) 8 (50)) 9 (50)) 10 (50)) 11 (50)))), (q2_o16, .inl (cI, 6, .inl (fun _ => 0))), (q3_o16, .inl (cI, 6, .inl (fun _ => 0))), (q4_o16, .inl (cI, 6, .inl (fun _ => 0))), (q5_o16, .inl (cI, 6, .inl (fun _ => 0))), (q6_o16, .inl (cI, 10, .inl (upd (upd (upd (upd (upd (upd (upd (upd (upd (upd (fun _ => 0) 0 (-1)) 1 (-1)) 2 (-1)) 3 (-1)) 4 (-1)) 5 (-1)) 6 (-1)) 7 (-1)) 8 (-1)) 9 (-1)))), (o27, .inr (0, [.ref q1_o27, .ref q2_o27, .ref q3_o27, .ref q4_o27, .ref q5_o27, .ref q6_o27, .int 0, .int 0, .int 0, .int 1])), (q1_o27, .inl (cI, 12, .inl (upd (upd (upd (upd (upd (upd (upd (upd (upd (upd (upd (upd (fun _ => 0) 0 (50)) 1 (50)) 2 (50)) 3 (50)) 4 (50)) 5 (50)) 6 (50)) 7 (50)) 8 (50)) 9 (50)) 10 (50)) 11 (50)))), (q2_o27, .inl (cI, 6, .inl (fun _ => 0))), (q3_o27, .inl (cI, 6, .inl (fun _ => 0))), (q4_o27, .inl (cI, 6, .inl (fun _ => 0))), (q5_o27, .inl (cI, 6, .inl (fun _ => 0))), (q6_o27, .inl (cI, 10, .inl (upd (upd (upd (upd (upd (upd (upd (upd (upd (upd (fun _ => 0) 0 (-1)) 1 (-1)) 2 (-1)) 3 (-1)) 4 (-1)) 5 (-1)) 6 (-1)) 7 (-1)) 8 (-1)) 9 (-1)))), (o38, .inr (4, [.ref q1_o38, .int 0, .int 50, .int 30, .int 0])), (q1_o38, .inl (cI, 12, .inl (fun _ => 0))), (q24, .inl (cI, 12, .inl (fun _ => 0))), (o57, .inr (1, [.ref o5_o57, .ref o16_o57, .ref q10_o57, .ref q18_o57])), (o5_o57, .inr (0, [.ref q1_o5_o57, .ref q2_o5_o57, .ref q3_o5_o57, .ref q4_o5_o57, .ref q5_o5_o57, .ref q6_o5_o57, .int 0, .int 0, .int 0, .int 1])), (q1_o5_o57, .inl (cI, 12, .inl (upd (upd (upd (upd (upd (upd (upd (upd (upd (upd (upd (upd (fun _ => 0) 0 (50)) 1 (50)) 2 (50)) 3 (50)) 4 (50)) 5 (50)) 6 (50)) 7 (50)) 8 (50)) 9 (50)) 10 (50)) 11 (50)))), (q2_o5_o57, .inl (cI, 6, .inl (fun _ => 0))), (q3_o5_o57, .inl (cI, 6, .inl (fun _ => 0))), (q4_o5_o57, .inl (cI, 6, .inl (fun _ => 0))), (q5_o5_o57, .inl (cI, 6, .inl (fun _ => 0))), (q6_o5_o57, .inl (cI, 10, .inl (upd (upd (upd (upd (upd (upd (upd (upd (upd (upd (fun _ => 0) 0 (-1)) 1 (-1)) 2 (-1)) 3 (-1)) 4 (-1)) 5 (-1)) 6 (-1)) 7 (-1)) 8 (-1)) 9 (-1)))), (o16_o57, .inr (4, [.ref q1_o16_o57, .int 0, .int 50, .int 30, .int 0])), (q1_o16_o57, .inl (cI, 12, .inl (fun _ => 0))), (q10_o57, .inl (cAq10_o57, 7, .inr (.inr (.inr (.inr (fun i => if i < 7 then some (rq10_o57 i) else none)))))), (rq10_o57 0, .inl (cI, 12, .inl (fun _ => 0))), (rq10_o57 1, .inl (cI, 12, .inl (fun _ => 0))), (rq10_o57 2, .inl (cI, 12, .inl (fun _ => 0))), (rq10_o57 3, .inl (cI, 12, .inl (fun _ => 0))), (rq10_o57 4, .inl (cI, 12, .inl (fun _ => 0))), (rq10_o57 5, .inl (cI, 12, .inl (fun _ => 0))), (rq10_o57 6, .inl (cI, 12, .inl (fun _ => 0))), (q18_o57, .inl (cI, 6, .inl (fun _ => 0))), (o68, .inr (2, [.ref q1_o68, .int 0, .ref q2_o68, .ref q3_o68, .ref q4_o68, .ref q5_o68, .int 0, .int 0, .int 5, .int 0])), (q1_o68, .inl (cI, 120, .inl (fun _ => 0))), (q2_o68, .inl (cI, 121, .inl (fun _ => 0))), (q3_o68, .inl (cI, 121, .inl (fun _ => 0))), (q4_o68, .inl (cI, 121, .inl (fun _ => 0))), (q5_o68, .inl (cI, 121, .inl (fun _ => 0))), (o79, .inr (3, [.ref q1_o79, .ref q6_o79, .ref q7_o79])), (q1_o79, .inl (cAq1_o79, 4, .inr (.inr (.inr (.inr (fun i => if i < 4 then some (rq1_o79 i) else none)))))), (rq1_o79 0, .inl (cI, 40, .inl (fun _ => 0))), (rq1_o79 1, .inl (cI, 40, .inl (fun _ => 0))), (rq1_o79 2, .inl (cI, 40, .inl (fun _ => 0))), (rq1_o79 3, .inl (cI, 40, .inl (fun _ => 0))), (q6_o79, .inl (cI, 4, .inl (fun _ => 0))), (q7_o79, .inl (cI, 4, .inl (fun _ => 0))), (q58, .inl (cI, 7, .inl (fun _ => 0)))]) :
    ∃ (σ : Nat → Nat) (cA : ClassId), σ 0 = h0 ∧ va_P D vwCl (w0A σ (cI, cA, 0)) t.heap ∧ va_K D vwCl [(cI, .int), (cA, .array .int)] t ∧ va_D A (w0A σ (cI, cA, 0)) := by
  obtain ⟨o5, q1_o5, q2_o5, q3_o5, q4_o5, q5_o5, q6_o5, o16, q1_o16, q2_o16, q3_o16, q4_o16, q5_o16, q6_o16, o27, q1_o27, q2_o27, q3_o27, q4_o27, q5_o27, q6_o27, o38, q1_o38, q24, o57, o5_o57, q1_o5_o57, q2_o5_o57, q3_o5_o57, q4_o5_o57, q5_o5_o57, q6_o5_o57, o16_o57, q1_o16_o57, q10_o57, rq10_o57, cAq10_o57, q18_o57, o68, q1_o68, q2_o68, q3_o68, q4_o68, q5_o68, o79, q1_o79, rq1_o79, cAq1_o79, q6_o79, q7_o79, q58, hP, hK, hD⟩ := hB
  have hcc : cAq1_o79 = cAq10_o57 := by
    have h1 : t.vm.findClass ("[" ++ (FieldType.array .int).toString) = some cAq10_o57 := RA_at (k := 2) hK rfl
    have h2 : t.vm.findClass ("[" ++ (FieldType.array .int).toString) = some cAq1_o79 := RA_at (k := 4) hK rfl
    exact Option.some.inj (h2.symm.trans h1)
  subst hcc
  obtain ⟨σ, e0, e1, e2, e3, e4, e5, e6, e7, e8, e9, e10, e11, e12, e13, e14, e15, e16, e17, e18, e19, e20, e21, e22, e23, e24, e25, e26, e27, e28, e29, e30, e31, e32, e33, e34, e35, e43, e44, e45, e46, e47, e48, e49, e50, e51, e56, e57, e58, r0, r1⟩ : ∃ σ : Nat → Nat, σ 0 = h0 ∧ σ 1 = o5 ∧ σ 2 = q1_o5 ∧ σ 3 = q2_o5 ∧ σ 4 = q3_o5 ∧ σ 5 = q4_o5 ∧ σ 6 = q5_o5 ∧ σ 7 = q6_o5 ∧ σ 8 = o16 ∧ σ 9 = q1_o16 ∧ σ 10 = q2_o16 ∧ σ 11 = q3_o16 ∧ σ 12 = q4_o16 ∧ σ 13 = q5_o16 ∧ σ 14 = q6_o16 ∧ σ 15 = o27 ∧ σ 16 = q1_o27 ∧ σ 17 = q2_o27 ∧ σ 18 = q3_o27 ∧ σ 19 = q4_o27 ∧ σ 20 = q5_o27 ∧ σ 21 = q6_o27 ∧ σ 22 = o38 ∧ σ 23 = q1_o38 ∧ σ 24 = q24 ∧ σ 25 = o57 ∧ σ 26 = o5_o57 ∧ σ 27 = q1_o5_o57 ∧ σ 28 = q2_o5_o57 ∧ σ 29 = q3_o5_o57 ∧ σ 30 = q4_o5_o57 ∧ σ 31 = q5_o5_o57 ∧ σ 32 = q6_o5_o57 ∧ σ 33 = o16_o57 ∧ σ 34 = q1_o16_o57 ∧ σ 35 = q10_o57 ∧ σ 43 = q18_o57 ∧ σ 44 = o68 ∧ σ 45 = q1_o68 ∧ σ 46 = q2_o68 ∧ σ 47 = q3_o68 ∧ σ 48 = q4_o68 ∧ σ 49 = q5_o68 ∧ σ 50 = o79 ∧ σ 51 = q1_o79 ∧ σ 56 = q6_o79 ∧ σ 57 = q7_o79 ∧ σ 58 = q58 ∧ (∀ i, i < 7 → rq10_o57 i = σ (36 + i)) ∧ (∀ i, i < 4 → rq1_o79 i = σ (52 + i)) := ⟨fun p => [h0, o5, q1_o5, q2_o5, q3_o5, q4_o5, q5_o5, q6_o5, o16, q1_o16, q2_o16, q3_o16, q4_o16, q5_o16, q6_o16, o27, q1_o27, q2_o27, q3_o27, q4_o27, q5_o27, q6_o27, o38, q1_o38, q24, o57, o5_o57, q1_o5_o57, q2_o5_o57, q3_o5_o57, q4_o5_o57, q5_o5_o57, q6_o5_o57, o16_o57, q1_o16_o57, q10_o57, rq10_o57 0, rq10_o57 1, rq10_o57 2, rq10_o57 3, rq10_o57 4, rq10_o57 5, rq10_o57 6, q18_o57, o68, q1_o68, q2_o68, q3_o68, q4_o68, q5_o68, o79, q1_o79, rq1_o79 0, rq1_o79 1, rq1_o79 2, rq1_o79 3, q6_o79, q7_o79, q58].getD p 0, rfl, rfl, rfl, rfl, rfl, rfl, rfl, rfl, rfl, rfl, rfl, rfl, rfl, rfl, rfl, rfl, rfl, rfl, rfl, rfl, rfl, rfl, rfl, rfl, rfl, rfl, rfl, rfl, rfl, rfl, rfl, rfl, rfl, rfl, rfl, rfl, rfl, rfl, rfl, rfl, rfl, rfl, rfl, rfl, rfl, rfl, rfl, rfl, (fun i hi => by rcases (show i = 0 ∨ i = 1 ∨ i = 2 ∨ i = 3 ∨ i = 4 ∨ i = 5 ∨ i = 6 by omega) with rfl | rfl | rfl | rfl | rfl | rfl | rfl <;> rfl), (fun i hi => by rcases (show i = 0 ∨ i = 1 ∨ i = 2 ∨ i = 3 by omega) with rfl | rfl | rfl | rfl <;> rfl)⟩
  subst e0
  subst e1
  subst e2
  subst e3
  subst e4
  subst e5
  subst e6
  subst e7
  subst e8
  subst e9
  subst e10
  subst e11
  subst e12
  subst e13
  subst e14
  subst e15
  subst e16
  subst e17
  subst e18
  subst e19
  subst e20
  subst e21
  subst e22
  subst e23
  subst e24
  subst e25
  subst e26
  subst e27
  subst e28
  subst e29
  subst e30
  subst e31
  subst e32
  subst e33
  subst e34
  subst e35
  subst e43
  subst e44
  subst e45
  subst e46
  subst e47
  subst e48
  subst e49
  subst e50
  subst e51
  subst e56
  subst e57
  subst e58
  have f0 : (fun i => if i < 7 then some (rq10_o57 i) else none) = (fun i => if i < 7 then some (σ (36 + i)) else none) := by
    funext i
    by_cases h : i < 7
    · rw [if_pos h, if_pos h, r0 i h]
    · rw [if_neg h, if_neg h]
  have f1 : (fun i => if i < 4 then some (rq1_o79 i) else none) = (fun i => if i < 4 then some (σ (52 + i)) else none) := by
    funext i
    by_cases h : i < 4
    · rw [if_pos h, if_pos h, r1 i h]
    · rw [if_neg h, if_neg h]
  rw [f0, f1, r0 0 (by decide), r0 1 (by decide), r0 2 (by decide), r0 3 (by decide), r0 4 (by decide), r0 5 (by decide), r0 6 (by decide), r1 0 (by decide), r1 1 (by decide), r1 2 (by decide), r1 3 (by decide)] at hP hD
  exact ⟨σ, _, rfl, hP, hK.sub [0, 2] rfl, hD⟩
set_option maxHeartbeats 8000000 in
set_option maxRecDepth 100000 in
theorem post7 {D : va_G} {cI : ClassId} {sa : Nat → Nat} {h0 : Nat} {A : Nat → Prop} {t : State} (hB : ∃ (q1 : Nat), ∃ (q2 : Nat), ∃ (q3 : Nat), ∃ (q4 : Nat), ∃ (q5 : Nat), ∃ (q6 : Nat), ∃ (q7 : Nat), ∃ (q8 : Nat), ∃ (q9 : Nat), ∃ (cAq9 : ClassId), ∃ (q10 : Nat), ∃ (q11 : Nat), ∃ (q12 : Nat), ∃ (q13 : Nat), ∃ (q14 : Nat), va_P D vwCl [(h0, .inr (6, [.ref q1, .ref q2, .ref q3, .int 0, .ref q4, .ref q5, .ref q6, .ref q7, .int 0, .int 0, .int 0, .ref q8, .int 0, .int 0, .int 0, .int 0, .int 0, .int 0, .ref q9, .ref q10, .int 0, .int 0, .ref q11, .ref q12, .ref q13, .ref q14])), (q1, .inl (cI, 50, .inl (upd (upd (upd (upd (upd (upd (upd (upd (upd (upd (upd (upd (upd (upd (upd (upd (upd (upd (upd (upd (upd (upd (upd (fun _ => 0) 2 (1)) 14 (50)) 15 (50)) 16 (50)) 17 (50)) 18 (50)) 19 (50)) 20 (50)) 21 (50)) 22 (50)) 23 (50)) 24 (50)) 25 (50)) 4 (-1)) 5 (-1)) 6 (-1)) 7 (-1)) 8 (-1)) 9 (-1)) 10 (-1)) 11 (-1)) 12 (-1)) 13 (-1)))), (q2, .inl (cI, 50, .inl (fun _ => 0))), (q3, .inl (cI, 50, .inl (fun _ => 0))), (q4, .inl (cI, 8, .inl (fun _ => 0))), (q5, .inl (cI, 350, .inl (fun _ => 0))), (q6, .inl (cI, 6, .inl (fun _ => 0))), (q7, .inl (cI, 6, .inl (fun _ => 0))), (q8, .inl (cI, 120, .inl (fun _ => 0))), (q9, .inl (cAq9, 7, .inr (.inr (.inr (.inr (va_up (va_up (va_up (va_up (va_up (va_up (va_up (fun _ => none) 0 (some (sa 0))) 1 (some (sa 1))) 2 (some (sa 2))) 3 (some (sa 3))) 4 (some (sa 4))) 5 (some (sa 5))) 6 (some (sa 6)))))))), (q10, .inl (cI, 360, .inl (fun _ => 0))), (q11, .inl (cI, 4, .inl (fun _ => 0))), (q12, .inl (cI, 4, .inl (fun _ => 0))), (q13, .inl (cI, 160, .inl (fun _ => 0))), (q14, .inl (cI, 40, .inl (fun _ => 0)))] t.heap ∧ va_K D vwCl [(cI, .int), (cAq9, .object "java/lang/String")] t ∧ va_D A [(h0, .inr (6, [.ref q1, .ref q2, .ref q3, .int 0, .ref q4, .ref q5, .ref q6, .ref q7, .int 0, .int 0, .int 0, .ref q8, .int 0, .int 0, .int 0, .int 0, .int 0, .int 0, .ref q9, .ref q10, .int 0, .int 0, .ref q11, .ref q12, .ref q13, .ref q14])), (q1, .inl (cI, 50, .inl (upd (upd (upd (upd (upd (upd (upd (upd (upd (upd (upd (upd (upd (upd (upd (upd (upd (upd (upd (upd (upd (upd (upd (fun _ => 0) 2 (1)) 14 (50)) 15 (50)) 16 (50)) 17 (50)) 18 (50)) 19 (50)) 20 (50)) 21 (50)) 22 (50)) 23 (50)) 24 (50)) 25 (50)) 4 (-1)) 5 (-1)) 6 (-1)) 7 (-1)) 8 (-1)) 9 (-1)) 10 (-1)) 11 (-1)) 12 (-1)) 13 (-1)))), (q2, .inl (cI, 50, .inl (fun _ => 0))), (q3, .inl (cI, 50, .inl (fun _ => 0))), (q4, .inl (cI, 8, .inl (fun _ => 0))), (q5, .inl (cI, 350, .inl (fun _ => 0))), (q6, .inl (cI, 6, .inl (fun _ => 0))), (q7, .inl (cI, 6, .inl (fun _ => 0))), (q8, .inl (cI, 120, .inl (fun _ => 0))), (q9, .inl (cAq9, 7, .inr (.inr (.inr (.inr (va_up (va_up (va_up (va_up (va_up (va_up (va_up (fun _ => none) 0 (some (sa 0))) 1 (some (sa 1))) 2 (some (sa 2))) 3 (some (sa 3))) 4 (some (sa 4))) 5 (some (sa 5))) 6 (some (sa 6)))))))), (q10, .inl (cI, 360, .inl (fun _ => 0))), (q11, .inl (cI, 4, .inl (fun _ => 0))), (q12, .inl (cI, 4, .inl (fun _ => 0))), (q13, .inl (cI, 160, .inl (fun _ => 0))), (q14, .inl (cI, 40, .inl (fun _ => 0)))]) :
    ∃ (σ : Nat → Nat) (cS : ClassId), σ 59 = h0 ∧ (∀ j, j < 7 → σ (100 + j) = sa j) ∧ va_P D vwCl (w0B σ (cI, 0, cS)) t.heap ∧ va_K D vwCl [(cI, .int), (cS, .object "java/lang/String")] t ∧ va_D A (w0B σ (cI, 0, cS)) := by
  obtain ⟨q1, q2, q3, q4, q5, q6, q7, q8, q9, cAq9, q10, q11, q12, q13, q14, hP, hK, hD⟩ := hB
  obtain ⟨σ, e59, e60, e61, e62, e63, e64, e65, e66, e67, e68, e69, e70, e71, e72, e73, r0⟩ : ∃ σ : Nat → Nat, σ 59 = h0 ∧ σ 60 = q1 ∧ σ 61 = q2 ∧ σ 62 = q3 ∧ σ 63 = q4 ∧ σ 64 = q5 ∧ σ 65 = q6 ∧ σ 66 = q7 ∧ σ 67 = q8 ∧ σ 68 = q9 ∧ σ 69 = q10 ∧ σ 70 = q11 ∧ σ 71 = q12 ∧ σ 72 = q13 ∧ σ 73 = q14 ∧ (∀ i, i < 7 → sa i = σ (100 + i)) := ⟨fun p => if p < 74 then [h0, q1, q2, q3, q4, q5, q6, q7, q8, q9, q10, q11, q12, q13, q14].getD (p - 59) 0 else sa (p - 100), rfl, rfl, rfl, rfl, rfl, rfl, rfl, rfl, rfl, rfl, rfl, rfl, rfl, rfl, rfl, (fun i hi => by rcases (show i = 0 ∨ i = 1 ∨ i = 2 ∨ i = 3 ∨ i = 4 ∨ i = 5 ∨ i = 6 by omega) with rfl | rfl | rfl | rfl | rfl | rfl | rfl <;> rfl)⟩
  subst e59
  subst e60
  subst e61
  subst e62
  subst e63
  subst e64
  subst e65
  subst e66
  subst e67
  subst e68
  subst e69
  subst e70
  subst e71
  subst e72
  subst e73
  have f0 : (va_up (va_up (va_up (va_up (va_up (va_up (va_up (fun _ => none) 0 (some (sa 0))) 1 (some (sa 1))) 2 (some (sa 2))) 3 (some (sa 3))) 4 (some (sa 4))) 5 (some (sa 5))) 6 (some (sa 6))) = (fun i => if i < 7 then some (σ (100 + i)) else none) := by
    funext i
    by_cases h : i < 7
    · rw [if_pos h, ← r0 i h]
      rcases (show i = 0 ∨ i = 1 ∨ i = 2 ∨ i = 3 ∨ i = 4 ∨ i = 5 ∨ i = 6 by omega) with rfl | rfl | rfl | rfl | rfl | rfl | rfl <;> rfl
    · rw [if_neg h]
      simp only [va_up]
      rw [if_neg (show ¬ i = 6 by omega), if_neg (show ¬ i = 5 by omega), if_neg (show ¬ i = 4 by omega), if_neg (show ¬ i = 3 by omega), if_neg (show ¬ i = 2 by omega), if_neg (show ¬ i = 1 by omega), if_neg (show ¬ i = 0 by omega)]
  rw [f0] at hP hD
  exact ⟨σ, _, rfl, fun j hj => (r0 j hj).symm, hP, hK, hD⟩
set_option maxHeartbeats 8000000 in
set_option maxRecDepth 100000 in
theorem w0A_eq {σ τ : Nat → Nat} {tc tc' : Nat × Nat × Nat} (h : ∀ p, 0 ≤ p → p < 59 → σ p = τ p) (h1 : tc.1 = tc'.1) (h2 : tc.2.1 = tc'.2.1) : w0A σ tc = w0A τ tc' := by
  have f0 : (fun i => if i < 7 then some (σ (36 + i)) else none) = (fun i => if i < 7 then some (τ (36 + i)) else none) := by
    funext i
    by_cases hi : i < 7
    · rw [if_pos hi, if_pos hi, h (36 + i) (by omega) (by omega)]
    · rw [if_neg hi, if_neg hi]
  have f1 : (fun i => if i < 4 then some (σ (52 + i)) else none) = (fun i => if i < 4 then some (τ (52 + i)) else none) := by
    funext i
    by_cases hi : i < 4
    · rw [if_pos hi, if_pos hi, h (52 + i) (by omega) (by omega)]
    · rw [if_neg hi, if_neg hi]
  unfold w0A
  rw [f0, f1, h1, h2, h 0 (by decide) (by decide), h 1 (by decide) (by decide), h 2 (by decide) (by decide), h 3 (by decide) (by decide), h 4 (by decide) (by decide), h 5 (by decide) (by decide), h 6 (by decide) (by decide), h 7 (by decide) (by decide), h 8 (by decide) (by decide), h 9 (by decide) (by decide), h 10 (by decide) (by decide), h 11 (by decide) (by decide), h 12 (by decide) (by decide), h 13 (by decide) (by decide), h 14 (by decide) (by decide), h 15 (by decide) (by decide), h 16 (by decide) (by decide), h 17 (by decide) (by decide), h 18 (by decide) (by decide), h 19 (by decide) (by decide), h 20 (by decide) (by decide), h 21 (by decide) (by decide), h 22 (by decide) (by decide), h 23 (by decide) (by decide), h 24 (by decide) (by decide), h 25 (by decide) (by decide), h 26 (by decide) (by decide), h 27 (by decide) (by decide), h 28 (by decide) (by decide), h 29 (by decide) (by decide), h 30 (by decide) (by decide), h 31 (by decide) (by decide), h 32 (by decide) (by decide), h 33 (by decide) (by decide), h 34 (by decide) (by decide), h 35 (by decide) (by decide), h 36 (by decide) (by decide), h 37 (by decide) (by decide), h 38 (by decide) (by decide), h 39 (by decide) (by decide), h 40 (by decide) (by decide), h 41 (by decide) (by decide), h 42 (by decide) (by decide), h 43 (by decide) (by decide), h 44 (by decide) (by decide), h 45 (by decide) (by decide), h 46 (by decide) (by decide), h 47 (by decide) (by decide), h 48 (by decide) (by decide), h 49 (by decide) (by decide), h 50 (by decide) (by decide), h 51 (by decide) (by decide), h 52 (by decide) (by decide), h 53 (by decide) (by decide), h 54 (by decide) (by decide), h 55 (by decide) (by decide), h 56 (by decide) (by decide), h 57 (by decide) (by decide), h 58 (by decide) (by decide)]
set_option maxHeartbeats 8000000 in
set_option maxRecDepth 100000 in
theorem w0B_eq {σ τ : Nat → Nat} {tc tc' : Nat × Nat × Nat} (h : ∀ p, 59 ≤ p → p < 74 → σ p = τ p) (h9 : ∀ j, j < 7 → σ (100 + j) = τ (100 + j)) (h1 : tc.1 = tc'.1) (h2 : tc.2.2 = tc'.2.2) : w0B σ tc = w0B τ tc' := by
  have f0 : (fun i => if i < 7 then some (σ (100 + i)) else none) = (fun i => if i < 7 then some (τ (100 + i)) else none) := by
    funext i
    by_cases hi : i < 7
    · rw [if_pos hi, if_pos hi, h9 i hi]
    · rw [if_neg hi, if_neg hi]
  unfold w0B
  rw [f0, h1, h2, h 59 (by decide) (by decide), h 60 (by decide) (by decide), h 61 (by decide) (by decide), h 62 (by decide) (by decide), h 63 (by decide) (by decide), h 64 (by decide) (by decide), h 65 (by decide) (by decide), h 66 (by decide) (by decide), h 67 (by decide) (by decide), h 68 (by decide) (by decide), h 69 (by decide) (by decide), h 70 (by decide) (by decide), h 71 (by decide) (by decide), h 72 (by decide) (by decide), h 73 (by decide) (by decide)]
