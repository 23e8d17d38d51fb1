/-! ROWS FOR simp: one an instruction -/
section Eqs
variable {oc : Nat} {cc : ByteArray} {ret : Option FieldType} {cs : Nat → List Value → Mem → (Value → Mem → Prop) → Prop} {post : Value → Mem → Prop} {K : Nat → List Value → List Value → Mem → Prop} {pc : Nat} {L st r : List Value} {M : Mem} {cuts : List Nat} {P : Nat → List Value → List Value → Mem → Prop}
theorem vc_0 {L st : List Value} : vc oc cc ret cs post cuts P 0 pc L st M = P pc L st M := rfl
theorem vc_s {n : Nat} {L st : List Value} : vc oc cc ret cs post cuts P (n + 1) pc L st M = if pc ∈ cuts then P pc L st M else vstp oc ret cs post (vc oc cc ret cs post cuts P n) (decode cc pc) pc L st M := rfl
theorem v_iconst_m1 : vstp oc ret cs post K (.ok (.iconst (-1), 1)) pc (L) (st) M = (K (pc + 1) L (.int (-1) :: st) M) := propext ⟨fun h => h.2, fun h => ⟨rfl, h⟩⟩
theorem v_iconst_0 : vstp oc ret cs post K (.ok (.iconst 0, 1)) pc (L) (st) M = (K (pc + 1) L (.int 0 :: st) M) := propext ⟨fun h => h.2, fun h => ⟨rfl, h⟩⟩
theorem v_iconst_1 : vstp oc ret cs post K (.ok (.iconst 1, 1)) pc (L) (st) M = (K (pc + 1) L (.int 1 :: st) M) := propext ⟨fun h => h.2, fun h => ⟨rfl, h⟩⟩
theorem v_iconst_2 : vstp oc ret cs post K (.ok (.iconst 2, 1)) pc (L) (st) M = (K (pc + 1) L (.int 2 :: st) M) := propext ⟨fun h => h.2, fun h => ⟨rfl, h⟩⟩
theorem v_iconst_3 : vstp oc ret cs post K (.ok (.iconst 3, 1)) pc (L) (st) M = (K (pc + 1) L (.int 3 :: st) M) := propext ⟨fun h => h.2, fun h => ⟨rfl, h⟩⟩
theorem v_iconst_4 : vstp oc ret cs post K (.ok (.iconst 4, 1)) pc (L) (st) M = (K (pc + 1) L (.int 4 :: st) M) := propext ⟨fun h => h.2, fun h => ⟨rfl, h⟩⟩
theorem v_iconst_5 : vstp oc ret cs post K (.ok (.iconst 5, 1)) pc (L) (st) M = (K (pc + 1) L (.int 5 :: st) M) := propext ⟨fun h => h.2, fun h => ⟨rfl, h⟩⟩
theorem v_bipush_m5 : vstp oc ret cs post K (.ok (.bipush (-5), 2)) pc (L) (st) M = (K (pc + 2) L (.int (-5) :: st) M) := propext ⟨fun h => h.2, fun h => ⟨rfl, h⟩⟩
theorem v_bipush_6 : vstp oc ret cs post K (.ok (.bipush 6, 2)) pc (L) (st) M = (K (pc + 2) L (.int 6 :: st) M) := propext ⟨fun h => h.2, fun h => ⟨rfl, h⟩⟩
theorem v_bipush_7 : vstp oc ret cs post K (.ok (.bipush 7, 2)) pc (L) (st) M = (K (pc + 2) L (.int 7 :: st) M) := propext ⟨fun h => h.2, fun h => ⟨rfl, h⟩⟩
theorem v_bipush_8 : vstp oc ret cs post K (.ok (.bipush 8, 2)) pc (L) (st) M = (K (pc + 2) L (.int 8 :: st) M) := propext ⟨fun h => h.2, fun h => ⟨rfl, h⟩⟩
theorem v_bipush_9 : vstp oc ret cs post K (.ok (.bipush 9, 2)) pc (L) (st) M = (K (pc + 2) L (.int 9 :: st) M) := propext ⟨fun h => h.2, fun h => ⟨rfl, h⟩⟩
theorem v_bipush_10 : vstp oc ret cs post K (.ok (.bipush 10, 2)) pc (L) (st) M = (K (pc + 2) L (.int 10 :: st) M) := propext ⟨fun h => h.2, fun h => ⟨rfl, h⟩⟩
theorem v_bipush_11 : vstp oc ret cs post K (.ok (.bipush 11, 2)) pc (L) (st) M = (K (pc + 2) L (.int 11 :: st) M) := propext ⟨fun h => h.2, fun h => ⟨rfl, h⟩⟩
theorem v_bipush_12 : vstp oc ret cs post K (.ok (.bipush 12, 2)) pc (L) (st) M = (K (pc + 2) L (.int 12 :: st) M) := propext ⟨fun h => h.2, fun h => ⟨rfl, h⟩⟩
theorem v_bipush_13 : vstp oc ret cs post K (.ok (.bipush 13, 2)) pc (L) (st) M = (K (pc + 2) L (.int 13 :: st) M) := propext ⟨fun h => h.2, fun h => ⟨rfl, h⟩⟩
theorem v_bipush_14 : vstp oc ret cs post K (.ok (.bipush 14, 2)) pc (L) (st) M = (K (pc + 2) L (.int 14 :: st) M) := propext ⟨fun h => h.2, fun h => ⟨rfl, h⟩⟩
theorem v_bipush_16 : vstp oc ret cs post K (.ok (.bipush 16, 2)) pc (L) (st) M = (K (pc + 2) L (.int 16 :: st) M) := propext ⟨fun h => h.2, fun h => ⟨rfl, h⟩⟩
theorem v_bipush_20 : vstp oc ret cs post K (.ok (.bipush 20, 2)) pc (L) (st) M = (K (pc + 2) L (.int 20 :: st) M) := propext ⟨fun h => h.2, fun h => ⟨rfl, h⟩⟩
theorem v_bipush_26 : vstp oc ret cs post K (.ok (.bipush 26, 2)) pc (L) (st) M = (K (pc + 2) L (.int 26 :: st) M) := propext ⟨fun h => h.2, fun h => ⟨rfl, h⟩⟩
theorem v_bipush_30 : vstp oc ret cs post K (.ok (.bipush 30, 2)) pc (L) (st) M = (K (pc + 2) L (.int 30 :: st) M) := propext ⟨fun h => h.2, fun h => ⟨rfl, h⟩⟩
theorem v_bipush_32 : vstp oc ret cs post K (.ok (.bipush 32, 2)) pc (L) (st) M = (K (pc + 2) L (.int 32 :: st) M) := propext ⟨fun h => h.2, fun h => ⟨rfl, h⟩⟩
theorem v_bipush_40 : vstp oc ret cs post K (.ok (.bipush 40, 2)) pc (L) (st) M = (K (pc + 2) L (.int 40 :: st) M) := propext ⟨fun h => h.2, fun h => ⟨rfl, h⟩⟩
theorem v_bipush_48 : vstp oc ret cs post K (.ok (.bipush 48, 2)) pc (L) (st) M = (K (pc + 2) L (.int 48 :: st) M) := propext ⟨fun h => h.2, fun h => ⟨rfl, h⟩⟩
theorem v_bipush_50 : vstp oc ret cs post K (.ok (.bipush 50, 2)) pc (L) (st) M = (K (pc + 2) L (.int 50 :: st) M) := propext ⟨fun h => h.2, fun h => ⟨rfl, h⟩⟩
theorem v_bipush_57 : vstp oc ret cs post K (.ok (.bipush 57, 2)) pc (L) (st) M = (K (pc + 2) L (.int 57 :: st) M) := propext ⟨fun h => h.2, fun h => ⟨rfl, h⟩⟩
theorem v_bipush_59 : vstp oc ret cs post K (.ok (.bipush 59, 2)) pc (L) (st) M = (K (pc + 2) L (.int 59 :: st) M) := propext ⟨fun h => h.2, fun h => ⟨rfl, h⟩⟩
theorem v_bipush_60 : vstp oc ret cs post K (.ok (.bipush 60, 2)) pc (L) (st) M = (K (pc + 2) L (.int 60 :: st) M) := propext ⟨fun h => h.2, fun h => ⟨rfl, h⟩⟩
theorem v_bipush_63 : vstp oc ret cs post K (.ok (.bipush 63, 2)) pc (L) (st) M = (K (pc + 2) L (.int 63 :: st) M) := propext ⟨fun h => h.2, fun h => ⟨rfl, h⟩⟩
theorem v_bipush_97 : vstp oc ret cs post K (.ok (.bipush 97, 2)) pc (L) (st) M = (K (pc + 2) L (.int 97 :: st) M) := propext ⟨fun h => h.2, fun h => ⟨rfl, h⟩⟩
theorem v_bipush_99 : vstp oc ret cs post K (.ok (.bipush 99, 2)) pc (L) (st) M = (K (pc + 2) L (.int 99 :: st) M) := propext ⟨fun h => h.2, fun h => ⟨rfl, h⟩⟩
theorem v_bipush_100 : vstp oc ret cs post K (.ok (.bipush 100, 2)) pc (L) (st) M = (K (pc + 2) L (.int 100 :: st) M) := propext ⟨fun h => h.2, fun h => ⟨rfl, h⟩⟩
theorem v_bipush_120 : vstp oc ret cs post K (.ok (.bipush 120, 2)) pc (L) (st) M = (K (pc + 2) L (.int 120 :: st) M) := propext ⟨fun h => h.2, fun h => ⟨rfl, h⟩⟩
theorem v_bipush_121 : vstp oc ret cs post K (.ok (.bipush 121, 2)) pc (L) (st) M = (K (pc + 2) L (.int 121 :: st) M) := propext ⟨fun h => h.2, fun h => ⟨rfl, h⟩⟩
theorem v_bipush_122 : vstp oc ret cs post K (.ok (.bipush 122, 2)) pc (L) (st) M = (K (pc + 2) L (.int 122 :: st) M) := propext ⟨fun h => h.2, fun h => ⟨rfl, h⟩⟩
theorem v_sipush_160 : vstp oc ret cs post K (.ok (.sipush 160, 3)) pc (L) (st) M = (K (pc + 3) L (.int 160 :: st) M) := propext ⟨fun h => h.2, fun h => ⟨rfl, h⟩⟩
theorem v_sipush_255 : vstp oc ret cs post K (.ok (.sipush 255, 3)) pc (L) (st) M = (K (pc + 3) L (.int 255 :: st) M) := propext ⟨fun h => h.2, fun h => ⟨rfl, h⟩⟩
theorem v_sipush_350 : vstp oc ret cs post K (.ok (.sipush 350, 3)) pc (L) (st) M = (K (pc + 3) L (.int 350 :: st) M) := propext ⟨fun h => h.2, fun h => ⟨rfl, h⟩⟩
theorem v_sipush_360 : vstp oc ret cs post K (.ok (.sipush 360, 3)) pc (L) (st) M = (K (pc + 3) L (.int 360 :: st) M) := propext ⟨fun h => h.2, fun h => ⟨rfl, h⟩⟩
theorem v_sipush_1000 : vstp oc ret cs post K (.ok (.sipush 1000, 3)) pc (L) (st) M = (K (pc + 3) L (.int 1000 :: st) M) := propext ⟨fun h => h.2, fun h => ⟨rfl, h⟩⟩
theorem v_sipush_4096 : vstp oc ret cs post K (.ok (.sipush 4096, 3)) pc (L) (st) M = (K (pc + 3) L (.int 4096 :: st) M) := propext ⟨fun h => h.2, fun h => ⟨rfl, h⟩⟩
theorem v_sipush_9999 : vstp oc ret cs post K (.ok (.sipush 9999, 3)) pc (L) (st) M = (K (pc + 3) L (.int 9999 :: st) M) := propext ⟨fun h => h.2, fun h => ⟨rfl, h⟩⟩
theorem v_sipush_12345 : vstp oc ret cs post K (.ok (.sipush 12345, 3)) pc (L) (st) M = (K (pc + 3) L (.int 12345 :: st) M) := propext ⟨fun h => h.2, fun h => ⟨rfl, h⟩⟩
theorem v_lconst_0 : vstp oc ret cs post K (.ok (.lconst 0, 1)) pc (L) (st) M = (K (pc + 1) L (.long 0 :: st) M) := propext ⟨fun h => h.2, fun h => ⟨rfl, h⟩⟩
theorem v_lconst_1 : vstp oc ret cs post K (.ok (.lconst 1, 1)) pc (L) (st) M = (K (pc + 1) L (.long 1 :: st) M) := propext ⟨fun h => h.2, fun h => ⟨rfl, h⟩⟩
theorem v_iadd {a b : Int32} : vstp oc ret cs post K (.ok (.iadd, 1)) pc (L) (.int b :: .int a :: r) M = (K (pc + 1) L (.int (a + b) :: r) M) := propext ⟨fun h => h.2, fun h => ⟨rfl, h⟩⟩
theorem v_isub {a b : Int32} : vstp oc ret cs post K (.ok (.isub, 1)) pc (L) (.int b :: .int a :: r) M = (K (pc + 1) L (.int (a - b) :: r) M) := propext ⟨fun h => h.2, fun h => ⟨rfl, h⟩⟩
theorem v_imul {a b : Int32} : vstp oc ret cs post K (.ok (.imul, 1)) pc (L) (.int b :: .int a :: r) M = (K (pc + 1) L (.int (a * b) :: r) M) := propext ⟨fun h => h.2, fun h => ⟨rfl, h⟩⟩
theorem v_iand {a b : Int32} : vstp oc ret cs post K (.ok (.iand, 1)) pc (L) (.int b :: .int a :: r) M = (K (pc + 1) L (.int (a &&& b) :: r) M) := propext ⟨fun h => h.2, fun h => ⟨rfl, h⟩⟩
theorem v_ior {a b : Int32} : vstp oc ret cs post K (.ok (.ior, 1)) pc (L) (.int b :: .int a :: r) M = (K (pc + 1) L (.int (a ||| b) :: r) M) := propext ⟨fun h => h.2, fun h => ⟨rfl, h⟩⟩
theorem v_ixor {a b : Int32} : vstp oc ret cs post K (.ok (.ixor, 1)) pc (L) (.int b :: .int a :: r) M = (K (pc + 1) L (.int (a ^^^ b) :: r) M) := propext ⟨fun h => h.2, fun h => ⟨rfl, h⟩⟩
theorem v_ishl {a b : Int32} : vstp oc ret cs post K (.ok (.ishl, 1)) pc (L) (.int b :: .int a :: r) M = (K (pc + 1) L (.int (a <<< (b &&& 31)) :: r) M) := propext ⟨fun h => h.2, fun h => ⟨rfl, h⟩⟩
theorem v_ishr {a b : Int32} : vstp oc ret cs post K (.ok (.ishr, 1)) pc (L) (.int b :: .int a :: r) M = (K (pc + 1) L (.int (a >>> (b &&& 31)) :: r) M) := propext ⟨fun h => h.2, fun h => ⟨rfl, h⟩⟩
theorem v_iushr {a b : Int32} : vstp oc ret cs post K (.ok (.iushr, 1)) pc (L) (.int b :: .int a :: r) M = (K (pc + 1) L (.int ((a.toUInt32 >>> (b.toUInt32 &&& Int32.toUInt32 31)).toInt32) :: r) M) := propext ⟨fun h => h.2, fun h => ⟨rfl, h⟩⟩
theorem v_idiv {a b : Int32} : vstp oc ret cs post K (.ok (.idiv, 1)) pc (L) (.int b :: .int a :: r) M = (¬ b = 0 ∧ K (pc + 1) L (.int (a / b) :: r) M) := propext ⟨fun h => h.2, fun h => ⟨rfl, h⟩⟩
theorem v_irem {a b : Int32} : vstp oc ret cs post K (.ok (.irem, 1)) pc (L) (.int b :: .int a :: r) M = (¬ b = 0 ∧ K (pc + 1) L (.int (a - a / b * b) :: r) M) := propext ⟨fun h => h.2, fun h => ⟨rfl, h⟩⟩
theorem v_ineg {a : Int32} : vstp oc ret cs post K (.ok (.ineg, 1)) pc (L) (.int a :: r) M = (K (pc + 1) L (.int (-a) :: r) M) := propext ⟨fun h => h.2, fun h => ⟨rfl, h⟩⟩
theorem v_i2l {a : Int32} : vstp oc ret cs post K (.ok (.i2l, 1)) pc (L) (.int a :: r) M = (K (pc + 1) L (.long a.toInt64 :: r) M) := propext ⟨fun h => h.2, fun h => ⟨rfl, h⟩⟩
theorem v_i2b {a : Int32} : vstp oc ret cs post K (.ok (.i2b, 1)) pc (L) (.int a :: r) M = (K (pc + 1) L (.int a.toInt8.toInt32 :: r) M) := propext ⟨fun h => h.2, fun h => ⟨rfl, h⟩⟩
theorem v_i2s {a : Int32} : vstp oc ret cs post K (.ok (.i2s, 1)) pc (L) (.int a :: r) M = (K (pc + 1) L (.int a.toInt16.toInt32 :: r) M) := propext ⟨fun h => h.2, fun h => ⟨rfl, h⟩⟩
theorem v_i2c {a : Int32} : vstp oc ret cs post K (.ok (.i2c, 1)) pc (L) (.int a :: r) M = (K (pc + 1) L (.int (a.toUInt32 % 65536).toInt32 :: r) M) := propext ⟨fun h => h.2, fun h => ⟨rfl, h⟩⟩
theorem v_ladd {a b : Int64} : vstp oc ret cs post K (.ok (.ladd, 1)) pc (L) (.long b :: .long a :: r) M = (K (pc + 1) L (.long (a + b) :: r) M) := propext ⟨fun h => h.2, fun h => ⟨rfl, h⟩⟩
theorem v_lmul {a b : Int64} : vstp oc ret cs post K (.ok (.lmul, 1)) pc (L) (.long b :: .long a :: r) M = (K (pc + 1) L (.long (a * b) :: r) M) := propext ⟨fun h => h.2, fun h => ⟨rfl, h⟩⟩
theorem v_lcmp {a b : Int64} : vstp oc ret cs post K (.ok (.lcmp, 1)) pc (L) (.long b :: .long a :: r) M = (K (pc + 1) L (.int (lg_cmp a b) :: r) M) := propext ⟨fun h => h.2, fun h => ⟨rfl, h⟩⟩
theorem v_dup {v : Value} : vstp oc ret cs post K (.ok (.dup, 1)) pc (L) (v :: r) M = (v.category = 1 ∧ K (pc + 1) L (v :: v :: r) M) := propext ⟨fun h => h.2, fun h => ⟨rfl, h⟩⟩
theorem v_dup2 {v w : Value} : vstp oc ret cs post K (.ok (.dup2, 1)) pc (L) (v :: w :: r) M = (v.category = 1 ∧ w.category = 1 ∧ K (pc + 1) L (v :: w :: v :: w :: r) M) := propext ⟨fun h => h.2, fun h => ⟨rfl, h⟩⟩
theorem v_pop {v : Value} : vstp oc ret cs post K (.ok (.pop, 1)) pc (L) (v :: r) M = (v.category = 1 ∧ K (pc + 1) L r M) := propext ⟨fun h => h.2, fun h => ⟨rfl, h⟩⟩
theorem v_iload_0 {x : Int32} : vstp oc ret cs post K (.ok (.iload_n 0, 1)) pc (.int x :: L) (st) M = (K (pc + 1) (.int x :: L) (.int x :: st) M) := propext ⟨fun h => h.2, fun h => ⟨rfl, h⟩⟩
theorem v_aload_0 {x : Nat} : vstp oc ret cs post K (.ok (.aload_n 0, 1)) pc (.ref x :: L) (st) M = (K (pc + 1) (.ref x :: L) (.ref x :: st) M) := propext ⟨fun h => h.2, fun h => ⟨rfl, h⟩⟩
theorem v_lload_0 {x : Int64} : vstp oc ret cs post K (.ok (.lload_n 0, 1)) pc (.long x :: L) (st) M = (K (pc + 1) (.long x :: L) (.long x :: st) M) := propext ⟨fun h => h.2, fun h => ⟨rfl, h⟩⟩
theorem v_iload_1 {a0 : Value} {x : Int32} : vstp oc ret cs post K (.ok (.iload_n 1, 1)) pc (a0 :: .int x :: L) (st) M = (K (pc + 1) (a0 :: .int x :: L) (.int x :: st) M) := propext ⟨fun h => h.2, fun h => ⟨rfl, h⟩⟩
theorem v_aload_1 {a0 : Value} {x : Nat} : vstp oc ret cs post K (.ok (.aload_n 1, 1)) pc (a0 :: .ref x :: L) (st) M = (K (pc + 1) (a0 :: .ref x :: L) (.ref x :: st) M) := propext ⟨fun h => h.2, fun h => ⟨rfl, h⟩⟩
theorem v_lload_1 {a0 : Value} {x : Int64} : vstp oc ret cs post K (.ok (.lload_n 1, 1)) pc (a0 :: .long x :: L) (st) M = (K (pc + 1) (a0 :: .long x :: L) (.long x :: st) M) := propext ⟨fun h => h.2, fun h => ⟨rfl, h⟩⟩
theorem v_iload_2 {a0 a1 : Value} {x : Int32} : vstp oc ret cs post K (.ok (.iload_n 2, 1)) pc (a0 :: a1 :: .int x :: L) (st) M = (K (pc + 1) (a0 :: a1 :: .int x :: L) (.int x :: st) M) := propext ⟨fun h => h.2, fun h => ⟨rfl, h⟩⟩
theorem v_aload_2 {a0 a1 : Value} {x : Nat} : vstp oc ret cs post K (.ok (.aload_n 2, 1)) pc (a0 :: a1 :: .ref x :: L) (st) M = (K (pc + 1) (a0 :: a1 :: .ref x :: L) (.ref x :: st) M) := propext ⟨fun h => h.2, fun h => ⟨rfl, h⟩⟩
theorem v_lload_2 {a0 a1 : Value} {x : Int64} : vstp oc ret cs post K (.ok (.lload_n 2, 1)) pc (a0 :: a1 :: .long x :: L) (st) M = (K (pc + 1) (a0 :: a1 :: .long x :: L) (.long x :: st) M) := propext ⟨fun h => h.2, fun h => ⟨rfl, h⟩⟩
theorem v_iload_3 {a0 a1 a2 : Value} {x : Int32} : vstp oc ret cs post K (.ok (.iload_n 3, 1)) pc (a0 :: a1 :: a2 :: .int x :: L) (st) M = (K (pc + 1) (a0 :: a1 :: a2 :: .int x :: L) (.int x :: st) M) := propext ⟨fun h => h.2, fun h => ⟨rfl, h⟩⟩
theorem v_aload_3 {a0 a1 a2 : Value} {x : Nat} : vstp oc ret cs post K (.ok (.aload_n 3, 1)) pc (a0 :: a1 :: a2 :: .ref x :: L) (st) M = (K (pc + 1) (a0 :: a1 :: a2 :: .ref x :: L) (.ref x :: st) M) := propext ⟨fun h => h.2, fun h => ⟨rfl, h⟩⟩
theorem v_lload_3 {a0 a1 a2 : Value} {x : Int64} : vstp oc ret cs post K (.ok (.lload_n 3, 1)) pc (a0 :: a1 :: a2 :: .long x :: L) (st) M = (K (pc + 1) (a0 :: a1 :: a2 :: .long x :: L) (.long x :: st) M) := propext ⟨fun h => h.2, fun h => ⟨rfl, h⟩⟩
theorem v_iload_4 {a0 a1 a2 a3 : Value} {x : Int32} : vstp oc ret cs post K (.ok (.iload 4, 2)) pc (a0 :: a1 :: a2 :: a3 :: .int x :: L) (st) M = (K (pc + 2) (a0 :: a1 :: a2 :: a3 :: .int x :: L) (.int x :: st) M) := propext ⟨fun h => h.2, fun h => ⟨rfl, h⟩⟩
theorem v_aload_4 {a0 a1 a2 a3 : Value} {x : Nat} : vstp oc ret cs post K (.ok (.aload 4, 2)) pc (a0 :: a1 :: a2 :: a3 :: .ref x :: L) (st) M = (K (pc + 2) (a0 :: a1 :: a2 :: a3 :: .ref x :: L) (.ref x :: st) M) := propext ⟨fun h => h.2, fun h => ⟨rfl, h⟩⟩
theorem v_lload_4 {a0 a1 a2 a3 : Value} {x : Int64} : vstp oc ret cs post K (.ok (.lload 4, 2)) pc (a0 :: a1 :: a2 :: a3 :: .long x :: L) (st) M = (K (pc + 2) (a0 :: a1 :: a2 :: a3 :: .long x :: L) (.long x :: st) M) := propext ⟨fun h => h.2, fun h => ⟨rfl, h⟩⟩
theorem v_iload_5 {a0 a1 a2 a3 a4 : Value} {x : Int32} : vstp oc ret cs post K (.ok (.iload 5, 2)) pc (a0 :: a1 :: a2 :: a3 :: a4 :: .int x :: L) (st) M = (K (pc + 2) (a0 :: a1 :: a2 :: a3 :: a4 :: .int x :: L) (.int x :: st) M) := propext ⟨fun h => h.2, fun h => ⟨rfl, h⟩⟩
theorem v_aload_5 {a0 a1 a2 a3 a4 : Value} {x : Nat} : vstp oc ret cs post K (.ok (.aload 5, 2)) pc (a0 :: a1 :: a2 :: a3 :: a4 :: .ref x :: L) (st) M = (K (pc + 2) (a0 :: a1 :: a2 :: a3 :: a4 :: .ref x :: L) (.ref x :: st) M) := propext ⟨fun h => h.2, fun h => ⟨rfl, h⟩⟩
theorem v_lload_5 {a0 a1 a2 a3 a4 : Value} {x : Int64} : vstp oc ret cs post K (.ok (.lload 5, 2)) pc (a0 :: a1 :: a2 :: a3 :: a4 :: .long x :: L) (st) M = (K (pc + 2) (a0 :: a1 :: a2 :: a3 :: a4 :: .long x :: L) (.long x :: st) M) := propext ⟨fun h => h.2, fun h => ⟨rfl, h⟩⟩
theorem v_iload_6 {a0 a1 a2 a3 a4 a5 : Value} {x : Int32} : vstp oc ret cs post K (.ok (.iload 6, 2)) pc (a0 :: a1 :: a2 :: a3 :: a4 :: a5 :: .int x :: L) (st) M = (K (pc + 2) (a0 :: a1 :: a2 :: a3 :: a4 :: a5 :: .int x :: L) (.int x :: st) M) := propext ⟨fun h => h.2, fun h => ⟨rfl, h⟩⟩
theorem v_aload_6 {a0 a1 a2 a3 a4 a5 : Value} {x : Nat} : vstp oc ret cs post K (.ok (.aload 6, 2)) pc (a0 :: a1 :: a2 :: a3 :: a4 :: a5 :: .ref x :: L) (st) M = (K (pc + 2) (a0 :: a1 :: a2 :: a3 :: a4 :: a5 :: .ref x :: L) (.ref x :: st) M) := propext ⟨fun h => h.2, fun h => ⟨rfl, h⟩⟩
theorem v_lload_6 {a0 a1 a2 a3 a4 a5 : Value} {x : Int64} : vstp oc ret cs post K (.ok (.lload 6, 2)) pc (a0 :: a1 :: a2 :: a3 :: a4 :: a5 :: .long x :: L) (st) M = (K (pc + 2) (a0 :: a1 :: a2 :: a3 :: a4 :: a5 :: .long x :: L) (.long x :: st) M) := propext ⟨fun h => h.2, fun h => ⟨rfl, h⟩⟩
theorem v_iload_7 {a0 a1 a2 a3 a4 a5 a6 : Value} {x : Int32} : vstp oc ret cs post K (.ok (.iload 7, 2)) pc (a0 :: a1 :: a2 :: a3 :: a4 :: a5 :: a6 :: .int x :: L) (st) M = (K (pc + 2) (a0 :: a1 :: a2 :: a3 :: a4 :: a5 :: a6 :: .int x :: L) (.int x :: st) M) := propext ⟨fun h => h.2, fun h => ⟨rfl, h⟩⟩
theorem v_iload_8 {a0 a1 a2 a3 a4 a5 a6 a7 : Value} {x : Int32} : vstp oc ret cs post K (.ok (.iload 8, 2)) pc (a0 :: a1 :: a2 :: a3 :: a4 :: a5 :: a6 :: a7 :: .int x :: L) (st) M = (K (pc + 2) (a0 :: a1 :: a2 :: a3 :: a4 :: a5 :: a6 :: a7 :: .int x :: L) (.int x :: st) M) := propext ⟨fun h => h.2, fun h => ⟨rfl, h⟩⟩
theorem v_iload_9 {a0 a1 a2 a3 a4 a5 a6 a7 a8 : Value} {x : Int32} : vstp oc ret cs post K (.ok (.iload 9, 2)) pc (a0 :: a1 :: a2 :: a3 :: a4 :: a5 :: a6 :: a7 :: a8 :: .int x :: L) (st) M = (K (pc + 2) (a0 :: a1 :: a2 :: a3 :: a4 :: a5 :: a6 :: a7 :: a8 :: .int x :: L) (.int x :: st) M) := propext ⟨fun h => h.2, fun h => ⟨rfl, h⟩⟩
theorem v_istore_0 {w : Value} {x : Int32} : vstp oc ret cs post K (.ok (.istore_n 0, 1)) pc (w :: L) (.int x :: r) M = (K (pc + 1) (.int x :: L) r M) := propext ⟨fun h => h.2.2.2, fun h => ⟨rfl, by simp, rfl, h⟩⟩
theorem v_istore_1 {a0 : Value} {w : Value} {x : Int32} : vstp oc ret cs post K (.ok (.istore_n 1, 1)) pc (a0 :: w :: L) (.int x :: r) M = (a0.category = 1 ∧ K (pc + 1) (a0 :: .int x :: L) r M) := propext ⟨fun h => ⟨(beq_iff_eq.mp h.2.2.1), h.2.2.2⟩, fun h => ⟨rfl, by show 1 < _; simp only [List.length_cons]; omega, beq_iff_eq.mpr h.1, h.2⟩⟩
theorem v_istore_2 {a0 a1 : Value} {w : Value} {x : Int32} : vstp oc ret cs post K (.ok (.istore_n 2, 1)) pc (a0 :: a1 :: w :: L) (.int x :: r) M = (a1.category = 1 ∧ K (pc + 1) (a0 :: a1 :: .int x :: L) r M) := propext ⟨fun h => ⟨(beq_iff_eq.mp h.2.2.1), h.2.2.2⟩, fun h => ⟨rfl, by show 2 < _; simp only [List.length_cons]; omega, beq_iff_eq.mpr h.1, h.2⟩⟩
theorem v_istore_3 {a0 a1 a2 : Value} {w : Value} {x : Int32} : vstp oc ret cs post K (.ok (.istore_n 3, 1)) pc (a0 :: a1 :: a2 :: w :: L) (.int x :: r) M = (a2.category = 1 ∧ K (pc + 1) (a0 :: a1 :: a2 :: .int x :: L) r M) := propext ⟨fun h => ⟨(beq_iff_eq.mp h.2.2.1), h.2.2.2⟩, fun h => ⟨rfl, by show 3 < _; simp only [List.length_cons]; omega, beq_iff_eq.mpr h.1, h.2⟩⟩
theorem v_istore_4 {a0 a1 a2 a3 : Value} {w : Value} {x : Int32} : vstp oc ret cs post K (.ok (.istore 4, 2)) pc (a0 :: a1 :: a2 :: a3 :: w :: L) (.int x :: r) M = (a3.category = 1 ∧ K (pc + 2) (a0 :: a1 :: a2 :: a3 :: .int x :: L) r M) := propext ⟨fun h => ⟨(beq_iff_eq.mp h.2.2.1), h.2.2.2⟩, fun h => ⟨rfl, by show 4 < _; simp only [List.length_cons]; omega, beq_iff_eq.mpr h.1, h.2⟩⟩
theorem v_istore_5 {a0 a1 a2 a3 a4 : Value} {w : Value} {x : Int32} : vstp oc ret cs post K (.ok (.istore 5, 2)) pc (a0 :: a1 :: a2 :: a3 :: a4 :: w :: L) (.int x :: r) M = (a4.category = 1 ∧ K (pc + 2) (a0 :: a1 :: a2 :: a3 :: a4 :: .int x :: L) r M) := propext ⟨fun h => ⟨(beq_iff_eq.mp h.2.2.1), h.2.2.2⟩, fun h => ⟨rfl, by show 5 < _; simp only [List.length_cons]; omega, beq_iff_eq.mpr h.1, h.2⟩⟩
theorem v_istore_6 {a0 a1 a2 a3 a4 a5 : Value} {w : Value} {x : Int32} : vstp oc ret cs post K (.ok (.istore 6, 2)) pc (a0 :: a1 :: a2 :: a3 :: a4 :: a5 :: w :: L) (.int x :: r) M = (a5.category = 1 ∧ K (pc + 2) (a0 :: a1 :: a2 :: a3 :: a4 :: a5 :: .int x :: L) r M) := propext ⟨fun h => ⟨(beq_iff_eq.mp h.2.2.1), h.2.2.2⟩, fun h => ⟨rfl, by show 6 < _; simp only [List.length_cons]; omega, beq_iff_eq.mpr h.1, h.2⟩⟩
theorem v_istore_7 {a0 a1 a2 a3 a4 a5 a6 : Value} {w : Value} {x : Int32} : vstp oc ret cs post K (.ok (.istore 7, 2)) pc (a0 :: a1 :: a2 :: a3 :: a4 :: a5 :: a6 :: w :: L) (.int x :: r) M = (a6.category = 1 ∧ K (pc + 2) (a0 :: a1 :: a2 :: a3 :: a4 :: a5 :: a6 :: .int x :: L) r M) := propext ⟨fun h => ⟨(beq_iff_eq.mp h.2.2.1), h.2.2.2⟩, fun h => ⟨rfl, by show 7 < _; simp only [List.length_cons]; omega, beq_iff_eq.mpr h.1, h.2⟩⟩
theorem v_istore_8 {a0 a1 a2 a3 a4 a5 a6 a7 : Value} {w : Value} {x : Int32} : vstp oc ret cs post K (.ok (.istore 8, 2)) pc (a0 :: a1 :: a2 :: a3 :: a4 :: a5 :: a6 :: a7 :: w :: L) (.int x :: r) M = (a7.category = 1 ∧ K (pc + 2) (a0 :: a1 :: a2 :: a3 :: a4 :: a5 :: a6 :: a7 :: .int x :: L) r M) := propext ⟨fun h => ⟨(beq_iff_eq.mp h.2.2.1), h.2.2.2⟩, fun h => ⟨rfl, by show 8 < _; simp only [List.length_cons]; omega, beq_iff_eq.mpr h.1, h.2⟩⟩
theorem v_istore_9 {a0 a1 a2 a3 a4 a5 a6 a7 a8 : Value} {w : Value} {x : Int32} : vstp oc ret cs post K (.ok (.istore 9, 2)) pc (a0 :: a1 :: a2 :: a3 :: a4 :: a5 :: a6 :: a7 :: a8 :: w :: L) (.int x :: r) M = (a8.category = 1 ∧ K (pc + 2) (a0 :: a1 :: a2 :: a3 :: a4 :: a5 :: a6 :: a7 :: a8 :: .int x :: L) r M) := propext ⟨fun h => ⟨(beq_iff_eq.mp h.2.2.1), h.2.2.2⟩, fun h => ⟨rfl, by show 9 < _; simp only [List.length_cons]; omega, beq_iff_eq.mpr h.1, h.2⟩⟩
theorem v_lstore_0 {w w2 : Value} {x : Int64} : vstp oc ret cs post K (.ok (.lstore_n 0, 1)) pc (w :: w2 :: L) (.long x :: r) M = (K (pc + 1) (.long x :: .retAddr 0 :: L) r M) := propext ⟨fun h => h.2.2.2, fun h => ⟨rfl, by simp, rfl, h⟩⟩
theorem v_lstore_1 {a0 : Value} {w w2 : Value} {x : Int64} : vstp oc ret cs post K (.ok (.lstore_n 1, 1)) pc (a0 :: w :: w2 :: L) (.long x :: r) M = (a0.category = 1 ∧ K (pc + 1) (a0 :: .long x :: .retAddr 0 :: L) r M) := propext ⟨fun h => ⟨(beq_iff_eq.mp h.2.2.1), h.2.2.2⟩, fun h => ⟨rfl, by show 1 + 1 < _; simp only [List.length_cons]; omega, beq_iff_eq.mpr h.1, h.2⟩⟩
theorem v_lstore_2 {a0 a1 : Value} {w w2 : Value} {x : Int64} : vstp oc ret cs post K (.ok (.lstore_n 2, 1)) pc (a0 :: a1 :: w :: w2 :: L) (.long x :: r) M = (a1.category = 1 ∧ K (pc + 1) (a0 :: a1 :: .long x :: .retAddr 0 :: L) r M) := propext ⟨fun h => ⟨(beq_iff_eq.mp h.2.2.1), h.2.2.2⟩, fun h => ⟨rfl, by show 2 + 1 < _; simp only [List.length_cons]; omega, beq_iff_eq.mpr h.1, h.2⟩⟩
theorem v_lstore_3 {a0 a1 a2 : Value} {w w2 : Value} {x : Int64} : vstp oc ret cs post K (.ok (.lstore_n 3, 1)) pc (a0 :: a1 :: a2 :: w :: w2 :: L) (.long x :: r) M = (a2.category = 1 ∧ K (pc + 1) (a0 :: a1 :: a2 :: .long x :: .retAddr 0 :: L) r M) := propext ⟨fun h => ⟨(beq_iff_eq.mp h.2.2.1), h.2.2.2⟩, fun h => ⟨rfl, by show 3 + 1 < _; simp only [List.length_cons]; omega, beq_iff_eq.mpr h.1, h.2⟩⟩
theorem v_lstore_4 {a0 a1 a2 a3 : Value} {w w2 : Value} {x : Int64} : vstp oc ret cs post K (.ok (.lstore 4, 2)) pc (a0 :: a1 :: a2 :: a3 :: w :: w2 :: L) (.long x :: r) M = (a3.category = 1 ∧ K (pc + 2) (a0 :: a1 :: a2 :: a3 :: .long x :: .retAddr 0 :: L) r M) := propext ⟨fun h => ⟨(beq_iff_eq.mp h.2.2.1), h.2.2.2⟩, fun h => ⟨rfl, by show 4 + 1 < _; simp only [List.length_cons]; omega, beq_iff_eq.mpr h.1, h.2⟩⟩
theorem v_lstore_5 {a0 a1 a2 a3 a4 : Value} {w w2 : Value} {x : Int64} : vstp oc ret cs post K (.ok (.lstore 5, 2)) pc (a0 :: a1 :: a2 :: a3 :: a4 :: w :: w2 :: L) (.long x :: r) M = (a4.category = 1 ∧ K (pc + 2) (a0 :: a1 :: a2 :: a3 :: a4 :: .long x :: .retAddr 0 :: L) r M) := propext ⟨fun h => ⟨(beq_iff_eq.mp h.2.2.1), h.2.2.2⟩, fun h => ⟨rfl, by show 5 + 1 < _; simp only [List.length_cons]; omega, beq_iff_eq.mpr h.1, h.2⟩⟩
theorem v_lstore_6 {a0 a1 a2 a3 a4 a5 : Value} {w w2 : Value} {x : Int64} : vstp oc ret cs post K (.ok (.lstore 6, 2)) pc (a0 :: a1 :: a2 :: a3 :: a4 :: a5 :: w :: w2 :: L) (.long x :: r) M = (a5.category = 1 ∧ K (pc + 2) (a0 :: a1 :: a2 :: a3 :: a4 :: a5 :: .long x :: .retAddr 0 :: L) r M) := propext ⟨fun h => ⟨(beq_iff_eq.mp h.2.2.1), h.2.2.2⟩, fun h => ⟨rfl, by show 6 + 1 < _; simp only [List.length_cons]; omega, beq_iff_eq.mpr h.1, h.2⟩⟩
theorem v_iinc_0 {n : Int} {x : Int32} : vstp oc ret cs post K (.ok (.iinc 0 n, 3)) pc (.int x :: L) st M = (K (pc + 3) (.int (x + Int32.ofInt n) :: L) st M) := propext ⟨fun h => h.2.2, fun h => ⟨rfl, rfl, h⟩⟩
theorem v_iinc_1 {a0 : Value} {n : Int} {x : Int32} : vstp oc ret cs post K (.ok (.iinc 1 n, 3)) pc (a0 :: .int x :: L) st M = (a0.category = 1 ∧ K (pc + 3) (a0 :: .int (x + Int32.ofInt n) :: L) st M) := propext ⟨fun h => ⟨(beq_iff_eq.mp h.2.1), h.2.2⟩, fun h => ⟨rfl, beq_iff_eq.mpr h.1, h.2⟩⟩
theorem v_iinc_2 {a0 a1 : Value} {n : Int} {x : Int32} : vstp oc ret cs post K (.ok (.iinc 2 n, 3)) pc (a0 :: a1 :: .int x :: L) st M = (a1.category = 1 ∧ K (pc + 3) (a0 :: a1 :: .int (x + Int32.ofInt n) :: L) st M) := propext ⟨fun h => ⟨(beq_iff_eq.mp h.2.1), h.2.2⟩, fun h => ⟨rfl, beq_iff_eq.mpr h.1, h.2⟩⟩
theorem v_iinc_3 {a0 a1 a2 : Value} {n : Int} {x : Int32} : vstp oc ret cs post K (.ok (.iinc 3 n, 3)) pc (a0 :: a1 :: a2 :: .int x :: L) st M = (a2.category = 1 ∧ K (pc + 3) (a0 :: a1 :: a2 :: .int (x + Int32.ofInt n) :: L) st M) := propext ⟨fun h => ⟨(beq_iff_eq.mp h.2.1), h.2.2⟩, fun h => ⟨rfl, beq_iff_eq.mpr h.1, h.2⟩⟩
theorem v_iinc_4 {a0 a1 a2 a3 : Value} {n : Int} {x : Int32} : vstp oc ret cs post K (.ok (.iinc 4 n, 3)) pc (a0 :: a1 :: a2 :: a3 :: .int x :: L) st M = (a3.category = 1 ∧ K (pc + 3) (a0 :: a1 :: a2 :: a3 :: .int (x + Int32.ofInt n) :: L) st M) := propext ⟨fun h => ⟨(beq_iff_eq.mp h.2.1), h.2.2⟩, fun h => ⟨rfl, beq_iff_eq.mpr h.1, h.2⟩⟩
theorem v_iinc_5 {a0 a1 a2 a3 a4 : Value} {n : Int} {x : Int32} : vstp oc ret cs post K (.ok (.iinc 5 n, 3)) pc (a0 :: a1 :: a2 :: a3 :: a4 :: .int x :: L) st M = (a4.category = 1 ∧ K (pc + 3) (a0 :: a1 :: a2 :: a3 :: a4 :: .int (x + Int32.ofInt n) :: L) st M) := propext ⟨fun h => ⟨(beq_iff_eq.mp h.2.1), h.2.2⟩, fun h => ⟨rfl, beq_iff_eq.mpr h.1, h.2⟩⟩
theorem v_iinc_6 {a0 a1 a2 a3 a4 a5 : Value} {n : Int} {x : Int32} : vstp oc ret cs post K (.ok (.iinc 6 n, 3)) pc (a0 :: a1 :: a2 :: a3 :: a4 :: a5 :: .int x :: L) st M = (a5.category = 1 ∧ K (pc + 3) (a0 :: a1 :: a2 :: a3 :: a4 :: a5 :: .int (x + Int32.ofInt n) :: L) st M) := propext ⟨fun h => ⟨(beq_iff_eq.mp h.2.1), h.2.2⟩, fun h => ⟨rfl, beq_iff_eq.mpr h.1, h.2⟩⟩
theorem v_iinc_7 {a0 a1 a2 a3 a4 a5 a6 : Value} {n : Int} {x : Int32} : vstp oc ret cs post K (.ok (.iinc 7 n, 3)) pc (a0 :: a1 :: a2 :: a3 :: a4 :: a5 :: a6 :: .int x :: L) st M = (a6.category = 1 ∧ K (pc + 3) (a0 :: a1 :: a2 :: a3 :: a4 :: a5 :: a6 :: .int (x + Int32.ofInt n) :: L) st M) := propext ⟨fun h => ⟨(beq_iff_eq.mp h.2.1), h.2.2⟩, fun h => ⟨rfl, beq_iff_eq.mpr h.1, h.2⟩⟩
theorem v_iinc_8 {a0 a1 a2 a3 a4 a5 a6 a7 : Value} {n : Int} {x : Int32} : vstp oc ret cs post K (.ok (.iinc 8 n, 3)) pc (a0 :: a1 :: a2 :: a3 :: a4 :: a5 :: a6 :: a7 :: .int x :: L) st M = (a7.category = 1 ∧ K (pc + 3) (a0 :: a1 :: a2 :: a3 :: a4 :: a5 :: a6 :: a7 :: .int (x + Int32.ofInt n) :: L) st M) := propext ⟨fun h => ⟨(beq_iff_eq.mp h.2.1), h.2.2⟩, fun h => ⟨rfl, beq_iff_eq.mpr h.1, h.2⟩⟩
theorem v_iinc_9 {a0 a1 a2 a3 a4 a5 a6 a7 a8 : Value} {n : Int} {x : Int32} : vstp oc ret cs post K (.ok (.iinc 9 n, 3)) pc (a0 :: a1 :: a2 :: a3 :: a4 :: a5 :: a6 :: a7 :: a8 :: .int x :: L) st M = (a8.category = 1 ∧ K (pc + 3) (a0 :: a1 :: a2 :: a3 :: a4 :: a5 :: a6 :: a7 :: a8 :: .int (x + Int32.ofInt n) :: L) st M) := propext ⟨fun h => ⟨(beq_iff_eq.mp h.2.1), h.2.2⟩, fun h => ⟨rfl, beq_iff_eq.mpr h.1, h.2⟩⟩
theorem v_if_eq {x : Int32} {off : Int} : vstp oc ret cs post K (.ok (.ifCond .eq off, 3)) pc (L) (.int x :: r) M = (0 ≤ (pc : Int) + off ∧ if x = 0 then K (bT pc off) L r M else K (pc + 3) L r M) := propext ⟨fun h => h.2, fun h => ⟨rfl, h⟩⟩
theorem v_if_ne {x : Int32} {off : Int} : vstp oc ret cs post K (.ok (.ifCond .ne off, 3)) pc (L) (.int x :: r) M = (0 ≤ (pc : Int) + off ∧ if ¬ x = 0 then K (bT pc off) L r M else K (pc + 3) L r M) := propext ⟨fun h => h.2, fun h => ⟨rfl, h⟩⟩
theorem v_if_lt {x : Int32} {off : Int} : vstp oc ret cs post K (.ok (.ifCond .lt off, 3)) pc (L) (.int x :: r) M = (0 ≤ (pc : Int) + off ∧ if x < 0 then K (bT pc off) L r M else K (pc + 3) L r M) := propext ⟨fun h => h.2, fun h => ⟨rfl, h⟩⟩
theorem v_if_ge {x : Int32} {off : Int} : vstp oc ret cs post K (.ok (.ifCond .ge off, 3)) pc (L) (.int x :: r) M = (0 ≤ (pc : Int) + off ∧ if 0 ≤ x then K (bT pc off) L r M else K (pc + 3) L r M) := propext ⟨fun h => h.2, fun h => ⟨rfl, h⟩⟩
theorem v_if_gt {x : Int32} {off : Int} : vstp oc ret cs post K (.ok (.ifCond .gt off, 3)) pc (L) (.int x :: r) M = (0 ≤ (pc : Int) + off ∧ if 0 < x then K (bT pc off) L r M else K (pc + 3) L r M) := propext ⟨fun h => h.2, fun h => ⟨rfl, h⟩⟩
theorem v_if_le {x : Int32} {off : Int} : vstp oc ret cs post K (.ok (.ifCond .le off, 3)) pc (L) (.int x :: r) M = (0 ≤ (pc : Int) + off ∧ if x ≤ 0 then K (bT pc off) L r M else K (pc + 3) L r M) := propext ⟨fun h => h.2, fun h => ⟨rfl, h⟩⟩
theorem v_ic_eq {x y : Int32} {off : Int} : vstp oc ret cs post K (.ok (.if_icmp .eq off, 3)) pc (L) (.int y :: .int x :: r) M = (0 ≤ (pc : Int) + off ∧ if x = y then K (bT pc off) L r M else K (pc + 3) L r M) := propext ⟨fun h => h.2, fun h => ⟨rfl, h⟩⟩
theorem v_ic_ne {x y : Int32} {off : Int} : vstp oc ret cs post K (.ok (.if_icmp .ne off, 3)) pc (L) (.int y :: .int x :: r) M = (0 ≤ (pc : Int) + off ∧ if ¬ x = y then K (bT pc off) L r M else K (pc + 3) L r M) := propext ⟨fun h => h.2, fun h => ⟨rfl, h⟩⟩
theorem v_ic_lt {x y : Int32} {off : Int} : vstp oc ret cs post K (.ok (.if_icmp .lt off, 3)) pc (L) (.int y :: .int x :: r) M = (0 ≤ (pc : Int) + off ∧ if x < y then K (bT pc off) L r M else K (pc + 3) L r M) := propext ⟨fun h => h.2, fun h => ⟨rfl, h⟩⟩
theorem v_ic_ge {x y : Int32} {off : Int} : vstp oc ret cs post K (.ok (.if_icmp .ge off, 3)) pc (L) (.int y :: .int x :: r) M = (0 ≤ (pc : Int) + off ∧ if y ≤ x then K (bT pc off) L r M else K (pc + 3) L r M) := propext ⟨fun h => h.2, fun h => ⟨rfl, h⟩⟩
theorem v_ic_gt {x y : Int32} {off : Int} : vstp oc ret cs post K (.ok (.if_icmp .gt off, 3)) pc (L) (.int y :: .int x :: r) M = (0 ≤ (pc : Int) + off ∧ if y < x then K (bT pc off) L r M else K (pc + 3) L r M) := propext ⟨fun h => h.2, fun h => ⟨rfl, h⟩⟩
theorem v_ic_le {x y : Int32} {off : Int} : vstp oc ret cs post K (.ok (.if_icmp .le off, 3)) pc (L) (.int y :: .int x :: r) M = (0 ≤ (pc : Int) + off ∧ if x ≤ y then K (bT pc off) L r M else K (pc + 3) L r M) := propext ⟨fun h => h.2, fun h => ⟨rfl, h⟩⟩
theorem v_goto {off : Int} : vstp oc ret cs post K (.ok (.goto off, 3)) pc (L) (st) M = (0 ≤ (pc : Int) + off ∧ K (bT pc off) L st M) := propext ⟨fun h => h.2, fun h => ⟨rfl, h⟩⟩
def vld (x : Option Int32) (y : Option Nat) (K : Nat → List Value → List Value → Mem → Prop) (pc : Nat) (L st : List Value) (M : Mem) : Prop := match x with
  | some v => K pc L (.int v :: st) M
  | none => match y with
    | some j => K pc L (.ref (100 + j) :: st) M
    | none => False
theorem v_ldc {i : Nat} : vstp oc ret cs post K (.ok (.ldc i, 2)) pc (L) (st) M = (vld (kres oc i) (sres oc i) K (pc + 2) L st M) := propext ⟨fun h => h.2, fun h => ⟨rfl, h⟩⟩
theorem v_ldcw {i : Nat} : vstp oc ret cs post K (.ok (.ldc_w i, 3)) pc L st M = vld (kres oc i) none K (pc + 3) L st M := propext ⟨fun h => h.2, fun h => ⟨rfl, h⟩⟩
theorem vld_i {v : Int32} {y : Option Nat} : vld (some v) y K pc L st M = K pc L (.int v :: st) M := rfl
theorem vld_s {j : Nat} : vld none (some j) K pc L st M = K pc L (.ref (100 + j) :: st) M := rfl
def vgf (x : Option (Nat × Nat)) (K : Nat → List Value → List Value → Mem → Prop) (pc : Nat) (L : List Value) (p : Nat) (r : List Value) (M : Mem) : Prop := match x with
  | some (ci, k) => (match gf ci k p with
    | some (some q) => K (pc + 3) L (.ref q :: r) M
    | some none => K (pc + 3) L (.int (M p k) :: r) M
    | none => False)
  | none => False
def vgf2 (x : Option (Option Nat)) (k : Nat) (K : Nat → List Value → List Value → Mem → Prop) (pc : Nat) (L : List Value) (p : Nat) (r : List Value) (M : Mem) : Prop := match x with
  | some (some q) => K (pc + 3) L (.ref q :: r) M
  | some none => K (pc + 3) L (.int (M p k) :: r) M
  | none => False
theorem vgf_s {ci k p : Nat} : vgf (some (ci, k)) K pc L p r M = vgf2 (gf ci k p) k K pc L p r M := rfl
theorem vgf_r {k p q : Nat} : vgf2 (some (some q)) k K pc L p r M = K (pc + 3) L (.ref q :: r) M := rfl
theorem vgf_i {k p : Nat} : vgf2 (some none) k K pc L p r M = K (pc + 3) L (.int (M p k) :: r) M := rfl
def vpf (x : Option (Nat × Nat)) (v : Int32) (K : Nat → List Value → List Value → Mem → Prop) (pc : Nat) (L : List Value) (p : Nat) (r : List Value) (M : Mem) : Prop := match x with
  | some (ci, k) => gf ci k p = some none ∧ (pft ci k = 0 ∨ (pft ci k = 1 ∧ (v = 0 ∨ v = 1))) ∧ K (pc + 3) L r (mset M p k v)
  | none => False
theorem vpf_s {ci k p : Nat} {v : Int32} : vpf (some (ci, k)) v K pc L p r M = (gf ci k p = some none ∧ (pft ci k = 0 ∨ (pft ci k = 1 ∧ (v = 0 ∨ v = 1))) ∧ K (pc + 3) L r (mset M p k v)) := rfl
theorem v_getfield {i p : Nat} : vstp oc ret cs post K (.ok (.getfield i, 3)) pc (L) (.ref p :: r) M = (vgf (fres oc i) K pc L p r M) := propext ⟨fun h => h.2, fun h => ⟨rfl, h⟩⟩
theorem v_putfield {i p : Nat} {v : Int32} : vstp oc ret cs post K (.ok (.putfield i, 3)) pc (L) (.int v :: .ref p :: r) M = (vpf (fres oc i) v K pc L p r M) := propext ⟨fun h => h.2, fun h => ⟨rfl, h⟩⟩
theorem v_getstatic {i : Nat} : vstp oc ret cs post K (.ok (.getstatic i, 3)) pc (L) (st) M = (i = gsI.2 ∧ oc = gsI.1 ∧ K (pc + 3) L (.ref 90 :: st) M) := propext ⟨fun h => h.2, fun h => ⟨rfl, h⟩⟩
theorem v_iaload {i : Int32} {p : Nat} : vstp oc ret cs post K (.ok (.iaload, 1)) pc (L) (.int i :: .ref p :: r) M = (if p = 90 then (0 ≤ i.toInt ∧ i.toInt < (7 : Nat)) ∧ K (pc + 1) L (.int (kab.getD i.toNatClampNeg 0) :: r) M else (0 ≤ i.toInt ∧ i.toInt < al p) ∧ K (pc + 1) L (.int (M p i.toNatClampNeg) :: r) M) := propext ⟨fun h => h.2, fun h => ⟨rfl, h⟩⟩
theorem v_iastore {i v : Int32} {p : Nat} : vstp oc ret cs post K (.ok (.iastore, 1)) pc (L) (.int v :: .int i :: .ref p :: r) M = ((0 ≤ i.toInt ∧ i.toInt < al p) ∧ K (pc + 1) L r (mset M p i.toNatClampNeg v)) := propext ⟨fun h => h.2, fun h => ⟨rfl, h⟩⟩
def vaa (x : Option (Nat × Nat)) (i : Int32) (K : Nat → List Value → List Value → Mem → Prop) (pc : Nat) (L r : List Value) (M : Mem) : Prop := match x with
  | some (b, n) => (0 ≤ i.toInt ∧ i.toInt < n) ∧ K (pc + 1) L (.ref (b + i.toNatClampNeg) :: r) M
  | none => False
theorem vaa_s {b n : Nat} {i : Int32} : vaa (some (b, n)) i K pc L r M = ((0 ≤ i.toInt ∧ i.toInt < n) ∧ K (pc + 1) L (.ref (b + i.toNatClampNeg) :: r) M) := rfl
def vln (x : Option (Nat × Nat)) (p : Nat) (K : Nat → List Value → List Value → Mem → Prop) (pc : Nat) (L r : List Value) (M : Mem) : Prop := match x with
  | some (_, n) => K (pc + 1) L (.int (Int32.ofNat n) :: r) M
  | none => 0 < al p ∧ K (pc + 1) L (.int (Int32.ofNat (al p)) :: r) M
theorem vln_s {b n p : Nat} : vln (some (b, n)) p K pc L r M = K (pc + 1) L (.int (Int32.ofNat n) :: r) M := rfl
theorem vln_n {p : Nat} : vln none p K pc L r M = (0 < al p ∧ K (pc + 1) L (.int (Int32.ofNat (al p)) :: r) M) := rfl
theorem v_aaload {i : Int32} {p : Nat} : vstp oc ret cs post K (.ok (.aaload, 1)) pc (L) (.int i :: .ref p :: r) M = (vaa (ra p) i K pc L r M) := propext ⟨fun h => h.2, fun h => ⟨rfl, h⟩⟩
theorem v_arraylength {p : Nat} : vstp oc ret cs post K (.ok (.arraylength, 1)) pc (L) (.ref p :: r) M = (if p = 90 then K (pc + 1) L (.int 7 :: r) M else vln (ra p) p K pc L r M) := propext ⟨fun h => h.2, fun h => ⟨rfl, h⟩⟩
theorem v_ireturn {v : Int32} : vstp oc ret cs post K (.ok (.ireturn, 1)) pc (L) ([.int v]) M = (rOK ret v ∧ post (.int v) M) := propext ⟨fun h => h.2, fun h => ⟨rfl, h⟩⟩
theorem v_lreturn {v : Int64} : vstp oc ret cs post K (.ok (.lreturn, 1)) pc (L) ([.long v]) M = (ret = some .long ∧ post (.long v) M) := propext ⟨fun h => h.2, fun h => ⟨rfl, h⟩⟩
theorem v_return : vstp oc ret cs post K (.ok (.return_, 1)) pc (L) ([]) M = (ret = none ∧ post (.int 0) M) := propext ⟨fun h => h.2, fun h => ⟨rfl, h⟩⟩
theorem rOK_i {v : Int32} : rOK (some .int) v = True := rfl
theorem rOK_z {v : Int32} : rOK (some .boolean) v = (v = 0 ∨ v = 1) := rfl
theorem v_table {x : Int32} {df lo hi : Int} {offs : Array Int} {len : Nat} : vstp oc ret cs post K (.ok (.tableswitch df lo hi offs, len)) pc L (.int x :: r) M = ((-1000 ≤ lo ∧ hi ≤ 1000 ∧ hi = lo + offs.toList.length - 1) ∧ vtab (fun t => K t L r M) pc df x lo offs.toList) := rfl
theorem vtab_n {K : Nat → Prop} {pc : Nat} {df i : Int} {x : Int32} : vtab K pc df x i [] = (0 ≤ (pc : Int) + df ∧ K (bT pc df)) := rfl
theorem vtab_c {K : Nat → Prop} {pc : Nat} {df i o : Int} {os : List Int} {x : Int32} : vtab K pc df x i (o :: os) = if x = Int32.ofInt i then 0 ≤ (pc : Int) + o ∧ K (bT pc o) else vtab K pc df x (i + 1) os := rfl
def rr (r : Nat) (v : Value) (st : List Value) : List Value := if r = 0 then st else v :: st
theorem rr_0 {v : Value} {st : List Value} : rr 0 v st = st := rfl
theorem rr_1 {v : Value} {st : List Value} : rr 1 v st = v :: st := rfl
def vcV (x : Option (Nat × Nat × Nat × Nat)) (cs : Nat → List Value → Mem → (Value → Mem → Prop) → Prop) (K : Nat → List Value → List Value → Mem → Prop) (pc : Nat) (L st : List Value) (M : Mem) : Prop := match x with
  | some (j, n, r, md) => 10 ≤ md ∧ (st.drop n).length ≤ 4 ∧ (match (st.take n).reverse with
      | .ref p :: as => as.length + 1 = n ∧ pcl p = md - 10 ∧ cs j (.ref p :: as) M (fun v M' => K (pc + 3) L (if r = 0 then st.drop n else v :: st.drop n) M')
      | _ => False)
  | none => False
def vcS (x : Option (Nat × Nat × Nat × Nat)) (cs : Nat → List Value → Mem → (Value → Mem → Prop) → Prop) (K : Nat → List Value → List Value → Mem → Prop) (pc : Nat) (L st : List Value) (M : Mem) : Prop := match x with
    | some (j, n, r, md) => if md = 5 then (match st with
        | .int k :: .int dp :: .ref q :: .int sp :: .ref p :: rest => (rest.length ≤ 4 ∧ 0 ≤ sp.toInt ∧ 0 ≤ dp.toInt ∧ 0 ≤ k.toInt ∧ sp.toInt + k.toInt ≤ al p ∧ dp.toInt + k.toInt ≤ al q ∧ 0 < al p ∧ 0 < al q) ∧ K (pc + 3) L rest (mrow M q (va_cpy (M p) (M q) sp.toNatClampNeg dp.toNatClampNeg k.toNatClampNeg))
        | _ => False)
      else if md = 6 then (match st with
        | .int y :: .int x :: rest => rest.length ≤ 4 ∧ K (pc + 3) L (.int (if x < y then y else x) :: rest) M
        | _ => False)
      else if md = 7 then (match st with
        | .int y :: .int x :: rest => rest.length ≤ 4 ∧ K (pc + 3) L (.int (if y < x then y else x) :: rest) M
        | _ => False)
      else if md = 8 then (match st with
        | .int x :: rest => rest.length ≤ 4 ∧ K (pc + 3) L (.int (if 0 ≤ x then x else 0 - x) :: rest) M
        | _ => False)
      else (md = 1 ∨ md = 2) ∧ (st.take n).length = n ∧ (st.drop n).length ≤ 4 ∧ cs j (st.take n).reverse M (fun v M' => K (pc + 3) L (if r = 0 then st.drop n else v :: st.drop n) M')
    | none => False
theorem v_invv {i : Nat} : vstp oc ret cs post K (.ok (.invokevirtual i, 3)) pc (L) (st) M = (vcV (cres oc i) cs K pc L st M) := propext ⟨fun h => h.2, fun h => ⟨rfl, h⟩⟩
theorem v_invs {i : Nat} : vstp oc ret cs post K (.ok (.invokestatic i, 3)) pc (L) (st) M = (vcS (cres oc i) cs K pc L st M) := propext ⟨fun h => h.2, fun h => ⟨rfl, h⟩⟩
theorem vcV_1 {j r p ci : Nat} {rest : List Value} : vcV (some (j, 1, r, 10 + ci)) cs K pc L (.ref p :: rest) M = (rest.length ≤ 4 ∧ pcl p = ci ∧ cs j [.ref p] M (fun v M' => K (pc + 3) L (rr r v rest) M')) := by
  show (10 ≤ 10 + ci ∧ rest.length ≤ 4 ∧ (1 = 1 ∧ pcl p = 10 + ci - 10 ∧ cs j [.ref p] M (fun v M' => K (pc + 3) L (rr r v rest) M'))) = _
  simp [Nat.add_sub_cancel_left]
theorem vcV_1_0 {j r p : Nat} {rest : List Value} : vcV (some (j, 1, r, 10)) cs K pc L (.ref p :: rest) M = (rest.length ≤ 4 ∧ pcl p = 0 ∧ cs j [.ref p] M (fun v M' => K (pc + 3) L (rr r v rest) M')) := vcV_1 (ci := 0)
theorem vcV_1_1 {j r p : Nat} {rest : List Value} : vcV (some (j, 1, r, 11)) cs K pc L (.ref p :: rest) M = (rest.length ≤ 4 ∧ pcl p = 1 ∧ cs j [.ref p] M (fun v M' => K (pc + 3) L (rr r v rest) M')) := vcV_1 (ci := 1)
theorem vcV_1_2 {j r p : Nat} {rest : List Value} : vcV (some (j, 1, r, 12)) cs K pc L (.ref p :: rest) M = (rest.length ≤ 4 ∧ pcl p = 2 ∧ cs j [.ref p] M (fun v M' => K (pc + 3) L (rr r v rest) M')) := vcV_1 (ci := 2)
theorem vcV_1_3 {j r p : Nat} {rest : List Value} : vcV (some (j, 1, r, 13)) cs K pc L (.ref p :: rest) M = (rest.length ≤ 4 ∧ pcl p = 3 ∧ cs j [.ref p] M (fun v M' => K (pc + 3) L (rr r v rest) M')) := vcV_1 (ci := 3)
theorem vcV_1_4 {j r p : Nat} {rest : List Value} : vcV (some (j, 1, r, 14)) cs K pc L (.ref p :: rest) M = (rest.length ≤ 4 ∧ pcl p = 4 ∧ cs j [.ref p] M (fun v M' => K (pc + 3) L (rr r v rest) M')) := vcV_1 (ci := 4)
theorem vcV_1_5 {j r p : Nat} {rest : List Value} : vcV (some (j, 1, r, 15)) cs K pc L (.ref p :: rest) M = (rest.length ≤ 4 ∧ pcl p = 5 ∧ cs j [.ref p] M (fun v M' => K (pc + 3) L (rr r v rest) M')) := vcV_1 (ci := 5)
theorem vcV_1_6 {j r p : Nat} {rest : List Value} : vcV (some (j, 1, r, 16)) cs K pc L (.ref p :: rest) M = (rest.length ≤ 4 ∧ pcl p = 6 ∧ cs j [.ref p] M (fun v M' => K (pc + 3) L (rr r v rest) M')) := vcV_1 (ci := 6)
theorem vcV_1_7 {j r p : Nat} {rest : List Value} : vcV (some (j, 1, r, 17)) cs K pc L (.ref p :: rest) M = (rest.length ≤ 4 ∧ pcl p = 7 ∧ cs j [.ref p] M (fun v M' => K (pc + 3) L (rr r v rest) M')) := vcV_1 (ci := 7)
theorem vcV_2 {j r p ci : Nat} {b1 : Value} {rest : List Value} : vcV (some (j, 2, r, 10 + ci)) cs K pc L (b1 :: .ref p :: rest) M = (rest.length ≤ 4 ∧ pcl p = ci ∧ cs j [.ref p, b1] M (fun v M' => K (pc + 3) L (rr r v rest) M')) := by
  show (10 ≤ 10 + ci ∧ rest.length ≤ 4 ∧ (2 = 2 ∧ pcl p = 10 + ci - 10 ∧ cs j [.ref p, b1] M (fun v M' => K (pc + 3) L (rr r v rest) M'))) = _
  simp [Nat.add_sub_cancel_left]
theorem vcV_2_0 {j r p : Nat} {b1 : Value} {rest : List Value} : vcV (some (j, 2, r, 10)) cs K pc L (b1 :: .ref p :: rest) M = (rest.length ≤ 4 ∧ pcl p = 0 ∧ cs j [.ref p, b1] M (fun v M' => K (pc + 3) L (rr r v rest) M')) := vcV_2 (ci := 0)
theorem vcV_2_1 {j r p : Nat} {b1 : Value} {rest : List Value} : vcV (some (j, 2, r, 11)) cs K pc L (b1 :: .ref p :: rest) M = (rest.length ≤ 4 ∧ pcl p = 1 ∧ cs j [.ref p, b1] M (fun v M' => K (pc + 3) L (rr r v rest) M')) := vcV_2 (ci := 1)
theorem vcV_2_2 {j r p : Nat} {b1 : Value} {rest : List Value} : vcV (some (j, 2, r, 12)) cs K pc L (b1 :: .ref p :: rest) M = (rest.length ≤ 4 ∧ pcl p = 2 ∧ cs j [.ref p, b1] M (fun v M' => K (pc + 3) L (rr r v rest) M')) := vcV_2 (ci := 2)
theorem vcV_2_3 {j r p : Nat} {b1 : Value} {rest : List Value} : vcV (some (j, 2, r, 13)) cs K pc L (b1 :: .ref p :: rest) M = (rest.length ≤ 4 ∧ pcl p = 3 ∧ cs j [.ref p, b1] M (fun v M' => K (pc + 3) L (rr r v rest) M')) := vcV_2 (ci := 3)
theorem vcV_2_4 {j r p : Nat} {b1 : Value} {rest : List Value} : vcV (some (j, 2, r, 14)) cs K pc L (b1 :: .ref p :: rest) M = (rest.length ≤ 4 ∧ pcl p = 4 ∧ cs j [.ref p, b1] M (fun v M' => K (pc + 3) L (rr r v rest) M')) := vcV_2 (ci := 4)
theorem vcV_2_5 {j r p : Nat} {b1 : Value} {rest : List Value} : vcV (some (j, 2, r, 15)) cs K pc L (b1 :: .ref p :: rest) M = (rest.length ≤ 4 ∧ pcl p = 5 ∧ cs j [.ref p, b1] M (fun v M' => K (pc + 3) L (rr r v rest) M')) := vcV_2 (ci := 5)
theorem vcV_2_6 {j r p : Nat} {b1 : Value} {rest : List Value} : vcV (some (j, 2, r, 16)) cs K pc L (b1 :: .ref p :: rest) M = (rest.length ≤ 4 ∧ pcl p = 6 ∧ cs j [.ref p, b1] M (fun v M' => K (pc + 3) L (rr r v rest) M')) := vcV_2 (ci := 6)
theorem vcV_2_7 {j r p : Nat} {b1 : Value} {rest : List Value} : vcV (some (j, 2, r, 17)) cs K pc L (b1 :: .ref p :: rest) M = (rest.length ≤ 4 ∧ pcl p = 7 ∧ cs j [.ref p, b1] M (fun v M' => K (pc + 3) L (rr r v rest) M')) := vcV_2 (ci := 7)
theorem vcV_3 {j r p ci : Nat} {b1 b2 : Value} {rest : List Value} : vcV (some (j, 3, r, 10 + ci)) cs K pc L (b2 :: b1 :: .ref p :: rest) M = (rest.length ≤ 4 ∧ pcl p = ci ∧ cs j [.ref p, b1, b2] M (fun v M' => K (pc + 3) L (rr r v rest) M')) := by
  show (10 ≤ 10 + ci ∧ rest.length ≤ 4 ∧ (3 = 3 ∧ pcl p = 10 + ci - 10 ∧ cs j [.ref p, b1, b2] M (fun v M' => K (pc + 3) L (rr r v rest) M'))) = _
  simp [Nat.add_sub_cancel_left]
theorem vcV_3_0 {j r p : Nat} {b1 b2 : Value} {rest : List Value} : vcV (some (j, 3, r, 10)) cs K pc L (b2 :: b1 :: .ref p :: rest) M = (rest.length ≤ 4 ∧ pcl p = 0 ∧ cs j [.ref p, b1, b2] M (fun v M' => K (pc + 3) L (rr r v rest) M')) := vcV_3 (ci := 0)
theorem vcV_3_1 {j r p : Nat} {b1 b2 : Value} {rest : List Value} : vcV (some (j, 3, r, 11)) cs K pc L (b2 :: b1 :: .ref p :: rest) M = (rest.length ≤ 4 ∧ pcl p = 1 ∧ cs j [.ref p, b1, b2] M (fun v M' => K (pc + 3) L (rr r v rest) M')) := vcV_3 (ci := 1)
theorem vcV_3_2 {j r p : Nat} {b1 b2 : Value} {rest : List Value} : vcV (some (j, 3, r, 12)) cs K pc L (b2 :: b1 :: .ref p :: rest) M = (rest.length ≤ 4 ∧ pcl p = 2 ∧ cs j [.ref p, b1, b2] M (fun v M' => K (pc + 3) L (rr r v rest) M')) := vcV_3 (ci := 2)
theorem vcV_3_3 {j r p : Nat} {b1 b2 : Value} {rest : List Value} : vcV (some (j, 3, r, 13)) cs K pc L (b2 :: b1 :: .ref p :: rest) M = (rest.length ≤ 4 ∧ pcl p = 3 ∧ cs j [.ref p, b1, b2] M (fun v M' => K (pc + 3) L (rr r v rest) M')) := vcV_3 (ci := 3)
theorem vcV_3_4 {j r p : Nat} {b1 b2 : Value} {rest : List Value} : vcV (some (j, 3, r, 14)) cs K pc L (b2 :: b1 :: .ref p :: rest) M = (rest.length ≤ 4 ∧ pcl p = 4 ∧ cs j [.ref p, b1, b2] M (fun v M' => K (pc + 3) L (rr r v rest) M')) := vcV_3 (ci := 4)
theorem vcV_3_5 {j r p : Nat} {b1 b2 : Value} {rest : List Value} : vcV (some (j, 3, r, 15)) cs K pc L (b2 :: b1 :: .ref p :: rest) M = (rest.length ≤ 4 ∧ pcl p = 5 ∧ cs j [.ref p, b1, b2] M (fun v M' => K (pc + 3) L (rr r v rest) M')) := vcV_3 (ci := 5)
theorem vcV_3_6 {j r p : Nat} {b1 b2 : Value} {rest : List Value} : vcV (some (j, 3, r, 16)) cs K pc L (b2 :: b1 :: .ref p :: rest) M = (rest.length ≤ 4 ∧ pcl p = 6 ∧ cs j [.ref p, b1, b2] M (fun v M' => K (pc + 3) L (rr r v rest) M')) := vcV_3 (ci := 6)
theorem vcV_3_7 {j r p : Nat} {b1 b2 : Value} {rest : List Value} : vcV (some (j, 3, r, 17)) cs K pc L (b2 :: b1 :: .ref p :: rest) M = (rest.length ≤ 4 ∧ pcl p = 7 ∧ cs j [.ref p, b1, b2] M (fun v M' => K (pc + 3) L (rr r v rest) M')) := vcV_3 (ci := 7)
theorem vcV_4 {j r p ci : Nat} {b1 b2 b3 : Value} {rest : List Value} : vcV (some (j, 4, r, 10 + ci)) cs K pc L (b3 :: b2 :: b1 :: .ref p :: rest) M = (rest.length ≤ 4 ∧ pcl p = ci ∧ cs j [.ref p, b1, b2, b3] M (fun v M' => K (pc + 3) L (rr r v rest) M')) := by
  show (10 ≤ 10 + ci ∧ rest.length ≤ 4 ∧ (4 = 4 ∧ pcl p = 10 + ci - 10 ∧ cs j [.ref p, b1, b2, b3] M (fun v M' => K (pc + 3) L (rr r v rest) M'))) = _
  simp [Nat.add_sub_cancel_left]
theorem vcV_4_0 {j r p : Nat} {b1 b2 b3 : Value} {rest : List Value} : vcV (some (j, 4, r, 10)) cs K pc L (b3 :: b2 :: b1 :: .ref p :: rest) M = (rest.length ≤ 4 ∧ pcl p = 0 ∧ cs j [.ref p, b1, b2, b3] M (fun v M' => K (pc + 3) L (rr r v rest) M')) := vcV_4 (ci := 0)
theorem vcV_4_1 {j r p : Nat} {b1 b2 b3 : Value} {rest : List Value} : vcV (some (j, 4, r, 11)) cs K pc L (b3 :: b2 :: b1 :: .ref p :: rest) M = (rest.length ≤ 4 ∧ pcl p = 1 ∧ cs j [.ref p, b1, b2, b3] M (fun v M' => K (pc + 3) L (rr r v rest) M')) := vcV_4 (ci := 1)
theorem vcV_4_2 {j r p : Nat} {b1 b2 b3 : Value} {rest : List Value} : vcV (some (j, 4, r, 12)) cs K pc L (b3 :: b2 :: b1 :: .ref p :: rest) M = (rest.length ≤ 4 ∧ pcl p = 2 ∧ cs j [.ref p, b1, b2, b3] M (fun v M' => K (pc + 3) L (rr r v rest) M')) := vcV_4 (ci := 2)
theorem vcV_4_3 {j r p : Nat} {b1 b2 b3 : Value} {rest : List Value} : vcV (some (j, 4, r, 13)) cs K pc L (b3 :: b2 :: b1 :: .ref p :: rest) M = (rest.length ≤ 4 ∧ pcl p = 3 ∧ cs j [.ref p, b1, b2, b3] M (fun v M' => K (pc + 3) L (rr r v rest) M')) := vcV_4 (ci := 3)
theorem vcV_4_4 {j r p : Nat} {b1 b2 b3 : Value} {rest : List Value} : vcV (some (j, 4, r, 14)) cs K pc L (b3 :: b2 :: b1 :: .ref p :: rest) M = (rest.length ≤ 4 ∧ pcl p = 4 ∧ cs j [.ref p, b1, b2, b3] M (fun v M' => K (pc + 3) L (rr r v rest) M')) := vcV_4 (ci := 4)
theorem vcV_4_5 {j r p : Nat} {b1 b2 b3 : Value} {rest : List Value} : vcV (some (j, 4, r, 15)) cs K pc L (b3 :: b2 :: b1 :: .ref p :: rest) M = (rest.length ≤ 4 ∧ pcl p = 5 ∧ cs j [.ref p, b1, b2, b3] M (fun v M' => K (pc + 3) L (rr r v rest) M')) := vcV_4 (ci := 5)
theorem vcV_4_6 {j r p : Nat} {b1 b2 b3 : Value} {rest : List Value} : vcV (some (j, 4, r, 16)) cs K pc L (b3 :: b2 :: b1 :: .ref p :: rest) M = (rest.length ≤ 4 ∧ pcl p = 6 ∧ cs j [.ref p, b1, b2, b3] M (fun v M' => K (pc + 3) L (rr r v rest) M')) := vcV_4 (ci := 6)
theorem vcV_4_7 {j r p : Nat} {b1 b2 b3 : Value} {rest : List Value} : vcV (some (j, 4, r, 17)) cs K pc L (b3 :: b2 :: b1 :: .ref p :: rest) M = (rest.length ≤ 4 ∧ pcl p = 7 ∧ cs j [.ref p, b1, b2, b3] M (fun v M' => K (pc + 3) L (rr r v rest) M')) := vcV_4 (ci := 7)
theorem vcV_5 {j r p ci : Nat} {b1 b2 b3 b4 : Value} {rest : List Value} : vcV (some (j, 5, r, 10 + ci)) cs K pc L (b4 :: b3 :: b2 :: b1 :: .ref p :: rest) M = (rest.length ≤ 4 ∧ pcl p = ci ∧ cs j [.ref p, b1, b2, b3, b4] M (fun v M' => K (pc + 3) L (rr r v rest) M')) := by
  show (10 ≤ 10 + ci ∧ rest.length ≤ 4 ∧ (5 = 5 ∧ pcl p = 10 + ci - 10 ∧ cs j [.ref p, b1, b2, b3, b4] M (fun v M' => K (pc + 3) L (rr r v rest) M'))) = _
  simp [Nat.add_sub_cancel_left]
theorem vcV_5_0 {j r p : Nat} {b1 b2 b3 b4 : Value} {rest : List Value} : vcV (some (j, 5, r, 10)) cs K pc L (b4 :: b3 :: b2 :: b1 :: .ref p :: rest) M = (rest.length ≤ 4 ∧ pcl p = 0 ∧ cs j [.ref p, b1, b2, b3, b4] M (fun v M' => K (pc + 3) L (rr r v rest) M')) := vcV_5 (ci := 0)
theorem vcV_5_1 {j r p : Nat} {b1 b2 b3 b4 : Value} {rest : List Value} : vcV (some (j, 5, r, 11)) cs K pc L (b4 :: b3 :: b2 :: b1 :: .ref p :: rest) M = (rest.length ≤ 4 ∧ pcl p = 1 ∧ cs j [.ref p, b1, b2, b3, b4] M (fun v M' => K (pc + 3) L (rr r v rest) M')) := vcV_5 (ci := 1)
theorem vcV_5_2 {j r p : Nat} {b1 b2 b3 b4 : Value} {rest : List Value} : vcV (some (j, 5, r, 12)) cs K pc L (b4 :: b3 :: b2 :: b1 :: .ref p :: rest) M = (rest.length ≤ 4 ∧ pcl p = 2 ∧ cs j [.ref p, b1, b2, b3, b4] M (fun v M' => K (pc + 3) L (rr r v rest) M')) := vcV_5 (ci := 2)
theorem vcV_5_3 {j r p : Nat} {b1 b2 b3 b4 : Value} {rest : List Value} : vcV (some (j, 5, r, 13)) cs K pc L (b4 :: b3 :: b2 :: b1 :: .ref p :: rest) M = (rest.length ≤ 4 ∧ pcl p = 3 ∧ cs j [.ref p, b1, b2, b3, b4] M (fun v M' => K (pc + 3) L (rr r v rest) M')) := vcV_5 (ci := 3)
theorem vcV_5_4 {j r p : Nat} {b1 b2 b3 b4 : Value} {rest : List Value} : vcV (some (j, 5, r, 14)) cs K pc L (b4 :: b3 :: b2 :: b1 :: .ref p :: rest) M = (rest.length ≤ 4 ∧ pcl p = 4 ∧ cs j [.ref p, b1, b2, b3, b4] M (fun v M' => K (pc + 3) L (rr r v rest) M')) := vcV_5 (ci := 4)
theorem vcV_5_5 {j r p : Nat} {b1 b2 b3 b4 : Value} {rest : List Value} : vcV (some (j, 5, r, 15)) cs K pc L (b4 :: b3 :: b2 :: b1 :: .ref p :: rest) M = (rest.length ≤ 4 ∧ pcl p = 5 ∧ cs j [.ref p, b1, b2, b3, b4] M (fun v M' => K (pc + 3) L (rr r v rest) M')) := vcV_5 (ci := 5)
theorem vcV_5_6 {j r p : Nat} {b1 b2 b3 b4 : Value} {rest : List Value} : vcV (some (j, 5, r, 16)) cs K pc L (b4 :: b3 :: b2 :: b1 :: .ref p :: rest) M = (rest.length ≤ 4 ∧ pcl p = 6 ∧ cs j [.ref p, b1, b2, b3, b4] M (fun v M' => K (pc + 3) L (rr r v rest) M')) := vcV_5 (ci := 6)
theorem vcV_5_7 {j r p : Nat} {b1 b2 b3 b4 : Value} {rest : List Value} : vcV (some (j, 5, r, 17)) cs K pc L (b4 :: b3 :: b2 :: b1 :: .ref p :: rest) M = (rest.length ≤ 4 ∧ pcl p = 7 ∧ cs j [.ref p, b1, b2, b3, b4] M (fun v M' => K (pc + 3) L (rr r v rest) M')) := vcV_5 (ci := 7)
theorem vcV_6 {j r p ci : Nat} {b1 b2 b3 b4 b5 : Value} {rest : List Value} : vcV (some (j, 6, r, 10 + ci)) cs K pc L (b5 :: b4 :: b3 :: b2 :: b1 :: .ref p :: rest) M = (rest.length ≤ 4 ∧ pcl p = ci ∧ cs j [.ref p, b1, b2, b3, b4, b5] M (fun v M' => K (pc + 3) L (rr r v rest) M')) := by
  show (10 ≤ 10 + ci ∧ rest.length ≤ 4 ∧ (6 = 6 ∧ pcl p = 10 + ci - 10 ∧ cs j [.ref p, b1, b2, b3, b4, b5] M (fun v M' => K (pc + 3) L (rr r v rest) M'))) = _
  simp [Nat.add_sub_cancel_left]
theorem vcV_6_0 {j r p : Nat} {b1 b2 b3 b4 b5 : Value} {rest : List Value} : vcV (some (j, 6, r, 10)) cs K pc L (b5 :: b4 :: b3 :: b2 :: b1 :: .ref p :: rest) M = (rest.length ≤ 4 ∧ pcl p = 0 ∧ cs j [.ref p, b1, b2, b3, b4, b5] M (fun v M' => K (pc + 3) L (rr r v rest) M')) := vcV_6 (ci := 0)
theorem vcV_6_1 {j r p : Nat} {b1 b2 b3 b4 b5 : Value} {rest : List Value} : vcV (some (j, 6, r, 11)) cs K pc L (b5 :: b4 :: b3 :: b2 :: b1 :: .ref p :: rest) M = (rest.length ≤ 4 ∧ pcl p = 1 ∧ cs j [.ref p, b1, b2, b3, b4, b5] M (fun v M' => K (pc + 3) L (rr r v rest) M')) := vcV_6 (ci := 1)
theorem vcV_6_2 {j r p : Nat} {b1 b2 b3 b4 b5 : Value} {rest : List Value} : vcV (some (j, 6, r, 12)) cs K pc L (b5 :: b4 :: b3 :: b2 :: b1 :: .ref p :: rest) M = (rest.length ≤ 4 ∧ pcl p = 2 ∧ cs j [.ref p, b1, b2, b3, b4, b5] M (fun v M' => K (pc + 3) L (rr r v rest) M')) := vcV_6 (ci := 2)
theorem vcV_6_3 {j r p : Nat} {b1 b2 b3 b4 b5 : Value} {rest : List Value} : vcV (some (j, 6, r, 13)) cs K pc L (b5 :: b4 :: b3 :: b2 :: b1 :: .ref p :: rest) M = (rest.length ≤ 4 ∧ pcl p = 3 ∧ cs j [.ref p, b1, b2, b3, b4, b5] M (fun v M' => K (pc + 3) L (rr r v rest) M')) := vcV_6 (ci := 3)
theorem vcV_6_4 {j r p : Nat} {b1 b2 b3 b4 b5 : Value} {rest : List Value} : vcV (some (j, 6, r, 14)) cs K pc L (b5 :: b4 :: b3 :: b2 :: b1 :: .ref p :: rest) M = (rest.length ≤ 4 ∧ pcl p = 4 ∧ cs j [.ref p, b1, b2, b3, b4, b5] M (fun v M' => K (pc + 3) L (rr r v rest) M')) := vcV_6 (ci := 4)
theorem vcV_6_5 {j r p : Nat} {b1 b2 b3 b4 b5 : Value} {rest : List Value} : vcV (some (j, 6, r, 15)) cs K pc L (b5 :: b4 :: b3 :: b2 :: b1 :: .ref p :: rest) M = (rest.length ≤ 4 ∧ pcl p = 5 ∧ cs j [.ref p, b1, b2, b3, b4, b5] M (fun v M' => K (pc + 3) L (rr r v rest) M')) := vcV_6 (ci := 5)
theorem vcV_6_6 {j r p : Nat} {b1 b2 b3 b4 b5 : Value} {rest : List Value} : vcV (some (j, 6, r, 16)) cs K pc L (b5 :: b4 :: b3 :: b2 :: b1 :: .ref p :: rest) M = (rest.length ≤ 4 ∧ pcl p = 6 ∧ cs j [.ref p, b1, b2, b3, b4, b5] M (fun v M' => K (pc + 3) L (rr r v rest) M')) := vcV_6 (ci := 6)
theorem vcV_6_7 {j r p : Nat} {b1 b2 b3 b4 b5 : Value} {rest : List Value} : vcV (some (j, 6, r, 17)) cs K pc L (b5 :: b4 :: b3 :: b2 :: b1 :: .ref p :: rest) M = (rest.length ≤ 4 ∧ pcl p = 7 ∧ cs j [.ref p, b1, b2, b3, b4, b5] M (fun v M' => K (pc + 3) L (rr r v rest) M')) := vcV_6 (ci := 7)
theorem vcS_0_1 {j r : Nat} {rest : List Value} : vcS (some (j, 0, r, 1)) cs K pc L (rest) M = (rest.length ≤ 4 ∧ cs j [] M (fun v M' => K (pc + 3) L (rr r v rest) M')) := by
  show ((1 = 1 ∨ 1 = 2) ∧ (0 = 0) ∧ rest.length ≤ 4 ∧ cs j [] M (fun v M' => K (pc + 3) L (rr r v rest) M')) = _
  simp
theorem vcS_0_2 {j r : Nat} {rest : List Value} : vcS (some (j, 0, r, 2)) cs K pc L (rest) M = (rest.length ≤ 4 ∧ cs j [] M (fun v M' => K (pc + 3) L (rr r v rest) M')) := by
  show ((2 = 1 ∨ 2 = 2) ∧ (0 = 0) ∧ rest.length ≤ 4 ∧ cs j [] M (fun v M' => K (pc + 3) L (rr r v rest) M')) = _
  simp
theorem vcS_1_1 {j r : Nat} {b1 : Value} {rest : List Value} : vcS (some (j, 1, r, 1)) cs K pc L (b1 :: rest) M = (rest.length ≤ 4 ∧ cs j [b1] M (fun v M' => K (pc + 3) L (rr r v rest) M')) := by
  show ((1 = 1 ∨ 1 = 2) ∧ (1 = 1) ∧ rest.length ≤ 4 ∧ cs j [b1] M (fun v M' => K (pc + 3) L (rr r v rest) M')) = _
  simp
theorem vcS_1_2 {j r : Nat} {b1 : Value} {rest : List Value} : vcS (some (j, 1, r, 2)) cs K pc L (b1 :: rest) M = (rest.length ≤ 4 ∧ cs j [b1] M (fun v M' => K (pc + 3) L (rr r v rest) M')) := by
  show ((2 = 1 ∨ 2 = 2) ∧ (1 = 1) ∧ rest.length ≤ 4 ∧ cs j [b1] M (fun v M' => K (pc + 3) L (rr r v rest) M')) = _
  simp
theorem vcS_2_1 {j r : Nat} {b1 b2 : Value} {rest : List Value} : vcS (some (j, 2, r, 1)) cs K pc L (b2 :: b1 :: rest) M = (rest.length ≤ 4 ∧ cs j [b1, b2] M (fun v M' => K (pc + 3) L (rr r v rest) M')) := by
  show ((1 = 1 ∨ 1 = 2) ∧ (2 = 2) ∧ rest.length ≤ 4 ∧ cs j [b1, b2] M (fun v M' => K (pc + 3) L (rr r v rest) M')) = _
  simp
theorem vcS_2_2 {j r : Nat} {b1 b2 : Value} {rest : List Value} : vcS (some (j, 2, r, 2)) cs K pc L (b2 :: b1 :: rest) M = (rest.length ≤ 4 ∧ cs j [b1, b2] M (fun v M' => K (pc + 3) L (rr r v rest) M')) := by
  show ((2 = 1 ∨ 2 = 2) ∧ (2 = 2) ∧ rest.length ≤ 4 ∧ cs j [b1, b2] M (fun v M' => K (pc + 3) L (rr r v rest) M')) = _
  simp
theorem vcS_3_1 {j r : Nat} {b1 b2 b3 : Value} {rest : List Value} : vcS (some (j, 3, r, 1)) cs K pc L (b3 :: b2 :: b1 :: rest) M = (rest.length ≤ 4 ∧ cs j [b1, b2, b3] M (fun v M' => K (pc + 3) L (rr r v rest) M')) := by
  show ((1 = 1 ∨ 1 = 2) ∧ (3 = 3) ∧ rest.length ≤ 4 ∧ cs j [b1, b2, b3] M (fun v M' => K (pc + 3) L (rr r v rest) M')) = _
  simp
theorem vcS_3_2 {j r : Nat} {b1 b2 b3 : Value} {rest : List Value} : vcS (some (j, 3, r, 2)) cs K pc L (b3 :: b2 :: b1 :: rest) M = (rest.length ≤ 4 ∧ cs j [b1, b2, b3] M (fun v M' => K (pc + 3) L (rr r v rest) M')) := by
  show ((2 = 1 ∨ 2 = 2) ∧ (3 = 3) ∧ rest.length ≤ 4 ∧ cs j [b1, b2, b3] M (fun v M' => K (pc + 3) L (rr r v rest) M')) = _
  simp
theorem vcS_4_1 {j r : Nat} {b1 b2 b3 b4 : Value} {rest : List Value} : vcS (some (j, 4, r, 1)) cs K pc L (b4 :: b3 :: b2 :: b1 :: rest) M = (rest.length ≤ 4 ∧ cs j [b1, b2, b3, b4] M (fun v M' => K (pc + 3) L (rr r v rest) M')) := by
  show ((1 = 1 ∨ 1 = 2) ∧ (4 = 4) ∧ rest.length ≤ 4 ∧ cs j [b1, b2, b3, b4] M (fun v M' => K (pc + 3) L (rr r v rest) M')) = _
  simp
theorem vcS_4_2 {j r : Nat} {b1 b2 b3 b4 : Value} {rest : List Value} : vcS (some (j, 4, r, 2)) cs K pc L (b4 :: b3 :: b2 :: b1 :: rest) M = (rest.length ≤ 4 ∧ cs j [b1, b2, b3, b4] M (fun v M' => K (pc + 3) L (rr r v rest) M')) := by
  show ((2 = 1 ∨ 2 = 2) ∧ (4 = 4) ∧ rest.length ≤ 4 ∧ cs j [b1, b2, b3, b4] M (fun v M' => K (pc + 3) L (rr r v rest) M')) = _
  simp
theorem vcS_5_1 {j r : Nat} {b1 b2 b3 b4 b5 : Value} {rest : List Value} : vcS (some (j, 5, r, 1)) cs K pc L (b5 :: b4 :: b3 :: b2 :: b1 :: rest) M = (rest.length ≤ 4 ∧ cs j [b1, b2, b3, b4, b5] M (fun v M' => K (pc + 3) L (rr r v rest) M')) := by
  show ((1 = 1 ∨ 1 = 2) ∧ (5 = 5) ∧ rest.length ≤ 4 ∧ cs j [b1, b2, b3, b4, b5] M (fun v M' => K (pc + 3) L (rr r v rest) M')) = _
  simp
theorem vcS_5_2 {j r : Nat} {b1 b2 b3 b4 b5 : Value} {rest : List Value} : vcS (some (j, 5, r, 2)) cs K pc L (b5 :: b4 :: b3 :: b2 :: b1 :: rest) M = (rest.length ≤ 4 ∧ cs j [b1, b2, b3, b4, b5] M (fun v M' => K (pc + 3) L (rr r v rest) M')) := by
  show ((2 = 1 ∨ 2 = 2) ∧ (5 = 5) ∧ rest.length ≤ 4 ∧ cs j [b1, b2, b3, b4, b5] M (fun v M' => K (pc + 3) L (rr r v rest) M')) = _
  simp
theorem vcS_cp {j n r p q : Nat} {sp dp k : Int32} {rest : List Value} : vcS (some (j, n, r, 5)) cs K pc L (.int k :: .int dp :: .ref q :: .int sp :: .ref p :: rest) M = ((rest.length ≤ 4 ∧ 0 ≤ sp.toInt ∧ 0 ≤ dp.toInt ∧ 0 ≤ k.toInt ∧ sp.toInt + k.toInt ≤ al p ∧ dp.toInt + k.toInt ≤ al q ∧ 0 < al p ∧ 0 < al q) ∧ K (pc + 3) L rest (mrow M q (va_cpy (M p) (M q) sp.toNatClampNeg dp.toNatClampNeg k.toNatClampNeg))) := rfl
theorem vcS_max {j n r : Nat} {x y : Int32} {rest : List Value} : vcS (some (j, n, r, 6)) cs K pc L (.int y :: .int x :: rest) M = (rest.length ≤ 4 ∧ K (pc + 3) L (.int (if x < y then y else x) :: rest) M) := rfl
theorem vcS_min {j n r : Nat} {x y : Int32} {rest : List Value} : vcS (some (j, n, r, 7)) cs K pc L (.int y :: .int x :: rest) M = (rest.length ≤ 4 ∧ K (pc + 3) L (.int (if y < x then y else x) :: rest) M) := rfl
theorem vcS_abs {j n r : Nat} {x : Int32} {rest : List Value} : vcS (some (j, n, r, 8)) cs K pc L (.int x :: rest) M = (rest.length ≤ 4 ∧ K (pc + 3) L (.int (if 0 ≤ x then x else 0 - x) :: rest) M) := rfl
end Eqs
theorem csT_h {d j : Nat} {f : PF} {T : List (Nat × PF)} {args : List Value} {M : Mem} {k : Value → Mem → Prop} : csT d ((j, f) :: T) j args M k = f args M k := by
  unfold csT
  simp
theorem csT_t {d i j : Nat} {f : PF} {T : List (Nat × PF)} {args : List Value} {M : Mem} {k : Value → Mem → Prop} (h : (j == i) = false) : csT d ((i, f) :: T) j args M k = csT d T j args M k := by
  unfold csT
  rw [List.lookup_cons, h]
theorem csT_n {d j : Nat} {args : List Value} {M : Mem} {k : Value → Mem → Prop} : csT d [] j args M k = CallP d j args M k := rfl
theorem cat_i {x : Int32} : (Value.int x).category = 1 := rfl
theorem cat_l {x : Int64} : (Value.long x).category = 2 := rfl
theorem cat_r {x : Nat} : (Value.ref x).category = 1 := rfl
theorem cat_u {x : Nat} : (Value.retAddr x).category = 1 := rfl
/-- a truth as an int -/
def bI (c : Prop) [Decidable c] : Int32 := if c then 1 else 0
theorem bI_0 {c : Prop} [Decidable c] : (bI c = 0) = ¬ c := by
  unfold bI
  by_cases h : c <;> simp [h]
theorem bI_1 {c : Prop} [Decidable c] : (bI c = 1) = c := by
  unfold bI
  by_cases h : c <;> simp [h]
theorem bI_z {c : Prop} [Decidable c] : (bI c = 0 ∨ bI c = 1) = True := by
  unfold bI
  by_cases h : c <;> simp [h]
theorem bI_t {c : Prop} [Decidable c] (h : c) : bI c = 1 := if_pos h
theorem bI_f {c : Prop} [Decidable c] (h : ¬ c) : bI c = 0 := if_neg h
theorem mrow_s {M : Mem} {p : Nat} {f : Nat → Int32} : mrow M p f p = f := if_pos rfl
theorem mrow_n {M : Mem} {p q : Nat} {f : Nat → Int32} (h : (q == p) = false) : mrow M p f q = M q := if_neg (by simpa using h)
theorem mset_s {M : Mem} {p i : Nat} {v : Int32} : mset M p i v p = upd (M p) i v := if_pos rfl
theorem mset_n {M : Mem} {p q i : Nat} {v : Int32} (h : (q == p) = false) : mset M p i v q = M q := if_neg (by simpa using h)
theorem upd_s {f : Nat → Int32} {k : Nat} {x : Int32} : upd f k x k = x := if_pos rfl
theorem upd_n {f : Nat → Int32} {k j : Nat} {x : Int32} (h : (j == k) = false) : upd f k x j = f j := if_neg (by simpa using h)
theorem pcl_0 : pcl 0 = 5 := by decide +kernel
theorem gf_5_0_0 : gf 5 0 0 = some (some 1) := by decide +kernel
theorem gf_5_1_0 : gf 5 1 0 = some (some 8) := by decide +kernel
theorem gf_5_2_0 : gf 5 2 0 = some (some 15) := by decide +kernel
theorem gf_5_3_0 : gf 5 3 0 = some (some 22) := by decide +kernel
theorem gf_5_4_0 : gf 5 4 0 = some (some 24) := by decide +kernel
theorem gf_5_5_0 : gf 5 5 0 = some (some 25) := by decide +kernel
theorem gf_5_6_0 : gf 5 6 0 = some (some 44) := by decide +kernel
theorem gf_5_7_0 : gf 5 7 0 = some (some 50) := by decide +kernel
theorem gf_5_8_0 : gf 5 8 0 = some (some 58) := by decide +kernel
theorem gf_5_9_0 : gf 5 9 0 = some none := by decide +kernel
theorem pcl_1 : pcl 1 = 0 := by decide +kernel
theorem gf_0_0_1 : gf 0 0 1 = some (some 2) := by decide +kernel
theorem gf_0_1_1 : gf 0 1 1 = some (some 3) := by decide +kernel
theorem gf_0_2_1 : gf 0 2 1 = some (some 4) := by decide +kernel
theorem gf_0_3_1 : gf 0 3 1 = some (some 5) := by decide +kernel
theorem gf_0_4_1 : gf 0 4 1 = some (some 6) := by decide +kernel
theorem gf_0_5_1 : gf 0 5 1 = some (some 7) := by decide +kernel
theorem gf_0_6_1 : gf 0 6 1 = some none := by decide +kernel
theorem gf_0_7_1 : gf 0 7 1 = some none := by decide +kernel
theorem gf_0_8_1 : gf 0 8 1 = some none := by decide +kernel
theorem gf_0_9_1 : gf 0 9 1 = some none := by decide +kernel
theorem al_2 : al 2 = 12 := by decide +kernel
theorem al_3 : al 3 = 6 := by decide +kernel
theorem al_4 : al 4 = 6 := by decide +kernel
theorem al_5 : al 5 = 6 := by decide +kernel
theorem al_6 : al 6 = 6 := by decide +kernel
theorem al_7 : al 7 = 10 := by decide +kernel
theorem pcl_8 : pcl 8 = 0 := by decide +kernel
theorem gf_0_0_8 : gf 0 0 8 = some (some 9) := by decide +kernel
theorem gf_0_1_8 : gf 0 1 8 = some (some 10) := by decide +kernel
theorem gf_0_2_8 : gf 0 2 8 = some (some 11) := by decide +kernel
theorem gf_0_3_8 : gf 0 3 8 = some (some 12) := by decide +kernel
theorem gf_0_4_8 : gf 0 4 8 = some (some 13) := by decide +kernel
theorem gf_0_5_8 : gf 0 5 8 = some (some 14) := by decide +kernel
theorem gf_0_6_8 : gf 0 6 8 = some none := by decide +kernel
theorem gf_0_7_8 : gf 0 7 8 = some none := by decide +kernel
theorem gf_0_8_8 : gf 0 8 8 = some none := by decide +kernel
theorem gf_0_9_8 : gf 0 9 8 = some none := by decide +kernel
theorem al_9 : al 9 = 12 := by decide +kernel
theorem al_10 : al 10 = 6 := by decide +kernel
theorem al_11 : al 11 = 6 := by decide +kernel
theorem al_12 : al 12 = 6 := by decide +kernel
theorem al_13 : al 13 = 6 := by decide +kernel
theorem al_14 : al 14 = 10 := by decide +kernel
theorem pcl_15 : pcl 15 = 0 := by decide +kernel
theorem gf_0_0_15 : gf 0 0 15 = some (some 16) := by decide +kernel
theorem gf_0_1_15 : gf 0 1 15 = some (some 17) := by decide +kernel
theorem gf_0_2_15 : gf 0 2 15 = some (some 18) := by decide +kernel
theorem gf_0_3_15 : gf 0 3 15 = some (some 19) := by decide +kernel
theorem gf_0_4_15 : gf 0 4 15 = some (some 20) := by decide +kernel
theorem gf_0_5_15 : gf 0 5 15 = some (some 21) := by decide +kernel
theorem gf_0_6_15 : gf 0 6 15 = some none := by decide +kernel
theorem gf_0_7_15 : gf 0 7 15 = some none := by decide +kernel
theorem gf_0_8_15 : gf 0 8 15 = some none := by decide +kernel
theorem gf_0_9_15 : gf 0 9 15 = some none := by decide +kernel
theorem al_16 : al 16 = 12 := by decide +kernel
theorem al_17 : al 17 = 6 := by decide +kernel
theorem al_18 : al 18 = 6 := by decide +kernel
theorem al_19 : al 19 = 6 := by decide +kernel
theorem al_20 : al 20 = 6 := by decide +kernel
theorem al_21 : al 21 = 10 := by decide +kernel
theorem pcl_22 : pcl 22 = 4 := by decide +kernel
theorem gf_4_0_22 : gf 4 0 22 = some (some 23) := by decide +kernel
theorem gf_4_1_22 : gf 4 1 22 = some none := by decide +kernel
theorem gf_4_2_22 : gf 4 2 22 = some none := by decide +kernel
theorem gf_4_3_22 : gf 4 3 22 = some none := by decide +kernel
theorem gf_4_4_22 : gf 4 4 22 = some none := by decide +kernel
theorem al_23 : al 23 = 12 := by decide +kernel
theorem al_24 : al 24 = 12 := by decide +kernel
theorem pcl_25 : pcl 25 = 1 := by decide +kernel
theorem gf_1_0_25 : gf 1 0 25 = some (some 26) := by decide +kernel
theorem gf_1_1_25 : gf 1 1 25 = some (some 33) := by decide +kernel
theorem gf_1_2_25 : gf 1 2 25 = some (some 35) := by decide +kernel
theorem gf_1_3_25 : gf 1 3 25 = some (some 43) := by decide +kernel
theorem pcl_26 : pcl 26 = 0 := by decide +kernel
theorem gf_0_0_26 : gf 0 0 26 = some (some 27) := by decide +kernel
theorem gf_0_1_26 : gf 0 1 26 = some (some 28) := by decide +kernel
theorem gf_0_2_26 : gf 0 2 26 = some (some 29) := by decide +kernel
theorem gf_0_3_26 : gf 0 3 26 = some (some 30) := by decide +kernel
theorem gf_0_4_26 : gf 0 4 26 = some (some 31) := by decide +kernel
theorem gf_0_5_26 : gf 0 5 26 = some (some 32) := by decide +kernel
theorem gf_0_6_26 : gf 0 6 26 = some none := by decide +kernel
theorem gf_0_7_26 : gf 0 7 26 = some none := by decide +kernel
theorem gf_0_8_26 : gf 0 8 26 = some none := by decide +kernel
theorem gf_0_9_26 : gf 0 9 26 = some none := by decide +kernel
theorem al_27 : al 27 = 12 := by decide +kernel
theorem al_28 : al 28 = 6 := by decide +kernel
theorem al_29 : al 29 = 6 := by decide +kernel
theorem al_30 : al 30 = 6 := by decide +kernel
theorem al_31 : al 31 = 6 := by decide +kernel
theorem al_32 : al 32 = 10 := by decide +kernel
theorem pcl_33 : pcl 33 = 4 := by decide +kernel
theorem gf_4_0_33 : gf 4 0 33 = some (some 34) := by decide +kernel
theorem gf_4_1_33 : gf 4 1 33 = some none := by decide +kernel
theorem gf_4_2_33 : gf 4 2 33 = some none := by decide +kernel
theorem gf_4_3_33 : gf 4 3 33 = some none := by decide +kernel
theorem gf_4_4_33 : gf 4 4 33 = some none := by decide +kernel
theorem al_34 : al 34 = 12 := by decide +kernel
theorem al_36 : al 36 = 12 := by decide +kernel
theorem al_37 : al 37 = 12 := by decide +kernel
theorem al_38 : al 38 = 12 := by decide +kernel
theorem al_39 : al 39 = 12 := by decide +kernel
theorem al_40 : al 40 = 12 := by decide +kernel
theorem al_41 : al 41 = 12 := by decide +kernel
theorem al_42 : al 42 = 12 := by decide +kernel
theorem al_43 : al 43 = 6 := by decide +kernel
theorem pcl_44 : pcl 44 = 2 := by decide +kernel
theorem gf_2_0_44 : gf 2 0 44 = some (some 45) := by decide +kernel
theorem gf_2_1_44 : gf 2 1 44 = some none := by decide +kernel
theorem gf_2_2_44 : gf 2 2 44 = some (some 46) := by decide +kernel
theorem gf_2_3_44 : gf 2 3 44 = some (some 47) := by decide +kernel
theorem gf_2_4_44 : gf 2 4 44 = some (some 48) := by decide +kernel
theorem gf_2_5_44 : gf 2 5 44 = some (some 49) := by decide +kernel
theorem gf_2_6_44 : gf 2 6 44 = some none := by decide +kernel
theorem gf_2_7_44 : gf 2 7 44 = some none := by decide +kernel
theorem gf_2_8_44 : gf 2 8 44 = some none := by decide +kernel
theorem gf_2_9_44 : gf 2 9 44 = some none := by decide +kernel
theorem al_45 : al 45 = 120 := by decide +kernel
theorem al_46 : al 46 = 121 := by decide +kernel
theorem al_47 : al 47 = 121 := by decide +kernel
theorem al_48 : al 48 = 121 := by decide +kernel
theorem al_49 : al 49 = 121 := by decide +kernel
theorem pcl_50 : pcl 50 = 3 := by decide +kernel
theorem gf_3_0_50 : gf 3 0 50 = some (some 51) := by decide +kernel
theorem gf_3_1_50 : gf 3 1 50 = some (some 56) := by decide +kernel
theorem gf_3_2_50 : gf 3 2 50 = some (some 57) := by decide +kernel
theorem al_52 : al 52 = 40 := by decide +kernel
theorem al_53 : al 53 = 40 := by decide +kernel
theorem al_54 : al 54 = 40 := by decide +kernel
theorem al_55 : al 55 = 40 := by decide +kernel
theorem al_56 : al 56 = 4 := by decide +kernel
theorem al_57 : al 57 = 4 := by decide +kernel
theorem al_58 : al 58 = 7 := by decide +kernel
theorem pcl_59 : pcl 59 = 6 := by decide +kernel
theorem gf_6_0_59 : gf 6 0 59 = some (some 60) := by decide +kernel
theorem gf_6_1_59 : gf 6 1 59 = some (some 61) := by decide +kernel
theorem gf_6_2_59 : gf 6 2 59 = some (some 62) := by decide +kernel
theorem gf_6_3_59 : gf 6 3 59 = some none := by decide +kernel
theorem gf_6_4_59 : gf 6 4 59 = some (some 63) := by decide +kernel
theorem gf_6_5_59 : gf 6 5 59 = some (some 64) := by decide +kernel
theorem gf_6_6_59 : gf 6 6 59 = some (some 65) := by decide +kernel
theorem gf_6_7_59 : gf 6 7 59 = some (some 66) := by decide +kernel
theorem gf_6_8_59 : gf 6 8 59 = some none := by decide +kernel
theorem gf_6_9_59 : gf 6 9 59 = some none := by decide +kernel
theorem gf_6_10_59 : gf 6 10 59 = some none := by decide +kernel
theorem gf_6_11_59 : gf 6 11 59 = some (some 67) := by decide +kernel
theorem gf_6_12_59 : gf 6 12 59 = some none := by decide +kernel
theorem gf_6_13_59 : gf 6 13 59 = some none := by decide +kernel
theorem gf_6_14_59 : gf 6 14 59 = some none := by decide +kernel
theorem gf_6_15_59 : gf 6 15 59 = some none := by decide +kernel
theorem gf_6_16_59 : gf 6 16 59 = some none := by decide +kernel
theorem gf_6_17_59 : gf 6 17 59 = some none := by decide +kernel
theorem gf_6_18_59 : gf 6 18 59 = some (some 68) := by decide +kernel
theorem gf_6_19_59 : gf 6 19 59 = some (some 69) := by decide +kernel
theorem gf_6_20_59 : gf 6 20 59 = some none := by decide +kernel
theorem gf_6_21_59 : gf 6 21 59 = some none := by decide +kernel
theorem gf_6_22_59 : gf 6 22 59 = some (some 70) := by decide +kernel
theorem gf_6_23_59 : gf 6 23 59 = some (some 71) := by decide +kernel
theorem gf_6_24_59 : gf 6 24 59 = some (some 72) := by decide +kernel
theorem gf_6_25_59 : gf 6 25 59 = some (some 73) := by decide +kernel
theorem al_60 : al 60 = 50 := by decide +kernel
theorem al_61 : al 61 = 50 := by decide +kernel
theorem al_62 : al 62 = 50 := by decide +kernel
theorem al_63 : al 63 = 8 := by decide +kernel
theorem al_64 : al 64 = 350 := by decide +kernel
theorem al_65 : al 65 = 6 := by decide +kernel
theorem al_66 : al 66 = 6 := by decide +kernel
theorem al_67 : al 67 = 120 := by decide +kernel
theorem al_69 : al 69 = 360 := by decide +kernel
theorem al_70 : al 70 = 4 := by decide +kernel
theorem al_71 : al 71 = 4 := by decide +kernel
theorem al_72 : al 72 = 160 := by decide +kernel
theorem al_73 : al 73 = 40 := by decide +kernel
theorem pcl_100 : pcl 100 = 7 := by decide +kernel
theorem pcl_101 : pcl 101 = 7 := by decide +kernel
theorem pcl_102 : pcl 102 = 7 := by decide +kernel
theorem pcl_103 : pcl 103 = 7 := by decide +kernel
theorem pcl_104 : pcl 104 = 7 := by decide +kernel
theorem pcl_105 : pcl 105 = 7 := by decide +kernel
theorem pcl_106 : pcl 106 = 7 := by decide +kernel
theorem pcl_107 : pcl 107 = 7 := by decide +kernel
theorem pcl_108 : pcl 108 = 7 := by decide +kernel
theorem pcl_109 : pcl 109 = 7 := by decide +kernel
theorem pcl_110 : pcl 110 = 7 := by decide +kernel
theorem pcl_111 : pcl 111 = 7 := by decide +kernel
theorem pcl_112 : pcl 112 = 7 := by decide +kernel
theorem pft_5_9 : pft 5 9 = 1 := by decide +kernel
theorem pft_0_6 : pft 0 6 = 0 := by decide +kernel
theorem pft_0_7 : pft 0 7 = 0 := by decide +kernel
theorem pft_0_8 : pft 0 8 = 0 := by decide +kernel
theorem pft_0_9 : pft 0 9 = 0 := by decide +kernel
theorem pft_4_1 : pft 4 1 = 0 := by decide +kernel
theorem pft_4_2 : pft 4 2 = 0 := by decide +kernel
theorem pft_4_3 : pft 4 3 = 0 := by decide +kernel
theorem pft_4_4 : pft 4 4 = 0 := by decide +kernel
theorem pft_2_1 : pft 2 1 = 0 := by decide +kernel
theorem pft_2_6 : pft 2 6 = 0 := by decide +kernel
theorem pft_2_7 : pft 2 7 = 0 := by decide +kernel
theorem pft_2_8 : pft 2 8 = 0 := by decide +kernel
theorem pft_2_9 : pft 2 9 = 0 := by decide +kernel
theorem pft_6_3 : pft 6 3 = 1 := by decide +kernel
theorem pft_6_8 : pft 6 8 = 0 := by decide +kernel
theorem pft_6_9 : pft 6 9 = 0 := by decide +kernel
theorem pft_6_10 : pft 6 10 = 0 := by decide +kernel
theorem pft_6_12 : pft 6 12 = 0 := by decide +kernel
theorem pft_6_13 : pft 6 13 = 0 := by decide +kernel
theorem pft_6_14 : pft 6 14 = 0 := by decide +kernel
theorem pft_6_15 : pft 6 15 = 0 := by decide +kernel
theorem pft_6_16 : pft 6 16 = 0 := by decide +kernel
theorem pft_6_17 : pft 6 17 = 1 := by decide +kernel
theorem pft_6_20 : pft 6 20 = 0 := by decide +kernel
theorem pft_6_21 : pft 6 21 = 0 := by decide +kernel
theorem ra_35 : ra 35 = some (36, 7) := rfl
theorem ra_51 : ra 51 = some (52, 4) := rfl
theorem ra_68 : ra 68 = some (100, 7) := rfl
theorem gs_1 : gsI.1 = 1 := rfl
theorem gs_2 : gsI.2 = 18 := rfl
theorem mI_0 : mI 0 = (0, yX0_init, cX0_init, 2, none) := rfl
theorem mI_1 : mI 1 = (0, yX0_become, cX0_become, 2, none) := rfl
theorem mI_2 : mI 2 = (0, yX0_has, cX0_has, 2, (some .boolean)) := rfl
theorem mI_3 : mI 3 = (0, yX0_hasAll, cX0_hasAll, 2, (some .boolean)) := rfl
theorem mI_4 : mI 4 = (0, yX0_isFull, cX0_isFull, 1, (some .boolean)) := rfl
theorem mI_5 : mI 5 = (0, yX0_add, cX0_add, 4, (some .int)) := rfl
theorem mI_6 : mI 6 = (0, yX0_bears, cX0_bears, 2, (some .int)) := rfl
theorem mI_7 : mI 7 = (0, yX0_unfit, cX0_unfit, 5, (some .int)) := rfl
theorem mI_8 : mI 8 = (0, yX0_draw, cX0_draw, 1, (some .int)) := rfl
theorem mI_9 : mI 9 = (0, yX0_heldSpots, cX0_heldSpots, 3, (some .int)) := rfl
theorem mI_10 : mI 10 = (1, yX1_bears, cX1_bears, 3, (some .int)) := rfl
theorem mI_11 : mI 11 = (1, yX1_sway, cX1_sway, 4, (some .int)) := rfl
theorem mI_12 : mI 12 = (1, yX1_footprint, cX1_footprint, 3, (some .int)) := rfl
theorem mI_13 : mI 13 = (1, yX1_isUnder, cX1_isUnder, 4, (some .boolean)) := rfl
theorem mI_14 : mI 14 = (2, yX2_init, cX2_init, 1, none) := rfl
theorem mI_15 : mI 15 = (2, yX2_findOrder, cX2_findOrder, 3, (some .boolean)) := rfl
theorem mI_16 : mI 16 = (2, yX2_countOrders, cX2_countOrders, 3, (some .int)) := rfl
theorem mI_17 : mI 17 = (2, yX2_countFalls, cX2_countFalls, 3, (some .int)) := rfl
theorem mI_18 : mI 18 = (2, yX2_findGreatest, cX2_findGreatest, 2, (some .int)) := rfl
theorem mI_19 : mI 19 = (2, yX2_placed, cX2_placed, 2, (some .int)) := rfl
theorem mI_20 : mI 20 = (2, yX2_begin, cX2_begin, 2, none) := rfl
theorem mI_21 : mI 21 = (2, yX2_crosses, cX2_crosses, 3, (some .boolean)) := rfl
theorem mI_22 : mI 22 = (2, yX2_findFirst, cX2_findFirst, 4, (some .boolean)) := rfl
theorem mI_23 : mI 23 = (2, yX2_countSafe, cX2_countSafe, 5, (some .int)) := rfl
theorem mI_24 : mI 24 = (2, yX2_fewestFalls, cX2_fewestFalls, 6, (some .int)) := rfl
theorem mI_25 : mI 25 = (2, yX2_greatest, cX2_greatest, 7, (some .int)) := rfl
theorem mI_26 : mI 26 = (2, yX2_greater, cX2_greater, 3, (some .int)) := rfl
theorem mI_27 : mI 27 = (3, yX3_init, cX3_init, 1, none) := rfl
theorem mI_28 : mI 28 = (3, yX3_put, cX3_put, 2, none) := rfl
theorem mI_29 : mI 29 = (3, yX3_read, cX3_read, 3, (some .int)) := rfl
theorem mI_30 : mI 30 = (3, yX3_place, cX3_place, 1, (some .int)) := rfl
theorem mI_31 : mI 31 = (3, yX3_look, cX3_look, 3, none) := rfl
theorem mI_32 : mI 32 = (3, yX3_readItem, cX3_readItem, 2, (some .boolean)) := rfl
theorem mI_33 : mI 33 = (3, yX3_readWalker, cX3_readWalker, 5, (some .boolean)) := rfl
theorem mI_34 : mI 34 = (3, yX3_readPlank, cX3_readPlank, 3, (some .boolean)) := rfl
theorem mI_35 : mI 35 = (3, yX3_readNew, cX3_readNew, 2, (some .boolean)) := rfl
theorem mI_36 : mI 36 = (3, yX3_isWord, cX3_isWord, 2, (some .boolean)) := rfl
theorem mI_37 : mI 37 = (3, yX3_isNumber, cX3_isNumber, 2, (some .boolean)) := rfl
theorem mI_38 : mI 38 = (3, yX3_split, cX3_split, 5, none) := rfl
theorem mI_39 : mI 39 = (3, yX3_sortOf, cX3_sortOf, 1, (some .int)) := rfl
theorem mI_40 : mI 40 = (3, yX3_begin, cX3_begin, 3, none) := rfl
theorem mI_41 : mI 41 = (3, yX3_grow, cX3_grow, 3, none) := rfl
theorem mI_42 : mI 42 = (3, yX3_nameWords, cX3_nameWords, 2, none) := rfl
theorem mI_43 : mI 43 = (3, yX3_wordNumber, cX3_wordNumber, 3, (some .int)) := rfl
theorem mI_44 : mI 44 = (3, yX3_spells, cX3_spells, 5, (some .boolean)) := rfl
theorem mI_45 : mI 45 = (4, yX4_init, cX4_init, 1, none) := rfl
theorem mI_46 : mI 46 = (4, yX4_finding, cX4_finding, 2, (some .int)) := rfl
theorem mI_47 : mI 47 = (4, yX4_renew, cX4_renew, 5, none) := rfl
theorem mI_48 : mI 48 = (4, yX4_put, cX4_put, 4, none) := rfl
theorem mI_49 : mI 49 = (4, yX4_hasPart, cX4_hasPart, 4, (some .boolean)) := rfl
theorem mI_50 : mI 50 = (4, yX4_tells, cX4_tells, 4, (some .boolean)) := rfl
theorem mI_51 : mI 51 = (5, yX5_init, cX5_init, 1, none) := rfl
theorem mI_52 : mI 52 = (5, yX5_become, cX5_become, 3, none) := rfl
theorem mI_53 : mI 53 = (5, yX5_layRow, cX5_layRow, 3, none) := rfl
theorem mI_54 : mI 54 = (5, yX5_go, cX5_go, 6, (some .int)) := rfl
theorem mI_55 : mI 55 = (6, yX6_init, cX6_init, 1, none) := rfl
theorem mI_56 : mI 56 = (6, yX6_plank, cX6_plank, 4, (some .int)) := rfl
theorem mI_57 : mI 57 = (6, yX6_keeps, cX6_keeps, 2, (some .int)) := rfl
theorem mI_58 : mI 58 = (6, yX6_walker, cX6_walker, 3, (some .int)) := rfl
theorem mI_59 : mI 59 = (6, yX6_of, cX6_of, 3, (some .int)) := rfl
theorem mI_60 : mI 60 = (6, yX6_change, cX6_change, 4, (some .int)) := rfl
theorem mI_61 : mI 61 = (6, yX6_night, cX6_night, 3, (some .int)) := rfl
theorem mI_62 : mI 62 = (6, yX6_cross, cX6_cross, 2, (some .int)) := rfl
theorem mI_63 : mI 63 = (6, yX6_crowd, cX6_crowd, 4, (some .int)) := rfl
theorem mI_64 : mI 64 = (6, yX6_now, cX6_now, 2, (some .int)) := rfl
theorem mI_65 : mI 65 = (6, yX6_would, cX6_would, 2, (some .int)) := rfl
theorem mI_66 : mI 66 = (6, yX6_becomes, cX6_becomes, 2, (some .int)) := rfl
theorem mI_67 : mI 67 = (6, yX6_leaves, cX6_leaves, 3, (some .int)) := rfl
theorem mI_68 : mI 68 = (6, yX6_after, cX6_after, 3, (some .int)) := rfl
theorem mI_69 : mI 69 = (6, yX6_often, cX6_often, 3, (some .int)) := rfl
theorem mI_70 : mI 70 = (6, yX6_balanceFor, cX6_balanceFor, 3, (some .int)) := rfl
theorem mI_71 : mI 71 = (6, yX6_gaits, cX6_gaits, 4, (some .int)) := rfl
theorem mI_72 : mI 72 = (6, yX6_gaitFor, cX6_gaitFor, 3, (some .int)) := rfl
theorem mI_73 : mI 73 = (6, yX6_kindsFor, cX6_kindsFor, 4, (some .int)) := rfl
theorem mI_74 : mI 74 = (6, yX6_order, cX6_order, 3, (some .int)) := rfl
theorem mI_75 : mI 75 = (6, yX6_orders, cX6_orders, 2, (some .int)) := rfl
theorem mI_76 : mI 76 = (6, yX6_fewest, cX6_fewest, 2, (some .int)) := rfl
theorem mI_77 : mI 77 = (6, yX6_most, cX6_most, 1, (some .int)) := rfl
theorem mI_78 : mI 78 = (6, yX6_lay, cX6_lay, 4, (some .int)) := rfl
theorem mI_79 : mI 79 = (6, yX6_best, cX6_best, 6, (some .int)) := rfl
theorem mI_80 : mI 80 = (6, yX6_unlike, cX6_unlike, 3, (some .int)) := rfl
theorem mI_81 : mI 81 = (6, yX6_taken, cX6_taken, 6, (some .int)) := rfl
theorem mI_82 : mI 82 = (6, yX6_fits, cX6_fits, 6, (some .int)) := rfl
theorem mI_83 : mI 83 = (6, yX6_gait, cX6_gait, 5, (some .int)) := rfl
theorem mI_84 : mI 84 = (6, yX6_who, cX6_who, 5, (some .int)) := rfl
theorem mI_85 : mI 85 = (6, yX6_strangers, cX6_strangers, 5, (some .int)) := rfl
theorem mI_86 : mI 86 = (6, yX6_odds, cX6_odds, 6, (some .long)) := rfl
theorem mI_87 : mI 87 = (6, yX6_seed, cX6_seed, 3, (some .int)) := rfl
theorem mI_88 : mI 88 = (6, yX6_feed, cX6_feed, 4, (some .int)) := rfl
theorem mI_89 : mI 89 = (6, yX6_wipe, cX6_wipe, 2, (some .int)) := rfl
theorem mI_90 : mI 90 = (6, yX6_text, cX6_text, 2, (some .int)) := rfl
theorem mI_91 : mI 91 = (6, yX6_hold, cX6_hold, 3, (some .int)) := rfl
theorem mI_92 : mI 92 = (6, yX6_as, cX6_as, 4, (some .int)) := rfl
theorem mI_93 : mI 93 = (6, yX6_sheet, cX6_sheet, 4, (some .int)) := rfl
theorem mI_94 : mI 94 = (6, yX6_write, cX6_write, 5, (some .int)) := rfl
theorem mI_95 : mI 95 = (6, yX6_copy, cX6_copy, 6, (some .int)) := rfl
theorem mI_96 : mI 96 = (6, yX6_load, cX6_load, 4, (some .int)) := rfl
theorem mI_97 : mI 97 = (6, yX6_judge, cX6_judge, 6, (some .int)) := rfl
theorem mI_98 : mI 98 = (6, yX6_image, cX6_image, 1, (some .int)) := rfl
theorem mI_99 : mI 99 = (6, yX6_undo, cX6_undo, 1, (some .int)) := rfl
theorem mI_100 : mI 100 = (6, yX6_tear, cX6_tear, 2, (some .int)) := rfl
theorem mI_101 : mI 101 = (6, yX6_count, cX6_count, 2, (some .int)) := rfl
theorem mI_102 : mI 102 = (6, yX6_status, cX6_status, 2, (some .int)) := rfl
theorem mI_103 : mI 103 = (6, yX6_tell, cX6_tell, 3, (some .int)) := rfl
theorem mI_104 : mI 104 = (6, yX6_isPlank, cX6_isPlank, 1, (some .boolean)) := rfl
theorem mI_105 : mI 105 = (6, yX6_isGait, cX6_isGait, 1, (some .boolean)) := rfl
theorem mI_106 : mI 106 = (6, yX6_isKind, cX6_isKind, 1, (some .boolean)) := rfl
theorem mI_107 : mI 107 = (6, yX6_isSpot, cX6_isSpot, 1, (some .boolean)) := rfl
theorem mI_108 : mI 108 = (6, yX6_isSheet, cX6_isSheet, 1, (some .boolean)) := rfl
theorem mI_109 : mI 109 = (6, yX6_isIn, cX6_isIn, 2, (some .boolean)) := rfl
theorem mI_110 : mI 110 = (6, yX6_held, cX6_held, 1, (some .int)) := rfl
theorem mI_111 : mI 111 = (6, yX6_sum, cX6_sum, 4, (some .int)) := rfl
theorem mI_112 : mI 112 = (6, yX6_replace, cX6_replace, 4, (some .int)) := rfl
theorem mI_113 : mI 113 = (6, yX6_reallyCross, cX6_reallyCross, 3, (some .int)) := rfl
theorem mI_114 : mI 114 = (6, yX6_fallers, cX6_fallers, 3, (some .int)) := rfl
theorem mI_115 : mI 115 = (6, yX6_prepare, cX6_prepare, 2, none) := rfl
theorem mI_116 : mI 116 = (6, yX6_tryWalk, cX6_tryWalk, 2, (some .int)) := rfl
theorem mI_117 : mI 117 = (6, yX6_tryGait, cX6_tryGait, 3, (some .int)) := rfl
theorem mI_118 : mI 118 = (6, yX6_crossesLaid, cX6_crossesLaid, 4, (some .boolean)) := rfl
theorem mI_119 : mI 119 = (6, yX6_layMore, cX6_layMore, 7, (some .int)) := rfl
theorem mI_120 : mI 120 = (6, yX6_difference, cX6_difference, 5, (some .int)) := rfl
theorem mI_121 : mI 121 = (6, yX6_swayFinding, cX6_swayFinding, 4, (some .int)) := rfl
theorem mI_122 : mI 122 = (6, yX6_commonDivisor, cX6_commonDivisor, 6, (some .int)) := rfl
theorem mI_123 : mI 123 = (6, yX6_power, cX6_power, 6, (some .long)) := rfl
theorem mI_124 : mI 124 = (7, yX7_init, cX7_init, 2, none) := rfl
theorem mI_125 : mI 125 = (7, yX7_finding, cX7_finding, 2, (some .int)) := rfl
theorem mI_126 : mI 126 = (7, yX7_within, cX7_within, 3, (some .boolean)) := rfl
theorem mI_127 : mI 127 = (7, yX7_become, cX7_become, 4, (some .int)) := rfl
theorem mI_128 : mI 128 = (7, yX7_copyRow, cX7_copyRow, 3, none) := rfl
theorem mI_129 : mI 129 = (7, yX7_putBack, cX7_putBack, 2, (some .int)) := rfl
theorem mI_130 : mI 130 = (7, yX7_orNone, cX7_orNone, 2, (some .int)) := rfl
theorem mI_131 : mI 131 = (7, yX7_has, cX7_has, 2, (some .boolean)) := rfl
theorem mI_132 : mI 132 = (7, yX7_bits, cX7_bits, 3, (some .int)) := rfl
theorem mI_133 : mI 133 = (7, yX7_held, cX7_held, 1, (some .int)) := rfl
theorem mI_134 : mI 134 = (7, yX7_isPlank, cX7_isPlank, 1, (some .boolean)) := rfl
theorem mI_135 : mI 135 = (7, yX7_isGait, cX7_isGait, 1, (some .boolean)) := rfl
theorem mI_136 : mI 136 = (7, yX7_isWalker, cX7_isWalker, 2, (some .boolean)) := rfl
theorem mI_137 : mI 137 = (7, yX7_isKind, cX7_isKind, 1, (some .boolean)) := rfl
theorem mI_138 : mI 138 = (7, yX7_place, cX7_place, 2, (some .int)) := rfl
theorem mI_139 : mI 139 = (7, yX7_walkerIs, cX7_walkerIs, 3, (some .int)) := rfl
theorem mI_140 : mI 140 = (7, yX7_plank, cX7_plank, 3, (some .int)) := rfl
theorem mI_141 : mI 141 = (7, yX7_keeps, cX7_keeps, 2, (some .int)) := rfl
theorem mI_142 : mI 142 = (7, yX7_comes, cX7_comes, 5, (some .int)) := rfl
theorem mI_143 : mI 143 = (7, yX7_walker, cX7_walker, 3, (some .int)) := rfl
theorem mI_144 : mI 144 = (7, yX7_bears, cX7_bears, 4, (some .int)) := rfl
theorem mI_145 : mI 145 = (7, yX7_doesFall, cX7_doesFall, 3, (some .boolean)) := rfl
theorem mI_146 : mI 146 = (7, yX7_fallsOn, cX7_fallsOn, 4, (some .int)) := rfl
theorem mI_147 : mI 147 = (7, yX7_of, cX7_of, 3, (some .int)) := rfl
theorem mI_148 : mI 148 = (7, yX7_mayBe, cX7_mayBe, 2, (some .boolean)) := rfl
theorem mI_149 : mI 149 = (7, yX7_change, cX7_change, 4, (some .int)) := rfl
theorem mI_150 : mI 150 = (7, yX7_night, cX7_night, 2, (some .int)) := rfl
theorem mI_151 : mI 151 = (7, yX7_changedBy, cX7_changedBy, 4, (some .int)) := rfl
theorem mI_152 : mI 152 = (7, yX7_keptOf, cX7_keptOf, 3, (some .int)) := rfl
theorem mI_153 : mI 153 = (7, yX7_crosses, cX7_crosses, 7, (some .int)) := rfl
theorem mI_154 : mI 154 = (7, yX7_cross, cX7_cross, 2, (some .int)) := rfl
theorem mI_155 : mI 155 = (7, yX7_isSet, cX7_isSet, 2, (some .boolean)) := rfl
theorem mI_156 : mI 156 = (7, yX7_crowd, cX7_crowd, 4, (some .int)) := rfl
theorem mI_157 : mI 157 = (7, yX7_sumOf, cX7_sumOf, 4, (some .int)) := rfl
theorem mI_158 : mI 158 = (7, yX7_keptAll, cX7_keptAll, 3, (some .int)) := rfl
theorem mI_159 : mI 159 = (7, yX7_wouldCross, cX7_wouldCross, 2, (some .int)) := rfl
theorem mI_160 : mI 160 = (7, yX7_wouldFall, cX7_wouldFall, 3, (some .int)) := rfl
theorem mI_161 : mI 161 = (7, yX7_now, cX7_now, 2, (some .int)) := rfl
theorem mI_162 : mI 162 = (7, yX7_would, cX7_would, 2, (some .int)) := rfl
theorem mI_163 : mI 163 = (7, yX7_behind, cX7_behind, 4, (some .int)) := rfl
theorem mI_164 : mI 164 = (7, yX7_becomes, cX7_becomes, 2, (some .int)) := rfl
theorem mI_165 : mI 165 = (7, yX7_leaves, cX7_leaves, 3, (some .int)) := rfl
theorem mI_166 : mI 166 = (7, yX7_areTwo, cX7_areTwo, 3, (some .boolean)) := rfl
theorem mI_167 : mI 167 = (7, yX7_after, cX7_after, 4, (some .int)) := rfl
theorem mI_168 : mI 168 = (7, yX7_often, cX7_often, 3, (some .int)) := rfl
theorem mI_169 : mI 169 = (7, yX7_crossing, cX7_crossing, 7, (some .int)) := rfl
theorem mI_170 : mI 170 = (7, yX7_leastCrossing, cX7_leastCrossing, 7, (some .int)) := rfl
theorem mI_171 : mI 171 = (7, yX7_balanceFor, cX7_balanceFor, 2, (some .int)) := rfl
theorem mI_172 : mI 172 = (7, yX7_gaits, cX7_gaits, 2, (some .int)) := rfl
theorem mI_173 : mI 173 = (7, yX7_gaitFor, cX7_gaitFor, 2, (some .int)) := rfl
theorem mI_174 : mI 174 = (7, yX7_kindsFor, cX7_kindsFor, 5, (some .int)) := rfl
theorem mI_175 : mI 175 = (7, yX7_lay0, cX7_lay0, 3, none) := rfl
theorem mI_176 : mI 176 = (7, yX7_layBack, cX7_layBack, 3, none) := rfl
theorem mI_177 : mI 177 = (7, yX7_goThrough, cX7_goThrough, 7, none) := rfl
theorem mI_178 : mI 178 = (7, yX7_findOrders, cX7_findOrders, 3, none) := rfl
theorem mI_179 : mI 179 = (7, yX7_order, cX7_order, 3, (some .int)) := rfl
theorem mI_180 : mI 180 = (7, yX7_orders, cX7_orders, 2, (some .int)) := rfl
theorem mI_181 : mI 181 = (7, yX7_fewest, cX7_fewest, 2, (some .int)) := rfl
theorem mI_182 : mI 182 = (7, yX7_most, cX7_most, 3, (some .int)) := rfl
theorem mI_183 : mI 183 = (7, yX7_layNew, cX7_layNew, 3, none) := rfl
theorem mI_184 : mI 184 = (7, yX7_lay, cX7_lay, 4, (some .int)) := rfl
theorem mI_185 : mI 185 = (7, yX7_best, cX7_best, 6, (some .int)) := rfl
theorem mI_186 : mI 186 = (7, yX7_unlikeOf, cX7_unlikeOf, 5, (some .int)) := rfl
theorem mI_187 : mI 187 = (7, yX7_unlike, cX7_unlike, 3, (some .int)) := rfl
theorem mI_188 : mI 188 = (7, yX7_taken, cX7_taken, 6, (some .int)) := rfl
theorem mI_189 : mI 189 = (7, yX7_lacks, cX7_lacks, 2, (some .int)) := rfl
theorem mI_190 : mI 190 = (7, yX7_lacksFor, cX7_lacksFor, 3, (some .int)) := rfl
theorem mI_191 : mI 191 = (7, yX7_swaysSo, cX7_swaysSo, 7, (some .boolean)) := rfl
theorem mI_192 : mI 192 = (7, yX7_fitting, cX7_fitting, 8, (some .int)) := rfl
theorem mI_193 : mI 193 = (7, yX7_fits, cX7_fits, 4, (some .int)) := rfl
theorem mI_194 : mI 194 = (7, yX7_gait, cX7_gait, 3, (some .int)) := rfl
theorem mI_195 : mI 195 = (7, yX7_who, cX7_who, 4, (some .int)) := rfl
theorem mI_196 : mI 196 = (7, yX7_drawn, cX7_drawn, 1, (some .int)) := rfl
theorem mI_197 : mI 197 = (7, yX7_strangers, cX7_strangers, 4, (some .int)) := rfl
theorem mI_198 : mI 198 = (7, yX7_odds, cX7_odds, 10, (some .long)) := rfl
theorem mI_199 : mI 199 = (7, yX7_seed, cX7_seed, 2, (some .int)) := rfl
theorem mI_200 : mI 200 = (7, yX7_feed, cX7_feed, 4, (some .int)) := rfl
theorem mI_201 : mI 201 = (7, yX7_wipe, cX7_wipe, 2, (some .int)) := rfl
theorem mI_202 : mI 202 = (7, yX7_byteAt, cX7_byteAt, 2, (some .int)) := rfl
theorem mI_203 : mI 203 = (7, yX7_next, cX7_next, 2, none) := rfl
theorem mI_204 : mI 204 = (7, yX7_isWord, cX7_isWord, 4, (some .boolean)) := rfl
theorem mI_205 : mI 205 = (7, yX7_must, cX7_must, 2, none) := rfl
theorem mI_206 : mI 206 = (7, yX7_number, cX7_number, 4, (some .int)) := rfl
theorem mI_207 : mI 207 = (7, yX7_addItem, cX7_addItem, 5, none) := rfl
theorem mI_208 : mI 208 = (7, yX7_kindTold, cX7_kindTold, 3, (some .int)) := rfl
theorem mI_209 : mI 209 = (7, yX7_afterWord, cX7_afterWord, 3, (some .int)) := rfl
theorem mI_210 : mI 210 = (7, yX7_readItem, cX7_readItem, 3, none) := rfl
theorem mI_211 : mI 211 = (7, yX7_isToldSo, cX7_isToldSo, 4, (some .int)) := rfl
theorem mI_212 : mI 212 = (7, yX7_text, cX7_text, 3, (some .int)) := rfl
theorem mI_213 : mI 213 = (7, yX7_isSpot, cX7_isSpot, 1, (some .boolean)) := rfl
theorem mI_214 : mI 214 = (7, yX7_hold, cX7_hold, 3, (some .int)) := rfl
theorem mI_215 : mI 215 = (7, yX7_as, cX7_as, 4, (some .int)) := rfl
theorem mI_216 : mI 216 = (7, yX7_isSheet, cX7_isSheet, 1, (some .boolean)) := rfl
theorem mI_217 : mI 217 = (7, yX7_cutTo, cX7_cutTo, 2, (some .int)) := rfl
theorem mI_218 : mI 218 = (7, yX7_sheet, cX7_sheet, 5, (some .int)) := rfl
theorem mI_219 : mI 219 = (7, yX7_write, cX7_write, 4, (some .int)) := rfl
theorem mI_220 : mI 220 = (7, yX7_copy, cX7_copy, 7, (some .int)) := rfl
theorem mI_221 : mI 221 = (7, yX7_above, cX7_above, 1, (some .int)) := rfl
theorem mI_222 : mI 222 = (7, yX7_isUnder, cX7_isUnder, 3, (some .boolean)) := rfl
theorem mI_223 : mI 223 = (7, yX7_load, cX7_load, 3, (some .int)) := rfl
theorem mI_224 : mI 224 = (7, yX7_judge, cX7_judge, 6, (some .int)) := rfl
theorem mI_225 : mI 225 = (7, yX7_image, cX7_image, 1, (some .int)) := rfl
theorem mI_226 : mI 226 = (7, yX7_undo, cX7_undo, 1, (some .int)) := rfl
theorem mI_227 : mI 227 = (7, yX7_tear, cX7_tear, 2, (some .int)) := rfl
theorem mI_228 : mI 228 = (7, yX7_count, cX7_count, 4, (some .int)) := rfl
theorem mI_229 : mI 229 = (7, yX7_status, cX7_status, 2, (some .int)) := rfl
theorem mI_230 : mI 230 = (16, yJ6_bitCount_0f7a4, cJ6_bitCount_0f7a4, 1, (some .int)) := rfl
theorem mI_231 : mI 231 = (10, yJ0_length_8abf5, cJ0_length_8abf5, 1, (some .int)) := rfl
theorem mI_232 : mI 232 = (10, yJ0_charAt_5068e, cJ0_charAt_5068e, 2, (some .char)) := rfl
theorem mI_233 : mI 233 = (10, yJ0_coder_7d493, cJ0_coder_7d493, 1, (some .byte)) := rfl
theorem mI_234 : mI 234 = (10, yJ0_isLatin1_aae02, cJ0_isLatin1_aae02, 1, (some .boolean)) := rfl
theorem mI_235 : mI 235 = (10, yJ0_checkIndex_df160, cJ0_checkIndex_df160, 2, none) := rfl
theorem mI_236 : mI 236 = (11, yJ1_charAt_3b067, cJ1_charAt_3b067, 2, (some .char)) := rfl
theorem mI_237 : mI 237 = (12, yJ2_getChar_3b067, cJ2_getChar_3b067, 2, (some .char)) := rfl
theorem mI_238 : mI 238 = (12, yJ2_length_9d52b, cJ2_length_9d52b, 1, (some .int)) := rfl
theorem mI_239 : mI 239 = (12, yJ2_charAt_3b067, cJ2_charAt_3b067, 2, (some .char)) := rfl
theorem mI_240 : mI 240 = (12, yJ2_checkIndex_2214a, cJ2_checkIndex_2214a, 2, none) := rfl
theorem mI_241 : mI 241 = (13, yJ3_checkIndex_8e157, cJ3_checkIndex_8e157, 3, (some .int)) := rfl
theorem enterV {d j oc nL n : Nat} {y : MethodName} {cc : ByteArray} {ret : Option FieldType} {args : List Value} {M : Mem} {k : Value → Mem → Prop} (T : List (Nat × PF)) (cuts : List Nat) (hm : mI j = (oc, y, cc, nL, ret)) (hj : j < NM) (hn : (lpad args).length ≤ nL) (hT : ∀ e ∈ T, Snd d e.1 e.2) (h : vc oc cc ret (csT d T) k cuts (WP (oc, y, cc, nL, ret) (d + 1) k) n 0 (lent nL args) [] M) : CallP (d + 1) j args M k := by
  refine call_enter hj (by rw [hm]; exact hn) ?_
  rw [hm]
  exact vc_sound (mi := (oc, y, cc, nL, ret)) (csT_sound hT) (fun _ _ _ _ h => h) n _ _ _ _ h
theorem goV {d oc nL n pc : Nat} {y : MethodName} {cc : ByteArray} {ret : Option FieldType} {L st : List Value} {M : Mem} {k : Value → Mem → Prop} (T : List (Nat × PF)) (cuts : List Nat) (hT : ∀ e ∈ T, Snd d e.1 e.2) (h : vstp oc ret (csT d T) k (vc oc cc ret (csT d T) k cuts (WP (oc, y, cc, nL, ret) (d + 1) k) n) (decode cc pc) pc L st M) : WP (oc, y, cc, nL, ret) (d + 1) k pc L st M :=
  vstp_sound (mi := (oc, y, cc, nL, ret)) (csT_sound hT) (vc_sound (mi := (oc, y, cc, nL, ret)) (csT_sound hT) (fun _ _ _ _ h => h) n) h
theorem T_nil {d : Nat} : ∀ e ∈ ([] : List (Nat × PF)), Snd d e.1 e.2 := fun _ h => absurd h List.not_mem_nil
theorem T_cons {d j : Nat} {f : PF} {T : List (Nat × PF)} (h : Snd d j f) (hT : ∀ e ∈ T, Snd d e.1 e.2) : ∀ e ∈ (j, f) :: T, Snd d e.1 e.2 := List.forall_mem_cons.mpr ⟨h, hT⟩
