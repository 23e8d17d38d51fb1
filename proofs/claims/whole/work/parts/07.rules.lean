/-! ONE INSTRUCTION EACH -/
section Rules
variable {mi : MI} {d : Nat} {post : Value → Mem → Prop} {pc : Nat} {L st : List Value} {M : Mem}
theorem r_iconst {n : Int} (hd : decode mi.2.2.1 pc = .ok (.iconst n, 1)) (k : WP mi d post (pc + 1) L (.int (Int32.ofInt n) :: st) M) : WP mi d post pc L (st) M :=
  fun l D tc σ p e s m args below meth c H locs ls C hL hP hS hl => lv_iconst C.2.1 C.2.2.1 hd rfl (k l D tc σ p e s m args below meth c H locs ls C hL hP hS hl)
theorem r_bipush {n : Int} (hd : decode mi.2.2.1 pc = .ok (.bipush n, 2)) (k : WP mi d post (pc + 2) L (.int (Int8.ofInt n).toInt32 :: st) M) : WP mi d post pc L (st) M :=
  fun l D tc σ p e s m args below meth c H locs ls C hL hP hS hl => lv_bipush C.2.1 C.2.2.1 hd rfl (k l D tc σ p e s m args below meth c H locs ls C hL hP hS hl)
theorem r_sipush {n : Int} (hd : decode mi.2.2.1 pc = .ok (.sipush n, 3)) (k : WP mi d post (pc + 3) L (.int (Int16.ofInt n).toInt32 :: st) M) : WP mi d post pc L (st) M :=
  fun l D tc σ p e s m args below meth c H locs ls C hL hP hS hl => lv_sipush C.2.1 C.2.2.1 hd rfl (k l D tc σ p e s m args below meth c H locs ls C hL hP hS hl)
theorem r_lconst {n : Fin 2} (hd : decode mi.2.2.1 pc = .ok (.lconst n, 1)) (k : WP mi d post (pc + 1) L (.long (Int64.ofNat (n : Nat)) :: st) M) : WP mi d post pc L (st) M :=
  fun l D tc σ p e s m args below meth c H locs ls C hL hP hS hl => lv_lconst C.2.1 C.2.2.1 hd rfl (k l D tc σ p e s m args below meth c H locs ls C hL hP hS hl)
theorem r_iadd {a b : Int32} (hd : decode mi.2.2.1 pc = .ok (.iadd, 1)) (k : WP mi d post (pc + 1) L (.int (a + b) :: st) M) : WP mi d post pc L (.int b :: .int a :: st) M :=
  fun l D tc σ p e s m args below meth c H locs ls C hL hP hS hl => lv_iadd C.2.1 C.2.2.1 hd  (k l D tc σ p e s m args below meth c H locs ls C hL hP hS hl)
theorem r_isub {a b : Int32} (hd : decode mi.2.2.1 pc = .ok (.isub, 1)) (k : WP mi d post (pc + 1) L (.int (a - b) :: st) M) : WP mi d post pc L (.int b :: .int a :: st) M :=
  fun l D tc σ p e s m args below meth c H locs ls C hL hP hS hl => lv_isub C.2.1 C.2.2.1 hd  (k l D tc σ p e s m args below meth c H locs ls C hL hP hS hl)
theorem r_imul {a b : Int32} (hd : decode mi.2.2.1 pc = .ok (.imul, 1)) (k : WP mi d post (pc + 1) L (.int (a * b) :: st) M) : WP mi d post pc L (.int b :: .int a :: st) M :=
  fun l D tc σ p e s m args below meth c H locs ls C hL hP hS hl => lv_imul C.2.1 C.2.2.1 hd  (k l D tc σ p e s m args below meth c H locs ls C hL hP hS hl)
theorem r_iand {a b : Int32} (hd : decode mi.2.2.1 pc = .ok (.iand, 1)) (k : WP mi d post (pc + 1) L (.int (a &&& b) :: st) M) : WP mi d post pc L (.int b :: .int a :: st) M :=
  fun l D tc σ p e s m args below meth c H locs ls C hL hP hS hl => lv_iand C.2.1 C.2.2.1 hd  (k l D tc σ p e s m args below meth c H locs ls C hL hP hS hl)
theorem r_ior {a b : Int32} (hd : decode mi.2.2.1 pc = .ok (.ior, 1)) (k : WP mi d post (pc + 1) L (.int (a ||| b) :: st) M) : WP mi d post pc L (.int b :: .int a :: st) M :=
  fun l D tc σ p e s m args below meth c H locs ls C hL hP hS hl => lv_ior C.2.1 C.2.2.1 hd  (k l D tc σ p e s m args below meth c H locs ls C hL hP hS hl)
theorem r_ixor {a b : Int32} (hd : decode mi.2.2.1 pc = .ok (.ixor, 1)) (k : WP mi d post (pc + 1) L (.int (a ^^^ b) :: st) M) : WP mi d post pc L (.int b :: .int a :: st) M :=
  fun l D tc σ p e s m args below meth c H locs ls C hL hP hS hl => lv_ixor C.2.1 C.2.2.1 hd  (k l D tc σ p e s m args below meth c H locs ls C hL hP hS hl)
theorem r_ishl {a b : Int32} (hd : decode mi.2.2.1 pc = .ok (.ishl, 1)) (k : WP mi d post (pc + 1) L (.int (a <<< (b &&& 31)) :: st) M) : WP mi d post pc L (.int b :: .int a :: st) M :=
  fun l D tc σ p e s m args below meth c H locs ls C hL hP hS hl => lv_ishl C.2.1 C.2.2.1 hd  (k l D tc σ p e s m args below meth c H locs ls C hL hP hS hl)
theorem r_ishr {a b : Int32} (hd : decode mi.2.2.1 pc = .ok (.ishr, 1)) (k : WP mi d post (pc + 1) L (.int (a >>> (b &&& 31)) :: st) M) : WP mi d post pc L (.int b :: .int a :: st) M :=
  fun l D tc σ p e s m args below meth c H locs ls C hL hP hS hl => lv_ishr C.2.1 C.2.2.1 hd  (k l D tc σ p e s m args below meth c H locs ls C hL hP hS hl)
theorem r_iushr {a b : Int32} (hd : decode mi.2.2.1 pc = .ok (.iushr, 1)) (k : WP mi d post (pc + 1) L (.int (a.toUInt32 >>> (b.toUInt32 &&& Int32.toUInt32 31)).toInt32 :: st) M) : WP mi d post pc L (.int b :: .int a :: st) M :=
  fun l D tc σ p e s m args below meth c H locs ls C hL hP hS hl => lv_iushr C.2.1 C.2.2.1 hd rfl (k l D tc σ p e s m args below meth c H locs ls C hL hP hS hl)
theorem r_idiv {a b : Int32} (hd : decode mi.2.2.1 pc = .ok (.idiv, 1)) (h0 : ¬ b = 0) (k : WP mi d post (pc + 1) L (.int (a / b) :: st) M) : WP mi d post pc L (.int b :: .int a :: st) M :=
  fun l D tc σ p e s m args below meth c H locs ls C hL hP hS hl => lv_idiv C.2.1 C.2.2.1 hd h0 (k l D tc σ p e s m args below meth c H locs ls C hL hP hS hl)
theorem r_irem {a b : Int32} (hd : decode mi.2.2.1 pc = .ok (.irem, 1)) (h0 : ¬ b = 0) (k : WP mi d post (pc + 1) L (.int (a - a / b * b) :: st) M) : WP mi d post pc L (.int b :: .int a :: st) M :=
  fun l D tc σ p e s m args below meth c H locs ls C hL hP hS hl => lv_irem C.2.1 C.2.2.1 hd h0 (k l D tc σ p e s m args below meth c H locs ls C hL hP hS hl)
theorem r_i2l {a : Int32} (hd : decode mi.2.2.1 pc = .ok (.i2l, 1)) (k : WP mi d post (pc + 1) L (.long a.toInt64 :: st) M) : WP mi d post pc L (.int a :: st) M :=
  fun l D tc σ p e s m args below meth c H locs ls C hL hP hS hl => lv_i2l C.2.1 C.2.2.1 hd rfl (k l D tc σ p e s m args below meth c H locs ls C hL hP hS hl)
theorem r_i2b {a : Int32} (hd : decode mi.2.2.1 pc = .ok (.i2b, 1)) (k : WP mi d post (pc + 1) L (.int a.toInt8.toInt32 :: st) M) : WP mi d post pc L (.int a :: st) M :=
  fun l D tc σ p e s m args below meth c H locs ls C hL hP hS hl => lv_i2b C.2.1 C.2.2.1 hd rfl (k l D tc σ p e s m args below meth c H locs ls C hL hP hS hl)
theorem r_i2s {a : Int32} (hd : decode mi.2.2.1 pc = .ok (.i2s, 1)) (k : WP mi d post (pc + 1) L (.int a.toInt16.toInt32 :: st) M) : WP mi d post pc L (.int a :: st) M :=
  fun l D tc σ p e s m args below meth c H locs ls C hL hP hS hl => lv_i2s C.2.1 C.2.2.1 hd rfl (k l D tc σ p e s m args below meth c H locs ls C hL hP hS hl)
theorem r_i2c {a : Int32} (hd : decode mi.2.2.1 pc = .ok (.i2c, 1)) (k : WP mi d post (pc + 1) L (.int (a.toUInt32 % 65536).toInt32 :: st) M) : WP mi d post pc L (.int a :: st) M :=
  fun l D tc σ p e s m args below meth c H locs ls C hL hP hS hl => lv_i2c C.2.1 C.2.2.1 hd rfl (k l D tc σ p e s m args below meth c H locs ls C hL hP hS hl)
theorem r_ladd {a b : Int64} (hd : decode mi.2.2.1 pc = .ok (.ladd, 1)) (k : WP mi d post (pc + 1) L (.long (a + b) :: st) M) : WP mi d post pc L (.long b :: .long a :: st) M :=
  fun l D tc σ p e s m args below meth c H locs ls C hL hP hS hl => lv_ladd C.2.1 C.2.2.1 hd  (k l D tc σ p e s m args below meth c H locs ls C hL hP hS hl)
theorem r_lmul {a b : Int64} (hd : decode mi.2.2.1 pc = .ok (.lmul, 1)) (k : WP mi d post (pc + 1) L (.long (a * b) :: st) M) : WP mi d post pc L (.long b :: .long a :: st) M :=
  fun l D tc σ p e s m args below meth c H locs ls C hL hP hS hl => lv_lmul C.2.1 C.2.2.1 hd  (k l D tc σ p e s m args below meth c H locs ls C hL hP hS hl)
theorem r_lcmp {a b : Int64} (hd : decode mi.2.2.1 pc = .ok (.lcmp, 1)) (k : WP mi d post (pc + 1) L (.int (lg_cmp a b) :: st) M) : WP mi d post pc L (.long b :: .long a :: st) M :=
  fun l D tc σ p e s m args below meth c H locs ls C hL hP hS hl => W.lcmp C.2.1 C.2.2.1 hd  (k l D tc σ p e s m args below meth c H locs ls C hL hP hS hl)
theorem r_dup {v : Value} (hd : decode mi.2.2.1 pc = .ok (.dup, 1)) (hv : v.category = 1) (k : WP mi d post (pc + 1) L (v :: v :: st) M) : WP mi d post pc L (v :: st) M :=
  fun l D tc σ p e s m args below meth c H locs ls C hL hP hS hl => lv_dup C.2.1 C.2.2.1 hd ((vr_cat _ _).trans hv) (k l D tc σ p e s m args below meth c H locs ls C hL hP hS hl)
theorem r_dup2 {v w : Value} (hd : decode mi.2.2.1 pc = .ok (.dup2, 1)) (hv : v.category = 1) (hw : w.category = 1) (k : WP mi d post (pc + 1) L (v :: w :: v :: w :: st) M) : WP mi d post pc L (v :: w :: st) M :=
  fun l D tc σ p e s m args below meth c H locs ls C hL hP hS hl => lv_dup2_11 C.2.1 C.2.2.1 hd ((vr_cat _ _).trans hv) ((vr_cat _ _).trans hw) (k l D tc σ p e s m args below meth c H locs ls C hL hP hS hl)
theorem r_pop {v : Value} (hd : decode mi.2.2.1 pc = .ok (.pop, 1)) (hv : v.category = 1) (k : WP mi d post (pc + 1) L (st) M) : WP mi d post pc L (v :: st) M :=
  fun l D tc σ p e s m args below meth c H locs ls C hL hP hS hl => lv_pop C.2.1 C.2.2.1 hd ((vr_cat _ _).trans hv) (k l D tc σ p e s m args below meth c H locs ls C hL hP hS hl)
theorem r_ineg {a : Int32} (hd : decode mi.2.2.1 pc = .ok (.ineg, 1)) (k : WP mi d post (pc + 1) L (.int (-a) :: st) M) : WP mi d post pc L (.int a :: st) M :=
  fun l D tc σ p e s m args below meth c H locs ls C hL hP hS hl => lv_ineg C.2.1 C.2.2.1 hd (k l D tc σ p e s m args below meth c H locs ls C hL hP hS hl)
theorem r_iload_n {q : Fin 4} {x : Int32} (hd : decode mi.2.2.1 pc = .ok (.iload_n q, 1)) (hx : L[(q : Nat)]? = some (.int x)) (k : WP mi d post (pc + 1) L (.int x :: st) M) : WP mi d post pc L st M :=
  fun l D tc σ p e s m args below meth c H locs ls C hL hP hS hl => lv_iload_n C.2.1 C.2.2.1 hd rfl (prs_at hl hx rfl) (k l D tc σ p e s m args below meth c H locs ls C hL hP hS hl)
theorem r_iload {q : Nat} {x : Int32} (hd : decode mi.2.2.1 pc = .ok (.iload q, 2)) (hx : L[q]? = some (.int x)) (k : WP mi d post (pc + 2) L (.int x :: st) M) : WP mi d post pc L st M :=
  fun l D tc σ p e s m args below meth c H locs ls C hL hP hS hl => lv_iload C.2.1 C.2.2.1 hd (prs_at hl hx rfl) (k l D tc σ p e s m args below meth c H locs ls C hL hP hS hl)
theorem r_aload_n {q : Fin 4} {x : Nat} (hd : decode mi.2.2.1 pc = .ok (.aload_n q, 1)) (hx : L[(q : Nat)]? = some (.ref x)) (k : WP mi d post (pc + 1) L (.ref x :: st) M) : WP mi d post pc L st M :=
  fun l D tc σ p e s m args below meth c H locs ls C hL hP hS hl => lv_aload_n C.2.1 C.2.2.1 hd rfl (prs_at hl hx rfl) (k l D tc σ p e s m args below meth c H locs ls C hL hP hS hl)
theorem r_aload {q : Nat} {x : Nat} (hd : decode mi.2.2.1 pc = .ok (.aload q, 2)) (hx : L[q]? = some (.ref x)) (k : WP mi d post (pc + 2) L (.ref x :: st) M) : WP mi d post pc L st M :=
  fun l D tc σ p e s m args below meth c H locs ls C hL hP hS hl => lv_aload C.2.1 C.2.2.1 hd (prs_at hl hx rfl) (k l D tc σ p e s m args below meth c H locs ls C hL hP hS hl)
theorem r_lload_n {q : Fin 4} {x : Int64} (hd : decode mi.2.2.1 pc = .ok (.lload_n q, 1)) (hx : L[(q : Nat)]? = some (.long x)) (k : WP mi d post (pc + 1) L (.long x :: st) M) : WP mi d post pc L st M :=
  fun l D tc σ p e s m args below meth c H locs ls C hL hP hS hl => lv_lload_n C.2.1 C.2.2.1 hd rfl (prs_at hl hx rfl) (k l D tc σ p e s m args below meth c H locs ls C hL hP hS hl)
theorem r_lload {q : Nat} {x : Int64} (hd : decode mi.2.2.1 pc = .ok (.lload q, 2)) (hx : L[q]? = some (.long x)) (k : WP mi d post (pc + 2) L (.long x :: st) M) : WP mi d post pc L st M :=
  fun l D tc σ p e s m args below meth c H locs ls C hL hP hS hl => lv_lload C.2.1 C.2.2.1 hd (prs_at hl hx rfl) (k l D tc σ p e s m args below meth c H locs ls C hL hP hS hl)
theorem r_istore_n {q : Fin 4} {x : Int32} (hd : decode mi.2.2.1 pc = .ok (.istore_n q, 1)) (hq : (q : Nat) < L.length) (hk : lok L q = true) (k : WP mi d post (pc + 1) (L.set q (.int x)) st M) : WP mi d post pc L (.int x :: st) M :=
  fun l D tc σ p e s m args below meth c H locs ls C hL hP hS hl => lv_istore_n C.2.1 C.2.2.1 hd rfl hl (by rw [← hL]; exact hq) rfl (fun ls2 hl2 => k l D tc σ p e s m args below meth c H locs ls2 C (by rw [List.length_set]; exact hL) hP hS (prs_set1 hl2 hk))
theorem r_istore {q : Nat} {x : Int32} (hd : decode mi.2.2.1 pc = .ok (.istore q, 2)) (hq : q < L.length) (hk : lok L q = true) (k : WP mi d post (pc + 2) (L.set q (.int x)) st M) : WP mi d post pc L (.int x :: st) M :=
  fun l D tc σ p e s m args below meth c H locs ls C hL hP hS hl => lv_istore C.2.1 C.2.2.1 hd hl (by rw [← hL]; exact hq) rfl (fun ls2 hl2 => k l D tc σ p e s m args below meth c H locs ls2 C (by rw [List.length_set]; exact hL) hP hS (prs_set1 hl2 hk))
theorem r_lstore_n {q : Fin 4} {x : Int64} (hd : decode mi.2.2.1 pc = .ok (.lstore_n q, 1)) (hq : (q : Nat) + 1 < L.length) (hk : lok L q = true) (k : WP mi d post (pc + 1) ((L.set q (.long x)).set (q + 1) (.retAddr 0)) st M) : WP mi d post pc L (.long x :: st) M :=
  fun l D tc σ p e s m args below meth c H locs ls C hL hP hS hl => lv_lstore_n C.2.1 C.2.2.1 hd rfl hl (by rw [← hL]; exact hq) rfl (fun ls2 hl2 => k l D tc σ p e s m args below meth c H locs ls2 C (by rw [List.length_set, List.length_set]; exact hL) hP hS (prs_set2 hl2 hk))
theorem r_lstore {q : Nat} {x : Int64} (hd : decode mi.2.2.1 pc = .ok (.lstore q, 2)) (hq : q + 1 < L.length) (hk : lok L q = true) (k : WP mi d post (pc + 2) ((L.set q (.long x)).set (q + 1) (.retAddr 0)) st M) : WP mi d post pc L (.long x :: st) M :=
  fun l D tc σ p e s m args below meth c H locs ls C hL hP hS hl => lv_lstore C.2.1 C.2.2.1 hd hl (by rw [← hL]; exact hq) rfl (fun ls2 hl2 => k l D tc σ p e s m args below meth c H locs ls2 C (by rw [List.length_set, List.length_set]; exact hL) hP hS (prs_set2 hl2 hk))
theorem r_iinc {q : Nat} {n : Int} {x : Int32} (hd : decode mi.2.2.1 pc = .ok (.iinc q n, 3)) (hx : L[q]? = some (.int x)) (hk : lok L q = true) (k : WP mi d post (pc + 3) (L.set q (.int (x + Int32.ofInt n))) st M) : WP mi d post pc L st M := by
  intro l D tc σ p e s m args below meth c H locs ls C hL hP hS hl
  have hm : (q, vr σ (.int x)) ∈ prs σ L := prs_mem.mpr ⟨_, hx, rfl, rfl⟩
  obtain ⟨i, hi⟩ := List.getElem?_of_mem hm
  have hq : q < L.length := (List.getElem?_eq_some_iff.mp hx).1
  exact lv_iinc (x := x) C.2.1 C.2.2.1 hd hl hi rfl (by rw [← hL]; exact hq) rfl (fun ls2 hl2 => k l D tc σ p e s m args below meth c H locs ls2 C (by rw [List.length_set]; exact hL) hP hS (prs_set1 hl2 hk))
theorem r_if_eq {x : Int32} {off : Int} {t : Nat} (hd : decode mi.2.2.1 pc = .ok (.ifCond .eq off, 3)) (ht : (pc : Int) + off = (t : Int)) (k1 : x = 0 → WP mi d post t L st M) (k2 : ¬ (x = 0) → WP mi d post (pc + 3) L st M) : WP mi d post pc L (.int x :: st) M :=
  fun l D tc σ p e s m args below meth c H locs ls C hL hP hS hl => lv_if_eq C.2.1 C.2.2.1 hd ht (fun z => k1 z l D tc σ p e s m args below meth c H locs ls C hL hP hS hl) (fun z => k2 z l D tc σ p e s m args below meth c H locs ls C hL hP hS hl)
theorem r_if_ne {x : Int32} {off : Int} {t : Nat} (hd : decode mi.2.2.1 pc = .ok (.ifCond .ne off, 3)) (ht : (pc : Int) + off = (t : Int)) (k1 : ¬ x = 0 → WP mi d post t L st M) (k2 : ¬ (¬ x = 0) → WP mi d post (pc + 3) L st M) : WP mi d post pc L (.int x :: st) M :=
  fun l D tc σ p e s m args below meth c H locs ls C hL hP hS hl => lv_if_ne C.2.1 C.2.2.1 hd ht (fun z => k1 z l D tc σ p e s m args below meth c H locs ls C hL hP hS hl) (fun z => k2 (fun h => h z) l D tc σ p e s m args below meth c H locs ls C hL hP hS hl)
theorem r_if_lt {x : Int32} {off : Int} {t : Nat} (hd : decode mi.2.2.1 pc = .ok (.ifCond .lt off, 3)) (ht : (pc : Int) + off = (t : Int)) (k1 : x < 0 → WP mi d post t L st M) (k2 : ¬ (x < 0) → WP mi d post (pc + 3) L st M) : WP mi d post pc L (.int x :: st) M :=
  fun l D tc σ p e s m args below meth c H locs ls C hL hP hS hl => lv_if_lt C.2.1 C.2.2.1 hd ht (fun z => k1 z l D tc σ p e s m args below meth c H locs ls C hL hP hS hl) (fun z => k2 z l D tc σ p e s m args below meth c H locs ls C hL hP hS hl)
theorem r_if_ge {x : Int32} {off : Int} {t : Nat} (hd : decode mi.2.2.1 pc = .ok (.ifCond .ge off, 3)) (ht : (pc : Int) + off = (t : Int)) (k1 : 0 ≤ x → WP mi d post t L st M) (k2 : ¬ (0 ≤ x) → WP mi d post (pc + 3) L st M) : WP mi d post pc L (.int x :: st) M :=
  fun l D tc σ p e s m args below meth c H locs ls C hL hP hS hl => lv_if_ge C.2.1 C.2.2.1 hd ht (fun z => k1 z l D tc σ p e s m args below meth c H locs ls C hL hP hS hl) (fun z => k2 z l D tc σ p e s m args below meth c H locs ls C hL hP hS hl)
theorem r_if_gt {x : Int32} {off : Int} {t : Nat} (hd : decode mi.2.2.1 pc = .ok (.ifCond .gt off, 3)) (ht : (pc : Int) + off = (t : Int)) (k1 : 0 < x → WP mi d post t L st M) (k2 : ¬ (0 < x) → WP mi d post (pc + 3) L st M) : WP mi d post pc L (.int x :: st) M :=
  fun l D tc σ p e s m args below meth c H locs ls C hL hP hS hl => lv_if_gt C.2.1 C.2.2.1 hd ht (fun z => k1 z l D tc σ p e s m args below meth c H locs ls C hL hP hS hl) (fun z => k2 z l D tc σ p e s m args below meth c H locs ls C hL hP hS hl)
theorem r_if_le {x : Int32} {off : Int} {t : Nat} (hd : decode mi.2.2.1 pc = .ok (.ifCond .le off, 3)) (ht : (pc : Int) + off = (t : Int)) (k1 : x ≤ 0 → WP mi d post t L st M) (k2 : ¬ (x ≤ 0) → WP mi d post (pc + 3) L st M) : WP mi d post pc L (.int x :: st) M :=
  fun l D tc σ p e s m args below meth c H locs ls C hL hP hS hl => lv_if_le C.2.1 C.2.2.1 hd ht (fun z => k1 z l D tc σ p e s m args below meth c H locs ls C hL hP hS hl) (fun z => k2 z l D tc σ p e s m args below meth c H locs ls C hL hP hS hl)
theorem r_ic_eq {x y : Int32} {off : Int} {t : Nat} (hd : decode mi.2.2.1 pc = .ok (.if_icmp .eq off, 3)) (ht : (pc : Int) + off = (t : Int)) (k1 : x = y → WP mi d post t L st M) (k2 : ¬ (x = y) → WP mi d post (pc + 3) L st M) : WP mi d post pc L (.int y :: .int x :: st) M :=
  fun l D tc σ p e s m args below meth c H locs ls C hL hP hS hl => lv_icmp_eq C.2.1 C.2.2.1 hd ht (fun z => k1 z l D tc σ p e s m args below meth c H locs ls C hL hP hS hl) (fun z => k2 z l D tc σ p e s m args below meth c H locs ls C hL hP hS hl)
theorem r_ic_ne {x y : Int32} {off : Int} {t : Nat} (hd : decode mi.2.2.1 pc = .ok (.if_icmp .ne off, 3)) (ht : (pc : Int) + off = (t : Int)) (k1 : ¬ x = y → WP mi d post t L st M) (k2 : ¬ (¬ x = y) → WP mi d post (pc + 3) L st M) : WP mi d post pc L (.int y :: .int x :: st) M :=
  fun l D tc σ p e s m args below meth c H locs ls C hL hP hS hl => lv_icmp_ne C.2.1 C.2.2.1 hd ht (fun z => k1 z l D tc σ p e s m args below meth c H locs ls C hL hP hS hl) (fun z => k2 (fun h => h z) l D tc σ p e s m args below meth c H locs ls C hL hP hS hl)
theorem r_ic_lt {x y : Int32} {off : Int} {t : Nat} (hd : decode mi.2.2.1 pc = .ok (.if_icmp .lt off, 3)) (ht : (pc : Int) + off = (t : Int)) (k1 : x < y → WP mi d post t L st M) (k2 : ¬ (x < y) → WP mi d post (pc + 3) L st M) : WP mi d post pc L (.int y :: .int x :: st) M :=
  fun l D tc σ p e s m args below meth c H locs ls C hL hP hS hl => lv_icmp_lt C.2.1 C.2.2.1 hd ht (fun z => k1 z l D tc σ p e s m args below meth c H locs ls C hL hP hS hl) (fun z => k2 z l D tc σ p e s m args below meth c H locs ls C hL hP hS hl)
theorem r_ic_ge {x y : Int32} {off : Int} {t : Nat} (hd : decode mi.2.2.1 pc = .ok (.if_icmp .ge off, 3)) (ht : (pc : Int) + off = (t : Int)) (k1 : y ≤ x → WP mi d post t L st M) (k2 : ¬ (y ≤ x) → WP mi d post (pc + 3) L st M) : WP mi d post pc L (.int y :: .int x :: st) M :=
  fun l D tc σ p e s m args below meth c H locs ls C hL hP hS hl => lv_icmp_ge C.2.1 C.2.2.1 hd ht (fun z => k1 z l D tc σ p e s m args below meth c H locs ls C hL hP hS hl) (fun z => k2 z l D tc σ p e s m args below meth c H locs ls C hL hP hS hl)
theorem r_ic_gt {x y : Int32} {off : Int} {t : Nat} (hd : decode mi.2.2.1 pc = .ok (.if_icmp .gt off, 3)) (ht : (pc : Int) + off = (t : Int)) (k1 : y < x → WP mi d post t L st M) (k2 : ¬ (y < x) → WP mi d post (pc + 3) L st M) : WP mi d post pc L (.int y :: .int x :: st) M :=
  fun l D tc σ p e s m args below meth c H locs ls C hL hP hS hl => lv_icmp_gt C.2.1 C.2.2.1 hd ht (fun z => k1 z l D tc σ p e s m args below meth c H locs ls C hL hP hS hl) (fun z => k2 z l D tc σ p e s m args below meth c H locs ls C hL hP hS hl)
theorem r_ic_le {x y : Int32} {off : Int} {t : Nat} (hd : decode mi.2.2.1 pc = .ok (.if_icmp .le off, 3)) (ht : (pc : Int) + off = (t : Int)) (k1 : x ≤ y → WP mi d post t L st M) (k2 : ¬ (x ≤ y) → WP mi d post (pc + 3) L st M) : WP mi d post pc L (.int y :: .int x :: st) M :=
  fun l D tc σ p e s m args below meth c H locs ls C hL hP hS hl => lv_icmp_le C.2.1 C.2.2.1 hd ht (fun z => k1 z l D tc σ p e s m args below meth c H locs ls C hL hP hS hl) (fun z => k2 z l D tc σ p e s m args below meth c H locs ls C hL hP hS hl)
theorem r_goto {off : Int} {t : Nat} (hd : decode mi.2.2.1 pc = .ok (.goto off, 3)) (ht : (pc : Int) + off = (t : Int)) (k : WP mi d post t L st M) : WP mi d post pc L st M :=
  fun l D tc σ p e s m args below meth c H locs ls C hL hP hS hl => lv_goto C.2.1 C.2.2.1 hd ht (k l D tc σ p e s m args below meth c H locs ls C hL hP hS hl)
theorem r_tabIn {x : Int32} {df lo hi off : Int} {offs : Array Int} {len t : Nat} (hd : decode mi.2.2.1 pc = .ok (.tableswitch df lo hi offs, len)) (h1 : ¬ x.toInt < lo) (h2 : ¬ hi < x.toInt) (ho : offs[(x.toInt - lo).toNat]? = some off) (ht : (pc : Int) + off = (t : Int)) (k : WP mi d post t L st M) : WP mi d post pc L (.int x :: st) M :=
  fun l D tc σ p e s m args below meth c H locs ls C hL hP hS hl => lv_tableIn C.2.1 C.2.2.1 hd h1 h2 ho ht (k l D tc σ p e s m args below meth c H locs ls C hL hP hS hl)
theorem r_tabOut {x : Int32} {df lo hi : Int} {offs : Array Int} {len t : Nat} (hd : decode mi.2.2.1 pc = .ok (.tableswitch df lo hi offs, len)) (h1 : x.toInt < lo ∨ hi < x.toInt) (ht : (pc : Int) + df = (t : Int)) (k : WP mi d post t L st M) : WP mi d post pc L (.int x :: st) M :=
  fun l D tc σ p e s m args below meth c H locs ls C hL hP hS hl => lv_tableOut C.2.1 C.2.2.1 hd h1 ht (k l D tc σ p e s m args below meth c H locs ls C hL hP hS hl)
theorem r_ldc {i : Nat} {v : Int32} (hd : decode mi.2.2.1 pc = .ok (.ldc i, 2)) (hv : kres mi.1 i = some v) (k : WP mi d post (pc + 2) L (.int v :: st) M) : WP mi d post pc L st M :=
  fun l D tc σ p e s m args below meth c H locs ls C hL hP hS hl => lv_ldc C.2.1 C.2.2.1 C.2.2.2.2.2.1 (C.2.2.2.2.2.2.1 _ (kres_ok hv)) hd (k l D tc σ p e s m args below meth c H locs ls C hL hP hS hl)
theorem r_ldcw {i : Nat} {v : Int32} (hd : decode mi.2.2.1 pc = .ok (.ldc_w i, 3)) (hv : kres mi.1 i = some v) (k : WP mi d post (pc + 3) L (.int v :: st) M) : WP mi d post pc L st M :=
  fun l D tc σ p e s m args below meth c H locs ls C hL hP hS hl => lv_ldcw C.2.1 C.2.2.1 C.2.2.2.2.2.1 (C.2.2.2.2.2.2.1 _ (kres_ok hv)) hd (k l D tc σ p e s m args below meth c H locs ls C hL hP hS hl)
theorem r_ldcS {i j : Nat} (hd : decode mi.2.2.1 pc = .ok (.ldc i, 2)) (hv : sres mi.1 i = some j) (k : WP mi d post (pc + 2) L (.ref (100 + j) :: st) M) : WP mi d post pc L st M :=
  fun l D tc σ p e s m args below meth c H locs ls C hL hP hS hl => va_ldcS C.2.1 C.2.2.1 C.2.2.2.2.2.1 (C.2.2.2.2.2.2.2.2.2.2.2.2.2.2.2.2 _ _ _ hv) hd (k l D tc σ p e s m args below meth c H locs ls C hL hP hS hl)
theorem retQ_i {D : va_G} {tc : Nat × Nat × Nat} {σ : Nat → Nat} {ty : FieldType} {post : Value → Mem → Prop} (h : ty ≠ .long) : retQ D tc σ (some ty) post = va_Qi (S := Mem) (fun r M => post (.int r) M) (fun M t => va_P D vwCl (wsM σ tc M) t.heap) (Am σ) := by
  cases ty <;> first | rfl | exact absurd rfl h
theorem r_ireturn {v : Int32} {ty : FieldType} (hd : decode mi.2.2.1 pc = .ok (.ireturn, 1)) (hr : mi.2.2.2.2 = some ty) (hnl : ty ≠ .long) (hn : narrow ty (.int v) = .int v) (k : post (.int v) M) : WP mi d post pc L [.int v] M := by
  intro l D tc σ p e s m args below meth c H locs ls C hL hP hS hl
  refine W.zret C.2.1 C.2.2.1 (C.2.2.2.1.trans hr) hn (fun t ht hW => ?_) hS.2.2 hd (hlocks := C.2.2.2.2.2.2.2.1)
  rw [hr, retQ_i hnl]
  have hP : va_P D vwCl (wsM σ tc M) t.heap := by rw [ht]; exact hP
  exact ⟨⟨v, M, rfl, k, hP⟩, hS.F ht⟩
theorem r_lreturn {v : Int64} (hd : decode mi.2.2.1 pc = .ok (.lreturn, 1)) (hr : mi.2.2.2.2 = some .long) (k : post (.long v) M) : WP mi d post pc L [.long v] M := by
  intro l D tc σ p e s m args below meth c H locs ls C hL hP hS hl
  refine W.lret C.2.1 C.2.2.1 (C.2.2.2.1.trans hr) (fun t ht hW => ?_) hS.2.2 hd (hlocks := C.2.2.2.2.2.2.2.1)
  rw [hr]
  have hP : va_P D vwCl (wsM σ tc M) t.heap := by rw [ht]; exact hP
  exact ⟨⟨v, M, rfl, k, hP⟩, hS.F ht⟩
theorem r_return (hd : decode mi.2.2.1 pc = .ok (.return_, 1)) (hr : mi.2.2.2.2 = none) (k : post (.int 0) M) : WP mi d post pc L [] M := by
  intro l D tc σ p e s m args below meth c H locs ls C hL hP hS hl
  refine W.vret C.2.1 C.2.2.1 (C.2.2.2.1.trans hr) (fun t ht hW => ?_) hS.2.2 hd (hlocks := C.2.2.2.2.2.2.2.1)
  rw [hr]
  have hP : va_P D vwCl (wsM σ tc M) t.heap := by rw [ht]; exact hP
  exact ⟨⟨M, rfl, k, hP⟩, hS.F ht⟩
end Rules
