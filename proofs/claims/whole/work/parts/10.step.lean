/-! THE STEP AS A FUNCTION: what must hold at an instruction, by the instruction -/
def bT (pc : Nat) (off : Int) : Nat := ((pc : Int) + off).toNat
def vtab (K : Nat → Prop) (pc : Nat) (df : Int) (x : Int32) : Int → List Int → Prop
  | _, [] => 0 ≤ (pc : Int) + df ∧ K (bT pc df)
  | i, o :: os => if x = Int32.ofInt i then 0 ≤ (pc : Int) + o ∧ K (bT pc o) else vtab K pc df x (i + 1) os
def rOK (ret : Option FieldType) (v : Int32) : Prop := match ret with
  | some .int => True
  | some .boolean => v = 0 ∨ v = 1
  | some .byte => v.toInt8.toInt32 = v
  | some .char => narrow .char (.int v) = .int v
  | _ => False
theorem rOK_ok {ret : Option FieldType} {v : Int32} (h : rOK ret v) : ∃ ty, ret = some ty ∧ ty ≠ .long ∧ narrow ty (.int v) = .int v := by
  unfold rOK at h
  split at h
  · exact ⟨_, rfl, by decide, rfl⟩
  · refine ⟨_, rfl, by decide, ?_⟩
    rcases h with rfl | rfl <;> rfl
  · exact ⟨_, rfl, by decide, congrArg Value.int h⟩
  · exact ⟨_, rfl, by decide, h⟩
  · exact h.elim
def vins (oc : Nat) (ret : Option FieldType) (cs : Nat → List Value → Mem → (Value → Mem → Prop) → Prop) (post : Value → Mem → Prop) (K : Nat → List Value → List Value → Mem → Prop) (pc : Nat) (L : List Value) (M : Mem) (i : Instr) (len : Nat) (st : List Value) : Prop :=
  match i with
  | .iconst n => len = 1 ∧ (match st with
    | st => K (pc + 1) L (.int (Int32.ofInt n) :: st) M)
  | .bipush n => len = 2 ∧ (match st with
    | st => K (pc + 2) L (.int (Int8.ofInt n).toInt32 :: st) M)
  | .sipush n => len = 3 ∧ (match st with
    | st => K (pc + 3) L (.int (Int16.ofInt n).toInt32 :: st) M)
  | .lconst n => len = 1 ∧ (match st with
    | st => K (pc + 1) L (.long (Int64.ofNat (n : Nat)) :: st) M)
  | .iadd => len = 1 ∧ (match st with
    | .int b :: .int a :: r => K (pc + 1) L (.int (a + b) :: r) M
    | _ => False)
  | .isub => len = 1 ∧ (match st with
    | .int b :: .int a :: r => K (pc + 1) L (.int (a - b) :: r) M
    | _ => False)
  | .imul => len = 1 ∧ (match st with
    | .int b :: .int a :: r => K (pc + 1) L (.int (a * b) :: r) M
    | _ => False)
  | .iand => len = 1 ∧ (match st with
    | .int b :: .int a :: r => K (pc + 1) L (.int (a &&& b) :: r) M
    | _ => False)
  | .ior => len = 1 ∧ (match st with
    | .int b :: .int a :: r => K (pc + 1) L (.int (a ||| b) :: r) M
    | _ => False)
  | .ixor => len = 1 ∧ (match st with
    | .int b :: .int a :: r => K (pc + 1) L (.int (a ^^^ b) :: r) M
    | _ => False)
  | .ishl => len = 1 ∧ (match st with
    | .int b :: .int a :: r => K (pc + 1) L (.int (a <<< (b &&& 31)) :: r) M
    | _ => False)
  | .ishr => len = 1 ∧ (match st with
    | .int b :: .int a :: r => K (pc + 1) L (.int (a >>> (b &&& 31)) :: r) M
    | _ => False)
  | .iushr => len = 1 ∧ (match st with
    | .int b :: .int a :: r => K (pc + 1) L (.int (a.toUInt32 >>> (b.toUInt32 &&& Int32.toUInt32 31)).toInt32 :: r) M
    | _ => False)
  | .idiv => len = 1 ∧ (match st with
    | .int b :: .int a :: r => ¬ b = 0 ∧ K (pc + 1) L (.int (a / b) :: r) M
    | _ => False)
  | .irem => len = 1 ∧ (match st with
    | .int b :: .int a :: r => ¬ b = 0 ∧ K (pc + 1) L (.int (a - a / b * b) :: r) M
    | _ => False)
  | .ineg => len = 1 ∧ (match st with
    | .int a :: r => K (pc + 1) L (.int (-a) :: r) M
    | _ => False)
  | .i2l => len = 1 ∧ (match st with
    | .int a :: r => K (pc + 1) L (.long a.toInt64 :: r) M
    | _ => False)
  | .i2b => len = 1 ∧ (match st with
    | .int a :: r => K (pc + 1) L (.int a.toInt8.toInt32 :: r) M
    | _ => False)
  | .i2s => len = 1 ∧ (match st with
    | .int a :: r => K (pc + 1) L (.int a.toInt16.toInt32 :: r) M
    | _ => False)
  | .i2c => len = 1 ∧ (match st with
    | .int a :: r => K (pc + 1) L (.int (a.toUInt32 % 65536).toInt32 :: r) M
    | _ => False)
  | .ladd => len = 1 ∧ (match st with
    | .long b :: .long a :: r => K (pc + 1) L (.long (a + b) :: r) M
    | _ => False)
  | .lmul => len = 1 ∧ (match st with
    | .long b :: .long a :: r => K (pc + 1) L (.long (a * b) :: r) M
    | _ => False)
  | .lcmp => len = 1 ∧ (match st with
    | .long b :: .long a :: r => K (pc + 1) L (.int (lg_cmp a b) :: r) M
    | _ => False)
  | .dup => len = 1 ∧ (match st with
    | v :: r => v.category = 1 ∧ K (pc + 1) L (v :: v :: r) M
    | _ => False)
  | .dup2 => len = 1 ∧ (match st with
    | v :: w :: r => v.category = 1 ∧ w.category = 1 ∧ K (pc + 1) L (v :: w :: v :: w :: r) M
    | _ => False)
  | .pop => len = 1 ∧ (match st with
    | v :: r => v.category = 1 ∧ K (pc + 1) L r M
    | _ => False)
  | .iload_n q => len = 1 ∧ (match st with
    | st => match L[(q : Nat)]? with | some (.int x) => K (pc + 1) L (.int x :: st) M | _ => False)
  | .iload q => len = 2 ∧ (match st with
    | st => match L[q]? with | some (.int x) => K (pc + 2) L (.int x :: st) M | _ => False)
  | .aload_n q => len = 1 ∧ (match st with
    | st => match L[(q : Nat)]? with | some (.ref x) => K (pc + 1) L (.ref x :: st) M | _ => False)
  | .aload q => len = 2 ∧ (match st with
    | st => match L[q]? with | some (.ref x) => K (pc + 2) L (.ref x :: st) M | _ => False)
  | .lload_n q => len = 1 ∧ (match st with
    | st => match L[(q : Nat)]? with | some (.long x) => K (pc + 1) L (.long x :: st) M | _ => False)
  | .lload q => len = 2 ∧ (match st with
    | st => match L[q]? with | some (.long x) => K (pc + 2) L (.long x :: st) M | _ => False)
  | .istore_n q => len = 1 ∧ (match st with
    | .int x :: r => (q : Nat) < L.length ∧ lok L q = true ∧ K (pc + 1) (L.set q (.int x)) r M
    | _ => False)
  | .istore q => len = 2 ∧ (match st with
    | .int x :: r => q < L.length ∧ lok L q = true ∧ K (pc + 2) (L.set q (.int x)) r M
    | _ => False)
  | .lstore_n q => len = 1 ∧ (match st with
    | .long x :: r => (q : Nat) + 1 < L.length ∧ lok L q = true ∧ K (pc + 1) ((L.set q (.long x)).set (q + 1) (.retAddr 0)) r M
    | _ => False)
  | .lstore q => len = 2 ∧ (match st with
    | .long x :: r => q + 1 < L.length ∧ lok L q = true ∧ K (pc + 2) ((L.set q (.long x)).set (q + 1) (.retAddr 0)) r M
    | _ => False)
  | .iinc q n => len = 3 ∧ (match st with
    | st => match L[q]? with | some (.int x) => lok L q = true ∧ K (pc + 3) (L.set q (.int (x + Int32.ofInt n))) st M | _ => False)
  | .ifCond .eq off => len = 3 ∧ (match st with
    | .int x :: r => 0 ≤ (pc : Int) + off ∧ if x = 0 then K (bT pc off) L r M else K (pc + 3) L r M
    | _ => False)
  | .ifCond .ne off => len = 3 ∧ (match st with
    | .int x :: r => 0 ≤ (pc : Int) + off ∧ if ¬ x = 0 then K (bT pc off) L r M else K (pc + 3) L r M
    | _ => False)
  | .ifCond .lt off => len = 3 ∧ (match st with
    | .int x :: r => 0 ≤ (pc : Int) + off ∧ if x < 0 then K (bT pc off) L r M else K (pc + 3) L r M
    | _ => False)
  | .ifCond .ge off => len = 3 ∧ (match st with
    | .int x :: r => 0 ≤ (pc : Int) + off ∧ if 0 ≤ x then K (bT pc off) L r M else K (pc + 3) L r M
    | _ => False)
  | .ifCond .gt off => len = 3 ∧ (match st with
    | .int x :: r => 0 ≤ (pc : Int) + off ∧ if 0 < x then K (bT pc off) L r M else K (pc + 3) L r M
    | _ => False)
  | .ifCond .le off => len = 3 ∧ (match st with
    | .int x :: r => 0 ≤ (pc : Int) + off ∧ if x ≤ 0 then K (bT pc off) L r M else K (pc + 3) L r M
    | _ => False)
  | .if_icmp .eq off => len = 3 ∧ (match st with
    | .int y :: .int x :: r => 0 ≤ (pc : Int) + off ∧ if x = y then K (bT pc off) L r M else K (pc + 3) L r M
    | _ => False)
  | .if_icmp .ne off => len = 3 ∧ (match st with
    | .int y :: .int x :: r => 0 ≤ (pc : Int) + off ∧ if ¬ x = y then K (bT pc off) L r M else K (pc + 3) L r M
    | _ => False)
  | .if_icmp .lt off => len = 3 ∧ (match st with
    | .int y :: .int x :: r => 0 ≤ (pc : Int) + off ∧ if x < y then K (bT pc off) L r M else K (pc + 3) L r M
    | _ => False)
  | .if_icmp .ge off => len = 3 ∧ (match st with
    | .int y :: .int x :: r => 0 ≤ (pc : Int) + off ∧ if y ≤ x then K (bT pc off) L r M else K (pc + 3) L r M
    | _ => False)
  | .if_icmp .gt off => len = 3 ∧ (match st with
    | .int y :: .int x :: r => 0 ≤ (pc : Int) + off ∧ if y < x then K (bT pc off) L r M else K (pc + 3) L r M
    | _ => False)
  | .if_icmp .le off => len = 3 ∧ (match st with
    | .int y :: .int x :: r => 0 ≤ (pc : Int) + off ∧ if x ≤ y then K (bT pc off) L r M else K (pc + 3) L r M
    | _ => False)
  | .goto off => len = 3 ∧ (match st with
    | st => 0 ≤ (pc : Int) + off ∧ K (bT pc off) L st M)
  | .ldc i => len = 2 ∧ (match st with
    | st => match kres oc i with | some v => K (pc + 2) L (.int v :: st) M | none => match sres oc i with | some j => K (pc + 2) L (.ref (100 + j) :: st) M | none => False)
  | .ldc_w i => len = 3 ∧ (match st with
    | st => match kres oc i with | some v => K (pc + 3) L (.int v :: st) M | none => False)
  | .getfield i => len = 3 ∧ (match st with
    | .ref p :: r => match fres oc i with | some (ci, k) => (match gf ci k p with | some (some q) => K (pc + 3) L (.ref q :: r) M | some none => K (pc + 3) L (.int (M p k) :: r) M | none => False) | none => False
    | _ => False)
  | .putfield i => len = 3 ∧ (match st with
    | .int v :: .ref p :: r => match fres oc i with | some (ci, k) => gf ci k p = some none ∧ (pft ci k = 0 ∨ (pft ci k = 1 ∧ (v = 0 ∨ v = 1))) ∧ K (pc + 3) L r (mset M p k v) | none => False
    | _ => False)
  | .getstatic i => len = 3 ∧ (match st with
    | st => i = gsI.2 ∧ oc = gsI.1 ∧ K (pc + 3) L (.ref 90 :: st) M)
  | .iaload => len = 1 ∧ (match st with
    | .int i :: .ref p :: r => if p = 90 then (0 ≤ i.toInt ∧ i.toInt < (7 : Nat)) ∧ K (pc + 1) L (.int (kab.getD i.toNatClampNeg 0) :: r) M else (0 ≤ i.toInt ∧ i.toInt < al p) ∧ K (pc + 1) L (.int (M p i.toNatClampNeg) :: r) M
    | _ => False)
  | .iastore => len = 1 ∧ (match st with
    | .int v :: .int i :: .ref p :: r => (0 ≤ i.toInt ∧ i.toInt < al p) ∧ K (pc + 1) L r (mset M p i.toNatClampNeg v)
    | _ => False)
  | .aaload => len = 1 ∧ (match st with
    | .int i :: .ref p :: r => match ra p with | some (b, n) => (0 ≤ i.toInt ∧ i.toInt < n) ∧ K (pc + 1) L (.ref (b + i.toNatClampNeg) :: r) M | none => False
    | _ => False)
  | .arraylength => len = 1 ∧ (match st with
    | .ref p :: r => if p = 90 then K (pc + 1) L (.int 7 :: r) M else match ra p with | some (b, n) => K (pc + 1) L (.int (Int32.ofNat n) :: r) M | none => 0 < al p ∧ K (pc + 1) L (.int (Int32.ofNat (al p)) :: r) M
    | _ => False)
  | .ireturn => len = 1 ∧ (match st with
    | [.int v] => rOK ret v ∧ post (.int v) M
    | _ => False)
  | .lreturn => len = 1 ∧ (match st with
    | [.long v] => ret = some .long ∧ post (.long v) M
    | _ => False)
  | .return_ => len = 1 ∧ (match st with
    | [] => ret = none ∧ post (.int 0) M
    | _ => False)
  | .tableswitch df lo hi offs => (match st with
    | .int x :: r => (-1000 ≤ lo ∧ hi ≤ 1000 ∧ hi = lo + offs.toList.length - 1) ∧ vtab (fun t => K t L r M) pc df x lo offs.toList
    | _ => False)
  | .invokevirtual i => len = 3 ∧ (match cres oc i with
    | some (j, n, r, md) => 10 ≤ md ∧ (st.drop n).length ≤ 4 ∧ (match (st.take n).reverse with
      | .ref p :: as => as.length + 1 = n ∧ pcl p = md - 10 ∧ cs j (.ref p :: as) M (fun v M' => K (pc + 3) L (if r = 0 then st.drop n else v :: st.drop n) M')
      | _ => False)
    | none => False)
  | .invokestatic i => len = 3 ∧ (match cres oc i with
    | some (j, n, r, md) => if md = 5 then (match st with
        | .int k :: .int dp :: .ref q :: .int sp :: .ref p :: rest => (rest.length ≤ 4 ∧ 0 ≤ sp.toInt ∧ 0 ≤ dp.toInt ∧ 0 ≤ k.toInt ∧ sp.toInt + k.toInt ≤ al p ∧ dp.toInt + k.toInt ≤ al q ∧ 0 < al p ∧ 0 < al q) ∧ K (pc + 3) L rest (mrow M q (va_cpy (M p) (M q) sp.toNatClampNeg dp.toNatClampNeg k.toNatClampNeg))
        | _ => False)
      else if md = 6 then (match st with
        | .int y :: .int x :: rest => rest.length ≤ 4 ∧ K (pc + 3) L (.int (if x < y then y else x) :: rest) M
        | _ => False)
      else if md = 7 then (match st with
        | .int y :: .int x :: rest => rest.length ≤ 4 ∧ K (pc + 3) L (.int (if y < x then y else x) :: rest) M
        | _ => False)
      else if md = 8 then (match st with
        | .int x :: rest => rest.length ≤ 4 ∧ K (pc + 3) L (.int (if 0 ≤ x then x else 0 - x) :: rest) M
        | _ => False)
      else (md = 1 ∨ md = 2) ∧ (st.take n).length = n ∧ (st.drop n).length ≤ 4 ∧ cs j (st.take n).reverse M (fun v M' => K (pc + 3) L (if r = 0 then st.drop n else v :: st.drop n) M')
    | none => False)
  | _ => False
def vstp (oc : Nat) (ret : Option FieldType) (cs : Nat → List Value → Mem → (Value → Mem → Prop) → Prop) (post : Value → Mem → Prop) (K : Nat → List Value → List Value → Mem → Prop) (x : Except DecodeError (Instr × Nat)) (pc : Nat) (L st : List Value) (M : Mem) : Prop := match x with
  | .ok (i, len) => vins oc ret cs post K pc L M i len st
  | .error _ => False
theorem bT_ok {pc : Nat} {off : Int} (h : 0 ≤ (pc : Int) + off) : (pc : Int) + off = (bT pc off : Int) := by
  unfold bT
  rw [Int.toNat_of_nonneg h]
theorem ofInt_toInt {i : Int} (h1 : -1000 ≤ i) (h2 : i ≤ 1000) : (Int32.ofInt i).toInt = i := by
  rw [Int32.toInt_ofInt]
  unfold Int32.size
  exact Int.bmod_eq_of_le (by omega) (by omega)
section Sound
variable {mi : MI} {d : Nat} {post : Value → Mem → Prop} {pc : Nat} {L st : List Value} {M : Mem} {cs : Nat → List Value → Mem → (Value → Mem → Prop) → Prop} {K : Nat → List Value → List Value → Mem → Prop}
theorem vtab_sound {df lo hi : Int} {offs : Array Int} {len : Nat} {x : Int32} (hd : decode mi.2.2.1 pc = .ok (.tableswitch df lo hi offs, len)) (h1 : -1000 ≤ lo) (h2 : hi ≤ 1000) (h3 : hi = lo + offs.toList.length - 1)
    (hK : ∀ pc L st M, K pc L st M → WP mi (d + 1) post pc L st M) : ∀ (os : List Int) (k : Nat), offs.toList.drop k = os → (∀ j : Nat, j < k → j < offs.toList.length → ¬ x.toInt = lo + j) → vtab (fun t => K t L st M) pc df x (lo + k) os → WP mi (d + 1) post pc L (.int x :: st) M := by
  intro os
  induction os with
  | nil =>
    intro k hk hne h
    have hlen := List.drop_eq_nil_iff.mp hk
    refine r_tabOut hd ?_ (bT_ok h.1) (hK _ _ _ _ h.2)
    rcases Int.lt_or_le x.toInt lo with q | q
    · exact Or.inl q
    · right
      rcases Int.lt_or_le hi x.toInt with z | z
      · exact z
      · exfalso
        have := hne (x.toInt - lo).toNat (by omega) (by omega)
        omega
  | cons o os ih =>
    intro k hk hne h
    have hlt : k < offs.toList.length := by
      rcases Nat.lt_or_ge k offs.toList.length with q | q
      · exact q
      · rw [List.drop_eq_nil_iff.mpr q] at hk; cases hk
    have hko : offs.toList[k]? = some o := by
      have : (offs.toList.drop k)[0]? = some o := by rw [hk]; rfl
      rw [List.getElem?_drop] at this
      simpa using this
    unfold vtab at h
    split at h
    · rename_i q
      have hx : x.toInt = lo + k := by rw [q]; exact ofInt_toInt (by omega) (by omega)
      refine r_tabIn hd (by omega) (by omega) (off := o) ?_ (bT_ok h.1) (hK _ _ _ _ h.2)
      rw [show (x.toInt - lo).toNat = k by omega, ← Array.getElem?_toList]
      exact hko
    · rename_i q
      refine ih (k + 1) ?_ ?_ (by rw [show lo + ((k + 1 : Nat) : Int) = lo + k + 1 by omega]; exact h)
      · rw [← List.drop_drop, hk]; rfl
      · intro j hj hjl
        rcases Nat.lt_or_ge j k with z | z
        · exact hne j z hjl
        · have : j = k := by omega
          subst this
          intro w
          apply q
          rw [← w, Int32.ofInt_toInt]
theorem vins_sound (hcs : ∀ j args M k, cs j args M k → CallP d j args M k) (hK : ∀ pc L st M, K pc L st M → WP mi (d + 1) post pc L st M) {i : Instr} {len : Nat} (hd : decode mi.2.2.1 pc = .ok (i, len)) (h : vins mi.1 mi.2.2.2.2 cs post K pc L M i len st) : WP mi (d + 1) post pc L st M := by
  cases i
  case iconst n =>
    obtain ⟨rfl, h⟩ := h
    exact r_iconst hd (hK _ _ _ _ h)
  case bipush n =>
    obtain ⟨rfl, h⟩ := h
    exact r_bipush hd (hK _ _ _ _ h)
  case sipush n =>
    obtain ⟨rfl, h⟩ := h
    exact r_sipush hd (hK _ _ _ _ h)
  case lconst n =>
    obtain ⟨rfl, h⟩ := h
    exact r_lconst hd (hK _ _ _ _ h)
  case iadd =>
    obtain ⟨rfl, h⟩ := h
    split at h
    · exact r_iadd hd (hK _ _ _ _ h)
    · exact h.elim
  case isub =>
    obtain ⟨rfl, h⟩ := h
    split at h
    · exact r_isub hd (hK _ _ _ _ h)
    · exact h.elim
  case imul =>
    obtain ⟨rfl, h⟩ := h
    split at h
    · exact r_imul hd (hK _ _ _ _ h)
    · exact h.elim
  case iand =>
    obtain ⟨rfl, h⟩ := h
    split at h
    · exact r_iand hd (hK _ _ _ _ h)
    · exact h.elim
  case ior =>
    obtain ⟨rfl, h⟩ := h
    split at h
    · exact r_ior hd (hK _ _ _ _ h)
    · exact h.elim
  case ixor =>
    obtain ⟨rfl, h⟩ := h
    split at h
    · exact r_ixor hd (hK _ _ _ _ h)
    · exact h.elim
  case ishl =>
    obtain ⟨rfl, h⟩ := h
    split at h
    · exact r_ishl hd (hK _ _ _ _ h)
    · exact h.elim
  case ishr =>
    obtain ⟨rfl, h⟩ := h
    split at h
    · exact r_ishr hd (hK _ _ _ _ h)
    · exact h.elim
  case iushr =>
    obtain ⟨rfl, h⟩ := h
    split at h
    · exact r_iushr hd (hK _ _ _ _ h)
    · exact h.elim
  case ineg =>
    obtain ⟨rfl, h⟩ := h
    split at h
    · exact r_ineg hd (hK _ _ _ _ h)
    · exact h.elim
  case i2l =>
    obtain ⟨rfl, h⟩ := h
    split at h
    · exact r_i2l hd (hK _ _ _ _ h)
    · exact h.elim
  case i2b =>
    obtain ⟨rfl, h⟩ := h
    split at h
    · exact r_i2b hd (hK _ _ _ _ h)
    · exact h.elim
  case i2s =>
    obtain ⟨rfl, h⟩ := h
    split at h
    · exact r_i2s hd (hK _ _ _ _ h)
    · exact h.elim
  case i2c =>
    obtain ⟨rfl, h⟩ := h
    split at h
    · exact r_i2c hd (hK _ _ _ _ h)
    · exact h.elim
  case ladd =>
    obtain ⟨rfl, h⟩ := h
    split at h
    · exact r_ladd hd (hK _ _ _ _ h)
    · exact h.elim
  case lmul =>
    obtain ⟨rfl, h⟩ := h
    split at h
    · exact r_lmul hd (hK _ _ _ _ h)
    · exact h.elim
  case lcmp =>
    obtain ⟨rfl, h⟩ := h
    split at h
    · exact r_lcmp hd (hK _ _ _ _ h)
    · exact h.elim
  case idiv =>
    obtain ⟨rfl, h⟩ := h
    split at h
    · exact r_idiv hd h.1 (hK _ _ _ _ h.2)
    · exact h.elim
  case irem =>
    obtain ⟨rfl, h⟩ := h
    split at h
    · exact r_irem hd h.1 (hK _ _ _ _ h.2)
    · exact h.elim
  case dup =>
    obtain ⟨rfl, h⟩ := h
    split at h
    · exact r_dup hd h.1 (hK _ _ _ _ h.2)
    · exact h.elim
  case pop =>
    obtain ⟨rfl, h⟩ := h
    split at h
    · exact r_pop hd h.1 (hK _ _ _ _ h.2)
    · exact h.elim
  case dup2 =>
    obtain ⟨rfl, h⟩ := h
    split at h
    · exact r_dup2 hd h.1 h.2.1 (hK _ _ _ _ h.2.2)
    · exact h.elim
  case iload_n q =>
    obtain ⟨rfl, h⟩ := h
    split at h
    · rename_i hx
      exact r_iload_n hd hx (hK _ _ _ _ h)
    · exact h.elim
  case iload q =>
    obtain ⟨rfl, h⟩ := h
    split at h
    · rename_i hx
      exact r_iload hd hx (hK _ _ _ _ h)
    · exact h.elim
  case aload_n q =>
    obtain ⟨rfl, h⟩ := h
    split at h
    · rename_i hx
      exact r_aload_n hd hx (hK _ _ _ _ h)
    · exact h.elim
  case aload q =>
    obtain ⟨rfl, h⟩ := h
    split at h
    · rename_i hx
      exact r_aload hd hx (hK _ _ _ _ h)
    · exact h.elim
  case lload_n q =>
    obtain ⟨rfl, h⟩ := h
    split at h
    · rename_i hx
      exact r_lload_n hd hx (hK _ _ _ _ h)
    · exact h.elim
  case lload q =>
    obtain ⟨rfl, h⟩ := h
    split at h
    · rename_i hx
      exact r_lload hd hx (hK _ _ _ _ h)
    · exact h.elim
  case istore_n q =>
    obtain ⟨rfl, h⟩ := h
    split at h
    · exact r_istore_n hd h.1 h.2.1 (hK _ _ _ _ h.2.2)
    · exact h.elim
  case istore q =>
    obtain ⟨rfl, h⟩ := h
    split at h
    · exact r_istore hd h.1 h.2.1 (hK _ _ _ _ h.2.2)
    · exact h.elim
  case lstore_n q =>
    obtain ⟨rfl, h⟩ := h
    split at h
    · exact r_lstore_n hd h.1 h.2.1 (hK _ _ _ _ h.2.2)
    · exact h.elim
  case lstore q =>
    obtain ⟨rfl, h⟩ := h
    split at h
    · exact r_lstore hd h.1 h.2.1 (hK _ _ _ _ h.2.2)
    · exact h.elim
  case iinc q n =>
    obtain ⟨rfl, h⟩ := h
    split at h
    · rename_i hx
      exact r_iinc hd hx h.1 (hK _ _ _ _ h.2)
    · exact h.elim
  case ifCond cnd off =>
    cases cnd
    case eq =>
      obtain ⟨rfl, h⟩ := h
      split at h
      · refine r_if_eq hd (bT_ok h.1) (fun z => ?_) (fun z => ?_)
        · have h2 := h.2
          rw [if_pos z] at h2
          exact hK _ _ _ _ h2
        · have h2 := h.2
          rw [if_neg z] at h2
          exact hK _ _ _ _ h2
      · exact h.elim
    case ne =>
      obtain ⟨rfl, h⟩ := h
      split at h
      · refine r_if_ne hd (bT_ok h.1) (fun z => ?_) (fun z => ?_)
        · have h2 := h.2
          rw [if_pos z] at h2
          exact hK _ _ _ _ h2
        · have h2 := h.2
          rw [if_neg z] at h2
          exact hK _ _ _ _ h2
      · exact h.elim
    case lt =>
      obtain ⟨rfl, h⟩ := h
      split at h
      · refine r_if_lt hd (bT_ok h.1) (fun z => ?_) (fun z => ?_)
        · have h2 := h.2
          rw [if_pos z] at h2
          exact hK _ _ _ _ h2
        · have h2 := h.2
          rw [if_neg z] at h2
          exact hK _ _ _ _ h2
      · exact h.elim
    case ge =>
      obtain ⟨rfl, h⟩ := h
      split at h
      · refine r_if_ge hd (bT_ok h.1) (fun z => ?_) (fun z => ?_)
        · have h2 := h.2
          rw [if_pos z] at h2
          exact hK _ _ _ _ h2
        · have h2 := h.2
          rw [if_neg z] at h2
          exact hK _ _ _ _ h2
      · exact h.elim
    case gt =>
      obtain ⟨rfl, h⟩ := h
      split at h
      · refine r_if_gt hd (bT_ok h.1) (fun z => ?_) (fun z => ?_)
        · have h2 := h.2
          rw [if_pos z] at h2
          exact hK _ _ _ _ h2
        · have h2 := h.2
          rw [if_neg z] at h2
          exact hK _ _ _ _ h2
      · exact h.elim
    case le =>
      obtain ⟨rfl, h⟩ := h
      split at h
      · refine r_if_le hd (bT_ok h.1) (fun z => ?_) (fun z => ?_)
        · have h2 := h.2
          rw [if_pos z] at h2
          exact hK _ _ _ _ h2
        · have h2 := h.2
          rw [if_neg z] at h2
          exact hK _ _ _ _ h2
      · exact h.elim
  case if_icmp cnd off =>
    cases cnd
    case eq =>
      obtain ⟨rfl, h⟩ := h
      split at h
      · refine r_ic_eq hd (bT_ok h.1) (fun z => ?_) (fun z => ?_)
        · have h2 := h.2
          rw [if_pos z] at h2
          exact hK _ _ _ _ h2
        · have h2 := h.2
          rw [if_neg z] at h2
          exact hK _ _ _ _ h2
      · exact h.elim
    case ne =>
      obtain ⟨rfl, h⟩ := h
      split at h
      · refine r_ic_ne hd (bT_ok h.1) (fun z => ?_) (fun z => ?_)
        · have h2 := h.2
          rw [if_pos z] at h2
          exact hK _ _ _ _ h2
        · have h2 := h.2
          rw [if_neg z] at h2
          exact hK _ _ _ _ h2
      · exact h.elim
    case lt =>
      obtain ⟨rfl, h⟩ := h
      split at h
      · refine r_ic_lt hd (bT_ok h.1) (fun z => ?_) (fun z => ?_)
        · have h2 := h.2
          rw [if_pos z] at h2
          exact hK _ _ _ _ h2
        · have h2 := h.2
          rw [if_neg z] at h2
          exact hK _ _ _ _ h2
      · exact h.elim
    case ge =>
      obtain ⟨rfl, h⟩ := h
      split at h
      · refine r_ic_ge hd (bT_ok h.1) (fun z => ?_) (fun z => ?_)
        · have h2 := h.2
          rw [if_pos z] at h2
          exact hK _ _ _ _ h2
        · have h2 := h.2
          rw [if_neg z] at h2
          exact hK _ _ _ _ h2
      · exact h.elim
    case gt =>
      obtain ⟨rfl, h⟩ := h
      split at h
      · refine r_ic_gt hd (bT_ok h.1) (fun z => ?_) (fun z => ?_)
        · have h2 := h.2
          rw [if_pos z] at h2
          exact hK _ _ _ _ h2
        · have h2 := h.2
          rw [if_neg z] at h2
          exact hK _ _ _ _ h2
      · exact h.elim
    case le =>
      obtain ⟨rfl, h⟩ := h
      split at h
      · refine r_ic_le hd (bT_ok h.1) (fun z => ?_) (fun z => ?_)
        · have h2 := h.2
          rw [if_pos z] at h2
          exact hK _ _ _ _ h2
        · have h2 := h.2
          rw [if_neg z] at h2
          exact hK _ _ _ _ h2
      · exact h.elim
  case goto off =>
    obtain ⟨rfl, h⟩ := h
    exact r_goto hd (bT_ok h.1) (hK _ _ _ _ h.2)
  case ldc i =>
    obtain ⟨rfl, h⟩ := h
    split at h
    · rename_i hv
      exact r_ldc hd hv (hK _ _ _ _ h)
    · split at h
      · rename_i hv
        exact r_ldcS hd hv (hK _ _ _ _ h)
      · exact h.elim
  case ldc_w i =>
    obtain ⟨rfl, h⟩ := h
    split at h
    · rename_i hv
      exact r_ldcw hd hv (hK _ _ _ _ h)
    · exact h.elim
  case getfield i =>
    obtain ⟨rfl, h⟩ := h
    split at h
    · split at h
      · rename_i hf
        split at h
        · rename_i hg
          exact r_getfield hd hf hg (hK _ _ _ _ h)
        · rename_i hg
          exact r_getfield hd hf hg (hK _ _ _ _ h)
        · exact h.elim
      · exact h.elim
    · exact h.elim
  case putfield i =>
    obtain ⟨rfl, h⟩ := h
    split at h
    · split at h
      · rename_i hf
        exact r_putfield hd hf h.1 h.2.1 (hK _ _ _ _ h.2.2)
      · exact h.elim
    · exact h.elim
  case getstatic i =>
    obtain ⟨rfl, rfl, h1, h⟩ := h
    exact r_getstatic hd h1 (hK _ _ _ _ h)
  case iaload =>
    obtain ⟨rfl, h⟩ := h
    split at h
    · split at h
      · rename_i hp
        subst hp
        exact r_ialoadK hd h.1 (hK _ _ _ _ h.2)
      · exact r_iaload hd h.1 (hK _ _ _ _ h.2)
    · exact h.elim
  case iastore =>
    obtain ⟨rfl, h⟩ := h
    split at h
    · exact r_iastore hd h.1 (hK _ _ _ _ h.2)
    · exact h.elim
  case aaload =>
    obtain ⟨rfl, h⟩ := h
    split at h
    · split at h
      · rename_i hr
        exact r_aaload hd hr h.1 (hK _ _ _ _ h.2)
      · exact h.elim
    · exact h.elim
  case arraylength =>
    obtain ⟨rfl, h⟩ := h
    split at h
    · split at h
      · rename_i hp
        subst hp
        exact r_alenK hd (hK _ _ _ _ h)
      · split at h
        · rename_i hr
          exact r_alenR hd hr (hK _ _ _ _ h)
        · exact r_alen hd h.1 (hK _ _ _ _ h.2)
    · exact h.elim
  case ireturn =>
    obtain ⟨rfl, h⟩ := h
    split at h
    · obtain ⟨ty, e1, e2, e3⟩ := rOK_ok h.1
      exact r_ireturn hd e1 e2 e3 h.2
    · exact h.elim
  case lreturn =>
    obtain ⟨rfl, h⟩ := h
    split at h
    · exact r_lreturn hd h.1 h.2
    · exact h.elim
  case return_ =>
    obtain ⟨rfl, h⟩ := h
    split at h
    · exact r_return hd h.1 h.2
    · exact h.elim
  case tableswitch df lo hi offs =>
    dsimp only [vins] at h
    split at h
    · obtain ⟨⟨h1, h2, h3⟩, h⟩ := h
      refine vtab_sound hd h1 h2 h3 hK offs.toList 0 rfl (fun j hj => by omega) ?_
      rw [show lo + ((0 : Nat) : Int) = lo by omega]
      exact h
    · exact h.elim
  case invokevirtual i =>
    obtain ⟨rfl, h⟩ := h
    split at h
    · rename_i j n r md hc
      obtain ⟨h10, h4, h⟩ := h
      split at h
      · rename_i p as hst
        obtain ⟨hn, hp, h⟩ := h
        have e1 : st = as.reverse ++ .ref p :: st.drop n := by
          have h5 := List.take_append_drop n st
          have h6 : st.take n = as.reverse ++ [.ref p] := by
            have := congrArg List.reverse hst
            rw [List.reverse_reverse, List.reverse_cons] at this
            exact this
          rw [h6, List.append_assoc] at h5
          exact h5.symm
        have hc2 : cres mi.1 i = some (j, n, r, 10 + (md - 10)) := by
          rw [hc, show 10 + (md - 10) = md by omega]
        have := r_virtual (rest := st.drop n) hd hc2 hn hp h4 (CallP.mono (hcs _ _ _ _ h) (fun v M' q => hK _ _ _ _ q))
        rw [← e1] at this
        exact this
      · exact h.elim
    · exact h.elim
  case invokestatic i =>
    obtain ⟨rfl, h⟩ := h
    split at h
    · rename_i j n r md hc
      split at h
      · rename_i hmd
        subst hmd
        split at h
        · obtain ⟨⟨a1, a2, a3, a4, a5, a6, a7, a8⟩, h⟩ := h
          exact r_copy hd hc a1 a2 a3 a4 a5 a6 a7 a8 (hK _ _ _ _ h)
        · exact h.elim
      split at h
      · rename_i hmd
        subst hmd
        split at h
        · exact r_mmax hd hc h.1 (hK _ _ _ _ h.2)
        · exact h.elim
      split at h
      · rename_i hmd
        subst hmd
        split at h
        · exact r_mmin hd hc h.1 (hK _ _ _ _ h.2)
        · exact h.elim
      split at h
      · rename_i hmd
        subst hmd
        split at h
        · exact r_mabs hd hc h.1 (hK _ _ _ _ h.2)
        · exact h.elim
      · obtain ⟨h1, h2, h4, h⟩ := h
        have e1 : st = (st.take n).reverse.reverse ++ st.drop n := by rw [List.reverse_reverse, List.take_append_drop]
        have := r_static (rest := st.drop n) hd hc h1 (by rw [List.length_reverse]; exact h2) h4 (CallP.mono (hcs _ _ _ _ h) (fun v M' q => hK _ _ _ _ q))
        rw [← e1] at this
        exact this
    · exact h.elim
  all_goals exact h.elim
theorem vstp_sound (hcs : ∀ j args M k, cs j args M k → CallP d j args M k) (hK : ∀ pc L st M, K pc L st M → WP mi (d + 1) post pc L st M) (h : vstp mi.1 mi.2.2.2.2 cs post K (decode mi.2.2.1 pc) pc L st M) : WP mi (d + 1) post pc L st M := by
  unfold vstp at h
  split at h
  · rename_i hd
    exact vins_sound hcs hK hd h
  · exact h.elim
end Sound
/-! MANY STEPS -/
def vc (oc : Nat) (cc : ByteArray) (ret : Option FieldType) (cs : Nat → List Value → Mem → (Value → Mem → Prop) → Prop) (post : Value → Mem → Prop) (cuts : List Nat) (P : Nat → List Value → List Value → Mem → Prop) : Nat → Nat → List Value → List Value → Mem → Prop
  | 0, pc, L, st, M => P pc L st M
  | n + 1, pc, L, st, M => if pc ∈ cuts then P pc L st M else vstp oc ret cs post (vc oc cc ret cs post cuts P n) (decode cc pc) pc L st M
theorem vc_sound {mi : MI} {d : Nat} {post : Value → Mem → Prop} {cs : Nat → List Value → Mem → (Value → Mem → Prop) → Prop} {cuts : List Nat} {P : Nat → List Value → List Value → Mem → Prop} (hcs : ∀ j args M k, cs j args M k → CallP d j args M k) (hP : ∀ pc L st M, P pc L st M → WP mi (d + 1) post pc L st M) :
    ∀ (n pc : Nat) (L st : List Value) (M : Mem), vc mi.1 mi.2.2.1 mi.2.2.2.2 cs post cuts P n pc L st M → WP mi (d + 1) post pc L st M := by
  intro n
  induction n with
  | zero => intro pc L st M h; exact hP _ _ _ _ h
  | succ n ih =>
    intro pc L st M h
    unfold vc at h
    split at h
    · exact hP _ _ _ _ h
    · exact vstp_sound hcs ih h
/-! SUMMARIES: what suffices for a call, as a function of arguments, memory and what shall hold behind it -/
abbrev PF : Type := List Value → Mem → (Value → Mem → Prop) → Prop
def Snd (d j : Nat) (f : PF) : Prop := ∀ args M k, f args M k → CallP d j args M k
def csT (d : Nat) (T : List (Nat × PF)) (j : Nat) (args : List Value) (M : Mem) (k : Value → Mem → Prop) : Prop := match T.lookup j with
  | some f => f args M k
  | none => CallP d j args M k
theorem csT_sound {d : Nat} {T : List (Nat × PF)} (hT : ∀ e ∈ T, Snd d e.1 e.2) : ∀ j args M k, csT d T j args M k → CallP d j args M k := by
  intro j args M k h
  unfold csT at h
  split at h
  · rename_i f hf
    obtain ⟨n, hn⟩ := lk_mem hf
    exact hT _ (List.mem_of_getElem? hn) args M k h
  · exact h
