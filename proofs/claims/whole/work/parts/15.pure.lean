/-! PURE: what the kinds do, one crossing -/
theorem i10 : ((1 : Int32) = 0) = False := by decide
theorem i01 : ((0 : Int32) = 1) = False := by decide
def mx0 (x : Int32) : Int32 := if 0 < x then x else 0
def hld (g : Int32) : Int32 := if 0 < (if g < 99 then g else 99) then (if g < 99 then g else 99) else 0
def abI (x : Int32) : Int32 := if 0 ≤ x then x else 0 - x
def brs (k b n : Int32) : Int32 := if k = 1 then b / 2 else if k = 2 then mx0 (b - 10) else if k = 3 then mx0 (b - 10) + 20 else if k = 4 then (if n = 1 then 99 else mx0 (b - 10) + 20) else if k = 5 then 99 else if k = 6 then b / 2 + 40 else b
def swy (k g p : Int32) : Int32 := if k = 1 then (p - g) / 2 else if k = 2 then 0 else if k = 3 then (p - g) / 10 + 1 else if k = 4 then (p - g) / 10 - 1 else if k = 5 then (if -5 < (if 20 - g < 5 then 20 - g else 5) then (if 20 - g < 5 then 20 - g else 5) else -5) else if k = 6 then 0 else (p - g) / 4
def ftp (k g p : Int32) : Int32 := if k = 1 then g + 5 else if k = 2 then (g + p) / 2 else if k = 3 then (g + p) / 2 + 3 else if k = 4 then (g + p) / 2 + 3 else if k = 5 then 20 else g
/-- a crossing from plank i on: the plank on which it ends, the gait, the row -/
def goF (kd bs : Int32) : Nat → Nat → Int32 → (Nat → Int32) → Nat × Int32 × (Nat → Int32)
  | 0, i, g, r => (i, g, r)
  | n + 1, i, g, r => if abI (g - r i) ≤ bs then goF kd bs n (i + 1) (hld (g + swy kd g (r i))) (upd r i (hld (ftp kd g (r i)))) else (i, g, r)
theorem mrow_mrow {M : Mem} {p : Nat} {f g : Nat → Int32} : mrow (mrow M p f) p g = mrow M p g := by
  funext q
  unfold mrow
  split <;> rfl
theorem mrow_comm {M : Mem} {p q : Nat} {f g : Nat → Int32} (h : q < p) : mrow (mrow M p f) q g = mrow (mrow M q g) p f := by
  funext z
  unfold mrow
  by_cases h1 : z = q <;> by_cases h2 : z = p <;> simp [h1, h2] <;> omega
theorem mrow_self {M : Mem} {p : Nat} : mrow M p (M p) = M := by
  funext z
  unfold mrow
  split
  · rename_i h; rw [h]
  · rfl
theorem upd_upd {f : Nat → Int32} {i : Nat} {a b : Int32} : upd (upd f i a) i b = upd f i b := by
  funext j
  unfold upd
  split <;> rfl
theorem upd_comm {f : Nat → Int32} {i j : Nat} {a b : Int32} (h : j < i) : upd (upd f i a) j b = upd (upd f j b) i a := by
  funext z
  unfold upd
  by_cases h1 : z = i <;> by_cases h2 : z = j <;> simp [h1, h2] <;> omega
theorem al_ra {p : Nat} (h : 0 < al p) : ra p = none := by
  unfold ra
  have h1 : p ≠ 35 := fun e => by subst e; revert h; decide +kernel
  have h2 : p ≠ 51 := fun e => by subst e; revert h; decide +kernel
  have h3 : p ≠ 68 := fun e => by subst e; revert h; decide +kernel
  simp [h1, h2, h3]
theorem al_ne {p q : Nat} (h : 0 < al p) (hq : al q = 0) : p ≠ q := fun e => by subst e; omega
theorem al_90 : al 90 = 0 := by decide +kernel
theorem al_22 : al 22 = 0 := by decide +kernel
theorem al_33 : al 33 = 0 := by decide +kernel
theorem bq {p q : Nat} (h : p ≠ q) : (p == q) = false := by simpa using h
theorem bd {p N : Int32} {n : Nat} (h1 : ¬ p < 0) (h2 : ¬ N ≤ p) (hN : N.toInt = n) : 0 ≤ p.toInt ∧ p.toInt < n := by
  rw [Int32.lt_iff_toInt_lt, Int32.toInt_zero] at h1
  rw [Int32.le_iff_toInt_le, hN] at h2
  omega
theorem go_mem {M : Mem} {p q i : Nat} {r : Nat → Int32} {g g' v : Int32} (h : p ≠ q) : mset (mset (mset (mrow M p r) q 2 g) p i v) q 2 g' = mset (mrow M p (upd r i v)) q 2 g' := by
  funext z
  unfold mset mrow
  by_cases h1 : z = q
  · subst h1
    have h2 : ¬ z = p := fun e => h e.symm
    simp [h2, upd_upd]
  · by_cases h2 : z = p
    · subst h2
      simp [h]
    · simp [h1, h2]
theorem go_mem0 {M : Mem} {p q : Nat} (h : p ≠ q) : mset (mrow M p (M p)) q 2 (M q 2) = M := by
  rw [mrow_self]
  unfold mset
  have : upd (M q) 2 (M q 2) = M q := by
    funext j
    unfold upd
    split
    · rename_i e; rw [e]
    · rfl
  rw [this, mrow_self]
theorem ran_2 : ra 2 = none := rfl
theorem ran_3 : ra 3 = none := rfl
theorem ran_4 : ra 4 = none := rfl
theorem ran_5 : ra 5 = none := rfl
theorem ran_6 : ra 6 = none := rfl
theorem ran_7 : ra 7 = none := rfl
theorem ran_9 : ra 9 = none := rfl
theorem ran_10 : ra 10 = none := rfl
theorem ran_11 : ra 11 = none := rfl
theorem ran_12 : ra 12 = none := rfl
theorem ran_13 : ra 13 = none := rfl
theorem ran_14 : ra 14 = none := rfl
theorem ran_16 : ra 16 = none := rfl
theorem ran_17 : ra 17 = none := rfl
theorem ran_18 : ra 18 = none := rfl
theorem ran_19 : ra 19 = none := rfl
theorem ran_20 : ra 20 = none := rfl
theorem ran_21 : ra 21 = none := rfl
theorem ran_23 : ra 23 = none := rfl
theorem ran_24 : ra 24 = none := rfl
theorem ran_27 : ra 27 = none := rfl
theorem ran_28 : ra 28 = none := rfl
theorem ran_29 : ra 29 = none := rfl
theorem ran_30 : ra 30 = none := rfl
theorem ran_31 : ra 31 = none := rfl
theorem ran_32 : ra 32 = none := rfl
theorem ran_34 : ra 34 = none := rfl
theorem ran_36 : ra 36 = none := rfl
theorem ran_37 : ra 37 = none := rfl
theorem ran_38 : ra 38 = none := rfl
theorem ran_39 : ra 39 = none := rfl
theorem ran_40 : ra 40 = none := rfl
theorem ran_41 : ra 41 = none := rfl
theorem ran_42 : ra 42 = none := rfl
theorem ran_43 : ra 43 = none := rfl
theorem ran_45 : ra 45 = none := rfl
theorem ran_46 : ra 46 = none := rfl
theorem ran_47 : ra 47 = none := rfl
theorem ran_48 : ra 48 = none := rfl
theorem ran_49 : ra 49 = none := rfl
theorem ran_52 : ra 52 = none := rfl
theorem ran_53 : ra 53 = none := rfl
theorem ran_54 : ra 54 = none := rfl
theorem ran_55 : ra 55 = none := rfl
theorem ran_56 : ra 56 = none := rfl
theorem ran_57 : ra 57 = none := rfl
theorem ran_58 : ra 58 = none := rfl
theorem ran_60 : ra 60 = none := rfl
theorem ran_61 : ra 61 = none := rfl
theorem ran_62 : ra 62 = none := rfl
theorem ran_63 : ra 63 = none := rfl
theorem ran_64 : ra 64 = none := rfl
theorem ran_65 : ra 65 = none := rfl
theorem ran_66 : ra 66 = none := rfl
theorem ran_67 : ra 67 = none := rfl
theorem ran_69 : ra 69 = none := rfl
theorem ran_70 : ra 70 = none := rfl
theorem ran_71 : ra 71 = none := rfl
theorem ran_72 : ra 72 = none := rfl
theorem ran_73 : ra 73 = none := rfl
theorem mset_mset {M : Mem} {p i : Nat} {a b : Int32} : mset (mset M p i a) p i b = mset M p i b := by
  unfold mset
  rw [mrow_mrow, mrow_s, upd_upd]
/-- the first n of f, behind them g -/
def cpN (n : Nat) (f g : Nat → Int32) : Nat → Int32 := fun i => if i < n then f i else g i
theorem cpN_0 {f g : Nat → Int32} : cpN 0 f g = g := by
  funext j
  simp [cpN]
theorem cpN_s {n : Nat} {f g : Nat → Int32} : upd (cpN n f g) n (f n) = cpN (n + 1) f g := by
  funext j
  unfold upd cpN
  by_cases h : j = n
  · subst h
    simp
  · by_cases h2 : j < n
    · simp [h, h2, Nat.lt_succ_of_lt h2]
    · have : ¬ j < n + 1 := by omega
      simp [h, h2, this]
theorem cpN_lt {n j : Nat} {f g : Nat → Int32} (h : j < n) : cpN n f g j = f j := if_pos h
theorem cpN_ge {n j : Nat} {f g : Nat → Int32} (h : n ≤ j) : cpN n f g j = g j := if_neg (by omega)
theorem cpy0 {n : Nat} {f g : Nat → Int32} : va_cpy f g 0 0 n = cpN n f g := by
  funext j
  unfold va_cpy cpN
  simp
theorem ib {i n : Nat} (h : i < n) : 0 ≤ (i : Int) ∧ (i : Int) < (n : Nat) := by omega
