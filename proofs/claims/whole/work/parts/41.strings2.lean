/-! STRINGS: coder, isLatin1, checkIndex, charAt, length -/
theorem j_pl {p : Nat} (h : 100 ≤ p ∧ p < 113) : ∃ j, j < 13 ∧ p = 100 + j := ⟨p - 100, by omega, by omega⟩
theorem call_J0_coder {d j : Nat} (hj : j < 13) {M : Mem} {k : Value → Mem → Prop} (h : k (.int 0) M) : CallP d 233 [.ref (100 + j)] M k := by
  refine call_enter (by decide) (Nat.le_of_ble_eq_true rfl) ?_
  rw [mI_233]
  show WP (10, yJ0_coder_7d493, cJ0_coder_7d493, 1, (some .byte)) d k 0 [.ref (100 + j)] [] M
  refine r_scomp rfl dJ0_coder_7d493_0 ?_
  refine r_if_eq (t := 13) dJ0_coder_7d493_3 (by decide) (fun z => absurd z (by decide)) (fun _ => ?_)
  refine r_aload_n dJ0_coder_7d493_6 rfl ?_
  refine r_scod hj rfl dJ0_coder_7d493_7 ?_
  refine r_goto (t := 14) dJ0_coder_7d493_10 (by decide) ?_
  exact r_ireturn dJ0_coder_7d493_14 rfl (by decide) rfl h
theorem call_J0_isLatin1 {d j : Nat} (hj : j < 13) {M : Mem} {k : Value → Mem → Prop} (h : k (.int 1) M) : CallP d 234 [.ref (100 + j)] M k := by
  refine call_enter (by decide) (Nat.le_of_ble_eq_true rfl) ?_
  rw [mI_234]
  show WP (10, yJ0_isLatin1_aae02, cJ0_isLatin1_aae02, 1, (some .boolean)) d k 0 [.ref (100 + j)] [] M
  refine r_scomp rfl dJ0_isLatin1_aae02_0 ?_
  refine r_if_eq (t := 17) dJ0_isLatin1_aae02_3 (by decide) (fun z => absurd z (by decide)) (fun _ => ?_)
  refine r_aload_n dJ0_isLatin1_aae02_6 rfl ?_
  refine r_scod hj rfl dJ0_isLatin1_aae02_7 ?_
  refine r_if_ne (t := 17) dJ0_isLatin1_aae02_10 (by decide) (fun z => absurd rfl z) (fun _ => ?_)
  refine r_iconst dJ0_isLatin1_aae02_13 ?_
  refine r_goto (t := 18) dJ0_isLatin1_aae02_14 (by decide) ?_
  exact r_ireturn dJ0_isLatin1_aae02_18 rfl (by decide) rfl h
theorem call_J3_checkIndex {d : Nat} {i n : Int32} {v : Value} (hv : v.category = 1) (h0 : ¬ i < 0) (h1 : i < n) {M : Mem} {k : Value → Mem → Prop} (h : k (.int i) M) : CallP d 241 [.int i, .int n, v] M k := by
  have el : lpad [.int i, .int n, v] = [.int i, .int n, v] := by
    have n12 : ¬ (1 : Nat) = 2 := by decide
    rw [lpad, if_neg (show ¬ (Value.int i).category = 2 from n12), lpad, if_neg (show ¬ (Value.int n).category = 2 from n12), lpad, if_neg (by rw [hv]; decide), lpad]
  refine call_enter (by decide) ?_ ?_
  · rw [mI_241]
    show (lpad [.int i, .int n, v]).length ≤ 3
    rw [el]
    exact Nat.le_refl 3
  rw [mI_241]
  have e : lent 3 [.int i, .int n, v] = [.int i, .int n, v] := by
    rw [lent, el]
    rfl
  show WP (13, yJ3_checkIndex_8e157, cJ3_checkIndex_8e157, 3, (some .int)) d k 0 (lent 3 [.int i, .int n, v]) [] M
  rw [e]
  refine r_iload_n dJ3_checkIndex_8e157_0 rfl ?_
  refine r_if_lt (t := 9) dJ3_checkIndex_8e157_1 (by decide) (fun z => absurd z h0) (fun _ => ?_)
  refine r_iload_n dJ3_checkIndex_8e157_4 rfl ?_
  refine r_iload_n dJ3_checkIndex_8e157_5 rfl ?_
  refine r_ic_lt (t := 16) dJ3_checkIndex_8e157_6 (by decide) (fun _ => ?_) (fun z => absurd h1 z)
  refine r_iload_n dJ3_checkIndex_8e157_16 rfl ?_
  exact r_ireturn dJ3_checkIndex_8e157_17 rfl (by decide) rfl h
theorem call_J0_checkIndex {d : Nat} (hd : 1 ≤ d) {i n : Int32} (h0 : ¬ i < 0) (h1 : i < n) {M : Mem} {k : Value → Mem → Prop} (h : k (.int 0) M) : CallP d 235 [.int i, .int n] M k := by
  obtain ⟨d, rfl⟩ : ∃ d', d = d' + 1 := ⟨d - 1, by omega⟩
  refine call_enter (by decide) (Nat.le_of_ble_eq_true rfl) ?_
  rw [mI_235]
  show WP (10, yJ0_checkIndex_df160, cJ0_checkIndex_df160, 2, none) (d + 1) k 0 [.int i, .int n] [] M
  refine r_iload_n dJ0_checkIndex_df160_0 rfl ?_
  refine r_iload_n dJ0_checkIndex_df160_1 rfl ?_
  have key : ∀ v : Value, v.category = 1 → WP (10, yJ0_checkIndex_df160, cJ0_checkIndex_df160, 2, none) (d + 1) k 5 [.int i, .int n] [v, .int n, .int i] M := by
    intro v hv
    refine r_static (as := [.int i, .int n, v]) (rest := []) dJ0_checkIndex_df160_5 cr_10_1059 (Or.inl rfl) rfl (by decide) ?_
    refine call_J3_checkIndex hv h0 h1 ?_
    refine r_pop dJ0_checkIndex_df160_8 rfl ?_
    exact r_return dJ0_checkIndex_df160_9 rfl h
  exact r_fmt rfl dJ0_checkIndex_df160_2 (key _ rfl) (key _ rfl)
theorem sbt_c : ∀ j, j < 13 → ∀ i, i < sbl j → ((sbt j i &&& (Int16.ofInt 255).toInt32).toUInt32 % 65536).toInt32 = sbt j i := by decide +kernel
theorem sbt_n : ∀ j, j < 13 → ∀ i, i < sbl j → (sbt j i).toInt.toNat < 65536 := by decide +kernel
theorem sbl_le : ∀ j, j < 13 → sbl j ≤ 8 := by decide +kernel
theorem nar_c {v : Int32} (h : ((v &&& (Int16.ofInt 255).toInt32).toUInt32 % 65536).toInt32 = v) : narrow .char (.int v) = .int v := by
  have e : narrow .char (.int v) = .int (v.toUInt32 % 65536).toInt32 := rfl
  rw [e]
  congr 1
  have h2 : v &&& (Int16.ofInt 255).toInt32 = v := by
    have : ∀ w : Int32, ((w &&& 255).toUInt32 % 65536).toInt32 = w → w &&& 255 = w := by
      intro w hw
      have e1 : ((w &&& 255).toUInt32 % 65536).toInt32 = w &&& 255 := by
        apply Int32.toBitVec_inj.1
        show (w.toBitVec &&& 255#32) % 65536#32 = w.toBitVec &&& 255#32
        apply BitVec.eq_of_toNat_eq
        rw [BitVec.toNat_umod]
        apply Nat.mod_eq_of_lt
        rw [BitVec.toNat_and]
        exact Nat.lt_of_le_of_lt Nat.and_le_right (by decide)
      rw [← e1]; exact hw
    exact this v h
  rw [h2] at h
  exact h
theorem call_J1_charAt {d j : Nat} (hd : 2 ≤ d) (hj : j < 13) {i : Int32} (hi : 0 ≤ i.toInt ∧ i.toInt < sbl j) {M : Mem} {k : Value → Mem → Prop} (h : k (.int (sbt j i.toNatClampNeg)) M) : CallP d 236 [.ref (120 + j), .int i] M k := by
  obtain ⟨d, rfl⟩ : ∃ d', d = d' + 1 := ⟨d - 1, by omega⟩
  refine call_enter (by decide) (Nat.le_of_ble_eq_true rfl) ?_
  rw [mI_236]
  show WP (11, yJ1_charAt_3b067, cJ1_charAt_3b067, 2, (some .char)) (d + 1) k 0 [.ref (120 + j), .int i] [] M
  have hl := sbl_le j hj
  have hn : (Int32.ofNat (sbl j)).toInt = sbl j := nI_toInt (by omega)
  have hc := in_of hi
  have hlt : i.toNatClampNeg < sbl j := Nat.not_le.mp fun q => hc (Or.inr q)
  refine r_iload_n dJ1_charAt_3b067_0 rfl ?_
  refine r_aload_n dJ1_charAt_3b067_1 rfl ?_
  refine r_blen hj dJ1_charAt_3b067_2 ?_
  refine r_static (as := [.int i, .int (Int32.ofNat (sbl j))]) (rest := []) dJ1_charAt_3b067_3 cr_11_9 (Or.inl rfl) rfl (by decide) ?_
  refine call_J0_checkIndex (by omega) (fun z => hc (Or.inl z)) (by rw [Int32.lt_iff_toInt_lt, hn]; exact hi.2) ?_
  refine r_aload_n dJ1_charAt_3b067_6 rfl ?_
  refine r_iload_n dJ1_charAt_3b067_7 rfl ?_
  refine r_baload hj dJ1_charAt_3b067_8 hi ?_
  refine r_sipush dJ1_charAt_3b067_9 ?_
  refine r_iand dJ1_charAt_3b067_12 ?_
  refine r_i2c dJ1_charAt_3b067_13 ?_
  have hb := sbt_c j hj _ hlt
  rw [hb]
  exact r_ireturn dJ1_charAt_3b067_14 rfl (by decide) (nar_c hb) h
def pf_J0_charAt : PF := fun args M k => match args with
  | [.ref p, .int i] => ((100 ≤ p ∧ p < 113) ∧ 0 ≤ i.toInt ∧ i.toInt < sbl (p - 100)) ∧ k (.int (sbt (p - 100) i.toNatClampNeg)) M
  | _ => False
theorem pe_J0_charAt {p : Nat} {i : Int32} {M : Mem} {k : Value → Mem → Prop} : pf_J0_charAt [.ref p, .int i] M k = (((100 ≤ p ∧ p < 113) ∧ 0 ≤ i.toInt ∧ i.toInt < sbl (p - 100)) ∧ k (.int (sbt (p - 100) i.toNatClampNeg)) M) := rfl
theorem s_J0_charAt {d : Nat} (hd : 3 ≤ d) : Snd d 232 pf_J0_charAt := by
  intro args M k h
  unfold pf_J0_charAt at h
  split at h
  · rename_i p i
    obtain ⟨⟨hp, hi⟩, h⟩ := h
    obtain ⟨j, hj, rfl⟩ := j_pl hp
    rw [Nat.add_sub_cancel_left] at hi h
    obtain ⟨d, rfl⟩ : ∃ d', d = d' + 1 := ⟨d - 1, by omega⟩
    refine call_enter (by decide) (Nat.le_of_ble_eq_true rfl) ?_
    rw [mI_232]
    show WP (10, yJ0_charAt_5068e, cJ0_charAt_5068e, 2, (some .char)) (d + 1) k 0 [.ref (100 + j), .int i] [] M
    have hc := in_of hi
    have hlt : i.toNatClampNeg < sbl j := Nat.not_le.mp fun q => hc (Or.inr q)
    have hpc : pcl (100 + j) = 7 := by
      have : ∀ j, j < 13 → pcl (100 + j) = 7 := by decide +kernel
      exact this j hj
    refine r_aload_n dJ0_charAt_5068e_0 rfl ?_
    refine r_virtual (ci := 7) (as := []) (rest := []) dJ0_charAt_5068e_1 cr_10_492 rfl hpc (by decide) ?_
    refine call_J0_isLatin1 hj ?_
    refine r_if_eq (t := 16) dJ0_charAt_5068e_4 (by decide) (fun z => absurd z (by decide)) (fun _ => ?_)
    refine r_aload_n dJ0_charAt_5068e_7 rfl ?_
    refine r_sval hj rfl dJ0_charAt_5068e_8 ?_
    refine r_iload_n dJ0_charAt_5068e_11 rfl ?_
    refine r_static (as := [.ref (120 + j), .int i]) (rest := []) dJ0_charAt_5068e_12 cr_10_495 (Or.inl rfl) rfl (by decide) ?_
    refine call_J1_charAt (by omega) hj hi ?_
    exact r_ireturn dJ0_charAt_5068e_15 rfl (by decide) (nar_c (sbt_c j hj _ hlt)) h
  · exact h.elim
def pf_J0_length : PF := fun args M k => match args with
  | [.ref p] => (100 ≤ p ∧ p < 113) ∧ k (.int (nI (sbl (p - 100)))) M
  | _ => False
theorem pe_J0_length {p : Nat} {M : Mem} {k : Value → Mem → Prop} : pf_J0_length [.ref p] M k = ((100 ≤ p ∧ p < 113) ∧ k (.int (nI (sbl (p - 100)))) M) := rfl
theorem s_J0_length {d : Nat} (hd : 1 ≤ d) : Snd d 231 pf_J0_length := by
  intro args M k h
  unfold pf_J0_length at h
  split at h
  · rename_i p
    obtain ⟨hp, h⟩ := h
    obtain ⟨j, hj, rfl⟩ := j_pl hp
    rw [Nat.add_sub_cancel_left] at h
    obtain ⟨d, rfl⟩ : ∃ d', d = d' + 1 := ⟨d - 1, by omega⟩
    refine call_enter (by decide) (Nat.le_of_ble_eq_true rfl) ?_
    rw [mI_231]
    show WP (10, yJ0_length_8abf5, cJ0_length_8abf5, 1, (some .int)) (d + 1) k 0 [.ref (100 + j)] [] M
    have hpc : pcl (100 + j) = 7 := by
      have : ∀ j, j < 13 → pcl (100 + j) = 7 := by decide +kernel
      exact this j hj
    refine r_aload_n dJ0_length_8abf5_0 rfl ?_
    refine r_sval hj rfl dJ0_length_8abf5_1 ?_
    refine r_blen hj dJ0_length_8abf5_4 ?_
    refine r_aload_n dJ0_length_8abf5_5 rfl ?_
    refine r_virtual (ci := 7) (as := []) (rest := [.int (Int32.ofNat (sbl j))]) dJ0_length_8abf5_6 cr_10_335 rfl hpc (Nat.le_of_ble_eq_true rfl) ?_
    refine call_J0_coder hj ?_
    refine r_ishr dJ0_length_8abf5_9 ?_
    have e : Int32.ofNat (sbl j) >>> ((0 : Int32) &&& 31) = nI (sbl j) := by
      have : ∀ j, j < 13 → Int32.ofNat (sbl j) >>> ((0 : Int32) &&& 31) = nI (sbl j) := by decide +kernel
      exact this j hj
    rw [e]
    exact r_ireturn dJ0_length_8abf5_10 rfl (by decide) rfl h
  · exact h.elim
