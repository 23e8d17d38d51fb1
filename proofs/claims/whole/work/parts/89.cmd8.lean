/-! BOTH: loads, judging, what swayed -/
theorem RM.row {M : Mem} (h : RM M) {p ps : Nat → Int32} (hp : ∀ j, j < 12 → p j = ps j) (hg : ∀ j, j < 12 → isG (ps j)) : RM (mrow (mrow M 2 p) 60 (rwQ (M 60) ps)) := by
  have key := h.rowz (z := M 1 9) hp hg
  have e1 : mset (mrow M 2 p) 1 9 (M 1 9) = mrow M 2 p := by
    unfold mset
    rw [mrow_n (by decide), upd_self]
    have := mrow_self (M := mrow M 2 p) (p := 1)
    rw [mrow_n (by decide)] at this
    exact this
  have e2 : upd (rwQ (M 60) ps) 2 (M 1 9) = rwQ (M 60) ps := by
    have : M 1 9 = rwQ (M 60) ps 2 := by
      rw [rwQ_out (by omega)]
      exact h.1.2.2.2.2.2.2
    rw [this, upd_self]
  rw [e1, e2] at key
  exact key
theorem ld_congr {f g : Nat → Int32} {m : Nat} (hm : m ≤ 40) (h : ∀ j, j < 40 → f j = g j) : ∀ (n i : Nat) (p q : Nat → Int32), i + n ≤ 12 → (∀ j, j < 12 → p j = q j) → (ldF f m n i p).1 = (ldF g m n i q).1 ∧ ∀ j, j < 12 → (ldF f m n i p).2 j = (ldF g m n i q).2 j := by
  intro n
  induction n with
  | zero => intro i p q _ hp; exact ⟨rfl, hp⟩
  | succ n ih =>
    intro i p q hi hp
    rw [ldF, ldF]
    by_cases z : i < m ∧ isG (f i)
    · have z' : i < m ∧ isG (g i) := by rw [← h i (by omega)]; exact z
      rw [if_pos z, if_pos z']
      refine ih (i + 1) _ _ (by omega) (fun j hj => ?_)
      unfold upd
      split
      · exact h i (by omega)
      · exact hp j hj
    · have z' : ¬ (i < m ∧ isG (g i)) := fun y => z (by rw [h i (by omega)]; exact y)
      rw [if_neg z, if_neg z']
      exact ⟨rfl, hp⟩
theorem ld_G {f : Nat → Int32} {m : Nat} : ∀ (n i : Nat) (p : Nat → Int32), (∀ j, j < 12 → isG (p j)) → ∀ j, j < 12 → isG ((ldF f m n i p).2 j) := by
  intro n
  induction n with
  | zero => intro i p h; exact h
  | succ n ih =>
    intro i p h
    rw [ldF]
    by_cases z : i < m ∧ isG (f i)
    · rw [if_pos z]
      refine ih (i + 1) _ (fun j hj => ?_)
      unfold upd
      split
      · exact z.2
      · exact h j hj
    · rw [if_neg z]
      exact h
theorem cmd_load {M : Mem} (hR : RM M) {s : Int32} : CallP 20 96 [.ref 0, .int s] M (fun x N => CallP 20 223 [.ref 59, .int s] N (fun y K => y = x ∧ RM K)) := by
  refine c_X6_load (by omega) ⟨⟨rfl, hR.zv⟩, ?_⟩
  obtain ⟨s1, s2⟩ := hR.2.2.2.2.1
  by_cases h0 : fdF M s = 0
  · rw [if_pos h0]
    rw [hR.fd] at h0
    obtain ⟨hs, hb⟩ := fg0 h0
    obtain ⟨t, ht, rfl⟩ := s4_n hs
    have ct : (nI t).toNatClampNeg = t := nI_clamp (by omega)
    obtain ⟨q1, q2, q3⟩ := s1 t ht
    obtain ⟨m, hm, em⟩ := s2 t ht
    have em' : M 71 t = nI m := by rw [← q2]; exact em
    have cm : (nI m).toNatClampNeg = m := nI_clamp (by omega)
    rw [ct, em, cm]
    obtain ⟨k1, k2⟩ := ld_congr hm (f := M (52 + t)) (g := shR M t) q3 12 0 (M 2) (plr (M 60)) (by decide) (fun j hj => hR.pl hj)
    generalize hA : mrow M 2 (ldF (M (52 + t)) m 12 0 (M 2)).2 = A
    have a1 : ∀ p, p ≠ 2 → A p = M p := fun p z => by rw [← hA, mrow_n (bq z)]
    have ef : fdG A (nI t) = 0 := by
      unfold fdG at h0 ⊢
      rw [a1 70 (by decide)]
      exact h0
    have esh : shR A t = shR M t := by
      unfold shR
      rw [a1 72 (by decide)]
    refine c_X7_load (by omega) ⟨⟨rfl, by unfold ZM; rw [a1 71 (by decide)]; exact hR.zm⟩, ?_⟩
    rw [if_pos ef, ct, a1 71 (by decide), em', cm, a1 60 (by decide), esh]
    refine ⟨by rw [k1], ?_⟩
    rw [← hA]
    exact hR.row k2 (ld_G 12 0 _ (fun j hj => hR.2.1.2.1 j hj))
  · rw [if_neg h0]
    rw [hR.fd] at h0 ⊢
    refine c_X7_load (by omega) ⟨⟨rfl, ZM_t hR.zm⟩, ?_⟩
    rw [fdG_t, if_neg h0]
    exact ⟨rfl, hR.tell (fd_c h0)⟩
theorem jd_eq {M : Mem} (hR : RM M) {f g : Nat → Int32} {m : Nat} (hm : m ≤ 40) (hfg : ∀ j, j < 40 → f j = g j) : ∀ (n i b : Nat) (p r : Nat → Int32), i + n ≤ m → b < 64 → r 1 = M 60 1 → r 3 = M 60 3 → (∀ j, j < 12 → p j = plr r j) → (∀ w, w < 6 → b.testBit w = false → ∀ x, x < 3 → r (wf w x) = M 60 (wf w x)) → jdF M f n i (nI b) p = jdM g n i (nI b) r := by
  intro n
  induction n with
  | zero => intro i b p r _ _ _ _ _ _; rfl
  | succ n ih =>
    intro i b p r hi hb e1 e3 hp hw
    rw [jdF, jdM, ← hfg i (by omega)]
    have hh : hasW M 1 (f i) = hasM r (f i) := by
      rw [hR.has]
      unfold hasM
      rw [e1]
    by_cases h1 : hasM r (f i)
    · obtain ⟨w, hw6, ew⟩ := has_n h1
      have h1' : hasW M 1 (f i) := by rw [hh]; exact h1
      rw [ew] at h1 h1' ⊢
      have cw : (nI w).toNatClampNeg = w := nI_clamp (by omega)
      rw [cw]
      by_cases h2 : (nI b >>> (nI w &&& 31)) &&& 1 = 0
      · have hbit : b.testBit w = false := by
          rw [isin0 (by omega) (by omega)] at h2
          exact h2
        have hx : (xwr M w p).1 = (crx r w).1 ∧ ∀ j, j < 12 → (xwr M w p).2.2 j = (crx r w).2.2 j := by
          obtain ⟨z1, z2, z3, z4⟩ := hR.ww hw6
          unfold xwr crx
          rw [hw w hw6 hbit 0 (by decide), hw w hw6 hbit 1 (by decide), hw w hw6 hbit 2 (by decide), e3, z1, z2, z3, hR.nt]
          have := wk_m (bl := M 60 (wf w 2)) (nt := M 60 3) (g := M 60 (wf w 1)) (hR.kd hw6) hp
          exact ⟨this.1, this.2.2⟩
        by_cases h3 : (crx r w).1 < 12
        · rw [if_neg (fun z => z.2.2 (by rw [hx.1]; exact h3)), if_neg (fun z => z.2.2 h3)]
        · rw [if_pos ⟨h1', h2, by rw [hx.1]; exact h3⟩, if_pos ⟨h1, h2, h3⟩, sh1 w (by omega), fa_or]
          have hb2 : b ||| 2 ^ w < 64 := Nat.or_lt_two_pow (n := 6) hb (Nat.pow_lt_pow_right (by decide) hw6)
          refine ih (i + 1) (b ||| 2 ^ w) _ _ (by omega) hb2 (by rw [crr_1]; exact e1) (by rw [crr_l (by decide) (by decide)]; exact e3) (fun j hj => ?_) (fun v hv hvb x hx3 => ?_)
          · show _ = crr r w (14 + j)
            rw [crr_p hj]
            exact hx.2 j hj
          · rw [Nat.testBit_or, Bool.or_eq_false_iff] at hvb
            have hne : v ≠ w := fun z => by
              rw [z, Nat.testBit_two_pow_self] at hvb
              exact absurd hvb.2 (by decide)
            rw [crr_w (by omega) (Or.inl hne)]
            exact hw v hv hvb.1 x hx3
      · rw [if_neg (fun z => h2 z.2.1), if_neg (fun z => h2 z.2.1)]
    · rw [if_neg (fun z => h1 (by rw [← hh]; exact z.1)), if_neg (fun z => h1 z.1)]
theorem cmd_judge {M : Mem} (hR : RM M) {s : Int32} : CallP 20 97 [.ref 0, .int s] M (fun x N => CallP 20 224 [.ref 59, .int s] N (fun y K => y = x ∧ RM K)) := by
  refine c_X6_judge (by omega) ⟨⟨rfl, hR.zv⟩, ?_⟩
  obtain ⟨s1, s2⟩ := hR.2.2.2.2.1
  by_cases h0 : fdF M s = 0
  · rw [if_pos h0]
    rw [hR.fd] at h0
    obtain ⟨hs, hb⟩ := fg0 h0
    obtain ⟨t, ht, rfl⟩ := s4_n hs
    have ct : (nI t).toNatClampNeg = t := nI_clamp (by omega)
    obtain ⟨q1, q2, q3⟩ := s1 t ht
    obtain ⟨m, hm, em⟩ := s2 t ht
    have em' : M 71 t = nI m := by rw [← q2]; exact em
    have cm : (nI m).toNatClampNeg = m := nI_clamp (by omega)
    rw [ct, em, cm]
    intro a b
    have j71 : jk M a b 71 = M 71 := jk_n (by decide) (by decide)
    have ef : fdG (jk M a b) (nI t) = 0 := by
      unfold fdG at h0 ⊢
      rw [jk_n (by decide) (by decide)]
      exact h0
    have esh : shR (jk M a b) t = shR M t := by
      unfold shR
      rw [jk_n (by decide) (by decide)]
    refine c_X7_judge (by omega) ⟨⟨rfl, by rw [jk60]; exact hR.im, by unfold ZM; rw [j71]; exact hR.zm⟩, ?_⟩
    rw [if_pos ef, ct, j71, em', cm, jk60, esh]
    intro a'
    have hz := (hR.ag (ag_jk (a := a) (b := b))).ag (ag_j2 (a := a'))
    rw [jk60] at hz
    refine ⟨?_, hz⟩
    have := jd_eq hR hm (f := M (52 + t)) (g := shR M t) q3 m 0 0 (M 2) (M 60) (by omega) (by decide) rfl rfl (fun j hj => hR.pl hj) (fun _ _ _ _ _ => rfl)
    rw [show (nI 0 : Int32) = 0 from rfl] at this
    rw [this]
  · rw [if_neg h0]
    rw [hR.fd] at h0 ⊢
    refine c_X7_judge (by omega) ⟨⟨rfl, by rw [tl_n (by decide)]; exact hR.im, ZM_t hR.zm⟩, ?_⟩
    rw [fdG_t, if_neg h0]
    exact ⟨rfl, hR.tell (fd_c h0)⟩
theorem tel_congr {f g r s : Nat → Int32} {m : Nat} (hm : m ≤ 12) (hf : ∀ j, j < 40 → f j = g j) (hr : ∀ j, j < 12 → r j = s j) : ∀ (n i : Nat), i + n ≤ m → telB f r n i = telB g s n i := by
  intro n
  induction n with
  | zero => intro i _; rfl
  | succ n ih =>
    intro i hi
    rw [telB, telB, hf i (by omega), hr i (by omega), ih (i + 1) (by omega)]
theorem RM.sf {M : Mem} (h : RM M) {s w : Int32} : sfF M s w = sfG M s w := by
  unfold sfF sfG
  rw [h.fd]
  by_cases z : fdG M s = 0
  · have nz : ¬ ¬ fdG M s = 0 := fun y => y z
    rw [if_neg nz, if_neg nz]
    obtain ⟨t, ht, rfl⟩ := s4_n (fg0 z).1
    have ct : (nI t).toNatClampNeg = t := nI_clamp (by omega)
    rw [ct, (h.2.2.2.2.1.1 t ht).2.1]
    by_cases y : hasM (M 60) w
    · rw [if_pos y, if_pos (by rw [h.has]; exact y)]
    · rw [if_neg y, if_neg (by rw [h.has]; exact y)]
  · rw [if_pos z, if_pos z]
theorem sf_c {M : Mem} {s w : Int32} (h : ¬ sfG M s w = 0) : (-1000001 - sfG M s w).toNatClampNeg < 7 := by
  unfold sfG at h ⊢
  by_cases z : fdG M s = 0
  · rw [if_neg (fun y => y z)] at h ⊢
    split
    · rename_i y
      rw [if_pos y] at h
      split
      · rename_i x
        rw [if_pos x] at h
        exact absurd rfl h
      · decide
    · decide
  · rw [if_pos z]
    exact fd_c z
theorem sfG_n {M N : Mem} {s w : Int32} (e60 : N 60 = M 60) (e70 : N 70 = M 70) (e71 : N 71 = M 71) : sfG N s w = sfG M s w := by
  unfold sfG fdG
  rw [e60, e70, e71]
theorem ag_jf {M : Mem} {a : Nat → Int32} {c : Int32} : AG M (jf M a (M 60) c) := by
  refine (ag_j2 (a := a)).tr ⟨fun p hp => ?_, ?_, ?_, ?_⟩
  · unfold jf
    exact mset_n (bq (fun z => by subst z; cases hp))
  · unfold jf
    rw [mset_n (by decide)]
  · unfold jf
    rw [mset_s, upd_n (by decide)]
  · unfold jf
    rw [mset_s, upd_n (by decide)]
theorem RM.fit {M : Mem} (h : RM M) {t i m v : Nat} (ht : t < 4) (hi : i < 6) (hm : m ≤ 12) : (telB (M (52 + t)) (xwg M i (nI v)).2.2 m 0 = true) ↔ fitC M t i m v := by
  unfold fitC
  rw [tel_congr hm (f := M (52 + t)) (g := shR M t) (s := plr (crr (upd (M 60) (wf i 1) (nI v)) i)) (h.2.2.2.2.1.1 t ht).2.2 (fun j hj => ?_) m 0 (by omega)]
  show _ = crr (upd (M 60) (wf i 1) (nI v)) i (14 + j)
  rw [crr_p hj]
  exact (h.xg hi).2 j hj
theorem fitC_n {M N : Mem} {s i m v : Nat} (e60 : N 60 = M 60) (e72 : N 72 = M 72) : fitC N s i m v = fitC M s i m v := by
  unfold fitC shR
  rw [e60, e72]
theorem cmd_fits {M : Mem} (hR : RM M) {s w : Int32} : CallP 20 82 [.ref 0, .int s, .int w] M (fun x N => CallP 20 193 [.ref 59, .int s, .int w] N (fun y K => y = x ∧ RM K)) := by
  refine c_X6_fits (by omega) ⟨⟨rfl, hR.zv⟩, ?_⟩
  by_cases h0 : sfF M s w = 0
  · rw [if_pos h0]
    rw [hR.sf] at h0
    obtain ⟨hs, hw, h12⟩ := sg0 h0
    obtain ⟨t, ht, rfl⟩ := s4_n hs
    obtain ⟨i, hi, rfl⟩ := has_n hw
    have ct : (nI t).toNatClampNeg = t := nI_clamp (by omega)
    have ci : (nI i).toNatClampNeg = i := nI_clamp (by omega)
    rw [ct] at h12
    obtain ⟨m, hm, em'⟩ := zm12 hR.zm ht h12
    have em : M 57 t = nI m := by rw [(hR.2.2.2.2.1.1 t ht).2.1]; exact em'
    have cm : (nI m).toNatClampNeg = m := nI_clamp (by omega)
    rw [ct, ci, em, cm]
    intro a b
    have j70 : jk M a b 70 = M 70 := jk_n (by decide) (by decide)
    have j71 : jk M a b 71 = M 71 := jk_n (by decide) (by decide)
    have j72 : jk M a b 72 = M 72 := jk_n (by decide) (by decide)
    refine c_X7_fits (by omega) ⟨⟨rfl, by rw [jk60]; exact hR.im, by unfold ZM; rw [j71]; exact hR.zm⟩, ?_⟩
    rw [sfG_n jk60 j70 j71, if_pos h0, ct, ci, j71, em', cm]
    intro a' c'
    refine ⟨congrArg Value.int (cnt_congr 100 0 0 (fun v hv => ?_)), (hR.ag (ag_jk (a := a) (b := b))).ag (ag_jf (a := a') (c := c'))⟩
    rw [fitC_n jk60 j72]
    exact (hR.fit ht hi hm).symm
  · rw [if_neg h0]
    rw [hR.sf] at h0 ⊢
    refine c_X7_fits (by omega) ⟨⟨rfl, by rw [tl_n (by decide)]; exact hR.im, ZM_t hR.zm⟩, ?_⟩
    rw [sfG_n (tl_n (by decide)) (tl_n (by decide)) (tl_n (by decide)), if_neg h0]
    exact ⟨rfl, hR.tell (sf_c h0)⟩
theorem cmd_gait {M : Mem} (hR : RM M) {s w : Int32} : CallP 20 83 [.ref 0, .int s, .int w] M (fun x N => CallP 20 194 [.ref 59, .int s, .int w] N (fun y K => y = x ∧ RM K)) := by
  refine c_X6_gait (by omega) ⟨⟨rfl, hR.zv⟩, ?_⟩
  by_cases h0 : sfF M s w = 0
  · rw [if_pos h0]
    rw [hR.sf] at h0
    obtain ⟨hs, hw, h12⟩ := sg0 h0
    obtain ⟨t, ht, rfl⟩ := s4_n hs
    obtain ⟨i, hi, rfl⟩ := has_n hw
    have ct : (nI t).toNatClampNeg = t := nI_clamp (by omega)
    have ci : (nI i).toNatClampNeg = i := nI_clamp (by omega)
    rw [ct] at h12
    obtain ⟨m, hm, em'⟩ := zm12 hR.zm ht h12
    have em : M 57 t = nI m := by rw [(hR.2.2.2.2.1.1 t ht).2.1]; exact em'
    have cm : (nI m).toNatClampNeg = m := nI_clamp (by omega)
    rw [ct, ci, em, cm]
    intro a b
    have hj : RM (jk M a b) := hR.ag ag_jk
    have j70 : jk M a b 70 = M 70 := jk_n (by decide) (by decide)
    have j71 : jk M a b 71 = M 71 := jk_n (by decide) (by decide)
    have j72 : jk M a b 72 = M 72 := jk_n (by decide) (by decide)
    have e : lstF (fun g => telB (M (52 + t)) (xwg M i (nI g)).2.2 m 0 = true) 100 0 = lstF (fitC M t i m) 100 0 := lst_congr 100 0 (fun v hv => hR.fit ht hi hm)
    by_cases hn : lstF (fun g => telB (M (52 + t)) (xwg M i (nI g)).2.2 m 0 = true) 100 0 = -1
    · rw [if_pos hn]
      rw [e] at hn
      have t60 : tellM (jk M a b) 3 60 = M 60 := by rw [tl_n (by decide), jk60]
      have t70 : tellM (jk M a b) 3 70 = M 70 := by rw [tl_n (by decide), j70]
      have t71 : tellM (jk M a b) 3 71 = M 71 := by rw [tl_n (by decide), j71]
      have t72 : tellM (jk M a b) 3 72 = M 72 := by rw [tl_n (by decide), j72]
      refine c_X7_gait (by omega) ⟨⟨rfl, by rw [t60]; exact hR.im, by unfold ZM; rw [t71]; exact hR.zm⟩, ?_⟩
      rw [sfG_n t60 t70 t71, if_pos h0, ct, ci, t71, em', cm]
      intro a' c'
      have e2 : lstF (fitC (tellM (jk M a b) 3) t i m) 100 0 = lstF (fitC M t i m) 100 0 := lst_congr 100 0 (fun v hv => by rw [fitC_n t60 t72])
      rw [if_pos (by rw [e2]; exact hn)]
      exact ⟨rfl, (hj.tell (c := 3) (by decide)).ag (ag_jf.fnd)⟩
    · rw [if_neg hn]
      rw [e] at hn ⊢
      refine c_X7_gait (by omega) ⟨⟨rfl, by rw [jk60]; exact hR.im, by unfold ZM; rw [j71]; exact hR.zm⟩, ?_⟩
      rw [sfG_n jk60 j70 j71, if_pos h0, ct, ci, j71, em', cm]
      intro a' c'
      have e2 : lstF (fitC (jk M a b) t i m) 100 0 = lstF (fitC M t i m) 100 0 := lst_congr 100 0 (fun v hv => by rw [fitC_n jk60 j72])
      rw [if_neg (by rw [e2]; exact hn)]
      exact ⟨by rw [e2], hj.ag ag_jf⟩
  · rw [if_neg h0]
    rw [hR.sf] at h0 ⊢
    refine c_X7_gait (by omega) ⟨⟨rfl, by rw [tl_n (by decide)]; exact hR.im, ZM_t hR.zm⟩, ?_⟩
    rw [sfG_n (tl_n (by decide)) (tl_n (by decide)) (tl_n (by decide)), if_neg h0]
    exact ⟨rfl, hR.tell (sf_c h0)⟩
theorem cmd_who {M : Mem} (hR : RM M) {s : Int32} : CallP 20 84 [.ref 0, .int s] M (fun x N => CallP 20 195 [.ref 59, .int s] N (fun y K => y = x ∧ RM K)) := by
  refine c_X6_who (by omega) ⟨⟨rfl, hR.zv, hR.iv⟩, ?_⟩
  by_cases h0 : fdF M s = 0
  · rw [if_pos h0]
    rw [hR.fd] at h0
    obtain ⟨t, ht, rfl⟩ := s4_n (fg0 h0).1
    have ct : (nI t).toNatClampNeg = t := nI_clamp (by omega)
    have e57 := (hR.2.2.2.2.1.1 t ht).2.1
    rw [ct, e57]
    by_cases h12 : M 71 t ≤ 12
    · rw [if_pos h12]
      obtain ⟨m, hm, em'⟩ := zm12 hR.zm ht h12
      have cm : (nI m).toNatClampNeg = m := nI_clamp (by omega)
      obtain ⟨q, hq, e1, e2⟩ := hR.cn
      have cq : (nI q).toNatClampNeg = q := nI_clamp (by omega)
      intro a b
      have j71 : jk M a b 71 = M 71 := jk_n (by decide) (by decide)
      have ef : fdG (jk M a b) (nI t) = 0 := by
        unfold fdG at h0 ⊢
        rw [jk_n (by decide) (by decide)]
        exact h0
      have esh : shR (jk M a b) t = shR M t := by
        unfold shR
        rw [jk_n (by decide) (by decide)]
      refine c_X7_who (by omega) ⟨⟨rfl, by rw [jk60]; exact hR.im, by unfold ZM; rw [j71]; exact hR.zm⟩, ?_⟩
      rw [if_pos ef, ct, j71, if_pos h12, jk60, esh]
      intro a'
      have hz := (hR.ag (ag_jk (a := a) (b := b))).ag (ag_j2 (a := a'))
      rw [jk60] at hz
      refine ⟨?_, hz⟩
      rw [em', cm, e1, e2, cq]
      refine congrArg Value.int (st_congr q 0 0 (fun i hi => ?_)).symm
      rw [tel_congr hm (f := M (52 + t)) (g := shR M t) (s := plr (crr (M 60) i)) (hR.2.2.2.2.1.1 t ht).2.2 (fun j hj => ?_) m 0 (by omega)]
      show _ = crr (M 60) i (14 + j)
      rw [crr_p hj]
      exact (hR.cx (show i < 6 by omega)).2.2 j hj
    · rw [if_neg h12]
      refine c_X7_who (by omega) ⟨⟨rfl, by rw [tl_n (by decide)]; exact hR.im, ZM_t hR.zm⟩, ?_⟩
      rw [fdG_t, if_pos h0, ct, tl_n (by decide), if_neg h12]
      exact ⟨rfl, hR.tell (by decide)⟩
  · rw [if_neg h0]
    rw [hR.fd] at h0 ⊢
    refine c_X7_who (by omega) ⟨⟨rfl, by rw [tl_n (by decide)]; exact hR.im, ZM_t hR.zm⟩, ?_⟩
    rw [fdG_t, if_neg h0]
    exact ⟨rfl, hR.tell (fd_c h0)⟩
