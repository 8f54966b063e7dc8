/-! the way past: its length, its stops -/
def btw (x a b : Int32) : Bool := decide (¬ x < a ∧ ¬ b < x)
theorem btw_c (x a b : Int32) : f_X4_isBetween x a b = some (b2i (btw x a b)) := by
  unfold f_X4_isBetween btw
  by_cases h1 : x < a <;> by_cases h2 : b < x <;> simp [h1, h2, b2i, Int32.not_le, Int32.not_lt] <;> simp_all [Int32.not_lt, Int32.lt_irrefl, Int32.not_le]
theorem fnd_lt {r a b : Nat} {fr to : Nat → Nat} : fnd r fr to a b < r ↔ ∃ q, q < r ∧ fr q = a ∧ to q = b := by
  constructor
  · intro h
    have h1 := fiF_at (isR fr to a b) r 0 (by unfold fnd at h; omega)
    refine ⟨fnd r fr to a b, h, ?_⟩
    simpa [isR, fnd] using h1
  · rintro ⟨q, h1, h2⟩
    apply Nat.lt_of_not_le
    intro h
    have h3 := fiF_no (isR fr to a b) r 0 q (by omega) (by unfold fnd at h; omega)
    simp [isR, h2] at h3
theorem tgt_bit {r a x : Nat} {fr to : Nat → Nat} : (tgt r fr to a).testBit x = true ↔ ∃ q, q < r ∧ fr q = a ∧ to q = x := by
  unfold tgt
  rw [onF_bit]
  constructor
  · rintro ⟨q, h1, h2, h3⟩
    rw [pow_bit] at h2
    have h4 : a = fr q := by simpa using h2
    exact ⟨q, h1, h4.symm, h3⟩
  · rintro ⟨q, h1, h2, h3⟩
    exact ⟨q, h1, by rw [pow_bit, h2]; simp, h3⟩
theorem low_lt {n S x : Nat} (hx : x < n) (h : S.testBit x = true) : low n S < n ∧ S.testBit (low n S) = true ∧ ∀ y, y < low n S → S.testBit y = false := by
  have h1 : low n S < n := by
    apply Nat.lt_of_not_le
    intro q
    have := fiF_no (fun t => S.testBit t) n 0 x (by omega) (by unfold low at q; omega)
    rw [h] at this
    cases this
  exact ⟨h1, fiF_at (fun t => S.testBit t) n 0 (by unfold low at h1; omega), fun y hy => fiF_no (fun t => S.testBit t) n 0 y (by omega) hy⟩
theorem far6 {n r t o : Nat} {fr to : Nat → Nat} (hn : n ≤ 6) (ht : t < n) : farI r fr to o t 6 6 = wpI r fr to o t ∧ (wpJ r fr to o t < 6 → fa r fr to o t 6 6 = wpJ r fr to o t + 1) := by
  have hz : (aw r fr to o t 0).testBit 6 = false := by
    rw [aw, pow_bit]
    simp; omega
  have hle := fiF_le (wpB r fr to o t) 6 0
  by_cases h : wpJ r fr to o t < 6
  · have h1 : (aw r fr to o t (wpJ r fr to o t + 1)).testBit 6 = true := fiF_at (wpB r fr to o t) 6 0 (by unfold wpJ at h; omega)
    have h2 : fa r fr to o t 6 6 = wpJ r fr to o t + 1 := by
      refine fa_is (by omega) h1 (fun u hu => ?_)
      cases u with
      | zero => exact hz
      | succ u => exact fiF_no (wpB r fr to o t) 6 0 u (by omega) (by unfold wpJ at hu; omega)
    refine ⟨?_, fun _ => h2⟩
    unfold farI wpI
    rw [h2, if_pos (by omega), if_pos h]
  · refine ⟨?_, fun q => absurd q h⟩
    have h2 : fa r fr to o t 6 6 = 7 := by
      refine fa_none (fun u hu => ?_)
      cases u with
      | zero => exact hz
      | succ u => exact fiF_no (wpB r fr to o t) 6 0 u (by omega) (by unfold wpJ at h; omega)
    unfold farI wpI
    rw [h2, if_neg (by omega), if_neg h]
theorem nxt_all {n r t o is l : Nat} {fr to : Nat → Nat} (hw : Web n r fr to) (ho : o ≤ 6) (hto : t ≠ o) (his : is ≤ 6) (hio : is ≠ o) (hl : l < 6) (hf : fa r fr to o t 6 is = l + 1) : nxt n r fr to o t is l < n ∧ (tgt r fr to is).testBit (nxt n r fr to o t is l) = true ∧ fa r fr to o t 6 (nxt n r fr to o t is l) = l ∧ nxt n r fr to o t is l ≠ o ∧ ∀ y, y < nxt n r fr to o t is l → (tgt r fr to is).testBit y = true → ¬ fa r fr to o t 6 y = l := by
  have hb := hw.bd
  have h1 := fa_at (d := 6) (x := is) (r := r) (fr := fr) (to := to) (o := o) (t := t) (by omega)
  rw [hf] at h1
  obtain ⟨⟨q, hq, h2, h3⟩, -⟩ := (aw_bit his).mp h1
  have htq := (hw.2.2 q hq).2
  have h4 : (tgt r fr to is &&& aw r fr to o t l).testBit (to q) = true := by
    rw [Nat.testBit_and, tgt_bit.mpr ⟨q, hq, h3, rfl⟩, h2]; rfl
  obtain ⟨h5, h6, h7⟩ := low_lt htq h4
  have hlow : low n (tgt r fr to is &&& aw r fr to o t l) = nxt n r fr to o t is l := rfl
  rw [hlow] at h5 h6 h7
  rw [Nat.testBit_and, Bool.and_eq_true] at h6
  refine ⟨h5, h6.1, ?_, ?_, fun y hy hyt hyl => ?_⟩
  · refine fa_is (by omega) h6.2 (fun u hu => ?_)
    rw [← Bool.not_eq_true]
    intro hu1
    obtain ⟨q', hq', h8, h9⟩ := tgt_bit.mp h6.1
    have h10 : (aw r fr to o t (u + 1)).testBit is = true := (aw_bit his).mpr ⟨⟨q', hq', by rw [h9]; exact hu1, h8⟩, hio⟩
    have := fa_up (d := 6) h10
    omega
  · intro e
    have h8 := h6.2
    rw [e, aw_o ho hto] at h8
    cases h8
  · have h8 := h7 y hy
    have h9 := fa_at (d := 6) (x := y) (r := r) (fr := fr) (to := to) (o := o) (t := t) (by omega)
    rw [hyl] at h9
    rw [Nat.testBit_and, hyt, h9] at h8
    cases h8
theorem stop_all {n r t o m : Nat} {fr to : Nat → Nat} (hw : Web n r fr to) (ho : o ≤ 6) (h6o : o ≠ 6) (hto : t ≠ o) (hm : m ≤ 6) (hf : fa r fr to o t 6 6 = m) : ∀ i, i ≤ m → stop n r fr to o t m i ≤ 6 ∧ stop n r fr to o t m i ≠ o ∧ fa r fr to o t 6 (stop n r fr to o t m i) = m - i
  | 0, _ => ⟨Nat.le_refl 6, Ne.symm h6o, hf⟩
  | i + 1, hi => by
    obtain ⟨h1, h2, h3⟩ := stop_all hw ho h6o hto hm hf i (by omega)
    obtain ⟨h4, -, h5, h6, -⟩ := nxt_all (l := m - (i + 1)) hw ho hto h1 h2 (by omega) (by rw [h3]; omega)
    have hn := hw.1
    exact ⟨by rw [stop]; omega, h6, h5⟩
def pasI (n r : Nat) (fr to : Nat → Nat) (o t j : Nat) : Int32 := if wpJ r fr to o t < 6 ∧ j < wpJ r fr to o t + 1 then nI (stop n r fr to o t (wpJ r fr to o t + 1) (j + 1)) else -(nI 9)
theorem wpJ_le {r t o : Nat} {fr to : Nat → Nat} : wpJ r fr to o t ≤ 6 := by
  have := fiF_le (wpB r fr to o t) 6 0
  unfold wpJ; omega
theorem wp_6 {r t : Nat} {fr to : Nat → Nat} : ¬ wpJ r fr to 6 t < 6 := by
  intro h
  have h1 : (aw r fr to 6 t (wpJ r fr to 6 t + 1)).testBit 6 = true := fiF_at (wpB r fr to 6 t) 6 0 (by unfold wpJ at h; omega)
  rw [aw_bit (by omega)] at h1
  exact h1.2 rfl
theorem ltm9 {k : Nat} (hk : k < 2147483648) : ¬ nI k < -(nI 9) := by
  intro h
  have h1 := Int32.lt_iff_toInt_lt.mp h
  rw [nI_toInt (by omega)] at h1
  have h2 : (-(nI 9) : Int32).toInt = -9 := by decide
  omega
theorem m1lt {m : Nat} (hm : m < 2147483648) : -(nI 1) < nI m := by
  apply Int32.lt_iff_toInt_lt.mpr
  rw [nI_toInt (by omega)]
  have h2 : (-(nI 1) : Int32).toInt = -1 := by decide
  omega
theorem nI_m1 {a : Nat} (h : 1 ≤ a) : nI a + -(nI 1) = nI (a - 1) := by
  obtain ⟨b, rfl⟩ : ∃ b, a = b + 1 := ⟨a - 1, by omega⟩
  exact pk_m1 b
theorem stopOf_c {n r t j : Nat} {ow fr to : Nat → Nat} {a f g : Nat → Int32} (A : Nat → Int32) (hw : Web n r fr to) (ha : RI n ow a) (hf : RI r fr f) (hg : RI r to g) (ho : ow t ≤ 6) (hto : t ≠ ow t) (ht : t < n) (hj : j ≤ 5) : ∃ B, f_X3_stopOfWayPast (nI n) (nI r) a f g A (nI t) (nI j) = some (pasI n r fr to (ow t) t j, B) := by
  have hb := hw.bd
  have hn := hw.1
  have hr := hw.2.1
  obtain ⟨B, h1, h2⟩ := findWayPast_c A hw ha hf hg ho ht
  refine ⟨B, ?_⟩
  unfold f_X3_stopOfWayPast pasI
  rw [h1, ob2_s]
  have hJ := wpJ_le (r := r) (fr := fr) (to := to) (o := ow t) (t := t)
  unfold wpI
  by_cases h : wpJ r fr to (ow t) t < 6
  · have h2 := h2 h
    have h6o : ow t ≠ 6 := fun e => by rw [e] at h; exact wp_6 h
    obtain ⟨-, hfa⟩ := far6 (r := r) (fr := fr) (to := to) (o := ow t) hn ht
    have hfa := hfa h
    generalize wpJ r fr to (ow t) t = J at h hfa h2 hJ ⊢
    rw [if_pos h]
    simp (disch := omega) only [L0, ifltF]
    by_cases hk : j < J + 1
    · simp (disch := omega) only [ifltT, if_pos (show J < 6 ∧ j < J + 1 from ⟨h, hk⟩)]
      have st := stop_all hw ho h6o hto (show J + 1 ≤ 6 by omega) hfa
      have e1 : it (u2 (L_X3_stopOfWayPast_27 (nI n) (nI r) f g (nI j) (nI (J + 1)) B)) FUEL (nI 6, nI (J + 1) - nI 1) = some (nI (stop n r fr to (ow t) t (J + 1) (j + 1))) := by
        rw [nI_sb (by omega)]
        refine it_for (body := u2 (L_X3_stopOfWayPast_27 (nI n) (nI r) f g (nI j) (nI (J + 1)) B)) (fun i => (nI (stop n r fr to (ow t) t (J + 1) i), if i < J + 1 then nI (J + 1 - 1 - i) else -(nI 1))) (j + 1) _ (fun i hi => ?_) ?_ FUEL (FUEL_gt (by omega))
        · show L_X3_stopOfWayPast_27 (nI n) (nI r) f g (nI j) (nI (J + 1)) B (nI (stop n r fr to (ow t) t (J + 1) i)) (if i < J + 1 then nI (J + 1 - 1 - i) else -(nI 1)) = some (.inl (nI (stop n r fr to (ow t) t (J + 1) (i + 1)), if i + 1 < J + 1 then nI (J + 1 - 1 - (i + 1)) else -(nI 1)))
          rw [if_pos (by omega)]
          obtain ⟨s1, s2, s3⟩ := st i (by omega)
          obtain ⟨x1, x2, x3, x4, x5⟩ := nxt_all (l := J + 1 - (i + 1)) hw ho hto s1 s2 (by omega) (by rw [s3]; omega)
          have hB := h2 (J + 1 - 1 - i) (by omega)
          have hal := aw_lt (r := r) (fr := fr) (to := to) (o := ow t) hb (show t ≤ 6 by omega) (J + 1 - 1 - i)
          have htl : tgt r fr to (stop n r fr to (ow t) t (J + 1) i) < 128 := onF_lt r (fun q hq => by have := hb q hq; omega)
          have han : tgt r fr to (stop n r fr to (ow t) t (J + 1) i) &&& aw r fr to (ow t) t (J + 1 - 1 - i) < 128 := Nat.lt_of_le_of_lt Nat.and_le_left htl
          have hnx : low n (tgt r fr to (stop n r fr to (ow t) t (J + 1) i) &&& aw r fr to (ow t) t (J + 1 - 1 - i)) = stop n r fr to (ow t) t (J + 1) (i + 1) := by
            rw [stop, nxt, show J + 1 - 1 - i = J + 1 - (i + 1) by omega]
          have hand : ∀ a b : Nat, nI a &&& nI b = nI (a &&& b) := by
            intro a b
            apply Int32.toBitVec_inj.mp
            apply BitVec.eq_of_getLsbD_eq
            intro k hk
            simp [nI, Int32.toBitVec_and, Int32.toBitVec_ofNat', BitVec.getLsbD_ofNat, hk]
          have hlt : stop n r fr to (ow t) t (J + 1) (i + 1) < n := x1
          unfold L_X3_stopOfWayPast_27
          rw [targetsOf_c hr hf hg hb s1]
          simp (disch := omega) only [L1, nI_sb, ifltF, ob1_s, L0, cl_nI, ifgd2, hB, hand, lowestOf_c, hnx, if_pos hlt]
          by_cases e : i + 1 < J + 1
          · rw [if_pos e, nI_m1 (by omega)]
            rw [show J + 1 - 1 - i - 1 = J + 1 - 1 - (i + 1) by omega]
          · rw [if_neg e, show J + 1 - 1 - i = 0 by omega]
            rfl
        · show L_X3_stopOfWayPast_27 (nI n) (nI r) f g (nI j) (nI (J + 1)) B (nI (stop n r fr to (ow t) t (J + 1) (j + 1))) (if j + 1 < J + 1 then nI (J + 1 - 1 - (j + 1)) else -(nI 1)) = _
          unfold L_X3_stopOfWayPast_27
          simp (disch := omega) only [L1, nI_sb]
          by_cases e : j + 1 < J + 1
          · rw [if_pos e, ifltT (by omega) (by omega)]
          · rw [if_neg e, if_pos (m1lt (by omega))]
      have e2 : ((6 : Int32), nI (J + 1) - (1 : Int32)) = (nI 6, nI (J + 1) - nI 1) := rfl
      rw [e2, e1, ob1_s]
    · rw [ifltF (by omega) (by omega), if_neg (fun q => hk q.2)]
      rfl
  · simp (disch := omega) only [if_neg h, L0, ifltF]
    rw [if_neg (ltm9 (by omega)), if_neg (show ¬ (wpJ r fr to (ow t) t < 6 ∧ j < wpJ r fr to (ow t) t + 1) from fun q => h q.1)]
    rfl
theorem btw_15 {x : Int32} (h : btw x (-1) 5 = true) : x = -(nI 1) ∨ ∃ j, j ≤ 5 ∧ x = nI j := by
  unfold btw at h
  simp only [decide_eq_true_eq] at h
  obtain ⟨h1, h2⟩ := h
  by_cases h0 : x < 0
  · left
    have a1 := Int32.lt_iff_toInt_lt.mp h0
    have a2 : ¬ x.toInt < (-1 : Int32).toInt := fun q => h1 (Int32.lt_iff_toInt_lt.mpr q)
    have a3 : (-1 : Int32).toInt = -1 := by decide
    have a4 : (0 : Int32).toInt = 0 := by decide
    apply Int32.toInt_inj.mp
    have a5 : (-(nI 1) : Int32).toInt = -1 := by decide
    omega
  · right
    obtain ⟨j, hj, rfl⟩ := nI_of h0
    refine ⟨j, ?_, rfl⟩
    apply Nat.le_of_not_lt
    intro q
    exact h2 (show (5 : Int32) < nI j from nI_lt (a := 5) q hj)
