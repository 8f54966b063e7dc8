/-! reached, who stands before, lawful, nearest, closed -/
def rcB (r : Nat) (fr to : Nat → Nat) (out : Nat) : Nat := clr (led r fr to 6 out) 6
def rch (r : Nat) (fr to : Nat → Nat) : Nat := rcB r fr to 7
theorem c65_d : ∀ S, S < 128 → nI S &&& (-65 : Int32) = nI (clr S 6) := by decide +kernel
theorem c65 {S : Nat} (h : S < 128) : nI S &&& (-65 : Int32) = nI (clr S 6) := c65_d S h
theorem rcB_lt {r out : Nat} {fr to : Nat → Nat} (hb : Bd r fr to) : rcB r fr to out < 128 := clr_lt (led_lt hb (by omega))
theorem noneI : ∀ k, k ≤ 6 → (nI k = -(nI 9) ↔ k = 7) := fun k hk => ⟨fun q => absurd q (nI_neg_ne (by omega) (by omega) (by omega)), fun q => by omega⟩
theorem someI {o : Nat} (ho : o ≤ 6) : ∀ k, k ≤ 6 → (nI k = nI o ↔ k = o) := fun k hk => nI_eq (by omega) (by omega)
theorem reached_c {r : Nat} {fr to : Nat → Nat} {f g : Nat → Int32} (hr : r ≤ 12) (hf : RI r fr f) (hg : RI r to g) (hb : Bd r fr to) : f_X3_reached (nI r) f g = some (nI (rch r fr to)) := by
  unfold f_X3_reached rch rcB
  have := led_lt (start := 6) (out := 7) hb (by omega)
  rw [show f_X3_ledTo (nI r) f g (6 : Int32) (7 : Int32) = some (nI (led r fr to 6 7)) from ledTo_c (start := 6) (out := 7) hr hf hg hb (by omega) (by omega)]
  simp (disch := omega) only [L6, ob1_s, bit_ee, L1, clr_e]
theorem rcB_bit {r out t : Nat} {fr to : Nat → Nat} (ht : t < 6) : (rcB r fr to out).testBit t = (led r fr to 6 out).testBit t := by
  rw [rcB, clr_bit (by omega)]
  simp; omega
def sbF (n r : Nat) (fr to : Nat → Nat) (t : Nat) : Nat → Nat
  | 0 => 0
  | x + 1 => if (decide (x < n) || decide (x = 6)) && !(led r fr to 6 x).testBit t then sbF n r fr to t x ||| 2 ^ x else sbF n r fr to t x
theorem sbF_lt {n r t : Nat} {fr to : Nat → Nat} : ∀ x, x ≤ 7 → sbF n r fr to t x < 128
  | 0, _ => by rw [sbF]; decide
  | x + 1, h => by
    have h1 := sbF_lt (n := n) (r := r) (fr := fr) (to := to) (t := t) x (by omega)
    rw [sbF]
    split
    · exact or_lt h1 (two_lt (by omega))
    · exact h1
theorem sbF_bit {n r t k : Nat} {fr to : Nat → Nat} : ∀ x, (sbF n r fr to t x).testBit k = true ↔ k < x ∧ (k < n ∨ k = 6) ∧ (led r fr to 6 k).testBit t = false
  | 0 => by simp [sbF]
  | x + 1 => by
    have ih := sbF_bit (n := n) (r := r) (fr := fr) (to := to) (t := t) (k := k) x
    rw [sbF]
    by_cases hc : ((decide (x < n) || decide (x = 6)) && !(led r fr to 6 x).testBit t) = true
    · rw [if_pos hc, bit_or, Bool.or_eq_true, ih, decide_eq_true_eq]
      simp at hc
      constructor
      · rintro (h | h)
        · exact ⟨by omega, h.2⟩
        · subst h; exact ⟨by omega, hc⟩
      · rintro ⟨h1, h2⟩
        by_cases e : x = k
        · exact Or.inr e
        · exact Or.inl ⟨by omega, h2⟩
    · rw [if_neg hc, ih]
      simp at hc
      constructor
      · rintro ⟨h1, h2⟩
        exact ⟨by omega, h2⟩
      · rintro ⟨h1, h2, h3⟩
        by_cases e : x = k
        · subst e
          rw [hc h2] at h3
          cases h3
        · exact ⟨by omega, h2, h3⟩
def bef (n r : Nat) (fr to : Nat → Nat) (t : Nat) : Nat := if (rch r fr to).testBit t then sbF n r fr to t 7 else 0
theorem bef_lt {n r t : Nat} {fr to : Nat → Nat} : bef n r fr to t < 128 := by
  unfold bef
  split
  · exact sbF_lt 7 (by omega)
  · decide
def Web (n r : Nat) (fr to : Nat → Nat) : Prop := n ≤ 6 ∧ r ≤ 12 ∧ ∀ q, q < r → (fr q < n ∨ fr q = 6) ∧ to q < n
theorem Web.bd {n r : Nat} {fr to : Nat → Nat} (h : Web n r fr to) : Bd r fr to := fun q hq => by
  have := h.2.2 q hq
  have := h.1
  omega
theorem standBefore_c {n r t : Nat} {fr to : Nat → Nat} {f g : Nat → Int32} (hw : Web n r fr to) (hf : RI r fr f) (hg : RI r to g) (ht : t < n) : f_X3_standBefore (nI n) (nI r) f g (nI t) = some (nI (bef n r fr to t)) := by
  have hb := hw.bd
  have hn := hw.1
  have hr := hw.2.1
  have hrl := rcB_lt (out := 7) hb
  unfold f_X3_standBefore bef
  rw [reached_c hr hf hg hb, ob1_s, holds_e (show rch r fr to < 256 by unfold rch; omega) (by omega), ob1_s, L0, ifb]
  by_cases hc : (rch r fr to).testBit t = true
  · rw [if_pos hc, if_pos hc]
    rw [show it (u2 (L_X3_standBefore_17 (nI n) (nI r) f g (nI t))) FUEL (nI 0, nI 0) = some (nI (sbF n r fr to t 7)) from ?_]
    · rfl
    refine it_for (body := u2 (L_X3_standBefore_17 (nI n) (nI r) f g (nI t))) (fun i => (nI (sbF n r fr to t i), nI i)) 7 _ (fun i hi => ?_) ?_ FUEL (FUEL_gt (by omega))
    · show L_X3_standBefore_17 (nI n) (nI r) f g (nI t) (nI (sbF n r fr to t i)) (nI i) = some (.inl (nI (sbF n r fr to t (i + 1)), nI (i + 1)))
      have hll := led_lt (start := 6) (out := i) hb (by omega)
      unfold L_X3_standBefore_17
      rw [sbF, isW_c n hn, ob1_s, show f_X3_ledTo (nI r) f g (6 : Int32) (nI i) = some (nI (led r fr to 6 i)) from ledTo_c (start := 6) hr hf hg hb (by omega) (by omega), ob1_s, holds_e (by omega) (by omega), ob1_s, bit_ee (by omega), ob1_s]
      simp (disch := omega) only [L6, ifltF, L0, ifb, L1, nI_ad, nI_or]
      by_cases h1 : i < n ∨ i = 6
      · rw [isW_nI hn (by omega) h1]
        have h2 : (decide (i < n) || decide (i = 6)) = true := by simpa using h1
        rw [h2]
        cases (led r fr to 6 i).testBit t <;> rfl
      · have h2 : (decide (i < n) || decide (i = 6)) = false := by simpa using h1
        have h3 : isW n (nI i) = false := by
          rw [← Bool.not_eq_true]
          intro q
          obtain ⟨a, h4, h5⟩ := isW_ex hn q
          have := (nI_eq (by omega) (by omega)).mp h5
          omega
        rw [h2, h3]
        rfl
    · show L_X3_standBefore_17 (nI n) (nI r) f g (nI t) (nI (sbF n r fr to t 7)) (nI 7) = _
      unfold L_X3_standBefore_17
      simp (disch := omega) only [L6, ifltT]
  · rw [if_neg hc, if_neg hc]
def bfF (r : Nat) (fr to : Nat → Nat) (t : Nat) : Nat → Nat
  | 0 => 64 ||| 2 ^ t
  | x + 1 => bfF r fr to t x ||| (if (rcB r fr to x).testBit t then 0 else 2 ^ x)
theorem bfF_lt {r t : Nat} {fr to : Nat → Nat} (ht : t < 6) : ∀ x, x ≤ 7 → bfF r fr to t x < 128
  | 0, _ => by rw [bfF]; exact or_lt (by decide) (two_lt (by omega))
  | x + 1, h => by
    have h1 := bfF_lt (r := r) (fr := fr) (to := to) ht x (by omega)
    rw [bfF]
    split
    · exact or_lt h1 (by decide)
    · exact or_lt h1 (two_lt (by omega))
theorem bfF_bit {r t k : Nat} {fr to : Nat → Nat} : ∀ x, (bfF r fr to t x).testBit k = true ↔ (6 = k ∨ t = k) ∨ (k < x ∧ (rcB r fr to k).testBit t = false)
  | 0 => by
    have h64 : (64 : Nat).testBit k = decide (6 = k) := pow_bit (a := 6)
    rw [bfF, bit_or, h64]
    simp
  | x + 1 => by
    have ih := bfF_bit (r := r) (fr := fr) (to := to) (t := t) (k := k) x
    rw [bfF]
    by_cases hc : (rcB r fr to x).testBit t = true
    · rw [if_pos hc, Nat.or_zero, ih]
      constructor
      · rintro (h | h)
        · exact Or.inl h
        · exact Or.inr ⟨by omega, h.2⟩
      · rintro (h | h)
        · exact Or.inl h
        · by_cases e : k = x
          · subst e
            rw [hc] at h
            exact absurd h.2 (by decide)
          · exact Or.inr ⟨by omega, h.2⟩
    · rw [if_neg hc, bit_or, Bool.or_eq_true, ih, decide_eq_true_eq]
      rw [Bool.not_eq_true] at hc
      constructor
      · rintro ((h | h) | h)
        · exact Or.inl h
        · exact Or.inr ⟨by omega, h.2⟩
        · subst h; exact Or.inr ⟨by omega, hc⟩
      · rintro (h | h)
        · exact Or.inl (Or.inl h)
        · by_cases e : x = k
          · exact Or.inr e
          · exact Or.inl (Or.inr ⟨by omega, h.2⟩)
theorem led6_out {r o : Nat} {fr to : Nat → Nat} (h : o = 6) {t : Nat} (ht : t < 7) (hb : Bd r fr to) : (led r fr to 6 o).testBit t = false := by
  subst h
  rw [← Bool.not_eq_true]
  intro q
  have h1 := led_min (T := 0) hb (by omega) (by omega) (fun e => absurd rfl e) (fun q _ h => by simp at h) t ht q
  simp at h1
theorem bf_sb {n r t : Nat} {fr to : Nat → Nat} (hw : Web n r fr to) (ht : t < n) : bfF r fr to t n = sbF n r fr to t 7 := by
  have hn := hw.1
  have hb := hw.bd
  apply mask_ext (bfF_lt (by omega) n (by omega)) (sbF_lt 7 (by omega))
  intro k hk
  rw [Bool.eq_iff_iff, bfF_bit, sbF_bit]
  constructor
  · rintro ((h | h) | h)
    · exact ⟨hk, Or.inr h.symm, led6_out h.symm (by omega) hb⟩
    · subst h
      exact ⟨hk, Or.inl ht, led_out (by omega)⟩
    · rw [rcB_bit (by omega)] at h
      exact ⟨hk, Or.inl h.1, h.2⟩
  · rintro ⟨_, h1 | h1, h2⟩
    · exact Or.inr ⟨h1, by rw [rcB_bit (by omega)]; exact h2⟩
    · exact Or.inl (Or.inl h1.symm)
def law1 (r : Nat) (ow fr to : Nat → Nat) (t : Nat) : Bool := !(led r fr to 6 (ow t)).testBit t
theorem isLawful_c {n r t : Nat} {ow fr to : Nat → Nat} {a f g : Nat → Int32} (hw : Web n r fr to) (ha : RI n ow a) (hf : RI r fr f) (hg : RI r to g) (ho : ow t ≤ 6) (ht : t < n) : f_X3_isLawful (nI n) (nI r) a f g (nI t) = some (b2i (law1 r ow fr to t)) := by
  have hb := hw.bd
  have hn := hw.1
  have hr := hw.2.1
  have hl := led_lt (start := 6) (out := ow t) hb (by omega)
  unfold f_X3_isLawful law1
  rw [ownerOf_c hn ha ht, ob1_s, show f_X3_ledTo (nI r) f g (6 : Int32) (nI (ow t)) = some (nI (led r fr to 6 (ow t))) from ledTo_c (start := 6) hr hf hg hb (by omega) (by omega), ob1_s, holds_e (by omega) (by omega), ob1_s]
  simp only [L0, ifb]
  cases (led r fr to 6 (ow t)).testBit t <;> rfl
theorem led_sub7 {r o t : Nat} {fr to : Nat → Nat} (hb : Bd r fr to) (ho : o ≤ 7) (ht : t < 7) (h : (led r fr to 6 o).testBit t = true) : (led r fr to 6 7).testBit t = true := by
  refine led_min hb (by omega) ho (fun _ => led_start (by omega) (by omega)) (fun q hq h1 _ => ?_) t ht h
  exact led_cl hb (by omega) (by omega) q hq h1 (by have := hb q hq; omega)
def nlF (r : Nat) (ow fr to : Nat → Nat) : Nat → Nat
  | 0 => 0
  | t + 1 => if law1 r ow fr to t then nlF r ow fr to t else nlF r ow fr to t ||| 2 ^ t
def notL (n r : Nat) (ow fr to : Nat → Nat) : Nat := nlF r ow fr to n
theorem nlF_lt {r : Nat} {ow fr to : Nat → Nat} : ∀ t, t ≤ 7 → nlF r ow fr to t < 128
  | 0, _ => by rw [nlF]; decide
  | t + 1, h => by
    have h1 := nlF_lt (r := r) (ow := ow) (fr := fr) (to := to) t (by omega)
    rw [nlF]
    split
    · exact h1
    · exact or_lt h1 (two_lt (by omega))
theorem notLawful_c {n r : Nat} {ow fr to : Nat → Nat} {a f g : Nat → Int32} (hw : Web n r fr to) (ha : RI n ow a) (hf : RI r fr f) (hg : RI r to g) (ho : ∀ t, t < n → ow t < n ∨ ow t = 6) : f_X3_notLawful (nI n) (nI r) a f g = some (nI (notL n r ow fr to)) := by
  have hn := hw.1
  unfold f_X3_notLawful notL
  rw [show it (u2 (L_X3_notLawful_4 (nI n) (nI r) a f g)) FUEL ((0 : Int32), (0 : Int32)) = some (nI (nlF r ow fr to n)) from ?_]
  · rfl
  refine it_for (body := u2 (L_X3_notLawful_4 (nI n) (nI r) a f g)) (fun i => (nI (nlF r ow fr to i), nI i)) n _ (fun i hi => ?_) ?_ FUEL (FUEL_gt (by omega))
  · show L_X3_notLawful_4 (nI n) (nI r) a f g (nI (nlF r ow fr to i)) (nI i) = some (.inl (nI (nlF r ow fr to (i + 1)), nI (i + 1)))
    have hoi := ho i hi
    unfold L_X3_notLawful_4
    rw [nlF, isLawful_c hw ha hf hg (by omega) hi]
    simp (disch := omega) only [ifleF, ob1_s, L0, ifb, L1, nI_ad, bit_ee, nI_or]
    split <;> rfl
  · show L_X3_notLawful_4 (nI n) (nI r) a f g (nI (nlF r ow fr to n)) (nI n) = _
    unfold L_X3_notLawful_4
    simp (disch := omega) only [ifleT]
