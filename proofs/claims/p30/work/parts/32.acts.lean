/-! refer, own, hand; one act of a day -/
section ACTS
variable {n r : Nat} {kd ow fr to : Nat → Nat} {k1 a1 f1 g1 k2 a2 f2 g2 : Nat → Int32}
def vr (n : Nat) (x y : Int32) : Bool := isW n x && (isT n y && !decide (x = y))
def vo (n : Nat) (x y : Int32) : Bool := isT n x && (isW n y && !decide (x = y))
def vh (n : Nat) (x y : Int32) : Bool := isT n x && (isT n y && !decide (x = y))
theorem vr_ex {x y : Int32} (hn : n ≤ 6) (h : vr n x y = true) : ∃ a b, (a < n ∨ a = 6) ∧ b < n ∧ a ≠ b ∧ x = nI a ∧ y = nI b := by
  simp [vr] at h
  obtain ⟨h1, h2, h3⟩ := h
  obtain ⟨a, ha, rfl⟩ := isW_ex hn h1
  obtain ⟨b, hb, rfl⟩ := isT_ex hn h2
  exact ⟨a, b, ha, hb, fun e => h3 (by rw [e]), rfl, rfl⟩
theorem vo_ex {x y : Int32} (hn : n ≤ 6) (h : vo n x y = true) : ∃ a b, a < n ∧ (b < n ∨ b = 6) ∧ b ≠ a ∧ x = nI a ∧ y = nI b := by
  simp [vo] at h
  obtain ⟨h1, h2, h3⟩ := h
  obtain ⟨a, ha, rfl⟩ := isT_ex hn h1
  obtain ⟨b, hb, rfl⟩ := isW_ex hn h2
  exact ⟨a, b, ha, hb, fun e => h3 (by rw [e]), rfl, rfl⟩
theorem vh_ex {x y : Int32} (hn : n ≤ 6) (h : vh n x y = true) : ∃ a b, a < n ∧ b < n ∧ a ≠ b ∧ x = nI a ∧ y = nI b := by
  simp [vh] at h
  obtain ⟨h1, h2, h3⟩ := h
  obtain ⟨a, ha, rfl⟩ := isT_ex hn h1
  obtain ⟨b, hb, rfl⟩ := isT_ex hn h2
  exact ⟨a, b, ha, hb, fun e => h3 (by rw [e]), rfl, rfl⟩
theorem makeOrCut_bad {x y : Int32} (hn : n ≤ 6) (h : vr n x y = false) (f g : Nat → Int32) (R : Int32) : f_X3_makeOrCut (nI n) R f g x y = some (-1, R, f, g) := by
  unfold f_X3_makeOrCut
  rw [isW_c n hn, isThing_c, ob1_s, ob1_s]
  by_cases h1 : isW n x = true
  · rw [h1, bT]
    by_cases h2 : isT n y = true
    · rw [h2, bT]
      have h3 : x = y := by simpa [vr, h1, h2] using h
      rw [if_pos h3]
    · rw [Bool.not_eq_true] at h2
      rw [h2, bF]
  · rw [Bool.not_eq_true] at h1
    rw [h1, bF]
theorem changeOwner_bad {x y : Int32} (hn : n ≤ 6) (h : vo n x y = false) (a : Nat → Int32) : f_X3_changeOwner (nI n) a x y = some (-1, a) := by
  unfold f_X3_changeOwner
  rw [isW_c n hn, isThing_c, ob1_s, ob1_s]
  by_cases h1 : isT n x = true
  · rw [h1, bT]
    by_cases h2 : isW n y = true
    · rw [h2, bT]
      have h3 : x = y := by simpa [vo, h1, h2] using h
      rw [if_pos h3]
    · rw [Bool.not_eq_true] at h2
      rw [h2, bF]
  · rw [Bool.not_eq_true] at h1
    rw [h1, bF]
theorem handOn_bad {x y : Int32} (h : vh n x y = false) (a f g : Nat → Int32) (R : Int32) : f_X3_handOn (nI n) R a f g x y = some (-1, a, f) := by
  unfold f_X3_handOn
  rw [isThing_c, isThing_c, ob1_s, ob1_s]
  by_cases h1 : isT n x = true
  · rw [h1, bT]
    by_cases h2 : isT n y = true
    · rw [h2, bT]
      have h3 : x = y := by simpa [vh, h1, h2] using h
      rw [if_pos h3]
    · rw [Bool.not_eq_true] at h2
      rw [h2, bF]
  · rw [Bool.not_eq_true] at h1
    rw [h1, bF]
theorem AD_refer {a b r' : Nat} {fr' to' : Nat → Nat} (h : AD n r kd ow fr to) (ha : a < n ∨ a = 6) (hb : b < n) (hs : rfS r fr to a b = some (r', fr', to')) : AD n r' kd ow fr' to' := ⟨rfS_web h.1 ha hb hs, h.2⟩
theorem AD_hand {t x q : Nat} (h : AD n r kd ow fr to) (ht : t < n) (hx : x < n) (htx : t ≠ x) (hs : hdS r ow fr to t x = some q) : AD n r kd (upN ow t x) (upN fr q x) to := by
  obtain ⟨h1, h2⟩ := hdS_lt hs
  have h3 := AD_own h ht (Or.inl hx) (Ne.symm htx) h2
  refine ⟨⟨h.1.1, h.1.2.1, fun q' hq' => ?_⟩, h3.2⟩
  have h4 := h.1.2.2 q' hq'
  refine ⟨?_, h4.2⟩
  unfold upN
  by_cases e : q' = q
  · rw [if_pos e]; exact Or.inl hx
  · rw [if_neg e]; exact h4.1
theorem neg1lt : (-1 : Int32) < 0 := by decide
theorem neg3lt : -(nI 3) < (0 : Int32) := by decide
theorem neg4lt : -(nI 4) < (0 : Int32) := by decide
end ACTS
