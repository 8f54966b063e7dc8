/-! DAY -/
theorem btw_1015 {x : Int32} (h : btw x 10 15 = true) : ∃ e, 10 ≤ e ∧ e ≤ 15 ∧ x = nI e := by
  simp only [btw, decide_eq_true_eq] at h
  obtain ⟨h1, h2⟩ := h
  rw [Int32.lt_iff_toInt_lt] at h1 h2
  have e1 : (10 : Int32).toInt = 10 := by decide
  have e2 : (15 : Int32).toInt = 15 := by decide
  rw [e1] at h1
  rw [e2] at h2
  have h3 : ¬ x < 0 := by
    rw [Int32.lt_iff_toInt_lt]
    have e3 : (0 : Int32).toInt = 0 := by decide
    rw [e3]; omega
  obtain ⟨m, hm, rfl⟩ := pos_ex h3
  rw [nI_toInt (by omega)] at h1 h2
  exact ⟨m, by omega, by omega, rfl⟩
section DAY
variable {n r : Nat} {kd ow fr to : Nat → Nat} {c1 r1 c2 r2 : Int32} {k1 a1 f1 g1 k2 a2 f2 g2 : Nat → Int32} {sl sn S LL C : Nat → Int32} {sc : Nat → Nat → Int32}
def goI (n : Nat) (kd : Nat → Nat) (i : Nat) (s t : Int32 × Int32 × (Nat → Int32) × (Nat → Int32) × (Nat → Int32)) : Prop := s.1 = nI i ∧ t.1 = nI i ∧ ∃ r ow fr to, AD n r kd ow fr to ∧ s.2.1 = nI r ∧ t.2.1 = nI r ∧ RI n ow s.2.2.1 ∧ RI r fr s.2.2.2.1 ∧ RI r to s.2.2.2.2 ∧ RI n ow t.2.2.1 ∧ RI r fr t.2.2.2.1 ∧ RI r to t.2.2.2.2
def goQ (n : Nat) (kd : Nat → Nat) (s t : (Int32 × (Nat → Int32) × (Nat → Int32) × (Nat → Int32)) ⊕ (Int32 × Int32 × (Nat → Int32) × (Nat → Int32) × (Nat → Int32))) : Prop := ∃ code r ow fr to A1 F1 G1 A2 F2 G2, AD n r kd ow fr to ∧ RI n ow A1 ∧ RI r fr F1 ∧ RI r to G1 ∧ RI n ow A2 ∧ RI r fr F2 ∧ RI r to G2 ∧ ((code = -(nI 9) ∧ s = .inl (nI r, A1, F1, G1) ∧ t = .inl (nI r, A2, F2, G2)) ∨ (s = .inr (code, nI r, A1, F1, G1) ∧ t = .inr (code, nI r, A2, F2, G2)))
theorem b2i_ne {α : Type} {ok : Bool} {X Y : α} : (if b2i ok = 0 then X else Y) = if ok = true then Y else X := by cases ok <;> rfl
theorem asked_c (x : Int32) : f_X4_isAskedOfDays x = some (b2i (btw x 0 4 || btw x 10 15)) := by
  unfold f_X4_isAskedOfDays
  rw [btw_c, ob1_s, btw_c]
  cases btw x 0 4
  · rw [bF, ob1_s]
    cases btw x 10 15 <;> rfl
  · rw [bT]; rfl
theorem btw_012 {x : Int32} (h : btw x 0 2 = true) : x = 0 ∨ x = 1 ∨ x = 2 := by
  obtain ⟨j, hj, rfl⟩ := btw_la h
  have : j = 0 ∨ j = 1 ∨ j = 2 := by omega
  rcases this with rfl | rfl | rfl
  · exact Or.inl rfl
  · exact Or.inr (Or.inl rfl)
  · exact Or.inr (Or.inr rfl)
end DAY
