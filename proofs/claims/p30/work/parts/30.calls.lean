/-! THE CALLS: what both sides share, and the calls that change nothing of it -/
def AD (n r : Nat) (kd ow fr to : Nat → Nat) : Prop := Web n r fr to ∧ (∀ t, t < n → kd t ≤ 2 ∧ (ow t < n ∨ ow t = 6)) ∧ (∀ t, n ≤ t → ow t = 6) ∧ AC n ow
def WR (n r : Nat) (kd ow fr to : Nat → Nat) (cnt refs : Int32) (k a f g : Nat → Int32) : Prop := cnt = nI n ∧ refs = nI r ∧ RI n kd k ∧ RI n ow a ∧ RI r fr f ∧ RI r to g
theorem AC_ne {n t : Nat} {ow : Nat → Nat} (hn : n ≤ 6) (hc : AC n ow) (ht : t < n) : t ≠ ow t := by
  intro e
  obtain ⟨d, hd⟩ := hc t ht
  cases d with
  | zero =>
    have : t = 6 := hd
    omega
  | succ d =>
    have h1 := hd.2
    rw [← e] at h1
    have := Ch_one hn d (d + 1) t h1 hd
    omega
theorem oneIf_b (b : Bool) : f_X4_oneIf (b2i b) = some (b2i b) := by cases b <;> rfl
theorem bb (b : Bool) : (if b2i b = 0 then some (0 : Int32) else some 1) = some (b2i b) := by cases b <;> rfl
theorem size_c (x : Int32) : f_X3_size x = some x := rfl
theorem hmr_c (x : Int32) : f_X3_howManyReferences x = some x := rfl
theorem rsize_c (x : Int32) : f_X0_size x = some x := rfl
section CALLS
variable {n r : Nat} {kd ow fr to : Nat → Nat} {c1 r1 c2 r2 : Int32} {k1 a1 f1 g1 k2 a2 f2 g2 : Nat → Int32}
theorem AD.kd2 (h : AD n r kd ow fr to) : ∀ t, t < n → kd t ≤ 2 := fun t ht => (h.2.1 t ht).1
theorem AD.ow2 (h : AD n r kd ow fr to) : ∀ t, t < n → ow t < n ∨ ow t = 6 := fun t ht => (h.2.1 t ht).2
theorem AD.ow6 (h : AD n r kd ow fr to) : ∀ t, t < n → ow t ≤ 6 := fun t ht => by
  have := h.ow2 t ht
  have := h.1.1
  omega
theorem fndI_none {a b : Nat} : fndI r fr to a b = -(nI 9) ∨ ∃ q, q < r ∧ fndI r fr to a b = nI q := by
  unfold fndI
  by_cases h : fnd r fr to a b < r
  · rw [if_pos h]; exact Or.inr ⟨_, h, rfl⟩
  · rw [if_neg h]; exact Or.inl rfl
end CALLS
