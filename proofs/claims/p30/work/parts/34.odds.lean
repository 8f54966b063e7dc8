/-! ODDS -/
def gdF (n r : Nat) (ow fr to : Nat → Nat) : Nat → Nat
  | 0 => 0
  | i + 1 => gdF n r ow fr to i + (if notL n (r - 1) ow (cutA i fr) (cutA i to) = 0 then 1 else 0)
theorem gdF_le {n r : Nat} {ow fr to : Nat → Nat} : ∀ i, gdF n r ow fr to i ≤ i
  | 0 => Nat.le_refl 0
  | i + 1 => by
    have := gdF_le (n := n) (r := r) (ow := ow) (fr := fr) (to := to) i
    rw [gdF]
    split <;> omega
theorem Web_cut {n r i : Nat} {fr to : Nat → Nat} (h : Web n r fr to) (hi : i < r) : Web n (r - 1) (cutA i fr) (cutA i to) := by
  refine ⟨h.1, by have := h.2.1; omega, fun q hq => ?_⟩
  unfold cutA
  by_cases e : q < i
  · simp only [if_pos e]; exact h.2.2 q (by omega)
  · simp only [if_neg e]; exact h.2.2 (q + 1) (by omega)
theorem gcd_d : ∀ r, r < 13 → ∀ g, g < 13 → 0 < r → g ≤ r → f_X4_commonDivisor (nI r) (nI g) = some (nI (Nat.gcd r g)) := by decide +kernel
theorem gcd_b : ∀ r, r < 13 → ∀ g, g < 13 → 0 < r → g ≤ r → 0 < Nat.gcd r g ∧ Nat.gcd r g ≤ 12 := by decide +kernel
section ODDS
variable {n r c : Nat} {kd ow fr to on ot le : Nat → Nat} {c1 r1 c2 r2 e1 e2 : Int32} {k1 a1 f1 g1 k2 a2 f2 g2 o1 p1 l1 o2 p2 l2 : Nat → Int32}
end ODDS
