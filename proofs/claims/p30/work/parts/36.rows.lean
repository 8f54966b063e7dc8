/-! ROWS OF A SHEET: locks, day -/
theorem it_two {σ τ ρ ρ' : Type} {b1 : σ → Option (σ ⊕ ρ)} {b2 : τ → Option (τ ⊕ ρ')} (I : Nat → σ → τ → Prop) (Q : ρ → ρ' → Prop) (N : Nat) (hs : ∀ i s t, i < N → I i s t → (∃ s' t', b1 s = some (.inl s') ∧ b2 t = some (.inl t') ∧ I (i + 1) s' t') ∨ (∃ r r', b1 s = some (.inr r) ∧ b2 t = some (.inr r') ∧ Q r r')) (he : ∀ s t, I N s t → ∃ r r', b1 s = some (.inr r) ∧ b2 t = some (.inr r') ∧ Q r r') (n : Nat) (hn : N < n) (s : σ) (t : τ) (h0 : I 0 s t) : ∃ r r', it b1 n s = some r ∧ it b2 n t = some r' ∧ Q r r' := by
  have key : ∀ k i, i + k = N → ∀ n s t, k < n → I i s t → ∃ r r', it b1 n s = some r ∧ it b2 n t = some r' ∧ Q r r' := by
    intro k
    induction k with
    | zero =>
      intro i hi n s t hn h
      obtain ⟨n', rfl⟩ : ∃ n', n = n' + 1 := ⟨n - 1, by omega⟩
      have e : i = N := by omega
      subst e
      obtain ⟨r, r', h1, h2, h3⟩ := he s t h
      exact ⟨r, r', by rw [it, h1], by rw [it, h2], h3⟩
    | succ k ih =>
      intro i hi n s t hn h
      obtain ⟨n', rfl⟩ : ∃ n', n = n' + 1 := ⟨n - 1, by omega⟩
      rcases hs i s t (by omega) h with ⟨s', t', h1, h2, h3⟩ | ⟨r, r', h1, h2, h3⟩
      · obtain ⟨r, r', h4, h5, h6⟩ := ih (i + 1) (by omega) n' s' t' (by omega) h3
        exact ⟨r, r', by rw [it, h1]; exact h4, by rw [it, h2]; exact h5, h6⟩
      · exact ⟨r, r', by rw [it, h1], by rw [it, h2], h3⟩
  exact key N 0 (by omega) n s t hn h0
theorem os2_l {A1 A2 β : Type} {a1 : A1} {a2 : A2} {f : A1 → A2 → Option β} : os2 (some (.inl (a1, a2))) f = f a1 a2 := id rfl
theorem os4_l {A1 A2 A3 A4 β : Type} {a1 : A1} {a2 : A2} {a3 : A3} {a4 : A4} {f : A1 → A2 → A3 → A4 → Option β} : os4 (some (.inl (a1, a2, a3, a4))) f = f a1 a2 a3 a4 := id rfl
theorem os4_r {A1 A2 A3 A4 β : Type} {r : β} {f : A1 → A2 → A3 → A4 → Option β} : os4 (some (.inr r)) f = some r := id rfl
theorem m9lt {m : Nat} (hm : m < 2147483648) : -(nI 9) < nI m := by
  rw [Int32.lt_iff_toInt_lt, nI_toInt (by omega)]
  have : (-(nI 9)).toInt = -9 := by decide
  omega
section ROWS
variable {n r : Nat} {kd ow fr to : Nat → Nat} {c1 r1 c2 r2 : Int32} {k1 a1 f1 g1 k2 a2 f2 g2 : Nat → Int32} {sl sn S LL C : Nat → Int32} {sc : Nat → Nat → Int32}
def prL (n : Nat) (kd ow : Nat → Nat) (V : Nat → Int32) : Nat → Nat
  | 0 => 0
  | i + 1 => lock n kd ow (V i).toNatClampNeg
end ROWS
