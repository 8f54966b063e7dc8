/-! SHEETS -/
theorem pos_ex {x : Int32} (h : ¬ x < 0) : ∃ m, m < 2147483648 ∧ x = nI m := by
  rcases pk_ix x (n := 2147483647) (by decide) with q | q | ⟨j, h1, h2⟩
  · exact absurd q h
  · refine ⟨2147483647, by decide, ?_⟩
    apply Int32.toInt_inj.mp
    have h1 := Int32.le_iff_toInt_le.mp q
    rw [nI_toInt (by decide)] at h1 ⊢
    have h2 := Int32.toInt_lt x
    omega
  · exact ⟨j, by omega, h2⟩
theorem le_nlt {a b : Int32} : a ≤ b ↔ ¬ b < a := by
  rw [Int32.le_iff_toInt_le, Int32.lt_iff_toInt_lt]; omega
theorem btw_k {x : Int32} (h : btw x 0 3 = true) : ∃ k, k < 4 ∧ x = nI k := by
  obtain ⟨k, h1, h2⟩ := btw_c0 (c := 3) (by omega) h
  exact ⟨k, by omega, h2⟩
theorem btw_la {x : Int32} (h : btw x 0 2 = true) : ∃ la, la ≤ 2 ∧ x = nI la := btw_c0 (c := 2) (by omega) h
theorem isSheet_c (x : Int32) : f_X4_isSheet x = some (b2i (btw x 0 3)) := by unfold f_X4_isSheet; rw [btw_c, ob1_s]
theorem isLane_c (x : Int32) : f_X4_isLane x = some (b2i (btw x 0 2)) := by unfold f_X4_isLane; rw [btw_c, ob1_s]
def IS (sl sn : Nat → Int32) (sc : Nat → Nat → Int32) (S LL C : Nat → Int32) : Prop := ∀ k, k < 4 → (sn k = -(nI 1) ∧ S k = -(nI 9)) ∨ ∃ L la, L ≤ 60 ∧ la ≤ 2 ∧ sn k = nI L ∧ LL k = nI L ∧ sl k = nI la ∧ S k = nI la ∧ ∀ j, j < L → C (60 * k + j) = sc k j
theorem hasRow_no : f_X1_hasRow (-(nI 1)) = some (b2i false) := by
  unfold f_X1_hasRow; exact if_pos rfl
theorem hasRow_yes {L : Nat} (h : L ≤ 60) : f_X1_hasRow (nI L) = some (b2i true) := by
  unfold f_X1_hasRow
  rw [show (-1 : Int32) = -(nI 1) from rfl, ifeqN (by omega) (by omega) (by omega)]; rfl
/-- the cells i, i + 1 .. n of them, among L: b2i -/
theorem hasCells_e {L : Nat} {i n : Int32} (hL : L ≤ 60) : ∃ b, f_X1_hasCells (nI L) i n = some (b2i b) ∧ (b = true ↔ ∃ a m, i = nI a ∧ n = nI m ∧ a + m ≤ L) := by
  unfold f_X1_hasCells
  by_cases h1 : i < 0
  · refine ⟨false, by rw [if_pos h1]; rfl, ⟨fun q => (by cases q), fun ⟨a, m, e1, e2, e3⟩ => ?_⟩⟩
    subst e1
    exact absurd h1 (nI_pos (by omega))
  rw [if_neg h1]
  obtain ⟨a, ha, rfl⟩ := pos_ex h1
  by_cases h2 : nI L < nI a
  · refine ⟨false, by rw [if_pos h2]; rfl, ⟨fun q => (by cases q), fun ⟨a', m, e1, e2, e3⟩ => ?_⟩⟩
    have := (nI_eq (by omega) (by omega)).mp e1
    exact absurd h2 (nI_nlt (by omega) (by omega))
  rw [if_neg h2]
  have haL : a ≤ L := by
    apply Classical.byContradiction
    intro q
    exact h2 (nI_lt (by omega) (by omega))
  by_cases h3 : n < 0
  · refine ⟨false, by rw [if_pos h3]; rfl, ⟨fun q => (by cases q), fun ⟨a', m, e1, e2, e3⟩ => ?_⟩⟩
    subst e2
    exact absurd h3 (nI_pos (by omega))
  rw [if_neg h3]
  obtain ⟨m, hm, rfl⟩ := pos_ex h3
  rw [nI_sb haL]
  by_cases h4 : a + m ≤ L
  · exact ⟨true, by rw [ifltF (by omega) (by omega)]; rfl, ⟨fun _ => ⟨a, m, rfl, rfl, h4⟩, fun _ => rfl⟩⟩
  · refine ⟨false, by rw [ifltT (by omega) (by omega)]; rfl, ⟨fun q => (by cases q), fun ⟨a', m', e1, e2, e3⟩ => ?_⟩⟩
    have := (nI_eq (by omega) (by omega)).mp e1
    have := (nI_eq (by omega) (by omega)).mp e2
    omega
section SHEETS
variable {sl sn S LL C : Nat → Int32} {sc : Nat → Nat → Int32}
theorem valueAt_c {L a : Nat} {c : Nat → Int32} (hL : L ≤ 60) (ha : a < L) : f_X1_valueAt (nI L) c (nI a) = some (c a) := by
  unfold f_X1_valueAt
  rw [if_neg (nI_pos (by omega)), ifleF ha (by omega), cl_nI (by omega), ifgd0 (by omega) (by omega)]
theorem cell_ix {k j : Nat} : (60 : Int32) * nI k + nI j = nI (60 * k + j) := by rw [L60, nI_ml, nI_ad]
/-! sheet -/
/-! lose -/
/-! put -/
theorem btw_L {L : Nat} {x : Int32} (hL : L ≤ 60) : btw x 0 (nI L - 1) = true ↔ ∃ a, a < L ∧ x = nI a := by
  by_cases e : L = 0
  · subst e
    constructor
    · intro h
      simp only [btw, decide_eq_true_eq] at h
      obtain ⟨a, ha, rfl⟩ := pos_ex h.1
      exact absurd (m1lt ha) h.2
    · rintro ⟨a, ha, -⟩; omega
  · rw [L1, nI_sb (by omega)]
    constructor
    · intro h
      obtain ⟨a, h1, h2⟩ := btw_c0 (by omega) h
      exact ⟨a, by omega, h2⟩
    · rintro ⟨a, ha, rfl⟩
      simp only [btw, decide_eq_true_eq]
      exact ⟨nI_pos (by omega), nI_nlt (by omega) (by omega)⟩
def cutL (la : Nat) (x : Int32) : Int32 := if la = 0 then x.toInt8.toInt32 else if la = 1 then x.toInt16.toInt32 else x
theorem cut_lane {la : Nat} {x : Int32} (h : la ≤ 2) : f_X1_cutToLane (nI la) x = some (cutL la x) := by
  unfold f_X1_cutToLane cutL
  have : la = 0 ∨ la = 1 ∨ la = 2 := by omega
  rcases this with rfl | rfl | rfl
  · rfl
  · rfl
  · rfl
theorem IS_put {k L la a : Nat} {v : Int32} (h : IS sl sn sc S LL C) (hk : k < 4) (hL : L ≤ 60) (ha : a < L) (hn : sn k = nI L) : IS sl sn (va_up sc k (upd (sc k) a v)) S LL (upd C (60 * k + a) v) := by
  intro k' hk'
  rcases h k' hk' with h1 | ⟨L', la', g1, g2, g3, g4, g5, g6, g7⟩
  · exact Or.inl h1
  · refine Or.inr ⟨L', la', g1, g2, g3, g4, g5, g6, fun j hj => ?_⟩
    unfold va_up upd
    by_cases e : k' = k
    · subst e
      rw [if_pos rfl]
      by_cases e2 : j = a
      · rw [if_pos (by omega)]
        simp only [if_pos e2]
      · rw [if_neg (by omega)]
        simp only [if_neg e2]
        exact g7 j hj
    · rw [if_neg e, if_neg (by omega)]
      exact g7 j hj
/-! cell -/
/-! copy -/
theorem IS_copy {k a o c m L1 L2 : Nat} {C' : Nat → Int32} (h : IS sl sn sc S LL C) (hk : k < 4) (ho : o < 4) (hL1 : L1 ≤ 60) (hL2 : L2 ≤ 60) (ha : a + m ≤ L1) (hc : c + m ≤ L2) (h1 : sn k = nI L1) (h2 : sn o = nI L2) (hC1 : ∀ j, j < L1 → C (60 * k + j) = sc k j) (hC' : ∀ j, C' j = if 60 * o + c ≤ j ∧ j < 60 * o + c + m then C (60 * k + a + (j - (60 * o + c))) else C j) : IS sl sn (va_up sc o (va_cpy (sc k) (sc o) a c m)) S LL C' := by
  intro k' hk'
  rcases h k' hk' with h3 | ⟨L', la', g1, g2, g3, g4, g5, g6, g7⟩
  · exact Or.inl h3
  · refine Or.inr ⟨L', la', g1, g2, g3, g4, g5, g6, fun j hj => ?_⟩
    rw [hC']
    unfold va_up
    by_cases e : k' = o
    · subst e
      rw [if_pos rfl]
      by_cases e2 : c ≤ j ∧ j < c + m
      · rw [if_pos (by omega), pk_cpy_in (by omega) (by omega), show 60 * k + a + (60 * k' + j - (60 * k' + c)) = 60 * k + (a + (j - c)) by omega]
        exact hC1 _ (by omega)
      · rw [if_neg (by omega), pk_cpy_out (by omega)]
        exact g7 j hj
    · rw [if_neg e, if_neg (by omega)]
      exact g7 j hj
end SHEETS
