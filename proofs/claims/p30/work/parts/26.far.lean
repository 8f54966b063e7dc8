/-! ways past the owner: layers of the class, distances of the reference -/
def aw (r : Nat) (fr to : Nat → Nat) (o t : Nat) : Nat → Nat
  | 0 => 2 ^ t
  | s + 1 => clr (onF to fr (aw r fr to o t s) r) o
theorem aw_lt {r o t : Nat} {fr to : Nat → Nat} (hb : Bd r fr to) (ht : t ≤ 6) : ∀ s, aw r fr to o t s < 128
  | 0 => two_lt ht
  | s + 1 => clr_lt (onF_lt r (fun q hq => by have := hb q hq; omega))
theorem aw_bit {r o t s x : Nat} {fr to : Nat → Nat} (hx : x ≤ 6) : (aw r fr to o t (s + 1)).testBit x = true ↔ (∃ q, q < r ∧ (aw r fr to o t s).testBit (to q) = true ∧ fr q = x) ∧ x ≠ o := by
  rw [aw, clr_bit (by omega), Bool.and_eq_true, onF_bit]
  simp
theorem aw_o {r o t : Nat} {fr to : Nat → Nat} (ho : o ≤ 6) (hto : t ≠ o) : ∀ s, (aw r fr to o t s).testBit o = false
  | 0 => by rw [aw, pow_bit]; simp [hto]
  | s + 1 => by
    rw [← Bool.not_eq_true, aw_bit ho]
    exact fun q => q.2 rfl
def awA (r : Nat) (fr to : Nat → Nat) (o t : Nat) (A : Nat → Int32) : Nat → Nat → Int32
  | 0 => upd A 0 (nI (2 ^ t))
  | s + 1 => upd (awA r fr to o t A s) (s + 1) (nI (aw r fr to o t (s + 1)))
theorem awA_at {r o t : Nat} {fr to : Nat → Nat} {A : Nat → Int32} : ∀ s j, j ≤ s → awA r fr to o t A s j = nI (aw r fr to o t j)
  | 0, j, h => by
    have e : j = 0 := by omega
    subst e
    rw [awA, pk_us, aw]
  | s + 1, j, h => by
    by_cases e : j = s + 1
    · subst e; rw [awA, pk_us]
    · rw [awA, pk_un e, awA_at s j (by omega)]
def wpB (r : Nat) (fr to : Nat → Nat) (o t i : Nat) : Bool := (aw r fr to o t (i + 1)).testBit 6
def wpJ (r : Nat) (fr to : Nat → Nat) (o t : Nat) : Nat := fiF (wpB r fr to o t) 6 0
def wpI (r : Nat) (fr to : Nat → Nat) (o t : Nat) : Int32 := if wpJ r fr to o t < 6 then nI (wpJ r fr to o t + 1) else -(nI 9)
theorem findWayPast_c {n r t : Nat} {ow fr to : Nat → Nat} {a f g : Nat → Int32} (A : Nat → Int32) (hw : Web n r fr to) (ha : RI n ow a) (hf : RI r fr f) (hg : RI r to g) (ho : ow t ≤ 6) (ht : t < n) : ∃ B, f_X3_findWayPast (nI n) (nI r) a f g A (nI t) = some (wpI r fr to (ow t) t, B) ∧ (wpJ r fr to (ow t) t < 6 → ∀ j, j ≤ wpJ r fr to (ow t) t + 1 → B j = nI (aw r fr to (ow t) t j)) := by
  have hb := hw.bd
  have hn := hw.1
  have hr := hw.2.1
  have e1 : it (u2 (L_X3_findWayPast_12 (nI n) (nI r) a f g (nI t))) FUEL (nI 1, awA r fr to (ow t) t A 0) = some (if wpJ r fr to (ow t) t < 6 then .inr (nI (wpJ r fr to (ow t) t + 1), awA r fr to (ow t) t A (wpJ r fr to (ow t) t + 1)) else .inl (awA r fr to (ow t) t A 6)) := by
    have step : ∀ i, i < 6 → ∀ X : Bool, wpB r fr to (ow t) t i = X → L_X3_findWayPast_12 (nI n) (nI r) a f g (nI t) (nI (i + 1)) (awA r fr to (ow t) t A i) = some (if X then .inr (.inr (nI (i + 1), awA r fr to (ow t) t A (i + 1))) else .inl (nI (i + 1 + 1), awA r fr to (ow t) t A (i + 1))) := by
      intro i hi X hX
      have hl := aw_lt (o := ow t) hb (show t ≤ 6 by omega) i
      have hl1 := aw_lt (o := ow t) hb (show t ≤ 6 by omega) (i + 1)
      have hon : onF to fr (aw r fr to (ow t) t i) r < 128 := onF_lt r (fun q hq => by have := hb q hq; omega)
      have h2 : clr (onF to fr (aw r fr to (ow t) t i) r) (ow t) = aw r fr to (ow t) t (i + 1) := rfl
      have h3 : awA r fr to (ow t) t A (i + 1) = upd (awA r fr to (ow t) t A i) (i + 1) (nI (aw r fr to (ow t) t (i + 1))) := rfl
      have h6 : (aw r fr to (ow t) t (i + 1)).testBit 6 = X := hX
      have h4 := awA_at (r := r) (o := ow t) (t := t) (fr := fr) (to := to) (A := A) i i (Nat.le_refl i)
      have h5 := oneBack_c hr hf hg hb (show aw r fr to (ow t) t i < 256 by omega)
      unfold L_X3_findWayPast_12
      simp (disch := omega) only [L6, L1, ifltF, nI_sb, L0, cl_nI, ifgd2, show i + 1 - 1 = i by omega, h4, h5, ob1_s, ownerOf_c hn ha ht, bit_ee, clr_e, h2, pk_us, holds_e, h6, ifb, nI_ad, h3]
      cases X <;> rfl
    refine it_search (body := u2 (L_X3_findWayPast_12 (nI n) (nI r) a f g (nI t))) (fun i => (nI (i + 1), awA r fr to (ow t) t A i)) (wpB r fr to (ow t) t) (fun i => (nI (i + 1), awA r fr to (ow t) t A (i + 1))) _ 6 (fun i hi hp => step i hi false hp) (fun i hi hp => step i hi true hp) ?_ FUEL (FUEL_gt (by omega))
    show L_X3_findWayPast_12 (nI n) (nI r) a f g (nI t) (nI 7) (awA r fr to (ow t) t A 6) = _
    unfold L_X3_findWayPast_12
    simp (disch := omega) only [L6, ifltT]
  have e0 : f_X3_findWayPast (nI n) (nI r) a f g A (nI t) = os1 (it (u2 (L_X3_findWayPast_12 (nI n) (nI r) a f g (nI t))) FUEL (nI 1, awA r fr to (ow t) t A 0)) (fun w => some (-(nI 9), w)) := by
    unfold f_X3_findWayPast
    simp (disch := omega) only [bit_ee, ob1_s, L0, L1, L9, cl_nI, ifgd2, awA]
  rw [e0, e1]
  unfold wpI
  by_cases h : wpJ r fr to (ow t) t < 6
  · rw [if_pos h, if_pos h, os1_r]
    exact ⟨_, rfl, fun _ j hj => awA_at _ j hj⟩
  · rw [if_neg h, if_neg h, os1_l]
    exact ⟨_, rfl, fun q => absurd q h⟩
def low (n S : Nat) : Nat := fiF (fun t => S.testBit t) n 0
theorem lowestOf_c {n S : Nat} (hn : n ≤ 6) (hS : S < 128) : f_X3_lowestOf (nI n) (nI S) = some (if low n S < n then nI (low n S) else nI 7) := by
  unfold f_X3_lowestOf
  rw [show it (u1 (L_X3_lowestOf_2 (nI n) (nI S))) FUEL (0 : Int32) = some (if low n S < n then .inr (nI (low n S)) else .inl ()) from ?_]
  · by_cases h : low n S < n
    · rw [if_pos h, if_pos h, os0_r]
    · rw [if_neg h, if_neg h, os0_l]; rfl
  refine it_search (body := u1 (L_X3_lowestOf_2 (nI n) (nI S))) (fun i => nI i) (fun t => S.testBit t) (fun i => nI i) () n (fun i hi hp => ?_) (fun i hi hp => ?_) ?_ FUEL (FUEL_gt (by omega))
  · show L_X3_lowestOf_2 (nI n) (nI S) (nI i) = _
    unfold L_X3_lowestOf_2
    simp (disch := omega) only [ifleF, holds_e, ob1_s, L0, ifb, hp, L1, nI_ad]
    rfl
  · show L_X3_lowestOf_2 (nI n) (nI S) (nI i) = _
    unfold L_X3_lowestOf_2
    simp (disch := omega) only [ifleF, holds_e, ob1_s, L0, ifb, hp, if_true]
  · show L_X3_lowestOf_2 (nI n) (nI S) (nI n) = _
    unfold L_X3_lowestOf_2
    simp (disch := omega) only [ifleT]
/-- the stops of the way, m references from the thing: the first of the class -/
def nxt (n r : Nat) (fr to : Nat → Nat) (o t is l : Nat) : Nat := low n (tgt r fr to is &&& aw r fr to o t l)
def stop (n r : Nat) (fr to : Nat → Nat) (o t m : Nat) : Nat → Nat
  | 0 => 6
  | i + 1 => nxt n r fr to o t (stop n r fr to o t m i) (m - (i + 1))
/-- the least layer that holds one, up to d; d + 1: none -/
def fa (r : Nat) (fr to : Nat → Nat) (o t d x : Nat) : Nat := fiF (fun u => (aw r fr to o t u).testBit x) (d + 1) 0
theorem fa_le {r o t d x : Nat} {fr to : Nat → Nat} : fa r fr to o t d x ≤ d + 1 := by
  have := fiF_le (fun u => (aw r fr to o t u).testBit x) (d + 1) 0
  unfold fa; omega
theorem fa_at {r o t d x : Nat} {fr to : Nat → Nat} (h : fa r fr to o t d x ≤ d) : (aw r fr to o t (fa r fr to o t d x)).testBit x = true := fiF_at (fun u => (aw r fr to o t u).testBit x) (d + 1) 0 (by unfold fa at h; omega)
theorem fa_no {r o t d x u : Nat} {fr to : Nat → Nat} (h : u < fa r fr to o t d x) : (aw r fr to o t u).testBit x = false := fiF_no (fun u => (aw r fr to o t u).testBit x) (d + 1) 0 u (by omega) h
theorem fa_up {r o t d x u : Nat} {fr to : Nat → Nat} (hu : (aw r fr to o t u).testBit x = true) : fa r fr to o t d x ≤ u := by
  apply Nat.le_of_not_lt
  intro q
  rw [fa_no q] at hu
  cases hu
theorem fa_is {r o t d x v : Nat} {fr to : Nat → Nat} (hv : v ≤ d) (h : (aw r fr to o t v).testBit x = true) (hn : ∀ u, u < v → (aw r fr to o t u).testBit x = false) : fa r fr to o t d x = v := by
  have h1 := fa_up (d := d) h
  apply Nat.le_antisymm h1
  apply Nat.le_of_not_lt
  intro q
  have := fa_at (d := d) (x := x) (r := r) (fr := fr) (to := to) (o := o) (t := t) (by omega)
  rw [hn _ q] at this
  cases this
theorem fa_none {r o t d x : Nat} {fr to : Nat → Nat} (hn : ∀ u, u ≤ d → (aw r fr to o t u).testBit x = false) : fa r fr to o t d x = d + 1 := by
  apply Nat.le_antisymm fa_le
  apply Nat.le_of_not_lt
  intro q
  have := fa_at (d := d) (x := x) (r := r) (fr := fr) (to := to) (o := o) (t := t) (by omega)
  rw [hn _ (by omega)] at this
  cases this
def farI (r : Nat) (fr to : Nat → Nat) (o t d x : Nat) : Int32 := if fa r fr to o t d x ≤ d then nI (fa r fr to o t d x) else -(nI 9)
def valI (r : Nat) (fr to : Nat → Nat) (o t d S x : Nat) : Int32 := if fa r fr to o t d x ≤ d then nI (fa r fr to o t d x) else if S.testBit x then nI (d + 1) else -(nI 9)
theorem val_end {r o t d x : Nat} {fr to : Nat → Nat} : valI r fr to o t d (aw r fr to o t (d + 1)) x = farI r fr to o t (d + 1) x := by
  unfold valI farI
  by_cases h : fa r fr to o t d x ≤ d
  · rw [if_pos h]
    have h1 := fa_at h
    have h2 : fa r fr to o t (d + 1) x = fa r fr to o t d x := fa_is (by omega) h1 (fun u hu => fa_no hu)
    rw [h2, if_pos (by omega)]
  · rw [if_neg h]
    have h0 : fa r fr to o t d x = d + 1 := by
      have := fa_le (r := r) (fr := fr) (to := to) (o := o) (t := t) (d := d) (x := x)
      omega
    by_cases h1 : (aw r fr to o t (d + 1)).testBit x = true
    · rw [if_pos h1]
      have h2 : fa r fr to o t (d + 1) x = d + 1 := fa_is (by omega) h1 (fun u hu => fa_no (d := d) (by omega))
      rw [h2, if_pos (by omega)]
    · rw [if_neg h1]
      rw [Bool.not_eq_true] at h1
      have h2 : fa r fr to o t (d + 1) x = d + 1 + 1 := fa_none (fun u hu => by
        by_cases e : u = d + 1
        · rw [e]; exact h1
        · exact fa_no (d := d) (by omega))
      rw [h2, if_neg (by omega)]
