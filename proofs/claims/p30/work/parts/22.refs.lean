/-! references: found, cut, made; sets that they lead to -/
def fiF (p : Nat → Bool) : Nat → Nat → Nat
  | 0, i => i
  | k + 1, i => if p i then i else fiF p k (i + 1)
theorem fiF_le (p : Nat → Bool) : ∀ k i, i ≤ fiF p k i ∧ fiF p k i ≤ i + k
  | 0, i => ⟨Nat.le_refl i, Nat.le_refl i⟩
  | k + 1, i => by
    rw [fiF]
    split
    · omega
    · have := fiF_le p k (i + 1)
      omega
theorem fiF_at (p : Nat → Bool) : ∀ k i, fiF p k i < i + k → p (fiF p k i) = true
  | 0, i => fun h => by rw [fiF] at h; omega
  | k + 1, i => fun h => by
    rw [fiF] at h ⊢
    by_cases hp : p i = true
    · rw [if_pos hp]; exact hp
    · rw [if_neg hp] at h ⊢
      exact fiF_at p k (i + 1) (by omega)
theorem fiF_no (p : Nat → Bool) : ∀ k i j, i ≤ j → j < fiF p k i → p j = false
  | 0, i, j => fun h1 h2 => by rw [fiF] at h2; omega
  | k + 1, i, j => fun h1 h2 => by
    rw [fiF] at h2
    by_cases hp : p i = true
    · rw [if_pos hp] at h2; omega
    · rw [if_neg hp] at h2
      by_cases e : j = i
      · subst e; simpa using hp
      · exact fiF_no p k (i + 1) j (by omega) h2
def isR (fr to : Nat → Nat) (a b q : Nat) : Bool := decide (fr q = a ∧ to q = b)
def fnd (r : Nat) (fr to : Nat → Nat) (a b : Nat) : Nat := fiF (isR fr to a b) r 0
theorem fnd_le (r : Nat) (fr to : Nat → Nat) (a b : Nat) : fnd r fr to a b ≤ r := by
  have := fiF_le (isR fr to a b) r 0
  unfold fnd; omega
def fndI (r : Nat) (fr to : Nat → Nat) (a b : Nat) : Int32 := if fnd r fr to a b < r then nI (fnd r fr to a b) else -(nI 9)
theorem ifgd0 {α : Type} {i N : Nat} {X : Option α} (h : i < N) (hN : N < 2147483648) : (if nI i < 0 ∨ N ≤ i then none else X) = X := ifgd2 h hN
theorem find_c {r a b : Nat} {fr to : Nat → Nat} {f g : Nat → Int32} (hr : r ≤ 12) (hf : RI r fr f) (hg : RI r to g) (hb : ∀ q, q < r → fr q ≤ 6 ∧ to q ≤ 6) (ha : a ≤ 6) (hbb : b ≤ 6) : f_X3_find (nI r) f g (nI a) (nI b) = some (fndI r fr to a b) := by
  have key : ∀ k i fuel, i + k = r → k < fuel → it (u1 (L_X3_find_2 (nI r) f g (nI a) (nI b))) fuel (nI i) = some (if fiF (isR fr to a b) k i < r then .inr (nI (fiF (isR fr to a b) k i)) else .inl ()) := by
    intro k
    induction k with
    | zero =>
      intro i fuel hi hf'
      obtain ⟨fu, rfl⟩ : ∃ f', fuel = f' + 1 := ⟨fuel - 1, by omega⟩
      rw [it, show u1 (L_X3_find_2 (nI r) f g (nI a) (nI b)) (nI i) = some (.inr (.inl ())) from ?_]
      · rw [fiF, if_neg (by omega)]
      show L_X3_find_2 (nI r) f g (nI a) (nI b) (nI i) = _
      unfold L_X3_find_2
      simp (disch := omega) only [ifleT]
    | succ k ih =>
      intro i fuel hi hf'
      obtain ⟨fu, rfl⟩ : ∃ f', fuel = f' + 1 := ⟨fuel - 1, by omega⟩
      have hir : i < r := by omega
      have hbi := hb i hir
      by_cases hp : isR fr to a b i = true
      · rw [it, show u1 (L_X3_find_2 (nI r) f g (nI a) (nI b)) (nI i) = some (.inr (.inr (nI i))) from ?_]
        · rw [fiF, if_pos hp, if_pos hir]
        show L_X3_find_2 (nI r) f g (nI a) (nI b) (nI i) = _
        have hp' : fr i = a ∧ to i = b := by simpa [isR] using hp
        unfold L_X3_find_2
        simp (disch := omega) only [ifleF, cl_nI, ifgd0, hf i hir, hg i hir, hp'.1, hp'.2, if_true]
      · rw [it, show u1 (L_X3_find_2 (nI r) f g (nI a) (nI b)) (nI i) = some (.inl (nI (i + 1))) from ?_]
        · show it _ fu (nI (i + 1)) = _
          rw [ih (i + 1) fu (by omega) (by omega), fiF, if_neg hp]
        show L_X3_find_2 (nI r) f g (nI a) (nI b) (nI i) = _
        have hp' : ¬ (fr i = a ∧ to i = b) := by simpa [isR] using hp
        unfold L_X3_find_2
        by_cases hfa : fr i = a
        · have htb : ¬ to i = b := fun q => hp' ⟨hfa, q⟩
          simp (disch := omega) only [ifleF, cl_nI, ifgd0, hf i hir, hg i hir, hfa, if_true, ifeqF, L1, nI_ad]
        · simp (disch := omega) only [ifleF, cl_nI, ifgd0, hf i hir, hg i hir, ifeqF, L1, nI_ad]
  unfold f_X3_find fndI fnd
  rw [show it (u1 (L_X3_find_2 (nI r) f g (nI a) (nI b))) FUEL (0 : Int32) = _ from key r 0 FUEL (by omega) (FUEL_gt (by omega))]
  by_cases h : fiF (isR fr to a b) r 0 < r
  · rw [if_pos h, if_pos h, os0_r]
  · rw [if_neg h, if_neg h, os0_l]; rfl
/-! sets -/
def onF (fr to : Nat → Nat) (S : Nat) : Nat → Nat
  | 0 => 0
  | q + 1 => if S.testBit (fr q) then onF fr to S q ||| 2 ^ (to q) else onF fr to S q
theorem onF_lt {fr to : Nat → Nat} {S : Nat} : ∀ r, (∀ q, q < r → to q < 7) → onF fr to S r < 128
  | 0, _ => by rw [onF]; decide
  | r + 1, h => by
    have h1 := onF_lt (fr := fr) (S := S) r (fun q hq => h q (by omega))
    rw [onF]
    split
    · exact or_lt h1 (pow_lt7 _ (h r (by omega)))
    · exact h1
theorem onF_bit {fr to : Nat → Nat} {S k : Nat} : ∀ r, (onF fr to S r).testBit k = true ↔ ∃ q, q < r ∧ S.testBit (fr q) = true ∧ to q = k
  | 0 => by simp [onF]
  | r + 1 => by
    have ih := onF_bit (fr := fr) (to := to) (S := S) (k := k) r
    rw [onF]
    by_cases hb : S.testBit (fr r) = true
    · rw [if_pos hb, bit_or, Bool.or_eq_true, ih, decide_eq_true_eq]
      constructor
      · rintro (⟨q, h1, h2⟩ | h)
        · exact ⟨q, by omega, h2⟩
        · exact ⟨r, by omega, hb, h⟩
      · rintro ⟨q, h1, h2, h3⟩
        by_cases e : q = r
        · subst e; exact Or.inr h3
        · exact Or.inl ⟨q, by omega, h2, h3⟩
    · rw [if_neg hb, ih]
      constructor
      · rintro ⟨q, h1, h2⟩
        exact ⟨q, by omega, h2⟩
      · rintro ⟨q, h1, h2, h3⟩
        by_cases e : q = r
        · subst e; exact absurd h2 hb
        · exact ⟨q, by omega, h2, h3⟩
theorem holds_e {S k : Nat} (hS : S < 256) (hk : k < 8) : f_X4_holds (nI S) (nI k) = some (b2i (S.testBit k)) := holds_d S hS k hk
theorem bit_ee {k : Nat} (hk : k < 8) : f_X4_bit (nI k) = some (nI (2 ^ k)) := bit_e k hk
theorem clr_e {S k : Nat} (hS : S < 256) (hk : k < 8) : (nI S) &&& (nI (2 ^ k) ^^^ (-(nI 1))) = nI (clr S k) := clr_d S hS k hk
theorem shl_e {k : Nat} (hk : k < 8) : (nI 1) <<< (nI k &&& 31) = nI (2 ^ k) := shl_d k hk
theorem oneOn_c {r S : Nat} {fr to : Nat → Nat} {f g : Nat → Int32} (hr : r ≤ 12) (hf : RI r fr f) (hg : RI r to g) (hb : ∀ q, q < r → fr q ≤ 6 ∧ to q ≤ 6) (hS : S < 256) : f_X3_oneOn (nI r) f g (nI S) = some (nI (onF fr to S r)) := by
  unfold f_X3_oneOn
  rw [show it (u2 (L_X3_oneOn_4 (nI r) f g (nI S))) FUEL ((0 : Int32), (0 : Int32)) = some (nI (onF fr to S r)) from ?_]
  · rfl
  refine it_for (body := u2 (L_X3_oneOn_4 (nI r) f g (nI S))) (fun i => (nI (onF fr to S i), nI i)) r (nI (onF fr to S r)) (fun i hi => ?_) ?_ FUEL (FUEL_gt (by omega))
  · show L_X3_oneOn_4 (nI r) f g (nI S) (nI (onF fr to S i)) (nI i) = some (.inl (nI (onF fr to S (i + 1)), nI (i + 1)))
    have hbi := hb i hi
    unfold L_X3_oneOn_4
    rw [onF]
    simp (disch := omega) only [ifleF, cl_nI, ifgd0, hf i hi, hg i hi, holds_e, ob1_s, bit_ee, L0, ifb, L1, nI_ad, nI_or, ifgd2]
    split <;> rfl
  · show L_X3_oneOn_4 (nI r) f g (nI S) (nI (onF fr to S r)) (nI r) = _
    unfold L_X3_oneOn_4
    simp (disch := omega) only [ifleT]
theorem oneBack_c {r S : Nat} {fr to : Nat → Nat} {f g : Nat → Int32} (hr : r ≤ 12) (hf : RI r fr f) (hg : RI r to g) (hb : ∀ q, q < r → fr q ≤ 6 ∧ to q ≤ 6) (hS : S < 256) : f_X3_oneBack (nI r) f g (nI S) = some (nI (onF to fr S r)) := by
  unfold f_X3_oneBack
  rw [show it (u2 (L_X3_oneBack_4 (nI r) f g (nI S))) FUEL ((0 : Int32), (0 : Int32)) = some (nI (onF to fr S r)) from ?_]
  · rfl
  refine it_for (body := u2 (L_X3_oneBack_4 (nI r) f g (nI S))) (fun i => (nI (onF to fr S i), nI i)) r (nI (onF to fr S r)) (fun i hi => ?_) ?_ FUEL (FUEL_gt (by omega))
  · show L_X3_oneBack_4 (nI r) f g (nI S) (nI (onF to fr S i)) (nI i) = some (.inl (nI (onF to fr S (i + 1)), nI (i + 1)))
    have hbi := hb i hi
    unfold L_X3_oneBack_4
    rw [onF]
    simp (disch := omega) only [ifleF, cl_nI, ifgd0, hf i hi, hg i hi, holds_e, ob1_s, bit_ee, L0, ifb, L1, nI_ad, nI_or, ifgd2]
    split <;> rfl
  · show L_X3_oneBack_4 (nI r) f g (nI S) (nI (onF to fr S r)) (nI r) = _
    unfold L_X3_oneBack_4
    simp (disch := omega) only [ifleT]
/-! what is led to: the least set that holds the start and is closed -/
def stp (r : Nat) (fr to : Nat → Nat) (out S : Nat) : Nat := clr (S ||| onF fr to S r) out
def ledF (r : Nat) (fr to : Nat → Nat) (out : Nat) : Nat → Nat → Nat
  | 0, S => S
  | k + 1, S => ledF r fr to out k (stp r fr to out S)
def led (r : Nat) (fr to : Nat → Nat) (start out : Nat) : Nat := ledF r fr to out 6 (clr (2 ^ start) out)
theorem stp_lt {r out S : Nat} {fr to : Nat → Nat} (hb : ∀ q, q < r → fr q ≤ 6 ∧ to q ≤ 6) (hS : S < 128) : stp r fr to out S < 128 := clr_lt (or_lt hS (onF_lt r (fun q hq => by have := hb q hq; omega)))
theorem ledF_lt {r out : Nat} {fr to : Nat → Nat} (hb : ∀ q, q < r → fr q ≤ 6 ∧ to q ≤ 6) : ∀ k S, S < 128 → ledF r fr to out k S < 128
  | 0, _, h => h
  | k + 1, S, h => ledF_lt hb k _ (stp_lt hb h)
theorem ledF_fix {r out S : Nat} {fr to : Nat → Nat} (h : stp r fr to out S = S) : ∀ k, ledF r fr to out k S = S
  | 0 => rfl
  | k + 1 => by rw [ledF, h, ledF_fix h k]
theorem two_lt {k : Nat} (h : k ≤ 6) : 2 ^ k < 128 := pow_lt7 k (by omega)
theorem led_lt {r start out : Nat} {fr to : Nat → Nat} (hb : ∀ q, q < r → fr q ≤ 6 ∧ to q ≤ 6) (hs : start ≤ 6) : led r fr to start out < 128 := ledF_lt hb 6 _ (clr_lt (two_lt hs))
theorem ledTo_c {r start out : Nat} {fr to : Nat → Nat} {f g : Nat → Int32} (hr : r ≤ 12) (hf : RI r fr f) (hg : RI r to g) (hb : ∀ q, q < r → fr q ≤ 6 ∧ to q ≤ 6) (hs : start ≤ 6) (ho : out ≤ 7) : f_X3_ledTo (nI r) f g (nI start) (nI out) = some (nI (led r fr to start out)) := by
  have key : ∀ k i S fuel, i + k = 6 → S < 128 → k < fuel → it (u2 (L_X3_ledTo_15 (nI r) f g (nI out))) fuel (nI S, nI i) = some (nI (ledF r fr to out k S)) := by
    intro k
    induction k with
    | zero =>
      intro i S fuel hi hS hfu
      obtain ⟨fu, rfl⟩ : ∃ f', fuel = f' + 1 := ⟨fuel - 1, by omega⟩
      rw [it, show u2 (L_X3_ledTo_15 (nI r) f g (nI out)) (nI S, nI i) = some (.inr (nI S)) from ?_]
      · rfl
      show L_X3_ledTo_15 (nI r) f g (nI out) (nI S) (nI i) = _
      unfold L_X3_ledTo_15
      simp (disch := omega) only [L6, ifleT]
    | succ k ih =>
      intro i S fuel hi hS hfu
      obtain ⟨fu, rfl⟩ : ∃ f', fuel = f' + 1 := ⟨fuel - 1, by omega⟩
      have hon : onF fr to S r < 128 := onF_lt r (fun q hq => by have := hb q hq; omega)
      have hor : S ||| onF fr to S r < 128 := or_lt hS hon
      have hst : stp r fr to out S < 128 := stp_lt hb hS
      have hstd : clr (S ||| onF fr to S r) out = stp r fr to out S := rfl
      by_cases hx : stp r fr to out S = S
      · rw [it, show u2 (L_X3_ledTo_15 (nI r) f g (nI out)) (nI S, nI i) = some (.inr (nI S)) from ?_]
        · show some (nI S) = some (nI (ledF r fr to out (k + 1) S))
          rw [ledF_fix hx]
        show L_X3_ledTo_15 (nI r) f g (nI out) (nI S) (nI i) = _
        unfold L_X3_ledTo_15
        rw [oneOn_c hr hf hg hb (by omega)]
        simp (disch := omega) only [L6, ifleF, ob1_s, bit_ee, nI_or, L1, clr_e, hstd, hx, if_true]
      · rw [it, show u2 (L_X3_ledTo_15 (nI r) f g (nI out)) (nI S, nI i) = some (.inl (nI (stp r fr to out S), nI (i + 1))) from ?_]
        · exact ih (i + 1) _ fu (by omega) hst (by omega)
        show L_X3_ledTo_15 (nI r) f g (nI out) (nI S) (nI i) = _
        unfold L_X3_ledTo_15
        rw [oneOn_c hr hf hg hb (by omega)]
        simp (disch := omega) only [L6, ifleF, ob1_s, bit_ee, nI_or, L1, clr_e, hstd, ifeqF, nI_ad]
  have h2 := two_lt hs
  unfold f_X3_ledTo led
  simp (disch := omega) only [bit_ee, ob1_s, L1, clr_e]
  rw [show it (u2 (L_X3_ledTo_15 (nI r) f g (nI out))) FUEL (nI (clr (2 ^ start) out), (0 : Int32)) = _ from key 6 0 _ FUEL (by omega) (clr_lt h2) (FUEL_gt (by omega))]
  rfl
