/-! PURE PART: numbers, loops, sets as masks -/
theorem it_for {σ ρ : Type} {body : σ → Option (σ ⊕ ρ)} (st : Nat → σ) (N : Nat) (r : ρ) (hs : ∀ i, i < N → body (st i) = some (.inl (st (i + 1)))) (he : body (st N) = some (.inr r)) (n : Nat) (hn : N < n) : it body n (st 0) = some r := by
  have key : ∀ k i, i + k = N → ∀ n, k < n → it body n (st i) = some r := by
    intro k
    induction k with
    | zero =>
      intro i hi n hn
      obtain ⟨n', rfl⟩ : ∃ n', n = n' + 1 := ⟨n - 1, by omega⟩
      have e : i = N := by omega
      subst e
      rw [it, he]
    | succ k ih =>
      intro i hi n hn
      obtain ⟨n', rfl⟩ : ∃ n', n = n' + 1 := ⟨n - 1, by omega⟩
      rw [it, hs i (by omega)]
      exact ih (i + 1) (by omega) n' (by omega)
  exact key N 0 (by omega) n hn
theorem it_rule {σ ρ : Type} {body : σ → Option (σ ⊕ ρ)} (I : σ → Prop) (Q : ρ → Prop) (μ : σ → Nat) (hs : ∀ s, I s → (∃ s', body s = some (.inl s') ∧ I s' ∧ μ s' < μ s) ∨ (∃ r, body s = some (.inr r) ∧ Q r)) : ∀ (n : Nat) (s : σ), I s → μ s < n → ∃ r, it body n s = some r ∧ Q r := by
  intro n
  induction n with
  | zero => intro s _ h; omega
  | succ n ih =>
    intro s h hn
    rcases hs s h with ⟨s', h1, h2, h3⟩ | ⟨r, h1, h2⟩
    · obtain ⟨r, h4, h5⟩ := ih s' h2 (by omega)
      exact ⟨r, by rw [it, h1]; exact h4, h5⟩
    · exact ⟨r, by rw [it, h1], h2⟩
def b2i (b : Bool) : Int32 := if b then 1 else 0
theorem b2i_01 (b : Bool) : b2i b = nI (if b then 1 else 0) := by cases b <;> rfl
theorem nI_neg_ne {a k : Nat} (ha : a < 2147483648) (h0 : 0 < k) (hk : k < 2147483648) : ¬ nI a = -(nI k) := by
  intro h
  have h1 := congrArg Int32.toInt h
  rw [nI_toInt (by omega)] at h1
  have h2 : (-(nI k)).toInt = -(k : Int) := by
    rw [Int32.toInt_neg, nI_toInt (by omega)]
    rw [Int.bmod_eq_of_le] <;> omega
  omega
theorem ifeqT {α : Type} {a b : Nat} {X Y : α} (h : a = b) : (if nI a = nI b then X else Y) = X := if_pos (by rw [h])
theorem ifeqF {α : Type} {a b : Nat} {X Y : α} (h : a ≠ b) (ha : a < 2147483648) (hb : b < 2147483648) : (if nI a = nI b then X else Y) = Y := if_neg (fun q => h ((nI_eq (by omega) (by omega)).mp q))
theorem ifeqN {α : Type} {a k : Nat} {X Y : α} (ha : a < 2147483648) (h0 : 0 < k) (hk : k < 2147483648) : (if nI a = -(nI k) then X else Y) = Y := if_neg (nI_neg_ne ha h0 hk)
theorem ifltT {α : Type} {a b : Nat} {X Y : α} (h : a < b) (hb : b < 2147483648) : (if nI a < nI b then X else Y) = X := if_pos (nI_lt h (by omega))
theorem ifltF {α : Type} {a b : Nat} {X Y : α} (h : b ≤ a) (ha : a < 2147483648) : (if nI a < nI b then X else Y) = Y := if_neg (nI_nlt h (by omega))
theorem ifleT {α : Type} {a b : Nat} {X Y : α} (h : a ≤ b) (hb : b < 2147483648) : (if nI a ≤ nI b then X else Y) = X := if_pos (nI_le h (by omega))
theorem ifleF {α : Type} {a b : Nat} {X Y : α} (h : b < a) (ha : a < 2147483648) : (if nI a ≤ nI b then X else Y) = Y := if_neg (nI_ge h (by omega))
theorem ifgd {α : Type} {i N : Nat} {X : Option α} (h : i < N) (hN : N < 2147483648) : (if nI i < nI 0 ∨ N ≤ (nI i).toNatClampNeg then none else X) = X := if_neg (nI_in h (by omega))
theorem ifgd2 {α : Type} {i N : Nat} {X : Option α} (h : i < N) (hN : N < 2147483648) : (if nI i < nI 0 ∨ N ≤ i then none else X) = X := if_neg (fun q => q.elim (nI_pos (by omega)) (by omega))
theorem cl_nI {i : Nat} (h : i < 2147483648) : (nI i).toNatClampNeg = i := nI_clamp (by omega)
theorem ifb {α : Type} {b : Bool} {X Y : α} : (if b2i b = nI 0 then X else Y) = if b then Y else X := by cases b <;> rfl
theorem ifb1 {α : Type} {b : Bool} {X Y : α} : (if b2i b = nI 1 then X else Y) = if b then X else Y := by cases b <;> rfl
theorem ob1_s {A1 β : Type} {a1 : A1} {f : A1 → Option β} : ob1 (some a1) f = f a1 := id rfl
theorem ob0_s {β : Type} {f : Option β} : ob0 (some ()) f = f := id rfl
theorem ob2_s {A1 A2 β : Type} {a1 : A1} {a2 : A2} {f : A1 → A2 → Option β} : ob2 (some (a1, a2)) f = f a1 a2 := id rfl
theorem ob3_s {A1 A2 A3 β : Type} {a1 : A1} {a2 : A2} {a3 : A3} {f : A1 → A2 → A3 → Option β} : ob3 (some (a1, a2, a3)) f = f a1 a2 a3 := id rfl
theorem ob4_s {A1 A2 A3 A4 β : Type} {a1 : A1} {a2 : A2} {a3 : A3} {a4 : A4} {f : A1 → A2 → A3 → A4 → Option β} : ob4 (some (a1, a2, a3, a4)) f = f a1 a2 a3 a4 := id rfl
theorem os0_l {β : Type} {f : Option β} : os0 (some (.inl ())) f = f := id rfl
theorem os1_l {A1 β : Type} {a1 : A1} {f : A1 → Option β} : os1 (some (.inl a1)) f = f a1 := id rfl
theorem os0_r {β : Type} {r : β} {f : Option β} : os0 (some (.inr r)) f = some r := id rfl
theorem os1_r {A1 β : Type} {r : β} {f : A1 → Option β} : os1 (some (.inr r)) f = some r := id rfl
theorem L0 : (0 : Int32) = nI 0 := id rfl
theorem L1 : (1 : Int32) = nI 1 := id rfl
theorem L2 : (2 : Int32) = nI 2 := id rfl
theorem L3 : (3 : Int32) = nI 3 := id rfl
theorem L4 : (4 : Int32) = nI 4 := id rfl
theorem L5 : (5 : Int32) = nI 5 := id rfl
theorem L6 : (6 : Int32) = nI 6 := id rfl
theorem L7 : (7 : Int32) = nI 7 := id rfl
theorem L8 : (8 : Int32) = nI 8 := id rfl
theorem L9 : (9 : Int32) = nI 9 := id rfl
theorem L10 : (10 : Int32) = nI 10 := id rfl
theorem L12 : (12 : Int32) = nI 12 := id rfl
theorem L15 : (15 : Int32) = nI 15 := id rfl
theorem L20 : (20 : Int32) = nI 20 := id rfl
theorem L60 : (60 : Int32) = nI 60 := id rfl
theorem nI_sb {a b : Nat} (h : b ≤ a) : nI a - nI b = nI (a - b) := pk_sub h
theorem nI_ad (a b : Nat) : nI a + nI b = nI (a + b) := nI_add a b
theorem nI_ml (a b : Nat) : nI a * nI b = nI (a * b) := pk_mul a b
theorem FUEL_gt {k : Nat} (h : k < 4096) : k < FUEL := h
/-! sets of 0 .. 7 as masks below 256 -/
theorem nI_or (a b : Nat) : nI a ||| nI b = nI (a ||| b) := by
  apply Int32.toBitVec_inj.mp
  apply BitVec.eq_of_getLsbD_eq
  intro i hi
  simp [nI, Int32.toBitVec_or, Int32.toBitVec_ofNat', BitVec.getLsbD_ofNat, hi]
def clr (S k : Nat) : Nat := S &&& (255 ^^^ 2 ^ k)
theorem bit_e : ∀ k, k < 8 → f_X4_bit (nI k) = some (nI (2 ^ k)) := by decide +kernel
theorem holds_d : ∀ S, S < 256 → ∀ k, k < 8 → f_X4_holds (nI S) (nI k) = some (b2i (S.testBit k)) := by decide +kernel
theorem clr_d : ∀ S, S < 256 → ∀ k, k < 8 → (nI S) &&& (nI (2 ^ k) ^^^ (-(nI 1))) = nI (clr S k) := by decide +kernel
theorem shl_d : ∀ k, k < 8 → (nI 1) <<< (nI k &&& 31) = nI (2 ^ k) := by decide +kernel
def pc (S : Nat) : Nat := (if S.testBit 0 then 1 else 0) + (if S.testBit 1 then 1 else 0) + (if S.testBit 2 then 1 else 0) + (if S.testBit 3 then 1 else 0) + (if S.testBit 4 then 1 else 0) + (if S.testBit 5 then 1 else 0) + (if S.testBit 6 then 1 else 0)
theorem bc_d : ∀ S, S < 128 → f_J6_bitCount_0f7a4 (nI S) = some (nI (pc S)) := by decide +kernel
theorem or_lt {a b : Nat} (ha : a < 128) (hb : b < 128) : a ||| b < 128 := Nat.or_lt_two_pow (n := 7) ha hb
theorem pow_lt7 : ∀ k, k < 7 → 2 ^ k < 128 := by decide
theorem clr_lt {S k : Nat} (h : S < 128) : clr S k < 128 := Nat.lt_of_le_of_lt Nat.and_le_left h
theorem clr_bit {S k j : Nat} (hj : j < 8) : (clr S k).testBit j = (S.testBit j && !decide (j = k)) := by
  rw [clr, Nat.testBit_and, Nat.testBit_xor, Nat.testBit_two_pow]
  have h : (255 : Nat).testBit j = true := by
    have : ∀ j, j < 8 → (255 : Nat).testBit j = true := by decide
    exact this j hj
  rw [h]
  by_cases e : k = j
  · subst e; simp
  · simp [e, Ne.symm e]
theorem bit_or {S k j : Nat} : (S ||| 2 ^ k).testBit j = (S.testBit j || decide (k = j)) := by
  rw [Nat.testBit_or, Nat.testBit_two_pow]
theorem mask_ext {a b : Nat} (ha : a < 128) (hb : b < 128) (h : ∀ k, k < 7 → a.testBit k = b.testBit k) : a = b := by
  apply Nat.eq_of_testBit_eq
  intro i
  by_cases hi : i < 7
  · exact h i hi
  · have e : ∀ c, c < 128 → c.testBit i = false := by
      intro c hc
      apply Nat.testBit_lt_two_pow
      exact Nat.lt_of_lt_of_le hc (Nat.pow_le_pow_right (n := 2) (by decide) (show 7 ≤ i by omega))
    rw [e a ha, e b hb]
theorem pc_le : ∀ S, S < 128 → pc S ≤ 7 := by decide +kernel
theorem pc_up : ∀ S, S < 128 → ∀ k, k < 7 → S.testBit k = false → pc (S ||| 2 ^ k) = pc S + 1 := by decide +kernel
theorem pc_mono : ∀ S, S < 128 → ∀ k, k < 7 → pc S ≤ pc (S ||| 2 ^ k) := by decide +kernel
theorem pc_7 : ∀ S, S < 128 → 7 ≤ pc S → S = 127 := by decide +kernel
