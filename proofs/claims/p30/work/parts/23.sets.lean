/-! the least closed set, in the class's way and in the reference's -/
theorem it_search {σ ε ρ : Type} {body : σ → Option (σ ⊕ (ε ⊕ ρ))} (st : Nat → σ) (p : Nat → Bool) (c : Nat → ρ) (e : ε) (N : Nat) (hs : ∀ i, i < N → p i = false → body (st i) = some (.inl (st (i + 1)))) (hp : ∀ i, i < N → p i = true → body (st i) = some (.inr (.inr (c i)))) (he : body (st N) = some (.inr (.inl e))) (n : Nat) (hn : N < n) : it body n (st 0) = some (if fiF p N 0 < N then .inr (c (fiF p N 0)) else .inl e) := by
  have key : ∀ k i fuel, i + k = N → k < fuel → it body fuel (st i) = some (if fiF p k i < N then .inr (c (fiF p k i)) else .inl e) := by
    intro k
    induction k with
    | zero =>
      intro i fuel hi hf
      obtain ⟨fu, rfl⟩ : ∃ f', fuel = f' + 1 := ⟨fuel - 1, by omega⟩
      have e1 : i = N := by omega
      subst e1
      rw [it, he, fiF, if_neg (by omega)]
    | succ k ih =>
      intro i fuel hi hf
      obtain ⟨fu, rfl⟩ : ∃ f', fuel = f' + 1 := ⟨fuel - 1, by omega⟩
      by_cases h : p i = true
      · rw [it, hp i (by omega) h, fiF, if_pos h, if_pos (by omega)]
      · rw [it, hs i (by omega) (by simpa using h), fiF, if_neg h]
        exact ih (i + 1) fu (by omega) (by omega)
  exact key N 0 n (by omega) hn
def Cl (r : Nat) (fr to : Nat → Nat) (out S : Nat) : Prop := ∀ q, q < r → S.testBit (fr q) = true → to q ≠ out → S.testBit (to q) = true
def Bd (r : Nat) (fr to : Nat → Nat) : Prop := ∀ q, q < r → fr q ≤ 6 ∧ to q ≤ 6
theorem stp_bit {r out S k : Nat} {fr to : Nat → Nat} (hk : k < 8) : (stp r fr to out S).testBit k = true ↔ (S.testBit k = true ∨ ∃ q, q < r ∧ S.testBit (fr q) = true ∧ to q = k) ∧ k ≠ out := by
  rw [stp, clr_bit hk, Nat.testBit_or, Bool.and_eq_true, Bool.or_eq_true, onF_bit]
  simp
theorem pc_lt : ∀ S, S < 128 → ∀ T, T < 128 → S &&& T = S → S ≠ T → pc S < pc T := by decide +kernel
theorem sub_and {S T : Nat} (hS : S < 128) (h : ∀ k, k < 7 → S.testBit k = true → T.testBit k = true) : S &&& T = S := by
  apply mask_ext (Nat.lt_of_le_of_lt Nat.and_le_left hS) hS
  intro k hk
  rw [Nat.testBit_and]
  by_cases hb : S.testBit k = true
  · rw [hb, h k hk hb]; rfl
  · rw [Bool.not_eq_true] at hb
    rw [hb]; rfl
theorem ledF_grow {r out : Nat} {fr to : Nat → Nat} (hb : Bd r fr to) (ho : out ≤ 7) : ∀ k S, S < 128 → S.testBit out = false → stp r fr to out (ledF r fr to out k S) = ledF r fr to out k S ∨ pc S + k ≤ pc (ledF r fr to out k S)
  | 0, S, _, _ => Or.inr (Nat.le_refl _)
  | k + 1, S, hS, hn => by
    by_cases hx : stp r fr to out S = S
    · rw [ledF_fix hx]; exact Or.inl hx
    · have h1 : (stp r fr to out S).testBit out = false := by
        rw [← Bool.not_eq_true, stp_bit (by omega)]
        exact fun q => q.2 rfl
      have h2 := stp_lt (out := out) hb hS
      have h3 : pc S < pc (stp r fr to out S) := by
        refine pc_lt S hS _ h2 (sub_and hS (fun k hk hk1 => ?_)) (Ne.symm hx)
        rw [stp_bit (by omega)]
        refine ⟨Or.inl hk1, fun e => ?_⟩
        subst e
        rw [hn] at hk1
        cases hk1
      rcases ledF_grow hb ho k _ h2 h1 with h | h
      · exact Or.inl h
      · right
        rw [ledF]
        omega
theorem pow_bit {a k : Nat} : (2 ^ a).testBit k = decide (a = k) := Nat.testBit_two_pow
theorem pc_pow : ∀ s, s < 7 → pc (2 ^ s) = 1 := by decide
theorem all_bits : ∀ k, k < 7 → (127 : Nat).testBit k = true := by decide
theorem led_out {r start out : Nat} {fr to : Nat → Nat} (ho : out ≤ 7) : (led r fr to start out).testBit out = false := by
  have key : ∀ k S, S.testBit out = false → (ledF r fr to out k S).testBit out = false := by
    intro k
    induction k with
    | zero => intro S h; exact h
    | succ k ih =>
      intro S h
      refine ih _ ?_
      rw [← Bool.not_eq_true, stp_bit (by omega)]
      exact fun q => q.2 rfl
  refine key 6 _ ?_
  rw [clr_bit (by omega)]
  simp
theorem led_start {r start out : Nat} {fr to : Nat → Nat} (hs : start ≤ 6) (hso : start ≠ out) : (led r fr to start out).testBit start = true := by
  have key : ∀ k S, S.testBit start = true → (ledF r fr to out k S).testBit start = true := by
    intro k
    induction k with
    | zero => intro S h; exact h
    | succ k ih =>
      intro S h
      refine ih _ ?_
      rw [stp_bit (by omega)]
      exact ⟨Or.inl h, hso⟩
  refine key 6 _ ?_
  rw [clr_bit (by omega), pow_bit]
  simp [hso]
theorem led_cl {r start out : Nat} {fr to : Nat → Nat} (hb : Bd r fr to) (hs : start ≤ 6) (ho : out ≤ 7) : Cl r fr to out (led r fr to start out) := by
  have h0 : (clr (2 ^ start) out).testBit out = false := by rw [clr_bit (by omega)]; simp
  have hl := clr_lt (k := out) (two_lt hs)
  have hfix : stp r fr to out (led r fr to start out) = led r fr to start out → Cl r fr to out (led r fr to start out) := by
    intro h q hq h1 h2
    rw [← h, stp_bit (by have := hb q hq; omega)]
    exact ⟨Or.inr ⟨q, hq, h1, rfl⟩, h2⟩
  rcases ledF_grow hb ho 6 _ hl h0 with h | h
  · exact hfix h
  · by_cases hso : start = out
    · apply hfix
      have e : clr (2 ^ start) out = 0 := by
        apply mask_ext hl (by decide)
        intro k hk
        rw [clr_bit (by omega), pow_bit]
        by_cases e : start = k
        · simp [e, ← hso]
        · simp [e]
      have z : stp r fr to out 0 = 0 := by
        apply mask_ext (stp_lt hb (by decide)) (by decide)
        intro k hk
        have : ¬ (stp r fr to out 0).testBit k = true := by
          rw [stp_bit (by omega)]
          simp
        rw [Bool.not_eq_true] at this
        rw [this]; simp
      show stp r fr to out (ledF r fr to out 6 (clr (2 ^ start) out)) = ledF r fr to out 6 (clr (2 ^ start) out)
      rw [e, ledF_fix z, z]
    · have e : clr (2 ^ start) out = 2 ^ start := by
        apply mask_ext hl (two_lt hs)
        intro k hk
        rw [clr_bit (by omega), pow_bit]
        by_cases e : start = k
        · subst e; simp [hso]
        · simp [e]
      rw [e, pc_pow start (by omega)] at h
      have h127 : led r fr to start out = 127 := by
        refine pc_7 _ (led_lt hb hs) ?_
        show 7 ≤ pc (ledF r fr to out 6 (clr (2 ^ start) out))
        rw [e]; omega
      intro q hq _ _
      rw [h127]
      exact all_bits _ (by have := hb q hq; omega)
theorem led_min {r start out T : Nat} {fr to : Nat → Nat} (hb : Bd r fr to) (hs : start ≤ 6) (ho : out ≤ 7) (h0 : start ≠ out → T.testBit start = true) (hT : Cl r fr to out T) : ∀ k, k < 7 → (led r fr to start out).testBit k = true → T.testBit k = true := by
  have key : ∀ j S, S < 128 → (∀ k, k < 7 → S.testBit k = true → T.testBit k = true) → ∀ k, k < 7 → (ledF r fr to out j S).testBit k = true → T.testBit k = true := by
    intro j
    induction j with
    | zero => intro S _ h; exact h
    | succ j ih =>
      intro S hS h
      refine ih _ (stp_lt hb hS) (fun k hk h1 => ?_)
      rw [stp_bit (by omega)] at h1
      rcases h1 with ⟨h1 | ⟨q, h2, h3, h4⟩, h5⟩
      · exact h k hk h1
      · have hq := hb q h2
        subst h4
        exact hT q h2 (h (fr q) (by omega) h3) h5
  refine key 6 _ (clr_lt (two_lt hs)) (fun k hk h => ?_)
  rw [clr_bit (by omega), pow_bit] at h
  simp at h
  obtain ⟨h1, h2⟩ := h
  subst h1
  exact h0 h2
/-! the reference's closure -/
def adB (fr to : Nat → Nat) (out S q : Nat) : Bool := S.testBit (fr q) && (!decide (to q = out) && !S.testBit (to q))
def inF (fr to : Nat → Nat) (out S : Nat) : Nat → Nat
  | 0 => S
  | q + 1 => if adB fr to out (inF fr to out S q) q then inF fr to out S q ||| 2 ^ (to q) else inF fr to out S q
def moF (fr to : Nat → Nat) (out S : Nat) : Nat → Nat
  | 0 => 0
  | q + 1 => if adB fr to out (inF fr to out S q) q then 1 else moF fr to out S q
theorem moF_01 {fr to : Nat → Nat} {out S : Nat} : ∀ q, moF fr to out S q = 0 ∨ moF fr to out S q = 1
  | 0 => Or.inl rfl
  | q + 1 => by
    rw [moF]
    split
    · exact Or.inr rfl
    · exact moF_01 q
theorem inF_lt {fr to : Nat → Nat} {out S r : Nat} (hb : Bd r fr to) (hS : S < 128) : ∀ q, q ≤ r → inF fr to out S q < 128
  | 0, _ => hS
  | q + 1, h => by
    have h1 := inF_lt hb hS q (by omega) (out := out)
    rw [inF]
    split
    · exact or_lt h1 (two_lt (hb q (by omega)).2)
    · exact h1
theorem inF_up {fr to : Nat → Nat} {out S : Nat} : ∀ q k, S.testBit k = true → (inF fr to out S q).testBit k = true
  | 0, k, h => h
  | q + 1, k, h => by
    have h1 := inF_up q k h (fr := fr) (to := to) (out := out)
    rw [inF]
    split
    · rw [bit_or, h1]; rfl
    · exact h1
theorem inF_no {fr to : Nat → Nat} {out S : Nat} : ∀ q, moF fr to out S q = 0 → inF fr to out S q = S ∧ ∀ j, j < q → adB fr to out S j = false
  | 0, _ => ⟨rfl, fun j h => by omega⟩
  | q + 1, h => by
    rw [moF] at h
    by_cases ha : adB fr to out (inF fr to out S q) q = true
    · rw [if_pos ha] at h; cases h
    · rw [if_neg ha] at h
      obtain ⟨h1, h2⟩ := inF_no q h
      refine ⟨by rw [inF, if_neg ha]; exact h1, fun j hj => ?_⟩
      by_cases e : j = q
      · subst e
        rw [h1] at ha
        simpa using ha
      · exact h2 j (by omega)
theorem inF_yes {fr to : Nat → Nat} {out S r : Nat} (hb : Bd r fr to) (hS : S < 128) : ∀ q, q ≤ r → moF fr to out S q = 1 → inF fr to out S q ≠ S
  | 0, _, h => by cases h
  | q + 1, hq, h => by
    rw [moF] at h
    by_cases ha : adB fr to out (inF fr to out S q) q = true
    · rw [inF, if_pos ha]
      intro e
      have h1 : (inF fr to out S q).testBit (to q) = false := by
        simp [adB] at ha
        exact ha.2.2
      have h2 : S.testBit (to q) = true := by
        rw [← e, bit_or]; simp
      rw [inF_up q _ h2] at h1
      cases h1
    · rw [if_neg ha] at h
      rw [inF, if_neg ha]
      exact inF_yes hb hS q (by omega) h
theorem inF_sub {fr to : Nat → Nat} {out S T r : Nat} (hb : Bd r fr to) (hT : Cl r fr to out T) (h : ∀ k, k < 7 → S.testBit k = true → T.testBit k = true) : ∀ q, q ≤ r → ∀ k, k < 7 → (inF fr to out S q).testBit k = true → T.testBit k = true
  | 0, _ => h
  | q + 1, hq => by
    have ih := inF_sub hb hT h q (by omega)
    intro k hk hk1
    rw [inF] at hk1
    by_cases ha : adB fr to out (inF fr to out S q) q = true
    · rw [if_pos ha, bit_or, Bool.or_eq_true] at hk1
      rcases hk1 with hk1 | hk1
      · exact ih k hk hk1
      · have e : to q = k := by simpa using hk1
        simp [adB] at ha
        have hbq := hb q (by omega)
        rw [← e]
        exact hT q (by omega) (ih _ (by omega) ha.1) ha.2.1
    · rw [if_neg ha] at hk1
      exact ih k hk hk1
def cloF (r : Nat) (fr to : Nat → Nat) (out : Nat) : Nat → Nat → Nat
  | 0, S => inF fr to out S r
  | k + 1, S => if moF fr to out S r = 0 then inF fr to out S r else cloF r fr to out k (inF fr to out S r)
theorem cloF_all {r out : Nat} {fr to : Nat → Nat} (hb : Bd r fr to) : ∀ k S, S < 128 → 7 ≤ pc S + k → cloF r fr to out k S < 128 ∧ (∀ j, S.testBit j = true → (cloF r fr to out k S).testBit j = true) ∧ Cl r fr to out (cloF r fr to out k S) ∧ ∀ T, Cl r fr to out T → (∀ j, j < 7 → S.testBit j = true → T.testBit j = true) → ∀ j, j < 7 → (cloF r fr to out k S).testBit j = true → T.testBit j = true
  | 0, S, hS, hk => by
    have e : S = 127 := pc_7 S hS (by omega)
    refine ⟨inF_lt hb hS r (Nat.le_refl r), fun j => inF_up r j, fun q hq _ _ => ?_, fun T hT h => inF_sub hb hT h r (Nat.le_refl r)⟩
    refine inF_up r _ ?_
    rw [e]
    exact all_bits _ (by have := hb q hq; omega)
  | k + 1, S, hS, hk => by
    rw [cloF]
    by_cases hm : moF fr to out S r = 0
    · rw [if_pos hm]
      obtain ⟨h1, h2⟩ := inF_no r hm
      rw [h1]
      refine ⟨hS, fun j h => h, fun q hq h3 h4 => ?_, fun T hT h => h⟩
      have := h2 q hq
      by_cases h5 : S.testBit (to q) = true
      · exact h5
      · rw [Bool.not_eq_true] at h5
        simp [adB, h3, h4, h5] at this
    · rw [if_neg hm]
      have hm1 : moF fr to out S r = 1 := by
        rcases moF_01 (fr := fr) (to := to) (out := out) (S := S) r with h | h
        · exact absurd h hm
        · exact h
      have hlt := inF_lt (out := out) hb hS r (Nat.le_refl r)
      have hpc : pc S < pc (inF fr to out S r) := pc_lt S hS _ hlt (sub_and hS (fun j _ h => inF_up r j h)) (Ne.symm (inF_yes hb hS r (Nat.le_refl r) hm1))
      obtain ⟨h1, h2, h3, h4⟩ := cloF_all (out := out) hb k _ hlt (by omega)
      exact ⟨h1, fun j h => h2 j (inF_up r j h), h3, fun T hT h => h4 T hT (inF_sub hb hT h r (Nat.le_refl r))⟩
theorem cloF_led {r start out : Nat} {fr to : Nat → Nat} (hb : Bd r fr to) (hs : start ≤ 6) (ho : out ≤ 7) (hso : start ≠ out) : cloF r fr to out 7 (2 ^ start) = led r fr to start out := by
  obtain ⟨h1, h2, h3, h4⟩ := cloF_all (out := out) hb 7 _ (two_lt hs) (by omega)
  apply mask_ext h1 (led_lt hb hs)
  intro k hk
  rw [Bool.eq_iff_iff]
  constructor
  · intro h
    refine h4 _ (led_cl hb hs ho) (fun j hj hj1 => ?_) k hk h
    rw [pow_bit] at hj1
    have e : start = j := by simpa using hj1
    rw [← e]
    exact led_start hs hso
  · intro h
    exact led_min hb hs ho (fun _ => h2 _ (by rw [pow_bit]; simp)) h3 k hk h
