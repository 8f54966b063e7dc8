/-! READINGS, KINDS, OWNERS -/
theorem it_goes {σ ρ : Type} {body : σ → Option (σ ⊕ ρ)} (I : Nat → σ → Prop) (Q : ρ → Prop) (N : Nat) (hs : ∀ i s, i < N → I i s → (∃ s', body s = some (.inl s') ∧ I (i + 1) s') ∨ (∃ r, body s = some (.inr r) ∧ Q r)) (he : ∀ s, I N s → ∃ r, body s = some (.inr r) ∧ Q r) (n : Nat) (hn : N < n) (s : σ) (h0 : I 0 s) : ∃ r, it body n s = some r ∧ Q r := by
  have key : ∀ k i, i + k = N → ∀ n s, k < n → I i s → ∃ r, it body n s = some r ∧ Q r := by
    intro k
    induction k with
    | zero =>
      intro i hi n s hn h
      obtain ⟨n', rfl⟩ : ∃ n', n = n' + 1 := ⟨n - 1, by omega⟩
      have e : i = N := by omega
      subst e
      obtain ⟨r, h1, h2⟩ := he s h
      exact ⟨r, by rw [it, h1], h2⟩
    | succ k ih =>
      intro i hi n s hn h
      obtain ⟨n', rfl⟩ : ∃ n', n = n' + 1 := ⟨n - 1, by omega⟩
      rcases hs i s (by omega) h with ⟨s', h1, h2⟩ | ⟨r, h1, h2⟩
      · obtain ⟨r, h3, h4⟩ := ih (i + 1) (by omega) n' s' (by omega) h2
        exact ⟨r, by rw [it, h1]; exact h3, h4⟩
      · exact ⟨r, by rw [it, h1], h2⟩
  exact key N 0 (by omega) n s hn h0
theorem ob5_s {A1 A2 A3 A4 A5 β : Type} {a1 : A1} {a2 : A2} {a3 : A3} {a4 : A4} {a5 : A5} {f : A1 → A2 → A3 → A4 → A5 → Option β} : ob5 (some (a1, a2, a3, a4, a5)) f = f a1 a2 a3 a4 a5 := id rfl
theorem ob6_s {A1 A2 A3 A4 A5 A6 β : Type} {a1 : A1} {a2 : A2} {a3 : A3} {a4 : A4} {a5 : A5} {a6 : A6} {f : A1 → A2 → A3 → A4 → A5 → A6 → Option β} : ob6 (some (a1, a2, a3, a4, a5, a6)) f = f a1 a2 a3 a4 a5 a6 := id rfl
theorem ob7_s {A1 A2 A3 A4 A5 A6 A7 β : Type} {a1 : A1} {a2 : A2} {a3 : A3} {a4 : A4} {a5 : A5} {a6 : A6} {a7 : A7} {f : A1 → A2 → A3 → A4 → A5 → A6 → A7 → Option β} : ob7 (some (a1, a2, a3, a4, a5, a6, a7)) f = f a1 a2 a3 a4 a5 a6 a7 := id rfl
def mkF (P : Nat → Bool) : Nat → Nat
  | 0 => 0
  | i + 1 => if P i then mkF P i ||| 2 ^ i else mkF P i
theorem mkF_lt {P : Nat → Bool} : ∀ i, i ≤ 7 → mkF P i < 128
  | 0, _ => by rw [mkF]; decide
  | i + 1, h => by
    rw [mkF]
    split
    · exact or_lt (mkF_lt i (by omega)) (pow_lt7 i (by omega))
    · exact mkF_lt i (by omega)
theorem mkF_bit {P : Nat → Bool} {k : Nat} : ∀ i, (mkF P i).testBit k = (decide (k < i) && P k)
  | 0 => by simp [mkF]
  | i + 1 => by
    rw [mkF]
    by_cases h : P i = true
    · rw [if_pos h, bit_or, mkF_bit i]
      by_cases e : i = k
      · subst e; simp [h]
      · have : (k < i + 1) = (k < i) := by apply propext; constructor <;> intro <;> omega
        simp [e, this]
    · rw [if_neg h, mkF_bit i]
      rw [Bool.not_eq_true] at h
      by_cases e : i = k
      · subst e; simp [h]
      · have : (k < i + 1) = (k < i) := by apply propext; constructor <;> intro <;> omega
        simp [this]
def RDA (n c : Nat) (on ot le : Nat → Nat) : Prop := c ≤ 8 ∧ ∀ q, q < c → on q < n ∧ ot q < n ∧ le q ≤ 1
def RR (c : Nat) (on ot le : Nat → Nat) (cnt : Int32) (o p l : Nat → Int32) : Prop := cnt = nI c ∧ RI c on o ∧ RI c ot p ∧ RI c le l
def bdF (n : Nat) (kd ow on ot le : Nat → Nat) (q : Nat) : Bool := decide (¬ (lock n kd ow (on q) < lock n kd ow (ot q) ↔ le q = 1))
def so (n : Nat) (kd ow : Nat → Nat) (c : Nat) (on ot le : Nat → Nat) : Bool := !decide (fiF (bdF n kd ow on ot le) c 0 < c)
theorem become_c {n r : Nat} {kd ow fr to : Nat → Nat} {c0 r0 : Int32} {k a f g : Nat → Int32} (hn : n ≤ 6) (hr : r ≤ 12) (w : WR n r kd ow fr to c0 r0 k a f g) (tk ta tf tg : Nat → Int32) : ∃ K A F G, f_X3_become tk ta tf tg c0 r0 k a f g = some (nI n, nI r, K, A, F, G) ∧ RI n kd K ∧ RI n ow A ∧ RI r fr F ∧ RI r to G := by
  obtain ⟨rfl, rfl, hk, ha, hf, hg⟩ := w
  refine ⟨va_cpy k tk 0 0 6, va_cpy a ta 0 0 6, va_cpy f tf 0 0 12, va_cpy g tg 0 0 12, ?_, fun i hi => ?_, fun i hi => ?_, fun i hi => ?_, fun i hi => ?_⟩
  · unfold f_X3_become
    rw [if_neg (by decide), if_neg (by decide), if_neg (by decide), if_neg (by decide)]
    rfl
  · rw [pk_cpy_in (by omega) (by omega), Nat.sub_zero, Nat.zero_add]; exact hk i hi
  · rw [pk_cpy_in (by omega) (by omega), Nat.sub_zero, Nat.zero_add]; exact ha i hi
  · rw [pk_cpy_in (by omega) (by omega), Nat.sub_zero, Nat.zero_add]; exact hf i hi
  · rw [pk_cpy_in (by omega) (by omega), Nat.sub_zero, Nat.zero_add]; exact hg i hi
theorem btw_01 {x : Int32} (h : btw x 0 1 = true) : ∃ j, j ≤ 1 ∧ x = nI j := by
  simp only [btw, decide_eq_true_eq] at h
  rcases pk_ix x (n := 2) (by omega) with q | q | q
  · exact absurd q h.1
  · exfalso
    apply h.2
    rw [Int32.lt_iff_toInt_lt]
    rw [Int32.le_iff_toInt_le] at q
    have e1 : (nI 2).toInt = 2 := by decide
    have e2 : (1 : Int32).toInt = 1 := by decide
    rw [e2]; omega
  · obtain ⟨j, h1, h2⟩ := q
    exact ⟨j, by omega, h2⟩
theorem btw_c0 {x : Int32} {c : Nat} (hc : c ≤ 1000) (h : btw x 0 (nI c) = true) : ∃ j, j ≤ c ∧ x = nI j := by
  simp only [btw, decide_eq_true_eq] at h
  rcases pk_ix x (n := c + 1) (by omega) with q | q | q
  · exact absurd q h.1
  · exfalso
    apply h.2
    rw [Int32.lt_iff_toInt_lt]
    rw [Int32.le_iff_toInt_le] at q
    rw [nI_toInt (by omega)] at q ⊢
    omega
  · obtain ⟨j, h1, h2⟩ := q
    exact ⟨j, by omega, h2⟩
section TOLD
variable {n r c : Nat} {kd ow fr to on ot le : Nat → Nat} {c1 r1 c2 r2 e1 e2 : Int32} {k1 a1 f1 g1 k2 a2 f2 g2 o1 p1 l1 o2 p2 l2 : Nat → Int32}
theorem RI_mono {m n : Nat} {f : Nat → Nat} {a : Nat → Int32} (h : RI n f a) (hm : m ≤ n) : RI m f a := fun i hi => h i (by omega)
theorem RI_at {n t v : Nat} {f : Nat → Nat} {a b : Nat → Int32} (h : RI n f a) (hb : ∀ j, j ≠ t → b j = a j) (hv : b t = nI v) : RI n (upN f t v) b := by
  intro i hi
  unfold upN
  by_cases e : i = t
  · subst e; rw [if_pos rfl]; exact hv
  · rw [if_neg e, hb i e]; exact h i hi
theorem RI_back {n t : Nat} {f : Nat → Nat} {a b : Nat → Int32} (h : RI n f a) (hb : ∀ j, j ≠ t → b j = a j) : RI n f (upd b t (a t)) := by
  intro i hi
  unfold upd
  by_cases e : i = t
  · subst e; rw [if_pos rfl]; exact h i hi
  · rw [if_neg e, hb i e]; exact h i hi
theorem upd_at {a : Nat → Int32} {t : Nat} {v : Int32} : upd a t v t = v := by unfold upd; rw [if_pos rfl]
theorem upd_no {a b : Nat → Int32} {t : Nat} {v : Int32} (h : ∀ j, j ≠ t → a j = b j) : ∀ j, j ≠ t → upd a t v j = b j := by
  intro j hj
  unfold upd
  rw [if_neg hj]
  exact h j hj
theorem kd_up {n t i : Nat} {kd : Nat → Nat} (h : ∀ t, t < n → kd t ≤ 2) (hi : i ≤ 2) : ∀ u, u < n → upN kd t i u ≤ 2 := by
  intro u hu
  unfold upN
  split
  · exact hi
  · exact h u hu
/-! owners -/
theorem isW_no {i : Nat} (hn : n ≤ 6) (hi : i ≤ 6) (h : ¬ (i < n ∨ i = 6)) : isW n (nI i) = false := by
  unfold isW
  rw [isT_no (by omega) (by omega)]
  have : ¬ nI i = 6 := fun q => by
    have := (nI_eq (a := i) (b := 6) (by omega) (by omega)).mp q
    omega
  simp [this]
def oP (n : Nat) (kd ow : Nat → Nat) (c : Nat) (on ot le : Nat → Nat) (t i : Nat) : Bool := decide ((i < n ∨ i = 6) ∧ i ≠ t) && (!und ow i t && so n kd (upN ow t i) c on ot le)
end TOLD
