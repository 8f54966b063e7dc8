/-! nearest, closed, tails, targets; ways past the owner -/
theorem it_forI {σ ρ : Type} {body : σ → Option (σ ⊕ ρ)} (I : Nat → σ → Prop) (Q : ρ → Prop) (N : Nat) (hs : ∀ i, i < N → ∀ s, I i s → ∃ s', body s = some (.inl s') ∧ I (i + 1) s') (he : ∀ s, I N s → ∃ r, body s = some (.inr r) ∧ Q r) (s0 : σ) (h0 : I 0 s0) (n : Nat) (hn : N < n) : ∃ r, it body n s0 = some r ∧ Q r := by
  have key : ∀ k i s fuel, i + k = N → I i s → k < fuel → ∃ r, it body fuel s = some r ∧ Q r := by
    intro k
    induction k with
    | zero =>
      intro i s fuel hi hI hf
      obtain ⟨fu, rfl⟩ : ∃ f', fuel = f' + 1 := ⟨fuel - 1, by omega⟩
      have e : i = N := by omega
      subst e
      obtain ⟨r, h1, h2⟩ := he s hI
      exact ⟨r, by rw [it, h1], h2⟩
    | succ k ih =>
      intro i s fuel hi hI hf
      obtain ⟨fu, rfl⟩ : ∃ f', fuel = f' + 1 := ⟨fuel - 1, by omega⟩
      obtain ⟨s', h1, h2⟩ := hs i (by omega) s hI
      obtain ⟨r, h3, h4⟩ := ih (i + 1) s' fu (by omega) h2 (by omega)
      exact ⟨r, by rw [it, h1]; exact h3, h4⟩
  exact key N 0 s0 n (by omega) h0 hn
theorem pc_two : ∀ S, S < 128 → ∀ x, x < 6 → S.testBit 6 = true → S.testBit x = true → 2 ≤ pc S := by decide +kernel
theorem bc_e {S : Nat} (h : S < 128) : f_J6_bitCount_0f7a4 (nI S) = some (nI (pc S)) := bc_d S h
def neF (n r : Nat) (fr to : Nat → Nat) (t : Nat) (m0 : Nat) : Nat → Nat × Nat
  | 0 => (6, m0)
  | x + 1 => if (!decide (x = t) && (bef n r fr to t).testBit x) && decide ((neF n r fr to t m0 x).2 < pc (bef n r fr to x)) then (x, pc (bef n r fr to x)) else neF n r fr to t m0 x
theorem bef_pc {n r x : Nat} {fr to : Nat → Nat} (hw : Web n r fr to) (hx : x < n) : pc (bef n r fr to x) = 0 ∨ 2 ≤ pc (bef n r fr to x) := by
  have hn := hw.1
  by_cases hc : (rch r fr to).testBit x = true
  · right
    have e : bef n r fr to x = sbF n r fr to x 7 := by unfold bef; rw [if_pos hc]
    rw [e]
    refine pc_two _ (sbF_lt 7 (by omega)) x (by omega) ?_ ?_
    · exact (sbF_bit 7).mpr ⟨by omega, Or.inr rfl, led6_out rfl (by omega) hw.bd⟩
    · exact (sbF_bit 7).mpr ⟨by omega, Or.inl hx, led_out (by omega)⟩
  · left
    unfold bef
    rw [if_neg hc]
    decide
theorem neF_01 {n r t : Nat} {fr to : Nat → Nat} (hw : Web n r fr to) : ∀ x, x ≤ n → (neF n r fr to t 0 x).1 = (neF n r fr to t 1 x).1 ∧ ((neF n r fr to t 0 x).2 = (neF n r fr to t 1 x).2 ∨ ((neF n r fr to t 0 x).2 = 0 ∧ (neF n r fr to t 1 x).2 = 1))
  | 0, _ => ⟨rfl, Or.inr ⟨rfl, rfl⟩⟩
  | x + 1, hx => by
    obtain ⟨h1, h2⟩ := neF_01 (t := t) hw x (by omega)
    have h3 := bef_pc hw (show x < n by omega)
    simp only [neF]
    by_cases hc : (!decide (x = t) && (bef n r fr to t).testBit x) = true
    · rw [hc]
      simp only [Bool.true_and, decide_eq_true_eq]
      by_cases h4 : (neF n r fr to t 1 x).2 < pc (bef n r fr to x)
      · rw [if_pos h4, if_pos (by omega)]
        exact ⟨rfl, Or.inl rfl⟩
      · rw [if_neg h4, if_neg (by omega)]
        exact ⟨h1, h2⟩
    · rw [Bool.not_eq_true] at hc
      rw [hc]
      exact ⟨h1, h2⟩
theorem neF_lt {n r t m0 : Nat} {fr to : Nat → Nat} (hm : m0 ≤ 7) : ∀ x, x ≤ 7 → (neF n r fr to t m0 x).1 ≤ 6 ∧ (neF n r fr to t m0 x).2 ≤ 7
  | 0, _ => ⟨Nat.le_refl 6, hm⟩
  | x + 1, hx => by
    have h := neF_lt (n := n) (r := r) (t := t) (fr := fr) (to := to) hm x (by omega)
    rw [neF]
    split
    · exact ⟨by show x ≤ 6; omega, pc_le _ bef_lt⟩
    · exact h
def near (n r : Nat) (fr to : Nat → Nat) (t : Nat) : Nat := (neF n r fr to t 1 n).1
theorem near_step {n r t i : Nat} {fr to : Nat → Nat} {f g : Nat → Int32} (hw : Web n r fr to) (hf : RI r fr f) (hg : RI r to g) (ht : t < n) (hi : i < n) : L_X3_nearestOf_15 (nI n) (nI r) f g (nI t) (nI (bef n r fr to t)) (nI (neF n r fr to t 0 i).1) (nI (neF n r fr to t 0 i).2) (nI i) = some (.inl (nI (neF n r fr to t 0 (i + 1)).1, nI (neF n r fr to t 0 (i + 1)).2, nI (i + 1))) := by
  have hn := hw.1
  have hbl := bef_lt (n := n) (r := r) (fr := fr) (to := to) (t := t)
  have hbi := bef_lt (n := n) (r := r) (fr := fr) (to := to) (t := i)
  have hpi := pc_le _ hbi
  have hni := neF_lt (n := n) (r := r) (t := t) (m0 := 0) (fr := fr) (to := to) (by omega) i (by omega)
  have h4 := standBefore_c hw hf hg hi
  have h5 := bc_e hbi
  unfold L_X3_nearestOf_15
  rw [h4, neF]
  generalize f_J6_bitCount_0f7a4 = BC at h5 ⊢
  by_cases h1 : i = t
  · subst h1
    simp (disch := omega) only [ifleF, if_true, L1, nI_ad]
    simp
  · simp (disch := omega) only [ifleF, ifeqF, holds_e, ob1_s, L0, ifb, L1, nI_ad, h5]
    by_cases h2 : (bef n r fr to t).testBit i = true
    · by_cases h3 : (neF n r fr to t 0 i).2 < pc (bef n r fr to i)
      · simp (disch := omega) only [ifleF, h2, if_true]
        simp [h1, h3]
      · simp (disch := omega) only [ifleT, h2, if_true]
        simp [h1, h3]
    · rw [Bool.not_eq_true] at h2
      simp [h1, h2]
theorem nearestOf_c {n r t : Nat} {fr to : Nat → Nat} {f g : Nat → Int32} (hw : Web n r fr to) (hf : RI r fr f) (hg : RI r to g) (ht : t < n) : f_X3_nearestOf (nI n) (nI r) f g (nI t) = some (nI (near n r fr to t)) := by
  have hn := hw.1
  have e0 : ((6 : Int32), (0 : Int32), (0 : Int32)) = (nI (neF n r fr to t 0 0).1, nI (neF n r fr to t 0 0).2, nI 0) := rfl
  have e1 : it (u3 (L_X3_nearestOf_15 (nI n) (nI r) f g (nI t) (nI (bef n r fr to t)))) FUEL (nI (neF n r fr to t 0 0).1, nI (neF n r fr to t 0 0).2, nI 0) = some (nI (neF n r fr to t 0 n).1) := by
    refine it_for (body := u3 (L_X3_nearestOf_15 (nI n) (nI r) f g (nI t) (nI (bef n r fr to t)))) (fun i => (nI (neF n r fr to t 0 i).1, nI (neF n r fr to t 0 i).2, nI i)) n _ (fun i hi => near_step hw hf hg ht hi) ?_ FUEL (FUEL_gt (by omega))
    show L_X3_nearestOf_15 (nI n) (nI r) f g (nI t) (nI (bef n r fr to t)) (nI (neF n r fr to t 0 n).1) (nI (neF n r fr to t 0 n).2) (nI n) = _
    unfold L_X3_nearestOf_15
    simp (disch := omega) only [ifleT]
  unfold f_X3_nearestOf near
  rw [standBefore_c hw hf hg ht, ob1_s, e0, e1, ob1_s, (neF_01 hw n (Nat.le_refl n)).1]
def tgt (r : Nat) (fr to : Nat → Nat) (a : Nat) : Nat := onF fr to (2 ^ a) r
theorem targetsOf_c {r a : Nat} {fr to : Nat → Nat} {f g : Nat → Int32} (hr : r ≤ 12) (hf : RI r fr f) (hg : RI r to g) (hb : Bd r fr to) (ha : a ≤ 6) : f_X3_targetsOf (nI r) f g (nI a) = some (nI (tgt r fr to a)) := by
  have := two_lt ha
  unfold f_X3_targetsOf tgt
  rw [bit_ee (by omega), ob1_s, oneOn_c hr hf hg hb (by omega)]
  rfl
def tail (r : Nat) (fr to : Nat → Nat) (t : Nat) : Nat := led r fr to t 7
theorem tailOf_c {r t : Nat} {fr to : Nat → Nat} {f g : Nat → Int32} (hr : r ≤ 12) (hf : RI r fr f) (hg : RI r to g) (hb : Bd r fr to) (ht : t ≤ 6) : f_X3_tailOf (nI r) f g (nI t) = some (nI (tail r fr to t)) := by
  unfold f_X3_tailOf tail
  rw [show f_X3_ledTo (nI r) f g (nI t) (7 : Int32) = some (nI (led r fr to t 7)) from ledTo_c (start := t) (out := 7) hr hf hg hb ht (by omega)]
  rfl
def opB (r : Nat) (fr to : Nat → Nat) (t q : Nat) : Bool := !(tail r fr to t).testBit (fr q) && ((tail r fr to t).testBit (to q) && !decide (to q = t))
def clsd (r : Nat) (fr to : Nat → Nat) (t : Nat) : Bool := decide (¬ fiF (opB r fr to t) r 0 < r)
theorem isClosed_c {r t : Nat} {fr to : Nat → Nat} {f g : Nat → Int32} (hr : r ≤ 12) (hf : RI r fr f) (hg : RI r to g) (hb : Bd r fr to) (ht : t ≤ 6) : f_X3_isClosed (nI r) f g (nI t) = some (b2i (clsd r fr to t)) := by
  have hl : tail r fr to t < 128 := led_lt hb ht
  unfold f_X3_isClosed clsd
  rw [tailOf_c hr hf hg hb ht, ob1_s, show it (u1 (L_X3_isClosed_8 (nI r) f g (nI t) (nI (tail r fr to t)))) FUEL (0 : Int32) = some (if fiF (opB r fr to t) r 0 < r then .inr (nI 0) else .inl ()) from ?_]
  · by_cases h : fiF (opB r fr to t) r 0 < r
    · rw [if_pos h]; simp [h, os0_r, b2i]; rfl
    · rw [if_neg h]; simp [h, os0_l, b2i]
  refine it_search (body := u1 (L_X3_isClosed_8 (nI r) f g (nI t) (nI (tail r fr to t)))) (fun i => nI i) (opB r fr to t) (fun _ => nI 0) () r (fun i hi hp => ?_) (fun i hi hp => ?_) ?_ FUEL (FUEL_gt (by omega))
  · show L_X3_isClosed_8 (nI r) f g (nI t) (nI (tail r fr to t)) (nI i) = _
    have hbi := hb i hi
    unfold L_X3_isClosed_8
    simp (disch := omega) only [ifleF, cl_nI, ifgd0, hf i hi, hg i hi, holds_e, ob1_s, L0, ifb, L1, nI_ad, ifgd2]
    by_cases h1 : (tail r fr to t).testBit (fr i) = true
    · simp [h1]
    · by_cases h2 : (tail r fr to t).testBit (to i) = true
      · have h3 : to i = t := by simpa [opB, h1, h2] using hp
        simp [h1, h2, h3]
      · simp [h1, h2]
  · show L_X3_isClosed_8 (nI r) f g (nI t) (nI (tail r fr to t)) (nI i) = _
    have hbi := hb i hi
    simp [opB] at hp
    obtain ⟨h1, h2, h3⟩ := hp
    unfold L_X3_isClosed_8
    simp (disch := omega) only [ifleF, cl_nI, ifgd0, hf i hi, hg i hi, holds_e, ob1_s, L0, ifb, L1, nI_ad, ifgd2, ifeqF]
    simp [h1, h2]
  · show L_X3_isClosed_8 (nI r) f g (nI t) (nI (tail r fr to t)) (nI r) = _
    unfold L_X3_isClosed_8
    simp (disch := omega) only [ifleT]
def glF (n : Nat) (kd ow : Nat → Nat) : Nat → Nat
  | 0 => 0
  | t + 1 => if glF n kd ow t < lock n kd ow t then lock n kd ow t else glF n kd ow t
theorem lock_le {n t : Nat} {kd ow : Nat → Nat} (hn : n ≤ 6) (hc : AC n ow) (ht : t < n) : 1 ≤ lock n kd ow t ∧ lock n kd ow t ≤ 12 := by
  have := AC_lev hn hc ht
  unfold lock lck
  split
  · omega
  · split <;> omega
theorem glF_le {n : Nat} {kd ow : Nat → Nat} (hn : n ≤ 6) (hc : AC n ow) : ∀ t, t ≤ n → glF n kd ow t ≤ 12
  | 0, _ => by rw [glF]; omega
  | t + 1, h => by
    have h1 := glF_le (kd := kd) hn hc t (by omega)
    have h2 := lock_le (kd := kd) hn hc (show t < n by omega)
    rw [glF]
    split <;> omega
theorem greatestLock_c {n : Nat} {kd ow : Nat → Nat} {k a : Nat → Int32} (hn : n ≤ 6) (hk : RI n kd k) (ha : RI n ow a) (hc : AC n ow) (hb : ∀ t, t < n → kd t ≤ 2) : f_X3_greatestLock (nI n) k a = some (nI (glF n kd ow n)) := by
  unfold f_X3_greatestLock
  rw [show it (u2 (L_X3_greatestLock_4 (nI n) k a)) FUEL ((0 : Int32), (0 : Int32)) = some (nI (glF n kd ow n)) from ?_]
  · rfl
  refine it_for (body := u2 (L_X3_greatestLock_4 (nI n) k a)) (fun i => (nI (glF n kd ow i), nI i)) n _ (fun i hi => ?_) ?_ FUEL (FUEL_gt (by omega))
  · show L_X3_greatestLock_4 (nI n) k a (nI (glF n kd ow i)) (nI i) = some (.inl (nI (glF n kd ow (i + 1)), nI (i + 1)))
    have h1 := glF_le (kd := kd) hn hc i (by omega)
    have h2 := lock_le (kd := kd) hn hc hi
    unfold L_X3_greatestLock_4
    rw [lockOf_c hn hk ha hc hb hi, glF]
    by_cases h : glF n kd ow i < lock n kd ow i
    · simp (disch := omega) only [ifleF, ob1_s, ifltT, if_pos h, L1, nI_ad]
    · simp (disch := omega) only [ifleF, ob1_s, ifltF, if_neg h, L1, nI_ad]
  · show L_X3_greatestLock_4 (nI n) k a (nI (glF n kd ow n)) (nI n) = _
    unfold L_X3_greatestLock_4
    simp (disch := omega) only [ifleT]
