/-! THE WEB: things, owners, references, as numbers -/
def RI (n : Nat) (f : Nat → Nat) (a : Nat → Int32) : Prop := ∀ i, i < n → a i = nI (f i)
def isT (n : Nat) (x : Int32) : Bool := decide (¬ x < 0 ∧ ¬ nI n ≤ x)
def isW (n : Nat) (x : Int32) : Bool := isT n x || decide (x = 6 ∧ 0 < n)
theorem isThing_c (n : Nat) (x : Int32) : f_X3_isThing (nI n) x = some (b2i (isT n x)) := by
  unfold f_X3_isThing isT
  by_cases h1 : x < 0 <;> by_cases h2 : nI n ≤ x <;> simp [h1, h2, b2i]
theorem isT_nI {n t : Nat} (hn : n ≤ 6) (h : t < n) : isT n (nI t) = true := by
  unfold isT
  simp only [decide_eq_true_eq]
  exact ⟨nI_pos (by omega), nI_ge h (by omega)⟩
theorem isT_no {n t : Nat} (h : n ≤ t) (ht : t < 2147483648) : isT n (nI t) = false := by
  unfold isT
  simp only [decide_eq_false_iff_not]
  intro q
  exact q.2 (nI_le h (by omega))
theorem isT_ex {n : Nat} {x : Int32} (hn : n ≤ 6) (h : isT n x = true) : ∃ t, t < n ∧ x = nI t := by
  unfold isT at h
  simp only [decide_eq_true_eq] at h
  rcases pk_ix x (n := n) (by omega) with q | q | q
  · exact absurd q h.1
  · exact absurd q h.2
  · exact q
theorem isW_c (n : Nat) (hn : n ≤ 6) (x : Int32) : f_X3_mayOwn (nI n) x = some (b2i (isW n x)) := by
  unfold f_X3_mayOwn isW
  rw [isThing_c, ob1_s]
  by_cases h1 : isT n x = true
  · rw [h1]; rfl
  · rw [Bool.not_eq_true] at h1
    rw [h1]
    by_cases h2 : x = 6
    · subst h2
      by_cases h3 : 0 < n
      · have h4 : ¬ nI n ≤ 0 := nI_nle h3 (by omega)
        simp [h3, h4, b2i]
      · have h5 : n = 0 := by omega
        subst h5
        simp [b2i]; decide
    · simp [h2, b2i]
theorem isW_ex {n : Nat} {x : Int32} (hn : n ≤ 6) (h : isW n x = true) : ∃ a, (a < n ∨ a = 6) ∧ x = nI a := by
  unfold isW at h
  rw [Bool.or_eq_true] at h
  rcases h with h | h
  · obtain ⟨t, h1, h2⟩ := isT_ex hn h
    exact ⟨t, Or.inl h1, h2⟩
  · simp only [decide_eq_true_eq] at h
    exact ⟨6, Or.inr rfl, h.1⟩
theorem isW_nI {n a : Nat} (hn : n ≤ 6) (h0 : 0 < n) (h : a < n ∨ a = 6) : isW n (nI a) = true := by
  unfold isW
  rcases h with h | h
  · rw [isT_nI hn h]; rfl
  · subst h
    have : (nI 6 = 6) := rfl
    simp [h0, this]
theorem kindOf_c {n t : Nat} {kd : Nat → Nat} {a : Nat → Int32} (hn : n ≤ 6) (ha : RI n kd a) (h : t < n) : f_X3_kindOf (nI n) a (nI t) = some (nI (kd t)) := by
  unfold f_X3_kindOf
  rw [isThing_c, isT_nI hn h, ob1_s]
  simp (disch := omega) only [L0, ifb, ifgd2, cl_nI, ha t h, if_true]
theorem ownerOf_c {n t : Nat} {ow : Nat → Nat} {a : Nat → Int32} (hn : n ≤ 6) (ha : RI n ow a) (h : t < n) : f_X3_ownerOf (nI n) a (nI t) = some (nI (ow t)) := by
  unfold f_X3_ownerOf
  rw [isThing_c, isT_nI hn h, ob1_s]
  simp (disch := omega) only [L0, ifb, ifgd2, cl_nI, ha t h, if_true]
/-! owners: chains up to the world -/
def Ch (n : Nat) (ow : Nat → Nat) : Nat → Nat → Prop
  | 0, t => t = 6
  | d + 1, t => t < n ∧ Ch n ow d (ow t)
def AC (n : Nat) (ow : Nat → Nat) : Prop := ∀ t, t < n → ∃ d, Ch n ow d t
theorem Ch_one {n : Nat} {ow : Nat → Nat} (hn : n ≤ 6) : ∀ (d e t : Nat), Ch n ow d t → Ch n ow e t → d = e
  | 0, 0, _, _, _ => rfl
  | 0, e + 1, t, h1, h2 => by
    have h1 : t = 6 := h1
    have h2 := h2.1
    omega
  | d + 1, 0, t, h1, h2 => by
    have h2 : t = 6 := h2
    have h1 := h1.1
    omega
  | d + 1, e + 1, t, h1, h2 => by rw [Ch_one hn d e (ow t) h1.2 h2.2]
def chM (ow : Nat → Nat) : Nat → Nat → Nat
  | 0, _ => 0
  | d + 1, t => chM ow d (ow t) ||| 2 ^ t
theorem chM_mem {n : Nat} {ow : Nat → Nat} : ∀ (d t x : Nat), Ch n ow d t → (chM ow d t).testBit x = true → ∃ e, e ≤ d ∧ 1 ≤ e ∧ Ch n ow e x
  | 0, t, x, _, h => by simp [chM] at h
  | d + 1, t, x, hc, h => by
    rw [chM, bit_or, Bool.or_eq_true] at h
    rcases h with h | h
    · obtain ⟨e, h1, h2, h3⟩ := chM_mem d (ow t) x hc.2 h
      exact ⟨e, by omega, h2, h3⟩
    · have h : t = x := by simpa using h
      subst h
      exact ⟨d + 1, by omega, by omega, hc⟩
theorem chM_pc {n : Nat} {ow : Nat → Nat} (hn : n ≤ 6) : ∀ (d t : Nat), Ch n ow d t → chM ow d t < 64 ∧ pc (chM ow d t) = d
  | 0, _, _ => ⟨by rw [chM]; decide, by rw [chM]; decide⟩
  | d + 1, t, hc => by
    obtain ⟨h1, h2⟩ := chM_pc hn d (ow t) hc.2
    have ht := hc.1
    have hb : (chM ow d (ow t)).testBit t = false := by
      rw [← Bool.not_eq_true]
      intro h
      obtain ⟨e, h3, h4, h5⟩ := chM_mem d (ow t) t hc.2 h
      have := Ch_one hn e (d + 1) t h5 hc
      omega
    refine ⟨?_, ?_⟩
    · exact Nat.or_lt_two_pow (n := 6) h1 (Nat.pow_lt_pow_right (by decide) (by omega))
    · rw [chM, pc_up _ (by omega) t (by omega) hb, h2]
theorem Ch_le {n : Nat} {ow : Nat → Nat} (hn : n ≤ 6) {d t : Nat} (h : Ch n ow d t) : d ≤ 6 := by
  obtain ⟨h1, h2⟩ := chM_pc hn d t h
  have h3 : ∀ S, S < 64 → pc S ≤ 6 := by decide +kernel
  have := h3 _ h1
  omega
def anc (ow : Nat → Nat) (t : Nat) : Nat → Nat
  | 0 => t
  | i + 1 => ow (anc ow t i)
theorem anc_s (ow : Nat → Nat) (t : Nat) : ∀ i, anc ow (ow t) i = anc ow t (i + 1)
  | 0 => rfl
  | i + 1 => by rw [anc, anc_s ow t i]; rfl
theorem Ch_anc {n : Nat} {ow : Nat → Nat} : ∀ (d t : Nat), Ch n ow d t → (∀ i, i < d → anc ow t i < n) ∧ anc ow t d = 6
  | 0, t, h => ⟨fun i hi => by omega, h⟩
  | d + 1, t, h => by
    obtain ⟨h1, h2⟩ := Ch_anc d (ow t) h.2
    refine ⟨fun i hi => ?_, by rw [← anc_s]; exact h2⟩
    cases i with
    | zero => exact h.1
    | succ i => rw [← anc_s]; exact h1 i (by omega)
def lvF (n : Nat) (ow : Nat → Nat) : Nat → Nat → Nat
  | 0, _ => 0
  | k + 1, t => if t < n then lvF n ow k (ow t) + 1 else 0
def lev (n : Nat) (ow : Nat → Nat) (t : Nat) : Nat := lvF n ow 7 t
theorem Ch_lvF {n : Nat} {ow : Nat → Nat} (hn : n ≤ 6) : ∀ (d k t : Nat), Ch n ow d t → d ≤ k → lvF n ow k t = d
  | 0, 0, _, _, _ => rfl
  | 0, k + 1, t, h, _ => by
    have h : t = 6 := h
    rw [lvF, if_neg (by omega)]
  | d + 1, 0, _, _, h => by omega
  | d + 1, k + 1, t, h, hk => by
    rw [lvF, if_pos h.1, Ch_lvF hn d k (ow t) h.2 (by omega)]
theorem Ch_lev {n : Nat} {ow : Nat → Nat} (hn : n ≤ 6) {d t : Nat} (h : Ch n ow d t) : lev n ow t = d := Ch_lvF hn d 7 t h (by have := Ch_le hn h; omega)
theorem AC_lev {n : Nat} {ow : Nat → Nat} (hn : n ≤ 6) (h : AC n ow) {t : Nat} (ht : t < n) : Ch n ow (lev n ow t) t ∧ 1 ≤ lev n ow t ∧ lev n ow t ≤ 6 := by
  obtain ⟨d, hd⟩ := h t ht
  rw [Ch_lev hn hd]
  refine ⟨hd, ?_, Ch_le hn hd⟩
  cases d with
  | zero =>
    have : t = 6 := hd
    omega
  | succ d => omega
theorem levelOf_c {n t : Nat} {ow : Nat → Nat} {a : Nat → Int32} (hn : n ≤ 6) (ha : RI n ow a) (hc : AC n ow) (h : t < n) : f_X3_levelOf (nI n) a (nI t) = some (nI (lev n ow t)) := by
  obtain ⟨h1, h2, h3⟩ := AC_lev hn hc h
  generalize lev n ow t = d at h1 h2 h3 ⊢
  obtain ⟨h4, h5⟩ := Ch_anc d t h1
  unfold f_X3_levelOf
  rw [show it (u3 (L_X3_levelOf_7 (nI n) a)) FUEL ((0 : Int32), nI t, (0 : Int32)) = some (nI d) from ?_]
  · rfl
  refine it_for (body := u3 (L_X3_levelOf_7 (nI n) a)) (fun i => (nI i, nI (anc ow t i), nI i)) d (nI d) (fun i hi => ?_) ?_ FUEL (FUEL_gt (by omega))
  · show L_X3_levelOf_7 (nI n) a (nI i) (nI (anc ow t i)) (nI i) = _
    have hb := h4 i hi
    unfold L_X3_levelOf_7
    rw [isThing_c, isT_nI hn hb]
    simp (disch := omega) only [L0, L1, L6, ifleF, ob1_s, ifb, ifgd2, cl_nI, ha _ hb, if_true, nI_ad]
    rfl
  · show L_X3_levelOf_7 (nI n) a (nI d) (nI (anc ow t d)) (nI d) = _
    unfold L_X3_levelOf_7
    rw [isThing_c, h5, isT_no (by omega) (by omega)]
    by_cases hd : 6 ≤ d
    · simp (disch := omega) only [L6, ifleT]
    · simp (disch := omega) only [L0, L1, L6, ifleF, ob1_s, ifb]
      rfl
def lck (k l : Nat) : Nat := if k = 1 then l + 1 else if k = 2 then 2 * l else l
def lock (n : Nat) (kd ow : Nat → Nat) (t : Nat) : Nat := lck (kd t) (lev n ow t)
theorem lockOf_c {n t : Nat} {kd ow : Nat → Nat} {k a : Nat → Int32} (hn : n ≤ 6) (hk : RI n kd k) (ha : RI n ow a) (hc : AC n ow) (hb : ∀ t, t < n → kd t ≤ 2) (h : t < n) : f_X3_lockOf (nI n) k a (nI t) = some (nI (lock n kd ow t)) := by
  unfold f_X3_lockOf lock lck
  rw [levelOf_c hn ha hc h, ob1_s, kindOf_c hn hk h, ob1_s]
  have hb := hb t h
  by_cases h1 : kd t = 1
  · simp (disch := omega) only [L1, L2, ifeqT, nI_ad, h1, if_true]
  · by_cases h2 : kd t = 2
    · simp (disch := omega) only [L1, L2, ifeqT, ifeqF, nI_ml, h2, if_true]
      rfl
    · simp (disch := omega) only [L1, L2, ifeqF, if_neg h1, if_neg h2]
def unF (ow : Nat → Nat) (t : Nat) : Nat → Nat → Bool
  | 0, _ => false
  | k + 1, u => decide (ow u = t) || unF ow t k (ow u)
def und (ow : Nat → Nat) (u t : Nat) : Bool := unF ow t 6 u
theorem isUnder_c {n u t : Nat} {ow : Nat → Nat} {a : Nat → Int32} (hn : n ≤ 6) (ha : RI n ow a) (hw : ∀ t, t < n → ow t < n ∨ ow t = 6) (h6 : ∀ t, n ≤ t → ow t = 6) (ht : t < n) (hu : u < n ∨ u = 6) : f_X3_isUnder (nI n) a (nI u) (nI t) = some (b2i (und ow u t)) := by
  have key : ∀ k i u fuel, i + k = 6 → (u < n ∨ u = 6) → k < fuel → it (u2 (L_X3_isUnder_5 (nI n) a (nI t))) fuel (nI u, nI i) = some (if unF ow t k u then .inr (nI 1) else .inl ()) := by
    intro k
    induction k with
    | zero =>
      intro i u fuel hi hu hf
      obtain ⟨f, rfl⟩ : ∃ f, fuel = f + 1 := ⟨fuel - 1, by omega⟩
      rw [it, show u2 (L_X3_isUnder_5 (nI n) a (nI t)) (nI u, nI i) = some (.inr (.inl ())) from ?_]
      · rfl
      show L_X3_isUnder_5 (nI n) a (nI t) (nI u) (nI i) = _
      unfold L_X3_isUnder_5
      simp (disch := omega) only [L6, ifleT]
    | succ k ih =>
      intro i u fuel hi hu hf
      obtain ⟨f, rfl⟩ : ∃ f, fuel = f + 1 := ⟨fuel - 1, by omega⟩
      by_cases hun : u < n
      · have hou := hw u hun
        by_cases hot : ow u = t
        · rw [it, show u2 (L_X3_isUnder_5 (nI n) a (nI t)) (nI u, nI i) = some (.inr (.inr (nI 1))) from ?_]
          · simp [unF, hot]
          show L_X3_isUnder_5 (nI n) a (nI t) (nI u) (nI i) = _
          unfold L_X3_isUnder_5
          rw [isThing_c, isT_nI hn hun]
          simp (disch := omega) only [L0, L1, L6, ifleF, ob1_s, ifb, ifgd2, cl_nI, ha _ hun, if_true, ifeqT]
        · rw [it, show u2 (L_X3_isUnder_5 (nI n) a (nI t)) (nI u, nI i) = some (.inl (nI (ow u), nI (i + 1))) from ?_]
          · show it _ f (nI (ow u), nI (i + 1)) = _
            rw [ih (i + 1) (ow u) f (by omega) hou (by omega)]
            simp [unF, hot]
          show L_X3_isUnder_5 (nI n) a (nI t) (nI u) (nI i) = _
          unfold L_X3_isUnder_5
          rw [isThing_c, isT_nI hn hun]
          simp (disch := omega) only [L0, L1, L6, ifleF, ob1_s, ifb, ifgd2, cl_nI, ha _ hun, if_true, ifeqF, nI_ad]
      · have hu6 : u = 6 := by omega
        rw [it, show u2 (L_X3_isUnder_5 (nI n) a (nI t)) (nI u, nI i) = some (.inr (.inl ())) from ?_]
        · have : ∀ k, unF ow t k 6 = false := by
            intro k
            induction k with
            | zero => rfl
            | succ k ih =>
              rw [unF, h6 6 (by omega), ih]
              simp; omega
          rw [hu6, this]; rfl
        show L_X3_isUnder_5 (nI n) a (nI t) (nI u) (nI i) = _
        unfold L_X3_isUnder_5
        rw [isThing_c, hu6, isT_no (by omega) (by omega)]
        simp (disch := omega) only [L0, L6, ifleF, ob1_s, ifb]
        rfl
  unfold f_X3_isUnder und
  rw [show it (u2 (L_X3_isUnder_5 (nI n) a (nI t))) FUEL (nI u, (0 : Int32)) = _ from key 6 0 u FUEL (by omega) hu (FUEL_gt (by omega))]
  cases unF ow t 6 u <;> rfl
theorem unF6 {ow : Nat → Nat} {t n : Nat} (hn : n ≤ 6) (h6 : ∀ t, n ≤ t → ow t = 6) (ht : t < n) : ∀ k, unF ow t k 6 = false := by
  intro k
  induction k with
  | zero => rfl
  | succ k ih =>
    rw [unF, h6 6 (by omega), ih]
    simp; omega
