/-! READINGS, KINDS, OWNERS -/
theorem it_goes {σ ρ : Type} {body : σ → Option (σ ⊕ ρ)} (I : Nat → σ → Prop) (Q : ρ → Prop) (N : Nat) (hs : ∀ i s, i < N → I i s → (∃ s', body s = some (.inl s') ∧ I (i + 1) s') ∨ (∃ r, body s = some (.inr r) ∧ Q r)) (he : ∀ s, I N s → ∃ r, body s = some (.inr r) ∧ Q r) (n : Nat) (hn : N < n) (s : σ) (h0 : I 0 s) : ∃ r, it body n s = some r ∧ Q r := by
  have key : ∀ k i, i + k = N → ∀ n s, k < n → I i s → ∃ r, it body n s = some r ∧ Q r := by
    intro k
    induction k with
    | zero =>
      intro i hi n s hn h
      obtain ⟨n', rfl⟩ : ∃ n', n = n' + 1 := ⟨n - 1, by omega⟩
      have e : i = N := by omega
      subst e
      obtain ⟨r, h1, h2⟩ := he s h
      exact ⟨r, by rw [it, h1], h2⟩
    | succ k ih =>
      intro i hi n s hn h
      obtain ⟨n', rfl⟩ : ∃ n', n = n' + 1 := ⟨n - 1, by omega⟩
      rcases hs i s (by omega) h with ⟨s', h1, h2⟩ | ⟨r, h1, h2⟩
      · obtain ⟨r, h3, h4⟩ := ih (i + 1) (by omega) n' s' (by omega) h2
        exact ⟨r, by rw [it, h1]; exact h3, h4⟩
      · exact ⟨r, by rw [it, h1], h2⟩
  exact key N 0 (by omega) n s hn h0
theorem ob5_s {A1 A2 A3 A4 A5 β : Type} {a1 : A1} {a2 : A2} {a3 : A3} {a4 : A4} {a5 : A5} {f : A1 → A2 → A3 → A4 → A5 → Option β} : ob5 (some (a1, a2, a3, a4, a5)) f = f a1 a2 a3 a4 a5 := id rfl
theorem ob6_s {A1 A2 A3 A4 A5 A6 β : Type} {a1 : A1} {a2 : A2} {a3 : A3} {a4 : A4} {a5 : A5} {a6 : A6} {f : A1 → A2 → A3 → A4 → A5 → A6 → Option β} : ob6 (some (a1, a2, a3, a4, a5, a6)) f = f a1 a2 a3 a4 a5 a6 := id rfl
theorem ob7_s {A1 A2 A3 A4 A5 A6 A7 β : Type} {a1 : A1} {a2 : A2} {a3 : A3} {a4 : A4} {a5 : A5} {a6 : A6} {a7 : A7} {f : A1 → A2 → A3 → A4 → A5 → A6 → A7 → Option β} : ob7 (some (a1, a2, a3, a4, a5, a6, a7)) f = f a1 a2 a3 a4 a5 a6 a7 := id rfl
def mkF (P : Nat → Bool) : Nat → Nat
  | 0 => 0
  | i + 1 => if P i then mkF P i ||| 2 ^ i else mkF P i
theorem mkF_lt {P : Nat → Bool} : ∀ i, i ≤ 7 → mkF P i < 128
  | 0, _ => by rw [mkF]; decide
  | i + 1, h => by
    rw [mkF]
    split
    · exact or_lt (mkF_lt i (by omega)) (pow_lt7 i (by omega))
    · exact mkF_lt i (by omega)
theorem mkF_bit {P : Nat → Bool} {k : Nat} : ∀ i, (mkF P i).testBit k = (decide (k < i) && P k)
  | 0 => by simp [mkF]
  | i + 1 => by
    rw [mkF]
    by_cases h : P i = true
    · rw [if_pos h, bit_or, mkF_bit i]
      by_cases e : i = k
      · subst e; simp [h]
      · have : (k < i + 1) = (k < i) := by apply propext; constructor <;> intro <;> omega
        simp [e, this]
    · rw [if_neg h, mkF_bit i]
      rw [Bool.not_eq_true] at h
      by_cases e : i = k
      · subst e; simp [h]
      · have : (k < i + 1) = (k < i) := by apply propext; constructor <;> intro <;> omega
        simp [this]
def RDA (n c : Nat) (on ot le : Nat → Nat) : Prop := c ≤ 8 ∧ ∀ q, q < c → on q < n ∧ ot q < n ∧ le q ≤ 1
def RR (c : Nat) (on ot le : Nat → Nat) (cnt : Int32) (o p l : Nat → Int32) : Prop := cnt = nI c ∧ RI c on o ∧ RI c ot p ∧ RI c le l
def bdF (n : Nat) (kd ow on ot le : Nat → Nat) (q : Nat) : Bool := decide (¬ (lock n kd ow (on q) < lock n kd ow (ot q) ↔ le q = 1))
def so (n : Nat) (kd ow : Nat → Nat) (c : Nat) (on ot le : Nat → Nat) : Bool := !decide (fiF (bdF n kd ow on ot le) c 0 < c)
theorem areSo_c {n c : Nat} {kd ow on ot le : Nat → Nat} {k a o p l : Nat → Int32} {cnt : Int32} (hn : n ≤ 6) (hk : RI n kd k) (ha : RI n ow a) (hc : AC n ow) (hb : ∀ t, t < n → kd t ≤ 2) (hd : RDA n c on ot le) (hr : RR c on ot le cnt o p l) : f_X0_areSo cnt o p l (nI n) k a = some (b2i (so n kd ow c on ot le)) := by
  obtain ⟨rfl, ho, hp, hl⟩ := hr
  have hc8 := hd.1
  have e1 : it (u1 (L_X0_areSo_2 (nI c) o p l (nI n) k a)) FUEL (0 : Int32) = some (if fiF (bdF n kd ow on ot le) c 0 < c then .inr (nI 0) else .inl ()) := by
    refine it_search (body := u1 (L_X0_areSo_2 (nI c) o p l (nI n) k a)) (fun i => nI i) (bdF n kd ow on ot le) (fun _ => nI 0) () c (fun i hi hq => ?_) (fun i hi hq => ?_) ?_ FUEL (FUEL_gt (by omega))
    · show L_X0_areSo_2 (nI c) o p l (nI n) k a (nI i) = some (.inl (nI (i + 1)))
      obtain ⟨h1, h2, h3⟩ := hd.2 i hi
      have l1 := lock_le (kd := kd) hn hc h1
      have l2 := lock_le (kd := kd) hn hc h2
      simp only [bdF, decide_eq_false_iff_not, Classical.not_not] at hq
      unfold L_X0_areSo_2
      rw [ifleF hi (by omega), cl_nI (by omega), ifgd0 (by omega) (by omega), ho i hi, lockOf_c hn hk ha hc hb h1, ob1_s, ifgd0 (by omega) (by omega), hp i hi, lockOf_c hn hk ha hc hb h2, ob1_s]
      rw [show f_X4_oneIf (0 : Int32) = some (nI 0) from rfl, show f_X4_oneIf (1 : Int32) = some (nI 1) from rfl, ob1_s, ob1_s, ifgd0 (by omega) (by omega), ifgd0 (by omega) (by omega), hl i hi]
      by_cases hh : lock n kd ow (on i) < lock n kd ow (ot i)
      · have h4 := hq.mp hh
        rw [ifleF hh (by omega), ifeqT h4.symm, L1, nI_ad]
      · have h4 : le i ≠ 1 := fun q => hh (hq.mpr q)
        rw [ifleT (by omega) (by omega), ifeqT (by omega), L1, nI_ad]
    · show L_X0_areSo_2 (nI c) o p l (nI n) k a (nI i) = _
      obtain ⟨h1, h2, h3⟩ := hd.2 i hi
      have l1 := lock_le (kd := kd) hn hc h1
      have l2 := lock_le (kd := kd) hn hc h2
      simp only [bdF, decide_eq_true_eq] at hq
      unfold L_X0_areSo_2
      rw [ifleF hi (by omega), cl_nI (by omega), ifgd0 (by omega) (by omega), ho i hi, lockOf_c hn hk ha hc hb h1, ob1_s, ifgd0 (by omega) (by omega), hp i hi, lockOf_c hn hk ha hc hb h2, ob1_s]
      rw [show f_X4_oneIf (0 : Int32) = some (nI 0) from rfl, show f_X4_oneIf (1 : Int32) = some (nI 1) from rfl, ob1_s, ob1_s, ifgd0 (by omega) (by omega), ifgd0 (by omega) (by omega), hl i hi]
      by_cases hh : lock n kd ow (on i) < lock n kd ow (ot i)
      · have h4 : le i ≠ 1 := fun q => hq ⟨fun _ => q, fun _ => hh⟩
        rw [ifleF hh (by omega), ifeqF (Ne.symm h4) (by omega) (by omega)]; rfl
      · have h4 : le i = 1 := by
          apply Classical.byContradiction
          intro q
          exact hq ⟨fun w => absurd w hh, fun w => absurd w q⟩
        rw [ifleT (by omega) (by omega), ifeqF (by omega) (by omega) (by omega)]; rfl
    · show L_X0_areSo_2 (nI c) o p l (nI n) k a (nI c) = _
      unfold L_X0_areSo_2
      rw [ifleT (Nat.le_refl c) (by omega)]
  unfold f_X0_areSo so
  rw [e1]
  by_cases h : fiF (bdF n kd ow on ot le) c 0 < c
  · simp only [h, if_true]; rfl
  · simp only [h, if_false]; rfl
theorem areSo_m {n c : Nat} {kd ow on ot le : Nat → Nat} {k a o p l : Nat → Int32} {cnt : Int32} (hn : n ≤ 6) (hk : RI n kd k) (ha : RI n ow a) (hc : AC n ow) (hb : ∀ t, t < n → kd t ≤ 2) (hd : RDA n c on ot le) (hr : RR c on ot le cnt o p l) : f_X5_areSo k a cnt o p l = some (b2i (so n kd ow c on ot le)) := by
  obtain ⟨rfl, ho, hp, hl⟩ := hr
  have hc8 := hd.1
  have e1 : it (u1 (L_X5_areSo_2 k a (nI c) o p l)) FUEL (0 : Int32) = some (if fiF (bdF n kd ow on ot le) c 0 < c then .inr (nI 0) else .inl ()) := by
    refine it_search (body := u1 (L_X5_areSo_2 k a (nI c) o p l)) (fun i => nI i) (bdF n kd ow on ot le) (fun _ => nI 0) () c (fun i hi hq => ?_) (fun i hi hq => ?_) ?_ FUEL (FUEL_gt (by omega))
    · show L_X5_areSo_2 k a (nI c) o p l (nI i) = some (.inl (nI (i + 1)))
      obtain ⟨h1, h2, h3⟩ := hd.2 i hi
      have l1 := lock_le (kd := kd) hn hc h1
      have l2 := lock_le (kd := kd) hn hc h2
      simp only [bdF, decide_eq_false_iff_not, Classical.not_not] at hq
      unfold L_X5_areSo_2
      rw [ifleF hi (by omega), cl_nI (by omega), ifgd0 (by omega) (by omega), ho i hi, lockOf_m hn hk ha hc hb h1, ob1_s, ifgd0 (by omega) (by omega), hp i hi, lockOf_m hn hk ha hc hb h2, ob1_s]
      rw [ifgd0 (by omega) (by omega), ifgd0 (by omega) (by omega), hl i hi]
      by_cases hh : lock n kd ow (on i) < lock n kd ow (ot i)
      · have h4 := hq.mp hh
        rw [ifleF hh (by omega), L1, ifeqT h4, nI_ad]
      · have h4 : le i ≠ 1 := fun q => hh (hq.mpr q)
        rw [ifleT (by omega) (by omega), L1, ifeqF h4 (by omega) (by omega), nI_ad]
    · show L_X5_areSo_2 k a (nI c) o p l (nI i) = _
      obtain ⟨h1, h2, h3⟩ := hd.2 i hi
      have l1 := lock_le (kd := kd) hn hc h1
      have l2 := lock_le (kd := kd) hn hc h2
      simp only [bdF, decide_eq_true_eq] at hq
      unfold L_X5_areSo_2
      rw [ifleF hi (by omega), cl_nI (by omega), ifgd0 (by omega) (by omega), ho i hi, lockOf_m hn hk ha hc hb h1, ob1_s, ifgd0 (by omega) (by omega), hp i hi, lockOf_m hn hk ha hc hb h2, ob1_s]
      rw [ifgd0 (by omega) (by omega), ifgd0 (by omega) (by omega), hl i hi]
      by_cases hh : lock n kd ow (on i) < lock n kd ow (ot i)
      · have h4 : le i ≠ 1 := fun q => hq ⟨fun _ => q, fun _ => hh⟩
        rw [ifleF hh (by omega), L1, ifeqF h4 (by omega) (by omega)]; rfl
      · have h4 : le i = 1 := by
          apply Classical.byContradiction
          intro q
          exact hq ⟨fun w => absurd w hh, fun w => absurd w q⟩
        rw [ifleT (by omega) (by omega), L1, ifeqT h4]; rfl
    · show L_X5_areSo_2 k a (nI c) o p l (nI c) = _
      unfold L_X5_areSo_2
      rw [ifleT (Nat.le_refl c) (by omega)]
  unfold f_X5_areSo so
  rw [e1]
  by_cases h : fiF (bdF n kd ow on ot le) c 0 < c
  · simp only [h, if_true]; rfl
  · simp only [h, if_false]; rfl
theorem become_c {n r : Nat} {kd ow fr to : Nat → Nat} {c0 r0 : Int32} {k a f g : Nat → Int32} (hn : n ≤ 6) (hr : r ≤ 12) (w : WR n r kd ow fr to c0 r0 k a f g) (tk ta tf tg : Nat → Int32) : ∃ K A F G, f_X3_become tk ta tf tg c0 r0 k a f g = some (nI n, nI r, K, A, F, G) ∧ RI n kd K ∧ RI n ow A ∧ RI r fr F ∧ RI r to G := by
  obtain ⟨rfl, rfl, hk, ha, hf, hg⟩ := w
  refine ⟨va_cpy k tk 0 0 6, va_cpy a ta 0 0 6, va_cpy f tf 0 0 12, va_cpy g tg 0 0 12, ?_, fun i hi => ?_, fun i hi => ?_, fun i hi => ?_, fun i hi => ?_⟩
  · unfold f_X3_become
    rw [if_neg (by decide), if_neg (by decide), if_neg (by decide), if_neg (by decide)]
    rfl
  · rw [pk_cpy_in (by omega) (by omega), Nat.sub_zero, Nat.zero_add]; exact hk i hi
  · rw [pk_cpy_in (by omega) (by omega), Nat.sub_zero, Nat.zero_add]; exact ha i hi
  · rw [pk_cpy_in (by omega) (by omega), Nat.sub_zero, Nat.zero_add]; exact hf i hi
  · rw [pk_cpy_in (by omega) (by omega), Nat.sub_zero, Nat.zero_add]; exact hg i hi
theorem btw_01 {x : Int32} (h : btw x 0 1 = true) : ∃ j, j ≤ 1 ∧ x = nI j := by
  simp only [btw, decide_eq_true_eq] at h
  rcases pk_ix x (n := 2) (by omega) with q | q | q
  · exact absurd q h.1
  · exfalso
    apply h.2
    rw [Int32.lt_iff_toInt_lt]
    rw [Int32.le_iff_toInt_le] at q
    have e1 : (nI 2).toInt = 2 := by decide
    have e2 : (1 : Int32).toInt = 1 := by decide
    rw [e2]; omega
  · obtain ⟨j, h1, h2⟩ := q
    exact ⟨j, by omega, h2⟩
theorem btw_c0 {x : Int32} {c : Nat} (hc : c ≤ 1000) (h : btw x 0 (nI c) = true) : ∃ j, j ≤ c ∧ x = nI j := by
  simp only [btw, decide_eq_true_eq] at h
  rcases pk_ix x (n := c + 1) (by omega) with q | q | q
  · exact absurd q h.1
  · exfalso
    apply h.2
    rw [Int32.lt_iff_toInt_lt]
    rw [Int32.le_iff_toInt_le] at q
    rw [nI_toInt (by omega)] at q ⊢
    omega
  · obtain ⟨j, h1, h2⟩ := q
    exact ⟨j, by omega, h2⟩
section TOLD
variable {n r c : Nat} {kd ow fr to on ot le : Nat → Nat} {c1 r1 c2 r2 e1 e2 : Int32} {k1 a1 f1 g1 k2 a2 f2 g2 o1 p1 l1 o2 p2 l2 : Nat → Int32}
theorem RI_mono {m n : Nat} {f : Nat → Nat} {a : Nat → Int32} (h : RI n f a) (hm : m ≤ n) : RI m f a := fun i hi => h i (by omega)
theorem reading_cm (h : AD n r kd ow fr to) (hd : RDA n c on ot le) (d1 : RR c on ot le e1 o1 p1 l1) (d2 : RR c on ot le e2 o2 p2 l2) (h1 : c1 = nI n) (h2 : c2 = nI n) (x y z : Int32) : ∃ v c' on' ot' le' E1 O1 P1 L1 E2 O2 P2 L2, f_X4_reading e1 o1 p1 l1 c1 x y z = some (v, E1, O1, P1, L1) ∧ f_X5_reading c2 e2 o2 p2 l2 x y z = some (v, E2, O2, P2, L2) ∧ RDA n c' on' ot' le' ∧ RR c' on' ot' le' E1 O1 P1 L1 ∧ RR c' on' ot' le' E2 O2 P2 L2 := by
  subst h1 h2
  have hn := h.1.1
  have hc := hd.1
  have keep : ∀ {v : Int32}, f_X4_reading e1 o1 p1 l1 (nI n) x y z = some (v, e1, o1, p1, l1) → f_X5_reading (nI n) e2 o2 p2 l2 x y z = some (v, e2, o2, p2, l2) → ∃ v c' on' ot' le' E1 O1 P1 L1 E2 O2 P2 L2, f_X4_reading e1 o1 p1 l1 (nI n) x y z = some (v, E1, O1, P1, L1) ∧ f_X5_reading (nI n) e2 o2 p2 l2 x y z = some (v, E2, O2, P2, L2) ∧ RDA n c' on' ot' le' ∧ RR c' on' ot' le' E1 O1 P1 L1 ∧ RR c' on' ot' le' E2 O2 P2 L2 := fun h3 h4 => ⟨_, c, on, ot, le, _, _, _, _, _, _, _, _, h3, h4, hd, d1, d2⟩
  by_cases q1 : isT n x = true
  · by_cases q2 : isT n y = true
    · by_cases q3 : x = y
      · refine keep (v := -1) ?_ ?_
        · unfold f_X4_reading; rw [isThing_c, isThing_c, q1, q2, ob1_s, bT, ob1_s, bT, if_pos q3]
        · unfold f_X5_reading; rw [isThing_m, isThing_m, q1, q2, ob1_s, bT, ob1_s, bT, if_pos q3]
      · by_cases q4 : btw z 0 1 = true
        · obtain ⟨u, hu, rfl⟩ := isT_ex hn q1
          obtain ⟨w, hw, rfl⟩ := isT_ex hn q2
          obtain ⟨b, hb, rfl⟩ := btw_01 q4
          obtain ⟨rfl, ho1, hp1, hl1⟩ := d1
          obtain ⟨rfl, ho2, hp2, hl2⟩ := d2
          by_cases q5 : c = 8
          · refine keep (v := -4) ?_ ?_
            · unfold f_X4_reading; rw [isThing_c, isThing_c, q1, q2, ob1_s, bT, ob1_s, bT, if_neg q3, btw_c, q4, ob1_s, bT]
              unfold f_X0_add
              rw [show (8 : Int32) = nI 8 from rfl, ifltF (by omega) (by omega), ob5_s]
            · unfold f_X5_reading; rw [isThing_m, isThing_m, q1, q2, ob1_s, bT, ob1_s, bT, if_neg q3, btw_m, q4, ob1_s, bT, show (8 : Int32) = nI 8 from rfl, ifeqT q5]
          · refine ⟨nI c, c + 1, upN on c u, upN ot c w, upN le c b, nI (c + 1), upd o1 c (nI u), upd p1 c (nI w), upd l1 c (nI b), nI (c + 1), upd o2 c (nI u), upd p2 c (nI w), upd l2 c (nI b), ?_, ?_, ⟨by omega, fun q hq => ?_⟩, ⟨rfl, RI_ap ho1, RI_ap hp1, RI_ap hl1⟩, ⟨rfl, RI_ap ho2, RI_ap hp2, RI_ap hl2⟩⟩
            · unfold f_X4_reading; rw [isThing_c, isThing_c, q1, q2, ob1_s, bT, ob1_s, bT, if_neg q3, btw_c, q4, ob1_s, bT]
              unfold f_X0_add
              rw [show (8 : Int32) = nI 8 from rfl, ifltT (by omega) (by omega), cl_nI (by omega), ifgd0 (by omega) (by omega), ifgd0 (by omega) (by omega), ifgd0 (by omega) (by omega), L1, nI_ad, nI_sb (by omega), ob5_s]
              rfl
            · unfold f_X5_reading; rw [isThing_m, isThing_m, q1, q2, ob1_s, bT, ob1_s, bT, if_neg q3, btw_m, q4, ob1_s, bT, show (8 : Int32) = nI 8 from rfl, ifeqF q5 (by omega) (by omega), cl_nI (by omega), ifgd0 (by omega) (by omega), ifgd0 (by omega) (by omega), ifgd0 (by omega) (by omega), L1, nI_ad, nI_sb (by omega)]
              rfl
            · unfold upN
              by_cases e : q = c
              · simp only [if_pos e]; exact ⟨hu, hw, hb⟩
              · simp only [if_neg e]; exact hd.2 q (by omega)
        · rw [Bool.not_eq_true] at q4
          refine keep (v := -2) ?_ ?_
          · unfold f_X4_reading; rw [isThing_c, isThing_c, q1, q2, ob1_s, bT, ob1_s, bT, if_neg q3, btw_c, q4, ob1_s, bF]
          · unfold f_X5_reading; rw [isThing_m, isThing_m, q1, q2, ob1_s, bT, ob1_s, bT, if_neg q3, btw_m, q4, ob1_s, bF]
    · rw [Bool.not_eq_true] at q2
      refine keep (v := -1) ?_ ?_
      · unfold f_X4_reading; rw [isThing_c, isThing_c, q1, q2, ob1_s, bT, ob1_s, bF]
      · unfold f_X5_reading; rw [isThing_m, isThing_m, q1, q2, ob1_s, bT, ob1_s, bF]
  · rw [Bool.not_eq_true] at q1
    refine keep (v := -1) ?_ ?_
    · unfold f_X4_reading; rw [isThing_c, q1, ob1_s, bF]
    · unfold f_X5_reading; rw [isThing_m, q1, ob1_s, bF]
theorem back_cm (hd : RDA n c on ot le) (d1 : RR c on ot le e1 o1 p1 l1) (d2 : RR c on ot le e2 o2 p2 l2) (x : Int32) : ∃ v c' E1 E2, f_X4_back e1 x = some (v, E1) ∧ f_X5_back e2 x = some (v, E2) ∧ RDA n c' on ot le ∧ RR c' on ot le E1 o1 p1 l1 ∧ RR c' on ot le E2 o2 p2 l2 := by
  obtain ⟨rfl, ho1, hp1, hl1⟩ := d1
  obtain ⟨rfl, ho2, hp2, hl2⟩ := d2
  have hc := hd.1
  unfold f_X4_back f_X5_back
  rw [rsize_c, ob1_s, btw_c, btw_m, ob1_s, ob1_s]
  by_cases q : btw x 0 (nI c) = true
  · obtain ⟨j, hj, rfl⟩ := btw_c0 (by omega) q
    refine ⟨nI (c - j), c - j, nI (c - j), nI (c - j), ?_, ?_, ⟨by omega, fun q hq => hd.2 q (by omega)⟩, ⟨rfl, RI_mono ho1 (by omega), RI_mono hp1 (by omega), RI_mono hl1 (by omega)⟩, ⟨rfl, RI_mono ho2 (by omega), RI_mono hp2 (by omega), RI_mono hl2 (by omega)⟩⟩
    · rw [q, bT]
      unfold f_X0_dropLast
      rw [L0, ifltF (by omega) (by omega), ifltF (by omega) (by omega), nI_sb hj, ob1_s, rsize_c, ob1_s]
    · rw [q, bT, nI_sb hj]
  · rw [Bool.not_eq_true] at q
    refine ⟨-2, c, nI c, nI c, ?_, ?_, hd, ⟨rfl, ho1, hp1, hl1⟩, ⟨rfl, ho2, hp2, hl2⟩⟩
    · rw [q, bF]
    · rw [q, bF]
theorem RI_at {n t v : Nat} {f : Nat → Nat} {a b : Nat → Int32} (h : RI n f a) (hb : ∀ j, j ≠ t → b j = a j) (hv : b t = nI v) : RI n (upN f t v) b := by
  intro i hi
  unfold upN
  by_cases e : i = t
  · subst e; rw [if_pos rfl]; exact hv
  · rw [if_neg e, hb i e]; exact h i hi
theorem RI_back {n t : Nat} {f : Nat → Nat} {a b : Nat → Int32} (h : RI n f a) (hb : ∀ j, j ≠ t → b j = a j) : RI n f (upd b t (a t)) := by
  intro i hi
  unfold upd
  by_cases e : i = t
  · subst e; rw [if_pos rfl]; exact h i hi
  · rw [if_neg e, hb i e]; exact h i hi
theorem upd_at {a : Nat → Int32} {t : Nat} {v : Int32} : upd a t v t = v := by unfold upd; rw [if_pos rfl]
theorem upd_no {a b : Nat → Int32} {t : Nat} {v : Int32} (h : ∀ j, j ≠ t → a j = b j) : ∀ j, j ≠ t → upd a t v j = b j := by
  intro j hj
  unfold upd
  rw [if_neg hj]
  exact h j hj
theorem kd_up {n t i : Nat} {kd : Nat → Nat} (h : ∀ t, t < n → kd t ≤ 2) (hi : i ≤ 2) : ∀ u, u < n → upN kd t i u ≤ 2 := by
  intro u hu
  unfold upN
  split
  · exact hi
  · exact h u hu
theorem kinds_cm (h : AD n r kd ow fr to) (w1 : WR n r kd ow fr to c1 r1 k1 a1 f1 g1) (w2 : WR n r kd ow fr to c2 r2 k2 a2 f2 g2) (hd : RDA n c on ot le) (d1 : RR c on ot le e1 o1 p1 l1) (d2 : RR c on ot le e2 o2 p2 l2) (tc tr : Int32) (tk ta tf tg : Nat → Int32) (x : Int32) : ∃ v TC TR TK TA TF TG K2, f_X4_kinds e1 o1 p1 l1 c1 r1 k1 a1 f1 g1 tc tr tk ta tf tg x = some (v, TC, TR, TK, TA, TF, TG) ∧ f_X5_kinds c2 k2 a2 e2 o2 p2 l2 x = some (v, K2) ∧ RI n kd K2 := by
  have hn := h.1.1
  have hr := h.1.2.1
  obtain ⟨K, A, F, G, hbe, hK, hA, hF, hG⟩ := become_c hn hr w1 tk ta tf tg
  obtain ⟨rfl, rfl, hk1, ha1, hf1, hg1⟩ := w1
  obtain ⟨rfl, rfl, hk2, ha2, hf2, hg2⟩ := w2
  unfold f_X4_kinds f_X5_kinds
  rw [isThing_c, isThing_m, ob1_s, ob1_s]
  by_cases q : isT n x = true
  · obtain ⟨t, ht, rfl⟩ := isT_ex hn q
    have hP : ∃ P : Nat → Bool, P = fun i => so n (upN kd t i) ow c on ot le := ⟨_, rfl⟩
    obtain ⟨P, hP⟩ := hP
    have e3 : ∃ w, it (u3 (L_X4_kinds_28 e1 o1 p1 l1 (nI t) (nI n) A)) FUEL ((0 : Int32), (0 : Int32), K) = some w ∧ w.1 = nI (mkF P 3) := by
      refine it_goes (body := u3 (L_X4_kinds_28 e1 o1 p1 l1 (nI t) (nI n) A)) (fun i s => s.1 = nI (mkF P i) ∧ s.2.1 = nI i ∧ ∀ j, j ≠ t → s.2.2 j = K j) (fun w => w.1 = nI (mkF P 3)) 3 ?_ ?_ FUEL (FUEL_gt (by omega)) _ ⟨rfl, rfl, fun _ _ => rfl⟩
      · rintro i ⟨m, y, T⟩ hi ⟨h1, h2, h3⟩
        simp only at h1 h2 h3
        subst h1 h2
        left
        refine ⟨(nI (mkF P (i + 1)), nI (i + 1), upd T t (nI i)), ?_, rfl, rfl, upd_no h3⟩
        show L_X4_kinds_28 e1 o1 p1 l1 (nI t) (nI n) A (nI (mkF P i)) (nI i) T = _
        have hq : f_X0_areSo e1 o1 p1 l1 (nI n) (upd T t (nI i)) A = some (b2i (P i)) := by
          rw [hP]
          exact areSo_c hn (RI_at hK (upd_no h3) upd_at) hA h.2.2.2 (kd_up h.kd2 (by omega)) hd d1
        unfold L_X4_kinds_28 f_X3_supposeKind
        rw [L2, ifltF (by omega) (by omega), isThing_c, q, ob1_s, bT, cl_nI (by omega), ifgd0 (by omega) (by omega), ob1_s, hq, ob1_s, mkF]
        cases hPi : P i
        · rw [bF, L1, nI_ad]; rfl
        · rw [bT, bit_ee (by omega), ob1_s, nI_or, L1, nI_ad]; rfl
      · rintro ⟨m, y, T⟩ ⟨h1, h2, h3⟩
        simp only at h1 h2 h3
        subst h1 h2
        refine ⟨(nI (mkF P 3), T), ?_, rfl⟩
        show L_X4_kinds_28 e1 o1 p1 l1 (nI t) (nI n) A (nI (mkF P 3)) (nI 3) T = _
        unfold L_X4_kinds_28
        rw [L2, ifltT (by omega) (by omega)]
    have e4 : ∃ w, it (u3 (L_X5_kinds_22 a2 e2 o2 p2 l2 (nI t))) FUEL ((0 : Int32), (0 : Int32), k2) = some w ∧ w.1 = nI (mkF P 3) ∧ ∀ j, j ≠ t → w.2 j = k2 j := by
      refine it_goes (body := u3 (L_X5_kinds_22 a2 e2 o2 p2 l2 (nI t))) (fun i s => s.1 = nI (mkF P i) ∧ s.2.1 = nI i ∧ ∀ j, j ≠ t → s.2.2 j = k2 j) (fun w => w.1 = nI (mkF P 3) ∧ ∀ j, j ≠ t → w.2 j = k2 j) 3 ?_ ?_ FUEL (FUEL_gt (by omega)) _ ⟨rfl, rfl, fun _ _ => rfl⟩
      · rintro i ⟨m, y, T⟩ hi ⟨h1, h2, h3⟩
        simp only at h1 h2 h3
        subst h1 h2
        left
        refine ⟨(nI (mkF P (i + 1)), nI (i + 1), upd T t (nI i)), ?_, rfl, rfl, upd_no h3⟩
        show L_X5_kinds_22 a2 e2 o2 p2 l2 (nI t) (nI (mkF P i)) (nI i) T = _
        have hq : f_X5_areSo (upd T t (nI i)) a2 e2 o2 p2 l2 = some (b2i (P i)) := by
          rw [hP]
          exact areSo_m hn (RI_at hk2 (upd_no h3) upd_at) ha2 h.2.2.2 (kd_up h.kd2 (by omega)) hd d2
        unfold L_X5_kinds_22
        rw [show (3 : Int32) = nI 3 from rfl, ifleF (by omega) (by omega), cl_nI (by omega), ifgd0 (by omega) (by omega), hq, ob1_s, mkF]
        cases hPi : P i
        · rw [bF, L0, nI_or, Nat.or_zero, L1, nI_ad]; rfl
        · rw [bT, L1, shl_e (by omega), nI_or, nI_ad]; rfl
      · rintro ⟨m, y, T⟩ ⟨h1, h2, h3⟩
        simp only at h1 h2 h3
        subst h1 h2
        refine ⟨(nI (mkF P 3), T), ?_, rfl, h3⟩
        show L_X5_kinds_22 a2 e2 o2 p2 l2 (nI t) (nI (mkF P 3)) (nI 3) T = _
        unfold L_X5_kinds_22
        rw [show (3 : Int32) = nI 3 from rfl, ifleT (by omega) (by omega)]
    obtain ⟨⟨v3, T3⟩, e3, e5⟩ := e3
    obtain ⟨⟨v4, T4⟩, e4, e6, e7⟩ := e4
    simp only at e5 e6 e7
    subst e5 e6
    refine ⟨nI (mkF P 3), nI n, nI r, T3, A, F, G, upd T4 t (k2 t), ?_, ?_, RI_back hk2 e7⟩
    · rw [q, bT, hbe, ob6_s, e3, ob2_s]
    · rw [q, bT, cl_nI (by omega), ifgd0 (by omega) (by omega), e4, ob2_s, ifgd0 (by omega) (by omega)]
  · rw [Bool.not_eq_true] at q
    rw [q]
    exact ⟨_, _, _, _, _, _, _, _, rfl, rfl, hk2⟩
/-! owners -/
theorem isW_no {i : Nat} (hn : n ≤ 6) (hi : i ≤ 6) (h : ¬ (i < n ∨ i = 6)) : isW n (nI i) = false := by
  unfold isW
  rw [isT_no (by omega) (by omega)]
  have : ¬ nI i = 6 := fun q => by
    have := (nI_eq (a := i) (b := 6) (by omega) (by omega)).mp q
    omega
  simp [this]
def oP (n : Nat) (kd ow : Nat → Nat) (c : Nat) (on ot le : Nat → Nat) (t i : Nat) : Bool := decide ((i < n ∨ i = 6) ∧ i ≠ t) && (!und ow i t && so n kd (upN ow t i) c on ot le)
theorem owners_cm (h : AD n r kd ow fr to) (w1 : WR n r kd ow fr to c1 r1 k1 a1 f1 g1) (w2 : WR n r kd ow fr to c2 r2 k2 a2 f2 g2) (hd : RDA n c on ot le) (d1 : RR c on ot le e1 o1 p1 l1) (d2 : RR c on ot le e2 o2 p2 l2) (tc tr : Int32) (tk ta tf tg : Nat → Int32) (x : Int32) : ∃ v TC TR TK TA TF TG A2, f_X4_owners e1 o1 p1 l1 c1 r1 k1 a1 f1 g1 tc tr tk ta tf tg x = some (v, TC, TR, TK, TA, TF, TG) ∧ f_X5_owners c2 k2 a2 e2 o2 p2 l2 x = some (v, A2) ∧ RI n ow A2 := by
  have hn := h.1.1
  have hr := h.1.2.1
  have w1' := w1
  obtain ⟨rfl, rfl, hk1, ha1, hf1, hg1⟩ := w1'
  obtain ⟨rfl, rfl, hk2, ha2, hf2, hg2⟩ := w2
  unfold f_X4_owners f_X5_owners
  rw [isThing_c, isThing_m, ob1_s, ob1_s]
  by_cases q : isT n x = true
  · obtain ⟨t, ht, rfl⟩ := isT_ex hn q
    have hP : ∃ P : Nat → Bool, P = oP n kd ow c on ot le t := ⟨_, rfl⟩
    obtain ⟨P, hP⟩ := hP
    have hPi : ∀ i, P i = (decide ((i < n ∨ i = 6) ∧ i ≠ t) && (!und ow i t && so n kd (upN ow t i) c on ot le)) := fun i => by rw [hP]; rfl
    have e3 : ∃ w, it (u8 (L_X4_owners_17 e1 o1 p1 l1 (nI n) (nI r) k1 a1 f1 g1 (nI t))) FUEL ((0 : Int32), (0 : Int32), tc, tr, tk, ta, tf, tg) = some w ∧ w.1 = nI (mkF P 7) := by
      refine it_goes (body := u8 (L_X4_owners_17 e1 o1 p1 l1 (nI n) (nI r) k1 a1 f1 g1 (nI t))) (fun i s => s.1 = nI (mkF P i) ∧ s.2.1 = nI i) (fun w => w.1 = nI (mkF P 7)) 7 ?_ ?_ FUEL (FUEL_gt (by omega)) _ ⟨rfl, rfl⟩
      · rintro i ⟨m, y, tc, tr, tk, ta, tf, tg⟩ hi ⟨h1, h2⟩
        simp only at h1 h2
        subst h1 h2
        left
        obtain ⟨K, A, F, G, hbe, hK, hA, hF, hG⟩ := become_c hn hr w1 tk ta tf tg
        by_cases hv : (i < n ∨ i = 6) ∧ i ≠ t
        · by_cases hu : und ow i t = true
          · refine ⟨(nI (mkF P (i + 1)), nI (i + 1), nI n, nI r, K, A, F, G), ?_, rfl, rfl⟩
            show L_X4_owners_17 e1 o1 p1 l1 (nI n) (nI r) k1 a1 f1 g1 (nI t) (nI (mkF P i)) (nI i) tc tr tk ta tf tg = _
            have : P i = false := by rw [hPi, hu]; simp
            unfold L_X4_owners_17
            rw [L6, ifltF (by omega) (by omega), hbe, ob6_s, changeOwner_c h hA ht hv.1 hv.2, hu, if_pos rfl, ob2_s, if_pos neg3lt, mkF, this, L1, nI_ad]
            rfl
          · rw [Bool.not_eq_true] at hu
            refine ⟨(nI (mkF P (i + 1)), nI (i + 1), nI n, nI r, K, upd A t (nI i), F, G), ?_, rfl, rfl⟩
            show L_X4_owners_17 e1 o1 p1 l1 (nI n) (nI r) k1 a1 f1 g1 (nI t) (nI (mkF P i)) (nI i) tc tr tk ta tf tg = _
            have hO := AD_own h ht hv.1 hv.2 hu
            have hso : f_X0_areSo e1 o1 p1 l1 (nI n) K (upd A t (nI i)) = some (b2i (P i)) := by
              rw [hPi, hu]
              simp only [hv, and_self, decide_true, Bool.not_false, Bool.true_and, ne_eq, not_false_eq_true]
              exact areSo_c hn hK (RI_up hA) hO.2.2.2 hO.kd2 hd d1
            have h6 := h.ow6 t ht
            unfold L_X4_owners_17
            rw [L6, ifltF (by omega) (by omega), hbe, ob6_s, changeOwner_c h hA ht hv.1 hv.2, hu, if_neg (by decide), ob2_s, L0, ifltF (by omega) (by omega), hso, ob1_s, mkF, ← L0]
            cases P i
            · rw [bF, L1, nI_ad]; rfl
            · rw [bT, bit_ee (by omega), ob1_s, nI_or, L1, nI_ad]; rfl
        · refine ⟨(nI (mkF P (i + 1)), nI (i + 1), nI n, nI r, K, A, F, G), ?_, rfl, rfl⟩
          show L_X4_owners_17 e1 o1 p1 l1 (nI n) (nI r) k1 a1 f1 g1 (nI t) (nI (mkF P i)) (nI i) tc tr tk ta tf tg = _
          have : P i = false := by rw [hPi]; simp [hv]
          have hvo : vo n (nI t) (nI i) = false := by
            unfold vo
            by_cases hw : i < n ∨ i = 6
            · have e : i = t := by
                apply Classical.byContradiction
                intro e
                exact hv ⟨hw, e⟩
              simp [e]
            · rw [isW_no hn (by omega) hw]; simp
          unfold L_X4_owners_17
          rw [L6, ifltF (by omega) (by omega), hbe, ob6_s, changeOwner_bad hn hvo, ob2_s, if_pos neg1lt, mkF, this, L1, nI_ad]
          rfl
      · rintro ⟨m, y, tc, tr, tk, ta, tf, tg⟩ ⟨h1, h2⟩
        simp only at h1 h2
        subst h1 h2
        refine ⟨(nI (mkF P 7), tc, tr, tk, ta, tf, tg), ?_, rfl⟩
        show L_X4_owners_17 e1 o1 p1 l1 (nI n) (nI r) k1 a1 f1 g1 (nI t) (nI (mkF P 7)) (nI 7) tc tr tk ta tf tg = _
        unfold L_X4_owners_17
        rw [L6, ifltT (by omega) (by omega)]
    obtain ⟨C, hC⟩ : ∃ C : Nat → Bool, C = fun i => !decide (i = t) && !und ow i t := ⟨_, rfl⟩
    have hC64 : ∀ i, i ≤ 7 → 64 ||| mkF C i < 128 := fun i hi => or_lt (by omega) (mkF_lt i hi)
    have e4 : it (u2 (L_X5_owners_23 (nI n) a2 (nI t))) FUEL ((64 : Int32), (0 : Int32)) = some (nI (64 ||| mkF C n)) := by
      rw [show (64 : Int32) = nI (64 ||| mkF C 0) by rw [mkF]; rfl]
      refine it_for (body := u2 (L_X5_owners_23 (nI n) a2 (nI t))) (fun i => (nI (64 ||| mkF C i), nI i)) n _ (fun i hi => ?_) ?_ FUEL (FUEL_gt (by omega))
      · show L_X5_owners_23 (nI n) a2 (nI t) (nI (64 ||| mkF C i)) (nI i) = some (.inl (nI (64 ||| mkF C (i + 1)), nI (i + 1)))
        have hq : f_X5_canOwn a2 (nI t) (nI i) = some (b2i (C i)) := by
          rw [hC]; exact canOwn_m h ha2 ht (Or.inl hi)
        unfold L_X5_owners_23
        rw [ifleF (by omega) (by omega), hq, ob1_s, mkF]
        cases C i
        · rw [bF, L0, nI_or, Nat.or_zero, L1, nI_ad]; rfl
        · rw [bT, L1, shl_e (by omega), nI_or, nI_ad, Nat.or_assoc]; rfl
      · show L_X5_owners_23 (nI n) a2 (nI t) (nI (64 ||| mkF C n)) (nI n) = _
        unfold L_X5_owners_23
        rw [ifleT (by omega) (by omega)]
    have hCb : ∀ i, i ≤ 6 → (64 ||| mkF C n).testBit i = (decide ((i < n ∨ i = 6) ∧ i ≠ t) && !und ow i t) := by
      intro i hi
      rw [show (64 : Nat) = 2 ^ 6 from rfl, Nat.or_comm, bit_or, mkF_bit, hC]
      by_cases e : i = 6
      · subst e
        have h1 : und ow 6 t = false := und6 h ht
        have h2 : ¬ 6 = t := by omega
        simp [h1, h2]
      · have h3 : ¬ 6 = i := by omega
        by_cases e2 : i < n
        · simp [e, h3, e2]
        · simp [e, h3, e2]
    have e5 : ∃ w, it (u3 (L_X5_owners_65 k2 e2 o2 p2 l2 (nI t) (nI (64 ||| mkF C n)))) FUEL ((0 : Int32), (0 : Int32), a2) = some w ∧ w.1 = nI (mkF P 7) ∧ ∀ j, j ≠ t → w.2 j = a2 j := by
      refine it_goes (body := u3 (L_X5_owners_65 k2 e2 o2 p2 l2 (nI t) (nI (64 ||| mkF C n)))) (fun i s => s.1 = nI (mkF P i) ∧ s.2.1 = nI i ∧ ∀ j, j ≠ t → s.2.2 j = a2 j) (fun w => w.1 = nI (mkF P 7) ∧ ∀ j, j ≠ t → w.2 j = a2 j) 7 ?_ ?_ FUEL (FUEL_gt (by omega)) _ ⟨rfl, rfl, fun _ _ => rfl⟩
      · rintro i ⟨m, y, T⟩ hi ⟨h1, h2, h3⟩
        simp only at h1 h2 h3
        subst h1 h2
        left
        have hbit := hCb i (by omega)
        have hiC := hC64 n (by omega)
        by_cases hv : (64 ||| mkF C n).testBit i = true
        · have hv' := hv
          rw [hbit] at hv'
          simp only [Bool.and_eq_true, decide_eq_true_eq, Bool.not_eq_true'] at hv'
          obtain ⟨⟨hw, hne⟩, hu⟩ := hv'
          have hO := AD_own h ht hw hne hu
          refine ⟨(nI (mkF P (i + 1)), nI (i + 1), upd T t (nI i)), ?_, rfl, rfl, upd_no h3⟩
          show L_X5_owners_65 k2 e2 o2 p2 l2 (nI t) (nI (64 ||| mkF C n)) (nI (mkF P i)) (nI i) T = _
          have hso : f_X5_areSo k2 (upd T t (nI i)) e2 o2 p2 l2 = some (b2i (P i)) := by
            rw [hPi, hu]
            simp only [hw, hne, and_self, decide_true, Bool.not_false, Bool.true_and, ne_eq, not_false_eq_true]
            exact areSo_m hn hk2 (RI_at ha2 (upd_no h3) upd_at) hO.2.2.2 hO.kd2 hd d2
          unfold L_X5_owners_65
          rw [L6, ifltF (by omega) (by omega), isOf_e (by omega) (by omega), hv, ob1_s, bT, cl_nI (by omega), ifgd0 (by omega) (by omega), hso, ob1_s, mkF]
          cases P i
          · rw [bF, L0, nI_or, Nat.or_zero, L1, nI_ad]; rfl
          · rw [bT, L1, shl_e (by omega), nI_or, nI_ad]; rfl
        · rw [Bool.not_eq_true] at hv
          refine ⟨(nI (mkF P (i + 1)), nI (i + 1), T), ?_, rfl, rfl, h3⟩
          show L_X5_owners_65 k2 e2 o2 p2 l2 (nI t) (nI (64 ||| mkF C n)) (nI (mkF P i)) (nI i) T = _
          have : P i = false := by
            rw [hv] at hbit
            rw [hPi, ← Bool.and_assoc, ← hbit]; rfl
          unfold L_X5_owners_65
          rw [L6, ifltF (by omega) (by omega), isOf_e (by omega) (by omega), hv, ob1_s, bF, mkF, this, L1, nI_ad]
          rfl
      · rintro ⟨m, y, T⟩ ⟨h1, h2, h3⟩
        simp only at h1 h2 h3
        subst h1 h2
        refine ⟨(nI (mkF P 7), T), ?_, rfl, h3⟩
        show L_X5_owners_65 k2 e2 o2 p2 l2 (nI t) (nI (64 ||| mkF C n)) (nI (mkF P 7)) (nI 7) T = _
        unfold L_X5_owners_65
        rw [L6, ifltT (by omega) (by omega)]
    obtain ⟨⟨v3, T3⟩, e3, e6⟩ := e3
    obtain ⟨⟨v4, T4⟩, e5, e7, e8⟩ := e5
    simp only at e6 e7 e8
    subst e6 e7
    obtain ⟨tc', tr', tk', ta', tf', tg'⟩ := T3
    refine ⟨nI (mkF P 7), tc', tr', tk', ta', tf', tg', upd T4 t (a2 t), ?_, ?_, RI_back ha2 e8⟩
    · rw [q, bT, e3, ob7_s]
    · rw [q, bT, cl_nI (by omega), ifgd0 (by omega) (by omega), e4, ob1_s, e5, ob2_s, ifgd0 (by omega) (by omega)]
  · rw [Bool.not_eq_true] at q
    rw [q]
    exact ⟨_, _, _, _, _, _, _, _, rfl, rfl, ha2⟩
end TOLD
