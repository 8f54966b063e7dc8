/-! THE LAW looks at each thing -/
section THING
variable {n r : Nat} {kd ow fr to : Nat → Nat} {ga ga0 : Nat → Int32} {sh : SH}
theorem sp0 {t : Nat} : spOf n r kd ow fr to t 0 = nI (kd t) := by
  unfold spOf
  rw [if_pos rfl]
theorem sp1 {t : Nat} : spOf n r kd ow fr to t 1 = nI (ow t) := by
  unfold spOf
  rw [if_neg (by decide), if_pos rfl]
theorem sp2 {t : Nat} : spOf n r kd ow fr to t 2 = nI (lev n ow t) := by
  unfold spOf
  rw [if_neg (by decide), if_neg (by decide), if_pos rfl]
theorem sp3 {t : Nat} : spOf n r kd ow fr to t 3 = nI (lock n kd ow t) := by
  unfold spOf
  rw [if_neg (by decide), if_neg (by decide), if_neg (by decide), if_pos rfl]
theorem sp4 {t : Nat} : spOf n r kd ow fr to t 4 = nI (tgt r fr to t) := by
  unfold spOf
  rw [if_neg (by decide), if_neg (by decide), if_neg (by decide), if_neg (by decide), if_pos rfl]
theorem sp5 {t : Nat} : spOf n r kd ow fr to t 5 = b2i ((rch r fr to).testBit t) := by
  unfold spOf
  rw [if_neg (by decide), if_neg (by decide), if_neg (by decide), if_neg (by decide), if_neg (by decide), if_pos rfl]
theorem sp6 {t : Nat} : spOf n r kd ow fr to t 6 = nI (bef n r fr to t) := by
  unfold spOf
  rw [if_neg (by decide), if_neg (by decide), if_neg (by decide), if_neg (by decide), if_neg (by decide), if_neg (by decide), if_pos rfl]
theorem sp7 {t : Nat} : spOf n r kd ow fr to t 7 = b2i (law1 r ow fr to t) := by
  unfold spOf
  rw [if_neg (by decide), if_neg (by decide), if_neg (by decide), if_neg (by decide), if_neg (by decide), if_neg (by decide), if_neg (by decide), if_pos rfl]
theorem sp8 {t : Nat} : spOf n r kd ow fr to t 8 = nI (near n r fr to t) := by
  unfold spOf
  rw [if_neg (by decide), if_neg (by decide), if_neg (by decide), if_neg (by decide), if_neg (by decide), if_neg (by decide), if_neg (by decide), if_neg (by decide), if_pos rfl]
theorem sp9 {t : Nat} : spOf n r kd ow fr to t 9 = nI (tail r fr to t) := by
  unfold spOf
  rw [if_neg (by decide), if_neg (by decide), if_neg (by decide), if_neg (by decide), if_neg (by decide), if_neg (by decide), if_neg (by decide), if_neg (by decide), if_neg (by decide), if_pos rfl]
theorem sp10 {t : Nat} : spOf n r kd ow fr to t 10 = b2i (clsd r fr to t) := by
  unfold spOf
  rw [if_neg (by decide), if_neg (by decide), if_neg (by decide), if_neg (by decide), if_neg (by decide), if_neg (by decide), if_neg (by decide), if_neg (by decide), if_neg (by decide), if_neg (by decide), if_pos rfl]
theorem tgt_L {t : Nat} (hg : GR n r kd ow fr to ga) (hr : r ≤ 12) (hb : Bd r fr to) (ht : t ≤ 6) : it (u2 (L_L_law_138 ga (nI t))) FUEL ((0 : Int32), (0 : Int32)) = some (nI (tgt r fr to t)) := by
  obtain ⟨g0, g1, gk, go, gf, gt⟩ := hg
  unfold tgt
  refine it_for (body := u2 (L_L_law_138 ga (nI t))) (fun i => (nI (onF fr to (2 ^ t) i), nI i)) r _ (fun i hi => ?_) ?_ FUEL (FUEL_gt (by omega))
  · show L_L_law_138 ga (nI t) (nI (onF fr to (2 ^ t) i)) (nI i) = some (.inl (nI (onF fr to (2 ^ t) (i + 1)), nI (i + 1)))
    have hbi := hb i hi
    unfold L_L_law_138
    rw [onF, pow_bit, g1, ifleF hi (by omega), K14, nI_ad, cl_nI (by omega), ifgd0 (by omega) (by omega), gf i hi, K26, nI_ad, cl_nI (by omega), ifgd0 (by omega) (by omega), gt i hi, L1, nI_ad, shl_e (by omega), nI_or]
    by_cases e : fr i = t
    · rw [ifeqT e, e, decide_eq_true rfl, if_pos rfl]
    · rw [ifeqF e (by omega) (by omega), decide_eq_false (Ne.symm e), if_neg (by decide)]
  · show L_L_law_138 ga (nI t) (nI (onF fr to (2 ^ t) r)) (nI r) = _
    unfold L_L_law_138
    rw [g1, ifleT (Nat.le_refl r) (by omega)]
/-! the nearest -/
theorem bef_rch {t x : Nat} (hw : Web n r fr to) (ht : t < n) (hx : x < n) (h : (bef n r fr to t).testBit x = true) : (rch r fr to).testBit x = true := by
  have hn := hw.1
  have hb := hw.bd
  by_cases hc : (rch r fr to).testBit t = true
  case neg =>
    unfold bef at h
    rw [if_neg hc] at h
    simp at h
  have e : bef n r fr to t = sbF n r fr to t 7 := by unfold bef; rw [if_pos hc]
  rw [e, sbF_bit] at h
  have h3 := h.2.2
  have hc7 : (led r fr to 6 7).testBit t = true := by rw [← rcB_bit (by omega)]; exact hc
  unfold rch
  rw [rcB_bit (by omega)]
  apply Classical.byContradiction
  intro hno
  have key := led_min (r := r) (fr := fr) (to := to) (start := 6) (out := 7) (T := led r fr to 6 x) hb (by omega) (by omega) (fun _ => led_start (by omega) (by omega)) (fun q hq hq1 _ => ?_) t (by omega) hc7
  · rw [h3] at key; cases key
  · have hbq := hb q hq
    by_cases e2 : to q = x
    · have h4 := led_sub7 hb (by omega) (by omega) hq1
      have h5 := led_cl (start := 6) (out := 7) hb (by omega) (by omega) q hq h4 (by omega)
      rw [e2] at h5
      exact absurd h5 hno
    · exact led_cl (start := 6) (out := x) hb (by omega) (by omega) q hq hq1 e2
theorem bef_pc2 {x : Nat} (hw : Web n r fr to) (hx : x < n) (hc : (rch r fr to).testBit x = true) : 2 ≤ pc (bef n r fr to x) := by
  have hn := hw.1
  have e : bef n r fr to x = sbF n r fr to x 7 := by unfold bef; rw [if_pos hc]
  rw [e]
  refine pc_two _ (sbF_lt 7 (by omega)) x (by omega) ?_ ?_
  · exact (sbF_bit 7).mpr ⟨by omega, Or.inr rfl, led6_out rfl (by omega) hw.bd⟩
  · exact (sbF_bit 7).mpr ⟨by omega, Or.inl hx, led_out (by omega)⟩
theorem neF_is {t : Nat} : ∀ x, x ≤ n → ((neF n r fr to t 1 x).1 = 6 ∧ (neF n r fr to t 1 x).2 = 1) ∨ ((neF n r fr to t 1 x).1 < n ∧ (neF n r fr to t 1 x).2 = pc (bef n r fr to (neF n r fr to t 1 x).1))
  | 0, _ => Or.inl ⟨rfl, rfl⟩
  | x + 1, h => by
    have ih := neF_is (t := t) x (by omega)
    rw [neF]
    split
    · exact Or.inr ⟨by show x < n; omega, rfl⟩
    · exact ih
theorem near_L {t : Nat} (hg : GR n r kd ow fr to ga) (hw : Web n r fr to) (h0 : ga0 0 = nI n) (ht : t < n) : it (u2 (L_L_law_193 ga0 ga (nI t) (nI (bef n r fr to t)))) FUEL ((6 : Int32), (0 : Int32)) = some (nI (near n r fr to t)) := by
  have hn := hw.1
  have hbl := bef_lt (n := n) (r := r) (fr := fr) (to := to) (t := t)
  unfold near
  refine it_for (body := u2 (L_L_law_193 ga0 ga (nI t) (nI (bef n r fr to t)))) (fun i => (nI (neF n r fr to t 1 i).1, nI i)) n _ (fun i hi => ?_) ?_ FUEL (FUEL_gt (by omega))
  · show L_L_law_193 ga0 ga (nI t) (nI (bef n r fr to t)) (nI (neF n r fr to t 1 i).1) (nI i) = some (.inl (nI (neF n r fr to t 1 (i + 1)).1, nI (i + 1)))
    have hbi := bef_lt (n := n) (r := r) (fr := fr) (to := to) (t := i)
    have hpi := pc_le _ hbi
    have hni := neF_is (n := n) (r := r) (fr := fr) (to := to) (t := t) i (by omega)
    unfold L_L_law_193
    rw [h0, ifleF hi (by omega), shr_b hbl (by omega), ib0, L1, nI_ad]
    by_cases e1 : i = t
    · have e2 : neF n r fr to t 1 (i + 1) = neF n r fr to t 1 i := by rw [neF]; simp [e1]
      rw [ifeqT e1, e2]
    rw [ifeqF e1 (by omega) (by omega)]
    by_cases e3 : (bef n r fr to t).testBit i = true
    case neg =>
      have e2 : neF n r fr to t 1 (i + 1) = neF n r fr to t 1 i := by
        rw [Bool.not_eq_true] at e3
        rw [neF]; simp [e3]
      rw [if_neg e3, e2]
    rw [if_pos e3]
    have h2 := bef_pc2 hw hi (bef_rch hw ht hi e3)
    rcases hni with ⟨u1, u2⟩ | ⟨u1, u2⟩
    · have e2 : neF n r fr to t 1 (i + 1) = (i, pc (bef n r fr to i)) := by
        have : (neF n r fr to t 1 i).2 < pc (bef n r fr to i) := by omega
        rw [neF]; simp [e1, e3, this]
      rw [u1, L6, ifeqT rfl, e2]
    · have hbu := bef_lt (n := n) (r := r) (fr := fr) (to := to) (t := (neF n r fr to t 1 i).1)
      have hpu := pc_le _ hbu
      rw [L6, ifeqF (by omega) (by omega) (by omega), before_L hg hw hi, ob1_s, size_L hbi, ob1_s, before_L hg hw u1, ob1_s, size_L hbu, ob1_s]
      by_cases e4 : (neF n r fr to t 1 i).2 < pc (bef n r fr to i)
      · have e2 : neF n r fr to t 1 (i + 1) = (i, pc (bef n r fr to i)) := by rw [neF]; simp [e1, e3, e4]
        rw [ifleF (by omega) (by omega), e2]
      · have e2 : neF n r fr to t 1 (i + 1) = neF n r fr to t 1 i := by rw [neF]; simp [e1, e3, e4]
        rw [ifleT (by omega) (by omega), e2]
  · show L_L_law_193 ga0 ga (nI t) (nI (bef n r fr to t)) (nI (neF n r fr to t 1 n).1) (nI n) = _
    unfold L_L_law_193
    rw [h0, ifleT (Nat.le_refl n) (by omega)]
/-! closed -/
def clF (r : Nat) (fr to : Nat → Nat) (t : Nat) : Nat → Bool
  | 0 => true
  | q + 1 => if opB r fr to t q = true then false else clF r fr to t q
theorem clF_all {t : Nat} : ∀ k, clF r fr to t k = true ↔ ∀ q, q < k → opB r fr to t q = false
  | 0 => by
    rw [clF]
    exact ⟨fun _ q hq => by omega, fun _ => rfl⟩
  | k + 1 => by
    have ih := clF_all (t := t) k
    rw [clF]
    by_cases e : opB r fr to t k = true
    · rw [if_pos e]
      constructor
      · intro h; cases h
      · intro h
        have := h k (by omega)
        rw [e] at this; cases this
    · rw [if_neg e, ih]
      rw [Bool.not_eq_true] at e
      constructor
      · intro h q hq
        by_cases e2 : q = k
        · rw [e2]; exact e
        · exact h q (by omega)
      · intro h q hq; exact h q (by omega)
theorem clF_cl {t : Nat} : clF r fr to t r = clsd r fr to t := by
  rw [Bool.eq_iff_iff, clF_all]
  unfold clsd
  rw [decide_eq_true_eq]
  constructor
  · intro h q
    have h1 := fiF_at (opB r fr to t) r 0 (by omega)
    rw [h _ q] at h1; cases h1
  · intro h q hq
    exact fiF_no (opB r fr to t) r 0 q (by omega) (by omega)
theorem clsd_L {t : Nat} (hg : GR n r kd ow fr to ga) (hr : r ≤ 12) (hb : Bd r fr to) (ht : t ≤ 6) : it (u2 (L_L_law_273 ga (nI t) (nI (tail r fr to t)))) FUEL ((1 : Int32), (0 : Int32)) = some (b2i (clsd r fr to t)) := by
  obtain ⟨g0, g1, gk, go, gf, gt⟩ := hg
  have hl : tail r fr to t < 128 := led_lt hb ht
  rw [← clF_cl]
  refine it_for (body := u2 (L_L_law_273 ga (nI t) (nI (tail r fr to t)))) (fun i => (b2i (clF r fr to t i), nI i)) r _ (fun i hi => ?_) ?_ FUEL (FUEL_gt (by omega))
  · show L_L_law_273 ga (nI t) (nI (tail r fr to t)) (b2i (clF r fr to t i)) (nI i) = some (.inl (b2i (clF r fr to t (i + 1)), nI (i + 1)))
    have hbi := hb i hi
    unfold L_L_law_273
    rw [clF, g1, ifleF hi (by omega), K14, nI_ad, cl_nI (by omega), ifgd0 (by omega) (by omega), gf i hi, shr_b hl (by omega), ib0, K26, nI_ad, cl_nI (by omega), ifgd0 (by omega) (by omega), ifgd0 (by omega) (by omega), gt i hi, shr_b hl (by omega), ib1, L1, nI_ad]
    by_cases e1 : (tail r fr to t).testBit (fr i) = true
    · have e : opB r fr to t i = false := by unfold opB; rw [e1]; rfl
      rw [if_pos e1, e, if_neg (by decide)]
    · rw [if_neg e1]
      rw [Bool.not_eq_true] at e1
      by_cases e2 : (tail r fr to t).testBit (to i) = true
      · rw [if_pos e2]
        by_cases e3 : to i = t
        · have e : opB r fr to t i = false := by unfold opB; simp [e3]
          rw [ifeqT e3, e, if_neg (by decide)]
        · have e : opB r fr to t i = true := by unfold opB; simp [e1, e2, e3]
          rw [ifeqF e3 (by omega) (by omega), e, if_pos rfl]; rfl
      · rw [if_neg e2]
        rw [Bool.not_eq_true] at e2
        have e : opB r fr to t i = false := by unfold opB; simp [e2]
        rw [e, if_neg (by decide)]
  · show L_L_law_273 ga (nI t) (nI (tail r fr to t)) (b2i (clF r fr to t r)) (nI r) = _
    unfold L_L_law_273
    rw [g1, ifleT (Nat.le_refl r) (by omega)]
/-! places -/
theorem there_L {a : Nat} (hn : n ≤ 6) (ha : a < 7) : (if nI a < nI n then (some (1 : Int32)) else (if nI a = (6 : Int32) then (some (1 : Int32)) else (some (0 : Int32)))) = some (b2i (decide (a < n ∨ a = 6))) := by
  by_cases e : a < n
  · rw [ifltT e (by omega), decide_eq_true (Or.inl e)]; rfl
  · rw [ifltF (by omega) (by omega), L6]
    by_cases e6 : a = 6
    · rw [ifeqT e6, decide_eq_true (Or.inr e6)]; rfl
    · rw [ifeqF e6 (by omega) (by omega), decide_eq_false (by omega)]; rfl
theorem pl_L {a t : Nat} (hg : GR n r kd ow fr to ga) (hw : Web n r fr to) (h0 : 0 < n) (ha : a < 7) (ht : t < n) : (if b2i (decide (a < n ∨ a = 6)) = 0 then (some (-1 : Int32)) else (ob1 (f_L_place ga (nI a) (nI t)) (fun r_563 => (some r_563)))) = some (spPl n r fr to (nI a) (nI t)) := by
  have hn := hw.1
  unfold spPl
  rw [isW_lt hn h0 (by omega), isT_nI hn ht, cl_nI (by omega), cl_nI (by omega), ib0, place_L hg hw.2.1 hw.bd (by omega) (by omega), ob1_s]
  by_cases e : a < n ∨ a = 6
  · rw [decide_eq_true e, if_pos rfl, if_pos ⟨rfl, rfl⟩]
  · rw [decide_eq_false e, if_neg (by decide), if_neg (fun q => absurd q.1 (by decide))]
theorem re_L {a t : Nat} (hg : GR n r kd ow fr to ga) (hw : Web n r fr to) (h0 : 0 < n) (ha : a < 7) (ht : t < n) : (if b2i (decide (a < n ∨ a = 6)) = 0 then (some (-1 : Int32)) else (ob1 (f_L_place ga (nI a) (nI t)) (fun r_595 => (if 0 ≤ r_595 then (some (1 : Int32)) else (some (0 : Int32)))))) = some (spRe n r fr to (nI a) (nI t)) := by
  have hn := hw.1
  have hr := hw.2.1
  unfold spRe
  rw [isW_lt hn h0 (by omega), isT_nI hn ht, cl_nI (by omega), cl_nI (by omega), ib0, place_L hg hr hw.bd (by omega) (by omega), ob1_s]
  by_cases e : a < n ∨ a = 6
  · rw [decide_eq_true e, if_pos rfl, if_pos (show true = true ∧ true = true from ⟨rfl, rfl⟩)]
    by_cases hf : fnd r fr to a t < r
    · obtain ⟨q, hq, -, q2⟩ := (fndI_neg (fr := fr) (to := to) (a := a) (b := t) hr).1 hf
      rw [q2, if_pos (le0 (by omega)), if_neg (show ¬ nI q = (-9 : Int32) from fun z => nI_neg_ne (a := q) (k := 9) (by omega) (by omega) (by omega) z)]
    · rw [(fndI_neg (fr := fr) (to := to) (a := a) (b := t) hr).2 hf, if_neg n9nle, if_pos (show -(nI 9) = (-9 : Int32) from rfl)]
  · rw [decide_eq_false e, if_neg (by decide), if_neg (fun q => absurd q.1 (by decide))]
theorem placeLoop_L {t : Nat} (hg : GR n r kd ow fr to ga) (hw : Web n r fr to) (h0 : ga0 0 = nI n) (hn0 : 0 < n) (ht : t < n) : it (u1 (L_L_law_517 ga0 ga (((n, r, kd, ow, fr, to), sh) : SG) (nI t))) FUEL (0 : Int32) = some () := by
  have hn := hw.1
  refine it_for (body := u1 (L_L_law_517 ga0 ga (((n, r, kd, ow, fr, to), sh) : SG) (nI t))) (fun i => nI i) 7 () (fun i hi => ?_) ?_ FUEL (FUEL_gt (by omega))
  · show L_L_law_517 ga0 ga (((n, r, kd, ow, fr, to), sh) : SG) (nI t) (nI i) = some (.inl (nI (i + 1)))
    unfold L_L_law_517
    rw [L7, ifleF hi (by omega), h0, there_L hn hi, ob1_s, show F_place (((n, r, kd, ow, fr, to), sh) : SG) (nI i) (nI t) = some (spPl n r fr to (nI i) (nI t)) from rfl, ob1_s, pl_L hg hw hn0 hi ht, ob1_s, if_pos rfl, show F_refers (((n, r, kd, ow, fr, to), sh) : SG) (nI i) (nI t) = some (spRe n r fr to (nI i) (nI t)) from rfl, ob1_s, re_L hg hw hn0 hi ht, ob1_s, if_pos rfl, L1, nI_ad]
  · show L_L_law_517 ga0 ga (((n, r, kd, ow, fr, to), sh) : SG) (nI t) (nI 7) = _
    unfold L_L_law_517
    rw [L7, ifleT (Nat.le_refl 7) (by omega)]
theorem sub64_d : ∀ S, S < 128 → S.testBit 6 = true → nI S - (64 : Int32) = nI (clr S 6) := by decide +kernel
theorem rch_sub (hb : Bd r fr to) : nI (led r fr to 6 7) - (64 : Int32) = nI (rch r fr to) := sub64_d _ (led_lt hb (by omega)) (led_start (by omega) (by omega))
theorem come_rch (hg : GR n r kd ow fr to ga) (hw : Web n r fr to) : f_L_come ga (6 : Int32) (-1 : Int32) = some (nI (led r fr to 6 7)) := come_L (start := 6) (out := 7) hg hw.2.1 hw.bd (by omega) (by omega) (by omega) none1
theorem bb01 (b : Bool) : (if b2i b = 0 then some (0 : Int32) else some (1 : Int32)) = some (b2i b) := by cases b <;> rfl
theorem thing_L {t : Nat} (hA : AD n r kd ow fr to) (hg : GR n r kd ow fr to ga) (h0 : ga0 0 = nI n) (ht : t < n) : L_L_law_125 ga0 ga (((n, r, kd, ow, fr, to), sh) : SG) (nI (led r fr to 6 7)) (nI t) = some (.inl (nI (t + 1))) := by
  have hw := hA.1
  have hn := hw.1
  have hr := hw.2.1
  have hb := hw.bd
  have hrl : rch r fr to < 128 := rcB_lt hb
  have k2 : (2 : Int32) + nI t = nI (2 + t) := nI_ad 2 t
  have k8 : (8 : Int32) + nI t = nI (8 + t) := nI_ad 8 t
  have k1 : nI t + (1 : Int32) = nI (t + 1) := nI_ad t 1
  have F : ∀ w : Int32, F_ofThing (((n, r, kd, ow, fr, to), sh) : SG) (nI t) w = some (spOf n r kd ow fr to t w) := fun w => by
    show some (if isT n (nI t) = true then spOf n r kd ow fr to (nI t).toNatClampNeg w else -1) = _
    rw [isT_nI hn ht, if_pos rfl, cl_nI (by omega)]
  have gk := hg.2.2.1 t ht
  have go := hg.2.2.2.1 t ht
  unfold L_L_law_125
  rw [h0, ifleF ht (by omega), tgt_L hg hr hb (by omega), ob1_s, before_L hg hw ht, ob1_s, near_L hg hw h0 ht, ob1_s, show f_L_come ga (nI t) (-1 : Int32) = some (nI (tail r fr to t)) from come_L (start := t) (out := 7) hg hr hb (by omega) (by omega) (by omega) none1, ob1_s, clsd_L hg hr hb (by omega), ob1_s]
  rw [F 0, ob1_s, k2, cl_nI (by omega), ifgd0 (by omega) (by omega), gk, sp0, if_pos rfl]
  rw [F 1, ob1_s, k8, cl_nI (by omega), ifgd0 (by omega) (by omega), go, sp1, if_pos rfl]
  rw [F 2, ob1_s, level_L hg hn hA.2.2.2 ht, ob1_s, sp2, if_pos rfl]
  rw [F 3, ob1_s, lock_L hg hn hA.2.2.2 hA.kd2 ht, ob1_s, sp3, if_pos rfl]
  rw [F 4, ob1_s, sp4, if_pos rfl]
  rw [F 5, ob1_s, sp5, rch_sub hb, shr_b hrl (by omega), if_pos rfl]
  rw [F 6, ob1_s, sp6, if_pos rfl]
  rw [F 7, ob1_s, lawful_L hg hw (hA.ow2 t ht) ht, ob1_s, bb01, ob1_s, sp7, if_pos rfl]
  rw [F 8, ob1_s, sp8, if_pos rfl]
  rw [F 9, ob1_s, sp9, if_pos rfl]
  rw [F 10, ob1_s, bb01, ob1_s, sp10, if_pos rfl]
  rw [placeLoop_L hg hw h0 (by omega) ht, ob0_s, k1]
theorem things_L (hA : AD n r kd ow fr to) (hg : GR n r kd ow fr to ga) (h0 : ga0 0 = nI n) : it (u1 (L_L_law_125 ga0 ga (((n, r, kd, ow, fr, to), sh) : SG) (nI (led r fr to 6 7)))) FUEL (0 : Int32) = some () := by
  have hn := hA.1.1
  refine it_for (body := u1 (L_L_law_125 ga0 ga (((n, r, kd, ow, fr, to), sh) : SG) (nI (led r fr to 6 7)))) (fun i => nI i) n () (fun i hi => ?_) ?_ FUEL (FUEL_gt (by omega))
  · exact thing_L hA hg h0 hi
  · show L_L_law_125 ga0 ga (((n, r, kd, ow, fr, to), sh) : SG) (nI (led r fr to 6 7)) (nI n) = _
    unfold L_L_law_125
    rw [h0, ifleT (Nat.le_refl n) (by omega)]
end THING
