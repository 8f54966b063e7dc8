/-! THE CALLS: what both sides share, and the calls that change nothing of it -/
def AD (n r : Nat) (kd ow fr to : Nat → Nat) : Prop := Web n r fr to ∧ (∀ t, t < n → kd t ≤ 2 ∧ (ow t < n ∨ ow t = 6)) ∧ (∀ t, n ≤ t → ow t = 6) ∧ AC n ow
def WR (n r : Nat) (kd ow fr to : Nat → Nat) (cnt refs : Int32) (k a f g : Nat → Int32) : Prop := cnt = nI n ∧ refs = nI r ∧ RI n kd k ∧ RI n ow a ∧ RI r fr f ∧ RI r to g
theorem AC_ne {n t : Nat} {ow : Nat → Nat} (hn : n ≤ 6) (hc : AC n ow) (ht : t < n) : t ≠ ow t := by
  intro e
  obtain ⟨d, hd⟩ := hc t ht
  cases d with
  | zero =>
    have : t = 6 := hd
    omega
  | succ d =>
    have h1 := hd.2
    rw [← e] at h1
    have := Ch_one hn d (d + 1) t h1 hd
    omega
theorem oneIf_b (b : Bool) : f_X4_oneIf (b2i b) = some (b2i b) := by cases b <;> rfl
theorem bb (b : Bool) : (if b2i b = 0 then some (0 : Int32) else some 1) = some (b2i b) := by cases b <;> rfl
theorem size_c (x : Int32) : f_X3_size x = some x := rfl
theorem hmr_c (x : Int32) : f_X3_howManyReferences x = some x := rfl
theorem rsize_c (x : Int32) : f_X0_size x = some x := rfl
section CALLS
variable {n r : Nat} {kd ow fr to : Nat → Nat} {c1 r1 c2 r2 : Int32} {k1 a1 f1 g1 k2 a2 f2 g2 : Nat → Int32}
theorem AD.kd2 (h : AD n r kd ow fr to) : ∀ t, t < n → kd t ≤ 2 := fun t ht => (h.2.1 t ht).1
theorem AD.ow2 (h : AD n r kd ow fr to) : ∀ t, t < n → ow t < n ∨ ow t = 6 := fun t ht => (h.2.1 t ht).2
theorem AD.ow6 (h : AD n r kd ow fr to) : ∀ t, t < n → ow t ≤ 6 := fun t ht => by
  have := h.ow2 t ht
  have := h.1.1
  omega
theorem ofThing_cm (h : AD n r kd ow fr to) (w1 : WR n r kd ow fr to c1 r1 k1 a1 f1 g1) (w2 : WR n r kd ow fr to c2 r2 k2 a2 f2 g2) (x w : Int32) : ∃ v, f_X4_ofThing c1 r1 k1 a1 f1 g1 x w = some v ∧ f_X5_ofThing c2 r2 k2 a2 f2 g2 x w = some v := by
  obtain ⟨rfl, rfl, hk1, ha1, hf1, hg1⟩ := w1
  obtain ⟨rfl, rfl, hk2, ha2, hf2, hg2⟩ := w2
  have hw := h.1
  have hn := hw.1
  have hr := hw.2.1
  have hb := hw.bd
  have hrl : rch r fr to < 128 := rcB_lt hb
  unfold f_X4_ofThing f_X5_ofThing
  rw [isThing_c, isThing_m]
  by_cases h1 : isT n x = true
  · obtain ⟨t, ht, rfl⟩ := isT_ex hn h1
    rw [h1]
    simp only [ob1_s, L0, ifb, if_true]
    have ht6 : t ≤ 6 := by omega
    by_cases e : w = nI 0
    · rw [if_pos e, if_pos e, kindOf_c hn hk1 ht]
      simp (disch := omega) only [cl_nI, ifgd2, hk2 t ht, ob1_s]
      exact ⟨_, rfl, rfl⟩
    rw [if_neg e, if_neg e]
    clear e
    by_cases e : w = 1
    · rw [if_pos e, if_pos e, ownerOf_c hn ha1 ht]
      simp (disch := omega) only [cl_nI, ifgd2, ha2 t ht, ob1_s]
      exact ⟨_, rfl, rfl⟩
    rw [if_neg e, if_neg e]
    clear e
    by_cases e : w = 2
    · rw [if_pos e, if_pos e, levelOf_c hn ha1 h.2.2.2 ht, levelOf_m hn ha2 h.2.2.2 ht]
      exact ⟨_, rfl, rfl⟩
    rw [if_neg e, if_neg e]
    clear e
    by_cases e : w = 3
    · rw [if_pos e, if_pos e, lockOf_c hn hk1 ha1 h.2.2.2 h.kd2 ht, lockOf_m hn hk2 ha2 h.2.2.2 h.kd2 ht]
      exact ⟨_, rfl, rfl⟩
    rw [if_neg e, if_neg e]
    clear e
    by_cases e : w = 4
    · rw [if_pos e, if_pos e, targetsOf_c hr hf1 hg1 hb ht6, referredBy_m hr hf2 hg2 hb ht6]
      exact ⟨_, rfl, rfl⟩
    rw [if_neg e, if_neg e]
    clear e
    by_cases e : w = 5
    · rw [if_pos e, if_pos e, reached_c hr hf1 hg1 hb, reached_m hr hf2 hg2 hb, ob1_s, ob1_s, holds_e (by omega) (by omega), isOf_e (by omega) (by omega), ob1_s, ob1_s, oneIf_b]
      exact ⟨_, rfl, by rw [← L0]; exact bb _⟩
    rw [if_neg e, if_neg e]
    clear e
    by_cases e : w = 6
    · rw [if_pos e, if_pos e, standBefore_c hw hf1 hg1 ht, beforeOf_m hw hf2 hg2 ht]
      exact ⟨_, rfl, rfl⟩
    rw [if_neg e, if_neg e]
    clear e
    by_cases e : w = 7
    · rw [if_pos e, if_pos e, isLawful_c hw ha1 hf1 hg1 (h.ow6 t ht) ht, isLawful_m hw ha2 hf2 hg2 (h.ow2 t ht) ht, ob1_s, ob1_s, oneIf_b]
      exact ⟨_, rfl, by rw [← L0]; exact bb _⟩
    rw [if_neg e, if_neg e]
    clear e
    by_cases e : w = 8
    · rw [if_pos e, if_pos e, nearestOf_c hw hf1 hg1 ht, nearestOf_m hw hf2 hg2 ht]
      exact ⟨_, rfl, rfl⟩
    rw [if_neg e, if_neg e]
    clear e
    by_cases e : w = 9
    · rw [if_pos e, if_pos e, tailOf_c hr hf1 hg1 hb ht6]
      have := tail_m hr hf2 hg2 hb ht6
      rw [this]
      exact ⟨_, rfl, rfl⟩
    rw [if_neg e, if_neg e]
    clear e
    by_cases e : w = 10
    · rw [if_pos e, if_pos e, isClosed_c hr hf1 hg1 hb ht6, isClosed_m hr hf2 hg2 hb ht6, ob1_s, ob1_s, oneIf_b]
      exact ⟨_, rfl, by rw [← L0]; exact bb _⟩
    rw [if_neg e, if_neg e]
    exact ⟨_, rfl, rfl⟩
  · rw [Bool.not_eq_true] at h1
    rw [h1]
    exact ⟨_, rfl, rfl⟩
theorem fndI_none {a b : Nat} : fndI r fr to a b = -(nI 9) ∨ ∃ q, q < r ∧ fndI r fr to a b = nI q := by
  unfold fndI
  by_cases h : fnd r fr to a b < r
  · rw [if_pos h]; exact Or.inr ⟨_, h, rfl⟩
  · rw [if_neg h]; exact Or.inl rfl
theorem refers_cm (h : AD n r kd ow fr to) (w1 : WR n r kd ow fr to c1 r1 k1 a1 f1 g1) (w2 : WR n r kd ow fr to c2 r2 k2 a2 f2 g2) (x y : Int32) : ∃ v, f_X4_refers c1 r1 f1 g1 x y = some v ∧ f_X5_refers c2 r2 f2 g2 x y = some v := by
  obtain ⟨rfl, rfl, hk1, ha1, hf1, hg1⟩ := w1
  obtain ⟨rfl, rfl, hk2, ha2, hf2, hg2⟩ := w2
  have hn := h.1.1
  have hr := h.1.2.1
  have hb := h.1.bd
  unfold f_X4_refers f_X5_refers
  rw [isW_c n hn, isW_m n hn, isThing_c, isThing_m]
  by_cases h1 : isW n x = true
  · obtain ⟨p, hp, rfl⟩ := isW_ex hn h1
    rw [h1]
    by_cases h2 : isT n y = true
    · obtain ⟨t, ht, rfl⟩ := isT_ex hn h2
      rw [h2]
      simp only [ob1_s, L0, ifb, if_true]
      rw [find_c hr hf1 hg1 hb (by omega) (by omega), find_m hr hf2 hg2 hb (by omega) (by omega), ob1_s, ob1_s]
      by_cases e : fndI r fr to p t = -9
      · rw [if_pos e, if_pos e]; exact ⟨_, rfl, rfl⟩
      · rw [if_neg e, if_neg e]; exact ⟨_, rfl, rfl⟩
    · rw [Bool.not_eq_true] at h2
      rw [h2]
      exact ⟨_, rfl, rfl⟩
  · rw [Bool.not_eq_true] at h1
    rw [h1]
    exact ⟨_, rfl, rfl⟩
theorem place_cm (h : AD n r kd ow fr to) (w1 : WR n r kd ow fr to c1 r1 k1 a1 f1 g1) (w2 : WR n r kd ow fr to c2 r2 k2 a2 f2 g2) (x y : Int32) : ∃ v, f_X4_place c1 r1 f1 g1 x y = some v ∧ f_X5_place c2 r2 f2 g2 x y = some v := by
  obtain ⟨rfl, rfl, hk1, ha1, hf1, hg1⟩ := w1
  obtain ⟨rfl, rfl, hk2, ha2, hf2, hg2⟩ := w2
  have hn := h.1.1
  have hr := h.1.2.1
  have hb := h.1.bd
  unfold f_X4_place f_X5_place
  rw [isW_c n hn, isW_m n hn, isThing_c, isThing_m]
  by_cases h1 : isW n x = true
  · obtain ⟨p, hp, rfl⟩ := isW_ex hn h1
    rw [h1]
    by_cases h2 : isT n y = true
    · obtain ⟨t, ht, rfl⟩ := isT_ex hn h2
      rw [h2]
      simp only [ob1_s, L0, ifb, if_true]
      rw [find_c hr hf1 hg1 hb (by omega) (by omega), find_m hr hf2 hg2 hb (by omega) (by omega)]
      exact ⟨_, rfl, rfl⟩
    · rw [Bool.not_eq_true] at h2
      rw [h2]
      exact ⟨_, rfl, rfl⟩
  · rw [Bool.not_eq_true] at h1
    rw [h1]
    exact ⟨_, rfl, rfl⟩
theorem unlawful_cm (h : AD n r kd ow fr to) (w1 : WR n r kd ow fr to c1 r1 k1 a1 f1 g1) (w2 : WR n r kd ow fr to c2 r2 k2 a2 f2 g2) : ∃ v, f_X4_unlawful c1 r1 a1 f1 g1 = some v ∧ f_X5_unlawful c2 r2 a2 f2 g2 = some v := by
  obtain ⟨rfl, rfl, hk1, ha1, hf1, hg1⟩ := w1
  obtain ⟨rfl, rfl, hk2, ha2, hf2, hg2⟩ := w2
  unfold f_X4_unlawful f_X5_unlawful
  rw [size_c, ob1_s, notLawful_c h.1 ha1 hf1 hg1 h.ow2, unlawfulNow_m h.1 ha2 hf2 hg2 h.ow2]
  by_cases e : nI n = 0
  · rw [if_pos e]; exact ⟨_, rfl, rfl⟩
  · rw [if_neg e]; exact ⟨_, rfl, rfl⟩
theorem many_cm (h : AD n r kd ow fr to) (w1 : WR n r kd ow fr to c1 r1 k1 a1 f1 g1) (w2 : WR n r kd ow fr to c2 r2 k2 a2 f2 g2) (c x : Int32) : ∃ v, f_X4_many c c1 r1 a1 f1 g1 x = some v ∧ f_X5_many c2 r2 a2 f2 g2 c x = some v := by
  obtain ⟨rfl, rfl, hk1, ha1, hf1, hg1⟩ := w1
  obtain ⟨rfl, rfl, hk2, ha2, hf2, hg2⟩ := w2
  have hr := h.1.2.1
  have hb := h.1.bd
  have hn := h.1.1
  have hrl : rch r fr to < 128 := rcB_lt hb
  have hnl : notL n r ow fr to < 128 := nlF_lt n (by omega)
  unfold f_X4_many f_X5_many
  by_cases e : x = 0
  · rw [if_pos e, if_pos e]; exact ⟨_, rfl, rfl⟩
  rw [if_neg e, if_neg e]
  clear e
  by_cases e : x = 1
  · rw [if_pos e, if_pos e]; exact ⟨_, rfl, rfl⟩
  rw [if_neg e, if_neg e]
  clear e
  by_cases e : x = 2
  · rw [if_pos e, if_pos e, reached_c hr hf1 hg1 hb, reached_m hr hf2 hg2 hb, ob1_s, ob1_s, bc_e hrl, size_e hrl]
    exact ⟨_, rfl, rfl⟩
  rw [if_neg e, if_neg e]
  clear e
  by_cases e : x = 3
  · rw [if_pos e, if_pos e, notLawful_c h.1 ha1 hf1 hg1 h.ow2, unlawfulNow_m h.1 ha2 hf2 hg2 h.ow2, ob1_s, ob1_s, bc_e hnl, size_e hnl]
    exact ⟨_, rfl, rfl⟩
  rw [if_neg e, if_neg e]
  clear e
  by_cases e : x = 4
  · rw [if_pos e, if_pos e]; exact ⟨_, rfl, rfl⟩
  rw [if_neg e, if_neg e]
  exact ⟨_, rfl, rfl⟩
theorem tell_cm (h : AD n r kd ow fr to) (w1 : WR n r kd ow fr to c1 r1 k1 a1 f1 g1) (w2 : WR n r kd ow fr to c2 r2 k2 a2 f2 g2) (T x : Int32) : ∃ v T', f_X4_tell T c1 k1 a1 x = some (v, T') ∧ f_X5_tell T c2 k2 a2 x = some (v, T') := by
  obtain ⟨rfl, rfl, hk1, ha1, hf1, hg1⟩ := w1
  obtain ⟨rfl, rfl, hk2, ha2, hf2, hg2⟩ := w2
  have hn := h.1.1
  unfold f_X4_tell f_X5_tell
  rw [isThing_c, isThing_m]
  by_cases h1 : isT n x = true
  · obtain ⟨t, ht, rfl⟩ := isT_ex hn h1
    have hl := levelOf_c hn ha1 h.2.2.2 ht
    have hlm := levelOf_m hn ha2 h.2.2.2 ht
    have hkt := h.kd2 t ht
    rw [h1]
    simp (disch := omega) only [ob1_s, L0, ifb, if_true, hlm, kindOf_c hn hk1 ht, cl_nI, ifgd2, hk2 t ht]
    by_cases e1 : nI (kd t) = 1
    · rw [if_pos e1, if_pos e1]
      unfold f_X4_tellGuarded f_X4_tellPlain
      simp only [f_X4_leaveInTrace, f_X5_begins, ob1_s, hl, ob2_s]
      exact ⟨_, _, rfl, rfl⟩
    · rw [if_neg e1, if_neg e1]
      by_cases e2 : nI (kd t) = 2
      · rw [if_pos e2, if_pos e2]
        unfold f_X4_tellDouble f_X4_tellGuarded f_X4_tellPlain
        simp only [f_X4_leaveInTrace, f_X5_begins, ob1_s, hl, ob2_s]
        refine ⟨_, _, rfl, ?_⟩
        have e3 : (2 : Int32) * nI (lev n ow t) + 100 = nI (lev n ow t) + 100 + nI (lev n ow t) := by
          rw [show (2 : Int32) = nI 2 from rfl, show (100 : Int32) = nI 100 from rfl, nI_ml, nI_ad, nI_ad, nI_ad]
          congr 1
          omega
        rw [e3]
      · rw [if_neg e2, if_neg e2]
        unfold f_X4_tellPlain
        simp only [f_X4_leaveInTrace, f_X5_begins, ob1_s, hl, ob2_s]
        exact ⟨_, _, rfl, rfl⟩
  · rw [Bool.not_eq_true] at h1
    rw [h1]
    exact ⟨_, _, rfl, rfl⟩
theorem hail_cm (h : AD n r kd ow fr to) (w1 : WR n r kd ow fr to c1 r1 k1 a1 f1 g1) (w2 : WR n r kd ow fr to c2 r2 k2 a2 f2 g2) (T x : Int32) : ∃ v T', f_X4_hail T c1 k1 x = some (v, T') ∧ f_X5_hail T c2 k2 x = some (v, T') := by
  obtain ⟨rfl, rfl, hk1, ha1, hf1, hg1⟩ := w1
  obtain ⟨rfl, rfl, hk2, ha2, hf2, hg2⟩ := w2
  have hn := h.1.1
  unfold f_X4_hail f_X5_hail
  rw [isThing_c, isThing_m]
  by_cases h1 : isT n x = true
  · obtain ⟨t, ht, rfl⟩ := isT_ex hn h1
    rw [h1]
    simp (disch := omega) only [ob1_s, L0, ifb, if_true, kindOf_c hn hk1 ht, cl_nI, ifgd2, hk2 t ht]
    by_cases e2 : nI (kd t) = 2
    · simp only [if_pos e2]
      exact ⟨_, _, rfl, rfl⟩
    · simp only [if_neg e2]
      exact ⟨_, _, rfl, rfl⟩
  · rw [Bool.not_eq_true] at h1
    rw [h1]
    exact ⟨_, _, rfl, rfl⟩
theorem as_cm (h : AD n r kd ow fr to) (w1 : WR n r kd ow fr to c1 r1 k1 a1 f1 g1) (w2 : WR n r kd ow fr to c2 r2 k2 a2 f2 g2) (x y : Int32) : ∃ v F, f_X4_as c1 k1 x y = some (v, F) ∧ f_X5_as c2 k2 x y = some (v, F) := by
  obtain ⟨rfl, rfl, hk1, ha1, hf1, hg1⟩ := w1
  obtain ⟨rfl, rfl, hk2, ha2, hf2, hg2⟩ := w2
  have hn := h.1.1
  unfold f_X4_as f_X5_as
  rw [isThing_c, isThing_m, btw_c, btw_m]
  by_cases h1 : isT n x = true
  · obtain ⟨t, ht, rfl⟩ := isT_ex hn h1
    rw [h1]
    by_cases h2 : btw y 0 2 = true
    · rw [h2]
      simp (disch := omega) only [ob1_s, L0, ifb, if_true, kindOf_c hn hk1 ht, cl_nI, ifgd2, hk2 t ht]
      by_cases e2 : nI (kd t) < y
      · rw [if_pos e2, if_pos e2]
        exact ⟨_, _, rfl, rfl⟩
      · rw [if_neg e2, if_neg e2]
        exact ⟨_, _, rfl, rfl⟩
    · rw [Bool.not_eq_true] at h2
      rw [h2]
      exact ⟨_, _, rfl, rfl⟩
  · rw [Bool.not_eq_true] at h1
    rw [h1]
    exact ⟨_, _, rfl, rfl⟩
end CALLS
