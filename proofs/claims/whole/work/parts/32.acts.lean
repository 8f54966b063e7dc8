/-! refer, own, hand; one act of a day -/
section ACTS
variable {n r : Nat} {kd ow fr to : Nat → Nat} {k1 a1 f1 g1 k2 a2 f2 g2 : Nat → Int32}
def vr (n : Nat) (x y : Int32) : Bool := isW n x && (isT n y && !decide (x = y))
def vo (n : Nat) (x y : Int32) : Bool := isT n x && (isW n y && !decide (x = y))
def vh (n : Nat) (x y : Int32) : Bool := isT n x && (isT n y && !decide (x = y))
theorem vr_ex {x y : Int32} (hn : n ≤ 6) (h : vr n x y = true) : ∃ a b, (a < n ∨ a = 6) ∧ b < n ∧ a ≠ b ∧ x = nI a ∧ y = nI b := by
  simp [vr] at h
  obtain ⟨h1, h2, h3⟩ := h
  obtain ⟨a, ha, rfl⟩ := isW_ex hn h1
  obtain ⟨b, hb, rfl⟩ := isT_ex hn h2
  exact ⟨a, b, ha, hb, fun e => h3 (by rw [e]), rfl, rfl⟩
theorem vo_ex {x y : Int32} (hn : n ≤ 6) (h : vo n x y = true) : ∃ a b, a < n ∧ (b < n ∨ b = 6) ∧ b ≠ a ∧ x = nI a ∧ y = nI b := by
  simp [vo] at h
  obtain ⟨h1, h2, h3⟩ := h
  obtain ⟨a, ha, rfl⟩ := isT_ex hn h1
  obtain ⟨b, hb, rfl⟩ := isW_ex hn h2
  exact ⟨a, b, ha, hb, fun e => h3 (by rw [e]), rfl, rfl⟩
theorem vh_ex {x y : Int32} (hn : n ≤ 6) (h : vh n x y = true) : ∃ a b, a < n ∧ b < n ∧ a ≠ b ∧ x = nI a ∧ y = nI b := by
  simp [vh] at h
  obtain ⟨h1, h2, h3⟩ := h
  obtain ⟨a, ha, rfl⟩ := isT_ex hn h1
  obtain ⟨b, hb, rfl⟩ := isT_ex hn h2
  exact ⟨a, b, ha, hb, fun e => h3 (by rw [e]), rfl, rfl⟩
theorem makeOrCut_bad {x y : Int32} (hn : n ≤ 6) (h : vr n x y = false) (f g : Nat → Int32) (R : Int32) : f_X3_makeOrCut (nI n) R f g x y = some (-1, R, f, g) := by
  unfold f_X3_makeOrCut
  rw [isW_c n hn, isThing_c, ob1_s, ob1_s]
  by_cases h1 : isW n x = true
  · rw [h1, bT]
    by_cases h2 : isT n y = true
    · rw [h2, bT]
      have h3 : x = y := by simpa [vr, h1, h2] using h
      rw [if_pos h3]
    · rw [Bool.not_eq_true] at h2
      rw [h2, bF]
  · rw [Bool.not_eq_true] at h1
    rw [h1, bF]
theorem changeOwner_bad {x y : Int32} (hn : n ≤ 6) (h : vo n x y = false) (a : Nat → Int32) : f_X3_changeOwner (nI n) a x y = some (-1, a) := by
  unfold f_X3_changeOwner
  rw [isW_c n hn, isThing_c, ob1_s, ob1_s]
  by_cases h1 : isT n x = true
  · rw [h1, bT]
    by_cases h2 : isW n y = true
    · rw [h2, bT]
      have h3 : x = y := by simpa [vo, h1, h2] using h
      rw [if_pos h3]
    · rw [Bool.not_eq_true] at h2
      rw [h2, bF]
  · rw [Bool.not_eq_true] at h1
    rw [h1, bF]
theorem handOn_bad {x y : Int32} (h : vh n x y = false) (a f g : Nat → Int32) (R : Int32) : f_X3_handOn (nI n) R a f g x y = some (-1, a, f) := by
  unfold f_X3_handOn
  rw [isThing_c, isThing_c, ob1_s, ob1_s]
  by_cases h1 : isT n x = true
  · rw [h1, bT]
    by_cases h2 : isT n y = true
    · rw [h2, bT]
      have h3 : x = y := by simpa [vh, h1, h2] using h
      rw [if_pos h3]
    · rw [Bool.not_eq_true] at h2
      rw [h2, bF]
  · rw [Bool.not_eq_true] at h1
    rw [h1, bF]
theorem AD_refer {a b r' : Nat} {fr' to' : Nat → Nat} (h : AD n r kd ow fr to) (ha : a < n ∨ a = 6) (hb : b < n) (hs : rfS r fr to a b = some (r', fr', to')) : AD n r' kd ow fr' to' := ⟨rfS_web h.1 ha hb hs, h.2⟩
theorem AD_hand {t x q : Nat} (h : AD n r kd ow fr to) (ht : t < n) (hx : x < n) (htx : t ≠ x) (hs : hdS r ow fr to t x = some q) : AD n r kd (upN ow t x) (upN fr q x) to := by
  obtain ⟨h1, h2⟩ := hdS_lt hs
  have h3 := AD_own h ht (Or.inl hx) (Ne.symm htx) h2
  refine ⟨⟨h.1.1, h.1.2.1, fun q' hq' => ?_⟩, h3.2⟩
  have h4 := h.1.2.2 q' hq'
  refine ⟨?_, h4.2⟩
  unfold upN
  by_cases e : q' = q
  · rw [if_pos e]; exact Or.inl hx
  · rw [if_neg e]; exact h4.1
theorem refer_cm {c1 r1 c2 r2 : Int32} (h : AD n r kd ow fr to) (w1 : WR n r kd ow fr to c1 r1 k1 a1 f1 g1) (w2 : WR n r kd ow fr to c2 r2 k2 a2 f2 g2) (x y : Int32) : ∃ v r' fr' to' F1 G1 F2 G2, f_X4_refer c1 r1 f1 g1 x y = some (v, nI r', F1, G1) ∧ f_X5_refer c2 r2 f2 g2 x y = some (v, nI r', F2, G2) ∧ AD n r' kd ow fr' to' ∧ RI r' fr' F1 ∧ RI r' to' G1 ∧ RI r' fr' F2 ∧ RI r' to' G2 := by
  obtain ⟨rfl, rfl, hk1, ha1, hf1, hg1⟩ := w1
  obtain ⟨rfl, rfl, hk2, ha2, hf2, hg2⟩ := w2
  have hn := h.1.1
  unfold f_X4_refer f_X5_refer
  rw [isW_m n hn, isThing_m, ob1_s, ob1_s]
  by_cases hv : vr n x y = true
  · obtain ⟨a, b, ha, hb, hab, rfl, rfl⟩ := vr_ex hn hv
    rw [isW_nI hn (by omega) ha, isT_nI hn hb, bT, bT, ifeqF hab (by omega) (by omega)]
    rcases makeOrCut_c h.1 hf1 hg1 ha hb hab with ⟨e1, e2⟩ | ⟨r', fr', to', F, G, e1, e2, e3, e4⟩
    · rcases turns_m h.1 hf2 hg2 ha hb with ⟨e5, e6⟩ | ⟨r', fr', to', F, G, e5, -⟩
      · refine ⟨_, r, fr, to, f1, g1, f2, g2, by rw [e2, ob4_s], by rw [e6, ob4_s]; rfl, h, hf1, hg1, hf2, hg2⟩
      · rw [e1] at e5; cases e5
    · rcases turns_m h.1 hf2 hg2 ha hb with ⟨e5, -⟩ | ⟨r2', fr2', to2', F', G', e5, e6, e7, e8⟩
      · rw [e1] at e5; cases e5
      · rw [e1] at e5
        cases e5
        refine ⟨_, r', fr', to', F, G, F', G', by rw [e2, ob4_s], by rw [e6, ob4_s]; rfl, AD_refer h ha hb e1, e3, e4, e7, e8⟩
  · rw [Bool.not_eq_true] at hv
    refine ⟨_, r, fr, to, f1, g1, f2, g2, by rw [makeOrCut_bad hn hv, ob4_s], ?_, h, hf1, hg1, hf2, hg2⟩
    by_cases h1 : isW n x = true
    · rw [h1, bT]
      by_cases h2 : isT n y = true
      · rw [h2, bT]
        have h3 : x = y := by simpa [vr, h1, h2] using hv
        rw [if_pos h3]
      · rw [Bool.not_eq_true] at h2
        rw [h2, bF]
    · rw [Bool.not_eq_true] at h1
      rw [h1, bF]
theorem own_cm {c1 c2 : Int32} (h : AD n r kd ow fr to) (e1 : c1 = nI n) (e2 : c2 = nI n) (ha1 : RI n ow a1) (ha2 : RI n ow a2) (x y : Int32) : ∃ v ow' A1 A2, f_X4_own c1 a1 x y = some (v, A1) ∧ f_X5_own c2 a2 x y = some (v, A2) ∧ AD n r kd ow' fr to ∧ RI n ow' A1 ∧ RI n ow' A2 := by
  subst e1 e2
  have hn := h.1.1
  unfold f_X4_own f_X5_own
  rw [isW_m n hn, isThing_m, ob1_s, ob1_s]
  by_cases hv : vo n x y = true
  · obtain ⟨t, o, ht, ho, hot, rfl, rfl⟩ := vo_ex hn hv
    rw [isT_nI hn ht, isW_nI hn (by omega) ho, bT, bT, ifeqF (Ne.symm hot) (by omega) (by omega), changeOwner_c h ha1 ht ho hot, canOwn_m h ha2 ht ho, ob1_s]
    by_cases hu : und ow o t = true
    · refine ⟨_, ow, a1, a2, by rw [if_pos hu, ob2_s], ?_, h, ha1, ha2⟩
      have : (!decide (o = t) && !und ow o t) = false := by simp [hu]
      rw [this, bF]
      rfl
    · rw [Bool.not_eq_true] at hu
      refine ⟨nI (ow t), upN ow t o, upd a1 t (nI o), upd a2 t (nI o), by rw [hu]; rfl, ?_, AD_own h ht ho hot hu, RI_up ha1, RI_up ha2⟩
      have : (!decide (o = t) && !und ow o t) = true := by simp [hu, hot]
      rw [this, bT]
      simp (disch := omega) only [cl_nI, ifgd0, ha2 t ht]
  · rw [Bool.not_eq_true] at hv
    refine ⟨_, ow, a1, a2, by rw [changeOwner_bad hn hv, ob2_s], ?_, h, ha1, ha2⟩
    by_cases h1 : isT n x = true
    · rw [h1, bT]
      by_cases h2 : isW n y = true
      · rw [h2, bT]
        have h3 : x = y := by simpa [vo, h1, h2] using hv
        rw [if_pos h3]
      · rw [Bool.not_eq_true] at h2
        rw [h2, bF]
    · rw [Bool.not_eq_true] at h1
      rw [h1, bF]
theorem hand_cm {c1 r1 c2 r2 : Int32} (h : AD n r kd ow fr to) (w1 : WR n r kd ow fr to c1 r1 k1 a1 f1 g1) (w2 : WR n r kd ow fr to c2 r2 k2 a2 f2 g2) (x y : Int32) : ∃ v ow' fr' A1 F1 A2 F2, f_X4_hand c1 r1 a1 f1 g1 x y = some (v, A1, F1) ∧ f_X5_hand c2 r2 a2 f2 g2 x y = some (v, A2, F2) ∧ AD n r kd ow' fr' to ∧ RI n ow' A1 ∧ RI r fr' F1 ∧ RI n ow' A2 ∧ RI r fr' F2 := by
  obtain ⟨rfl, rfl, hk1, ha1, hf1, hg1⟩ := w1
  obtain ⟨rfl, rfl, hk2, ha2, hf2, hg2⟩ := w2
  have hn := h.1.1
  have hr := h.1.2.1
  have hbd := h.1.bd
  unfold f_X4_hand f_X5_hand
  rw [isThing_m, isThing_m, ob1_s, ob1_s]
  by_cases hv : vh n x y = true
  · obtain ⟨t, x, ht, hx, htx, rfl, rfl⟩ := vh_ex hn hv
    rw [isT_nI hn ht, isT_nI hn hx, bT, bT, ifeqF htx (by omega) (by omega), handOn_c h ha1 hf1 hg1 ht hx htx, handedBy_m h ha2 hf2 hg2 ht hx, ob1_s]
    cases hs : hdS r ow fr to t x with
    | none => exact ⟨_, ow, fr, a1, f1, a2, f2, rfl, rfl, h, ha1, hf1, ha2, hf2⟩
    | some q =>
      have hq := (hdS_lt hs).1
      refine ⟨nI (fr q), upN ow t x, upN fr q x, _, _, upd a2 t (nI x), upd f2 q (nI x), rfl, ?_, AD_hand h ht hx htx hs, RI_up ha1, RI_up hf1, RI_up ha2, RI_up hf2⟩
      simp (disch := omega) only [L9, ifeqN, cl_nI, ifgd0, hf2 q hq]
  · rw [Bool.not_eq_true] at hv
    refine ⟨_, ow, fr, a1, f1, a2, f2, by rw [handOn_bad hv, ob3_s], ?_, h, ha1, hf1, ha2, hf2⟩
    by_cases h1 : isT n x = true
    · rw [h1, bT]
      by_cases h2 : isT n y = true
      · rw [h2, bT]
        have h3 : x = y := by simpa [vh, h1, h2] using hv
        rw [if_pos h3]
      · rw [Bool.not_eq_true] at h2
        rw [h2, bF]
    · rw [Bool.not_eq_true] at h1
      rw [h1, bF]
theorem neg1lt : (-1 : Int32) < 0 := by decide
theorem neg3lt : -(nI 3) < (0 : Int32) := by decide
theorem neg4lt : -(nI 4) < (0 : Int32) := by decide
theorem act_cm (h : AD n r kd ow fr to) (ha1 : RI n ow a1) (hf1 : RI r fr f1) (hg1 : RI r to g1) (ha2 : RI n ow a2) (hf2 : RI r fr f2) (hg2 : RI r to g2) (s x y : Int32) (hs : s = 0 ∨ s = 1 ∨ s = 2) : ∃ ok r' ow' fr' to' A1 F1 G1 A2 F2 G2, f_X4_isActDone (nI n) (nI r) a1 f1 g1 s x y = some (b2i ok, nI r', A1, F1, G1) ∧ f_X5_does (nI n) (nI r) a2 f2 g2 s x y = some (b2i ok, nI r', A2, F2, G2) ∧ AD n r' kd ow' fr' to' ∧ RI n ow' A1 ∧ RI r' fr' F1 ∧ RI r' to' G1 ∧ RI n ow' A2 ∧ RI r' fr' F2 ∧ RI r' to' G2 := by
  have hn := h.1.1
  have hr := h.1.2.1
  have hbd := h.1.bd
  have p01 : ¬ (1 : Int32) = 0 := by decide
  have p02 : ¬ (2 : Int32) = 0 := by decide
  have p12 : ¬ (2 : Int32) = 1 := by decide
  unfold f_X4_isActDone f_X5_does
  rcases hs with rfl | rfl | rfl
  · rw [if_pos rfl, if_pos rfl, isW_m n hn, isThing_m, ob1_s, ob1_s]
    by_cases hv : vr n x y = true
    · obtain ⟨a, b, ha, hb, hab, rfl, rfl⟩ := vr_ex hn hv
      rw [isW_nI hn (by omega) ha, isT_nI hn hb, bT, bT, ifeqF hab (by omega) (by omega)]
      rcases makeOrCut_c h.1 hf1 hg1 ha hb hab with ⟨e1, e2⟩ | ⟨r', fr', to', F, G, e1, e2, e3, e4⟩
      · rcases turns_m h.1 hf2 hg2 ha hb with ⟨e5, e6⟩ | ⟨r', fr', to', F, G, e5, -⟩
        · exact ⟨false, r, ow, fr, to, a1, f1, g1, a2, f2, g2, by rw [e2, ob4_s, if_pos neg4lt]; rfl, by rw [e6, ob4_s]; rfl, h, ha1, hf1, hg1, ha2, hf2, hg2⟩
        · rw [e1] at e5; cases e5
      · rcases turns_m h.1 hf2 hg2 ha hb with ⟨e5, -⟩ | ⟨r2', fr2', to2', F', G', e5, e6, e7, e8⟩
        · rw [e1] at e5; cases e5
        · rw [e1] at e5
          cases e5
          have hA := AD_refer h ha hb e1
          exact ⟨true, r', ow, fr', to', a1, F, G, a2, F', G', by rw [e2, ob4_s, L0, ifltF (by omega) (by have := hA.1.2.1; omega)]; rfl, by rw [e6, ob4_s]; rfl, hA, ha1, e3, e4, ha2, e7, e8⟩
    · rw [Bool.not_eq_true] at hv
      refine ⟨false, r, ow, fr, to, a1, f1, g1, a2, f2, g2, by rw [makeOrCut_bad hn hv, ob4_s, if_pos neg1lt]; rfl, ?_, h, ha1, hf1, hg1, ha2, hf2, hg2⟩
      by_cases hxy : x = y
      · rw [if_pos hxy]; rfl
      · rw [if_neg hxy]
        by_cases h1 : isW n x = true
        · rw [h1, bT]
          have h2 : isT n y = false := by simpa [vr, h1, hxy] using hv
          rw [h2, bF]; rfl
        · rw [Bool.not_eq_true] at h1
          rw [h1, bF]; rfl
  · rw [if_neg p01, if_neg p01, if_pos rfl, if_pos rfl, isW_m n hn, isThing_m, ob1_s, ob1_s]
    by_cases hv : vo n x y = true
    · obtain ⟨t, o, ht, ho, hot, rfl, rfl⟩ := vo_ex hn hv
      rw [isT_nI hn ht, isW_nI hn (by omega) ho, bT, bT, ifeqF (Ne.symm hot) (by omega) (by omega), changeOwner_c h ha1 ht ho hot, canOwn_m h ha2 ht ho, ob1_s]
      by_cases hu : und ow o t = true
      · refine ⟨false, r, ow, fr, to, a1, f1, g1, a2, f2, g2, by rw [if_pos hu, ob2_s, if_pos neg3lt]; rfl, ?_, h, ha1, hf1, hg1, ha2, hf2, hg2⟩
        have : (!decide (o = t) && !und ow o t) = false := by simp [hu]
        rw [this, bF]
        rfl
      · rw [Bool.not_eq_true] at hu
        refine ⟨true, r, upN ow t o, fr, to, upd a1 t (nI o), f1, g1, upd a2 t (nI o), f2, g2, ?_, ?_, AD_own h ht ho hot hu, RI_up ha1, hf1, hg1, RI_up ha2, hf2, hg2⟩
        · rw [hu, if_neg (by decide), ob2_s, L0, ifltF (by omega) (by have := h.ow6 t ht; omega)]; rfl
        · have : (!decide (o = t) && !und ow o t) = true := by simp [hu, hot]
          rw [this, bT]
          simp (disch := omega) only [cl_nI, ifgd0]
          rfl
    · rw [Bool.not_eq_true] at hv
      refine ⟨false, r, ow, fr, to, a1, f1, g1, a2, f2, g2, by rw [changeOwner_bad hn hv, ob2_s, if_pos neg1lt]; rfl, ?_, h, ha1, hf1, hg1, ha2, hf2, hg2⟩
      by_cases hxy : x = y
      · rw [if_pos hxy]; rfl
      · rw [if_neg hxy]
        by_cases h1 : isT n x = true
        · rw [h1, bT]
          have h2 : isW n y = false := by simpa [vo, h1, hxy] using hv
          rw [h2, bF]; rfl
        · rw [Bool.not_eq_true] at h1
          rw [h1, bF]; rfl
  · rw [if_neg p02, if_neg p02, if_neg p12, if_neg p12, if_pos rfl, isThing_m, isThing_m, ob1_s, ob1_s]
    by_cases hv : vh n x y = true
    · obtain ⟨t, x, ht, hx, htx, rfl, rfl⟩ := vh_ex hn hv
      rw [isT_nI hn ht, isT_nI hn hx, bT, bT, ifeqF htx (by omega) (by omega), handOn_c h ha1 hf1 hg1 ht hx htx, handedBy_m h ha2 hf2 hg2 ht hx, ob1_s]
      cases hs : hdS r ow fr to t x with
      | none => exact ⟨false, r, ow, fr, to, a1, f1, g1, a2, f2, g2, rfl, rfl, h, ha1, hf1, hg1, ha2, hf2, hg2⟩
      | some q =>
        have hq := (hdS_lt hs).1
        have hbq := hbd q hq
        refine ⟨true, r, upN ow t x, upN fr q x, to, upd a1 t (nI x), upd f1 q (nI x), g1, upd a2 t (nI x), upd f2 q (nI x), g2, ?_, ?_, AD_hand h ht hx htx hs, RI_up ha1, RI_up hf1, hg1, RI_up ha2, RI_up hf2, hg2⟩
        · show ob3 (some (nI (fr q), upd a1 t (nI x), upd f1 q (nI x))) _ = _
          rw [ob3_s, L0, ifltF (by omega) (by omega)]; rfl
        · simp (disch := omega) only [L9, ifeqN, ob1_s, cl_nI, ifgd0]
          rfl
    · rw [Bool.not_eq_true] at hv
      refine ⟨false, r, ow, fr, to, a1, f1, g1, a2, f2, g2, by rw [handOn_bad hv, ob3_s, if_pos neg1lt]; rfl, ?_, h, ha1, hf1, hg1, ha2, hf2, hg2⟩
      by_cases hxy : x = y
      · rw [if_pos hxy]; rfl
      · rw [if_neg hxy]
        by_cases h1 : isT n x = true
        · rw [h1, bT]
          have h2 : isT n y = false := by simpa [vh, h1, hxy] using hv
          rw [h2, bF]; rfl
        · rw [Bool.not_eq_true] at h1
          rw [h1, bF]; rfl
end ACTS
