/-! THE ABSTRACT STATE, AND WHAT THE PUBLIC METHODS ANSWER IN IT -/
abbrev SG : Type := (Nat × Nat × (Nat → Nat) × (Nat → Nat) × (Nat → Nat) × (Nat → Nat)) × ((Nat → Int32) × (Nat → Int32) × (Nat → Nat → Int32))
def gJ (S : SG) (n_count n_references : Int32) (n_kind n_owner n_from n_to sl sn : Nat → Int32) (sc : Nat → Nat → Int32) : Prop := AD S.1.1 S.1.2.1 S.1.2.2.1 S.1.2.2.2.1 S.1.2.2.2.2.1 S.1.2.2.2.2.2 ∧ WR S.1.1 S.1.2.1 S.1.2.2.1 S.1.2.2.2.1 S.1.2.2.2.2.1 S.1.2.2.2.2.2 n_count n_references n_kind n_owner n_from n_to ∧ S.2.1 = sl ∧ S.2.2.1 = sn ∧ S.2.2.2 = sc
section SPEC
variable {n r : Nat} {kd ow fr to : Nat → Nat} {c1 r1 : Int32} {k1 a1 f1 g1 : Nat → Int32} {sl sn : Nat → Int32} {sc : Nat → Nat → Int32}
def spOf (n r : Nat) (kd ow fr to : Nat → Nat) (t : Nat) (w : Int32) : Int32 := if w = 0 then nI (kd t) else if w = 1 then nI (ow t) else if w = 2 then nI (lev n ow t) else if w = 3 then nI (lock n kd ow t) else if w = 4 then nI (tgt r fr to t) else if w = 5 then b2i ((rch r fr to).testBit t) else if w = 6 then nI (bef n r fr to t) else if w = 7 then b2i (law1 r ow fr to t) else if w = 8 then nI (near n r fr to t) else if w = 9 then nI (tail r fr to t) else if w = 10 then b2i (clsd r fr to t) else -2
theorem ofThing_c (h : AD n r kd ow fr to) (w1 : WR n r kd ow fr to c1 r1 k1 a1 f1 g1) (x w : Int32) : f_X4_ofThing c1 r1 k1 a1 f1 g1 x w = some (if isT n x = true then spOf n r kd ow fr to x.toNatClampNeg w else -1) := by
  obtain ⟨rfl, rfl, hk1, ha1, hf1, hg1⟩ := w1
  have hw := h.1
  have hn := hw.1
  have hr := hw.2.1
  have hb := hw.bd
  have hrl : rch r fr to < 128 := rcB_lt hb
  unfold f_X4_ofThing
  rw [isThing_c, ob1_s]
  by_cases h1 : isT n x = true
  · obtain ⟨t, ht, rfl⟩ := isT_ex hn h1
    rw [h1, bT, if_pos rfl, cl_nI (by omega)]
    unfold spOf
    have ht6 : t ≤ 6 := by omega
    by_cases e : w = 0
    · rw [if_pos e, if_pos e, kindOf_c hn hk1 ht, ob1_s]
    rw [if_neg e, if_neg e]
    clear e
    by_cases e : w = 1
    · rw [if_pos e, if_pos e, ownerOf_c hn ha1 ht, ob1_s]
    rw [if_neg e, if_neg e]
    clear e
    by_cases e : w = 2
    · rw [if_pos e, if_pos e, levelOf_c hn ha1 h.2.2.2 ht, ob1_s]
    rw [if_neg e, if_neg e]
    clear e
    by_cases e : w = 3
    · rw [if_pos e, if_pos e, lockOf_c hn hk1 ha1 h.2.2.2 h.kd2 ht, ob1_s]
    rw [if_neg e, if_neg e]
    clear e
    by_cases e : w = 4
    · rw [if_pos e, if_pos e, targetsOf_c hr hf1 hg1 hb ht6, ob1_s]
    rw [if_neg e, if_neg e]
    clear e
    by_cases e : w = 5
    · rw [if_pos e, if_pos e, reached_c hr hf1 hg1 hb, ob1_s, holds_e (by omega) (by omega), ob1_s, oneIf_b, ob1_s]
    rw [if_neg e, if_neg e]
    clear e
    by_cases e : w = 6
    · rw [if_pos e, if_pos e, standBefore_c hw hf1 hg1 ht, ob1_s]
    rw [if_neg e, if_neg e]
    clear e
    by_cases e : w = 7
    · rw [if_pos e, if_pos e, isLawful_c hw ha1 hf1 hg1 (h.ow6 t ht) ht, ob1_s, oneIf_b, ob1_s]
    rw [if_neg e, if_neg e]
    clear e
    by_cases e : w = 8
    · rw [if_pos e, if_pos e, nearestOf_c hw hf1 hg1 ht, ob1_s]
    rw [if_neg e, if_neg e]
    clear e
    by_cases e : w = 9
    · rw [if_pos e, if_pos e, tailOf_c hr hf1 hg1 hb ht6, ob1_s]
    rw [if_neg e, if_neg e]
    clear e
    by_cases e : w = 10
    · rw [if_pos e, if_pos e, isClosed_c hr hf1 hg1 hb ht6, ob1_s, oneIf_b, ob1_s]
    rw [if_neg e, if_neg e]
  · rw [if_neg h1]
    rw [Bool.not_eq_true] at h1
    rw [h1, bF]
def spPl (n r : Nat) (fr to : Nat → Nat) (x y : Int32) : Int32 := if isW n x = true ∧ isT n y = true then fndI r fr to x.toNatClampNeg y.toNatClampNeg else -1
def spRe (n r : Nat) (fr to : Nat → Nat) (x y : Int32) : Int32 := if isW n x = true ∧ isT n y = true then (if fndI r fr to x.toNatClampNeg y.toNatClampNeg = -9 then 0 else 1) else -1
theorem place_c (h : AD n r kd ow fr to) (w1 : WR n r kd ow fr to c1 r1 k1 a1 f1 g1) (x y : Int32) : f_X4_place c1 r1 f1 g1 x y = some (spPl n r fr to x y) := by
  obtain ⟨rfl, rfl, hk1, ha1, hf1, hg1⟩ := w1
  have hn := h.1.1
  unfold f_X4_place spPl
  rw [isW_c n hn, isThing_c, ob1_s, ob1_s]
  by_cases h1 : isW n x = true
  · by_cases h2 : isT n y = true
    · rw [if_pos (show isW n x = true ∧ isT n y = true from ⟨h1, h2⟩)]
      obtain ⟨p, hp, rfl⟩ := isW_ex hn h1
      obtain ⟨t, ht, rfl⟩ := isT_ex hn h2
      rw [h1, h2, bT, bT, find_c h.1.2.1 hf1 hg1 h.1.bd (by omega) (by omega), ob1_s, cl_nI (by omega), cl_nI (by omega)]
    · rw [if_neg (show ¬ (isW n x = true ∧ isT n y = true) from fun q => h2 q.2), h1, bT]
      rw [Bool.not_eq_true] at h2
      rw [h2, bF]
  · rw [if_neg (show ¬ (isW n x = true ∧ isT n y = true) from fun q => h1 q.1)]
    rw [Bool.not_eq_true] at h1
    rw [h1, bF]
theorem refers_c (h : AD n r kd ow fr to) (w1 : WR n r kd ow fr to c1 r1 k1 a1 f1 g1) (x y : Int32) : f_X4_refers c1 r1 f1 g1 x y = some (spRe n r fr to x y) := by
  obtain ⟨rfl, rfl, hk1, ha1, hf1, hg1⟩ := w1
  have hn := h.1.1
  unfold f_X4_refers spRe
  rw [isW_c n hn, isThing_c, ob1_s, ob1_s]
  by_cases h1 : isW n x = true
  · by_cases h2 : isT n y = true
    · rw [if_pos (show isW n x = true ∧ isT n y = true from ⟨h1, h2⟩)]
      obtain ⟨p, hp, rfl⟩ := isW_ex hn h1
      obtain ⟨t, ht, rfl⟩ := isT_ex hn h2
      rw [h1, h2, bT, bT, find_c h.1.2.1 hf1 hg1 h.1.bd (by omega) (by omega), ob1_s, cl_nI (by omega), cl_nI (by omega)]
      by_cases e : fndI r fr to p t = -9
      · rw [if_pos e, if_pos e]; rfl
      · rw [if_neg e, if_neg e]; rfl
    · rw [if_neg (show ¬ (isW n x = true ∧ isT n y = true) from fun q => h2 q.2), h1, bT]
      rw [Bool.not_eq_true] at h2
      rw [h2, bF]
  · rw [if_neg (show ¬ (isW n x = true ∧ isT n y = true) from fun q => h1 q.1)]
    rw [Bool.not_eq_true] at h1
    rw [h1, bF]
theorem unlawful_c (h : AD n r kd ow fr to) (w1 : WR n r kd ow fr to c1 r1 k1 a1 f1 g1) : f_X4_unlawful c1 r1 a1 f1 g1 = some (if nI n = 0 then -3 else nI (notL n r ow fr to)) := by
  obtain ⟨rfl, rfl, hk1, ha1, hf1, hg1⟩ := w1
  unfold f_X4_unlawful
  rw [size_c, ob1_s, notLawful_c h.1 ha1 hf1 hg1 h.ow2]
  by_cases e : nI n = 0
  · rw [if_pos e, if_pos e]
  · rw [if_neg e, if_neg e, ob1_s]
def spMa (n r : Nat) (ow fr to : Nat → Nat) (x : Int32) : Int32 := if x = 0 then nI n else if x = 1 then nI r else if x = 2 then nI (pc (rch r fr to)) else if x = 3 then nI (pc (notL n r ow fr to)) else -2
theorem many_c (h : AD n r kd ow fr to) (w1 : WR n r kd ow fr to c1 r1 k1 a1 f1 g1) (c x : Int32) (hx : ¬ x = 4) : f_X4_many c c1 r1 a1 f1 g1 x = some (spMa n r ow fr to x) := by
  obtain ⟨rfl, rfl, hk1, ha1, hf1, hg1⟩ := w1
  have hn := h.1.1
  have hrl : rch r fr to < 128 := rcB_lt h.1.bd
  have hnl : notL n r ow fr to < 128 := nlF_lt n (by omega)
  unfold f_X4_many spMa
  by_cases e : x = 0
  · rw [if_pos e, if_pos e, size_c, ob1_s]
  rw [if_neg e, if_neg e]
  clear e
  by_cases e : x = 1
  · rw [if_pos e, if_pos e, hmr_c, ob1_s]
  rw [if_neg e, if_neg e]
  clear e
  by_cases e : x = 2
  · rw [if_pos e, if_pos e, reached_c h.1.2.1 hf1 hg1 h.1.bd, ob1_s, bc_e hrl, ob1_s]
  rw [if_neg e, if_neg e]
  clear e
  by_cases e : x = 3
  · rw [if_pos e, if_pos e, notLawful_c h.1 ha1 hf1 hg1 h.ow2, ob1_s, bc_e hnl, ob1_s]
  rw [if_neg e, if_neg e, if_neg hx]
/-! what changes -/
def F_ofThing (S : SG) (x w : Int32) : Option Int32 := match S with
  | ((n, r, kd, ow, fr, to), _) => some (if isT n x = true then spOf n r kd ow fr to x.toNatClampNeg w else -1)
def F_refers (S : SG) (x y : Int32) : Option Int32 := match S with
  | ((n, r, _, _, fr, to), _) => some (spRe n r fr to x y)
def F_place (S : SG) (x y : Int32) : Option Int32 := match S with
  | ((n, r, _, _, fr, to), _) => some (spPl n r fr to x y)
def F_unlawful (S : SG) : Option Int32 := match S with
  | ((n, r, _, ow, fr, to), _) => some (if nI n = 0 then -3 else nI (notL n r ow fr to))
def F_many (S : SG) (x : Int32) : Option Int32 := match S with
  | ((n, r, _, ow, fr, to), _) => if x = 4 then none else some (spMa n r ow fr to x)
def F_refer (S : SG) (x y : Int32) : Option (Int32 × SG) := match S with
  | ((n, r, kd, ow, fr, to), sh) => if vr n x y = true then (match rfS r fr to x.toNatClampNeg y.toNatClampNeg with
    | none => some (-(nI 4), ((n, r, kd, ow, fr, to), sh))
    | some (r', fr', to') => some (nI r', ((n, r', kd, ow, fr', to'), sh))) else some (-1, ((n, r, kd, ow, fr, to), sh))
def F_own (S : SG) (x y : Int32) : Option (Int32 × SG) := match S with
  | ((n, r, kd, ow, fr, to), sh) => if vo n x y = true then (if und ow y.toNatClampNeg x.toNatClampNeg = true then some (-(nI 3), ((n, r, kd, ow, fr, to), sh)) else some (nI (ow x.toNatClampNeg), ((n, r, kd, upN ow x.toNatClampNeg y.toNatClampNeg, fr, to), sh))) else some (-1, ((n, r, kd, ow, fr, to), sh))
def F_hand (S : SG) (x y : Int32) : Option (Int32 × SG) := match S with
  | ((n, r, kd, ow, fr, to), sh) => if vh n x y = true then (match hdS r ow fr to x.toNatClampNeg y.toNatClampNeg with
    | none => some (-(nI 3), ((n, r, kd, ow, fr, to), sh))
    | some q => some (nI (fr q), ((n, r, kd, upN ow x.toNatClampNeg y.toNatClampNeg, upN fr q y.toNatClampNeg, to), sh))) else some (-1, ((n, r, kd, ow, fr, to), sh))
def F_sheet (S : SG) (x y z : Int32) : Option (Int32 × SG) := match S with
  | (W, sl, sn, sc) => match f_X4_sheet sl sn sc x y z with
    | none => none
    | some (v, _, sl', sn', sc') => some (v, (W, sl', sn', sc'))
def F_put (S : SG) (x y z : Int32) : Option (Int32 × SG) := match S with
  | (W, sl, sn, sc) => match f_X4_put sl sn sc x y z with
    | none => none
    | some (v, _, sc') => some (v, (W, sl, sn, sc'))
def F_odds (S : SG) (x : Int32) : Option Int64 := match S with
  | ((_, r, _, _, _, _), _) => if r = 0 ∧ btw x 0 1 = true then some (-9223372036854775808) else none
def F_past (S : SG) (x y : Int32) : Option Int32 := match S with
  | ((n, r, _, ow, fr, to), _) => if isT n x = true ∧ btw y (-1) 5 = true then some (if y = -1 then wpI r fr to (ow x.toNatClampNeg) x.toNatClampNeg else pasI n r fr to (ow x.toNatClampNeg) x.toNatClampNeg y.toNatClampNeg) else none
theorem pJ_ofThing {S : SG} {n_count : Int32} {n_references : Int32} {n_kind : Nat → Int32} {n_owner : Nat → Int32} {n_from : Nat → Int32} {n_to : Nat → Int32} {sl : Nat → Int32} {sn : Nat → Int32} {sc : Nat → Nat → Int32} {x1 x2 : Int32} {r : Int32} (hJ : gJ S n_count n_references n_kind n_owner n_from n_to sl sn sc) (h : F_ofThing S x1 x2 = some r) : f_X4_ofThing n_count n_references n_kind n_owner n_from n_to x1 x2 = some r := by
  obtain ⟨⟨n, nr, kd, ow, fr, to⟩, sh⟩ := S
  rw [ofThing_c hJ.1 hJ.2.1]
  exact h
theorem pJ_refers {S : SG} {n_count : Int32} {n_references : Int32} {n_kind : Nat → Int32} {n_owner : Nat → Int32} {n_from : Nat → Int32} {n_to : Nat → Int32} {sl : Nat → Int32} {sn : Nat → Int32} {sc : Nat → Nat → Int32} {x1 x2 : Int32} {r : Int32} (hJ : gJ S n_count n_references n_kind n_owner n_from n_to sl sn sc) (h : F_refers S x1 x2 = some r) : f_X4_refers n_count n_references n_from n_to x1 x2 = some r := by
  obtain ⟨⟨n, nr, kd, ow, fr, to⟩, sh⟩ := S
  rw [refers_c hJ.1 hJ.2.1]
  exact h
theorem pJ_place {S : SG} {n_count : Int32} {n_references : Int32} {n_kind : Nat → Int32} {n_owner : Nat → Int32} {n_from : Nat → Int32} {n_to : Nat → Int32} {sl : Nat → Int32} {sn : Nat → Int32} {sc : Nat → Nat → Int32} {x1 x2 : Int32} {r : Int32} (hJ : gJ S n_count n_references n_kind n_owner n_from n_to sl sn sc) (h : F_place S x1 x2 = some r) : f_X4_place n_count n_references n_from n_to x1 x2 = some r := by
  obtain ⟨⟨n, nr, kd, ow, fr, to⟩, sh⟩ := S
  rw [place_c hJ.1 hJ.2.1]
  exact h
theorem pJ_unlawful {S : SG} {n_count : Int32} {n_references : Int32} {n_kind : Nat → Int32} {n_owner : Nat → Int32} {n_from : Nat → Int32} {n_to : Nat → Int32} {sl : Nat → Int32} {sn : Nat → Int32} {sc : Nat → Nat → Int32} {r : Int32} (hJ : gJ S n_count n_references n_kind n_owner n_from n_to sl sn sc) (h : F_unlawful S = some r) : f_X4_unlawful n_count n_references n_owner n_from n_to = some r := by
  obtain ⟨⟨n, nr, kd, ow, fr, to⟩, sh⟩ := S
  rw [unlawful_c hJ.1 hJ.2.1]
  exact h
theorem pJ_many {S : SG} {d_count : Int32} {n_count : Int32} {n_references : Int32} {n_kind : Nat → Int32} {n_owner : Nat → Int32} {n_from : Nat → Int32} {n_to : Nat → Int32} {sl : Nat → Int32} {sn : Nat → Int32} {sc : Nat → Nat → Int32} {x1 : Int32} {r : Int32} (hJ : gJ S n_count n_references n_kind n_owner n_from n_to sl sn sc) (h : F_many S x1 = some r) : f_X4_many d_count n_count n_references n_owner n_from n_to x1 = some r := by
  obtain ⟨⟨n, nr, kd, ow, fr, to⟩, sh⟩ := S
  have h : (if x1 = 4 then none else some (spMa n nr ow fr to x1)) = some r := h
  by_cases e : x1 = 4
  · rw [if_pos e] at h; cases h
  · rw [if_neg e] at h
    rw [many_c hJ.1 hJ.2.1 _ _ e]
    exact h
theorem pJ_refer {S : SG} {n_count : Int32} {n_references : Int32} {n_kind : Nat → Int32} {n_owner : Nat → Int32} {n_from : Nat → Int32} {n_to : Nat → Int32} {sl : Nat → Int32} {sn : Nat → Int32} {sc : Nat → Nat → Int32} {x1 x2 : Int32} {r : Int32} {S' : SG} (hJ : gJ S n_count n_references n_kind n_owner n_from n_to sl sn sc) (h : F_refer S x1 x2 = some (r, S')) : ∃ (z_n_references : Int32) (z_n_from : Nat → Int32) (z_n_to : Nat → Int32), f_X4_refer n_count n_references n_from n_to x1 x2 = some (r, z_n_references, z_n_from, z_n_to) ∧ gJ S' n_count z_n_references n_kind n_owner z_n_from z_n_to sl sn sc := by
  obtain ⟨⟨n, nr, kd, ow, fr, to⟩, sh⟩ := S
  obtain ⟨hA, ⟨rfl, rfl, hk, ha, hf, hg⟩, hs⟩ := hJ
  have hn := hA.1.1
  unfold f_X4_refer
  have h : (if vr n x1 x2 = true then (match rfS nr fr to x1.toNatClampNeg x2.toNatClampNeg with
    | none => some (-(nI 4), (((n, nr, kd, ow, fr, to), sh) : SG))
    | some (r', fr', to') => some (nI r', ((n, r', kd, ow, fr', to'), sh))) else some (-1, ((n, nr, kd, ow, fr, to), sh))) = some (r, S') := h
  by_cases hv : vr n x1 x2 = true
  · rw [if_pos hv] at h
    obtain ⟨a, b, ha', hb', hab, rfl, rfl⟩ := vr_ex hn hv
    rw [cl_nI (by omega), cl_nI (by omega)] at h
    rcases makeOrCut_c hA.1 hf hg ha' hb' hab with ⟨e1, e2⟩ | ⟨r', fr', to', F, G, e1, e2, e3, e4⟩
    · rw [e1] at h
      cases h
      exact ⟨_, _, _, by rw [e2, ob4_s], hA, ⟨rfl, rfl, hk, ha, hf, hg⟩, hs⟩
    · rw [e1] at h
      cases h
      exact ⟨_, _, _, by rw [e2, ob4_s], AD_refer hA ha' hb' e1, ⟨rfl, rfl, hk, ha, e3, e4⟩, hs⟩
  · rw [if_neg hv] at h
    rw [Bool.not_eq_true] at hv
    cases h
    exact ⟨_, _, _, by rw [makeOrCut_bad hn hv, ob4_s], hA, ⟨rfl, rfl, hk, ha, hf, hg⟩, hs⟩
theorem pJ_own {S : SG} {n_count : Int32} {n_references : Int32} {n_kind : Nat → Int32} {n_owner : Nat → Int32} {n_from : Nat → Int32} {n_to : Nat → Int32} {sl : Nat → Int32} {sn : Nat → Int32} {sc : Nat → Nat → Int32} {x1 x2 : Int32} {r : Int32} {S' : SG} (hJ : gJ S n_count n_references n_kind n_owner n_from n_to sl sn sc) (h : F_own S x1 x2 = some (r, S')) : ∃ (z_n_owner : Nat → Int32), f_X4_own n_count n_owner x1 x2 = some (r, z_n_owner) ∧ gJ S' n_count n_references n_kind z_n_owner n_from n_to sl sn sc := by
  obtain ⟨⟨n, nr, kd, ow, fr, to⟩, sh⟩ := S
  obtain ⟨hA, ⟨rfl, rfl, hk, ha, hf, hg⟩, hs⟩ := hJ
  have hn := hA.1.1
  unfold f_X4_own
  have h : (if vo n x1 x2 = true then (if und ow x2.toNatClampNeg x1.toNatClampNeg = true then some (-(nI 3), (((n, nr, kd, ow, fr, to), sh) : SG)) else some (nI (ow x1.toNatClampNeg), ((n, nr, kd, upN ow x1.toNatClampNeg x2.toNatClampNeg, fr, to), sh))) else some (-1, ((n, nr, kd, ow, fr, to), sh))) = some (r, S') := h
  by_cases hv : vo n x1 x2 = true
  · rw [if_pos hv] at h
    obtain ⟨t, o, ht, ho, hot, rfl, rfl⟩ := vo_ex hn hv
    rw [cl_nI (by omega), cl_nI (by omega)] at h
    rw [changeOwner_c hA ha ht ho hot]
    by_cases hu : und ow o t = true
    · rw [if_pos hu] at h
      cases h
      exact ⟨_, by rw [if_pos hu, ob2_s], hA, ⟨rfl, rfl, hk, ha, hf, hg⟩, hs⟩
    · rw [if_neg hu] at h
      cases h
      rw [Bool.not_eq_true] at hu
      exact ⟨_, by rw [hu]; rfl, AD_own hA ht ho hot hu, ⟨rfl, rfl, hk, RI_up ha, hf, hg⟩, hs⟩
  · rw [if_neg hv] at h
    rw [Bool.not_eq_true] at hv
    cases h
    exact ⟨_, by rw [changeOwner_bad hn hv, ob2_s], hA, ⟨rfl, rfl, hk, ha, hf, hg⟩, hs⟩
theorem pJ_hand {S : SG} {n_count : Int32} {n_references : Int32} {n_kind : Nat → Int32} {n_owner : Nat → Int32} {n_from : Nat → Int32} {n_to : Nat → Int32} {sl : Nat → Int32} {sn : Nat → Int32} {sc : Nat → Nat → Int32} {x1 x2 : Int32} {r : Int32} {S' : SG} (hJ : gJ S n_count n_references n_kind n_owner n_from n_to sl sn sc) (h : F_hand S x1 x2 = some (r, S')) : ∃ (z_n_owner : Nat → Int32) (z_n_from : Nat → Int32), f_X4_hand n_count n_references n_owner n_from n_to x1 x2 = some (r, z_n_owner, z_n_from) ∧ gJ S' n_count n_references n_kind z_n_owner z_n_from n_to sl sn sc := by
  obtain ⟨⟨n, nr, kd, ow, fr, to⟩, sh⟩ := S
  obtain ⟨hA, ⟨rfl, rfl, hk, ha, hf, hg⟩, hs⟩ := hJ
  have hn := hA.1.1
  unfold f_X4_hand
  have h : (if vh n x1 x2 = true then (match hdS nr ow fr to x1.toNatClampNeg x2.toNatClampNeg with
    | none => some (-(nI 3), (((n, nr, kd, ow, fr, to), sh) : SG))
    | some q => some (nI (fr q), ((n, nr, kd, upN ow x1.toNatClampNeg x2.toNatClampNeg, upN fr q x2.toNatClampNeg, to), sh))) else some (-1, ((n, nr, kd, ow, fr, to), sh))) = some (r, S') := h
  by_cases hv : vh n x1 x2 = true
  · rw [if_pos hv] at h
    obtain ⟨t, x, ht, hx, htx, rfl, rfl⟩ := vh_ex hn hv
    rw [cl_nI (by omega), cl_nI (by omega)] at h
    rw [handOn_c hA ha hf hg ht hx htx]
    cases hq : hdS nr ow fr to t x with
    | none =>
      rw [hq] at h
      cases h
      exact ⟨_, _, rfl, hA, ⟨rfl, rfl, hk, ha, hf, hg⟩, hs⟩
    | some q =>
      rw [hq] at h
      cases h
      exact ⟨_, _, rfl, AD_hand hA ht hx htx hq, ⟨rfl, rfl, hk, RI_up ha, RI_up hf, hg⟩, hs⟩
  · rw [if_neg hv] at h
    rw [Bool.not_eq_true] at hv
    cases h
    exact ⟨_, _, by rw [handOn_bad hv, ob3_s], hA, ⟨rfl, rfl, hk, ha, hf, hg⟩, hs⟩
theorem pJ_sheet {S : SG} {n_count : Int32} {n_references : Int32} {n_kind : Nat → Int32} {n_owner : Nat → Int32} {n_from : Nat → Int32} {n_to : Nat → Int32} {sl : Nat → Int32} {sn : Nat → Int32} {sc : Nat → Nat → Int32} {x1 x2 x3 : Int32} {r : Int32} {S' : SG} (hJ : gJ S n_count n_references n_kind n_owner n_from n_to sl sn sc) (h : F_sheet S x1 x2 x3 = some (r, S')) : ∃ (z_o_lastFault : Int32) (z_sl : Nat → Int32) (z_sn : Nat → Int32) (z_sc : Nat → Nat → Int32), f_X4_sheet sl sn sc x1 x2 x3 = some (r, z_o_lastFault, z_sl, z_sn, z_sc) ∧ gJ S' n_count n_references n_kind n_owner n_from n_to z_sl z_sn z_sc := by
  obtain ⟨W, sl', sn', sc'⟩ := S
  obtain ⟨hA, hw, rfl, rfl, rfl⟩ := hJ
  have h : (match f_X4_sheet sl' sn' sc' x1 x2 x3 with
    | none => none
    | some (v, _, sl'', sn'', sc'') => some (v, ((W, sl'', sn'', sc'') : SG))) = some (r, S') := h
  cases e : f_X4_sheet sl' sn' sc' x1 x2 x3 with
  | none => rw [e] at h; cases h
  | some q =>
    obtain ⟨v, f, sl'', sn'', sc''⟩ := q
    rw [e] at h
    cases h
    exact ⟨_, _, _, _, rfl, hA, hw, rfl, rfl, rfl⟩
theorem pJ_put {S : SG} {n_count : Int32} {n_references : Int32} {n_kind : Nat → Int32} {n_owner : Nat → Int32} {n_from : Nat → Int32} {n_to : Nat → Int32} {sl : Nat → Int32} {sn : Nat → Int32} {sc : Nat → Nat → Int32} {x1 x2 x3 : Int32} {r : Int32} {S' : SG} (hJ : gJ S n_count n_references n_kind n_owner n_from n_to sl sn sc) (h : F_put S x1 x2 x3 = some (r, S')) : ∃ (z_o_lastFault : Int32) (z_sc : Nat → Nat → Int32), f_X4_put sl sn sc x1 x2 x3 = some (r, z_o_lastFault, z_sc) ∧ gJ S' n_count n_references n_kind n_owner n_from n_to sl sn z_sc := by
  obtain ⟨W, sl', sn', sc'⟩ := S
  obtain ⟨hA, hw, rfl, rfl, rfl⟩ := hJ
  have h : (match f_X4_put sl' sn' sc' x1 x2 x3 with
    | none => none
    | some (v, _, sc'') => some (v, ((W, sl', sn', sc'') : SG))) = some (r, S') := h
  cases e : f_X4_put sl' sn' sc' x1 x2 x3 with
  | none => rw [e] at h; cases h
  | some q =>
    obtain ⟨v, f, sc''⟩ := q
    rw [e] at h
    cases h
    exact ⟨_, _, rfl, hA, hw, rfl, rfl, rfl⟩
theorem pJ_odds {S : SG} {n_count : Int32} {n_references : Int32} {t_count : Int32} {t_references : Int32} {n_kind : Nat → Int32} {n_owner : Nat → Int32} {n_from : Nat → Int32} {n_to : Nat → Int32} {t_kind : Nat → Int32} {t_owner : Nat → Int32} {t_from : Nat → Int32} {t_to : Nat → Int32} {sl : Nat → Int32} {sn : Nat → Int32} {sc : Nat → Nat → Int32} {x1 : Int32} {r : Int64} (hJ : gJ S n_count n_references n_kind n_owner n_from n_to sl sn sc) (h : F_odds S x1 = some r) : ∃ (z_t_count : Int32) (z_t_references : Int32) (z_t_kind : Nat → Int32) (z_t_owner : Nat → Int32) (z_t_from : Nat → Int32) (z_t_to : Nat → Int32), f_X4_odds n_count n_references n_kind n_owner n_from n_to t_count t_references t_kind t_owner t_from t_to x1 = some (r, z_t_count, z_t_references, z_t_kind, z_t_owner, z_t_from, z_t_to) ∧ gJ S n_count n_references n_kind n_owner n_from n_to sl sn sc := by
  have hJ' := hJ
  obtain ⟨⟨n, nr, kd, ow, fr, to⟩, sh⟩ := S
  obtain ⟨hA, ⟨rfl, rfl, hk, ha, hf, hg⟩, hs⟩ := hJ
  have h : (if nr = 0 ∧ btw x1 0 1 = true then some (-9223372036854775808) else none) = some r := h
  by_cases e : nr = 0 ∧ btw x1 0 1 = true
  · rw [if_pos e] at h
    cases h
    refine ⟨t_count, t_references, t_kind, t_owner, t_from, t_to, ?_, hJ'⟩
    unfold f_X4_odds
    rw [hmr_c, ob1_s, btw_c, ob1_s, e.2, bT, e.1]
    exact if_pos rfl
  · rw [if_neg e] at h; cases h
theorem pJ_past {S : SG} {n_count : Int32} {n_references : Int32} {n_kind : Nat → Int32} {n_owner : Nat → Int32} {n_from : Nat → Int32} {n_to : Nat → Int32} {n_away : Nat → Int32} {sl : Nat → Int32} {sn : Nat → Int32} {sc : Nat → Nat → Int32} {x1 x2 : Int32} {r : Int32} (hJ : gJ S n_count n_references n_kind n_owner n_from n_to sl sn sc) (h : F_past S x1 x2 = some r) : ∃ (z_n_away : Nat → Int32), f_X4_past n_count n_references n_owner n_from n_to n_away x1 x2 = some (r, z_n_away) ∧ gJ S n_count n_references n_kind n_owner n_from n_to sl sn sc := by
  have hJ' := hJ
  obtain ⟨⟨n, nr, kd, ow, fr, to⟩, sh⟩ := S
  obtain ⟨hA, ⟨rfl, rfl, hk, ha, hf, hg⟩, hs⟩ := hJ
  have hn := hA.1.1
  have h : (if isT n x1 = true ∧ btw x2 (-1) 5 = true then some (if x2 = -1 then wpI nr fr to (ow x1.toNatClampNeg) x1.toNatClampNeg else pasI n nr fr to (ow x1.toNatClampNeg) x1.toNatClampNeg x2.toNatClampNeg) else none) = some r := h
  by_cases e : isT n x1 = true ∧ btw x2 (-1) 5 = true
  · rw [if_pos e] at h
    obtain ⟨e1, e2⟩ := e
    obtain ⟨t, ht, rfl⟩ := isT_ex hn e1
    rw [cl_nI (by omega)] at h
    have hot := AC_ne hn hA.2.2.2 ht
    unfold f_X4_past
    rw [isThing_c, ob1_s, e1, bT, btw_c, ob1_s, e2, bT]
    rcases btw_15 e2 with rfl | ⟨j, hj, rfl⟩
    · rw [show -(nI 1) = (-1 : Int32) from rfl, if_pos rfl] at h
      cases h
      obtain ⟨B, hB, -⟩ := findWayPast_c n_away hA.1 ha hf hg (hA.ow6 t ht) ht
      rw [show -(nI 1) = (-1 : Int32) from rfl, if_pos rfl, hB, ob2_s]
      exact ⟨_, rfl, hJ'⟩
    · have hne : ¬ nI j = -1 := fun q => nI_neg_ne (a := j) (k := 1) (by omega) (by omega) (by omega) q
      rw [if_neg hne, cl_nI (by omega)] at h
      cases h
      obtain ⟨B, hB⟩ := stopOf_c n_away hA.1 ha hf hg (hA.ow6 t ht) hot ht hj
      rw [if_neg hne, hB, ob2_s]
      exact ⟨_, rfl, hJ'⟩
  · rw [if_neg e] at h; cases h
end SPEC
