/-! THE LAW'S change: the object and the row g go on alike -/
abbrev SH : Type := (Nat → Int32) × (Nat → Int32) × (Nat → Nat → Int32)
def LI (sh : SH) (n : Nat) (S : SG) (ga : Nat → Int32) : Prop := ∃ r kd ow fr to, S = ((n, r, kd, ow, fr, to), sh) ∧ AD n r kd ow fr to ∧ GR n r kd ow fr to ga ∧ DS r fr to
section CHANGE
variable {n r : Nat} {kd ow fr to : Nat → Nat} {ga : Nat → Int32} {sh : SH}
theorem vr_nI {a b : Nat} (hn : n ≤ 6) (h0 : 0 < n) (ha : a < n ∨ a = 6) (hb : b < n) (hab : a ≠ b) : vr n (nI a) (nI b) = true := by
  unfold vr
  rw [isW_nI hn h0 ha, isT_nI hn hb, dec_ne (by omega) (by omega)]
  simp [hab]
theorem vr_eq {x : Int32} : vr n x x = false := by unfold vr; simp
theorem vo_eq {x : Int32} : vo n x x = false := by unfold vo; simp
theorem vh_eq {x : Int32} : vh n x x = false := by unfold vh; simp
theorem vo_nI {a b : Nat} (hn : n ≤ 6) (ha : a < n) (hb : b < n ∨ b = 6) (hab : a ≠ b) : vo n (nI a) (nI b) = true := by
  unfold vo
  rw [isT_nI hn ha, isW_nI hn (by omega) hb, dec_ne (by omega) (by omega)]
  simp [hab]
theorem vh_nI {a b : Nat} (hn : n ≤ 6) (ha : a < n) (hb : b < n) (hab : a ≠ b) : vh n (nI a) (nI b) = true := by
  unfold vh
  rw [isT_nI hn ha, isT_nI hn hb, dec_ne (by omega) (by omega)]
  simp [hab]
theorem Fr_bad {x y : Int32} (hv : vr n x y = false) : F_refer ((n, r, kd, ow, fr, to), sh) x y = some (-1, ((n, r, kd, ow, fr, to), sh)) := if_neg (by rw [hv]; decide)
theorem Fo_bad {x y : Int32} (hv : vo n x y = false) : F_own ((n, r, kd, ow, fr, to), sh) x y = some (-1, ((n, r, kd, ow, fr, to), sh)) := if_neg (by rw [hv]; decide)
theorem Fh_bad {x y : Int32} (hv : vh n x y = false) : F_hand ((n, r, kd, ow, fr, to), sh) x y = some (-1, ((n, r, kd, ow, fr, to), sh)) := if_neg (by rw [hv]; decide)
theorem Fr_ok {a b : Nat} (hn : n ≤ 6) (ha : a < n ∨ a = 6) (hb : b < n) (hab : a ≠ b) : F_refer ((n, r, kd, ow, fr, to), sh) (nI a) (nI b) = match rfS r fr to a b with
    | none => some (-(nI 4), ((n, r, kd, ow, fr, to), sh))
    | some (r', fr', to') => some (nI r', ((n, r', kd, ow, fr', to'), sh)) := by
  refine (if_pos (vr_nI hn (by omega) ha hb hab)).trans ?_
  rw [cl_nI (by omega), cl_nI (by omega)]
  cases rfS r fr to a b with
  | none => rfl
  | some w => obtain ⟨r', fr', to'⟩ := w; rfl
theorem Fo_ok {a b : Nat} (hn : n ≤ 6) (ha : a < n) (hb : b < n ∨ b = 6) (hab : a ≠ b) : F_own ((n, r, kd, ow, fr, to), sh) (nI a) (nI b) = if und ow b a = true then some (-(nI 3), ((n, r, kd, ow, fr, to), sh)) else some (nI (ow a), ((n, r, kd, upN ow a b, fr, to), sh)) := by
  refine (if_pos (vo_nI hn ha hb hab)).trans ?_
  rw [cl_nI (by omega), cl_nI (by omega)]
theorem Fh_ok {a b : Nat} (hn : n ≤ 6) (ha : a < n) (hb : b < n) (hab : a ≠ b) : F_hand ((n, r, kd, ow, fr, to), sh) (nI a) (nI b) = match hdS r ow fr to a b with
    | none => some (-(nI 3), ((n, r, kd, ow, fr, to), sh))
    | some q => some (nI (fr q), ((n, r, kd, upN ow a b, upN fr q b, to), sh)) := by
  refine (if_pos (vh_nI hn ha hb hab)).trans ?_
  rw [cl_nI (by omega), cl_nI (by omega)]
  cases hdS r ow fr to a b with
  | none => rfl
  | some w => rfl
/-- one reference made or cut, on both sides -/
theorem refer_two {S : SG} {a b : Nat} (h : LI sh n S ga) (ha : a < n ∨ a = 6) (hb : b < n) (hab : a ≠ b) : ∃ v G S' u, f_L_refer ga (nI a) (nI b) = some (v, G) ∧ F_refer S (nI a) (nI b) = some (u, S') ∧ (if v = 0 then (some (-4 : Int32)) else some (G 1)) = some u ∧ LI sh n S' G := by
  obtain ⟨r, kd, ow, fr, to, rfl, hA, hg, hd⟩ := h
  have hn := hA.1.1
  rcases refer_L hg hA.1 ha hb with ⟨e1, e2⟩ | ⟨r', fr', to', G, e1, e2, e3⟩
  · refine ⟨0, ga, _, -(nI 4), e2, ?_, rfl, r, kd, ow, fr, to, rfl, hA, hg, hd⟩
    rw [Fr_ok hn ha hb hab, e1]
  · refine ⟨1, G, _, nI r', e2, ?_, ?_, r', kd, ow, fr', to', rfl, AD_refer hA ha hb e1, e3, DS_refer hd hab e1⟩
    · rw [Fr_ok hn ha hb hab, e1]
    · rw [if_neg (show ¬ (1 : Int32) = 0 by decide), e3.2.1]
theorem LI.n0 {S : SG} (h : LI sh n S ga) : ga 0 = nI n := by
  obtain ⟨r, kd, ow, fr, to, -, -, hg, -⟩ := h
  exact hg.1
theorem LI.n6 {S : SG} (h : LI sh n S ga) : n ≤ 6 := by
  obtain ⟨r, kd, ow, fr, to, -, hA, -, -⟩ := h
  exact hA.1.1
theorem or_pick {o : Option Int32} {k : Int32} {a : Nat} (c : Prop) [Decidable c] (h : o = some (nI a)) (hk : k = nI 6) : ∃ b : Nat, (b = a ∨ b = 6) ∧ (if c then some k else (ob1 o (fun r => some r))) = some (nI b) := by
  by_cases e : c
  · exact ⟨6, Or.inr rfl, by rw [if_pos e, hk]⟩
  · exact ⟨a, Or.inl rfl, by rw [if_neg e, h, ob1_s]⟩
theorem change_step {S : SG} {x : Int32} {i : Nat} (h : LI sh n S ga) (h0 : 0 < n) (hi : i < 2) : ∃ G S', L_L_change_2 x (nI i) ga S = some (.inl (nI (i + 1), G, S')) ∧ LI sh n S' G := by
  have hn := h.n6
  unfold L_L_change_2
  rw [h.n0, L2, ifleF hi (by omega), if_neg (nI_nle h0 (by omega))]
  obtain ⟨b, hb, e1⟩ := some_L (x >>> (((1 : Int32) + nI i) &&& 31)) (m := n) h0 (by omega)
  obtain ⟨k, hk, e2⟩ := some_L (x >>> (((3 : Int32) + nI i) &&& 31)) (m := 3) (by omega) (by omega)
  obtain ⟨a0, ha0, e3⟩ := some_L (x >>> (((4 : Int32) + nI i) &&& 31)) (m := n) h0 (by omega)
  obtain ⟨a, ha, e4⟩ := or_pick (k := 6) (nI k = 0) e3 rfl
  have ha' : a < n ∨ a = 6 := by omega
  rw [e1, ob1_s, show f_L_some (x >>> (((3 : Int32) + nI i) &&& 31)) (3 : Int32) = some (nI k) from e2, ob1_s, e4, ob1_s]
  by_cases hab : a = b
  · obtain ⟨r, kd, ow, fr, to, rfl, hA, hg, hd⟩ := h
    rw [ifeqT hab, hab, Fr_bad vr_eq, ob2_s, if_pos rfl, Fo_bad vo_eq, ob2_s, if_pos rfl, Fh_bad vh_eq, ob2_s, if_pos rfl, L1, nI_ad]
    exact ⟨_, _, rfl, r, kd, ow, fr, to, rfl, hA, hg, hd⟩
  · rw [ifeqF hab (by omega) (by omega)]
    obtain ⟨v, G, S', u, q1, q2, q3, q4⟩ := refer_two h ha' hb hab
    rw [q1, ob2_s, q2, ob2_s, q3, ob1_s, if_pos rfl, L1, nI_ad]
    exact ⟨_, _, rfl, q4⟩
theorem change_L {S : SG} (x : Int32) (h : LI sh n S ga) (h0 : 0 < n) : ∃ G S', f_L_change ga S x = some (1, G, S') ∧ LI sh n S' G := by
  have hn := h.n6
  have h1 : ∃ w : (Nat → Int32) × SG, it (u3 (L_L_change_2 x)) FUEL ((0 : Int32), ga, S) = some w ∧ LI sh n w.2 w.1 := by
    refine it_forI (body := u3 (L_L_change_2 x)) (fun i s => s.1 = nI i ∧ LI sh n s.2.2 s.2.1) (fun w => LI sh n w.2 w.1) 2 ?_ ?_ _ ⟨rfl, h⟩ FUEL (FUEL_gt (by omega))
    · rintro i hi ⟨y, G, T⟩ ⟨e1, e2⟩
      simp only at e1 e2
      subst e1
      obtain ⟨G', T', q1, q2⟩ := change_step (x := x) e2 h0 hi
      exact ⟨_, q1, rfl, q2⟩
    · rintro ⟨y, G, T⟩ ⟨e1, e2⟩
      simp only at e1 e2
      subst e1
      refine ⟨(G, T), ?_, e2⟩
      show L_L_change_2 x (nI 2) G T = _
      unfold L_L_change_2
      rw [L2, ifleT (Nat.le_refl 2) (by omega)]
  obtain ⟨⟨ga, S⟩, h1, h⟩ := h1
  simp only at h
  unfold f_L_change
  rw [h1, ob2_s, h.n0]
  obtain ⟨t, ht, e1⟩ := some_L (x >>> ((5 : Int32) &&& 31)) (m := n) h0 (by omega)
  obtain ⟨k, hk, e2⟩ := some_L (x >>> ((6 : Int32) &&& 31)) (m := 3) (by omega) (by omega)
  obtain ⟨o0, ho0, e3⟩ := some_L (x >>> ((7 : Int32) &&& 31)) (m := n) h0 (by omega)
  obtain ⟨o, ho, e4⟩ := or_pick (k := 6) (nI k = 0) e3 rfl
  obtain ⟨k2, hk2, e5⟩ := some_L (x >>> ((9 : Int32) &&& 31)) (m := 2) (by omega) (by omega)
  have ho' : o < n ∨ o = 6 := by omega
  rw [e1, ob1_s, show f_L_some (x >>> ((6 : Int32) &&& 31)) (3 : Int32) = some (nI k) from e2, ob1_s, e4, ob1_s]
  by_cases hto : t = o
  · rw [ifeqT hto]
    exact ⟨_, _, rfl, h⟩
  rw [ifeqF hto (by omega) (by omega), show f_L_some (x >>> ((9 : Int32) &&& 31)) (2 : Int32) = some (nI k2) from e5, ob1_s]
  obtain ⟨r, kd, ow, fr, to, rfl, hA, hg, hd⟩ := h
  have go := hg.2.2.2.1 t ht
  have hw6 := hA.ow6 t ht
  by_cases hk0 : nI k2 = 0
  · rw [if_pos hk0, Fo_ok hn ht ho' hto]
    have hu : (if nI o = (6 : Int32) then (some (1 : Int32)) else (ob1 (f_L_under ga (nI o) (nI t)) (fun r_211 => (if r_211 = 0 then (some (1 : Int32)) else (some (0 : Int32)))))) = some (b2i (!und ow o t)) := by
      by_cases e6 : o = 6
      · subst e6
        rw [L6, ifeqT rfl, und6 hA ht]; rfl
      · rw [L6, ifeqF e6 (by omega) (by omega), under_L hg hn hA.2.2.2 hA.2.2.1 ht ho', ob1_s, ib0]
        cases und ow o t <;> rfl
    rw [hu, ob1_s]
    by_cases e7 : und ow o t = true
    · rw [if_pos e7, ob2_s, e7]
      refine ⟨ga, ((n, r, kd, ow, fr, to), sh), ?_, r, kd, ow, fr, to, rfl, hA, hg, hd⟩
      rfl
    · rw [if_neg e7, ob2_s]
      rw [Bool.not_eq_true] at e7
      rw [e7, L8, nI_ad, cl_nI (by omega), ifgd0 (by omega) (by omega), ifgd0 (by omega) (by omega), go]
      refine ⟨upd ga (8 + t) (nI o), ((n, r, kd, upN ow t o, fr, to), sh), ?_, r, kd, upN ow t o, fr, to, rfl, AD_own hA ht ho' (Ne.symm hto) e7, GR_own hg ht hn, hd⟩
      show ob1 (some (nI (ow t))) _ = _
      rw [ob1_s, if_pos rfl]
      rfl
  · rw [if_neg hk0]
    by_cases e6 : o = 6
    · have hb : vh n (nI t) (nI o) = false := by
        unfold vh
        rw [e6, isT_no (n := n) (t := 6) (by omega) (by omega)]
        simp
      rw [Fh_bad hb, e6, L6, ifeqT rfl, ob2_s, if_pos rfl]
      exact ⟨_, _, rfl, r, kd, ow, fr, to, rfl, hA, hg, hd⟩
    · have hon : o < n := by omega
      rw [L6, ifeqF e6 (by omega) (by omega), Fh_ok hn ht hon hto]
      rcases hand_L hA hg ht hon with ⟨q1, q2⟩ | ⟨q, G, q1, q2, q3⟩
      · rw [q2, ob2_s, q1]
        refine ⟨ga, ((n, r, kd, ow, fr, to), sh), ?_, r, kd, ow, fr, to, rfl, hA, hg, hd⟩
        rfl
      · have hq := (hdS_lt q1).1
        have hbq := hA.1.bd q hq
        rw [q2, ob2_s, q1]
        refine ⟨G, ((n, r, kd, upN ow t o, upN fr q o, to), sh), ?_, r, kd, upN ow t o, upN fr q o, to, rfl, AD_hand hA ht hon hto q1, q3, DS_hand hd hto q1⟩
        show ob2 (some (nI (fr q), _)) _ = _
        rw [ob2_s, if_pos (le0 (by omega)), ob1_s, if_pos rfl]
end CHANGE
