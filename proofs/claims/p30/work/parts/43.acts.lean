/-! the law's own refer, hand, can -/
section GACT
variable {n r : Nat} {kd ow fr to : Nat → Nat} {ga : Nat → Int32}
theorem fndI_neg {a b : Nat} (hr : r ≤ 12) : (fnd r fr to a b < r → ∃ q, q < r ∧ q = fnd r fr to a b ∧ fndI r fr to a b = nI q) ∧ (¬ fnd r fr to a b < r → fndI r fr to a b = -(nI 9)) := by
  unfold fndI
  exact ⟨fun h => ⟨_, h, rfl, if_pos h⟩, fun h => if_neg h⟩
theorem n9lt : -(nI 9) < (0 : Int32) := by decide
theorem n9nle : ¬ (0 : Int32) ≤ -(nI 9) := by decide
theorem le0 {q : Nat} (h : q < 2147483648) : (0 : Int32) ≤ nI q := le_nlt.mpr (nI_pos (by omega))
theorem cut_L {at_ : Nat} (hg : GR n r kd ow fr to ga) (hn : n ≤ 6) (hr : r ≤ 12) (ha : at_ < r) : ∃ G, it (u2 (L_L_refer_62)) FUEL (nI at_, upd ga 1 (nI (r - 1))) = some G ∧ GR n (r - 1) kd ow (cutA at_ fr) (cutA at_ to) G := by
  obtain ⟨g0, g1, gk, go, gf, gt⟩ := hg
  have key := it_forI (body := u2 (L_L_refer_62)) (fun i s => ∃ G, s = (nI (at_ + i), G) ∧ (∀ j, j < 14 → j ≠ 1 → G j = ga j) ∧ G 1 = nI (r - 1) ∧ ∀ j, j < r → G (14 + j) = (if at_ ≤ j ∧ j < at_ + i then ga (14 + (j + 1)) else ga (14 + j)) ∧ G (26 + j) = (if at_ ≤ j ∧ j < at_ + i then ga (26 + (j + 1)) else ga (26 + j))) (fun G => GR n (r - 1) kd ow (cutA at_ fr) (cutA at_ to) G) (r - 1 - at_) ?_ ?_ (nI at_, upd ga 1 (nI (r - 1))) ⟨_, rfl, fun j h1 h2 => pk_un h2, pk_us, fun j hj => ⟨by rw [if_neg (by omega), pk_un (by omega)], by rw [if_neg (by omega), pk_un (by omega)]⟩⟩ FUEL (FUEL_gt (by omega))
  · exact key
  · rintro i hi s ⟨G, rfl, k1, k2, k3⟩
    show ∃ s', L_L_refer_62 (nI (at_ + i)) G = some (.inl s') ∧ _
    obtain ⟨hF, hG⟩ := k3 (at_ + i + 1) (by omega)
    rw [if_neg (by omega)] at hF hG
    refine ⟨(nI (at_ + (i + 1)), upd (upd G (14 + (at_ + i)) (ga (14 + (at_ + i + 1)))) (26 + (at_ + i)) (ga (26 + (at_ + i + 1)))), ?_, _, rfl, fun j h1 h2 => ?_, ?_, fun j hj => ?_⟩
    · unfold L_L_refer_62
      rw [k2, ifleF (by omega) (by omega), K15, nI_ad, cl_nI (by omega), ifgd0 (by omega) (by omega), K14, nI_ad, cl_nI (by omega), ifgd0 (by omega) (by omega), K27, nI_ad, cl_nI (by omega), ifgd0 (by omega) (by omega), K26, nI_ad, cl_nI (by omega), ifgd0 (by omega) (by omega), show 15 + (at_ + i) = 14 + (at_ + i + 1) by omega, show 27 + (at_ + i) = 26 + (at_ + i + 1) by omega, hF, pk_un (by omega), hG, L1, nI_ad]
      rfl
    · rw [pk_un (by omega), pk_un (by omega)]; exact k1 j h1 h2
    · rw [pk_un (by omega), pk_un (by omega)]; exact k2
    · obtain ⟨h3, h4⟩ := k3 j hj
      by_cases e : j = at_ + i
      · subst e
        rw [pk_un (by omega), pk_us, pk_us, if_pos (by omega), if_pos (by omega)]
        exact ⟨rfl, rfl⟩
      · rw [pk_un (by omega), pk_un (by omega), pk_un (by omega), pk_un (by omega), h3, h4]
        by_cases e2 : at_ ≤ j ∧ j < at_ + i
        · rw [if_pos e2, if_pos e2, if_pos (by omega), if_pos (by omega)]
          exact ⟨rfl, rfl⟩
        · rw [if_neg e2, if_neg e2, if_neg (by omega), if_neg (by omega)]
          exact ⟨rfl, rfl⟩
  · rintro s ⟨G, rfl, k1, k2, k3⟩
    show ∃ p, L_L_refer_62 (nI (at_ + (r - 1 - at_))) G = some (.inr p) ∧ _
    refine ⟨G, ?_, ?_, k2, fun t ht => ?_, fun t ht => ?_, fun q hq => ?_, fun q hq => ?_⟩
    · unfold L_L_refer_62
      rw [k2, ifleT (by omega) (by omega)]
    · rw [k1 0 (by omega) (by omega)]; exact g0
    · rw [k1 _ (by omega) (by omega)]; exact gk t ht
    · rw [k1 _ (by omega) (by omega)]; exact go t ht
    · rw [(k3 q (by omega)).1]
      unfold cutA
      by_cases e : q < at_
      · rw [if_neg (by omega), if_pos e]; exact gf q (by omega)
      · rw [if_pos (by omega), if_neg e]; exact gf (q + 1) (by omega)
    · rw [(k3 q (by omega)).2]
      unfold cutA
      by_cases e : q < at_
      · rw [if_neg (by omega), if_pos e]; exact gt q (by omega)
      · rw [if_pos (by omega), if_neg e]; exact gt (q + 1) (by omega)
theorem refer_L {a b : Nat} (hg : GR n r kd ow fr to ga) (hw : Web n r fr to) (ha : a < n ∨ a = 6) (hb : b < n) : (rfS r fr to a b = none ∧ f_L_refer ga (nI a) (nI b) = some (0, ga)) ∨ ∃ r' fr' to' G, rfS r fr to a b = some (r', fr', to') ∧ f_L_refer ga (nI a) (nI b) = some (1, G) ∧ GR n r' kd ow fr' to' G := by
  have hn := hw.1
  have hr := hw.2.1
  have hbd := hw.bd
  have hg' := hg
  obtain ⟨g0, g1, gk, go, gf, gt⟩ := hg
  unfold f_L_refer rfS
  rw [place_L hg' hr hbd (by omega) (by omega), ob1_s]
  by_cases e : fnd r fr to a b < r
  · right
    obtain ⟨q, hq, e1, e2⟩ := (fndI_neg (a := a) (b := b) hr).1 e
    obtain ⟨G, h1, h2⟩ := cut_L hg' hn hr hq
    refine ⟨r - 1, cutA q fr, cutA q to, G, by rw [if_pos e, ← e1], ?_, h2⟩
    rw [e2, if_pos (le0 (by omega)), if_pos (le0 (by omega)), g1, L1, nI_sb (by omega), h1, ob1_s]
  · have e2 := (fndI_neg (a := a) (b := b) hr).2 e
    rw [e2, if_neg n9nle, g1]
    by_cases e3 : r = 12
    · left
      rw [if_neg e, if_pos e3, L12, ifeqT e3]
      exact ⟨rfl, rfl⟩
    · right
      refine ⟨r + 1, upN fr r a, upN to r b, upd (upd (upd ga (14 + r) (nI a)) (26 + r) (nI b)) 1 (nI (r + 1)), by rw [if_neg e, if_neg e3], ?_, ?_⟩
      · have z1 : upd ga (14 + r) (nI a) 1 = nI r := by rw [pk_un (by omega)]; exact g1
        have z2 : upd (upd ga (14 + r) (nI a)) (26 + r) (nI b) 1 = nI r := by rw [pk_un (by omega)]; exact z1
        rw [L12, ifeqF e3 (by omega) (by omega), if_neg n9nle, K14, nI_ad, cl_nI (by omega), ifgd0 (by omega) (by omega), z1, K26, nI_ad, cl_nI (by omega), ifgd0 (by omega) (by omega), z2, L1, nI_ad]
      · refine ⟨?_, pk_us, fun t ht => ?_, fun t ht => ?_, fun q hq => ?_, fun q hq => ?_⟩
        · rw [pk_un (by omega), pk_un (by omega), pk_un (by omega)]; exact g0
        · rw [pk_un (by omega), pk_un (by omega), pk_un (by omega)]; exact gk t ht
        · rw [pk_un (by omega), pk_un (by omega), pk_un (by omega)]; exact go t ht
        · rw [pk_un (by omega), pk_un (by omega)]
          unfold upN
          by_cases e4 : q = r
          · subst e4; rw [pk_us, if_pos rfl]
          · rw [pk_un (by omega), if_neg e4]; exact gf q (by omega)
        · rw [pk_un (by omega)]
          unfold upN
          by_cases e4 : q = r
          · subst e4; rw [pk_us, if_pos rfl]
          · rw [pk_un (by omega), pk_un (by omega), if_neg e4]; exact gt q (by omega)
theorem GR_own {t o : Nat} (hg : GR n r kd ow fr to ga) (ht : t < n) (hn : n ≤ 6) : GR n r kd (upN ow t o) fr to (upd ga (8 + t) (nI o)) := by
  obtain ⟨g0, g1, gk, go, gf, gt⟩ := hg
  refine ⟨?_, ?_, fun u hu => ?_, fun u hu => ?_, fun q hq => ?_, fun q hq => ?_⟩
  · rw [pk_un (by omega)]; exact g0
  · rw [pk_un (by omega)]; exact g1
  · rw [pk_un (by omega)]; exact gk u hu
  · unfold upN
    by_cases e : u = t
    · subst e; rw [pk_us, if_pos rfl]
    · rw [pk_un (by omega), if_neg e]; exact go u hu
  · rw [pk_un (by omega)]; exact gf q hq
  · rw [pk_un (by omega)]; exact gt q hq
theorem GR_from {q x : Nat} (hg : GR n r kd ow fr to ga) (hq : q < r) (hr : r ≤ 12) (hn : n ≤ 6) : GR n r kd ow (upN fr q x) to (upd ga (14 + q) (nI x)) := by
  obtain ⟨g0, g1, gk, go, gf, gt⟩ := hg
  refine ⟨?_, ?_, fun u hu => ?_, fun u hu => ?_, fun p hp => ?_, fun p hp => ?_⟩
  · rw [pk_un (by omega)]; exact g0
  · rw [pk_un (by omega)]; exact g1
  · rw [pk_un (by omega)]; exact gk u hu
  · rw [pk_un (by omega)]; exact go u hu
  · unfold upN
    by_cases e : p = q
    · subst e; rw [pk_us, if_pos rfl]
    · rw [pk_un (by omega), if_neg e]; exact gf p hp
  · rw [pk_un (by omega)]; exact gt p hp
theorem handLoop_L {t : Nat} (hg : GR n r kd ow fr to ga) (hr : r ≤ 12) (hb : ∀ q, q < r → to q ≤ 6) (ht : t ≤ 6) : it (u3 (L_L_hand_8 ga (nI t))) FUEL ((0 : Int32), (0 : Int32), (0 : Int32)) = some (nI (cnR to t r), nI (laR to t r)) := by
  obtain ⟨g0, g1, gk, go, gf, gt⟩ := hg
  refine it_for (body := u3 (L_L_hand_8 ga (nI t))) (fun i => (nI (cnR to t i), nI (laR to t i), nI i)) r _ (fun i hi => ?_) ?_ FUEL (FUEL_gt (by omega))
  · show L_L_hand_8 ga (nI t) (nI (cnR to t i)) (nI (laR to t i)) (nI i) = some (.inl (nI (cnR to t (i + 1)), nI (laR to t (i + 1)), nI (i + 1)))
    have hbi := hb i hi
    unfold L_L_hand_8
    rw [cnR, laR, g1, ifleF hi (by omega), K26, nI_ad, cl_nI (by omega), ifgd0 (by omega) (by omega), gt i hi, L1, nI_ad, nI_ad]
    by_cases e : to i = t
    · rw [ifeqT e, if_pos e, if_pos e]
    · rw [ifeqF e (by omega) (by omega), if_neg e, if_neg e]
  · show L_L_hand_8 ga (nI t) (nI (cnR to t r)) (nI (laR to t r)) (nI r) = _
    unfold L_L_hand_8
    rw [g1, ifleT (Nat.le_refl r) (by omega)]
theorem hand_L {t x : Nat} (h : AD n r kd ow fr to) (hg : GR n r kd ow fr to ga) (ht : t < n) (hx : x < n) : (hdS r ow fr to t x = none ∧ f_L_hand ga (nI t) (nI x) = some (-9, ga)) ∨ ∃ q G, hdS r ow fr to t x = some q ∧ f_L_hand ga (nI t) (nI x) = some (nI (fr q), G) ∧ GR n r kd (upN ow t x) (upN fr q x) to G := by
  have hn := h.1.1
  have hr := h.1.2.1
  have hbd := h.1.bd
  have hcl := cn_le to t r
  unfold f_L_hand hdS
  rw [handLoop_L hg hr (fun q hq => (hbd q hq).2) (by omega), ob2_s, under_L hg hn h.2.2.2 h.2.2.1 ht (Or.inl hx), ob1_s, ib0]
  by_cases e1 : und ow x t = true
  · left
    rw [if_pos e1, if_pos e1]; exact ⟨rfl, rfl⟩
  · rw [if_neg e1, if_neg e1]
    by_cases e2 : cnR to t r = 1
    · have hl := la_lt to t r (by omega)
      have hbl := hbd _ hl.1
      have gf := hg.2.2.2.2.1 _ hl.1
      rw [L1, ifeqT e2, if_pos e2, K14, nI_ad, cl_nI (by omega), ifgd0 (by omega) (by omega), gf]
      by_cases e3 : fr (laR to t r) = x
      · left
        rw [ifeqT e3, if_pos e3]; exact ⟨rfl, rfl⟩
      · right
        refine ⟨laR to t r, upd (upd ga (14 + laR to t r) (nI x)) (8 + t) (nI x), by rw [if_neg e3], ?_, GR_own (GR_from hg hl.1 hr hn) ht hn⟩
        rw [ifeqF e3 (by omega) (by omega), ifgd0 (by omega) (by omega), ifgd0 (by omega) (by omega), L8, nI_ad, cl_nI (by omega), ifgd0 (by omega) (by omega)]
    · left
      rw [L1, ifeqF e2 (by omega) (by omega), if_neg e2]; exact ⟨rfl, rfl⟩
theorem canLoop_L {t : Nat} (hg : GR n r kd ow fr to ga) (hr : r ≤ 12) (hb : ∀ q, q < r → to q ≤ 6) (ht : t ≤ 6) : ∃ w : Nat, it (u3 (L_L_can_136 ga (nI t))) FUEL ((0 : Int32), (0 : Int32), (0 : Int32)) = some (nI (cnR to t r), nI w) ∧ (0 < cnR to t r → w = fr (laR to t r)) ∧ (cnR to t r = 0 → w = 0) := by
  obtain ⟨g0, g1, gk, go, gf, gt⟩ := hg
  let st : Nat → Nat := fun i => if cnR to t i = 0 then 0 else fr (laR to t i)
  refine ⟨st r, ?_, fun h => if_neg (by omega), fun h => if_pos h⟩
  refine it_for (body := u3 (L_L_can_136 ga (nI t))) (fun i => (nI (cnR to t i), nI (st i), nI i)) r _ (fun i hi => ?_) ?_ FUEL (FUEL_gt (by omega))
  · show L_L_can_136 ga (nI t) (nI (cnR to t i)) (nI (st i)) (nI i) = some (.inl (nI (cnR to t (i + 1)), nI (st (i + 1)), nI (i + 1)))
    have hbi := hb i hi
    unfold L_L_can_136
    rw [g1, ifleF hi (by omega), K26, nI_ad, cl_nI (by omega), ifgd0 (by omega) (by omega), gt i hi, K14, nI_ad, cl_nI (by omega), ifgd0 (by omega) (by omega), gf i hi, L1, nI_ad, nI_ad]
    by_cases e : to i = t
    · have e1 : cnR to t (i + 1) = cnR to t i + 1 := by rw [cnR, if_pos e]
      have e2 : st (i + 1) = fr i := by
        show (if cnR to t (i + 1) = 0 then 0 else fr (laR to t (i + 1))) = fr i
        rw [if_neg (by omega), laR, if_pos e]
      rw [ifeqT e, e1, e2]
    · have e1 : cnR to t (i + 1) = cnR to t i := by rw [cnR, if_neg e]
      have e2 : st (i + 1) = st i := by
        show (if cnR to t (i + 1) = 0 then 0 else fr (laR to t (i + 1))) = (if cnR to t i = 0 then 0 else fr (laR to t i))
        rw [e1, laR, if_neg e]
      rw [ifeqF e (by omega) (by omega), e1, e2]
  · show L_L_can_136 ga (nI t) (nI (cnR to t r)) (nI (st r)) (nI r) = _
    unfold L_L_can_136
    rw [g1, ifleT (Nat.le_refl r) (by omega)]
/-! can an act be -/
theorem isT_lt {t : Nat} (hn : n ≤ 6) (h : t < 2147483648) : isT n (nI t) = decide (t < n) := by
  by_cases e : t < n
  · rw [isT_nI hn e]; simp [e]
  · rw [isT_no (by omega) h]; simp [e]
theorem isW_lt {t : Nat} (hn : n ≤ 6) (h0 : 0 < n) (h : t < 2147483648) : isW n (nI t) = decide (t < n ∨ t = 6) := by
  by_cases e : t < n ∨ t = 6
  · rw [isW_nI hn h0 e]; simp [e]
  · have : isW n (nI t) = false := by
      rw [← Bool.not_eq_true]
      intro q
      obtain ⟨a, h4, h5⟩ := isW_ex hn q
      have := (nI_eq (by omega) (by omega)).mp h5
      omega
    rw [this]; simp [e]
theorem dec_ne {a b : Nat} (ha : a < 2147483648) (hb : b < 2147483648) : decide (nI a = nI b) = decide (a = b) := by
  by_cases e : a = b
  · subst e; simp
  · have : ¬ nI a = nI b := fun q => e ((nI_eq (by omega) (by omega)).mp q)
    simp [e, this]
theorem can_L {s a b : Nat} (h : AD n r kd ow fr to) (h0 : 0 < n) (hg : GR n r kd ow fr to ga) (hs : s ≤ 2) (ha : a < 100) (hb : b < 100) : f_L_can ga (nI s) (nI a) (nI b) = some (b2i (actS n (r, ow, fr, to) (nI s) (nI a) (nI b)).isSome) := by
  have hn := h.1.1
  have hr := h.1.2.1
  have hbd := h.1.bd
  have hg' := hg
  obtain ⟨g0, g1, gk, go, gf, gt⟩ := hg
  have p01 : ¬ (nI 1) = (0 : Int32) := by decide
  have p02 : ¬ (nI 2) = (0 : Int32) := by decide
  have p12 : ¬ (nI 2) = (1 : Int32) := by decide
  have p10 : ¬ (nI 0) = (1 : Int32) := by decide
  unfold f_L_can actS vr vo vh
  rw [isT_lt hn (by omega), isT_lt hn (by omega), isW_lt hn h0 (by omega), isW_lt hn h0 (by omega), dec_ne (by omega) (by omega), cl_nI (by omega), cl_nI (by omega), g0, g1]
  by_cases eab : a = b
  · rw [ifeqT eab]
    simp [eab, b2i]
  rw [ifeqF eab (by omega) (by omega), if_neg (nI_pos (by omega)), if_neg (nI_pos (by omega))]
  have hs3 : s = 0 ∨ s = 1 ∨ s = 2 := by omega
  rcases hs3 with rfl | rfl | rfl
  · rw [show (nI 0 : Int32) = 0 from rfl]
    simp only [if_true, if_neg (show ¬ (0 : Int32) = 1 by decide), os0_l]
    by_cases ha1 : a < n ∨ a = 6
    · rw [show os0 (if nI a < nI n then some (Sum.inl ()) else if nI a = (6 : Int32) then some (Sum.inl ()) else some (Sum.inr (0 : Int32))) = os0 (some (.inl ())) from ?_]
      · rw [os0_l]
        by_cases hb1 : b < n
        · rw [ifleF hb1 (by omega), os0_l]
          simp only [decide_eq_true ha1, decide_eq_true hb1, decide_eq_false eab, Bool.not_false, Bool.and_true, if_true]
          unfold rfS
          rw [place_L hg' hr hbd (by omega) (by omega), ob1_s]
          by_cases e : fnd r fr to a b < r
          · obtain ⟨q, hq, e1, e2⟩ := (fndI_neg (a := a) (b := b) hr).1 e
            rw [if_pos e, e2, if_neg (nI_pos (by omega))]
            by_cases e3 : r < 12
            · rw [L12, ifltT e3 (by omega)]; rfl
            · rw [L12, ifltF (by omega) (by omega)]; rfl
          · rw [if_neg e, (fndI_neg (a := a) (b := b) hr).2 e, if_pos n9lt]
            by_cases e3 : r = 12
            · rw [if_pos e3, L12, ifltF (by omega) (by omega)]; rfl
            · rw [if_neg e3, L12, ifltT (by omega) (by omega)]; rfl
        · rw [ifleT (by omega) (by omega), os0_r]
          simp [hb1, b2i]
      · congr 1
        rcases ha1 with h1 | h1
        · rw [ifltT h1 (by omega)]
        · by_cases h2 : a < n
          · rw [ifltT h2 (by omega)]
          · rw [ifltF (by omega) (by omega), L6, ifeqT h1]
    · have h1 : ¬ a < n := fun q => ha1 (Or.inl q)
      have h2 : ¬ a = 6 := fun q => ha1 (Or.inr q)
      rw [ifltF (by omega) (by omega), L6, ifeqF h2 (by omega) (by omega), os0_r]
      simp [h1, h2, b2i]
  · rw [show (nI 1 : Int32) = 1 from rfl]
    simp only [if_neg (show ¬ (1 : Int32) = 0 by decide), if_true, os0_l]
    by_cases ha1 : a < n
    · rw [ifleF ha1 (by omega), os0_l]
      by_cases hb1 : b < n ∨ b = 6
      · rw [show os0 (if nI b < nI n then some (Sum.inl ()) else if nI b = (6 : Int32) then some (Sum.inl ()) else some (Sum.inr (0 : Int32))) = os0 (some (.inl ())) from ?_]
        · rw [os0_l]
          simp only [decide_eq_true ha1, decide_eq_true hb1, decide_eq_false eab, Bool.not_false, Bool.and_true, if_true]
          by_cases e6 : b = 6
          · subst e6
            rw [L6, ifeqT rfl, und6 h ha1]; rfl
          · rw [L6, ifeqF e6 (by omega) (by omega), under_L hg' hn h.2.2.2 h.2.2.1 ha1 hb1, ob1_s, ib0]
            cases und ow b a <;> rfl
        · congr 1
          rcases hb1 with h1 | h1
          · rw [ifltT h1 (by omega)]
          · by_cases h2 : b < n
            · rw [ifltT h2 (by omega)]
            · rw [ifltF (by omega) (by omega), L6, ifeqT h1]
      · have h1 : ¬ b < n := fun q => hb1 (Or.inl q)
        have h2 : ¬ b = 6 := fun q => hb1 (Or.inr q)
        rw [ifltF (by omega) (by omega), L6, ifeqF h2 (by omega) (by omega), os0_r]
        simp [h1, h2, b2i]
    · rw [ifleT (by omega) (by omega), os0_r]
      simp [ha1, b2i]
  · simp only [if_neg p02, if_neg p12, os0_l]
    by_cases ha1 : a < n
    · rw [ifleF ha1 (by omega), os0_l]
      by_cases hb1 : b < n
      · rw [ifleF hb1 (by omega), os0_l]
        simp only [decide_eq_true ha1, decide_eq_true hb1, decide_eq_false eab, Bool.not_false, Bool.and_true, if_true]
        obtain ⟨w, hw1, hw2, hw3⟩ := canLoop_L (t := a) hg' hr (fun q hq => (hbd q hq).2) (by omega)
        have hcl := cn_le to a r
        rw [hw1, ob2_s, under_L hg' hn h.2.2.2 h.2.2.1 ha1 (Or.inl hb1), ob1_s, ib0]
        unfold hdS
        by_cases e1 : und ow b a = true
        · rw [if_pos e1, if_pos e1]; rfl
        · rw [if_neg e1, if_neg e1]
          by_cases e2 : cnR to a r = 1
          · have hl := la_lt to a r (by omega)
            have hbl := hbd _ hl.1
            rw [L1, ifeqT e2, if_pos e2, hw2 (by omega)]
            by_cases e3 : fr (laR to a r) = b
            · rw [ifeqT e3, if_pos e3]; rfl
            · rw [ifeqF e3 (by omega) (by omega), if_neg e3]; rfl
          · rw [L1, ifeqF e2 (by omega) (by omega), if_neg e2]; rfl
      · rw [ifleT (by omega) (by omega), os0_r]
        simp [hb1, b2i]
    · rw [ifleT (by omega) (by omega), os0_r]
      simp [ha1, b2i]
end GACT
/-! no reference is told twice, none leads to its own -/
def DS (r : Nat) (fr to : Nat → Nat) : Prop := ∀ q, q < r → fr q ≠ to q ∧ ∀ p, p < q → ¬ (fr p = fr q ∧ to p = to q)
theorem DS_up {r a b : Nat} {fr to : Nat → Nat} (h : DS r fr to) (hab : a ≠ b) (hn : ¬ fnd r fr to a b < r) : DS (r + 1) (upN fr r a) (upN to r b) := by
  intro q hq
  unfold upN
  by_cases e : q = r
  · rw [if_pos e, if_pos e]
    refine ⟨hab, fun p hp => ?_⟩
    rw [if_neg (by omega), if_neg (by omega)]
    exact fun z => hn (fnd_lt.mpr ⟨p, by omega, z⟩)
  · rw [if_neg e, if_neg e]
    obtain ⟨h1, h2⟩ := h q (by omega)
    refine ⟨h1, fun p hp => ?_⟩
    rw [if_neg (by omega), if_neg (by omega)]
    exact h2 p hp
theorem DS_cut {r k : Nat} {fr to : Nat → Nat} (h : DS r fr to) : DS (r - 1) (cutA k fr) (cutA k to) := by
  intro q hq
  unfold cutA
  by_cases e : q < k
  · rw [if_pos e, if_pos e]
    obtain ⟨h1, h2⟩ := h q (by omega)
    refine ⟨h1, fun p hp => ?_⟩
    rw [if_pos (by omega), if_pos (by omega)]
    exact h2 p hp
  · rw [if_neg e, if_neg e]
    obtain ⟨h1, h2⟩ := h (q + 1) (by omega)
    refine ⟨h1, fun p hp => ?_⟩
    by_cases e2 : p < k
    · rw [if_pos e2, if_pos e2]
      exact h2 p (by omega)
    · rw [if_neg e2, if_neg e2]
      exact h2 (p + 1) (by omega)
theorem DS_refer {r a b r' : Nat} {fr to fr' to' : Nat → Nat} (h : DS r fr to) (hab : a ≠ b) (hs : rfS r fr to a b = some (r', fr', to')) : DS r' fr' to' := by
  unfold rfS at hs
  by_cases e : fnd r fr to a b < r
  · rw [if_pos e] at hs
    cases hs
    exact DS_cut h
  · rw [if_neg e] at hs
    by_cases e2 : r = 12
    · rw [if_pos e2] at hs; cases hs
    · rw [if_neg e2] at hs
      cases hs
      exact DS_up h hab e
theorem cn_pos {to : Nat → Nat} {t p : Nat} (ht : to p = t) : ∀ k, p < k → 0 < cnR to t k
  | 0, h => by omega
  | k + 1, h => by
    rw [cnR]
    by_cases e : to k = t
    · rw [if_pos e]; omega
    · rw [if_neg e]
      by_cases e2 : p = k
      · subst e2; exact absurd ht e
      · exact cn_pos ht k (by omega)
theorem cn_one {to : Nat → Nat} {t p : Nat} (ht : to p = t) : ∀ k, cnR to t k = 1 → p < k → p = laR to t k
  | 0, _, h => by omega
  | k + 1, h1, h => by
    rw [cnR] at h1
    rw [laR]
    by_cases e : to k = t
    · rw [if_pos e] at h1 ⊢
      by_cases e2 : p = k
      · exact e2
      · have := cn_pos ht k (by omega)
        omega
    · rw [if_neg e] at h1 ⊢
      by_cases e2 : p = k
      · subst e2; exact absurd ht e
      · exact cn_one ht k h1 (by omega)
theorem hdS_one {r t x q : Nat} {ow fr to : Nat → Nat} (h : hdS r ow fr to t x = some q) : q < r ∧ to q = t ∧ ∀ p, p < r → to p = t → p = q := by
  unfold hdS at h
  by_cases e1 : und ow x t = true
  · rw [if_pos e1] at h; cases h
  rw [if_neg e1] at h
  by_cases e2 : cnR to t r = 1
  · rw [if_pos e2] at h
    by_cases e3 : fr (laR to t r) = x
    · rw [if_pos e3] at h; cases h
    · rw [if_neg e3] at h
      cases h
      have := la_lt to t r (by omega)
      exact ⟨this.1, this.2, fun p hp hpt => cn_one hpt r e2 hp⟩
  · rw [if_neg e2] at h; cases h
theorem DS_hand {r t x q : Nat} {ow fr to : Nat → Nat} (h : DS r fr to) (htx : t ≠ x) (hs : hdS r ow fr to t x = some q) : DS r (upN fr q x) to := by
  obtain ⟨hq, hqt, hone⟩ := hdS_one hs
  intro p hp
  obtain ⟨h1, h2⟩ := h p hp
  unfold upN
  by_cases e : p = q
  · rw [if_pos e]
    refine ⟨by rw [e, hqt]; exact Ne.symm htx, fun j hj z => ?_⟩
    have := hone j (by omega) (by rw [z.2, e, hqt])
    omega
  · rw [if_neg e]
    refine ⟨h1, fun j hj z => ?_⟩
    by_cases e2 : j = q
    · have := hone p hp (by rw [← z.2, e2, hqt])
      exact e this
    · rw [if_neg e2] at z
      exact h2 j hj z
