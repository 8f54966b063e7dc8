/-! THE LAW answers true -/
section LAWOK
variable {W : Nat × Nat × (Nat → Nat) × (Nat → Nat) × (Nat → Nat) × (Nat → Nat)} {sl sn : Nat → Int32} {sc : Nat → Nat → Int32} {L : Nat} {xs : Nat → Int32}
theorem turns_L {n : Nat} {ga ga0 : Nat → Int32} {S : SG} (ka : Nat → Int32) (hL : L ≤ 260) (h0 : 0 < n) (hg0 : ga0 0 = nI n) (h : TI n 0 S ga) : ∃ G K S', it (u4 (L_L_law_68 L xs ga0)) FUEL ((0 : Int32), ga, ka, S) = some (G, K, S') ∧ TI n 7 S' G := by
  have key : ∃ w : (Nat → Int32) × (Nat → Int32) × SG, it (u4 (L_L_law_68 L xs ga0)) FUEL ((0 : Int32), ga, ka, S) = some w ∧ TI n 7 w.2.2 w.1 := by
    refine it_forI (body := u4 (L_L_law_68 L xs ga0)) (fun i s => s.1 = nI i ∧ TI n i s.2.2.2 s.2.1) (fun w => TI n 7 w.2.2 w.1) 7 ?_ ?_ ((0 : Int32), ga, ka, S) ⟨rfl, h⟩ FUEL (FUEL_gt (by omega))
    · rintro i hi ⟨x, G, K, T⟩ ⟨e1, e2⟩
      simp only at e1 e2
      subst e1
      obtain ⟨G', K', S', q1, q2⟩ := turn_L (xs := xs) K hL h0 hg0 hi e2
      exact ⟨_, q1, rfl, q2⟩
    · rintro ⟨x, G, K, T⟩ ⟨e1, e2⟩
      simp only at e1 e2
      subst e1
      refine ⟨(G, K, T), ?_, e2⟩
      show L_L_law_68 L xs ga0 (nI 7) G K T = _
      unfold L_L_law_68
      rw [L7, ifleT (Nat.le_refl 7) (by omega)]
  obtain ⟨⟨G, K, S'⟩, e1, e2⟩ := key
  exact ⟨G, K, S', e1, e2⟩
theorem law_ok (ga ka : Nat → Int32) (hL : L ≤ 260) (hsn : sn 2 = -1) : f_L_law L xs ga ka ((W, sl, sn, sc) : SG) = some 1 := by
  obtain ⟨n, r0, G0, S0, c0, q1, h0', hn, hr0, hP, hR, hS⟩ := put_L (W := W) (sl := sl) (sn := sn) (sc := sc) (xs := xs) hL ga
  have h0 : 0 < n := h0'
  obtain ⟨eN, eR, hgr, hok, htx⟩ := PP_gr h0' hn hr0 hP hR
  have hg0 : G0 0 = nI n := hgr.1
  have hg1 : G0 1 = nI r0 := hgr.2.1
  obtain ⟨sc1, rfl, hc1⟩ := hS
  have hsl1 : va_up sl 0 (nI 0) 0 = 0 := up_at
  have hsn1 : va_up sn 0 (nI 60) 0 = nI 60 := up_at
  have hsn2 : va_up sn 0 (nI 60) 2 = -1 := by rw [up_no (by omega)]; exact hsn
  generalize va_up sl 0 (nI 0) = sl1 at q1 hsl1
  generalize va_up sn 0 (nI 60) = sn1 at q1 hsn1 hsn2
  have hth : F_things ((W, sl1, sn1, sc1) : SG) G0 (0 : Int32) (0 : Int32) (0 : Int32) (nI (1 + 3 * n + 3 * r0)) = some (nI n, (((n, r0, gaK G0, gaO G0, gaF G0, gaT G0), sl1, sn1, sc1) : SG)) := by
    unfold F_things
    rw [eN, eR]
    exact if_pos ⟨rfl, rfl, rfl, rfl, hsl1, hsn1, hok, by show TXT (sc1 0) n r0 _ _ _ _; rw [hc1]; exact htx⟩
  obtain ⟨G, K, S1, q2, r, kd, ow, fr, to, sl2, sn2, sc2, rfl, hA, hg, hd, hs2, h155⟩ := turns_L (xs := xs) ka hL h0 hg0 ⟨r0, gaK G0, gaO G0, gaF G0, gaT G0, sl1, sn1, sc1, rfl, ownS_ad hok.2.2.1 hok.2.1, hgr, hok.2.2.2, hsn2, fun q => absurd q (by omega)⟩
  obtain ⟨h1, h2⟩ := h155 (by omega)
  have hr := hA.1.2.1
  have t6 : isT n (nI 6) = false := isT_no hn (by omega)
  have tn : isT n (nI n) = false := isT_no (Nat.le_refl n) (by omega)
  have w7 := isW_7 hn h0
  generalize hSd : (((n, r, kd, ow, fr, to), sl2, sn2, sc2) : SG) = S at q2
  have a1 : F_ofThing S (nI n) (0 : Int32) = some (-1) := by rw [← hSd]; exact Fof_bad tn
  have a2 : F_ofThing S (0 : Int32) (11 : Int32) = some (-2) := by rw [← hSd]; exact (Fof (t := 0) (w := 11) hn h0).trans (by rw [sp11])
  have a3 : F_refers S (7 : Int32) (0 : Int32) = some (-1) := by rw [← hSd]; exact Fre_bad (Or.inl w7)
  have a4 : F_refers S (0 : Int32) (nI n) = some (-1) := by rw [← hSd]; exact Fre_bad (Or.inr tn)
  have a5 : F_refers S (0 : Int32) (6 : Int32) = some (-1) := by rw [← hSd]; exact Fre_bad (Or.inr t6)
  have a6 : F_place S (-1 : Int32) (0 : Int32) = some (-1) := by rw [← hSd]; exact Fpl_bad (Or.inl (isW_m1 hn))
  have a7 : F_place S (0 : Int32) (0 : Int32) = some (-9) := by rw [← hSd]; exact Fpl_00 hn h0 hr hd
  have a8 : F_refer S (7 : Int32) (0 : Int32) = some (-1, S) := by rw [← hSd]; exact Fr_bad (vr_w w7)
  have a9 : F_refer S (6 : Int32) (6 : Int32) = some (-1, S) := by rw [← hSd]; exact Fr_bad vr_eq
  have a10 : F_refer S (0 : Int32) (0 : Int32) = some (-1, S) := by rw [← hSd]; exact Fr_bad vr_eq
  have a11 : F_own S (6 : Int32) (0 : Int32) = some (-1, S) := by rw [← hSd]; exact Fo_bad (vo_t t6)
  have a12 : F_own S (0 : Int32) (7 : Int32) = some (-1, S) := by rw [← hSd]; exact Fo_bad (vo_w w7)
  have a13 : F_own S (0 : Int32) (0 : Int32) = some (-1, S) := by rw [← hSd]; exact Fo_bad vo_eq
  have a14 : F_hand S (0 : Int32) (6 : Int32) = some (-1, S) := by rw [← hSd]; exact Fh_bad (vh_y t6)
  have a15 : F_hand S (nI n) (0 : Int32) = some (-1, S) := by rw [← hSd]; exact Fh_bad (vh_t tn)
  have a16 : F_hand S (0 : Int32) (0 : Int32) = some (-1, S) := by rw [← hSd]; exact Fh_bad vh_eq
  have b1 : F_day S (4 : Int32) (1 : Int32) (4 : Int32) (0 : Int32) (0 : Int32) = some (-1) := by rw [← hSd]; exact Fd_1 (by decide)
  have b2 : F_day S (1 : Int32) (3 : Int32) (4 : Int32) (0 : Int32) (0 : Int32) = some (-2) := by rw [← hSd]; exact Fd_2 (by decide) (Or.inl (by decide))
  have b3 : F_day S (1 : Int32) (1 : Int32) (4 : Int32) (21 : Int32) (0 : Int32) = some (-2) := by rw [← hSd]; exact Fd_2 (by decide) (Or.inr (Or.inl (by decide)))
  have b4 : F_day S (1 : Int32) (1 : Int32) (4 : Int32) (-1 : Int32) (0 : Int32) = some (-2) := by rw [← hSd]; exact Fd_2 (by decide) (Or.inr (Or.inl (by decide)))
  have b5 : F_day S (1 : Int32) (1 : Int32) (4 : Int32) (0 : Int32) (5 : Int32) = some (-2) := by rw [← hSd]; exact Fd_2 (by decide) (Or.inr (Or.inr (by decide)))
  have b6 : F_day S (1 : Int32) (1 : Int32) (4 : Int32) (0 : Int32) (16 : Int32) = some (-2) := by rw [← hSd]; exact Fd_2 (by decide) (Or.inr (Or.inr (by decide)))
  have b7 : F_day S (1 : Int32) (2 : Int32) (4 : Int32) (0 : Int32) (0 : Int32) = some (-12) := by
    rw [← hSd]
    exact Fd_f (k := 1) (f := 2) (by omega) (by decide) (by rw [h1, h2]; decide +kernel) (by decide)
  have b8 : F_day S (2 : Int32) (2 : Int32) (4 : Int32) (0 : Int32) (0 : Int32) = some (-11) := by
    rw [← hSd]
    refine Fd_f (k := 2) (f := 1) (by omega) (by decide) ?_ (by decide)
    rw [hs2]
    rfl
  have b9 : F_day S (1 : Int32) (1 : Int32) (2 : Int32) (18 : Int32) (0 : Int32) = some (-13) := by
    rw [← hSd]
    exact Fd_f (k := 1) (f := 3) (by omega) (by decide) (by rw [h1, h2]; decide +kernel) (by decide)
  have b10 : F_day S (1 : Int32) (1 : Int32) (4 : Int32) (0 : Int32) (0 : Int32) = some (nI r) := by
    rw [← hSd]
    have h := Fday_ok (r := r) (kd := kd) (ow := ow) (fr := fr) (to := to) (sc := sc2) (m := 0) (e := 0) h0 (by omega) (by omega) (by omega) h1 h2 (fun j hj => by omega)
    rw [if_neg (show ¬ (0 : Nat) = 1 by omega), if_pos (show (goS n (sc2 1) 4 0 0 (r, ow, fr, to)).1 = -(nI 9) from rfl), af0] at h
    exact h
  obtain ⟨S3, p3, sc3, rfl, hc3⟩ := SQ_put (W0 := (n, r, kd, ow, fr, to)) (S := S) (c := sc2 1) (i := 4) (v := 3) h1 h2 ⟨sc2, hSd.symm, rfl⟩ (by omega) (by decide)
  have p3 : F_put S (1 : Int32) (4 : Int32) (3 : Int32) = some (1, (((n, r, kd, ow, fr, to), sl2, sn2, sc3) : SG)) := p3
  have b11 : F_day (((n, r, kd, ow, fr, to), sl2, sn2, sc3) : SG) (1 : Int32) (1 : Int32) (4 : Int32) (1 : Int32) (1 : Int32) = some (-2) := Fd_s h0 h1 h2 (by rw [hc3, pk_us]; decide)
  obtain ⟨S4, p4, sc4, rfl, hc4⟩ := SQ_put (W0 := (n, r, kd, ow, fr, to)) (S := (((n, r, kd, ow, fr, to), sl2, sn2, sc3) : SG)) (c := sc3 1) (i := 4) (v := -1) h1 h2 ⟨sc3, rfl, rfl⟩ (by omega) (by decide)
  have p4 : F_put (((n, r, kd, ow, fr, to), sl2, sn2, sc3) : SG) (1 : Int32) (4 : Int32) (-1 : Int32) = some (1, (((n, r, kd, ow, fr, to), sl2, sn2, sc4) : SG)) := p4
  have b12 : F_day (((n, r, kd, ow, fr, to), sl2, sn2, sc4) : SG) (1 : Int32) (1 : Int32) (4 : Int32) (1 : Int32) (1 : Int32) = some (-2) := Fd_s h0 h1 h2 (by rw [hc4, pk_us]; decide)
  obtain ⟨S5, q3, f, g, rfl⟩ := uncut_L (sh := (sl2, sn2, sc4)) hA hg hd
  have hA0 : AD n 0 kd ow f g := ⟨⟨hn, by omega, fun q hq => by omega⟩, hA.2⟩
  have c1 : F_many (((n, 0, kd, ow, f, g), sl2, sn2, sc4) : SG) (1 : Int32) = some 0 := Fm1
  have c2 : F_many (((n, 0, kd, ow, f, g), sl2, sn2, sc4) : SG) (2 : Int32) = some 0 := by rw [Fm2, rch0]; rfl
  have c3 : F_unlawful (((n, 0, kd, ow, f, g), sl2, sn2, sc4) : SG) = some 0 := by rw [Ful hn h0, notL0 hn hA0.ow6]; rfl
  have c4 : F_odds (((n, 0, kd, ow, f, g), sl2, sn2, sc4) : SG) (0 : Int32) = some (-9223372036854775808) := by
    show (if 0 = 0 ∧ btw (0 : Int32) 0 1 = true then some (-9223372036854775808 : Int64) else none) = _
    exact if_pos ⟨rfl, by decide⟩
  obtain ⟨q4, hA6⟩ := world_L (sh := (sl2, sn2, sc4)) (ga0 := G0) hA0 hg hg0
  have ho : ∀ t, ow6 ow n t = 6 := fun t => ow6_n hA.2.2.1
  generalize ow6 ow n = o at q4 hA6 ho
  obtain ⟨f1, g1, q5, hA7, he7⟩ := each_L (sh := (sl2, sn2, sc4)) (ga0 := G0) hA6 hg0
  obtain ⟨⟨x, S8⟩, q6, all, f2, g2, e1, e2, hA8, hF8⟩ := rows_L (ga0 := G0) (kd := kd) (o := o) (sh := (sl2, sn2, sc4)) hn h0 hg0 ⟨n, f1, g1, rfl, rfl, hA7, Nat.le_refl n, he7, fun q h1 h2 => by omega⟩
  simp only at e1 e2
  subst e1 e2
  have hb8 := hA8.1.bd
  have hall := hA8.1.2.1
  have hwl : ∀ t, t < n → ∃ q, q < all ∧ f2 q = 6 ∧ g2 q = t := fun t ht => ⟨t, by have := hF8.1; omega, (hF8.2.1 t ht).1, (hF8.2.1 t ht).2⟩
  have d1 : F_many (((n, all, kd, o, f2, g2), sl2, sn2, sc4) : SG) (2 : Int32) = some (nI n) := by rw [Fm2, rch_all hA8.1 hwl, pc_all n (by omega)]
  have d2 : F_unlawful (((n, all, kd, o, f2, g2), sl2, sn2, sc4) : SG) = some 0 := by
    rw [Ful hn h0]
    unfold notL
    rw [nlF_0 n (fun t ht => law1_w hb8 (by omega) (ho t))]
    rfl
  have d3 : F_many (((n, all, kd, o, f2, g2), sl2, sn2, sc4) : SG) (1 : Int32) = some (nI all) := Fm1
  unfold f_L_law
  rw [q1, ob3_s, if_neg (show ¬ nI (1 + 3 * n + 3 * r0) < (4 : Int32) from nI_nlt (a := 1 + 3 * n + 3 * r0) (b := 4) (by omega) (by omega)), hth, ob2_s, hg0, if_pos rfl, Fm1, ob1_s, hg1, if_pos rfl, q2, ob3_s]
  rw [a1, ob1_s, if_pos rfl, a2, ob1_s, if_pos rfl, a3, ob1_s, if_pos rfl, a4, ob1_s, if_pos rfl, a5, ob1_s, if_pos rfl, a6, ob1_s, if_pos rfl, a7, ob1_s, if_pos rfl]
  rw [a8, ob2_s, if_pos rfl, a9, ob2_s, if_pos rfl, a10, ob2_s, if_pos rfl, a11, ob2_s, if_pos rfl, a12, ob2_s, if_pos rfl, a13, ob2_s, if_pos rfl, a14, ob2_s, if_pos rfl, a15, ob2_s, if_pos rfl, a16, ob2_s, if_pos rfl]
  rw [b1, ob1_s, if_pos rfl, b2, ob1_s, if_pos rfl, b3, ob1_s, if_pos rfl, b4, ob1_s, if_pos rfl, b5, ob1_s, if_pos rfl, b6, ob1_s, if_pos rfl, b7, ob1_s, if_pos rfl, b8, ob1_s, if_pos rfl, b9, ob1_s, if_pos rfl, b10, ob1_s, hg.2.1, if_pos rfl]
  rw [p3, ob2_s, if_pos rfl, b11, ob1_s, if_pos rfl, p4, ob2_s, if_pos rfl, b12, ob1_s, if_pos rfl]
  rw [hg.2.1] at q3
  rw [q3, ob1_s, c1, ob1_s, if_pos rfl, c2, ob1_s, if_pos rfl, c3, ob1_s, if_pos rfl, c4, ob1_s, if_pos (show lg_cmp (-9223372036854775808 : Int64) (-9223372036854775808 : Int64) = 0 by decide +kernel), q4, ob1_s, q5, ob2_s, q6, ob2_s, d1, ob1_s, if_pos rfl, d2, ob1_s, if_pos rfl, d3, ob1_s, if_pos rfl]
  by_cases n2 : n < 2
  · rw [if_pos (show nI n < (2 : Int32) from nI_lt (a := n) (b := 2) n2 (by omega))]
  rw [if_neg (show ¬ nI n < (2 : Int32) from nI_nlt (a := n) (b := 2) (by omega) (by omega))]
  have n1 : 1 < n := by omega
  have hu : und o 0 1 = false := by
    unfold und
    rw [unF, ho 0, unF6 hn hA8.2.2.1 n1 5]
    rfl
  have hA9 := AD_own hA8 n1 (Or.inl h0) (by omega) hu
  have k1 : F_own (((n, all, kd, o, f2, g2), sl2, sn2, sc4) : SG) (1 : Int32) (0 : Int32) = some (nI 6, (((n, all, kd, upN o 1 0, f2, g2), sl2, sn2, sc4) : SG)) := by
    refine (Fo_ok (a := 1) (b := 0) hn n1 (Or.inl h0) (by omega)).trans ?_
    rw [hu, if_neg (by decide), ho 1]
  obtain ⟨p, hp, e1, e2⟩ := hwl 1 n1
  have hup1 : upN o 1 0 1 = 0 := if_pos rfl
  have k2 : F_unlawful (((n, all, kd, upN o 1 0, f2, g2), sl2, sn2, sc4) : SG) = some (nI 2) := by
    rw [Ful hn h0]
    unfold notL
    rw [nlF_2 n (fun t ht => ?_), if_pos n1]
    by_cases e : t = 1
    · subst e
      rw [law1_0 hb8 hup1 hp e1 e2]
      rfl
    · rw [law1_w hb8 (by omega) (show upN o 1 0 t = 6 by unfold upN; rw [if_neg e]; exact ho t), decide_eq_false e]
      rfl
  have k3 : F_past (((n, all, kd, upN o 1 0, f2, g2), sl2, sn2, sc4) : SG) (1 : Int32) (-1 : Int32) = some (nI 1) := Fpa_m1 hn n1 hup1 hp e1 e2
  have k4 : F_past (((n, all, kd, upN o 1 0, f2, g2), sl2, sn2, sc4) : SG) (1 : Int32) (0 : Int32) = some (nI 1) := Fpa_0 hA8.1 n1 hup1 hp e1 e2
  have k5 : ∃ T, F_own (((n, all, kd, upN o 1 0, f2, g2), sl2, sn2, sc4) : SG) (1 : Int32) (6 : Int32) = some (nI 0, T) := by
    refine ⟨(((n, all, kd, upN (upN o 1 0) 1 6, f2, g2), sl2, sn2, sc4) : SG), (Fo_ok (a := 1) (b := 6) hn n1 (Or.inr rfl) (by omega)).trans ?_⟩
    rw [und6 hA9 n1, if_neg (by decide), hup1]
  obtain ⟨T, k5⟩ := k5
  rw [k1, ob2_s, if_pos (show nI 6 = (6 : Int32) from rfl), k2, ob1_s, if_pos (show nI 2 = (2 : Int32) from rfl), k3, ob1_s, if_pos (show nI 1 = (1 : Int32) from rfl), k4, ob1_s, if_pos (show nI 1 = (1 : Int32) from rfl), k5, ob2_s, if_pos (show nI 0 = (0 : Int32) from rfl)]
end LAWOK
