/-! ONE TURN of the law -/
theorem GR_copy {n r : Nat} {kd ow fr to : Nat → Nat} {ga G : Nat → Int32} (hg : GR n r kd ow fr to ga) (hn : n ≤ 6) (hr : r ≤ 12) (h : ∀ j, j < 38 → G j = ga j) : GR n r kd ow fr to G := by
  obtain ⟨g0, g1, gk, go, gf, gt⟩ := hg
  exact ⟨by rw [h 0 (by omega)]; exact g0, by rw [h 1 (by omega)]; exact g1, fun t ht => by rw [h _ (by omega)]; exact gk t ht, fun t ht => by rw [h _ (by omega)]; exact go t ht, fun q hq => by rw [h _ (by omega)]; exact gf q hq, fun q hq => by rw [h _ (by omega)]; exact gt q hq⟩
theorem keep_L (ga ka : Nat → Int32) : ∃ K, it (u2 (L_L_law_718 ga)) FUEL ((0 : Int32), ka) = some K ∧ ∀ j, j < 38 → K j = ga j := by
  refine it_goes (body := u2 (L_L_law_718 ga)) (fun i s => s.1 = nI i ∧ ∀ j, j < i → s.2 j = ga j) (fun K => ∀ j, j < 38 → K j = ga j) 38 ?_ ?_ FUEL (FUEL_gt (by omega)) _ ⟨rfl, fun j hj => by omega⟩
  · rintro i ⟨y, F⟩ hi ⟨h1, h2⟩
    simp only at h1 h2
    subst h1
    left
    refine ⟨(nI (i + 1), upd F i (ga i)), ?_, rfl, fun j hj => ?_⟩
    · show L_L_law_718 ga (nI i) F = _
      unfold L_L_law_718
      rw [K38, ifleF hi (by omega), cl_nI (by omega), ifgd0 (by omega) (by omega), ifgd0 (by omega) (by omega), L1, nI_ad]
    · show upd F i (ga i) j = ga j
      by_cases e : j = i
      · subst e; rw [pk_us]
      · rw [pk_un e]; exact h2 j (by omega)
  · rintro ⟨y, F⟩ ⟨h1, h2⟩
    simp only at h1 h2
    subst h1
    refine ⟨F, ?_, h2⟩
    show L_L_law_718 ga (nI 38) F = _
    unfold L_L_law_718
    rw [K38, ifleT (Nat.le_refl 38) (by omega)]
theorem back_L (ka ga : Nat → Int32) : ∃ K, it (u2 (L_L_law_1337 ka)) FUEL ((0 : Int32), ga) = some K ∧ ∀ j, j < 38 → K j = ka j := by
  refine it_goes (body := u2 (L_L_law_1337 ka)) (fun i s => s.1 = nI i ∧ ∀ j, j < i → s.2 j = ka j) (fun K => ∀ j, j < 38 → K j = ka j) 38 ?_ ?_ FUEL (FUEL_gt (by omega)) _ ⟨rfl, fun j hj => by omega⟩
  · rintro i ⟨y, F⟩ hi ⟨h1, h2⟩
    simp only at h1 h2
    subst h1
    left
    refine ⟨(nI (i + 1), upd F i (ka i)), ?_, rfl, fun j hj => ?_⟩
    · show L_L_law_1337 ka (nI i) F = _
      unfold L_L_law_1337
      rw [K38, ifleF hi (by omega), cl_nI (by omega), ifgd0 (by omega) (by omega), ifgd0 (by omega) (by omega), L1, nI_ad]
    · show upd F i (ka i) j = ka j
      by_cases e : j = i
      · subst e; rw [pk_us]
      · rw [pk_un e]; exact h2 j (by omega)
  · rintro ⟨y, F⟩ ⟨h1, h2⟩
    simp only at h1 h2
    subst h1
    refine ⟨F, ?_, h2⟩
    show L_L_law_1337 ka (nI 38) F = _
    unfold L_L_law_1337
    rw [K38, ifleT (Nat.le_refl 38) (by omega)]
section TURN
variable {n r : Nat} {kd ow fr to : Nat → Nat} {ga ga0 : Nat → Int32} {sh : SH} {L : Nat} {xs : Nat → Int32} {sl sn : Nat → Int32} {sc : Nat → Nat → Int32}
theorem Fm1 : F_many (((n, r, kd, ow, fr, to), sh) : SG) (1 : Int32) = some (nI r) := by
  show (if (1 : Int32) = 4 then none else some (spMa n r ow fr to 1)) = _
  unfold spMa
  rw [if_neg (by decide), if_neg (by decide), if_pos rfl]
theorem Fm2 : F_many (((n, r, kd, ow, fr, to), sh) : SG) (2 : Int32) = some (nI (pc (rch r fr to))) := by
  show (if (2 : Int32) = 4 then none else some (spMa n r ow fr to 2)) = _
  unfold spMa
  rw [if_neg (by decide), if_neg (by decide), if_neg (by decide), if_pos rfl]
theorem Fm3 : F_many (((n, r, kd, ow, fr, to), sh) : SG) (3 : Int32) = some (nI (pc (notL n r ow fr to))) := by
  show (if (3 : Int32) = 4 then none else some (spMa n r ow fr to 3)) = _
  unfold spMa
  rw [if_neg (by decide), if_neg (by decide), if_neg (by decide), if_neg (by decide), if_pos rfl]
theorem Ful (hn : n ≤ 6) (h0 : 0 < n) : F_unlawful (((n, r, kd, ow, fr, to), sh) : SG) = some (nI (notL n r ow fr to)) := by
  show some (if nI n = 0 then (-3 : Int32) else nI (notL n r ow fr to)) = _
  rw [L0, ifeqF (by omega) (by omega) (by omega)]
theorem Fof {t : Nat} {w : Int32} (hn : n ≤ 6) (ht : t < n) : F_ofThing (((n, r, kd, ow, fr, to), sh) : SG) (nI t) w = some (spOf n r kd ow fr to t w) := by
  show some (if isT n (nI t) = true then spOf n r kd ow fr to (nI t).toNatClampNeg w else -1) = _
  rw [isT_nI hn ht, if_pos rfl, cl_nI (by omega)]
theorem af0 {W : WB} : afterS n kd W 0 = nI W.1 := by
  obtain ⟨r, ow, fr, to⟩ := W
  unfold afterS
  dsimp only
  rw [if_pos rfl]
theorem af2 {W : WB} : afterS n kd W 2 = nI (notL n W.1 W.2.1 W.2.2.1 W.2.2.2) := by
  obtain ⟨r, ow, fr, to⟩ := W
  unfold afterS
  dsimp only
  rw [if_neg (by decide), if_pos rfl]
theorem af3 {W : WB} : afterS n kd W 3 = nI (rch W.1 W.2.2.1 W.2.2.2) := by
  obtain ⟨r, ow, fr, to⟩ := W
  unfold afterS
  dsimp only
  rw [if_neg (by decide), if_neg (by decide), if_pos rfl]
theorem af4 {W : WB} : afterS n kd W 4 = nI (glF n kd W.2.1 n) := by
  obtain ⟨r, ow, fr, to⟩ := W
  unfold afterS
  dsimp only
  rw [if_neg (by decide), if_neg (by decide), if_neg (by decide), if_pos rfl]
theorem af10 {W : WB} {t : Nat} : afterS n kd W (10 + t) = if t < n then nI (W.2.1 t) else -9 := by
  obtain ⟨r, ow, fr, to⟩ := W
  unfold afterS
  dsimp only
  rw [if_neg (by omega), if_neg (by omega), if_neg (by omega), if_neg (by omega), show 10 + t - 10 = t by omega]
theorem owners_L {m : Nat} {W : WB} (hn : n ≤ 6) (h0 : 0 < n) (hg0 : ga0 0 = nI n) (hm : m ≤ 15) (h1 : sl 1 = nI 1) (h2 : sn 1 = nI 55) (hs : ∀ j, j < m → s012 (sc 1 (4 + 3 * j))) (hW : W = (r, ow, fr, to)) (hg : GRW n kd (goS n (sc 1) 4 m 0 W).2 ga) : it (u1 (L_L_law_1273 ga0 (nI m) (goS n (sc 1) 4 m 0 W).1 ga (((n, r, kd, ow, fr, to), sl, sn, sc) : SG))) FUEL (0 : Int32) = some () := by
  subst hW
  have hd := fun (t : Nat) (ht : t < 6) => Fday_ok (r := r) (ow := ow) (fr := fr) (to := to) (kd := kd) (e := 10 + t) h0 hm (by omega) (by omega) h1 h2 hs
  have hres := goS_res (n := n) (c := sc 1) (a := 4) m 0 (r, ow, fr, to)
  generalize goS n (sc 1) 4 m 0 (r, ow, fr, to) = R at hg hd hres ⊢
  refine it_for (body := u1 (L_L_law_1273 ga0 (nI m) R.1 ga (((n, r, kd, ow, fr, to), sl, sn, sc) : SG))) (fun i => nI i) 6 () (fun i hi => ?_) ?_ FUEL (FUEL_gt (by omega))
  · show L_L_law_1273 ga0 (nI m) R.1 ga (((n, r, kd, ow, fr, to), sl, sn, sc) : SG) (nI i) = some (.inl (nI (i + 1)))
    have k1 : nI i + (1 : Int32) = nI (i + 1) := nI_ad i 1
    have k8 : (8 : Int32) + nI i = nI (8 + i) := nI_ad 8 i
    have hd := hd i hi
    rw [if_neg (by omega), af10] at hd
    have hu : (if R.1 < 0 then (if (ga0 0) ≤ nI i then (some (-9 : Int32)) else (if ((8 : Int32) + nI i) < 0 ∨ 38 ≤ ((8 : Int32) + nI i).toNatClampNeg then none else (some (ga ((8 : Int32) + nI i).toNatClampNeg)))) else (some ((-100 : Int32) - R.1))) = some (if R.1 = -(nI 9) then (if i < n then nI (R.2.2.1 i) else -9) else -100 - R.1) := by
      rcases hres with e | ⟨j, -, hj, e⟩
      · rw [e, if_pos n9lt, if_pos rfl, hg0]
        by_cases e2 : i < n
        · rw [ifleF e2 (by omega), k8, cl_nI (by omega), ifgd0 (by omega) (by omega), if_pos e2, hg.2.2.2.1 i e2]
        · rw [ifleT (by omega) (by omega), if_neg e2]
      · rw [e, if_neg (nI_pos (by omega)), if_neg (nI_neg_ne (a := j) (k := 9) (by omega) (by omega) (by omega))]
    unfold L_L_law_1273
    rw [L6, ifleF hi (by omega), show (10 : Int32) + nI i = nI (10 + i) from nI_ad 10 i]
    rw [show F_day (((n, r, kd, ow, fr, to), sl, sn, sc) : SG) (1 : Int32) (1 : Int32) (4 : Int32) (nI m) (nI (10 + i)) = _ from hd, ob1_s, hu, ob1_s, if_pos rfl, k1]
  · show L_L_law_1273 ga0 (nI m) R.1 ga (((n, r, kd, ow, fr, to), sl, sn, sc) : SG) (nI 6) = _
    unfold L_L_law_1273
    rw [L6, ifleT (Nat.le_refl 6) (by omega)]
/-- the state between turns -/
def TI (n tu : Nat) (S : SG) (ga : Nat → Int32) : Prop := ∃ r kd ow fr to sl sn sc, S = ((n, r, kd, ow, fr, to), sl, sn, sc) ∧ AD n r kd ow fr to ∧ GR n r kd ow fr to ga ∧ DS r fr to ∧ sn 2 = -1 ∧ (0 < tu → sl 1 = nI 1 ∧ sn 1 = nI 55)
theorem first_L {tu : Nat} {S : SG} (hL : L ≤ 260) (h0 : 0 < n) (htu : tu < 7) (h : LI sh n S ga) : ∃ G S', (if nI tu ≤ 0 then (some (ga, S)) else (ob1 (f_L_cell L xs ((6 : Int32) + nI tu)) (fun r_87 => (ob3 (f_L_change ga S r_87) (fun r_91 r_91_ga r_91_SS => (if r_91 = 0 then none else (some (r_91_ga, r_91_SS)))))))) = some (G, S') ∧ LI sh n S' G := by
  by_cases e : nI tu ≤ (0 : Int32)
  · exact ⟨ga, S, if_pos e, h⟩
  · obtain ⟨y, hy⟩ := cell_L (L := L) (xs := xs) (c := 6 + tu) hL (by omega)
    obtain ⟨G, S', q1, q2⟩ := change_L y h h0
    refine ⟨G, S', ?_, q2⟩
    rw [if_neg e, show (6 : Int32) + nI tu = nI (6 + tu) from nI_ad 6 tu, hy, ob1_s, q1, ob3_s]
    exact if_neg (by decide)
theorem many_m (y : Int32) : ∃ m u, m ≤ 15 ∧ (∃ j, f_L_some (y >>> ((9 : Int32) &&& 31)) (2 : Int32) = some (nI j) ∧ (if nI j = 0 then (some (15 : Int32)) else (some (6 : Int32))) = some u) ∧ f_L_some y u = some (nI m) := by
  obtain ⟨j, hj, e1⟩ := some_L (y >>> ((9 : Int32) &&& 31)) (m := 2) (by omega) (by omega)
  by_cases e : nI j = 0
  · obtain ⟨m, hm, e2⟩ := some_L y (m := 15) (by omega) (by omega)
    exact ⟨m, 15, by omega, ⟨j, e1, if_pos e⟩, e2⟩
  · obtain ⟨m, hm, e2⟩ := some_L y (m := 6) (by omega) (by omega)
    exact ⟨m, 6, by omega, ⟨j, e1, if_neg e⟩, e2⟩
theorem told_L {R : Int32 × WB} {o : Option Int32} {v : Int32} {m : Nat} (hres : R.1 = -(nI 9) ∨ ∃ j, 0 ≤ j ∧ j < 0 + m ∧ R.1 = nI j) (hm : m ≤ 15) (ho : o = some v) : (if 0 ≤ R.1 then (some ((-100 : Int32) - R.1)) else o) = some (if R.1 = -(nI 9) then v else -100 - R.1) := by
  rcases hres with e | ⟨j, -, hj, e⟩
  · rw [e, if_neg n9nle, if_pos rfl, ho]
  · rw [e, if_pos (le0 (by omega)), if_neg (nI_neg_ne (a := j) (k := 9) (by omega) (by omega) (by omega))]
theorem turn_L {tu : Nat} {S : SG} (ka : Nat → Int32) (hL : L ≤ 260) (h0 : 0 < n) (hg0 : ga0 0 = nI n) (htu : tu < 7) (h : TI n tu S ga) : ∃ G K S', L_L_law_68 L xs ga0 (nI tu) ga ka S = some (.inl (nI (tu + 1), G, K, S')) ∧ TI n (tu + 1) S' G := by
  obtain ⟨r0, kd0, ow0, fr0, to0, sl, sn, sc, rfl, hA0, hg00, hd0, hsn2, -⟩ := h
  obtain ⟨G1, S1, q1, q2⟩ := first_L (sh := (sl, sn, sc)) (xs := xs) hL h0 htu ⟨r0, kd0, ow0, fr0, to0, rfl, hA0, hg00, hd0⟩
  obtain ⟨r, kd, ow, fr, to, rfl, hA, hg, hd⟩ := q2
  have hw := hA.1
  have hn := hw.1
  have hr := hw.2.1
  have hb := hw.bd
  obtain ⟨z, hz⟩ := cell_L (L := L) (xs := xs) (c := 13 + tu) hL (by omega)
  obtain ⟨m, u, hm, ⟨j9, e1, e2⟩, e3⟩ := many_m z
  obtain ⟨zc, e4⟩ := Fsheet_of (W := (n, r, kd, ow, fr, to)) (sl := sl) (sn := sn) (sc := sc) (k := 1) (la := 1) (Ln := 55) (by omega) (by omega) (by omega)
  have e4 : F_sheet (((n, r, kd, ow, fr, to), sl, sn, sc) : SG) (1 : Int32) (1 : Int32) (55 : Int32) = some (1, ((n, r, kd, ow, fr, to), va_up sl 1 (nI 1), va_up sn 1 (nI 55), va_up sc 1 zc)) := e4
  generalize hsl : va_up sl 1 (nI 1) = sl' at e4
  generalize hsn : va_up sn 1 (nI 55) = sn' at e4
  have h1 : sl' 1 = nI 1 := by rw [← hsl]; exact up_at
  have h2 : sn' 1 = nI 55 := by rw [← hsn]; exact up_at
  have hsn2' : sn' 2 = -1 := by rw [← hsn, up_no (by omega)]; exact hsn2
  obtain ⟨K, e5, hK⟩ := keep_L G1 ka
  obtain ⟨x, G2, S2, c, e6, hS2, hx, hA2, hg2, hs2⟩ := acts_L (W := (r, ow, fr, to)) (xs := xs) (kd := kd) (W0 := (n, r, kd, ow, fr, to)) (S := ((n, r, kd, ow, fr, to), sl', sn', va_up sc 1 zc)) (c := zc) hL hn h0 hg0 h1 h2 hm htu hA hg ⟨va_up sc 1 zc, rfl, up_at⟩
  obtain ⟨sc2, rfl, rfl⟩ := hS2
  have hD := fun (e : Nat) (he : e < 16) (he2 : e ≤ 4 ∨ 10 ≤ e) => Fday_ok (r := r) (ow := ow) (fr := fr) (to := to) (kd := kd) (e := e) h0 hm he he2 h1 h2 hs2
  have hO := owners_L (kd := kd) (W := (r, ow, fr, to)) hn h0 hg0 hm h1 h2 hs2 rfl hg2
  have hres := goS_res (n := n) (c := sc2 1) (a := 4) m 0 (r, ow, fr, to)
  generalize goS n (sc2 1) 4 m 0 (r, ow, fr, to) = R at hx hA2 hg2 hD hO hres
  subst hx
  obtain ⟨G3, e7, hG3⟩ := back_L K G2
  have hg3 : GR n r kd ow fr to G3 := GR_copy hg hn hr (fun j hj => by rw [hG3 j hj, hK j hj])
  have hw2 : Web n R.2.1 R.2.2.2.1 R.2.2.2.2 := hA2.1
  have hmost := most_L hA2 hg2 hg0
  have d1 : F_day (((n, r, kd, ow, fr, to), sl', sn', sc2) : SG) (1 : Int32) (1 : Int32) (4 : Int32) (nI m) (1 : Int32) = some R.1 := hD 1 (by omega) (by omega)
  have d0 : F_day (((n, r, kd, ow, fr, to), sl', sn', sc2) : SG) (1 : Int32) (1 : Int32) (4 : Int32) (nI m) (0 : Int32) = some (if R.1 = -(nI 9) then nI R.2.1 else -100 - R.1) := by
    have h := hD 0 (by omega) (by omega)
    rw [if_neg (show ¬ (0 : Nat) = 1 by omega), af0] at h
    exact h
  have d2 : F_day (((n, r, kd, ow, fr, to), sl', sn', sc2) : SG) (1 : Int32) (1 : Int32) (4 : Int32) (nI m) (2 : Int32) = some (if R.1 = -(nI 9) then nI (notL n R.2.1 R.2.2.1 R.2.2.2.1 R.2.2.2.2) else -100 - R.1) := by
    have h := hD 2 (by omega) (by omega)
    rw [if_neg (show ¬ (2 : Nat) = 1 by omega), af2] at h
    exact h
  have d3 : F_day (((n, r, kd, ow, fr, to), sl', sn', sc2) : SG) (1 : Int32) (1 : Int32) (4 : Int32) (nI m) (3 : Int32) = some (if R.1 = -(nI 9) then nI (rch R.2.1 R.2.2.2.1 R.2.2.2.2) else -100 - R.1) := by
    have h := hD 3 (by omega) (by omega)
    rw [if_neg (show ¬ (3 : Nat) = 1 by omega), af3] at h
    exact h
  have d4 : F_day (((n, r, kd, ow, fr, to), sl', sn', sc2) : SG) (1 : Int32) (1 : Int32) (4 : Int32) (nI m) (4 : Int32) = some (if R.1 = -(nI 9) then nI (glF n kd R.2.2.1 n) else -100 - R.1) := by
    have h := hD 4 (by omega) (by omega)
    rw [if_neg (show ¬ (4 : Nat) = 1 by omega), af4] at h
    exact h
  have hu2 : (ob1 (f_L_unlawful G2) (fun r_1199 => (some r_1199))) = some (nI (notL n R.2.1 R.2.2.1 R.2.2.2.1 R.2.2.2.2)) := by
    rw [unlawful_L hg2 hw2 hA2.ow2, ob1_s]
  have hc2 : (ob1 (f_L_come G2 (6 : Int32) (-1 : Int32)) (fun r_1229 => (some (r_1229 - (64 : Int32))))) = some (nI (rch R.2.1 R.2.2.2.1 R.2.2.2.2)) := by
    rw [come_rch hg2 hw2, ob1_s, rch_sub hw2.bd]
  have hg21 : some (G2 1) = some (nI R.2.1) := by rw [hg2.2.1]
  have k1 : nI tu + (1 : Int32) = nI (tu + 1) := nI_ad tu 1
  have hrl : rch r fr to < 128 := rcB_lt hb
  have hnl : notL n r ow fr to < 128 := nlF_lt n (by omega)
  have hsb : nI n - (1 : Int32) = nI (n - 1) := nI_sb (a := n) (b := 1) (by omega)
  have h7 : (7 : Int32) + nI n = nI (7 + n) := nI_ad 7 n
  have go3 := hg3.2.2.2.1 (n - 1) (by omega)
  rw [show 8 + (n - 1) = 7 + n by omega] at go3
  refine ⟨G3, K, ((n, r, kd, ow, fr, to), sl', sn', sc2), ?_, r, kd, ow, fr, to, sl', sn', sc2, rfl, hA, hg3, hd, hsn2', fun _ => ⟨h1, h2⟩⟩
  unfold L_L_law_68
  rw [L7, ifleF htu (by omega), q1, ob2_s, show (13 : Int32) + nI tu = nI (13 + tu) from nI_ad 13 tu, hz, ob1_s, come_rch hg hw, ob1_s, things_L hA hg hg0, ob0_s]
  rw [Fm1, ob1_s, hg.2.1, if_pos rfl, Fm2, ob1_s, rch_sub hb, size_L hrl, ob1_s, if_pos rfl, Fm3, ob1_s, unlawful_L hg hw hA.ow2, ob1_s, size_L hnl, ob1_s, if_pos rfl, Ful hn h0, ob1_s, ob1_s, if_pos rfl]
  rw [e1, ob1_s, e2, ob1_s, e3, ob1_s, e4, ob2_s, if_pos rfl, e5, ob1_s, e6, ob3_s, hmost, ob1_s]
  rw [d1, ob1_s, if_pos rfl, d0, ob1_s, told_L hres hm hg21, ob1_s, if_pos rfl, d2, ob1_s, told_L hres hm hu2, ob1_s, if_pos rfl, d3, ob1_s, told_L hres hm hc2, ob1_s, if_pos rfl, d4, ob1_s, told_L hres hm rfl, ob1_s, if_pos rfl, hO, ob0_s, e7, ob1_s]
  rw [Fm1, ob1_s, hg3.2.1, if_pos rfl, Fm3, ob1_s, unlawful_L hg3 hw hA.ow2, ob1_s, size_L hnl, ob1_s, if_pos rfl, hg0, hsb, Fof hn (by omega), ob1_s]
  rw [show (nI 7 : Int32) + nI n = nI (7 + n) from nI_ad 7 n, cl_nI (by omega), ifgd0 (by omega) (by omega), go3, sp1, if_pos rfl, k1]
end TURN
