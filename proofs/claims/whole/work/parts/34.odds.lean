/-! ODDS -/
def gdF (n r : Nat) (ow fr to : Nat → Nat) : Nat → Nat
  | 0 => 0
  | i + 1 => gdF n r ow fr to i + (if notL n (r - 1) ow (cutA i fr) (cutA i to) = 0 then 1 else 0)
theorem gdF_le {n r : Nat} {ow fr to : Nat → Nat} : ∀ i, gdF n r ow fr to i ≤ i
  | 0 => Nat.le_refl 0
  | i + 1 => by
    have := gdF_le (n := n) (r := r) (ow := ow) (fr := fr) (to := to) i
    rw [gdF]
    split <;> omega
theorem Web_cut {n r i : Nat} {fr to : Nat → Nat} (h : Web n r fr to) (hi : i < r) : Web n (r - 1) (cutA i fr) (cutA i to) := by
  refine ⟨h.1, by have := h.2.1; omega, fun q hq => ?_⟩
  unfold cutA
  by_cases e : q < i
  · simp only [if_pos e]; exact h.2.2 q (by omega)
  · simp only [if_neg e]; exact h.2.2 (q + 1) (by omega)
theorem gcd_d : ∀ r, r < 13 → ∀ g, g < 13 → 0 < r → g ≤ r → f_X4_commonDivisor (nI r) (nI g) = some (nI (Nat.gcd r g)) := by decide +kernel
theorem gcd_b : ∀ r, r < 13 → ∀ g, g < 13 → 0 < r → g ≤ r → 0 < Nat.gcd r g ∧ Nat.gcd r g ≤ 12 := by decide +kernel
theorem lea_d : ∀ r, r < 13 → ∀ g, g < 13 → 0 < r → g ≤ r → f_X5_inLeastTerms (nI g).toInt64 (nI r).toInt64 (nI 0) = some ((nI g / nI (Nat.gcd r g)).toInt64) ∧ f_X5_inLeastTerms (nI g).toInt64 (nI r).toInt64 (nI 1) = some ((nI r / nI (Nat.gcd r g)).toInt64) := by decide +kernel
section ODDS
variable {n r c : Nat} {kd ow fr to on ot le : Nat → Nat} {c1 r1 c2 r2 e1 e2 : Int32} {k1 a1 f1 g1 k2 a2 f2 g2 o1 p1 l1 o2 p2 l2 : Nat → Int32}
theorem odds_cm (h : AD n r kd ow fr to) (w1 : WR n r kd ow fr to c1 r1 k1 a1 f1 g1) (w2 : WR n r kd ow fr to c2 r2 k2 a2 f2 g2) (tc tr : Int32) (tk ta tf tg : Nat → Int32) (x : Int32) : ∃ v TC TR TK TA TF TG R2 F2 G2, f_X4_odds c1 r1 k1 a1 f1 g1 tc tr tk ta tf tg x = some (v, TC, TR, TK, TA, TF, TG) ∧ f_X5_odds c2 r2 a2 f2 g2 x = some (v, R2, F2, G2) ∧ R2 = nI r ∧ RI r fr F2 ∧ RI r to G2 := by
  have hn := h.1.1
  have hr := h.1.2.1
  have w1' := w1
  obtain ⟨rfl, rfl, hk1, ha1, hf1, hg1⟩ := w1'
  obtain ⟨rfl, rfl, hk2, ha2, hf2, hg2⟩ := w2
  unfold f_X4_odds f_X5_odds
  rw [hmr_c, ob1_s, btw_c, btw_m, ob1_s, ob1_s]
  by_cases q : btw x 0 1 = true
  · obtain ⟨j, hj, rfl⟩ := btw_01 q
    rw [q, bT, bT]
    by_cases hr0 : r = 0
    · refine ⟨(-9223372036854775808 : Int64), tc, tr, tk, ta, tf, tg, nI r, f2, g2, ?_, ?_, rfl, hf2, hg2⟩
      · rw [L0, ifeqT hr0]
      · rw [L0, ifeqT hr0]
    · obtain ⟨gf, hgf⟩ : ∃ gf : Nat → Nat, gf = gdF n r ow fr to := ⟨_, rfl⟩
      have hgs : ∀ i, gf (i + 1) = gf i + (if notL n (r - 1) ow (cutA i fr) (cutA i to) = 0 then 1 else 0) := fun i => by rw [hgf, gdF]
      have hg0 : gf 0 = 0 := by rw [hgf]; rfl
      have hgl : gf r ≤ r := by rw [hgf]; exact gdF_le r
      have e3 : ∃ w, it (u8 (L_X4_howManyGoodCuts_4 (nI n) (nI r) k1 a1 f1 g1 (nI r))) FUEL ((0 : Int32), (0 : Int32), tc, tr, tk, ta, tf, tg) = some w ∧ w.1 = nI (gf r) := by
        refine it_goes (body := u8 (L_X4_howManyGoodCuts_4 (nI n) (nI r) k1 a1 f1 g1 (nI r))) (fun i s => s.1 = nI (gf i) ∧ s.2.1 = nI i) (fun w => w.1 = nI (gf r)) r ?_ ?_ FUEL (FUEL_gt (by omega)) _ ⟨by rw [hg0]; rfl, rfl⟩
        · rintro i ⟨m, y, tc, tr, tk, ta, tf, tg⟩ hi ⟨h1, h2⟩
          simp only at h1 h2
          subst h1 h2
          left
          obtain ⟨K, A, F, G, hbe, hK, hA, hF, hG⟩ := become_c hn hr w1 tk ta tf tg
          obtain ⟨F', G', hcu, hF', hG'⟩ := cut_c hr hi hF hG
          have hw := Web_cut h.1 hi
          have hnl := notLawful_c hw hA hF' hG' h.ow2
          have hlt : notL n (r - 1) ow (cutA i fr) (cutA i to) < 128 := nlF_lt n (by omega)
          refine ⟨(nI (gf (i + 1)), nI (i + 1), nI n, nI (r - 1), K, A, F', G'), ?_, rfl, rfl⟩
          show L_X4_howManyGoodCuts_4 (nI n) (nI r) k1 a1 f1 g1 (nI r) (nI (gf i)) (nI i) tc tr tk ta tf tg = _
          unfold L_X4_howManyGoodCuts_4
          rw [ifleF hi (by omega), hbe, ob6_s, hcu, ob3_s, hnl, ob1_s, hgs]
          by_cases e : notL n (r - 1) ow (cutA i fr) (cutA i to) = 0
          · rw [L0, ifeqT e, if_pos e, L1, nI_ad, nI_ad]
          · rw [L0, ifeqF e (by omega) (by omega), if_neg e, L1, nI_ad]; rfl
        · rintro ⟨m, y, tc, tr, tk, ta, tf, tg⟩ ⟨h1, h2⟩
          simp only at h1 h2
          subst h1 h2
          refine ⟨(nI (gf r), tc, tr, tk, ta, tf, tg), ?_, rfl⟩
          show L_X4_howManyGoodCuts_4 (nI n) (nI r) k1 a1 f1 g1 (nI r) (nI (gf r)) (nI r) tc tr tk ta tf tg = _
          unfold L_X4_howManyGoodCuts_4
          rw [ifleT (by omega) (by omega)]
      have e4 : ∃ w, it (u5 (L_X5_odds_24 (nI n) a2)) FUEL ((0 : Int32), (0 : Int32), nI r, f2, g2) = some w ∧ w.1 = nI (gf r) ∧ w.2.1 = nI r ∧ RI r fr w.2.2.1 ∧ RI r to w.2.2.2 := by
        refine it_goes (body := u5 (L_X5_odds_24 (nI n) a2)) (fun i s => s.1 = nI (gf i) ∧ s.2.1 = nI i ∧ s.2.2.1 = nI r ∧ RI r fr s.2.2.2.1 ∧ RI r to s.2.2.2.2) (fun w => w.1 = nI (gf r) ∧ w.2.1 = nI r ∧ RI r fr w.2.2.1 ∧ RI r to w.2.2.2) r ?_ ?_ FUEL (FUEL_gt (by omega)) _ ⟨by rw [hg0]; rfl, rfl, rfl, hf2, hg2⟩
        · rintro i ⟨m, y, R, F, G⟩ hi ⟨h1, h2, h3, h4, h5⟩
          simp only at h1 h2 h3 h4 h5
          subst h1 h2 h3
          left
          obtain ⟨F', G', hcu, hFG⟩ := cut_m (f := F) (g := G) hr hi
          have hF' := RI_cut hi h4 (fun j hj => (hFG j hj).1)
          have hG' := RI_cut hi h5 (fun j hj => (hFG j hj).2)
          have hw := Web_cut h.1 hi
          have hnl := unlawfulNow_m hw ha2 hF' hG' h.ow2
          have hlt : notL n (r - 1) ow (cutA i fr) (cutA i to) < 128 := nlF_lt n (by omega)
          obtain ⟨F3, G3, hmk, hFG3⟩ := make_m (f := F') (g := G') (F i) (G i) (show r - 1 < 12 by omega) (show i ≤ r - 1 by omega)
          have back : ∀ j, j < r → F3 j = F j ∧ G3 j = G j := by
            intro j hj
            have h6 := hFG3 j (by omega)
            rw [h6.1, h6.2]
            by_cases e1 : j < i
            · have h7 := hFG j (by omega)
              rw [if_pos e1, if_pos e1, h7.1, h7.2, if_pos e1, if_pos e1]
              exact ⟨rfl, rfl⟩
            · by_cases e2 : j = i
              · rw [if_neg e1, if_neg e1, if_pos e2, if_pos e2, e2]
                exact ⟨rfl, rfl⟩
              · have h7 := hFG (j - 1) (by omega)
                rw [if_neg e1, if_neg e1, if_neg e2, if_neg e2, h7.1, h7.2, if_neg (by omega), if_neg (by omega), show j - 1 + 1 = j by omega]
                exact ⟨rfl, rfl⟩
          refine ⟨(nI (gf (i + 1)), nI (i + 1), nI r, F3, G3), ?_, rfl, rfl, rfl, fun j hj => (back j hj).1.trans (h4 j hj), fun j hj => (back j hj).2.trans (h5 j hj)⟩
          show L_X5_odds_24 (nI n) a2 (nI (gf i)) (nI i) (nI r) F G = _
          unfold L_X5_odds_24
          rw [ifleF hi (by omega), cl_nI (by omega), ifgd0 (by omega) (by omega), ifgd0 (by omega) (by omega), hcu, ob3_s, hnl, ob1_s, hgs, hmk]
          by_cases e : notL n (r - 1) ow (cutA i fr) (cutA i to) = 0
          · rw [L0, ifeqT e, if_pos e, ob3_s, L1, nI_ad, nI_ad, show r - 1 + 1 = r by omega]
          · rw [L0, ifeqF e (by omega) (by omega), if_neg e, ob3_s, L1, nI_ad, nI_ad, show r - 1 + 1 = r by omega]
        · rintro ⟨m, y, R, F, G⟩ ⟨h1, h2, h3, h4, h5⟩
          simp only at h1 h2 h3 h4 h5
          subst h1 h2 h3
          refine ⟨(nI (gf r), nI r, F, G), ?_, rfl, rfl, h4, h5⟩
          show L_X5_odds_24 (nI n) a2 (nI (gf r)) (nI r) (nI r) F G = _
          unfold L_X5_odds_24
          rw [ifleT (by omega) (by omega)]
      obtain ⟨⟨v3, tc', tr', tk', ta', tf', tg'⟩, e3, e5⟩ := e3
      obtain ⟨⟨v4, R4, F4, G4⟩, e4, e6, e7, e8, e9⟩ := e4
      simp only at e5 e6 e7 e8 e9
      subst e5 e6 e7
      have gd1 := gcd_d r (by omega) (gf r) (by omega) (by omega) hgl
      obtain ⟨gd2, gd3⟩ := gcd_b r (by omega) (gf r) (by omega) (by omega) hgl
      obtain ⟨le1, le2⟩ := lea_d r (by omega) (gf r) (by omega) (by omega) hgl
      have x01 : j = 0 ∨ j = 1 := by omega
      rcases x01 with rfl | rfl
      · refine ⟨((nI (gf r) / nI (Nat.gcd r (gf r))).toInt64), tc', tr', tk', ta', tf', tg', nI r, F4, G4, ?_, ?_, rfl, e8, e9⟩
        · rw [L0, ifeqF hr0 (by omega) (by omega)]
          unfold f_X4_howManyGoodCuts
          rw [← L0, e3, ob7_s, ob7_s, gd1, ob1_s, L0, ifeqF (by omega) (by omega) (by omega), if_pos rfl, ifeqF (by omega) (by omega) (by omega)]
        · rw [L0, ifeqF hr0 (by omega) (by omega), ← L0, e4, ob4_s, L0, le1, ob1_s]
      · refine ⟨((nI r / nI (Nat.gcd r (gf r))).toInt64), tc', tr', tk', ta', tf', tg', nI r, F4, G4, ?_, ?_, rfl, e8, e9⟩
        · rw [L0, ifeqF hr0 (by omega) (by omega)]
          unfold f_X4_howManyGoodCuts
          rw [← L0, e3, ob7_s, ob7_s, gd1, ob1_s, L0, ifeqF (by omega) (by omega) (by omega), ifeqF (by omega) (by omega) (by omega), ifeqF (by omega) (by omega) (by omega)]
        · rw [L0, ifeqF hr0 (by omega) (by omega), ← L0, e4, ob4_s, le2, ob1_s]
  · rw [Bool.not_eq_true] at q
    rw [q]
    exact ⟨_, _, _, _, _, _, _, _, _, _, rfl, rfl, rfl, hf2, hg2⟩
end ODDS
