/-! THE LAW'S days: acts put down one by one, and what a day is -/
abbrev GRW (n : Nat) (kd : Nat → Nat) (W : WB) (ga : Nat → Int32) : Prop := GR n W.1 kd W.2.1 W.2.2.1 W.2.2.2 ga
theorem goS_congr {n : Nat} {c c' : Nat → Int32} {a : Nat} : ∀ k i W, (∀ j, i ≤ j → j < i + k → c (a + 3 * j) = c' (a + 3 * j) ∧ c (a + 3 * j + 1) = c' (a + 3 * j + 1) ∧ c (a + 3 * j + 2) = c' (a + 3 * j + 2)) → goS n c a k i W = goS n c' a k i W
  | 0, _, _, _ => rfl
  | k + 1, i, W, h => by
    obtain ⟨h1, h2, h3⟩ := h i (by omega) (by omega)
    rw [goS, goS, h1, h2, h3]
    cases actS n W (c' (a + 3 * i)) (c' (a + 3 * i + 1)) (c' (a + 3 * i + 2)) with
    | none => rfl
    | some W' => exact goS_congr k (i + 1) W' (fun j h1 h2 => h j (by omega) (by omega))
theorem goS_none {n : Nat} {c : Nat → Int32} {a k i : Nat} {W : WB} (h : actS n W (c (a + 3 * i)) (c (a + 3 * i + 1)) (c (a + 3 * i + 2)) = none) : goS n c a (k + 1) i W = (nI i, W) := by
  rw [goS]
  simp only [h]
theorem goS_some {n : Nat} {c : Nat → Int32} {a k i : Nat} {W W' : WB} (h : actS n W (c (a + 3 * i)) (c (a + 3 * i + 1)) (c (a + 3 * i + 2)) = some W') : goS n c a (k + 1) i W = goS n c a k (i + 1) W' := by
  rw [goS]
  simp only [h]
theorem goS_res {n : Nat} {c : Nat → Int32} {a : Nat} : ∀ k i W, (goS n c a k i W).1 = -(nI 9) ∨ ∃ j, i ≤ j ∧ j < i + k ∧ (goS n c a k i W).1 = nI j
  | 0, _, _ => Or.inl rfl
  | k + 1, i, W => by
    cases hA : actS n W (c (a + 3 * i)) (c (a + 3 * i + 1)) (c (a + 3 * i + 2)) with
    | none => rw [goS_none hA]; exact Or.inr ⟨i, by omega, by omega, rfl⟩
    | some W' =>
      rw [goS_some hA]
      rcases goS_res k (i + 1) W' with h | ⟨j, h1, h2, h3⟩
      · exact Or.inl h
      · exact Or.inr ⟨j, by omega, by omega, h3⟩
theorem goS_ok {n : Nat} {c : Nat → Int32} {a : Nat} : ∀ k i W, i + k < 1000 → (goS n c a k i W).1 = -(nI 9) → ∀ W', actS n (goS n c a k i W).2 (c (a + 3 * (i + k))) (c (a + 3 * (i + k) + 1)) (c (a + 3 * (i + k) + 2)) = some W' → goS n c a (k + 1) i W = (-(nI 9), W')
  | 0, i, W, _, _, W', h => by
    rw [goS_some (show actS n W (c (a + 3 * i)) (c (a + 3 * i + 1)) (c (a + 3 * i + 2)) = some W' from h)]
    rfl
  | k + 1, i, W, hk, h1, W', h => by
    cases hA : actS n W (c (a + 3 * i)) (c (a + 3 * i + 1)) (c (a + 3 * i + 2)) with
    | none =>
      rw [goS_none hA] at h1
      exact absurd h1 (nI_neg_ne (a := i) (k := 9) (by omega) (by omega) (by omega))
    | some W1 =>
      rw [goS_some hA] at h1 h ⊢
      rw [show i + (k + 1) = i + 1 + k by omega] at h
      exact goS_ok k (i + 1) W1 (by omega) h1 W' h
theorem goS_bad {n : Nat} {c : Nat → Int32} {a : Nat} : ∀ k i W, i + k < 1000 → (goS n c a k i W).1 = -(nI 9) → actS n (goS n c a k i W).2 (c (a + 3 * (i + k))) (c (a + 3 * (i + k) + 1)) (c (a + 3 * (i + k) + 2)) = none → goS n c a (k + 1) i W = (nI (i + k), (goS n c a k i W).2)
  | 0, i, W, _, _, h => goS_none h
  | k + 1, i, W, hk, h1, h => by
    cases hA : actS n W (c (a + 3 * i)) (c (a + 3 * i + 1)) (c (a + 3 * i + 2)) with
    | none =>
      rw [goS_none hA] at h1
      exact absurd h1 (nI_neg_ne (a := i) (k := 9) (by omega) (by omega) (by omega))
    | some W1 =>
      rw [goS_some hA] at h1 h ⊢
      rw [show i + (k + 1) = i + 1 + k by omega] at h ⊢
      rw [goS_some hA]
      exact goS_bad k (i + 1) W1 (by omega) h1 h
theorem goS_old {n : Nat} {c : Nat → Int32} {a : Nat} : ∀ k i W j, i + k < 1000 → j < 1000 → (goS n c a k i W).1 = nI j → goS n c a (k + 1) i W = goS n c a k i W
  | 0, i, W, j, _, hj, h => by
    have h : -(nI 9) = nI j := h
    exact absurd h.symm (nI_neg_ne (a := j) (k := 9) (by omega) (by omega) (by omega))
  | k + 1, i, W, j, hk, hj, h => by
    cases hA : actS n W (c (a + 3 * i)) (c (a + 3 * i + 1)) (c (a + 3 * i + 2)) with
    | none => rw [goS_none hA, goS_none hA]
    | some W1 =>
      rw [goS_some hA] at h
      rw [goS_some hA, goS_some hA]
      exact goS_old k (i + 1) W1 j (by omega) hj h
section LDAY
variable {n : Nat} {kd : Nat → Nat} {ga ga0 : Nat → Int32} {L : Nat} {xs : Nat → Int32} {W0 : Nat × Nat × (Nat → Nat) × (Nat → Nat) × (Nat → Nat) × (Nat → Nat)} {sl sn : Nat → Int32}
theorem pick_L {s a b k : Nat} {y : Int32} {W : WB} (hA : ADW n kd W) (h0 : 0 < n) (hg : GRW n kd W ga) (hg0 : ga0 0 = nI n) (hs : s ≤ 2) (ha : a < 100) (hb : b < 8) : ∃ w : Int32 × Int32, it (u3 (L_L_law_877 ga0 (nI k) ga y (nI a))) FUEL (nI s, nI b, (0 : Int32)) = some w ∧ ∃ s' b', s' ≤ 2 ∧ b' < 8 ∧ w = (nI s', nI b') := by
  obtain ⟨r, ow, fr, to⟩ := W
  have hA : AD n r kd ow fr to := hA
  have hg : GR n r kd ow fr to ga := hg
  have hn := hA.1.1
  refine it_goes (body := u3 (L_L_law_877 ga0 (nI k) ga y (nI a))) (fun i st => ∃ s b, s ≤ 2 ∧ b < 8 ∧ st = (nI s, nI b, nI i)) (fun w => ∃ s' b', s' ≤ 2 ∧ b' < 8 ∧ w = (nI s', nI b')) 9 ?_ ?_ FUEL (FUEL_gt (by omega)) _ ⟨s, b, hs, hb, rfl⟩
  · rintro i st hi ⟨s, b, hs, hb, rfl⟩
    show (∃ s', L_L_law_877 ga0 (nI k) ga y (nI a) (nI s) (nI b) (nI i) = some (.inl s') ∧ _) ∨ ∃ r, L_L_law_877 ga0 (nI k) ga y (nI a) (nI s) (nI b) (nI i) = some (.inr r) ∧ _
    have k1 : nI i + (1 : Int32) = nI (i + 1) := nI_ad i 1
    obtain ⟨j, hj, e1⟩ := some_L ((y >>> (nI k &&& 31)) >>> ((3 : Int32) &&& 31)) (m := 15) (by omega) (by omega)
    have e1 : f_L_some ((y >>> (nI k &&& 31)) >>> ((3 : Int32) &&& 31)) (15 : Int32) = some (nI j) := e1
    obtain ⟨b2, hb2, e2⟩ := some_L ((nI b + (1 : Int32)) + nI i) (m := n) h0 (by omega)
    by_cases c1 : nI j ≤ (0 : Int32)
    · right
      refine ⟨(nI s, nI b), ?_, s, b, hs, hb, rfl⟩
      unfold L_L_law_877
      rw [L9, ifleF hi (by omega), e1, ob1_s, if_pos c1]
    cases c2 : (actS n (r, ow, fr, to) (nI s) (nI a) (nI b)).isSome with
    | true =>
      right
      refine ⟨(nI s, nI b), ?_, s, b, hs, hb, rfl⟩
      unfold L_L_law_877
      rw [L9, ifleF hi (by omega), e1, ob1_s, if_neg c1, can_L hA h0 hg hs ha (by omega), c2, ob1_s, bT]
    | false =>
      left
      obtain ⟨b', hb', e3⟩ : ∃ b', b' < 8 ∧ (if nI s = (1 : Int32) then (if (6 : Int32) ≤ nI i then (some (nI b)) else (ob1 (f_L_some ((nI b + (1 : Int32)) + nI i) (ga0 0)) (fun r_942 => (some r_942)))) else (ob1 (f_L_some ((nI b + (1 : Int32)) + nI i) (ga0 0)) (fun r_942 => (some r_942)))) = some (nI b') := by
        rw [hg0, e2, ob1_s]
        by_cases c3 : nI s = (1 : Int32)
        · by_cases c4 : (6 : Int32) ≤ nI i
          · exact ⟨b, hb, by rw [if_pos c3, if_pos c4]⟩
          · exact ⟨b2, by omega, by rw [if_pos c3, if_neg c4]⟩
        · exact ⟨b2, by omega, by rw [if_neg c3]⟩
      by_cases c5 : nI i ≤ (6 : Int32)
      · refine ⟨(nI s, nI b', nI (i + 1)), ?_, s, b', hs, hb', rfl⟩
        unfold L_L_law_877
        rw [L9, ifleF hi (by omega), e1, ob1_s, if_neg c1, can_L hA h0 hg hs ha (by omega), c2, ob1_s, bF, e3, ob1_s, if_pos c5, k1]
      · refine ⟨((0 : Int32), nI b', nI (i + 1)), ?_, 0, b', by omega, hb', rfl⟩
        unfold L_L_law_877
        rw [L9, ifleF hi (by omega), e1, ob1_s, if_neg c1, can_L hA h0 hg hs ha (by omega), c2, ob1_s, bF, e3, ob1_s, if_neg c5, k1]
  · rintro st ⟨s, b, hs, hb, rfl⟩
    refine ⟨(nI s, nI b), ?_, s, b, hs, hb, rfl⟩
    show L_L_law_877 ga0 (nI k) ga y (nI a) (nI s) (nI b) (nI 9) = _
    unfold L_L_law_877
    rw [L9, ifleT (Nat.le_refl 9) (by omega)]
/-- an act that can be, done on the law's row -/
theorem doit_L {s a b : Nat} {W W' : WB} (hA : ADW n kd W) (hg : GRW n kd W ga) (hs : s ≤ 2) (ha : a < 100) (hb : b < 100) (h : actS n W (nI s) (nI a) (nI b) = some W') : ADW n kd W' ∧ ∃ G, GRW n kd W' G ∧ ∀ (v x : Int32) (S : SG), (ob1 (if nI s = 0 then (ob2 (f_L_refer ga (nI a) (nI b)) (fun r_1057 r_1057_ga => (some r_1057_ga))) else (some ga)) (fun ga_1061j => (ob1 (if nI s = (1 : Int32) then (if ((8 : Int32) + nI a) < 0 ∨ 38 ≤ ((8 : Int32) + nI a).toNatClampNeg then none else (some (upd ga_1061j ((8 : Int32) + nI a).toNatClampNeg (nI b)))) else (some ga_1061j)) (fun ga_1076j => (if nI s = (2 : Int32) then (ob2 (f_L_hand ga_1076j (nI a) (nI b)) (fun r_1087 r_1087_ga => (some (.inl (v, x, r_1087_ga, S))))) else (some (.inl (v, x, ga_1076j, S)))))))) = (some (.inl (v, x, G, S)) : Option ((Int32 × Int32 × (Nat → Int32) × SG) ⊕ (Int32 × (Nat → Int32) × SG))) := by
  obtain ⟨r, ow, fr, to⟩ := W
  have hA : AD n r kd ow fr to := hA
  have hg : GR n r kd ow fr to ga := hg
  have hn := hA.1.1
  have z00 : (nI 0 : Int32) = 0 := rfl
  have z01 : ¬ (nI 0 : Int32) = 1 := by decide
  have z02 : ¬ (nI 0 : Int32) = 2 := by decide
  have z10 : ¬ (nI 1 : Int32) = 0 := by decide
  have z11 : (nI 1 : Int32) = 1 := rfl
  have z12 : ¬ (nI 1 : Int32) = 2 := by decide
  have z20 : ¬ (nI 2 : Int32) = 0 := by decide
  have z21 : ¬ (nI 2 : Int32) = 1 := by decide
  have z22 : (nI 2 : Int32) = 2 := rfl
  have k8 : (8 : Int32) + nI a = nI (8 + a) := nI_ad 8 a
  have ex : ∀ {x y : Nat}, x < 100 → nI x = nI y → y < 100 → x = y := fun h1 h2 h3 => (nI_eq (by omega) (by omega)).mp h2
  have h3 : s = 0 ∨ s = 1 ∨ s = 2 := by omega
  rcases h3 with rfl | rfl | rfl
  · have h : (if vr n (nI a) (nI b) = true then (match rfS r fr to (nI a).toNatClampNeg (nI b).toNatClampNeg with
      | none => none
      | some (r', fr', to') => some (r', ow, fr', to')) else none) = some W' := by
      unfold actS at h
      dsimp only at h
      rw [if_pos z00] at h
      exact h
    by_cases hv : vr n (nI a) (nI b) = true
    case neg => rw [if_neg hv] at h; cases h
    rw [if_pos hv, cl_nI (by omega), cl_nI (by omega)] at h
    obtain ⟨a', b', ha', hb', hab, e1, e2⟩ := vr_ex hn hv
    have e1 := ex ha e1 (by omega)
    have e2 := ex hb e2 (by omega)
    subst e1 e2
    rcases refer_L hg hA.1 ha' hb' with ⟨q1, q2⟩ | ⟨r', fr', to', G, q1, q2, q3⟩
    · rw [q1] at h; cases h
    · rw [q1] at h
      cases h
      refine ⟨AD_refer hA ha' hb' q1, G, q3, fun v x S => ?_⟩
      rw [if_pos z00, q2, ob2_s, ob1_s, if_neg z01, ob1_s, if_neg z02]
  · have h : (if vo n (nI a) (nI b) = true then (if und ow (nI b).toNatClampNeg (nI a).toNatClampNeg = true then none else some (r, upN ow (nI a).toNatClampNeg (nI b).toNatClampNeg, fr, to)) else none) = some W' := by
      unfold actS at h
      dsimp only at h
      rw [if_neg z10, if_pos z11] at h
      exact h
    by_cases hv : vo n (nI a) (nI b) = true
    case neg => rw [if_neg hv] at h; cases h
    rw [if_pos hv, cl_nI (by omega), cl_nI (by omega)] at h
    obtain ⟨a', b', ha', hb', hab, e1, e2⟩ := vo_ex hn hv
    have e1 := ex ha e1 (by omega)
    have e2 := ex hb e2 (by omega)
    subst e1 e2
    by_cases hu : und ow b a = true
    · rw [if_pos hu] at h; cases h
    · rw [if_neg hu] at h
      cases h
      rw [Bool.not_eq_true] at hu
      refine ⟨AD_own hA ha' hb' hab hu, upd ga (8 + a) (nI b), GR_own hg ha' hn, fun v x S => ?_⟩
      rw [if_neg z10, ob1_s, if_pos z11, k8, cl_nI (by omega), ifgd0 (by omega) (by omega), ob1_s, if_neg z12]
  · have h : (if vh n (nI a) (nI b) = true then (match hdS r ow fr to (nI a).toNatClampNeg (nI b).toNatClampNeg with
      | none => none
      | some q => some (r, upN ow (nI a).toNatClampNeg (nI b).toNatClampNeg, upN fr q (nI b).toNatClampNeg, to)) else none) = some W' := by
      unfold actS at h
      dsimp only at h
      rw [if_neg z20, if_neg z21] at h
      exact h
    by_cases hv : vh n (nI a) (nI b) = true
    case neg => rw [if_neg hv] at h; cases h
    rw [if_pos hv, cl_nI (by omega), cl_nI (by omega)] at h
    obtain ⟨a', b', ha', hb', hab, e1, e2⟩ := vh_ex hn hv
    have e1 := ex ha e1 (by omega)
    have e2 := ex hb e2 (by omega)
    subst e1 e2
    rcases hand_L hA hg ha' hb' with ⟨q1, q2⟩ | ⟨q, G, q1, q2, q3⟩
    · rw [q1] at h; cases h
    · rw [q1] at h
      cases h
      refine ⟨AD_hand hA ha' hb' hab q1, G, q3, fun v x S => ?_⟩
      rw [if_neg z20, ob1_s, if_neg z21, ob1_s, if_pos z22, q2, ob2_s]
/-! the sheet of a day -/
def SQ (W0 : Nat × Nat × (Nat → Nat) × (Nat → Nat) × (Nat → Nat) × (Nat → Nat)) (sl sn : Nat → Int32) (S : SG) (c : Nat → Int32) : Prop := ∃ sc, S = (W0, sl, sn, sc) ∧ sc 1 = c
theorem SQ_put {S : SG} {c : Nat → Int32} {i : Nat} {v : Int32} (h1 : sl 1 = nI 1) (h2 : sn 1 = nI 55) (h : SQ W0 sl sn S c) (hi : i < 55) (hv : cutL 1 v = v) : ∃ S', F_put S (1 : Int32) (nI i) v = some (1, S') ∧ SQ W0 sl sn S' (upd c i v) := by
  obtain ⟨sc, rfl, rfl⟩ := h
  exact ⟨_, Fput_of (k := 1) (la := 1) (Ln := 55) (by omega) (by omega) (by omega) h1 h2 hi hv, _, rfl, up_at⟩
theorem cut_1 : ∀ k, k < 8 → cutL 1 (nI k) = nI k := by decide
def s012 (x : Int32) : Prop := x = 0 ∨ x = 1 ∨ x = 2
theorem s012_nI : ∀ {s : Nat}, s ≤ 2 → s012 (nI s) := fun {s} h => by
  have h3 : s = 0 ∨ s = 1 ∨ s = 2 := by omega
  rcases h3 with rfl | rfl | rfl
  · exact Or.inl rfl
  · exact Or.inr (Or.inl rfl)
  · exact Or.inr (Or.inr rfl)
def AI (n : Nat) (kd : Nat → Nat) (W0 : Nat × Nat × (Nat → Nat) × (Nat → Nat) × (Nat → Nat) × (Nat → Nat)) (W : WB) (sl sn : Nat → Int32) (k : Nat) (x10 : Int32) (ga : Nat → Int32) (S : SG) (c : Nat → Int32) : Prop := SQ W0 sl sn S c ∧ x10 = (goS n c 4 k 0 W).1 ∧ ADW n kd (goS n c 4 k 0 W).2 ∧ GRW n kd (goS n c 4 k 0 W).2 ga ∧ ∀ j, j < k → s012 (c (4 + 3 * j))
theorem eight_L {j : Nat} {g : Int32} (hn : n ≤ 6) (hg : g = nI n) (h0 : 0 < n) : ∃ m, 0 < m ∧ m ≤ 8 ∧ (if nI j = 0 then (some (8 : Int32)) else (some g)) = some (nI m) := by
  by_cases e : nI j = 0
  · exact ⟨8, by omega, by omega, by rw [if_pos e]; rfl⟩
  · exact ⟨n, h0, by omega, by rw [if_neg e, hg]⟩
theorem six_L {s a j : Nat} {x : Int32} (c : Prop) [Decidable c] (hx : f_L_some x (3 : Int32) = some (nI j)) (ha : a < 8) : ∃ b, b < 8 ∧ (if c then (ob1 (f_L_some x (3 : Int32)) (fun r_843 => (if r_843 = 0 then (some (6 : Int32)) else (some (nI a))))) else (some (nI a))) = some (nI b) := by
  by_cases e : c
  · rw [hx, ob1_s]
    by_cases e2 : nI j = 0
    · exact ⟨6, by omega, by rw [if_pos e, if_pos e2]; rfl⟩
    · exact ⟨a, ha, by rw [if_pos e, if_neg e2]⟩
  · exact ⟨a, ha, by rw [if_neg e]⟩
theorem act_L {k m tu : Nat} {x10 : Int32} {S : SG} {c : Nat → Int32} {W : WB} (hL : L ≤ 260) (hn : n ≤ 6) (h0 : 0 < n) (hg0 : ga0 0 = nI n) (h1 : sl 1 = nI 1) (h2 : sn 1 = nI 55) (hk : k < m) (hm : m ≤ 15) (htu : tu < 7) (h : AI n kd W0 W sl sn k x10 ga S c) : ∃ x' G S' c', L_L_law_746 L xs ga0 (nI tu) (nI m) x10 (nI k) ga S = some (.inl (x', nI (k + 1), G, S')) ∧ AI n kd W0 W sl sn (k + 1) x' G S' c' := by
  obtain ⟨hS, hx, hA, hg, hs⟩ := h
  have k1 : nI k + (1 : Int32) = nI (k + 1) := nI_ad k 1
  have k20 : (20 : Int32) + nI tu = nI (20 + tu) := nI_ad 20 tu
  have k4 : (4 : Int32) + ((3 : Int32) * nI k) = nI (4 + 3 * k) := by rw [show (3 : Int32) * nI k = nI (3 * k) from nI_ml 3 k]; exact nI_ad 4 (3 * k)
  have k5 : (5 : Int32) + ((3 : Int32) * nI k) = nI (5 + 3 * k) := by rw [show (3 : Int32) * nI k = nI (3 * k) from nI_ml 3 k]; exact nI_ad 5 (3 * k)
  have k6 : (6 : Int32) + ((3 : Int32) * nI k) = nI (6 + 3 * k) := by rw [show (3 : Int32) * nI k = nI (3 * k) from nI_ml 3 k]; exact nI_ad 6 (3 * k)
  obtain ⟨y, hy⟩ := cell_L (L := L) (xs := xs) (c := 20 + tu) hL (by omega)
  obtain ⟨s0, hs0, e1⟩ := some_L (y >>> (nI k &&& 31)) (m := 3) (by omega) (by omega)
  have e1 : f_L_some (y >>> (nI k &&& 31)) (3 : Int32) = some (nI s0) := e1
  obtain ⟨j6, hj6, e2⟩ := some_L ((y >>> (nI k &&& 31)) >>> ((6 : Int32) &&& 31)) (m := 40) (by omega) (by omega)
  have e2 : f_L_some ((y >>> (nI k &&& 31)) >>> ((6 : Int32) &&& 31)) (40 : Int32) = some (nI j6) := e2
  obtain ⟨m6, p6, q6, e3⟩ := eight_L (j := j6) hn hg0 h0
  obtain ⟨a0, ha0, e4⟩ := some_L ((y >>> (nI k &&& 31)) >>> ((2 : Int32) &&& 31)) (m := m6) p6 (by omega)
  obtain ⟨j7, hj7, e5⟩ := some_L ((y >>> (nI k &&& 31)) >>> ((7 : Int32) &&& 31)) (m := 40) (by omega) (by omega)
  have e5 : f_L_some ((y >>> (nI k &&& 31)) >>> ((7 : Int32) &&& 31)) (40 : Int32) = some (nI j7) := e5
  obtain ⟨m7, p7, q7, e6⟩ := eight_L (j := j7) hn hg0 h0
  obtain ⟨b0, hb0, e7⟩ := some_L ((y >>> (nI k &&& 31)) >>> ((4 : Int32) &&& 31)) (m := m7) p7 (by omega)
  obtain ⟨j5, hj5, e8⟩ := some_L ((y >>> (nI k &&& 31)) >>> ((5 : Int32) &&& 31)) (m := 3) (by omega) (by omega)
  have e8 : f_L_some ((y >>> (nI k &&& 31)) >>> ((5 : Int32) &&& 31)) (3 : Int32) = some (nI j5) := e8
  obtain ⟨a, ha, e9⟩ := six_L (s := 0) (a := a0) (nI s0 = 0) e8 (by omega)
  obtain ⟨b1, hb1, e10⟩ := six_L (s := 0) (a := b0) (nI s0 = (1 : Int32)) e8 (by omega)
  obtain ⟨w, e11, s, b, hss, hb, rfl⟩ := pick_L (k := k) (y := y) hA h0 hg hg0 (show s0 ≤ 2 by omega) (show a < 100 by omega) hb1
  obtain ⟨S1, r1, t1⟩ := SQ_put h1 h2 hS (i := 4 + 3 * k) (v := nI s) (by omega) (cut_1 s (by omega))
  obtain ⟨S2, r2, t2⟩ := SQ_put h1 h2 t1 (i := 5 + 3 * k) (v := nI a) (by omega) (cut_1 a (by omega))
  obtain ⟨S3, r3, t3⟩ := SQ_put h1 h2 t2 (i := 6 + 3 * k) (v := nI b) (by omega) (cut_1 b (by omega))
  have hcan : f_L_can ga (nI s) (nI a) (nI b) = some (b2i (actS n (goS n c 4 k 0 W).2 (nI s) (nI a) (nI b)).isSome) := can_L (ow := (goS n c 4 k 0 W).2.2.1) (fr := (goS n c 4 k 0 W).2.2.2.1) (to := (goS n c 4 k 0 W).2.2.2.2) (r := (goS n c 4 k 0 W).2.1) hA h0 hg hss (by omega) (by omega)
  generalize hc' : upd (upd (upd c (4 + 3 * k) (nI s)) (5 + 3 * k) (nI a)) (6 + 3 * k) (nI b) = c' at t3
  have c4 : c' (4 + 3 * (0 + k)) = nI s := by rw [← hc', show 0 + k = k by omega, pk_un (by omega), pk_un (by omega), pk_us]
  have c5 : c' (4 + 3 * (0 + k) + 1) = nI a := by rw [← hc', show 4 + 3 * (0 + k) + 1 = 5 + 3 * k by omega, pk_un (by omega), pk_us]
  have c6 : c' (4 + 3 * (0 + k) + 2) = nI b := by rw [← hc', show 4 + 3 * (0 + k) + 2 = 6 + 3 * k by omega, pk_us]
  have cold : ∀ i, i < 4 + 3 * k → c' i = c i := fun i hi => by rw [← hc', pk_un (by omega), pk_un (by omega), pk_un (by omega)]
  have hgo : goS n c 4 k 0 W = goS n c' 4 k 0 W := goS_congr k 0 W (fun j _ hj => ⟨(cold _ (by omega)).symm, (cold _ (by omega)).symm, (cold _ (by omega)).symm⟩)
  have hs' : ∀ j, j < k + 1 → s012 (c' (4 + 3 * j)) := fun j hj => by
    by_cases e : j = k
    · subst e
      rw [show 4 + 3 * j = 4 + 3 * (0 + j) by omega, c4]
      exact s012_nI hss
    · rw [cold _ (by omega)]
      exact hs j (by omega)
  have pre : ∀ v, (if 0 ≤ x10 then (some x10) else (ob1 (f_L_can ga (nI s) (nI a) (nI b)) (fun r_1029 => (if r_1029 = 0 then (some (nI k)) else (some x10))))) = some v → L_L_law_746 L xs ga0 (nI tu) (nI m) x10 (nI k) ga S = (if v < 0 then (ob1 (if nI s = 0 then (ob2 (f_L_refer ga (nI a) (nI b)) (fun r_1057 r_1057_ga => (some r_1057_ga))) else (some ga)) (fun ga_1061j => (ob1 (if nI s = (1 : Int32) then (if ((8 : Int32) + nI a) < 0 ∨ 38 ≤ ((8 : Int32) + nI a).toNatClampNeg then none else (some (upd ga_1061j ((8 : Int32) + nI a).toNatClampNeg (nI b)))) else (some ga_1061j)) (fun ga_1076j => (if nI s = (2 : Int32) then (ob2 (f_L_hand ga_1076j (nI a) (nI b)) (fun r_1087 r_1087_ga => (some (.inl (v, nI (k + 1), r_1087_ga, S3))))) else (some (.inl (v, nI (k + 1), ga_1076j, S3)))))))) else (some (.inl (v, nI (k + 1), ga, S3)))) := fun v hv => by
    unfold L_L_law_746
    rw [ifleF hk (by omega), k20, hy, ob1_s, e1, ob1_s, e2, ob1_s, e3, ob1_s, e4, ob1_s, e5, ob1_s, e6, ob1_s, e7, ob1_s, e9, ob1_s, e10, ob1_s, e11, ob2_s, k4, r1, ob2_s, if_pos rfl, k5, r2, ob2_s, if_pos rfl, k6, r3, ob2_s, if_pos rfl, hv, ob1_s, k1]
  rw [hgo] at hx hA hg hcan
  rcases goS_res (n := n) (c := c') (a := 4) k 0 W with hr | ⟨j, -, hj, hr⟩
  · rw [hr] at hx
    subst hx
    cases hac : actS n (goS n c' 4 k 0 W).2 (nI s) (nI a) (nI b) with
    | none =>
      have hnx := goS_bad (n := n) (c := c') (a := 4) k 0 W (by omega) hr (by rw [c4, c5, c6]; exact hac)
      rw [show 0 + k = k by omega] at hnx
      rw [hac] at hcan
      refine ⟨nI k, ga, S3, c', ?_, t3, by rw [hnx], by rw [hnx]; exact hA, by rw [hnx]; exact hg, hs'⟩
      rw [pre (nI k) (by rw [if_neg n9nle, hcan, ob1_s]; exact if_pos rfl), if_neg (nI_pos (by omega))]
    | some W' =>
      have hnx := goS_ok (n := n) (c := c') (a := 4) k 0 W (by omega) hr W' (by rw [c4, c5, c6]; exact hac)
      rw [hac] at hcan
      obtain ⟨hA', G, hG, hdo⟩ := doit_L hA hg hss (by omega) (by omega) hac
      refine ⟨-(nI 9), G, S3, c', ?_, t3, by rw [hnx], by rw [hnx]; exact hA', by rw [hnx]; exact hG, hs'⟩
      rw [pre (-(nI 9)) (by rw [if_neg n9nle, hcan, ob1_s]; exact if_neg (show ¬ b2i true = (0 : Int32) by decide)), if_pos n9lt, hdo]
  · rw [hr] at hx
    subst hx
    have hnx := goS_old (n := n) (c := c') (a := 4) k 0 W j (by omega) (by omega) hr
    refine ⟨nI j, ga, S3, c', ?_, t3, by rw [hnx, hr], by rw [hnx]; exact hA, by rw [hnx]; exact hg, hs'⟩
    rw [pre (nI j) (if_pos (le0 (by omega))), if_neg (nI_pos (by omega))]
theorem acts_L {m tu : Nat} {S : SG} {c : Nat → Int32} {W : WB} (hL : L ≤ 260) (hn : n ≤ 6) (h0 : 0 < n) (hg0 : ga0 0 = nI n) (h1 : sl 1 = nI 1) (h2 : sn 1 = nI 55) (hm : m ≤ 15) (htu : tu < 7) (hA : ADW n kd W) (hg : GRW n kd W ga) (hS : SQ W0 sl sn S c) : ∃ x G S' c', it (u4 (L_L_law_746 L xs ga0 (nI tu) (nI m))) FUEL ((-9 : Int32), (0 : Int32), ga, S) = some (x, G, S') ∧ AI n kd W0 W sl sn m x G S' c' := by
  have key : ∃ w : Int32 × (Nat → Int32) × SG, it (u4 (L_L_law_746 L xs ga0 (nI tu) (nI m))) FUEL ((-9 : Int32), (0 : Int32), ga, S) = some w ∧ ∃ c', AI n kd W0 W sl sn m w.1 w.2.1 w.2.2 c' := by
    refine it_forI (body := u4 (L_L_law_746 L xs ga0 (nI tu) (nI m))) (fun k s => s.2.1 = nI k ∧ ∃ c', AI n kd W0 W sl sn k s.1 s.2.2.1 s.2.2.2 c') (fun w => ∃ c', AI n kd W0 W sl sn m w.1 w.2.1 w.2.2 c') m ?_ ?_ ((-9 : Int32), (0 : Int32), ga, S) ⟨rfl, c, hS, rfl, hA, hg, fun j hj => by omega⟩ FUEL (FUEL_gt (by omega))
    · rintro k hk ⟨x10, x11, G, T⟩ ⟨e1, c', e2⟩
      simp only at e1 e2
      subst e1
      obtain ⟨x', G', S', c2, q1, q2⟩ := act_L (xs := xs) hL hn h0 hg0 h1 h2 hk hm htu e2
      exact ⟨_, q1, rfl, c2, q2⟩
    · rintro ⟨x10, x11, G, T⟩ ⟨e1, c', e2⟩
      simp only at e1 e2
      subst e1
      refine ⟨(x10, G, T), ?_, c', e2⟩
      show L_L_law_746 L xs ga0 (nI tu) (nI m) x10 (nI m) G T = _
      unfold L_L_law_746
      rw [ifleT (Nat.le_refl m) (by omega)]
  obtain ⟨⟨x, G, S'⟩, e1, c', e2⟩ := key
  exact ⟨x, G, S', c', e1, e2⟩
theorem most_L {r : Nat} {ow fr to : Nat → Nat} (hA : AD n r kd ow fr to) (hg : GR n r kd ow fr to ga) (hg0 : ga0 0 = nI n) : it (u2 (L_L_law_1103 ga0 ga)) FUEL ((0 : Int32), (0 : Int32)) = some (nI (glF n kd ow n)) := by
  have hn := hA.1.1
  have hc := hA.2.2.2
  refine it_for (body := u2 (L_L_law_1103 ga0 ga)) (fun i => (nI (glF n kd ow i), nI i)) n _ (fun i hi => ?_) ?_ FUEL (FUEL_gt (by omega))
  · show L_L_law_1103 ga0 ga (nI (glF n kd ow i)) (nI i) = some (.inl (nI (glF n kd ow (i + 1)), nI (i + 1)))
    have k1 : nI i + (1 : Int32) = nI (i + 1) := nI_ad i 1
    have hl := lock_le (kd := kd) hn hc hi
    have hgl := glF_le (kd := kd) hn hc i (by omega)
    unfold L_L_law_1103
    rw [glF, hg0, ifleF hi (by omega), lock_L hg hn hc hA.kd2 hi, ob1_s, ob1_s, k1]
    by_cases e : glF n kd ow i < lock n kd ow i
    · rw [if_pos e, ifleF e (by omega)]
    · rw [if_neg e, ifleT (by omega) (by omega)]
  · show L_L_law_1103 ga0 ga (nI (glF n kd ow n)) (nI n) = _
    unfold L_L_law_1103
    rw [hg0, ifleT (Nat.le_refl n) (by omega)]
/-! what a day answers -/
theorem b20_d : ∀ m, m < 21 → btw (nI m) 0 20 = true := by decide
theorem bwh_d : ∀ e, e < 16 → (e ≤ 4 ∨ 10 ≤ e) → (btw (nI e) 0 4 || btw (nI e) 10 15) = true := by decide
theorem btw012 {x : Int32} (h : s012 x) : btw x 0 2 = true := by
  rcases h with rfl | rfl | rfl <;> decide
theorem Fday_ok {r m e : Nat} {ow fr to : Nat → Nat} {sc : Nat → Nat → Int32} (h0 : 0 < n) (hm : m ≤ 15) (he : e < 16) (he2 : e ≤ 4 ∨ 10 ≤ e) (h1 : sl 1 = nI 1) (h2 : sn 1 = nI 55) (hs : ∀ j, j < m → s012 (sc 1 (4 + 3 * j))) : F_day (((n, r, kd, ow, fr, to), sl, sn, sc) : SG) (nI 1) (nI 1) (nI 4) (nI m) (nI e) = some (if e = 1 then (goS n (sc 1) 4 m 0 (r, ow, fr, to)).1 else if (goS n (sc 1) 4 m 0 (r, ow, fr, to)).1 = -(nI 9) then afterS n kd (goS n (sc 1) 4 m 0 (r, ow, fr, to)).2 e else -100 - (goS n (sc 1) 4 m 0 (r, ow, fr, to)).1) := by
  have hrf : f_X1_rowFault (sl 1) (sn 1) (nI 1) (nI 4) (3 * nI m) = some 0 := by
    rw [h1, h2, show (3 : Int32) * nI m = nI (3 * m) from nI_ml 3 m]
    exact rowFault_ok (la := 1) (L := 55) (a := 4) (b := 3 * m) (by omega) (by omega)
  unfold F_day
  dsimp only
  rw [if_pos (show btw (nI 1) 0 3 = true by decide), if_pos ⟨by decide, b20_d m (by omega), bwh_d e he he2⟩, cl_nI (show 1 < 2147483648 by omega), cl_nI (show 4 < 2147483648 by omega), cl_nI (show m < 2147483648 by omega), cl_nI (show e < 2147483648 by omega), hrf]
  dsimp only
  rw [if_pos rfl, if_neg (show ¬ n = 0 by omega), h2, cl_nI (show 55 < 2147483648 by omega), if_pos ⟨rfl, by omega, rfl, rfl, by omega, rfl, by omega⟩]
  have hno : ¬ fiF (fun j => !btw (sc 1 (4 + 3 * j)) 0 2) m 0 < m := fun q => by
    have h3 := fiF_at (fun j => !btw (sc 1 (4 + 3 * j)) 0 2) m 0 (by omega)
    simp only [btw012 (hs _ q)] at h3
    cases h3
  rw [if_neg hno, show (-9 : Int32) = -(nI 9) from rfl]
  by_cases e1 : e = 1
  · subst e1
    rw [if_pos (show nI 1 = (1 : Int32) from rfl), if_pos rfl]
  · rw [if_neg (show ¬ nI e = (1 : Int32) from fun q => e1 ((nI_eq (a := e) (b := 1) (by omega) (by omega)).mp q)), if_neg e1]
    by_cases e2 : (goS n (sc 1) 4 m 0 (r, ow, fr, to)).1 = -(nI 9)
    · rw [if_pos e2, if_pos e2]
    · rw [if_neg e2, if_neg e2]
end LDAY
