/-! A DAY, in the abstract state -/
abbrev WB : Type := Nat × (Nat → Nat) × (Nat → Nat) × (Nat → Nat)
def actS (n : Nat) (W : WB) (s x y : Int32) : Option WB := match W with
  | (r, ow, fr, to) => if s = 0 then (if vr n x y = true then (match rfS r fr to x.toNatClampNeg y.toNatClampNeg with
      | none => none
      | some (r', fr', to') => some (r', ow, fr', to')) else none)
    else if s = 1 then (if vo n x y = true then (if und ow y.toNatClampNeg x.toNatClampNeg = true then none else some (r, upN ow x.toNatClampNeg y.toNatClampNeg, fr, to)) else none)
    else (if vh n x y = true then (match hdS r ow fr to x.toNatClampNeg y.toNatClampNeg with
      | none => none
      | some q => some (r, upN ow x.toNatClampNeg y.toNatClampNeg, upN fr q y.toNatClampNeg, to)) else none)
def goS (n : Nat) (c : Nat → Int32) (a : Nat) : Nat → Nat → WB → Int32 × WB
  | 0, _, W => (-(nI 9), W)
  | k + 1, i, W => match actS n W (c (a + 3 * i)) (c (a + 3 * i + 1)) (c (a + 3 * i + 2)) with
    | none => (nI i, W)
    | some W' => goS n c a k (i + 1) W'
def afterS (n : Nat) (kd : Nat → Nat) (W : WB) (e : Nat) : Int32 := match W with
  | (r, ow, fr, to) => if e = 0 then nI r else if e = 2 then nI (notL n r ow fr to) else if e = 3 then nI (rch r fr to) else if e = 4 then nI (glF n kd ow n) else if e - 10 < n then nI (ow (e - 10)) else -9
def ADW (n : Nat) (kd : Nat → Nat) (W : WB) : Prop := AD n W.1 kd W.2.1 W.2.2.1 W.2.2.2
def RIW (n : Nat) (W : WB) (R : Int32) (A F G : Nat → Int32) : Prop := R = nI W.1 ∧ RI n W.2.1 A ∧ RI W.1 W.2.2.1 F ∧ RI W.1 W.2.2.2 G
section DAYS
variable {n r : Nat} {kd ow fr to : Nat → Nat} {c1 r1 R1 : Int32} {k1 a1 f1 g1 : Nat → Int32} {sl sn : Nat → Int32} {sc : Nat → Nat → Int32}
theorem act_c {W : WB} (h : ADW n kd W) (hi : RIW n W R1 a1 f1 g1) (s x y : Int32) (hs : s = 0 ∨ s = 1 ∨ s = 2) : (actS n W s x y = none ∧ f_X4_isActDone (nI n) R1 a1 f1 g1 s x y = some (b2i false, R1, a1, f1, g1)) ∨ ∃ W' R' A' F' G', actS n W s x y = some W' ∧ f_X4_isActDone (nI n) R1 a1 f1 g1 s x y = some (b2i true, R', A', F', G') ∧ ADW n kd W' ∧ RIW n W' R' A' F' G' := by
  obtain ⟨r, ow, fr, to⟩ := W
  have h : AD n r kd ow fr to := h
  obtain ⟨rfl, ha1, hf1, hg1⟩ : R1 = nI r ∧ RI n ow a1 ∧ RI r fr f1 ∧ RI r to g1 := hi
  have hn := h.1.1
  have hr := h.1.2.1
  have hbd := h.1.bd
  have p01 : ¬ (1 : Int32) = 0 := by decide
  have p02 : ¬ (2 : Int32) = 0 := by decide
  have p12 : ¬ (2 : Int32) = 1 := by decide
  unfold f_X4_isActDone actS
  rcases hs with rfl | rfl | rfl
  · simp only [if_true]
    by_cases hv : vr n x y = true
    · rw [if_pos hv]
      obtain ⟨a, b, ha, hb, hab, rfl, rfl⟩ := vr_ex hn hv
      rw [cl_nI (by omega), cl_nI (by omega)]
      rcases makeOrCut_c h.1 hf1 hg1 ha hb hab with ⟨e1, e2⟩ | ⟨r', fr', to', F, G, e1, e2, e3, e4⟩
      · exact Or.inl ⟨by rw [e1], by rw [e2, ob4_s, if_pos neg4lt]; rfl⟩
      · have hA := AD_refer h ha hb e1
        exact Or.inr ⟨(r', ow, fr', to'), nI r', a1, F, G, by rw [e1], by rw [e2, ob4_s, L0, ifltF (by omega) (by have := hA.1.2.1; omega)]; rfl, hA, rfl, ha1, e3, e4⟩
    · rw [if_neg hv]
      rw [Bool.not_eq_true] at hv
      exact Or.inl ⟨rfl, by rw [makeOrCut_bad hn hv, ob4_s, if_pos neg1lt]; rfl⟩
  · simp only [if_neg p01, if_true]
    by_cases hv : vo n x y = true
    · rw [if_pos hv]
      obtain ⟨t, o, ht, ho, hot, rfl, rfl⟩ := vo_ex hn hv
      rw [cl_nI (by omega), cl_nI (by omega), changeOwner_c h ha1 ht ho hot]
      by_cases hu : und ow o t = true
      · exact Or.inl ⟨by rw [if_pos hu], by rw [if_pos hu, ob2_s, if_pos neg3lt]; rfl⟩
      · rw [Bool.not_eq_true] at hu
        exact Or.inr ⟨(r, upN ow t o, fr, to), nI r, upd a1 t (nI o), f1, g1, by rw [hu]; rfl, by rw [hu, if_neg (by decide), ob2_s, L0, ifltF (by omega) (by have := h.ow6 t ht; omega)]; rfl, AD_own h ht ho hot hu, rfl, RI_up ha1, hf1, hg1⟩
    · rw [if_neg hv]
      rw [Bool.not_eq_true] at hv
      exact Or.inl ⟨rfl, by rw [changeOwner_bad hn hv, ob2_s, if_pos neg1lt]; rfl⟩
  · simp only [if_neg p02, if_neg p12, if_true]
    by_cases hv : vh n x y = true
    · rw [if_pos hv]
      obtain ⟨t, x, ht, hx, htx, rfl, rfl⟩ := vh_ex hn hv
      rw [cl_nI (by omega), cl_nI (by omega), handOn_c h ha1 hf1 hg1 ht hx htx]
      cases hq : hdS r ow fr to t x with
      | none => exact Or.inl ⟨rfl, by rw [ob3_s, if_pos neg3lt]; rfl⟩
      | some q =>
        have hq1 := (hdS_lt hq).1
        have hbq := hbd q hq1
        exact Or.inr ⟨(r, upN ow t x, upN fr q x, to), nI r, upd a1 t (nI x), upd f1 q (nI x), g1, rfl, by rw [ob3_s, L0, ifltF (by omega) (by omega)]; rfl, AD_hand h ht hx htx hq, rfl, RI_up ha1, RI_up hf1, hg1⟩
    · rw [if_neg hv]
      rw [Bool.not_eq_true] at hv
      exact Or.inl ⟨rfl, by rw [handOn_bad hv, ob3_s, if_pos neg1lt]; rfl⟩
theorem goDay_c {W : WB} {K a b L : Nat} (h : ADW n kd W) (hi : RIW n W R1 a1 f1 g1) (hL : L ≤ 60) (hab : a + 3 * b ≤ L) (s1 : sn K = nI L) (hso : ∀ j, j < b → sc K (a + 3 * j) = 0 ∨ sc K (a + 3 * j) = 1 ∨ sc K (a + 3 * j) = 2) : ∃ R' A' F' G', f_X4_firstWrong (sn K) (sc K) (nI n) R1 a1 f1 g1 (nI a) (nI b) = some ((goS n (sc K) a b 0 W).1, R', A', F', G') ∧ ADW n kd (goS n (sc K) a b 0 W).2 ∧ RIW n (goS n (sc K) a b 0 W).2 R' A' F' G' := by
  have key : ∀ k i fuel W R1 a1 f1 g1, i + k = b → k < fuel → ADW n kd W → RIW n W R1 a1 f1 g1 → ∃ res R' A' F' G', it (u5 (L_X4_firstWrong_3 (sn K) (sc K) (nI n) (nI a) (nI b))) fuel (nI i, R1, a1, f1, g1) = some res ∧ (((goS n (sc K) a k i W).1 = -(nI 9) ∧ res = .inl (R', A', F', G')) ∨ res = .inr ((goS n (sc K) a k i W).1, R', A', F', G')) ∧ ADW n kd (goS n (sc K) a k i W).2 ∧ RIW n (goS n (sc K) a k i W).2 R' A' F' G' := by
    intro k
    induction k with
    | zero =>
      intro i fuel W R1 a1 f1 g1 hib hf h hi
      obtain ⟨fu, rfl⟩ : ∃ f', fuel = f' + 1 := ⟨fuel - 1, by omega⟩
      refine ⟨.inl (R1, a1, f1, g1), R1, a1, f1, g1, ?_, Or.inl ⟨rfl, rfl⟩, h, hi⟩
      rw [it, show u5 (L_X4_firstWrong_3 (sn K) (sc K) (nI n) (nI a) (nI b)) (nI i, R1, a1, f1, g1) = some (.inr (.inl (R1, a1, f1, g1))) from ?_]
      show L_X4_firstWrong_3 (sn K) (sc K) (nI n) (nI a) (nI b) (nI i) R1 a1 f1 g1 = _
      unfold L_X4_firstWrong_3
      rw [ifleT (by omega) (by omega)]
    | succ k ih =>
      intro i fuel W R1 a1 f1 g1 hib hf h hi
      obtain ⟨fu, rfl⟩ : ∃ f', fuel = f' + 1 := ⟨fuel - 1, by omega⟩
      have hib' : i < b := by omega
      rcases act_c h hi (sc K (a + 3 * i)) (sc K (a + 3 * i + 1)) (sc K (a + 3 * i + 2)) (hso i hib') with ⟨e1, e2⟩ | ⟨W', R', A', F', G', e1, e2, e3, e4⟩
      · refine ⟨.inr (nI i, R1, a1, f1, g1), R1, a1, f1, g1, ?_, ?_, ?_, ?_⟩
        · rw [it, show u5 (L_X4_firstWrong_3 (sn K) (sc K) (nI n) (nI a) (nI b)) (nI i, R1, a1, f1, g1) = some (.inr (.inr (nI i, R1, a1, f1, g1))) from ?_]
          show L_X4_firstWrong_3 (sn K) (sc K) (nI n) (nI a) (nI b) (nI i) R1 a1 f1 g1 = _
          unfold L_X4_firstWrong_3
          rw [ifleF hib' (by omega), L3, nI_ml, nI_ad, L1, L2, nI_ad, nI_ad, s1, valueAt_c hL (by omega), ob1_s, valueAt_c hL (by omega), ob1_s, valueAt_c hL (by omega), ob1_s, e2, ob5_s]
          rfl
        · rw [goS, e1]; exact Or.inr rfl
        · rw [goS, e1]; exact h
        · rw [goS, e1]; exact hi
      · obtain ⟨res, R2, A2, F2, G2, q1, q2, q3, q4⟩ := ih (i + 1) fu W' R' A' F' G' (by omega) (by omega) e3 e4
        refine ⟨res, R2, A2, F2, G2, ?_, ?_, ?_, ?_⟩
        · rw [it, show u5 (L_X4_firstWrong_3 (sn K) (sc K) (nI n) (nI a) (nI b)) (nI i, R1, a1, f1, g1) = some (.inl (nI (i + 1), R', A', F', G')) from ?_]
          · exact q1
          show L_X4_firstWrong_3 (sn K) (sc K) (nI n) (nI a) (nI b) (nI i) R1 a1 f1 g1 = _
          unfold L_X4_firstWrong_3
          rw [ifleF hib' (by omega), L3, nI_ml, nI_ad, L1, L2, nI_ad, nI_ad, s1, valueAt_c hL (by omega), ob1_s, valueAt_c hL (by omega), ob1_s, valueAt_c hL (by omega), ob1_s, e2, ob5_s, nI_ad]
          rfl
        · rw [goS, e1]; exact q2
        · rw [goS, e1]; exact q3
        · rw [goS, e1]; exact q4
  obtain ⟨res, R', A', F', G', q1, q2, q3, q4⟩ := key b 0 FUEL W R1 a1 f1 g1 (by omega) (FUEL_gt (by omega)) h hi
  refine ⟨R', A', F', G', ?_, q3, q4⟩
  unfold f_X4_firstWrong
  rw [L0, q1]
  rcases q2 with ⟨e1, rfl⟩ | rfl
  · rw [os4_l, e1]; rfl
  · rw [os4_r]
theorem afterDay_c {W : WB} {e : Nat} (h : ADW n kd W) (hk1 : RI n kd k1) (hi : RIW n W R1 a1 f1 g1) (he : e = 0 ∨ e = 2 ∨ e = 3 ∨ e = 4 ∨ (10 ≤ e ∧ e ≤ 15)) : f_X4_afterDay (nI n) R1 k1 a1 f1 g1 (nI e) = some (afterS n kd W e) := by
  obtain ⟨r, ow, fr, to⟩ := W
  have h : AD n r kd ow fr to := h
  obtain ⟨rfl, ha1, hf1, hg1⟩ : R1 = nI r ∧ RI n ow a1 ∧ RI r fr f1 ∧ RI r to g1 := hi
  have hn := h.1.1
  have hr := h.1.2.1
  have hb := h.1.bd
  unfold f_X4_afterDay afterS
  rcases he with rfl | rfl | rfl | rfl | he
  · rw [L0, ifeqT rfl]; rfl
  · rw [L0, ifeqF (by omega) (by omega) (by omega), L1, ifeqF (by omega) (by omega) (by omega), L2, ifeqT rfl, notLawful_c h.1 ha1 hf1 hg1 h.ow2, ob1_s]; rfl
  · rw [L0, ifeqF (by omega) (by omega) (by omega), L1, ifeqF (by omega) (by omega) (by omega), L2, ifeqF (by omega) (by omega) (by omega), L3, ifeqT rfl, reached_c hr hf1 hg1 hb, ob1_s]; rfl
  · rw [L0, ifeqF (by omega) (by omega) (by omega), L1, ifeqF (by omega) (by omega) (by omega), L2, ifeqF (by omega) (by omega) (by omega), L3, ifeqF (by omega) (by omega) (by omega), L4, ifeqT rfl, greatestLock_c hn hk1 ha1 h.2.2.2 h.kd2, ob1_s]; rfl
  · rw [L0, ifeqF (by omega) (by omega) (by omega), L1, ifeqF (by omega) (by omega) (by omega), L2, ifeqF (by omega) (by omega) (by omega), L3, ifeqF (by omega) (by omega) (by omega), L4, ifeqF (by omega) (by omega) (by omega), L10, nI_sb (by omega), isThing_c, ob1_s]
    dsimp only
    rw [if_neg (show ¬ e = 0 by omega), if_neg (show ¬ e = 2 by omega), if_neg (show ¬ e = 3 by omega), if_neg (show ¬ e = 4 by omega)]
    by_cases q : e - 10 < n
    · rw [isT_nI hn q, ← L0, bT, if_pos q, ownerOf_c hn ha1 q, ob1_s]
    · rw [isT_no (by omega) (by omega), ← L0, bF, if_neg q]
def F_day (S : SG) (x y z w u : Int32) : Option Int32 := match S with
  | ((n, r, kd, ow, fr, to), sl, sn, sc) => if btw x 0 3 = true then (if btw y 0 2 = true ∧ btw w 0 20 = true ∧ (btw u 0 4 || btw u 10 15) = true then (match f_X1_rowFault (sl x.toNatClampNeg) (sn x.toNatClampNeg) y z (3 * w) with
    | none => none
    | some f => if f = 0 then (if n = 0 then some (-3) else if sn x.toNatClampNeg = nI (sn x.toNatClampNeg).toNatClampNeg ∧ (sn x.toNatClampNeg).toNatClampNeg ≤ 60 ∧ z = nI z.toNatClampNeg ∧ w = nI w.toNatClampNeg ∧ z.toNatClampNeg + 3 * w.toNatClampNeg ≤ (sn x.toNatClampNeg).toNatClampNeg ∧ u = nI u.toNatClampNeg ∧ u.toNatClampNeg ≤ 15 then (if fiF (fun j => !btw (sc x.toNatClampNeg (z.toNatClampNeg + 3 * j)) 0 2) w.toNatClampNeg 0 < w.toNatClampNeg then some (-2) else if u = 1 then some (goS n (sc x.toNatClampNeg) z.toNatClampNeg w.toNatClampNeg 0 (r, ow, fr, to)).1 else if (goS n (sc x.toNatClampNeg) z.toNatClampNeg w.toNatClampNeg 0 (r, ow, fr, to)).1 = -9 then some (afterS n kd (goS n (sc x.toNatClampNeg) z.toNatClampNeg w.toNatClampNeg 0 (r, ow, fr, to)).2 u.toNatClampNeg) else some (-100 - (goS n (sc x.toNatClampNeg) z.toNatClampNeg w.toNatClampNeg 0 (r, ow, fr, to)).1)) else none) else some (-10 - f)) else some (-2)) else some (-1)
theorem pJ_day {S : SG} {n_count : Int32} {n_references : Int32} {t_count : Int32} {t_references : Int32} {n_kind : Nat → Int32} {n_owner : Nat → Int32} {n_from : Nat → Int32} {n_to : Nat → Int32} {t_kind : Nat → Int32} {t_owner : Nat → Int32} {t_from : Nat → Int32} {t_to : Nat → Int32} {sl : Nat → Int32} {sn : Nat → Int32} {sc : Nat → Nat → Int32} {x1 x2 x3 x4 x5 : Int32} {r : Int32} (hJ : gJ S n_count n_references n_kind n_owner n_from n_to sl sn sc) (h : F_day S x1 x2 x3 x4 x5 = some r) : ∃ (z_o_lastFault : Int32) (z_t_count : Int32) (z_t_references : Int32) (z_t_kind : Nat → Int32) (z_t_owner : Nat → Int32) (z_t_from : Nat → Int32) (z_t_to : Nat → Int32), f_X4_day n_count n_references n_kind n_owner n_from n_to t_count t_references t_kind t_owner t_from t_to sl sn sc x1 x2 x3 x4 x5 = some (r, z_o_lastFault, z_t_count, z_t_references, z_t_kind, z_t_owner, z_t_from, z_t_to) ∧ gJ S n_count n_references n_kind n_owner n_from n_to sl sn sc := by
  have hJ' := hJ
  obtain ⟨⟨n, nr, kd, ow, fr, to⟩, sl', sn', sc'⟩ := S
  obtain ⟨hA, hw, rfl, rfl, rfl⟩ := hJ
  have hA : AD n nr kd ow fr to := hA
  have hw : WR n nr kd ow fr to n_count n_references n_kind n_owner n_from n_to := hw
  have hn := hA.1.1
  have hr := hA.1.2.1
  suffices hh : ∃ f TC TR TK TA TF TG, f_X4_day n_count n_references n_kind n_owner n_from n_to t_count t_references t_kind t_owner t_from t_to sl' sn' sc' x1 x2 x3 x4 x5 = some (r, f, TC, TR, TK, TA, TF, TG) by
    obtain ⟨f, TC, TR, TK, TA, TF, TG, e⟩ := hh
    exact ⟨f, TC, TR, TK, TA, TF, TG, e, hJ'⟩
  clear hJ'
  unfold F_day at h
  unfold f_X4_day
  dsimp only at h
  rw [isSheet_c, ob1_s]
  by_cases q1 : btw x1 0 3 = true
  case neg =>
    rw [if_neg q1] at h
    rw [Bool.not_eq_true] at q1
    cases h
    rw [q1, bF]
    exact ⟨_, _, _, _, _, _, _, rfl⟩
  rw [if_pos q1] at h
  rw [q1, bT, isLane_c, ob1_s]
  by_cases q2 : btw x2 0 2 = true
  case neg =>
    rw [if_neg (fun q => q2 q.1)] at h
    rw [Bool.not_eq_true] at q2
    cases h
    rw [q2, bF]
    exact ⟨_, _, _, _, _, _, _, rfl⟩
  rw [q2, bT, btw_c, ob1_s]
  by_cases q3 : btw x4 0 20 = true
  case neg =>
    rw [if_neg (fun q => q3 q.2.1)] at h
    rw [Bool.not_eq_true] at q3
    cases h
    rw [q3, bF]
    exact ⟨_, _, _, _, _, _, _, rfl⟩
  rw [q3, bT, asked_c, ob1_s]
  by_cases q4 : (btw x5 0 4 || btw x5 10 15) = true
  case neg =>
    rw [if_neg (fun q => q4 q.2.2)] at h
    rw [Bool.not_eq_true] at q4
    cases h
    rw [q4, bF]
    exact ⟨_, _, _, _, _, _, _, rfl⟩
  rw [if_pos ⟨q2, q3, q4⟩] at h
  obtain ⟨k, hk, rfl⟩ := btw_k q1
  rw [q4, bT, cl_nI (by omega), ifgd0 (by omega) (by omega)]
  rw [cl_nI (by omega)] at h
  cases hf : f_X1_rowFault (sl' k) (sn' k) x2 x3 (3 * x4) with
  | none => rw [hf] at h; cases h
  | some f =>
    rw [hf] at h
    rw [ob1_s]
    dsimp only at h
    by_cases q5 : f = 0
    case neg =>
      rw [if_neg q5] at h
      obtain rfl := Option.some.inj h
      rw [if_neg q5]
      exact ⟨_, _, _, _, _, _, _, rfl⟩
    rw [if_pos q5] at h
    rw [if_pos q5, size_c, ob1_s, hw.1]
    by_cases q6 : n = 0
    · rw [if_pos q6] at h
      cases h
      rw [q6, if_pos (show nI 0 = (0 : Int32) from rfl)]
      exact ⟨_, _, _, _, _, _, _, rfl⟩
    rw [if_neg q6] at h
    rw [L0, ifeqF q6 (by omega) (by omega)]
    rw [show nI 0 = (0 : Int32) from rfl]
    split at h
    case isFalse => cases h
    case isTrue q7 =>
    obtain ⟨z1, z2, z3, z4, z5, z6, z7⟩ := q7
    generalize (sn' k).toNatClampNeg = L at z1 z2 z5 h
    generalize x3.toNatClampNeg = a at z3 z5 h
    generalize x4.toNatClampNeg = b at z4 z5 h
    generalize x5.toNatClampNeg = e at z6 z7 h
    subst z3 z4 z6
    have t1 : it (u1 (L_X4_areSortsKnown_2 (sn' k) (sc' k) (nI a) (nI b))) FUEL (0 : Int32) = some (if fiF (fun j => !btw (sc' k (a + 3 * j)) 0 2) b 0 < b then .inr (nI 0) else .inl ()) := by
      refine it_search (body := u1 (L_X4_areSortsKnown_2 (sn' k) (sc' k) (nI a) (nI b))) (fun i => nI i) (fun j => !btw (sc' k (a + 3 * j)) 0 2) (fun _ => nI 0) () b (fun i hi hq => ?_) (fun i hi hq => ?_) ?_ FUEL (FUEL_gt (by omega))
      · show L_X4_areSortsKnown_2 (sn' k) (sc' k) (nI a) (nI b) (nI i) = some (.inl (nI (i + 1)))
        unfold L_X4_areSortsKnown_2
        have : btw (sc' k (a + 3 * i)) 0 2 = true := by simpa using hq
        rw [ifleF hi (by omega), L3, nI_ml, nI_ad, z1, valueAt_c z2 (by omega), ob1_s, btw_c, this, ob1_s, bT, L1, nI_ad]
      · show L_X4_areSortsKnown_2 (sn' k) (sc' k) (nI a) (nI b) (nI i) = _
        unfold L_X4_areSortsKnown_2
        have : btw (sc' k (a + 3 * i)) 0 2 = false := by simpa using hq
        rw [ifleF hi (by omega), L3, nI_ml, nI_ad, z1, valueAt_c z2 (by omega), ob1_s, btw_c, this, ob1_s, bF]; rfl
      · show L_X4_areSortsKnown_2 (sn' k) (sc' k) (nI a) (nI b) (nI b) = _
        unfold L_X4_areSortsKnown_2
        rw [ifleT (by omega) (by omega)]
    unfold f_X4_areSortsKnown
    rw [t1]
    by_cases q8 : fiF (fun j => !btw (sc' k (a + 3 * j)) 0 2) b 0 < b
    · rw [if_pos q8] at h
      cases h
      rw [if_pos q8]
      exact ⟨_, _, _, _, _, _, _, rfl⟩
    rw [if_neg q8] at h
    rw [if_neg q8, os0_l, ob1_s, if_neg (show ¬ (1 : Int32) = 0 by decide)]
    have hso : ∀ j, j < b → sc' k (a + 3 * j) = 0 ∨ sc' k (a + 3 * j) = 1 ∨ sc' k (a + 3 * j) = 2 := by
      intro j hj
      have h1 := fiF_no (fun j => !btw (sc' k (a + 3 * j)) 0 2) b 0 j (by omega) (by omega)
      have h2 : btw (sc' k (a + 3 * j)) 0 2 = true := by simpa using h1
      exact btw_012 h2
    obtain ⟨K, A, F, G, hbe, hK, hA', hF, hG⟩ := become_c hn hr hw t_kind t_owner t_from t_to
    rw [← hw.1, hbe, ob6_s]
    obtain ⟨R', A2, F2, G2, go1, go2, go3⟩ := goDay_c (sn := sn') (sc := sc') (K := k) (W := (nr, ow, fr, to)) hA ⟨rfl, hA', hF, hG⟩ z2 z5 z1 hso
    rw [go1, ob5_s]
    by_cases e1 : nI e = 1
    · rw [if_pos e1] at h
      rw [if_pos e1]
      cases h
      exact ⟨_, _, _, _, _, _, _, rfl⟩
    · rw [if_neg e1] at h
      rw [if_neg e1]
      by_cases e2 : (goS n (sc' k) a b 0 (nr, ow, fr, to)).1 = -9
      · rw [if_pos e2] at h
        rw [if_pos e2, afterDay_c go2 hK go3 ?_, ob1_s]
        · cases h
          exact ⟨_, _, _, _, _, _, _, rfl⟩
        · have he1 : e ≠ 1 := fun q => e1 (by rw [q]; rfl)
          rw [Bool.or_eq_true] at q4
          rcases q4 with q4 | q4
          · obtain ⟨j, hj, hj2⟩ := btw_c0 (c := 4) (by omega) q4
            have := (nI_eq (by omega) (by omega)).mp hj2
            omega
          · obtain ⟨j, hj, hj1, hj2⟩ := btw_1015 q4
            have := (nI_eq (by omega) (by omega)).mp hj2
            omega
      · rw [if_neg e2] at h
        rw [if_neg e2]
        obtain rfl := Option.some.inj h
        exact ⟨_, _, _, _, _, _, _, rfl⟩
end DAYS
