/-! THE LAW'S end: refusals, all cut, all owned by the world, all made anew -/
section TAIL
variable {n r : Nat} {kd ow fr to : Nat → Nat} {ga ga0 : Nat → Int32} {sh : SH} {sl sn : Nat → Int32} {sc : Nat → Nat → Int32}
theorem sp11 {t : Nat} : spOf n r kd ow fr to t 11 = -2 := by
  unfold spOf
  rw [if_neg (by decide), if_neg (by decide), if_neg (by decide), if_neg (by decide), if_neg (by decide), if_neg (by decide), if_neg (by decide), if_neg (by decide), if_neg (by decide), if_neg (by decide), if_neg (by decide)]
theorem Fof_bad {x w : Int32} (h : isT n x = false) : F_ofThing (((n, r, kd, ow, fr, to), sh) : SG) x w = some (-1) := by
  show some (if isT n x = true then spOf n r kd ow fr to x.toNatClampNeg w else -1) = _
  rw [h, if_neg (by decide)]
theorem Fre_bad {x y : Int32} (h : isW n x = false ∨ isT n y = false) : F_refers (((n, r, kd, ow, fr, to), sh) : SG) x y = some (-1) := by
  show some (spRe n r fr to x y) = _
  unfold spRe
  rw [if_neg]
  rintro ⟨h1, h2⟩
  rcases h with h | h
  · rw [h] at h1; cases h1
  · rw [h] at h2; cases h2
theorem Fpl_bad {x y : Int32} (h : isW n x = false ∨ isT n y = false) : F_place (((n, r, kd, ow, fr, to), sh) : SG) x y = some (-1) := by
  show some (spPl n r fr to x y) = _
  unfold spPl
  rw [if_neg]
  rintro ⟨h1, h2⟩
  rcases h with h | h
  · rw [h] at h1; cases h1
  · rw [h] at h2; cases h2
theorem Fpl_00 (hn : n ≤ 6) (h0 : 0 < n) (hr : r ≤ 12) (hd : DS r fr to) : F_place (((n, r, kd, ow, fr, to), sh) : SG) (nI 0) (nI 0) = some (-9) := by
  show some (spPl n r fr to (nI 0) (nI 0)) = _
  unfold spPl
  rw [if_pos ⟨isW_nI hn h0 (Or.inl h0), isT_nI hn h0⟩, cl_nI (by omega), (fndI_neg (fr := fr) (to := to) (a := 0) (b := 0) hr).2 ?_]
  · rfl
  · intro q
    obtain ⟨p, hp, e1, e2⟩ := fnd_lt.mp q
    exact (hd p hp).1 (by rw [e1, e2])
theorem isW_m1 (hn : n ≤ 6) : isW n (-1) = false := by
  rw [← Bool.not_eq_true]
  intro q
  obtain ⟨a, h1, h2⟩ := isW_ex hn q
  exact nI_neg_ne (a := a) (k := 1) (by omega) (by omega) (by omega) h2.symm
theorem isW_7 (hn : n ≤ 6) (h0 : 0 < n) : isW n (nI 7) = false := by
  rw [isW_lt hn h0 (by omega)]
  exact decide_eq_false (by omega)
theorem vr_w {x y : Int32} (h : isW n x = false) : vr n x y = false := by unfold vr; rw [h]; rfl
theorem vo_t {x y : Int32} (h : isT n x = false) : vo n x y = false := by unfold vo; rw [h]; rfl
theorem vo_w {x y : Int32} (h : isW n y = false) : vo n x y = false := by
  unfold vo
  rw [h]
  cases isT n x <;> rfl
theorem vh_t {x y : Int32} (h : isT n x = false) : vh n x y = false := by unfold vh; rw [h]; rfl
theorem vh_y {x y : Int32} (h : isT n y = false) : vh n x y = false := by
  unfold vh
  rw [h]
  cases isT n x <;> rfl
theorem Fd_1 {x y z w u : Int32} (h : btw x 0 3 = false) : F_day (((n, r, kd, ow, fr, to), sl, sn, sc) : SG) x y z w u = some (-1) := by
  unfold F_day
  dsimp only
  rw [h, if_neg (by decide)]
theorem Fd_2 {x y z w u : Int32} (h : btw x 0 3 = true) (h2 : btw y 0 2 = false ∨ btw w 0 20 = false ∨ (btw u 0 4 || btw u 10 15) = false) : F_day (((n, r, kd, ow, fr, to), sl, sn, sc) : SG) x y z w u = some (-2) := by
  unfold F_day
  dsimp only
  have hno : ¬ (btw y 0 2 = true ∧ btw w 0 20 = true ∧ (btw u 0 4 || btw u 10 15) = true) := by
    rintro ⟨q1, q2, q3⟩
    rcases h2 with h2 | h2 | h2
    · rw [h2] at q1; cases q1
    · rw [h2] at q2; cases q2
    · rw [h2] at q3; cases q3
  rw [if_pos h, if_neg hno]
theorem Fd_f {k : Nat} {y z w u f : Int32} (hk : k < 4) (h2 : btw y 0 2 = true ∧ btw w 0 20 = true ∧ (btw u 0 4 || btw u 10 15) = true) (hf : f_X1_rowFault (sl k) (sn k) y z (3 * w) = some f) (h0 : ¬ f = 0) : F_day (((n, r, kd, ow, fr, to), sl, sn, sc) : SG) (nI k) y z w u = some (-10 - f) := by
  have b1 : ∀ k, k < 4 → btw (nI k) 0 3 = true := by decide
  unfold F_day
  dsimp only
  rw [if_pos (b1 k hk), if_pos h2, cl_nI (by omega), hf]
  dsimp only
  rw [if_neg h0]
theorem Fd_s (h0 : 0 < n) (h1 : sl 1 = nI 1) (h2 : sn 1 = nI 55) (hs : btw (sc 1 4) 0 2 = false) : F_day (((n, r, kd, ow, fr, to), sl, sn, sc) : SG) (nI 1) (nI 1) (nI 4) (nI 1) (nI 1) = some (-2) := by
  have hrf : f_X1_rowFault (sl 1) (sn 1) (nI 1) (nI 4) (3 * nI 1) = some 0 := by
    rw [h1, h2, show (3 : Int32) * nI 1 = nI (3 * 1) from nI_ml 3 1]
    exact rowFault_ok (la := 1) (L := 55) (a := 4) (b := 3 * 1) (by omega) (by omega)
  have b1 : btw (nI 1) 0 2 = true ∧ btw (nI 1) 0 20 = true ∧ (btw (nI 1) 0 4 || btw (nI 1) 10 15) = true := by decide
  unfold F_day
  dsimp only
  rw [if_pos (show btw (nI 1) 0 3 = true by decide), if_pos b1, cl_nI (show 1 < 2147483648 by omega), cl_nI (show 4 < 2147483648 by omega), hrf]
  dsimp only
  rw [if_pos rfl, if_neg (show ¬ n = 0 by omega), h2, cl_nI (show 55 < 2147483648 by omega), if_pos ⟨rfl, by omega, rfl, rfl, by omega, rfl, by omega⟩]
  have hyes : fiF (fun j => !btw (sc 1 (4 + 3 * j)) 0 2) 1 0 < 1 := by
    rw [fiF]
    rw [if_pos (show (!btw (sc 1 (4 + 3 * 0)) 0 2) = true by rw [show 4 + 3 * 0 = 4 from rfl, hs]; rfl)]
    omega
  rw [if_pos hyes]
/-! the last reference first: all cut -/
theorem fnd_last {k : Nat} {f g : Nat → Nat} (hd : DS (k + 1) fr to) (he : ∀ q, q < k + 1 → f q = fr q ∧ g q = to q) : fnd (k + 1) f g (fr k) (to k) = k := by
  have h1 : fnd (k + 1) f g (fr k) (to k) < k + 1 := fnd_lt.mpr ⟨k, by omega, he k (by omega)⟩
  have h2 := fiF_at (isR f g (fr k) (to k)) (k + 1) 0 (by unfold fnd at h1; omega)
  have h3 : f (fnd (k + 1) f g (fr k) (to k)) = fr k ∧ g (fnd (k + 1) f g (fr k) (to k)) = to k := by simpa [isR, fnd] using h2
  generalize fnd (k + 1) f g (fr k) (to k) = j at h1 h3 ⊢
  by_cases e : j = k
  · exact e
  · obtain ⟨e1, e2⟩ := he j h1
    rw [e1, e2] at h3
    exact absurd h3 ((hd k (by omega)).2 j (by omega))
theorem uncut_L (hA : AD n r kd ow fr to) (hg : GR n r kd ow fr to ga) (hd : DS r fr to) : ∃ S', it (u2 (L_L_law_1789 ga)) FUEL ((ga 1) - (1 : Int32), (((n, r, kd, ow, fr, to), sh) : SG)) = some S' ∧ ∃ f g, S' = (((n, 0, kd, ow, f, g), sh) : SG) := by
  have hn := hA.1.1
  have hr := hA.1.2.1
  refine it_forI (body := u2 (L_L_law_1789 ga)) (fun i s => ∃ f g, s = (nI (r - i) - (1 : Int32), (((n, r - i, kd, ow, f, g), sh) : SG)) ∧ ∀ q, q < r - i → f q = fr q ∧ g q = to q) (fun S' => ∃ f g, S' = (((n, 0, kd, ow, f, g), sh) : SG)) r ?_ ?_ _ ⟨fr, to, by rw [hg.2.1]; rfl, fun q _ => ⟨rfl, rfl⟩⟩ FUEL (FUEL_gt (by omega))
  · rintro i hi s ⟨f, g, rfl, he⟩
    show ∃ s', L_L_law_1789 ga (nI (r - i) - (1 : Int32)) (((n, r - i, kd, ow, f, g), sh) : SG) = some (.inl s') ∧ _
    obtain ⟨k, hk⟩ : ∃ k, r - i = k + 1 := ⟨r - i - 1, by omega⟩
    rw [show r - (i + 1) = k by omega]
    rw [hk] at he ⊢
    have hkr : k < r := by omega
    have gf := hg.2.2.2.2.1 k hkr
    have gt := hg.2.2.2.2.2 k hkr
    obtain ⟨w1, w2⟩ := hA.1.2.2 k hkr
    have hfl := fnd_last (f := f) (g := g) (fun q hq => hd q (by omega)) he
    have hx : nI (k + 1) - (1 : Int32) = nI k := by rw [L1, nI_sb (by omega)]; rfl
    have k14 : (14 : Int32) + nI k = nI (14 + k) := nI_ad 14 k
    have k26 : (26 : Int32) + nI k = nI (26 + k) := nI_ad 26 k
    refine ⟨(nI k - (1 : Int32), (((n, k, kd, ow, cutA k f, cutA k g), sh) : SG)), ?_, cutA k f, cutA k g, rfl, fun q hq => ?_⟩
    · unfold L_L_law_1789
      rw [hx, if_neg (nI_pos (by omega)), k14, cl_nI (by omega), ifgd0 (by omega) (by omega), k26, cl_nI (by omega), ifgd0 (by omega) (by omega), gf, gt, Fr_ok hn w1 w2 (hd k hkr).1]
      have hs : rfS (k + 1) f g (fr k) (to k) = some (k, cutA k f, cutA k g) := by
        unfold rfS
        rw [hfl, if_pos (by omega)]
        rfl
      rw [hs]
      show (ob2 (some (nI k, (((n, k, kd, ow, cutA k f, cutA k g), sh) : SG))) _) = _
      rw [ob2_s, if_pos rfl, Int32.sub_eq_add_neg]
    · unfold cutA
      rw [if_pos hq, if_pos hq]
      exact he q (by omega)
  · rintro s ⟨f, g, rfl, he⟩
    refine ⟨(((n, r - r, kd, ow, f, g), sh) : SG), ?_, f, g, by rw [Nat.sub_self]⟩
    show L_L_law_1789 ga (nI (r - r) - (1 : Int32)) (((n, r - r, kd, ow, f, g), sh) : SG) = _
    unfold L_L_law_1789
    rw [Nat.sub_self, if_pos (show nI 0 - (1 : Int32) < 0 by decide)]
/-! no reference: nobody is reached -/
theorem led0 {s o : Nat} : led 0 fr to s o = led 0 id id s o := rfl
theorem led0_d : ∀ o, o < 8 → ∀ t, t < 6 → (led 0 id id 6 o).testBit t = false := by decide +kernel
theorem rch0_d : clr (led 0 id id 6 7) 6 = 0 := by decide +kernel
theorem rch0 : rch 0 fr to = 0 := by
  unfold rch rcB
  rw [led0]
  exact rch0_d
theorem nlF_0 : ∀ m, (∀ t, t < m → law1 r ow fr to t = true) → nlF r ow fr to m = 0
  | 0, _ => rfl
  | m + 1, h => by
    rw [nlF, h m (by omega), if_pos rfl]
    exact nlF_0 m (fun t ht => h t (by omega))
theorem notL0 (hn : n ≤ 6) (h6 : ∀ t, t < n → ow t ≤ 6) : notL n 0 ow fr to = 0 := by
  refine nlF_0 n (fun t ht => ?_)
  have := h6 t ht
  unfold law1
  rw [led0, led0_d _ (by omega) t (by omega)]
  rfl
/-! all owned by the world -/
def ow6 (ow : Nat → Nat) (i : Nat) : Nat → Nat := fun u => if u < i then 6 else ow u
theorem ow6_0 : ow6 ow 0 = ow := by
  funext u
  exact if_neg (by omega)
theorem ow6_s {i : Nat} : upN (ow6 ow i) i 6 = ow6 ow (i + 1) := by
  funext u
  unfold upN ow6
  by_cases e : u = i
  · subst e; rw [if_pos rfl, if_pos (by omega)]
  · rw [if_neg e]
    by_cases e2 : u < i
    · rw [if_pos e2, if_pos (by omega)]
    · rw [if_neg e2, if_neg (by omega)]
theorem ow6_n {t : Nat} (h : ∀ t, n ≤ t → ow t = 6) : ow6 ow n t = 6 := by
  unfold ow6
  by_cases e : t < n
  · rw [if_pos e]
  · rw [if_neg e]; exact h t (by omega)
theorem world_L {f g : Nat → Nat} (hA : AD n 0 kd ow f g) (hg : GR n r kd ow fr to ga) (hg0 : ga0 0 = nI n) : it (u2 (L_L_law_1865 ga0 ga)) FUEL ((0 : Int32), (((n, 0, kd, ow, f, g), sh) : SG)) = some (((n, 0, kd, ow6 ow n, f, g), sh) : SG) ∧ AD n 0 kd (ow6 ow n) f g := by
  have hn := hA.1.1
  have key : ∀ i, i ≤ n → AD n 0 kd (ow6 ow i) f g := by
    intro i
    induction i with
    | zero => intro _; rw [ow6_0]; exact hA
    | succ i ih =>
      intro hi
      have h := ih (by omega)
      rw [← ow6_s]
      exact AD_own h (by omega) (Or.inr rfl) (by omega) (und6 h (by omega))
  refine ⟨?_, key n (Nat.le_refl n)⟩
  rw [show ((0 : Int32), (((n, 0, kd, ow, f, g), sh) : SG)) = (nI 0, (((n, 0, kd, ow6 ow 0, f, g), sh) : SG)) by rw [ow6_0]; rfl]
  refine it_for (body := u2 (L_L_law_1865 ga0 ga)) (fun i => (nI i, (((n, 0, kd, ow6 ow i, f, g), sh) : SG))) n _ (fun i hi => ?_) ?_ FUEL (FUEL_gt (by omega))
  · show L_L_law_1865 ga0 ga (nI i) (((n, 0, kd, ow6 ow i, f, g), sh) : SG) = some (.inl (nI (i + 1), (((n, 0, kd, ow6 ow (i + 1), f, g), sh) : SG)))
    have h := key i (by omega)
    have k1 : nI i + (1 : Int32) = nI (i + 1) := nI_ad i 1
    have k8 : (8 : Int32) + nI i = nI (8 + i) := nI_ad 8 i
    have go := hg.2.2.2.1 i hi
    have ho : ow6 ow i i = ow i := if_neg (by omega)
    have hl : lev n (ow6 ow (i + 1)) i = 1 := Ch_lev hn (d := 1) ⟨hi, show ow6 ow (i + 1) i = 6 from if_pos (by omega)⟩
    have hF : F_own (((n, 0, kd, ow6 ow i, f, g), sh) : SG) (nI i) (6 : Int32) = some (nI (ow i), (((n, 0, kd, ow6 ow (i + 1), f, g), sh) : SG)) := by
      rw [show (6 : Int32) = nI 6 from rfl, Fo_ok hn hi (Or.inr rfl) (by omega), und6 h hi, if_neg (by decide), ho, ow6_s]
    unfold L_L_law_1865
    rw [hg0, ifleF hi (by omega), hF, ob2_s, k8, cl_nI (by omega), ifgd0 (by omega) (by omega), go, if_pos rfl, Fof hn hi, ob1_s, sp2, hl, if_pos (show nI 1 = (1 : Int32) from rfl), k1]
  · show L_L_law_1865 ga0 ga (nI n) (((n, 0, kd, ow6 ow n, f, g), sh) : SG) = _
    unfold L_L_law_1865
    rw [hg0, ifleT (Nat.le_refl n) (by omega)]
/-! a reference of the world to each -/
theorem rfS_new {a b : Nat} {f g : Nat → Nat} (h : ¬ fnd r f g a b < r) (hr : r < 12) : rfS r f g a b = some (r + 1, upN f r a, upN g r b) := by
  unfold rfS
  rw [if_neg h, if_neg (by omega)]
theorem rfS_full {a b : Nat} {f g : Nat → Nat} (h : ¬ fnd 12 f g a b < 12) : rfS 12 f g a b = none := by
  unfold rfS
  rw [if_neg h, if_pos rfl]
theorem each_L {o f g : Nat → Nat} (hA : AD n 0 kd o f g) (hg0 : ga0 0 = nI n) : ∃ f' g', it (u3 (L_L_law_1915 ga0)) FUEL ((0 : Int32), (0 : Int32), (((n, 0, kd, o, f, g), sh) : SG)) = some (nI n, (((n, n, kd, o, f', g'), sh) : SG)) ∧ AD n n kd o f' g' ∧ ∀ q, q < n → f' q = 6 ∧ g' q = q := by
  have hn := hA.1.1
  have key : ∃ w : Int32 × SG, it (u3 (L_L_law_1915 ga0)) FUEL ((0 : Int32), (0 : Int32), (((n, 0, kd, o, f, g), sh) : SG)) = some w ∧ ∃ f' g', w = (nI n, (((n, n, kd, o, f', g'), sh) : SG)) ∧ AD n n kd o f' g' ∧ ∀ q, q < n → f' q = 6 ∧ g' q = q := by
    refine it_forI (body := u3 (L_L_law_1915 ga0)) (fun i s => ∃ f' g', s = (nI i, nI i, (((n, i, kd, o, f', g'), sh) : SG)) ∧ AD n i kd o f' g' ∧ ∀ q, q < i → f' q = 6 ∧ g' q = q) (fun w => ∃ f' g', w = (nI n, (((n, n, kd, o, f', g'), sh) : SG)) ∧ AD n n kd o f' g' ∧ ∀ q, q < n → f' q = 6 ∧ g' q = q) n ?_ ?_ _ ⟨f, g, rfl, hA, fun q hq => by omega⟩ FUEL (FUEL_gt (by omega))
    · rintro i hi s ⟨f', g', rfl, h, he⟩
      show ∃ s', L_L_law_1915 ga0 (nI i) (nI i) (((n, i, kd, o, f', g'), sh) : SG) = some (.inl s') ∧ _
      have hno : ¬ fnd i f' g' 6 i < i := fun q => by
        obtain ⟨p, hp, e1, e2⟩ := fnd_lt.mp q
        have := (he p hp).2
        omega
      have hs := rfS_new (r := i) hno (by omega)
      have k1 : nI i + (1 : Int32) = nI (i + 1) := nI_ad i 1
      refine ⟨(nI (i + 1), nI (i + 1), (((n, i + 1, kd, o, upN f' i 6, upN g' i i), sh) : SG)), ?_, upN f' i 6, upN g' i i, rfl, AD_refer h (Or.inr rfl) hi hs, fun q hq => ?_⟩
      · unfold L_L_law_1915
        rw [hg0, ifleF hi (by omega), show (6 : Int32) = nI 6 from rfl, Fr_ok hn (Or.inr rfl) hi (by omega), hs, k1]
        show (ob2 (some (nI (i + 1), (((n, i + 1, kd, o, upN f' i 6, upN g' i i), sh) : SG))) _) = _
        rw [ob2_s, if_pos rfl]
      · unfold upN
        by_cases e : q = i
        · rw [if_pos e, if_pos e]; exact ⟨rfl, e.symm⟩
        · rw [if_neg e, if_neg e]; exact he q (by omega)
    · rintro s ⟨f', g', rfl, h, he⟩
      refine ⟨_, ?_, f', g', rfl, h, he⟩
      show L_L_law_1915 ga0 (nI n) (nI n) (((n, n, kd, o, f', g'), sh) : SG) = _
      unfold L_L_law_1915
      rw [hg0, ifleT (Nat.le_refl n) (by omega)]
  obtain ⟨w, e, f', g', rfl, h1, h2⟩ := key
  exact ⟨f', g', e, h1, h2⟩
/-! of each to each, as far as there is room -/
theorem mod_d : ∀ n, n < 7 → ∀ t, t < n → ∀ k, k < n → ∀ j, j < k → (t + j) % n ≠ (t + k) % n := by decide +kernel
theorem mod_ne : ∀ n, n < 7 → ∀ t, t < n → ∀ k, k < n → 1 ≤ k → (t + k) % n ≠ t := by decide +kernel
def FI (n k t all : Nat) (f g : Nat → Nat) : Prop := n ≤ all ∧ (∀ q, q < n → f q = 6 ∧ g q = q) ∧ ∀ q, n ≤ q → q < all → ∃ j u, 1 ≤ j ∧ j < n ∧ u < n ∧ f q = u ∧ g q = (u + j) % n ∧ (j < k ∨ (j = k ∧ u < t))
theorem FI_no {k t all : Nat} {f g : Nat → Nat} (hn : n ≤ 6) (h : FI n k t all f g) (hk : k < n) (ht : t < n) : ¬ fnd all f g t ((t + k) % n) < all := fun z => by
  obtain ⟨q, hq, e1, e2⟩ := fnd_lt.mp z
  obtain ⟨h1, h2, h3⟩ := h
  by_cases c : q < n
  · have := (h2 q c).1
    omega
  · obtain ⟨j, u, j1, j2, j3, j4, j5, j6⟩ := h3 q (by omega) hq
    have hu : u = t := by omega
    subst hu
    rcases j6 with j6 | j6
    · exact mod_d n (by omega) u ht k hk j j6 (by rw [← j5, e2])
    · omega
theorem FI_up {k t all : Nat} {f g : Nat → Nat} (h : FI n k t all f g) (hk : k < n) (h1 : 1 ≤ k) (ht : t < n) : FI n k (t + 1) (all + 1) (upN f all t) (upN g all ((t + k) % n)) := by
  obtain ⟨a1, a2, a3⟩ := h
  refine ⟨by omega, fun q hq => ?_, fun q hq hq2 => ?_⟩
  · unfold upN
    rw [if_neg (by omega), if_neg (by omega)]
    exact a2 q hq
  · unfold upN
    by_cases e : q = all
    · rw [if_pos e, if_pos e]
      exact ⟨k, t, h1, hk, ht, rfl, rfl, Or.inr ⟨rfl, by omega⟩⟩
    · rw [if_neg e, if_neg e]
      obtain ⟨j, u, j1, j2, j3, j4, j5, j6⟩ := a3 q hq (by omega)
      exact ⟨j, u, j1, j2, j3, j4, j5, by omega⟩
theorem FI_on {k t t' all : Nat} {f g : Nat → Nat} (h : FI n k t all f g) (ht : t ≤ t') : FI n k t' all f g := ⟨h.1, h.2.1, fun q hq hq2 => by
  obtain ⟨j, u, j1, j2, j3, j4, j5, j6⟩ := h.2.2 q hq hq2
  exact ⟨j, u, j1, j2, j3, j4, j5, by omega⟩⟩
theorem FI_nx {k t all : Nat} {f g : Nat → Nat} (h : FI n k t all f g) : FI n (k + 1) 0 all f g := ⟨h.1, h.2.1, fun q hq hq2 => by
  obtain ⟨j, u, j1, j2, j3, j4, j5, j6⟩ := h.2.2 q hq hq2
  exact ⟨j, u, j1, j2, j3, j4, j5, by omega⟩⟩
def FS (n : Nat) (kd o : Nat → Nat) (sh : SH) (k t : Nat) (x : Int32) (S : SG) : Prop := ∃ all f g, x = nI all ∧ S = (((n, all, kd, o, f, g), sh) : SG) ∧ AD n all kd o f g ∧ FI n k t all f g
theorem row_L {o : Nat → Nat} {k : Nat} {x : Int32} {S : SG} (hn : n ≤ 6) (hg0 : ga0 0 = nI n) (hk : k < n) (h1 : 1 ≤ k) (h : FS n kd o sh k 0 x S) : ∃ w : Int32 × SG, it (u3 (L_L_law_1959 ga0 (nI k))) FUEL (x, (0 : Int32), S) = some w ∧ FS n kd o sh (k + 1) 0 w.1 w.2 := by
  refine it_forI (body := u3 (L_L_law_1959 ga0 (nI k))) (fun t s => s.2.1 = nI t ∧ FS n kd o sh k t s.1 s.2.2) (fun w => FS n kd o sh (k + 1) 0 w.1 w.2) n ?_ ?_ (x, (0 : Int32), S) ⟨rfl, h⟩ FUEL (FUEL_gt (by omega))
  · rintro t ht ⟨x6, x8, T⟩ ⟨e1, all, f, g, e2, e3, hA, hF⟩
    simp only at e1 e2 e3
    subst e1 e2 e3
    show ∃ s', L_L_law_1959 ga0 (nI k) (nI all) (nI t) (((n, all, kd, o, f, g), sh) : SG) = some (.inl s') ∧ _
    have hall := hA.1.2.1
    have hm : (t + k) % n < n := Nat.mod_lt _ (by omega)
    have hne := mod_ne n (by omega) t ht k hk h1
    have hno := FI_no hn hF hk ht
    have k1 : nI t + (1 : Int32) = nI (t + 1) := nI_ad t 1
    have ka : nI all + (1 : Int32) = nI (all + 1) := nI_ad all 1
    have hmod : (nI t + nI k) - (nI t + nI k) / nI n * nI n = nI ((t + k) % n) := by
      rw [nI_ad]
      exact pk_rem (by omega) (by omega) (by omega)
    have hz : ¬ nI n = 0 := fun q => by
      have := (nI_eq (a := n) (b := 0) (by omega) (by omega)).mp q
      omega
    by_cases c : all = 12
    · subst c
      refine ⟨(nI 12, nI (t + 1), (((n, 12, kd, o, f, g), sh) : SG)), ?_, rfl, 12, f, g, rfl, rfl, hA, FI_on hF (by omega)⟩
      unfold L_L_law_1959
      rw [hg0, ifleF ht (by omega), if_neg hz, hmod, Fr_ok hn (Or.inl ht) hm (Ne.symm hne), rfS_full hno]
      show (ob2 (some (-(nI 4), (((n, 12, kd, o, f, g), sh) : SG))) _) = _
      rw [ob2_s, if_pos (show (12 : Int32) ≤ nI 12 by decide), ob2_s, if_pos (show -(nI 4) = (-4 : Int32) from rfl), k1]
    · have hs := rfS_new (r := all) hno (by omega)
      refine ⟨(nI (all + 1), nI (t + 1), (((n, all + 1, kd, o, upN f all t, upN g all ((t + k) % n)), sh) : SG)), ?_, rfl, all + 1, _, _, rfl, rfl, AD_refer hA (Or.inl ht) hm hs, FI_up hF hk h1 ht⟩
      unfold L_L_law_1959
      rw [hg0, ifleF ht (by omega), if_neg hz, hmod, Fr_ok hn (Or.inl ht) hm (Ne.symm hne), hs]
      show (ob2 (some (nI (all + 1), (((n, all + 1, kd, o, upN f all t, upN g all ((t + k) % n)), sh) : SG))) _) = _
      rw [ob2_s, show (12 : Int32) = nI 12 from rfl, ifleF (by omega) (by omega), ob2_s, ka, if_pos rfl, k1]
  · rintro ⟨x6, x8, T⟩ ⟨e1, all, f, g, e2, e3, hA, hF⟩
    simp only at e1 e2 e3
    subst e1 e2 e3
    refine ⟨(nI all, (((n, all, kd, o, f, g), sh) : SG)), ?_, all, f, g, rfl, rfl, hA, FI_nx hF⟩
    show L_L_law_1959 ga0 (nI k) (nI all) (nI n) (((n, all, kd, o, f, g), sh) : SG) = _
    unfold L_L_law_1959
    rw [hg0, ifleT (Nat.le_refl n) (by omega)]
theorem rows_L {o : Nat → Nat} {x : Int32} {S : SG} (hn : n ≤ 6) (h0 : 0 < n) (hg0 : ga0 0 = nI n) (h : FS n kd o sh 1 0 x S) : ∃ w : Int32 × SG, it (u3 (L_L_law_1949 ga0)) FUEL (x, (1 : Int32), S) = some w ∧ FS n kd o sh n 0 w.1 w.2 := by
  refine it_forI (body := u3 (L_L_law_1949 ga0)) (fun i s => s.2.1 = nI (1 + i) ∧ FS n kd o sh (1 + i) 0 s.1 s.2.2) (fun w => FS n kd o sh n 0 w.1 w.2) (n - 1) ?_ ?_ (x, (1 : Int32), S) ⟨rfl, h⟩ FUEL (FUEL_gt (by omega))
  · rintro i hi ⟨x6, x7, T⟩ ⟨e1, hF⟩
    simp only at e1 hF
    subst e1
    show ∃ s', L_L_law_1949 ga0 x6 (nI (1 + i)) T = some (.inl s') ∧ _
    obtain ⟨⟨y, T'⟩, q1, q2⟩ := row_L hn hg0 (show 1 + i < n by omega) (by omega) hF
    have k1 : nI (1 + i) + (1 : Int32) = nI (1 + (i + 1)) := nI_ad (1 + i) 1
    refine ⟨(y, nI (1 + (i + 1)), T'), ?_, rfl, q2⟩
    unfold L_L_law_1949
    rw [hg0, ifleF (by omega) (by omega), q1, ob2_s, k1]
  · rintro ⟨x6, x7, T⟩ ⟨e1, hF⟩
    simp only at e1 hF
    rw [show 1 + (n - 1) = n by omega] at e1 hF
    subst e1
    refine ⟨(x6, T), ?_, hF⟩
    show L_L_law_1949 ga0 x6 (nI n) T = _
    unfold L_L_law_1949
    rw [hg0, ifleT (Nat.le_refl n) (by omega)]
/-! all are reached then -/
theorem rch_all (hw : Web n r fr to) (h : ∀ t, t < n → ∃ q, q < r ∧ fr q = 6 ∧ to q = t) : rch r fr to = 2 ^ n - 1 := by
  have hn := hw.1
  have hb := hw.bd
  have p2 : ∀ n, n < 7 → 2 ^ n - 1 < 128 := by decide
  apply mask_ext (rcB_lt hb) (p2 n (by omega))
  intro k hk
  rw [Nat.testBit_two_pow_sub_one]
  by_cases e : k < n
  · rw [decide_eq_true e, rcB_bit (by omega)]
    obtain ⟨q, hq, e1, e2⟩ := h k e
    have h5 := led_cl (start := 6) (out := 7) hb (by omega) (by omega) q hq (by rw [e1]; exact led_start (by omega) (by omega)) (by omega)
    rw [e2] at h5
    exact h5
  · rw [decide_eq_false e, ← Bool.not_eq_true]
    intro hk1
    by_cases e6 : k = 6
    · subst e6
      unfold rcB at hk1
      rw [clr_bit (by omega)] at hk1
      simp at hk1
    · rw [rcB_bit (by omega)] at hk1
      have h5 := led_min (start := 6) (out := 7) (T := (2 ^ n - 1) ||| 2 ^ 6) hb (by omega) (by omega) (fun _ => by rw [bit_or]; simp) (fun q hq _ _ => by rw [bit_or, Nat.testBit_two_pow_sub_one, decide_eq_true (hw.2.2 q hq).2]; rfl) k (by omega) hk1
      rw [bit_or, Nat.testBit_two_pow_sub_one, decide_eq_false e] at h5
      have h6 : 6 = k := by simpa using h5
      omega
theorem pc_all : ∀ n, n < 7 → pc (2 ^ n - 1) = n := by decide +kernel
theorem law1_w {t : Nat} (hb : Bd r fr to) (ht : t < 7) (h : ow t = 6) : law1 r ow fr to t = true := by
  unfold law1
  rw [h, led6_out rfl ht hb]
  rfl
theorem nlF_2 : ∀ m, (∀ t, t < m → law1 r ow fr to t = !decide (t = 1)) → nlF r ow fr to m = if 1 < m then 2 else 0
  | 0, _ => rfl
  | m + 1, h => by
    have ih := nlF_2 m (fun t ht => h t (by omega))
    rw [nlF, h m (by omega), ih]
    by_cases e : m = 1
    · subst e; rfl
    · rw [decide_eq_false e]
      by_cases e2 : 1 < m
      · rw [if_pos e2, if_pos (show 1 < m + 1 by omega)]; rfl
      · rw [if_neg e2, if_neg (show ¬ 1 < m + 1 by omega)]; rfl
theorem law1_0 {q : Nat} (hb : Bd r fr to) (h : ow 1 = 0) (hq : q < r) (h1 : fr q = 6) (h2 : to q = 1) : law1 r ow fr to 1 = false := by
  unfold law1
  have h5 := led_cl (start := 6) (out := 0) hb (by omega) (by omega) q hq (by rw [h1]; exact led_start (by omega) (by omega)) (by omega)
  rw [h2] at h5
  rw [h, h5]
  rfl
theorem aw1 {q : Nat} (hq : q < r) (h1 : fr q = 6) (h2 : to q = 1) : wpJ r fr to 0 1 = 0 := by
  unfold wpJ
  rw [fiF, if_pos]
  show (aw r fr to 0 1 (0 + 1)).testBit 6 = true
  rw [aw_bit (by omega)]
  refine ⟨⟨q, hq, ?_, h1⟩, by omega⟩
  rw [aw, pow_bit, h2]
  rfl
theorem stop1 {q : Nat} (hw : Web n r fr to) (h0 : 1 < n) (hq : q < r) (h1 : fr q = 6) (h2 : to q = 1) : stop n r fr to 0 1 1 1 = 1 := by
  have hn := hw.1
  have hJ := aw1 hq h1 h2
  have h6 := (far6 (r := r) (fr := fr) (to := to) (o := 0) hn h0).2 (by omega)
  rw [hJ] at h6
  have hx := nxt_all (o := 0) (t := 1) (is := 6) (l := 0) hw (by omega) (by omega) (by omega) (by omega) (by omega) h6
  have h3 := hx.2.2.1
  have h4 := fa_at (r := r) (fr := fr) (to := to) (o := 0) (t := 1) (d := 6) (x := nxt n r fr to 0 1 6 0) (by omega)
  rw [h3, aw, pow_bit] at h4
  have h5 : 1 = nxt n r fr to 0 1 6 0 := by simpa using h4
  exact h5.symm
theorem Fpa_m1 {q : Nat} (hn : n ≤ 6) (h0 : 1 < n) (ho : ow 1 = 0) (hq : q < r) (h1 : fr q = 6) (h2 : to q = 1) : F_past (((n, r, kd, ow, fr, to), sh) : SG) (nI 1) (-1 : Int32) = some (nI 1) := by
  show (if isT n (nI 1) = true ∧ btw (-1 : Int32) (-1) 5 = true then some (if (-1 : Int32) = -1 then wpI r fr to (ow (nI 1).toNatClampNeg) (nI 1).toNatClampNeg else pasI n r fr to (ow (nI 1).toNatClampNeg) (nI 1).toNatClampNeg (-1 : Int32).toNatClampNeg) else none) = _
  rw [if_pos ⟨isT_nI hn h0, by decide⟩, if_pos rfl, cl_nI (by omega), ho]
  unfold wpI
  rw [aw1 hq h1 h2, if_pos (by omega)]
theorem Fpa_0 {q : Nat} (hw : Web n r fr to) (h0 : 1 < n) (ho : ow 1 = 0) (hq : q < r) (h1 : fr q = 6) (h2 : to q = 1) : F_past (((n, r, kd, ow, fr, to), sh) : SG) (nI 1) (nI 0) = some (nI 1) := by
  have hn := hw.1
  show (if isT n (nI 1) = true ∧ btw (nI 0) (-1) 5 = true then some (if nI 0 = -1 then wpI r fr to (ow (nI 1).toNatClampNeg) (nI 1).toNatClampNeg else pasI n r fr to (ow (nI 1).toNatClampNeg) (nI 1).toNatClampNeg (nI 0).toNatClampNeg) else none) = _
  rw [if_pos ⟨isT_nI hn h0, by decide⟩, if_neg (show ¬ nI 0 = (-1 : Int32) by decide), cl_nI (show 1 < 2147483648 by omega), cl_nI (show 0 < 2147483648 by omega), ho]
  unfold pasI
  rw [aw1 hq h1 h2, if_pos ⟨by omega, by omega⟩, stop1 hw h0 hq h1 h2]
end TAIL
