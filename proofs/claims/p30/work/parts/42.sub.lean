/-! THE LAW'S OWN METHODS over its row g: the same words -/
def GR (n r : Nat) (kd ow fr to : Nat → Nat) (ga : Nat → Int32) : Prop := ga 0 = nI n ∧ ga 1 = nI r ∧ (∀ t, t < n → ga (2 + t) = nI (kd t)) ∧ (∀ t, t < n → ga (8 + t) = nI (ow t)) ∧ (∀ q, q < r → ga (14 + q) = nI (fr q)) ∧ ∀ q, q < r → ga (26 + q) = nI (to q)
theorem K14 : (14 : Int32) = nI 14 := id rfl
theorem K15 : (15 : Int32) = nI 15 := id rfl
theorem K26 : (26 : Int32) = nI 26 := id rfl
theorem K27 : (27 : Int32) = nI 27 := id rfl
theorem K38 : (38 : Int32) = nI 38 := id rfl
theorem K64 : (64 : Int32) = nI 64 := id rfl
theorem ib1 {α : Type} {c : Bool} {X Y : α} : (if b2i c = (1 : Int32) then X else Y) = if c = true then X else Y := by cases c <;> rfl
theorem ib0 {α : Type} {c : Bool} {X Y : α} : (if b2i c = (0 : Int32) then X else Y) = if c = true then Y else X := by cases c <;> rfl
theorem shr_d : ∀ S, S < 128 → ∀ k, k < 8 → ((nI S >>> (nI k &&& 31)) &&& (1 : Int32)) = b2i (S.testBit k) := by decide +kernel
theorem shr_b {S k : Nat} (hS : S < 128) (hk : k < 8) : ((nI S >>> (nI k &&& 31)) &&& (1 : Int32)) = b2i (S.testBit k) := shr_d S hS k hk
theorem or_same {S k : Nat} (h : S.testBit k = true) : S ||| 2 ^ k = S := by
  apply Nat.eq_of_testBit_eq
  intro i
  rw [bit_or]
  by_cases e : k = i
  · subst e; simp [h]
  · simp [e]
theorem some_L (x : Int32) {m : Nat} (h0 : 0 < m) (hm : m < 2147483648) : ∃ k, k < m ∧ f_L_some x (nI m) = some (nI k) := by
  unfold f_L_some
  obtain ⟨j, hj, e⟩ := pk_andE x (m := 2147483647) 31 (by decide)
  refine ⟨j % m, Nat.mod_lt _ h0, ?_⟩
  rw [if_neg (nI_ne0 h0 hm), e, pk_rem hj h0 hm]
theorem size_dL : ∀ S, S < 128 → f_L_size (nI S) = some (nI (pc S)) := by decide +kernel
theorem size_L {S : Nat} (h : S < 128) : f_L_size (nI S) = some (nI (pc S)) := size_dL S h
section GSUB
variable {n r : Nat} {kd ow fr to : Nat → Nat} {ga : Nat → Int32}
theorem place_L {a b : Nat} (hg : GR n r kd ow fr to ga) (hr : r ≤ 12) (hb : Bd r fr to) (ha : a < 2147483648) (hbb : b < 2147483648) : f_L_place ga (nI a) (nI b) = some (fndI r fr to a b) := by
  obtain ⟨g0, g1, gk, go, gf, gt⟩ := hg
  unfold f_L_place fndI fnd
  rw [show it (u1 (L_L_place_2 ga (nI a) (nI b))) FUEL (0 : Int32) = some (if fiF (isR fr to a b) r 0 < r then .inr (nI (fiF (isR fr to a b) r 0)) else .inl ()) from ?_]
  · by_cases h : fiF (isR fr to a b) r 0 < r
    · rw [if_pos h, if_pos h, os0_r]
    · rw [if_neg h, if_neg h, os0_l]; rfl
  refine it_search (body := u1 (L_L_place_2 ga (nI a) (nI b))) (fun i => nI i) (isR fr to a b) (fun i => nI i) () r (fun i hi hp => ?_) (fun i hi hp => ?_) ?_ FUEL (FUEL_gt (by omega))
  · show L_L_place_2 ga (nI a) (nI b) (nI i) = _
    have hbi := hb i hi
    have hp' : ¬ (fr i = a ∧ to i = b) := by simpa [isR] using hp
    unfold L_L_place_2
    rw [g1, ifleF hi (by omega), K14, nI_ad, cl_nI (by omega), ifgd0 (by omega) (by omega), gf i hi, K26, nI_ad, cl_nI (by omega), ifgd0 (by omega) (by omega), gt i hi, L1, nI_ad]
    by_cases hfa : fr i = a
    · rw [ifeqT hfa, ifeqF (fun q => hp' ⟨hfa, q⟩) (by omega) (by omega)]
    · rw [ifeqF hfa (by omega) (by omega)]
  · show L_L_place_2 ga (nI a) (nI b) (nI i) = _
    have hbi := hb i hi
    have hp' : fr i = a ∧ to i = b := by simpa [isR] using hp
    unfold L_L_place_2
    rw [g1, ifleF hi (by omega), K14, nI_ad, cl_nI (by omega), ifgd0 (by omega) (by omega), gf i hi, K26, nI_ad, cl_nI (by omega), ifgd0 (by omega) (by omega), gt i hi, ifeqT hp'.1, ifeqT hp'.2]
  · show L_L_place_2 ga (nI a) (nI b) (nI r) = _
    unfold L_L_place_2
    rw [g1, ifleT (Nat.le_refl r) (by omega)]
theorem level_L {t : Nat} (hg : GR n r kd ow fr to ga) (hn : n ≤ 6) (hc : AC n ow) (ht : t < n) : f_L_level ga (nI t) = some (nI (lev n ow t)) := by
  obtain ⟨g0, g1, gk, go, gf, gt⟩ := hg
  obtain ⟨h1, h2, h3⟩ := AC_lev hn hc ht
  generalize lev n ow t = d at h1 h2 h3 ⊢
  obtain ⟨h4, h5⟩ := Ch_anc d t h1
  unfold f_L_level
  rw [show it (u2 (L_L_level_4 ga)) FUEL ((0 : Int32), nI t) = some (nI d) from ?_]
  · rfl
  refine it_for (body := u2 (L_L_level_4 ga)) (fun i => (nI i, nI (anc ow t i))) d (nI d) (fun i hi => ?_) ?_ FUEL (FUEL_gt (by omega))
  · show L_L_level_4 ga (nI i) (nI (anc ow t i)) = _
    have hb := h4 i hi
    unfold L_L_level_4
    rw [L6, ifleF (by omega) (by omega), L8, nI_ad, cl_nI (by omega), ifgd0 (by omega) (by omega), go _ hb, L1, nI_ad]
    rfl
  · show L_L_level_4 ga (nI d) (nI (anc ow t d)) = _
    unfold L_L_level_4
    rw [h5, L6, ifleT (by omega) (by omega)]
theorem lock_L {t : Nat} (hg : GR n r kd ow fr to ga) (hn : n ≤ 6) (hc : AC n ow) (hk : ∀ t, t < n → kd t ≤ 2) (ht : t < n) : f_L_lock ga (nI t) = some (nI (lock n kd ow t)) := by
  have hkt := hk t ht
  unfold f_L_lock lock lck
  rw [level_L hg hn hc ht, ob1_s]
  obtain ⟨g0, g1, gk, go, gf, gt⟩ := hg
  rw [L2, nI_ad, cl_nI (by omega), ifgd0 (by omega) (by omega), gk t ht]
  by_cases h1 : kd t = 1
  · rw [ifeqF (by omega) (by omega) (by omega), ob1_s, ifgd0 (by omega) (by omega), L1, ifeqT h1, nI_ad, if_pos h1]
  · by_cases h2 : kd t = 2
    · rw [ifeqT h2, ob1_s, ifgd0 (by omega) (by omega), L1, ifeqF h1 (by omega) (by omega), nI_ad, if_neg h1, if_pos h2, Nat.two_mul]
    · rw [ifeqF h2 (by omega) (by omega), ob1_s, ifgd0 (by omega) (by omega), L1, ifeqF h1 (by omega) (by omega), if_neg h1, if_neg h2]
theorem under_L {u t : Nat} (hg : GR n r kd ow fr to ga) (hn : n ≤ 6) (hc : AC n ow) (h6 : ∀ t, n ≤ t → ow t = 6) (ht : t < n) (hu : u < n ∨ u = 6) : f_L_under ga (nI u) (nI t) = some (b2i (und ow u t)) := by
  obtain ⟨g0, g1, gk, go, gf, gt⟩ := hg
  have key : ∀ d k u fuel, Ch n ow d u → d ≤ k → d < fuel → it (u1 (L_L_under_2 ga (nI t))) fuel (nI u) = some (if unF ow t k u then .inr (nI 1) else .inl ()) := by
    intro d
    induction d with
    | zero =>
      intro k u fuel hd hk hf
      obtain ⟨f, rfl⟩ : ∃ f, fuel = f + 1 := ⟨fuel - 1, by omega⟩
      have hu6 : u = 6 := hd
      rw [it, show u1 (L_L_under_2 ga (nI t)) (nI u) = some (.inr (.inl ())) from ?_]
      · rw [hu6, unF6 hn h6 ht]; rfl
      show L_L_under_2 ga (nI t) (nI u) = _
      unfold L_L_under_2
      rw [L6, ifleT (by omega) (by omega)]
    | succ d ih =>
      intro k u fuel hd hk hf
      obtain ⟨f, rfl⟩ : ∃ f, fuel = f + 1 := ⟨fuel - 1, by omega⟩
      obtain ⟨k, rfl⟩ : ∃ k', k = k' + 1 := ⟨k - 1, by omega⟩
      have hun := hd.1
      have hol : ow u ≤ 6 := by
        cases d with
        | zero => have : ow u = 6 := hd.2; omega
        | succ d => have := hd.2.1; omega
      by_cases hot : ow u = t
      · rw [it, show u1 (L_L_under_2 ga (nI t)) (nI u) = some (.inr (.inr (nI 1))) from ?_]
        · simp [unF, hot]
        show L_L_under_2 ga (nI t) (nI u) = _
        unfold L_L_under_2
        rw [L6, ifleF (by omega) (by omega), L8, nI_ad, cl_nI (by omega), ifgd0 (by omega) (by omega), go _ hun, ifeqT hot]
        rfl
      · rw [it, show u1 (L_L_under_2 ga (nI t)) (nI u) = some (.inl (nI (ow u))) from ?_]
        · show it _ f (nI (ow u)) = _
          rw [ih k (ow u) f hd.2 (by omega) (by omega)]
          simp [unF, hot]
        show L_L_under_2 ga (nI t) (nI u) = _
        unfold L_L_under_2
        rw [L6, ifleF (by omega) (by omega), L8, nI_ad, cl_nI (by omega), ifgd0 (by omega) (by omega), go _ hun, ifeqF hot (by omega) (by omega), ifgd0 (by omega) (by omega)]
  have hd : ∃ d, Ch n ow d u ∧ d ≤ 6 := by
    rcases hu with hu | hu
    · obtain ⟨d, hd⟩ := hc u hu
      exact ⟨d, hd, Ch_le hn hd⟩
    · exact ⟨0, hu, by omega⟩
  obtain ⟨d, hd, hd6⟩ := hd
  unfold f_L_under und
  rw [key d 6 u FUEL hd hd6 (FUEL_gt (by omega))]
  cases unF ow t 6 u <;> rfl
/-! what is come to -/
def ro (r : Nat) (fr to : Nat → Nat) (out S : Nat) : Nat → Nat
  | 0 => S
  | k + 1 => inF fr to out (ro r fr to out S k) r
theorem ro_in {out : Nat} : ∀ k S, ro r fr to out (inF fr to out S r) k = ro r fr to out S (k + 1)
  | 0, S => rfl
  | k + 1, S => by rw [ro, ro_in k S]; rfl
theorem ro_fix {out S : Nat} (h : inF fr to out S r = S) : ∀ k, ro r fr to out S k = S
  | 0 => rfl
  | k + 1 => by rw [ro, ro_fix h k, h]
theorem ro_clo {out : Nat} : ∀ k S, cloF r fr to out k S = ro r fr to out S (k + 1)
  | 0, S => rfl
  | k + 1, S => by
    rw [cloF]
    by_cases hm : moF fr to out S r = 0
    · obtain ⟨h1, -⟩ := inF_no r hm
      rw [if_pos hm, h1, ro_fix h1]
    · rw [if_neg hm, ro_clo k, ro_in]
theorem ro_led {start out : Nat} (hb : Bd r fr to) (hs : start ≤ 6) (ho : out ≤ 7) (hso : start ≠ out) : ro r fr to out (2 ^ start) 7 = led r fr to start out := by
  rw [← ro_clo 6]
  obtain ⟨h1, h2, h3, h4⟩ := cloF_all (out := out) hb 6 _ (two_lt hs) (by rw [pc_pow start (by omega)]; omega)
  apply mask_ext h1 (led_lt hb hs)
  intro k hk
  rw [Bool.eq_iff_iff]
  constructor
  · intro h
    refine h4 _ (led_cl hb hs ho) (fun j hj hj1 => ?_) k hk h
    rw [pow_bit] at hj1
    have e : start = j := by simpa using hj1
    rw [← e]
    exact led_start hs hso
  · intro h
    exact led_min hb hs ho (fun _ => h2 _ (by rw [pow_bit]; simp)) h3 k hk h
theorem ro_lt {out S : Nat} (hb : Bd r fr to) (hS : S < 128) : ∀ k, ro r fr to out S k < 128
  | 0 => hS
  | k + 1 => inF_lt hb (ro_lt hb hS k) r (Nat.le_refl r)
theorem come_L {start out : Nat} {oI : Int32} (hg : GR n r kd ow fr to ga) (hr : r ≤ 12) (hb : Bd r fr to) (hs : start ≤ 6) (ho : out ≤ 7) (hso : start ≠ out) (hoI : ∀ k, k ≤ 6 → (nI k = oI ↔ k = out)) : f_L_come ga (nI start) oI = some (nI (led r fr to start out)) := by
  obtain ⟨g0, g1, gk, go, gf, gt⟩ := hg
  have inner : ∀ S, S < 128 → it (u2 (L_L_come_17 ga oI)) FUEL (nI S, (0 : Int32)) = some (nI (inF fr to out S r)) := by
    intro S hS
    refine it_for (body := u2 (L_L_come_17 ga oI)) (fun i => (nI (inF fr to out S i), nI i)) r _ (fun i hi => ?_) ?_ FUEL (FUEL_gt (by omega))
    · show L_L_come_17 ga oI (nI (inF fr to out S i)) (nI i) = some (.inl (nI (inF fr to out S (i + 1)), nI (i + 1)))
      have hbi := hb i hi
      have hlt := inF_lt (out := out) hb hS i (by omega)
      unfold L_L_come_17
      rw [inF, g1, ifleF hi (by omega), K14, nI_ad, cl_nI (by omega), ifgd0 (by omega) (by omega), gf i hi, shr_b hlt (by omega), ib1, K26, nI_ad, cl_nI (by omega), ifgd0 (by omega) (by omega), ifgd0 (by omega) (by omega), gt i hi, L1, nI_ad, shl_e (by omega), nI_or]
      by_cases h1 : (inF fr to out S i).testBit (fr i) = true
      · rw [if_pos h1]
        by_cases h2 : to i = out
        · rw [if_pos ((hoI _ hbi.2).mpr h2)]
          have : adB fr to out (inF fr to out S i) i = false := by simp [adB, h2]
          rw [this, if_neg (by decide)]
        · rw [if_neg (fun q => h2 ((hoI _ hbi.2).mp q))]
          by_cases h3 : (inF fr to out S i).testBit (to i) = true
          · have : adB fr to out (inF fr to out S i) i = false := by simp [adB, h3]
            rw [this, if_neg (by decide), or_same h3]
          · have : adB fr to out (inF fr to out S i) i = true := by simp [adB, h1, h2, h3]
            rw [this, if_pos rfl]
      · rw [if_neg h1]
        have : adB fr to out (inF fr to out S i) i = false := by simp [adB, h1]
        rw [this, if_neg (by decide)]
    · show L_L_come_17 ga oI (nI (inF fr to out S r)) (nI r) = _
      unfold L_L_come_17
      rw [g1, ifleT (Nat.le_refl r) (by omega)]
  have h2 := two_lt hs
  unfold f_L_come
  rw [L1, shl_e (by omega), show it (u2 (L_L_come_7 ga oI)) FUEL (nI (2 ^ start), (0 : Int32)) = some (nI (ro r fr to out (2 ^ start) 7)) from ?_, ob1_s, ro_led hb hs ho hso]
  refine it_for (body := u2 (L_L_come_7 ga oI)) (fun i => (nI (ro r fr to out (2 ^ start) i), nI i)) 7 _ (fun i hi => ?_) ?_ FUEL (FUEL_gt (by omega))
  · show L_L_come_7 ga oI (nI (ro r fr to out (2 ^ start) i)) (nI i) = _
    unfold L_L_come_7
    rw [L7, ifleF hi (by omega), inner _ (ro_lt hb h2 i), ob1_s, L1, nI_ad]
    rfl
  · show L_L_come_7 ga oI (nI (ro r fr to out (2 ^ start) 7)) (nI 7) = _
    unfold L_L_come_7
    rw [L7, ifleT (Nat.le_refl 7) (by omega)]
theorem none1 : ∀ k, k ≤ 6 → (nI k = (-1 : Int32) ↔ k = 7) := fun k hk => ⟨fun q => absurd q (nI_neg_ne (a := k) (k := 1) (by omega) (by omega) (by omega)), fun q => by omega⟩
/-! who stands before -/
def lbF (r : Nat) (fr to : Nat → Nat) (t : Nat) : Nat → Nat
  | 0 => 64
  | x + 1 => if (led r fr to 6 x).testBit t then lbF r fr to t x else lbF r fr to t x ||| 2 ^ x
theorem lbF_lt {t : Nat} : ∀ x, x ≤ 7 → lbF r fr to t x < 128
  | 0, _ => by rw [lbF]; decide
  | x + 1, h => by
    have h1 := lbF_lt (t := t) x (by omega)
    rw [lbF]
    split
    · exact h1
    · exact or_lt h1 (two_lt (by omega))
theorem lbF_bit {t k : Nat} : ∀ x, (lbF r fr to t x).testBit k = true ↔ 6 = k ∨ (k < x ∧ (led r fr to 6 k).testBit t = false)
  | 0 => by
    have h64 : (64 : Nat).testBit k = decide (6 = k) := pow_bit (a := 6)
    rw [lbF, h64]
    simp
  | x + 1 => by
    have ih := lbF_bit (t := t) (k := k) x
    rw [lbF]
    by_cases hc : (led r fr to 6 x).testBit t = true
    · rw [if_pos hc, ih]
      constructor
      · rintro (h | h)
        · exact Or.inl h
        · exact Or.inr ⟨by omega, h.2⟩
      · rintro (h | h)
        · exact Or.inl h
        · by_cases e : k = x
          · subst e
            rw [hc] at h
            exact absurd h.2 (by decide)
          · exact Or.inr ⟨by omega, h.2⟩
    · rw [if_neg hc, bit_or, Bool.or_eq_true, ih, decide_eq_true_eq]
      rw [Bool.not_eq_true] at hc
      constructor
      · rintro ((h | h) | h)
        · exact Or.inl h
        · exact Or.inr ⟨by omega, h.2⟩
        · subst h; exact Or.inr ⟨by omega, hc⟩
      · rintro (h | h)
        · exact Or.inl (Or.inl h)
        · by_cases e : x = k
          · exact Or.inr e
          · exact Or.inl (Or.inr ⟨by omega, h.2⟩)
theorem lb_sb {t : Nat} (hw : Web n r fr to) (ht : t < n) : lbF r fr to t n = sbF n r fr to t 7 := by
  have hn := hw.1
  have hb := hw.bd
  apply mask_ext (lbF_lt n (by omega)) (sbF_lt 7 (by omega))
  intro k hk
  rw [Bool.eq_iff_iff, lbF_bit, sbF_bit]
  constructor
  · rintro (h | h)
    · exact ⟨hk, Or.inr h.symm, led6_out h.symm (by omega) hb⟩
    · exact ⟨hk, Or.inl h.1, h.2⟩
  · rintro ⟨_, h1 | h1, h2⟩
    · exact Or.inr ⟨h1, h2⟩
    · exact Or.inl h1.symm
theorem rch_bit {t : Nat} (ht : t < 6) : (rch r fr to).testBit t = (led r fr to 6 7).testBit t := rcB_bit ht
theorem before_L {t : Nat} (hg : GR n r kd ow fr to ga) (hw : Web n r fr to) (ht : t < n) : f_L_before ga (nI t) = some (nI (bef n r fr to t)) := by
  have hb := hw.bd
  have hn := hw.1
  have hr := hw.2.1
  have hl7 := led_lt (start := 6) (out := 7) hb (by omega)
  unfold f_L_before bef
  rw [show f_L_come ga (6 : Int32) (-1 : Int32) = some (nI (led r fr to 6 7)) from come_L (start := 6) (out := 7) hg hr hb (by omega) (by omega) (by omega) none1, ob1_s, shr_b hl7 (by omega), ib0, rch_bit (by omega)]
  by_cases hc : (led r fr to 6 7).testBit t = true
  · rw [if_pos hc, if_pos hc, ← lb_sb hw ht]
    rw [show it (u2 (L_L_before_21 ga (nI t))) FUEL ((64 : Int32), (0 : Int32)) = some (nI (lbF r fr to t n)) from ?_, ob1_s]
    refine it_for (body := u2 (L_L_before_21 ga (nI t))) (fun i => (nI (lbF r fr to t i), nI i)) n _ (fun i hi => ?_) ?_ FUEL (FUEL_gt (by omega))
    · show L_L_before_21 ga (nI t) (nI (lbF r fr to t i)) (nI i) = some (.inl (nI (lbF r fr to t (i + 1)), nI (i + 1)))
      have hll := led_lt (start := 6) (out := i) hb (by omega)
      unfold L_L_before_21
      rw [lbF, hg.1, ifleF hi (by omega), show f_L_come ga (6 : Int32) (nI i) = some (nI (led r fr to 6 i)) from come_L (start := 6) (out := i) hg hr hb (by omega) (by omega) (by omega) (someI (by omega)), ob1_s, shr_b hll (by omega), ib0, L1, nI_ad, shl_e (by omega), nI_or]
      split <;> rfl
    · show L_L_before_21 ga (nI t) (nI (lbF r fr to t n)) (nI n) = _
      unfold L_L_before_21
      rw [hg.1, ifleT (Nat.le_refl n) (by omega)]
  · rw [if_neg hc, if_neg hc]; rfl
theorem lawful_L {t : Nat} (hg : GR n r kd ow fr to ga) (hw : Web n r fr to) (ho : ow t < n ∨ ow t = 6) (ht : t < n) : f_L_lawful ga (nI t) = some (b2i (law1 r ow fr to t)) := by
  have hb := hw.bd
  have hn := hw.1
  have hr := hw.2.1
  have hbl := bef_lt (n := n) (r := r) (fr := fr) (to := to) (t := t)
  unfold f_L_lawful law1
  rw [before_L hg hw ht, ob1_s]
  obtain ⟨g0, g1, gk, go, gf, gt⟩ := hg
  rw [L8, nI_ad, cl_nI (by omega), ifgd0 (by omega) (by omega), go t ht, shr_b hbl (by omega), ib1]
  by_cases hc : (rch r fr to).testBit t = true
  · have e : bef n r fr to t = sbF n r fr to t 7 := by unfold bef; rw [if_pos hc]
    have h6 : (sbF n r fr to t 7).testBit 6 = true := sbF_bit 7 |>.mpr ⟨by omega, Or.inr rfl, led6_out rfl (by omega) hb⟩
    have hne : bef n r fr to t ≠ 0 := by
      rw [e]
      intro q
      rw [q] at h6
      simp at h6
    rw [L0, ifeqF hne (by omega) (by omega)]
    by_cases hl : (led r fr to 6 (ow t)).testBit t = true
    · have h1 : (bef n r fr to t).testBit (ow t) = false := by
        rw [e, ← Bool.not_eq_true, sbF_bit, hl]
        simp
      rw [h1, hl]; rfl
    · rw [Bool.not_eq_true] at hl
      have h1 : (bef n r fr to t).testBit (ow t) = true := by
        rw [e, sbF_bit, hl]
        exact ⟨by omega, ho, rfl⟩
      rw [h1, hl]; rfl
  · have e : bef n r fr to t = 0 := by unfold bef; rw [if_neg hc]
    have hl : (led r fr to 6 (ow t)).testBit t = false := by
      rw [← Bool.not_eq_true]
      intro q
      have := led_sub7 hb (by omega) (by omega) q
      rw [rch, rcB_bit (by omega)] at hc
      exact hc this
    rw [L0, ifeqT e, hl]; rfl
theorem unlawful_L (hg : GR n r kd ow fr to ga) (hw : Web n r fr to) (ho : ∀ t, t < n → ow t < n ∨ ow t = 6) : f_L_unlawful ga = some (nI (notL n r ow fr to)) := by
  have hn := hw.1
  unfold f_L_unlawful notL
  rw [show it (u2 (L_L_unlawful_4 ga)) FUEL ((0 : Int32), (0 : Int32)) = some (nI (nlF r ow fr to n)) from ?_]
  · rfl
  refine it_for (body := u2 (L_L_unlawful_4 ga)) (fun i => (nI (nlF r ow fr to i), nI i)) n _ (fun i hi => ?_) ?_ FUEL (FUEL_gt (by omega))
  · show L_L_unlawful_4 ga (nI (nlF r ow fr to i)) (nI i) = some (.inl (nI (nlF r ow fr to (i + 1)), nI (i + 1)))
    unfold L_L_unlawful_4
    rw [nlF, hg.1, ifleF hi (by omega), lawful_L hg hw (ho i hi) hi, ob1_s, ib0, L1, nI_ad, shl_e (by omega), nI_or]
    split <;> rfl
  · show L_L_unlawful_4 ga (nI (nlF r ow fr to n)) (nI n) = _
    unfold L_L_unlawful_4
    rw [hg.1, ifleT (Nat.le_refl n) (by omega)]
end GSUB
