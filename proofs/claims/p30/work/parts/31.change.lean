/-! what changes: references made, cut; owners; things handed on -/
def cutA (at_ : Nat) (f : Nat → Nat) : Nat → Nat := fun q => if q < at_ then f q else f (q + 1)
def upN (f : Nat → Nat) (k v : Nat) : Nat → Nat := fun q => if q = k then v else f q
theorem RI_up {n k v : Nat} {f : Nat → Nat} {a : Nat → Int32} (h : RI n f a) : RI n (upN f k v) (upd a k (nI v)) := by
  intro i hi
  unfold upN
  by_cases e : i = k
  · subst e; rw [pk_us, if_pos rfl]
  · rw [pk_un e, if_neg e]; exact h i hi
theorem RI_ap {n v : Nat} {f : Nat → Nat} {a : Nat → Int32} (h : RI n f a) : RI (n + 1) (upN f n v) (upd a n (nI v)) := by
  intro i hi
  unfold upN
  by_cases e : i = n
  · subst e; rw [pk_us, if_pos rfl]
  · rw [pk_un e, if_neg e]; exact h i (by omega)
theorem cutLoop {r at_ : Nat} {f g : Nat → Int32} (hr : r ≤ 12) (ha : at_ < r) : ∃ F G, it (u3 (L_X3_cut_25 (nI r))) FUEL (nI at_, f, g) = some (F, G) ∧ ∀ j, j < r - 1 → F j = (if j < at_ then f j else f (j + 1)) ∧ G j = (if j < at_ then g j else g (j + 1)) := by
  obtain ⟨⟨F, G⟩, h1, h2⟩ : ∃ p : (Nat → Int32) × (Nat → Int32), it (u3 (L_X3_cut_25 (nI r))) FUEL (nI at_, f, g) = some p ∧ ∀ j, j < r - 1 → p.1 j = (if j < at_ then f j else f (j + 1)) ∧ p.2 j = (if j < at_ then g j else g (j + 1)) := by
    refine it_forI (body := u3 (L_X3_cut_25 (nI r))) (fun i s => ∃ F G, s = (nI (at_ + i), F, G) ∧ ∀ j, j < r → F j = (if at_ ≤ j ∧ j < at_ + i then f (j + 1) else f j) ∧ G j = (if at_ ≤ j ∧ j < at_ + i then g (j + 1) else g j)) _ (r - 1 - at_) ?_ ?_ (nI at_, f, g) ⟨f, g, rfl, fun j hj => ⟨by rw [if_neg (by omega)], by rw [if_neg (by omega)]⟩⟩ FUEL (FUEL_gt (by omega))
    · rintro i hi s ⟨F, G, rfl, hFG⟩
      show ∃ s', L_X3_cut_25 (nI r) (nI (at_ + i)) F G = some (.inl s') ∧ _
      obtain ⟨hF, hG⟩ := hFG (at_ + i + 1) (by omega)
      rw [if_neg (by omega)] at hF hG
      refine ⟨(nI (at_ + (i + 1)), upd F (at_ + i) (f (at_ + i + 1)), upd G (at_ + i) (g (at_ + i + 1))), ?_, _, _, rfl, fun j hj => ?_⟩
      · unfold L_X3_cut_25
        simp (disch := omega) only [L1, nI_sb, ifleF, nI_ad, cl_nI, ifgd0, hF, hG]
        rfl
      · obtain ⟨h3, h4⟩ := hFG j hj
        by_cases e : j = at_ + i
        · subst e
          rw [pk_us, pk_us, if_pos (by omega), if_pos (by omega)]
          exact ⟨rfl, rfl⟩
        · rw [pk_un e, pk_un e, h3, h4]
          by_cases e2 : at_ ≤ j ∧ j < at_ + i
          · rw [if_pos e2, if_pos e2, if_pos (by omega), if_pos (by omega)]
            exact ⟨rfl, rfl⟩
          · rw [if_neg e2, if_neg e2, if_neg (by omega), if_neg (by omega)]
            exact ⟨rfl, rfl⟩
    · rintro s ⟨F, G, rfl, hFG⟩
      show ∃ p, L_X3_cut_25 (nI r) (nI (at_ + (r - 1 - at_))) F G = some (.inr p) ∧ _
      refine ⟨(F, G), ?_, fun j hj => ?_⟩
      · unfold L_X3_cut_25
        simp (disch := omega) only [L1, nI_sb]
        rw [ifleT (by omega) (by omega)]
      · obtain ⟨h3, h4⟩ := hFG j (by omega)
        show F j = _ ∧ G j = _
        rw [h3, h4]
        by_cases e : j < at_
        · have e2 : ¬ (at_ ≤ j ∧ j < at_ + (r - 1 - at_)) := by omega
          rw [if_neg e2, if_neg e2, if_pos e, if_pos e]
          exact ⟨rfl, rfl⟩
        · have e2 : at_ ≤ j ∧ j < at_ + (r - 1 - at_) := by omega
          rw [if_pos e2, if_pos e2, if_neg e, if_neg e]
          exact ⟨rfl, rfl⟩
  exact ⟨F, G, h1, h2⟩
theorem RI_cut {r at_ : Nat} {fr : Nat → Nat} {f F : Nat → Int32} (ha : at_ < r) (h : RI r fr f) (hF : ∀ j, j < r - 1 → F j = (if j < at_ then f j else f (j + 1))) : RI (r - 1) (cutA at_ fr) F := by
  intro j hj
  rw [hF j hj]
  unfold cutA
  by_cases e : j < at_
  · rw [if_pos e, if_pos e]; exact h j (by omega)
  · rw [if_neg e, if_neg e]; exact h (j + 1) (by omega)
theorem cut_c {r at_ : Nat} {fr to : Nat → Nat} {f g : Nat → Int32} (hr : r ≤ 12) (ha : at_ < r) (hf : RI r fr f) (hg : RI r to g) : ∃ F G, f_X3_cut (nI r) f g (nI at_) = some (nI (r - 1), F, G) ∧ RI (r - 1) (cutA at_ fr) F ∧ RI (r - 1) (cutA at_ to) G := by
  obtain ⟨F, G, h1, h2⟩ := cutLoop (f := f) (g := g) hr ha
  refine ⟨F, G, ?_, RI_cut ha hf (fun j hj => (h2 j hj).1), RI_cut ha hg (fun j hj => (h2 j hj).2)⟩
  unfold f_X3_cut
  rw [h1, L0, L1, ifltF (by omega) (by omega), ifltT ha (by omega), nI_sb (by omega)]
  rfl
/-- a reference made or cut: none, where there are 12 -/
def rfS (r : Nat) (fr to : Nat → Nat) (a b : Nat) : Option (Nat × (Nat → Nat) × (Nat → Nat)) := if fnd r fr to a b < r then some (r - 1, cutA (fnd r fr to a b) fr, cutA (fnd r fr to a b) to) else if r = 12 then none else some (r + 1, upN fr r a, upN to r b)
theorem rfS_web {n r a b r' : Nat} {fr to fr' to' : Nat → Nat} (hw : Web n r fr to) (ha : a < n ∨ a = 6) (hb : b < n) (h : rfS r fr to a b = some (r', fr', to')) : Web n r' fr' to' := by
  obtain ⟨h1, h2, h3⟩ := hw
  unfold rfS at h
  by_cases e : fnd r fr to a b < r
  · rw [if_pos e] at h
    cases h
    refine ⟨h1, by omega, fun q hq => ?_⟩
    unfold cutA
    by_cases e2 : q < fnd r fr to a b
    · rw [if_pos e2, if_pos e2]; exact h3 q (by omega)
    · rw [if_neg e2, if_neg e2]; exact h3 (q + 1) (by omega)
  · rw [if_neg e] at h
    by_cases e2 : r = 12
    · rw [if_pos e2] at h; cases h
    · rw [if_neg e2] at h
      cases h
      refine ⟨h1, by omega, fun q hq => ?_⟩
      unfold upN
      by_cases e3 : q = r
      · rw [if_pos e3, if_pos e3]; exact ⟨ha, hb⟩
      · rw [if_neg e3, if_neg e3]; exact h3 q (by omega)
theorem makeOrCut_c {n r a b : Nat} {fr to : Nat → Nat} {f g : Nat → Int32} (hw : Web n r fr to) (hf : RI r fr f) (hg : RI r to g) (ha : a < n ∨ a = 6) (hb : b < n) (hab : a ≠ b) : (rfS r fr to a b = none ∧ f_X3_makeOrCut (nI n) (nI r) f g (nI a) (nI b) = some (-(nI 4), nI r, f, g)) ∨ ∃ r' fr' to' F G, rfS r fr to a b = some (r', fr', to') ∧ f_X3_makeOrCut (nI n) (nI r) f g (nI a) (nI b) = some (nI r', nI r', F, G) ∧ RI r' fr' F ∧ RI r' to' G := by
  have hn := hw.1
  have hr := hw.2.1
  have hbd := hw.bd
  unfold f_X3_makeOrCut
  rw [isW_c n hn, isThing_c, isW_nI hn (by omega) ha, isT_nI hn hb, find_c hr hf hg hbd (by omega) (by omega)]
  simp (disch := omega) only [ob1_s, L0, ifb, if_true, ifeqF]
  unfold rfS fndI
  by_cases e : fnd r fr to a b < r
  · right
    obtain ⟨F, G, h1, h2, h3⟩ := cut_c hr e hf hg
    refine ⟨_, _, _, F, G, by rw [if_pos e], ?_, h2, h3⟩
    simp (disch := omega) only [if_pos e, L9, ifeqN, h1, ob3_s]
  · simp (disch := omega) only [if_neg e, L9, if_true]
    by_cases e2 : r = 12
    · left
      refine ⟨by rw [if_pos e2], ?_⟩
      rw [show (12 : Int32) = nI 12 from rfl, ifeqT e2]
      rfl
    · right
      refine ⟨_, _, _, upd f r (nI a), upd g r (nI b), by rw [if_neg e2], ?_, RI_ap hf, RI_ap hg⟩
      unfold f_X3_addReference
      simp (disch := omega) only [L12, ifeqF, ifleF, cl_nI, ifgd0, ob3_s, L1, nI_ad]
theorem bT {α : Type} {X Y : α} : (if b2i true = 0 then X else Y) = Y := id rfl
theorem bF {α : Type} {X Y : α} : (if b2i false = 0 then X else Y) = X := id rfl
/-! owners anew -/
theorem unF_no {ow : Nat → Nat} {t : Nat} : ∀ k u, unF ow t k u = false → ∀ i, i < k → anc ow u (i + 1) ≠ t
  | 0, _, _, i, hi => by omega
  | k + 1, u, h, i, hi => by
    rw [unF, Bool.or_eq_false_iff] at h
    cases i with
    | zero =>
      have h1 : ow u ≠ t := by simpa using h.1
      exact h1
    | succ i =>
      rw [← anc_s]
      exact unF_no k (ow u) h.2 i (by omega)
theorem Ch_away {n t o : Nat} {ow : Nat → Nat} : ∀ d u, Ch n ow d u → (∀ i, i < d → anc ow u i ≠ t) → Ch n (upN ow t o) d u
  | 0, _, h, _ => h
  | d + 1, u, h, hn => by
    refine ⟨h.1, ?_⟩
    have h1 : u ≠ t := hn 0 (by omega)
    have h2 : upN ow t o u = ow u := by unfold upN; rw [if_neg h1]
    rw [h2]
    refine Ch_away d (ow u) h.2 (fun i hi => ?_)
    rw [anc_s]
    exact hn (i + 1) (by omega)
theorem AC_up {n t o : Nat} {ow : Nat → Nat} (hn : n ≤ 6) (hc : AC n ow) (ht : t < n) (ho : o < n ∨ o = 6) (hot : o ≠ t) (hu : und ow o t = false) : AC n (upN ow t o) := by
  have hO : ∃ e, Ch n (upN ow t o) e o := by
    have hd : ∃ d, Ch n ow d o ∧ d ≤ 6 := by
      rcases ho with h | h
      · obtain ⟨d, hd⟩ := hc o h
        exact ⟨d, hd, Ch_le hn hd⟩
      · exact ⟨0, h, by omega⟩
    obtain ⟨d, hd, hd6⟩ := hd
    refine ⟨d, Ch_away d o hd (fun i hi => ?_)⟩
    cases i with
    | zero => exact hot
    | succ i => exact unF_no 6 o hu i (by omega)
  obtain ⟨e, he⟩ := hO
  have key : ∀ d u, Ch n ow d u → ∃ d', Ch n (upN ow t o) d' u := by
    intro d
    induction d with
    | zero => intro u h; exact ⟨0, h⟩
    | succ d ih =>
      intro u h
      by_cases hut : u = t
      · subst hut
        refine ⟨e + 1, h.1, ?_⟩
        have : upN ow u o u = o := by unfold upN; rw [if_pos rfl]
        rw [this]
        exact he
      · obtain ⟨d', h'⟩ := ih (ow u) h.2
        refine ⟨d' + 1, h.1, ?_⟩
        have : upN ow t o u = ow u := by unfold upN; rw [if_neg hut]
        rw [this]
        exact h'
  intro u hu'
  obtain ⟨d, hd⟩ := hc u hu'
  exact key d u hd
theorem AD_own {n r t o : Nat} {kd ow fr to : Nat → Nat} (h : AD n r kd ow fr to) (ht : t < n) (ho : o < n ∨ o = 6) (hot : o ≠ t) (hu : und ow o t = false) : AD n r kd (upN ow t o) fr to := by
  refine ⟨h.1, fun u hu' => ⟨h.kd2 u hu', ?_⟩, fun u hu' => ?_, AC_up h.1.1 h.2.2.2 ht ho hot hu⟩
  · unfold upN
    by_cases e : u = t
    · rw [if_pos e]; exact ho
    · rw [if_neg e]; exact h.ow2 u hu'
  · unfold upN
    rw [if_neg (by omega)]
    exact h.2.2.1 u hu'
theorem und6 {n r t : Nat} {kd ow fr to : Nat → Nat} (h : AD n r kd ow fr to) (ht : t < n) : und ow 6 t = false := unF6 h.1.1 h.2.2.1 ht 6
theorem changeOwner_c {n r t o : Nat} {kd ow fr to : Nat → Nat} {a : Nat → Int32} (h : AD n r kd ow fr to) (ha : RI n ow a) (ht : t < n) (ho : o < n ∨ o = 6) (hot : o ≠ t) : f_X3_changeOwner (nI n) a (nI t) (nI o) = some (if und ow o t then (-(nI 3), a) else (nI (ow t), upd a t (nI o))) := by
  have hn := h.1.1
  unfold f_X3_changeOwner
  rw [isThing_c, isW_c n hn, isT_nI hn ht, isW_nI hn (by omega) ho, isUnder_c hn ha h.ow2 h.2.2.1 ht ho]
  simp (disch := omega) only [ob1_s, L0, ifb, if_true, ifeqF, cl_nI, ifgd2, ha t ht]
  cases und ow o t <;> rfl
/-! handed on -/
def cnR (to : Nat → Nat) (t : Nat) : Nat → Nat
  | 0 => 0
  | q + 1 => if to q = t then cnR to t q + 1 else cnR to t q
def laR (to : Nat → Nat) (t : Nat) : Nat → Nat
  | 0 => 0
  | q + 1 => if to q = t then q else laR to t q
theorem cn_le (to : Nat → Nat) (t : Nat) : ∀ q, cnR to t q ≤ q
  | 0 => Nat.le_refl 0
  | q + 1 => by
    have := cn_le to t q
    rw [cnR]
    split <;> omega
theorem la_lt (to : Nat → Nat) (t : Nat) : ∀ q, 0 < cnR to t q → laR to t q < q ∧ to (laR to t q) = t
  | 0, h => by rw [cnR] at h; omega
  | q + 1, h => by
    rw [laR]
    by_cases e : to q = t
    · rw [if_pos e]; exact ⟨by omega, e⟩
    · rw [cnR, if_neg e] at h
      rw [if_neg e]
      have := la_lt to t q h
      exact ⟨by omega, this.2⟩
theorem cn_mono (to : Nat → Nat) (t : Nat) : ∀ k q, cnR to t q ≤ cnR to t (q + k)
  | 0, q => Nat.le_refl _
  | k + 1, q => by
    have := cn_mono to t k q
    rw [show q + (k + 1) = q + k + 1 by omega, cnR]
    split <;> omega
theorem single_c {r t : Nat} {to : Nat → Nat} {g : Nat → Int32} (hr : r ≤ 12) (hg : RI r to g) (hb : ∀ q, q < r → to q ≤ 6) (ht : t ≤ 6) : f_X3_singleReferenceTo (nI r) g (nI t) = some (if cnR to t r = 1 then nI (laR to t r) else -(nI 9)) := by
  unfold f_X3_singleReferenceTo
  have e1 : it (u2 (L_X3_singleReferenceTo_5 (nI r) g (nI t))) FUEL ((-9 : Int32), (0 : Int32)) = some (if fiF (fun i => decide (to i = t ∧ 0 < cnR to t i)) r 0 < r then .inr (-(nI 9)) else .inl (if cnR to t r = 0 then -(nI 9) else nI (laR to t r))) := by
    refine it_search (body := u2 (L_X3_singleReferenceTo_5 (nI r) g (nI t))) (fun i => (if cnR to t i = 0 then -(nI 9) else nI (laR to t i), nI i)) (fun i => decide (to i = t ∧ 0 < cnR to t i)) (fun _ => -(nI 9)) _ r (fun i hi hp => ?_) (fun i hi hp => ?_) ?_ FUEL (FUEL_gt (by omega))
    · show L_X3_singleReferenceTo_5 (nI r) g (nI t) (if cnR to t i = 0 then -(nI 9) else nI (laR to t i)) (nI i) = some (.inl (if cnR to t (i + 1) = 0 then -(nI 9) else nI (laR to t (i + 1)), nI (i + 1)))
      have hbi := hb i hi
      simp only [decide_eq_false_iff_not] at hp
      unfold L_X3_singleReferenceTo_5
      rw [cnR, laR]
      by_cases e : to i = t
      · have h0 : cnR to t i = 0 := by
          apply Nat.le_antisymm _ (Nat.zero_le _)
          apply Nat.le_of_not_lt
          exact fun q => hp ⟨e, q⟩
        simp (disch := omega) only [ifleF, cl_nI, ifgd0, hg i hi, ifeqT, h0, if_true, e, L9, L1, nI_ad]
        rfl
      · simp (disch := omega) only [ifleF, cl_nI, ifgd0, hg i hi, ifeqF, if_neg e, L1, nI_ad]
    · show L_X3_singleReferenceTo_5 (nI r) g (nI t) (if cnR to t i = 0 then -(nI 9) else nI (laR to t i)) (nI i) = _
      simp only [decide_eq_true_eq] at hp
      have hla := la_lt to t i hp.2
      unfold L_X3_singleReferenceTo_5
      rw [if_neg (show ¬ cnR to t i = 0 by omega)]
      simp (disch := omega) only [ifleF, cl_nI, ifgd0, hg i hi, hp.1, if_true, L9, ifeqN]
    · show L_X3_singleReferenceTo_5 (nI r) g (nI t) _ (nI r) = _
      unfold L_X3_singleReferenceTo_5
      rw [ifleT (Nat.le_refl r) (by omega)]
  rw [e1]
  by_cases h : fiF (fun i => decide (to i = t ∧ 0 < cnR to t i)) r 0 < r
  · rw [if_pos h, os1_r]
    have h1 := fiF_at (fun i => decide (to i = t ∧ 0 < cnR to t i)) r 0 (by omega)
    simp only [decide_eq_true_eq] at h1
    generalize fiF (fun i => decide (to i = t ∧ 0 < cnR to t i)) r 0 = i at h h1
    have h2 : cnR to t (i + 1) = cnR to t i + 1 := by rw [cnR, if_pos h1.1]
    have h3 := cn_mono to t (r - (i + 1)) (i + 1)
    rw [show i + 1 + (r - (i + 1)) = r by omega] at h3
    rw [if_neg (by omega)]
  · rw [if_neg h, os1_l]
    have h1 : cnR to t r ≤ 1 := by
      have key : ∀ k, k ≤ r → cnR to t k ≤ 1 := by
        intro k
        induction k with
        | zero => intro _; rw [cnR]; omega
        | succ k ih =>
          intro hk
          have ih := ih (by omega)
          rw [cnR]
          by_cases e : to k = t
          · rw [if_pos e]
            have h2 := fiF_no (fun i => decide (to i = t ∧ 0 < cnR to t i)) r 0 k (by omega) (by omega)
            simp only [decide_eq_false_iff_not] at h2
            have : ¬ 0 < cnR to t k := fun q => h2 ⟨e, q⟩
            omega
          · rw [if_neg e]; exact ih
      exact key r (Nat.le_refl r)
    by_cases e : cnR to t r = 0
    · rw [if_pos e, if_neg (by omega)]
    · rw [if_neg e, if_pos (by omega)]
/-- where the one reference stands that is handed on: r, none -/
def hdS (r : Nat) (ow fr to : Nat → Nat) (t x : Nat) : Option Nat := if und ow x t then none else if cnR to t r = 1 then (if fr (laR to t r) = x then none else some (laR to t r)) else none
theorem hdS_lt {r t x q : Nat} {ow fr to : Nat → Nat} (h : hdS r ow fr to t x = some q) : q < r ∧ und ow x t = false := by
  unfold hdS at h
  by_cases e1 : und ow x t = true
  · rw [if_pos e1] at h; cases h
  · rw [if_neg e1] at h
    rw [Bool.not_eq_true] at e1
    by_cases e2 : cnR to t r = 1
    · rw [if_pos e2] at h
      have hl := la_lt to t r (by omega)
      by_cases e3 : fr (laR to t r) = x
      · rw [if_pos e3] at h; cases h
      · rw [if_neg e3] at h
        cases h
        exact ⟨hl.1, e1⟩
    · rw [if_neg e2] at h; cases h
theorem handOn_c {n r t x : Nat} {kd ow fr to : Nat → Nat} {a f g : Nat → Int32} (h : AD n r kd ow fr to) (ha : RI n ow a) (hf : RI r fr f) (hg : RI r to g) (ht : t < n) (hx : x < n) (htx : t ≠ x) : f_X3_handOn (nI n) (nI r) a f g (nI t) (nI x) = some (match hdS r ow fr to t x with | none => (-(nI 3), a, f) | some q => (nI (fr q), upd a t (nI x), upd f q (nI x))) := by
  have hn := h.1.1
  have hr := h.1.2.1
  have hbd := h.1.bd
  unfold f_X3_handOn hdS
  rw [isThing_c, isThing_c, isT_nI hn ht, isT_nI hn hx, single_c hr hg (fun q hq => (hbd q hq).2) (by omega), isUnder_c hn ha h.ow2 h.2.2.1 ht (Or.inl hx)]
  rw [ob1_s, bT, ob1_s, bT, ifeqF htx (by omega) (by omega), ob1_s, ob1_s]
  by_cases e1 : und ow x t = true
  · rw [e1, bT]; rfl
  · rw [if_neg e1]
    rw [Bool.not_eq_true] at e1
    rw [e1, bF]
    by_cases e2 : cnR to t r = 1
    · have hl := la_lt to t r (by omega)
      have hbl := hbd _ hl.1
      rw [if_pos e2, if_pos e2, L9, ifeqN (by omega) (by omega) (by omega), cl_nI (by omega), cl_nI (by omega), ifgd0 (by omega) (by omega), hf _ hl.1]
      by_cases e3 : fr (laR to t r) = x
      · rw [ifeqT e3, if_pos e3]; rfl
      · rw [ifeqF e3 (by omega) (by omega), if_neg e3, ifgd0 (by omega) (by omega), ifgd0 (by omega) (by omega), ifgd0 (by omega) (by omega)]
    · rw [if_neg e2, if_neg e2, L9, if_pos rfl]
      rfl
