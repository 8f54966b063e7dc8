/-! TEXTS: things told by a row of codes -/
section TEXT
variable {a b B : Nat} {T C hc : Nat → Int32} {hl : Int32}
theorem ob8_s {A1 A2 A3 A4 A5 A6 A7 A8 β : Type} {a1 : A1} {a2 : A2} {a3 : A3} {a4 : A4} {a5 : A5} {a6 : A6} {a7 : A7} {a8 : A8} {f : A1 → A2 → A3 → A4 → A5 → A6 → A7 → A8 → Option β} : ob8 (some (a1, a2, a3, a4, a5, a6, a7, a8)) f = f a1 a2 a3 a4 a5 a6 a7 a8 := id rfl
theorem ob10_s {A1 A2 A3 A4 A5 A6 A7 A8 A9 A10 β : Type} {a1 : A1} {a2 : A2} {a3 : A3} {a4 : A4} {a5 : A5} {a6 : A6} {a7 : A7} {a8 : A8} {a9 : A9} {a10 : A10} {f : A1 → A2 → A3 → A4 → A5 → A6 → A7 → A8 → A9 → A10 → Option β} : ob10 (some (a1, a2, a3, a4, a5, a6, a7, a8, a9, a10)) f = f a1 a2 a3 a4 a5 a6 a7 a8 a9 a10 := id rfl
def TX (a b B : Nat) (T C hc : Nat → Int32) (hl : Int32) : Prop := (∀ j, j < b → f_X1_valueAt hl hc (nI a + nI j) = some (T j)) ∧ (∀ j, j < b → C (B + j) = T j) ∧ a + b ≤ 60 ∧ B + b ≤ 240
def cd (b : Nat) (T : Nat → Int32) (j : Nat) : Int32 := if j < b then T j else -1
def kdS (x : Int32) : Option Nat := if x = 100 then some 2 else if x = 103 then some 1 else if x = 112 then some 0 else none
def whS (c : Nat) (x : Int32) : Option Nat := if x = 119 then some 6 else if isT c (x - 48) then some (x - 48).toNatClampNeg else none
def oI (o : Option Nat) : Int32 := match o with | none => -9 | some k => nI k
theorem codeHere_c (h : TX a b B T C hc hl) {j : Nat} (hj : j < 1000) : f_X2_codeHere (nI a) (nI b) (nI j) hl hc = some (cd b T j) := by
  unfold f_X2_codeHere cd
  have := h.2.2.1
  by_cases e : j < b
  · rw [ifleF e (by omega), h.1 j e, ob1_s, if_pos e]
  · rw [ifleT (by omega) (by omega), if_neg e]
theorem isTaken_c (h : TX a b B T C hc hl) {j : Nat} (hj : j < 1000) (x : Int32) : f_X2_isTaken (nI a) (nI b) (nI j) hl hc x = if cd b T j = x then some (1, nI (j + 1)) else some (0, nI j) := by
  unfold f_X2_isTaken
  rw [codeHere_c h hj, ob1_s, L1, nI_ad]
theorem c47 : ∀ c, c < 7 → (48 : Int32) + (nI c - 1) = nI (47 + c) := by decide
theorem sub48 {x : Int32} : x - 48 + 48 = x := Int32.sub_add_cancel x 48
theorem dig_e {c : Nat} {x : Int32} (hc : c ≤ 6) : btw x 48 (48 + (nI c - 1)) = isT c (x - 48) := by
  rw [c47 c (by omega)]
  by_cases h : isT c (x - 48) = true
  · rw [h]
    obtain ⟨t, ht, e⟩ := isT_ex hc h
    have e2 : x = nI (t + 48) := by rw [← sub48 (x := x), e, show (48 : Int32) = nI 48 from rfl, nI_ad]
    rw [e2]
    simp only [btw, decide_eq_true_eq]
    refine ⟨?_, nI_nlt (by omega) (by omega)⟩
    exact nI_nlt (b := 48) (by omega) (by omega)
  · have h' := h
    rw [Bool.not_eq_true] at h'
    rw [h', ← Bool.not_eq_true]
    intro q
    apply h
    simp only [btw, decide_eq_true_eq] at q
    obtain ⟨q1, q2⟩ := q
    have h3 : ¬ x < 0 := by
      intro q
      apply q1
      rw [Int32.lt_iff_toInt_lt] at q ⊢
      have e1 : (0 : Int32).toInt = 0 := by decide
      have e2 : (48 : Int32).toInt = 48 := by decide
      omega
    obtain ⟨m, hm, rfl⟩ := pos_ex h3
    have h4 : 48 ≤ m := by
      apply Classical.byContradiction
      intro q
      exact q1 (nI_lt (b := 48) (by omega) (by omega))
    have h5 : m ≤ 47 + c := by
      apply Classical.byContradiction
      intro q
      exact q2 (nI_lt (by omega) (by omega))
    rw [show (48 : Int32) = nI 48 from rfl, nI_sb h4]
    exact isT_nI hc (by omega)
theorem oI_ne {o : Option Nat} (h : ∀ k, o = some k → k < 1000) : (oI o = -9 ↔ o = none) := by
  cases o with
  | none => exact ⟨fun _ => rfl, fun _ => rfl⟩
  | some k => exact ⟨fun q => absurd (show nI k = -(nI 9) from q) (nI_neg_ne (by have := h k rfl; omega) (by omega) (by omega)), fun q => by cases q⟩
theorem oIn {α : Type} {X Y : α} : (if oI none = -9 then X else Y) = X := if_pos rfl
theorem oIs {α : Type} {X Y : α} {k : Nat} (h : k < 1000) : (if oI (some k) = -9 then X else Y) = Y := if_neg (fun q => nI_neg_ne (a := k) (k := 9) (by omega) (by omega) (by omega) q)
theorem whS_lt {c o : Nat} {x : Int32} (hc : c ≤ 6) (h : whS c x = some o) : (o < c ∨ o = 6) ∧ x ≠ -1 := by
  unfold whS at h
  by_cases e : x = 119
  · rw [if_pos e] at h
    cases h
    exact ⟨Or.inr rfl, by rw [e]; decide⟩
  · rw [if_neg e] at h
    by_cases e2 : isT c (x - 48) = true
    · rw [if_pos e2] at h
      cases h
      obtain ⟨t, ht, e3⟩ := isT_ex hc e2
      rw [e3, cl_nI (by omega)]
      refine ⟨Or.inl ht, fun q => ?_⟩
      rw [q] at e2
      have : isT c (-1 - 48) = false := by
        unfold isT
        have : ((-1 : Int32) - 48 < 0) := by decide
        simp [this]
      rw [this] at e2
      cases e2
    · rw [if_neg e2] at h
      cases h
theorem ownerHere_c (h : TX a b B T C hc hl) {j c : Nat} (hj : j < 1000) (hc6 : c ≤ 6) : f_X2_ownerHere (nI a) (nI b) (nI j) hl hc (nI c) = some (oI (whS c (cd b T j))) := by
  unfold f_X2_ownerHere whS
  rw [codeHere_c h hj, ob1_s]
  by_cases e : cd b T j = 119
  · rw [if_pos e, if_pos e]; rfl
  · rw [if_neg e, if_neg e, isThing_c, ob1_s]
    by_cases e2 : isT c (cd b T j - 48) = true
    · obtain ⟨t, ht, e3⟩ := isT_ex hc6 e2
      rw [e2, bT, e3, cl_nI (by omega)]; rfl
    · rw [Bool.not_eq_true] at e2
      rw [e2, bF]; rfl
theorem kindHere_c (h : TX a b B T C hc hl) {j : Nat} (hj : j < 1000) : f_X2_kindHere (nI a) (nI b) (nI j) hl hc = some (oI (kdS (cd b T j))) := by
  unfold f_X2_kindHere kdS
  rw [codeHere_c h hj, ob1_s]
  by_cases e1 : cd b T j = 100
  · rw [if_pos e1, if_pos e1]; rfl
  rw [if_neg e1, if_neg e1]
  by_cases e2 : cd b T j = 103
  · rw [if_pos e2, if_pos e2]; rfl
  rw [if_neg e2, if_neg e2]
  by_cases e3 : cd b T j = 112
  · rw [if_pos e3, if_pos e3]; rfl
  rw [if_neg e3, if_neg e3]; rfl
theorem kdS_le {x : Int32} {q : Nat} (h : kdS x = some q) : q ≤ 2 ∧ x ≠ -1 := by
  unfold kdS at h
  by_cases e1 : x = 100
  · rw [if_pos e1] at h; cases h; exact ⟨by omega, by rw [e1]; decide⟩
  rw [if_neg e1] at h
  by_cases e2 : x = 103
  · rw [if_pos e2] at h; cases h; exact ⟨by omega, by rw [e2]; decide⟩
  rw [if_neg e2] at h
  by_cases e3 : x = 112
  · rw [if_pos e3] at h; cases h; exact ⟨by omega, by rw [e3]; decide⟩
  rw [if_neg e3] at h
  cases h
theorem cd_lt {j : Nat} (h : cd b T j ≠ -1) : j < b := by
  apply Classical.byContradiction
  intro q
  exact h (if_neg q)
/-! one thing -/
theorem isThingRead_c (h : TX a b B T C hc hl) {j c : Nat} (hj : j < 900) (hc6 : c < 6) (K A : Nat → Int32) : f_X2_isThingRead (nI a) (nI b) (nI j) hl hc (nI c) K A = if cd b T j = 59 then (match kdS (cd b T (j + 1)) with | none => some ((0 : Int32), nI (j + 1), nI c, K, A) | some q => match whS c (cd b T (j + 2)) with | none => some ((0 : Int32), nI (j + 2), nI c, K, A) | some o => some ((1 : Int32), nI (j + 3), nI (c + 1), upd K c (nI q), upd A c (nI o))) else some ((0 : Int32), nI j, nI c, K, A) := by
  unfold f_X2_isThingRead
  rw [isTaken_c h (by omega)]
  by_cases e : cd b T j = 59
  · rw [if_pos e, if_pos e, ob2_s, if_neg (by decide), kindHere_c h (by omega), ob1_s]
    cases hk : kdS (cd b T (j + 1)) with
    | none => rw [oIn]
    | some q =>
      have hq := kdS_le hk
      rw [oIs (by omega), L1, nI_ad, ownerHere_c h (by omega) (by omega), ob1_s]
      cases hw : whS c (cd b T (j + 2)) with
      | none => rw [oIn]
      | some o =>
        have ho := whS_lt (by omega) hw
        rw [oIs (by omega)]
        unfold f_X3_addThing
        rw [L6, ifleF hc6 (by omega), cl_nI (by omega), ifgd0 (by omega) (by omega), ifgd0 (by omega) (by omega), ob3_s, L1, nI_ad, nI_ad]
        rfl
  · rw [if_neg e, if_neg e, ob2_s, if_pos rfl]
/-! one reference -/
def tgS (n o r : Nat) (fr to : Nat → Nat) (x : Int32) : Option Nat := if isT n (x - 48) then (if (x - 48).toNatClampNeg = o then none else if fnd r fr to o (x - 48).toNatClampNeg < r then none else some (x - 48).toNatClampNeg) else none
theorem tgS_lt {n o r t : Nat} {fr to : Nat → Nat} {x : Int32} (hn : n ≤ 6) (h : tgS n o r fr to x = some t) : t < n ∧ t ≠ o ∧ x ≠ -1 := by
  unfold tgS at h
  by_cases e2 : isT n (x - 48) = true
  · rw [if_pos e2] at h
    by_cases e3 : (x - 48).toNatClampNeg = o
    · rw [if_pos e3] at h; cases h
    rw [if_neg e3] at h
    by_cases e4 : fnd r fr to o (x - 48).toNatClampNeg < r
    · rw [if_pos e4] at h; cases h
    rw [if_neg e4] at h
    cases h
    obtain ⟨t, ht, e5⟩ := isT_ex hn e2
    rw [e5, cl_nI (by omega)] at e3 ⊢
    refine ⟨ht, e3, fun q => ?_⟩
    rw [q] at e2
    have : isT n (-1 - 48) = false := by
      unfold isT
      have : ((-1 : Int32) - 48 < 0) := by decide
      simp [this]
    rw [this] at e2
    cases e2
  · rw [if_neg e2] at h
    cases h
theorem fndI_iff {r a b : Nat} {fr to : Nat → Nat} (hr : r ≤ 12) : fndI r fr to a b = -9 ↔ ¬ fnd r fr to a b < r := by
  unfold fndI
  by_cases e : fnd r fr to a b < r
  · rw [if_pos e]
    exact ⟨fun q => absurd (show nI _ = -(nI 9) from q) (nI_neg_ne (by omega) (by omega) (by omega)), fun q => absurd e q⟩
  · rw [if_neg e]
    exact ⟨fun _ => e, fun _ => rfl⟩
theorem isReferenceRead_c (h : TX a b B T C hc hl) {j n r : Nat} {fr to : Nat → Nat} {f g : Nat → Int32} (hj : j < 900) (hw : Web n r fr to) (hr : r < 12) (hf : RI r fr f) (hg : RI r to g) : f_X2_isReferenceRead (nI a) (nI b) (nI j) hl hc (nI n) (nI r) f g = if cd b T j = 44 then (match whS n (cd b T (j + 1)) with | none => some ((0 : Int32), nI (j + 1), nI r, f, g) | some o => match tgS n o r fr to (cd b T (j + 2)) with | none => some ((0 : Int32), nI (j + 2), nI r, f, g) | some t => some ((1 : Int32), nI (j + 3), nI (r + 1), upd f r (nI o), upd g r (nI t))) else some ((0 : Int32), nI j, nI r, f, g) := by
  have hn := hw.1
  unfold f_X2_isReferenceRead
  rw [isTaken_c h (by omega)]
  by_cases e : cd b T j = 44
  · rw [if_pos e, if_pos e, ob2_s, if_neg (by decide), ownerHere_c h (by omega) hn, ob1_s]
    cases hk : whS n (cd b T (j + 1)) with
    | none => rw [oIn]
    | some o =>
      have ho := whS_lt hn hk
      rw [oIs (by omega), L1, nI_ad, codeHere_c h (by omega), ob1_s, isThing_c, ob1_s]
      show _ = match tgS n o r fr to (cd b T (j + 2)) with | none => some ((0 : Int32), nI (j + 2), nI r, f, g) | some t => some ((1 : Int32), nI (j + 3), nI (r + 1), upd f r (nI o), upd g r (nI t))
      unfold tgS
      by_cases e2 : isT n (cd b T (j + 2) - 48) = true
      · obtain ⟨t, ht, e3⟩ := isT_ex hn e2
        rw [e2, e3, if_pos rfl, bT, cl_nI (by omega)]
        by_cases e4 : t = o
        · rw [if_pos e4, show oI (some o) = nI o from rfl, ifeqT e4]
        · rw [if_neg e4, show oI (some o) = nI o from rfl, ifeqF e4 (by omega) (by omega), find_c (by omega) hf hg hw.bd (by omega) (by omega), ob1_s]
          by_cases e5 : fnd r fr to o t < r
          · rw [if_pos e5, if_neg (fun q => (fndI_iff (by omega)).mp q e5)]
          · rw [if_neg e5, if_pos ((fndI_iff (by omega)).mpr e5)]
            unfold f_X3_addReference
            rw [L12, ifleF hr (by omega), cl_nI (by omega), ifgd0 (by omega) (by omega), ifgd0 (by omega) (by omega), ob3_s, L1, nI_ad, nI_ad]
      · rw [if_neg e2]
        rw [Bool.not_eq_true] at e2
        rw [e2, bF]
  · rw [if_neg e, if_neg e, ob2_s, if_pos rfl]
theorem btw_isT {n : Nat} {x : Int32} (hn : n ≤ 6) : btw x 0 (nI n - 1) = isT n x := by
  by_cases h : isT n x = true
  · rw [h]
    obtain ⟨t, ht, rfl⟩ := isT_ex hn h
    exact (btw_L (by omega)).mpr ⟨t, ht, rfl⟩
  · have h' := h
    rw [Bool.not_eq_true] at h'
    rw [h', ← Bool.not_eq_true]
    intro q
    obtain ⟨t, ht, rfl⟩ := (btw_L (by omega)).mp q
    exact h (isT_nI hn ht)
/-! all the things, all the references -/
def ownS (c : Nat) (kd ow : Nat → Nat) : Prop := (∀ t, t < c → kd t ≤ 2 ∧ (ow t < t ∨ ow t = 6)) ∧ ∀ t, c ≤ t → ow t = 6
theorem ownS_ac {c : Nat} {kd ow : Nat → Nat} (h : ownS c kd ow) : AC c ow := by
  have key : ∀ m t, t < m → t < c → ∃ d, Ch c ow d t := by
    intro m
    induction m with
    | zero => intro t h1; omega
    | succ m ih =>
      intro t h1 h2
      rcases (h.1 t h2).2 with h3 | h3
      · obtain ⟨d, hd⟩ := ih (ow t) (by omega) (by omega)
        exact ⟨d + 1, h2, hd⟩
      · exact ⟨1, h2, h3⟩
  intro t ht
  exact key (t + 1) t (by omega) ht
theorem ownS_ad {c r : Nat} {kd ow fr to : Nat → Nat} (h : ownS c kd ow) (hw : Web c r fr to) : AD c r kd ow fr to := ⟨hw, fun t ht => ⟨(h.1 t ht).1, by have := (h.1 t ht).2; omega⟩, h.2, ownS_ac h⟩
theorem ownS_up {c q o : Nat} {kd ow : Nat → Nat} (h : ownS c kd ow) (hq : q ≤ 2) (ho : o < c ∨ o = 6) : ownS (c + 1) (upN kd c q) (upN ow c o) := by
  refine ⟨fun t ht => ?_, fun t ht => ?_⟩
  · unfold upN
    by_cases e : t = c
    · rw [if_pos e, if_pos e, e]; exact ⟨hq, ho⟩
    · rw [if_neg e, if_neg e]; exact h.1 t (by omega)
  · unfold upN
    rw [if_neg (by omega)]
    exact h.2 t (by omega)
def thI (a b B i : Nat) (s : Int32 × Int32 × Int32 × (Nat → Int32) × (Nat → Int32)) (t : Int32 × Int32 × (Nat → Int32) × (Nat → Int32)) : Prop := ∃ j kd ow K1 A1 K2 A2, j ≤ b ∧ s = (nI i, nI j, nI i, K1, A1) ∧ t = (nI (B + j), nI i, K2, A2) ∧ RI i kd K1 ∧ RI i ow A1 ∧ RI i kd K2 ∧ RI i ow A2 ∧ ownS i kd ow
def thQ (a b B : Nat) (W Z : Nat → Int32) (s : (Int32 × Int32 × (Nat → Int32) × (Nat → Int32)) ⊕ (Int32 × Int32 × Int32 × (Nat → Int32) × (Nat → Int32))) (t : (Int32 × Int32 × (Nat → Int32) × (Nat → Int32)) ⊕ (Int32 × Int32 × Int32 × Int32 × (Nat → Int32) × (Nat → Int32) × (Nat → Int32) × (Nat → Int32))) : Prop := (∃ c j kd ow K1 A1 K2 A2, 1 ≤ c ∧ c ≤ 6 ∧ j ≤ b ∧ (s = .inl (nI j, nI c, K1, A1) ∨ s = .inr ((1 : Int32), nI j, nI c, K1, A1)) ∧ t = .inl (nI (B + j), nI c, K2, A2) ∧ RI c kd K1 ∧ RI c ow A1 ∧ RI c kd K2 ∧ RI c ow A2 ∧ ownS c kd ow) ∨ (∃ p c1 K1 A1 c2 r2 K2 A2, p ≤ b ∧ s = .inr ((0 : Int32), nI p, c1, K1, A1) ∧ t = .inr ((0 : Int32), nI (B + p), c2, r2, K2, A2, W, Z))
def rfI (b B n i : Nat) (s : Int32 × Int32 × Int32 × (Nat → Int32) × (Nat → Int32)) (t : Int32 × Int32 × (Nat → Int32) × (Nat → Int32)) : Prop := ∃ j fr to F1 G1 F2 G2, j ≤ b ∧ s = (nI i, nI j, nI i, F1, G1) ∧ t = (nI (B + j), nI i, F2, G2) ∧ RI i fr F1 ∧ RI i to G1 ∧ RI i fr F2 ∧ RI i to G2 ∧ Web n i fr to
def rfQ (b B n : Nat) (K A : Nat → Int32) (s : (Int32 × Int32 × (Nat → Int32) × (Nat → Int32)) ⊕ (Int32 × Int32 × Int32 × (Nat → Int32) × (Nat → Int32))) (t : (Int32 × Int32 × (Nat → Int32) × (Nat → Int32)) ⊕ (Int32 × Int32 × Int32 × Int32 × (Nat → Int32) × (Nat → Int32) × (Nat → Int32) × (Nat → Int32))) : Prop := (∃ r j fr to F1 G1 F2 G2, j ≤ b ∧ s = .inl (nI j, nI r, F1, G1) ∧ t = .inl (nI (B + j), nI r, F2, G2) ∧ RI r fr F1 ∧ RI r to G1 ∧ RI r fr F2 ∧ RI r to G2 ∧ Web n r fr to) ∨ (∃ p r1 F1 G1 r2 F2 G2, p ≤ b ∧ s = .inr ((0 : Int32), nI p, r1, F1, G1) ∧ t = .inr ((0 : Int32), nI (B + p), nI n, r2, K, A, F2, G2))
theorem Web_ap {n r o t : Nat} {fr to : Nat → Nat} (h : Web n r fr to) (hr : r < 12) (ho : o < n ∨ o = 6) (ht : t < n) : Web n (r + 1) (upN fr r o) (upN to r t) := by
  refine ⟨h.1, by omega, fun q hq => ?_⟩
  unfold upN
  by_cases e : q = r
  · rw [if_pos e, if_pos e]; exact ⟨ho, ht⟩
  · rw [if_neg e, if_neg e]; exact h.2.2 q (by omega)
end TEXT
section THINGS
variable {n r c : Nat} {kd ow fr to on ot le : Nat → Nat} {c1 r1 c2 r2 e1 e2 : Int32} {k1 a1 f1 g1 k2 a2 f2 g2 o1 p1 l1 o2 p2 l2 : Nat → Int32} {sl sn S LL C : Nat → Int32} {sc : Nat → Nat → Int32}
end THINGS
