/-! TEXTS: things told by a row of codes -/
section TEXT
variable {a b B : Nat} {T C hc : Nat → Int32} {hl : Int32}
theorem ob8_s {A1 A2 A3 A4 A5 A6 A7 A8 β : Type} {a1 : A1} {a2 : A2} {a3 : A3} {a4 : A4} {a5 : A5} {a6 : A6} {a7 : A7} {a8 : A8} {f : A1 → A2 → A3 → A4 → A5 → A6 → A7 → A8 → Option β} : ob8 (some (a1, a2, a3, a4, a5, a6, a7, a8)) f = f a1 a2 a3 a4 a5 a6 a7 a8 := id rfl
theorem ob10_s {A1 A2 A3 A4 A5 A6 A7 A8 A9 A10 β : Type} {a1 : A1} {a2 : A2} {a3 : A3} {a4 : A4} {a5 : A5} {a6 : A6} {a7 : A7} {a8 : A8} {a9 : A9} {a10 : A10} {f : A1 → A2 → A3 → A4 → A5 → A6 → A7 → A8 → A9 → A10 → Option β} : ob10 (some (a1, a2, a3, a4, a5, a6, a7, a8, a9, a10)) f = f a1 a2 a3 a4 a5 a6 a7 a8 a9 a10 := id rfl
def TX (a b B : Nat) (T C hc : Nat → Int32) (hl : Int32) : Prop := (∀ j, j < b → f_X1_valueAt hl hc (nI a + nI j) = some (T j)) ∧ (∀ j, j < b → C (B + j) = T j) ∧ a + b ≤ 60 ∧ B + b ≤ 240
def cd (b : Nat) (T : Nat → Int32) (j : Nat) : Int32 := if j < b then T j else -1
def kdS (x : Int32) : Option Nat := if x = 100 then some 2 else if x = 103 then some 1 else if x = 112 then some 0 else none
def whS (c : Nat) (x : Int32) : Option Nat := if x = 119 then some 6 else if isT c (x - 48) then some (x - 48).toNatClampNeg else none
def oI (o : Option Nat) : Int32 := match o with | none => -9 | some k => nI k
theorem codeHere_c (h : TX a b B T C hc hl) {j : Nat} (hj : j < 1000) : f_X2_codeHere (nI a) (nI b) (nI j) hl hc = some (cd b T j) := by
  unfold f_X2_codeHere cd
  have := h.2.2.1
  by_cases e : j < b
  · rw [ifleF e (by omega), h.1 j e, ob1_s, if_pos e]
  · rw [ifleT (by omega) (by omega), if_neg e]
theorem isTaken_c (h : TX a b B T C hc hl) {j : Nat} (hj : j < 1000) (x : Int32) : f_X2_isTaken (nI a) (nI b) (nI j) hl hc x = if cd b T j = x then some (1, nI (j + 1)) else some (0, nI j) := by
  unfold f_X2_isTaken
  rw [codeHere_c h hj, ob1_s, L1, nI_ad]
theorem isSign_m (h : TX a b B T C hc hl) {j : Nat} (hj : j < 1000) (x : Int32) (hx : x ≠ -1) : f_X5_isSign C (nI (B + j)) (nI (B + b)) x = if cd b T j = x then some (1, nI (B + (j + 1))) else some (0, nI (B + j)) := by
  unfold f_X5_isSign cd
  have := h.2.2.2
  by_cases e : j < b
  · rw [ifleF (by omega) (by omega), cl_nI (by omega), ifgd0 (by omega) (by omega), h.2.1 j e, if_pos e, L1, nI_ad, Nat.add_assoc]
  · rw [ifleT (by omega) (by omega), if_neg e, if_neg (Ne.symm hx)]
theorem c47 : ∀ c, c < 7 → (48 : Int32) + (nI c - 1) = nI (47 + c) := by decide
theorem sub48 {x : Int32} : x - 48 + 48 = x := Int32.sub_add_cancel x 48
theorem dig_e {c : Nat} {x : Int32} (hc : c ≤ 6) : btw x 48 (48 + (nI c - 1)) = isT c (x - 48) := by
  rw [c47 c (by omega)]
  by_cases h : isT c (x - 48) = true
  · rw [h]
    obtain ⟨t, ht, e⟩ := isT_ex hc h
    have e2 : x = nI (t + 48) := by rw [← sub48 (x := x), e, show (48 : Int32) = nI 48 from rfl, nI_ad]
    rw [e2]
    simp only [btw, decide_eq_true_eq]
    refine ⟨?_, nI_nlt (by omega) (by omega)⟩
    exact nI_nlt (b := 48) (by omega) (by omega)
  · have h' := h
    rw [Bool.not_eq_true] at h'
    rw [h', ← Bool.not_eq_true]
    intro q
    apply h
    simp only [btw, decide_eq_true_eq] at q
    obtain ⟨q1, q2⟩ := q
    have h3 : ¬ x < 0 := by
      intro q
      apply q1
      rw [Int32.lt_iff_toInt_lt] at q ⊢
      have e1 : (0 : Int32).toInt = 0 := by decide
      have e2 : (48 : Int32).toInt = 48 := by decide
      omega
    obtain ⟨m, hm, rfl⟩ := pos_ex h3
    have h4 : 48 ≤ m := by
      apply Classical.byContradiction
      intro q
      exact q1 (nI_lt (b := 48) (by omega) (by omega))
    have h5 : m ≤ 47 + c := by
      apply Classical.byContradiction
      intro q
      exact q2 (nI_lt (by omega) (by omega))
    rw [show (48 : Int32) = nI 48 from rfl, nI_sb h4]
    exact isT_nI hc (by omega)
theorem oI_ne {o : Option Nat} (h : ∀ k, o = some k → k < 1000) : (oI o = -9 ↔ o = none) := by
  cases o with
  | none => exact ⟨fun _ => rfl, fun _ => rfl⟩
  | some k => exact ⟨fun q => absurd (show nI k = -(nI 9) from q) (nI_neg_ne (by have := h k rfl; omega) (by omega) (by omega)), fun q => by cases q⟩
theorem oIn {α : Type} {X Y : α} : (if oI none = -9 then X else Y) = X := if_pos rfl
theorem oIs {α : Type} {X Y : α} {k : Nat} (h : k < 1000) : (if oI (some k) = -9 then X else Y) = Y := if_neg (fun q => nI_neg_ne (a := k) (k := 9) (by omega) (by omega) (by omega) q)
theorem whS_lt {c o : Nat} {x : Int32} (hc : c ≤ 6) (h : whS c x = some o) : (o < c ∨ o = 6) ∧ x ≠ -1 := by
  unfold whS at h
  by_cases e : x = 119
  · rw [if_pos e] at h
    cases h
    exact ⟨Or.inr rfl, by rw [e]; decide⟩
  · rw [if_neg e] at h
    by_cases e2 : isT c (x - 48) = true
    · rw [if_pos e2] at h
      cases h
      obtain ⟨t, ht, e3⟩ := isT_ex hc e2
      rw [e3, cl_nI (by omega)]
      refine ⟨Or.inl ht, fun q => ?_⟩
      rw [q] at e2
      have : isT c (-1 - 48) = false := by
        unfold isT
        have : ((-1 : Int32) - 48 < 0) := by decide
        simp [this]
      rw [this] at e2
      cases e2
    · rw [if_neg e2] at h
      cases h
theorem ownerHere_c (h : TX a b B T C hc hl) {j c : Nat} (hj : j < 1000) (hc6 : c ≤ 6) : f_X2_ownerHere (nI a) (nI b) (nI j) hl hc (nI c) = some (oI (whS c (cd b T j))) := by
  unfold f_X2_ownerHere whS
  rw [codeHere_c h hj, ob1_s]
  by_cases e : cd b T j = 119
  · rw [if_pos e, if_pos e]; rfl
  · rw [if_neg e, if_neg e, isThing_c, ob1_s]
    by_cases e2 : isT c (cd b T j - 48) = true
    · obtain ⟨t, ht, e3⟩ := isT_ex hc6 e2
      rw [e2, bT, e3, cl_nI (by omega)]; rfl
    · rw [Bool.not_eq_true] at e2
      rw [e2, bF]; rfl
theorem whoBy_m (h : TX a b B T C hc hl) {j c : Nat} (hj : j < 1000) (hc6 : c ≤ 6) : f_X5_whoBy C (nI (B + j)) (nI (B + b)) (nI c) = some (oI (whS c (cd b T j)), nI (B + (if whS c (cd b T j) = none then j else j + 1))) := by
  unfold f_X5_whoBy
  have hB := h.2.2.2
  rw [isSign_m h hj 119 (by decide)]
  unfold whS
  by_cases e : cd b T j = 119
  · rw [if_pos e, if_pos e, ob2_s, if_neg (by decide), if_neg (by simp)]; rfl
  · rw [if_neg e, if_neg e, ob2_s, if_pos rfl]
    unfold f_X5_digit
    by_cases e1 : j < b
    · have e4 : cd b T j = T j := if_pos e1
      rw [ifleF (by omega) (by omega), cl_nI (by omega), ifgd0 (by omega) (by omega), h.2.1 j e1, btw_m, dig_e hc6, ob1_s, e4]
      by_cases e2 : isT c (T j - 48) = true
      · obtain ⟨t, ht, e3⟩ := isT_ex hc6 e2
        rw [e2, bT, L1, nI_ad, nI_sb (by omega), show B + j + 1 - 1 = B + j by omega, cl_nI (by omega), ifgd0 (by omega) (by omega), h.2.1 j e1, e3, ob2_s, cl_nI (by omega)]
        simp only [if_true]
        rfl
      · rw [Bool.not_eq_true] at e2
        rw [e2, bF, ob2_s]; rfl
    · have e4 : cd b T j = -1 := if_neg e1
      have e5 : isT c (-1 - 48) = false := by
        unfold isT
        have : ((-1 : Int32) - 48 < 0) := by decide
        simp [this]
      rw [ifleT (by omega) (by omega), ob2_s, e4, e5]; rfl
theorem kindHere_c (h : TX a b B T C hc hl) {j : Nat} (hj : j < 1000) : f_X2_kindHere (nI a) (nI b) (nI j) hl hc = some (oI (kdS (cd b T j))) := by
  unfold f_X2_kindHere kdS
  rw [codeHere_c h hj, ob1_s]
  by_cases e1 : cd b T j = 100
  · rw [if_pos e1, if_pos e1]; rfl
  rw [if_neg e1, if_neg e1]
  by_cases e2 : cd b T j = 103
  · rw [if_pos e2, if_pos e2]; rfl
  rw [if_neg e2, if_neg e2]
  by_cases e3 : cd b T j = 112
  · rw [if_pos e3, if_pos e3]; rfl
  rw [if_neg e3, if_neg e3]; rfl
theorem kdS_le {x : Int32} {q : Nat} (h : kdS x = some q) : q ≤ 2 ∧ x ≠ -1 := by
  unfold kdS at h
  by_cases e1 : x = 100
  · rw [if_pos e1] at h; cases h; exact ⟨by omega, by rw [e1]; decide⟩
  rw [if_neg e1] at h
  by_cases e2 : x = 103
  · rw [if_pos e2] at h; cases h; exact ⟨by omega, by rw [e2]; decide⟩
  rw [if_neg e2] at h
  by_cases e3 : x = 112
  · rw [if_pos e3] at h; cases h; exact ⟨by omega, by rw [e3]; decide⟩
  rw [if_neg e3] at h
  cases h
theorem cd_lt {j : Nat} (h : cd b T j ≠ -1) : j < b := by
  apply Classical.byContradiction
  intro q
  exact h (if_neg q)
/-! one thing -/
theorem isThingRead_c (h : TX a b B T C hc hl) {j c : Nat} (hj : j < 900) (hc6 : c < 6) (K A : Nat → Int32) : f_X2_isThingRead (nI a) (nI b) (nI j) hl hc (nI c) K A = if cd b T j = 59 then (match kdS (cd b T (j + 1)) with | none => some ((0 : Int32), nI (j + 1), nI c, K, A) | some q => match whS c (cd b T (j + 2)) with | none => some ((0 : Int32), nI (j + 2), nI c, K, A) | some o => some ((1 : Int32), nI (j + 3), nI (c + 1), upd K c (nI q), upd A c (nI o))) else some ((0 : Int32), nI j, nI c, K, A) := by
  unfold f_X2_isThingRead
  rw [isTaken_c h (by omega)]
  by_cases e : cd b T j = 59
  · rw [if_pos e, if_pos e, ob2_s, if_neg (by decide), kindHere_c h (by omega), ob1_s]
    cases hk : kdS (cd b T (j + 1)) with
    | none => rw [oIn]
    | some q =>
      have hq := kdS_le hk
      rw [oIs (by omega), L1, nI_ad, ownerHere_c h (by omega) (by omega), ob1_s]
      cases hw : whS c (cd b T (j + 2)) with
      | none => rw [oIn]
      | some o =>
        have ho := whS_lt (by omega) hw
        rw [oIs (by omega)]
        unfold f_X3_addThing
        rw [L6, ifleF hc6 (by omega), cl_nI (by omega), ifgd0 (by omega) (by omega), ifgd0 (by omega) (by omega), ob3_s, L1, nI_ad, nI_ad]
        rfl
  · rw [if_neg e, if_neg e, ob2_s, if_pos rfl]
theorem readThing_m (h : TX a b B T C hc hl) {j c : Nat} (hj : j < 900) (hc6 : c < 6) (K A : Nat → Int32) : f_X5_readThing C (nI (B + j)) (nI c) K A (nI (B + b)) = match kdS (cd b T j) with | none => some ((0 : Int32), nI (B + j), nI c, upd K c (-9), A) | some q => match whS c (cd b T (j + 1)) with | none => some ((0 : Int32), nI (B + (j + 1)), nI (c + 1), upd K c (nI q), upd A c (-9)) | some o => some ((1 : Int32), nI (B + (j + 2)), nI (c + 1), upd K c (nI q), upd A c (nI o)) := by
  unfold f_X5_readThing
  have hB := h.2.2.2
  by_cases e : j < b
  · have ec : cd b T j = T j := if_pos e
    have tail : ∀ q : Nat, q ≤ 2 → (if nI c < 0 ∨ 6 ≤ (nI c).toNatClampNeg then none else if nI c < 0 ∨ 6 ≤ (nI c).toNatClampNeg then none else if (upd K (nI c).toNatClampNeg (nI q)) (nI c).toNatClampNeg = -9 then some ((0 : Int32), nI (B + j), nI c, upd K (nI c).toNatClampNeg (nI q), A) else ob2 (f_X5_whoBy C (nI (B + j) + 1) (nI (B + b)) (nI c)) (fun r_103 r_103_at => if nI c < 0 ∨ 6 ≤ (nI c).toNatClampNeg then none else if ((nI c + 1) - 1) < 0 ∨ 6 ≤ ((nI c + 1) - 1).toNatClampNeg then none else if (upd A (nI c).toNatClampNeg r_103) ((nI c + 1) - 1).toNatClampNeg = -9 then some ((0 : Int32), r_103_at, nI c + 1, upd K (nI c).toNatClampNeg (nI q), upd A (nI c).toNatClampNeg r_103) else some ((1 : Int32), r_103_at, nI c + 1, upd K (nI c).toNatClampNeg (nI q), upd A (nI c).toNatClampNeg r_103))) = match whS c (cd b T (j + 1)) with | none => some ((0 : Int32), nI (B + (j + 1)), nI (c + 1), upd K c (nI q), upd A c (-9)) | some o => some ((1 : Int32), nI (B + (j + 2)), nI (c + 1), upd K c (nI q), upd A c (nI o)) := by
      intro q hq
      rw [cl_nI (by omega), ifgd0 (by omega) (by omega), ifgd0 (by omega) (by omega), upd_at, L9, ifeqN (by omega) (by omega) (by omega), L1, nI_ad, nI_ad, nI_sb (by omega), show c + 1 - 1 = c by omega, cl_nI (by omega), Nat.add_assoc, whoBy_m h (by omega) (by omega), ob2_s, ifgd0 (by omega) (by omega), ifgd0 (by omega) (by omega), upd_at]
      cases hw : whS c (cd b T (j + 1)) with
      | none => rw [← L9, oIn]; rfl
      | some o =>
        have ho := whS_lt (by omega) hw
        rw [← L9, oIs (by omega)]
        simp only [if_false, reduceCtorEq]
        rfl
    rw [ifleF (by omega) (by omega), show ((nI (B + j)).toNatClampNeg) = B + j from cl_nI (by omega), ifgd0 (by omega) (by omega), h.2.1 j e, ec]
    unfold kdS
    by_cases e1 : T j = 112
    · have n1 : ¬ T j = 100 := by rw [e1]; decide
      have n2 : ¬ T j = 103 := by rw [e1]; decide
      rw [if_pos e1, if_neg n1, if_neg n2, if_pos e1]
      exact tail 0 (by omega)
    rw [if_neg e1]
    by_cases e2 : T j = 103
    · have n1 : ¬ T j = 100 := by rw [e2]; decide
      rw [if_pos e2, if_neg n1, if_pos e2]
      exact tail 1 (by omega)
    rw [if_neg e2]
    by_cases e3 : T j = 100
    · rw [if_pos e3, if_pos e3]
      exact tail 2 (by omega)
    rw [if_neg e3, if_neg e3, if_neg e2, if_neg e1, cl_nI (by omega), ifgd0 (by omega) (by omega), ifgd0 (by omega) (by omega), upd_at, if_pos rfl]
  · have ec : cd b T j = -1 := if_neg e
    rw [ifleT (by omega) (by omega), ec, cl_nI (by omega), ifgd0 (by omega) (by omega), ifgd0 (by omega) (by omega), upd_at, if_pos rfl]
    rfl
/-! one reference -/
def tgS (n o r : Nat) (fr to : Nat → Nat) (x : Int32) : Option Nat := if isT n (x - 48) then (if (x - 48).toNatClampNeg = o then none else if fnd r fr to o (x - 48).toNatClampNeg < r then none else some (x - 48).toNatClampNeg) else none
theorem tgS_lt {n o r t : Nat} {fr to : Nat → Nat} {x : Int32} (hn : n ≤ 6) (h : tgS n o r fr to x = some t) : t < n ∧ t ≠ o ∧ x ≠ -1 := by
  unfold tgS at h
  by_cases e2 : isT n (x - 48) = true
  · rw [if_pos e2] at h
    by_cases e3 : (x - 48).toNatClampNeg = o
    · rw [if_pos e3] at h; cases h
    rw [if_neg e3] at h
    by_cases e4 : fnd r fr to o (x - 48).toNatClampNeg < r
    · rw [if_pos e4] at h; cases h
    rw [if_neg e4] at h
    cases h
    obtain ⟨t, ht, e5⟩ := isT_ex hn e2
    rw [e5, cl_nI (by omega)] at e3 ⊢
    refine ⟨ht, e3, fun q => ?_⟩
    rw [q] at e2
    have : isT n (-1 - 48) = false := by
      unfold isT
      have : ((-1 : Int32) - 48 < 0) := by decide
      simp [this]
    rw [this] at e2
    cases e2
  · rw [if_neg e2] at h
    cases h
theorem fndI_iff {r a b : Nat} {fr to : Nat → Nat} (hr : r ≤ 12) : fndI r fr to a b = -9 ↔ ¬ fnd r fr to a b < r := by
  unfold fndI
  by_cases e : fnd r fr to a b < r
  · rw [if_pos e]
    exact ⟨fun q => absurd (show nI _ = -(nI 9) from q) (nI_neg_ne (by omega) (by omega) (by omega)), fun q => absurd e q⟩
  · rw [if_neg e]
    exact ⟨fun _ => e, fun _ => rfl⟩
theorem isReferenceRead_c (h : TX a b B T C hc hl) {j n r : Nat} {fr to : Nat → Nat} {f g : Nat → Int32} (hj : j < 900) (hw : Web n r fr to) (hr : r < 12) (hf : RI r fr f) (hg : RI r to g) : f_X2_isReferenceRead (nI a) (nI b) (nI j) hl hc (nI n) (nI r) f g = if cd b T j = 44 then (match whS n (cd b T (j + 1)) with | none => some ((0 : Int32), nI (j + 1), nI r, f, g) | some o => match tgS n o r fr to (cd b T (j + 2)) with | none => some ((0 : Int32), nI (j + 2), nI r, f, g) | some t => some ((1 : Int32), nI (j + 3), nI (r + 1), upd f r (nI o), upd g r (nI t))) else some ((0 : Int32), nI j, nI r, f, g) := by
  have hn := hw.1
  unfold f_X2_isReferenceRead
  rw [isTaken_c h (by omega)]
  by_cases e : cd b T j = 44
  · rw [if_pos e, if_pos e, ob2_s, if_neg (by decide), ownerHere_c h (by omega) hn, ob1_s]
    cases hk : whS n (cd b T (j + 1)) with
    | none => rw [oIn]
    | some o =>
      have ho := whS_lt hn hk
      rw [oIs (by omega), L1, nI_ad, codeHere_c h (by omega), ob1_s, isThing_c, ob1_s]
      show _ = match tgS n o r fr to (cd b T (j + 2)) with | none => some ((0 : Int32), nI (j + 2), nI r, f, g) | some t => some ((1 : Int32), nI (j + 3), nI (r + 1), upd f r (nI o), upd g r (nI t))
      unfold tgS
      by_cases e2 : isT n (cd b T (j + 2) - 48) = true
      · obtain ⟨t, ht, e3⟩ := isT_ex hn e2
        rw [e2, e3, if_pos rfl, bT, cl_nI (by omega)]
        by_cases e4 : t = o
        · rw [if_pos e4, show oI (some o) = nI o from rfl, ifeqT e4]
        · rw [if_neg e4, show oI (some o) = nI o from rfl, ifeqF e4 (by omega) (by omega), find_c (by omega) hf hg hw.bd (by omega) (by omega), ob1_s]
          by_cases e5 : fnd r fr to o t < r
          · rw [if_pos e5, if_neg (fun q => (fndI_iff (by omega)).mp q e5)]
          · rw [if_neg e5, if_pos ((fndI_iff (by omega)).mpr e5)]
            unfold f_X3_addReference
            rw [L12, ifleF hr (by omega), cl_nI (by omega), ifgd0 (by omega) (by omega), ifgd0 (by omega) (by omega), ob3_s, L1, nI_ad, nI_ad]
      · rw [if_neg e2]
        rw [Bool.not_eq_true] at e2
        rw [e2, bF]
  · rw [if_neg e, if_neg e, ob2_s, if_pos rfl]
theorem btw_isT {n : Nat} {x : Int32} (hn : n ≤ 6) : btw x 0 (nI n - 1) = isT n x := by
  by_cases h : isT n x = true
  · rw [h]
    obtain ⟨t, ht, rfl⟩ := isT_ex hn h
    exact (btw_L (by omega)).mpr ⟨t, ht, rfl⟩
  · have h' := h
    rw [Bool.not_eq_true] at h'
    rw [h', ← Bool.not_eq_true]
    intro q
    obtain ⟨t, ht, rfl⟩ := (btw_L (by omega)).mp q
    exact h (isT_nI hn ht)
theorem readReference_m (h : TX a b B T C hc hl) {j n r : Nat} {fr to : Nat → Nat} {f g : Nat → Int32} (hj : j < 900) (hw : Web n r fr to) (hr : r < 12) (hf : RI r fr f) (hg : RI r to g) : f_X5_readReference C (nI (B + j)) (nI n) (nI r) f g (nI (B + b)) = match whS n (cd b T j) with | none => some ((0 : Int32), nI (B + j), nI r, f, g) | some o => match tgS n o r fr to (cd b T (j + 1)) with | none => some ((0 : Int32), nI (B + (j + 1)), nI r, f, g) | some t => some ((1 : Int32), nI (B + (j + 2)), nI (r + 1), upd f r (nI o), upd g r (nI t)) := by
  have hn := hw.1
  have hB := h.2.2.2
  unfold f_X5_readReference
  rw [whoBy_m h (by omega) hn, ob2_s]
  cases hk : whS n (cd b T j) with
  | none => rw [oIn]; rfl
  | some o =>
    have ho := whS_lt hn hk
    rw [oIs (by omega)]
    simp only [if_false, reduceCtorEq]
    unfold tgS
    by_cases e1 : j + 1 < b
    · have ec : cd b T (j + 1) = T (j + 1) := if_pos e1
      rw [ifleF (by omega) (by omega), cl_nI (by omega), ifgd0 (by omega) (by omega), h.2.1 _ e1, btw_m, btw_isT hn, ob1_s, ec]
      by_cases e2 : isT n (T (j + 1) - 48) = true
      · obtain ⟨t, ht, e3⟩ := isT_ex hn e2
        rw [e2, bT, e3, if_pos rfl, show (nI t).toNatClampNeg = t from cl_nI (by omega)]
        by_cases e4 : t = o
        · rw [if_pos e4, show oI (some o) = nI o from rfl, ifeqT e4]
        · rw [if_neg e4, show oI (some o) = nI o from rfl, ifeqF e4 (by omega) (by omega)]
          have hlp : it (u1 (L_X5_readReference_68_2 C (nI r) f g (nI o) (nI (B + (j + 1))))) FUEL (0 : Int32) = some (if fnd r fr to o t < r then .inr ((0 : Int32), nI (B + (j + 1)), nI r, f, g) else .inl ()) := by
            refine it_search (body := u1 (L_X5_readReference_68_2 C (nI r) f g (nI o) (nI (B + (j + 1))))) (fun i => nI i) (isR fr to o t) (fun _ => ((0 : Int32), nI (B + (j + 1)), nI r, f, g)) () r (fun i hi hq => ?_) (fun i hi hq => ?_) ?_ FUEL (FUEL_gt (by omega))
            · show L_X5_readReference_68_2 C (nI r) f g (nI o) (nI (B + (j + 1))) (nI i) = some (.inl (nI (i + 1)))
              have hbi := hw.bd i hi
              simp only [isR, decide_eq_false_iff_not] at hq
              unfold L_X5_readReference_68_2
              rw [ifleF hi (by omega), cl_nI (by omega), ifgd0 (by omega) (by omega), ifgd0 (by omega) (by omega), hf i hi, hg i hi, cl_nI (by omega), h.2.1 _ e1, e3, L1, nI_ad]
              by_cases e5 : fr i = o
              · rw [ifeqT e5, ifeqF (fun q => hq ⟨e5, q⟩) (by omega) (by omega)]
              · rw [ifeqF e5 (by omega) (by omega)]
            · show L_X5_readReference_68_2 C (nI r) f g (nI o) (nI (B + (j + 1))) (nI i) = _
              have hbi := hw.bd i hi
              simp only [isR, decide_eq_true_eq] at hq
              unfold L_X5_readReference_68_2
              rw [ifleF hi (by omega), cl_nI (by omega), ifgd0 (by omega) (by omega), ifgd0 (by omega) (by omega), hf i hi, hg i hi, cl_nI (by omega), h.2.1 _ e1, e3, ifeqT hq.1, ifeqT hq.2]
            · show L_X5_readReference_68_2 C (nI r) f g (nI o) (nI (B + (j + 1))) (nI r) = _
              unfold L_X5_readReference_68_2
              rw [ifleT (by omega) (by omega)]
          rw [hlp]
          by_cases e5 : fnd r fr to o t < r
          · rw [if_pos e5, if_pos e5, os0_r]
          · rw [if_neg e5, if_neg e5, os0_l, cl_nI (by omega), ifgd0 (by omega) (by omega), ifgd0 (by omega) (by omega), L1, nI_ad, nI_ad]
            rfl
      · rw [if_neg e2]
        rw [Bool.not_eq_true] at e2
        rw [e2, bF]
    · have ec : cd b T (j + 1) = -1 := if_neg e1
      have e5 : isT n (-1 - 48) = false := by
        unfold isT
        have : ((-1 : Int32) - 48 < 0) := by decide
        simp [this]
      have e6 : btw (-9) 0 (nI n - 1) = false := by
        unfold btw
        have : (-9 : Int32) < 0 := by decide
        simp [this]
      rw [ifleT (by omega) (by omega), btw_m, e6, ob1_s, bF, ec, e5, if_neg (by decide)]
/-! all the things, all the references -/
def ownS (c : Nat) (kd ow : Nat → Nat) : Prop := (∀ t, t < c → kd t ≤ 2 ∧ (ow t < t ∨ ow t = 6)) ∧ ∀ t, c ≤ t → ow t = 6
theorem ownS_ac {c : Nat} {kd ow : Nat → Nat} (h : ownS c kd ow) : AC c ow := by
  have key : ∀ m t, t < m → t < c → ∃ d, Ch c ow d t := by
    intro m
    induction m with
    | zero => intro t h1; omega
    | succ m ih =>
      intro t h1 h2
      rcases (h.1 t h2).2 with h3 | h3
      · obtain ⟨d, hd⟩ := ih (ow t) (by omega) (by omega)
        exact ⟨d + 1, h2, hd⟩
      · exact ⟨1, h2, h3⟩
  intro t ht
  exact key (t + 1) t (by omega) ht
theorem ownS_ad {c r : Nat} {kd ow fr to : Nat → Nat} (h : ownS c kd ow) (hw : Web c r fr to) : AD c r kd ow fr to := ⟨hw, fun t ht => ⟨(h.1 t ht).1, by have := (h.1 t ht).2; omega⟩, h.2, ownS_ac h⟩
theorem ownS_up {c q o : Nat} {kd ow : Nat → Nat} (h : ownS c kd ow) (hq : q ≤ 2) (ho : o < c ∨ o = 6) : ownS (c + 1) (upN kd c q) (upN ow c o) := by
  refine ⟨fun t ht => ?_, fun t ht => ?_⟩
  · unfold upN
    by_cases e : t = c
    · rw [if_pos e, if_pos e, e]; exact ⟨hq, ho⟩
    · rw [if_neg e, if_neg e]; exact h.1 t (by omega)
  · unfold upN
    rw [if_neg (by omega)]
    exact h.2 t (by omega)
def thI (a b B i : Nat) (s : Int32 × Int32 × Int32 × (Nat → Int32) × (Nat → Int32)) (t : Int32 × Int32 × (Nat → Int32) × (Nat → Int32)) : Prop := ∃ j kd ow K1 A1 K2 A2, j ≤ b ∧ s = (nI i, nI j, nI i, K1, A1) ∧ t = (nI (B + j), nI i, K2, A2) ∧ RI i kd K1 ∧ RI i ow A1 ∧ RI i kd K2 ∧ RI i ow A2 ∧ ownS i kd ow
def thQ (a b B : Nat) (W Z : Nat → Int32) (s : (Int32 × Int32 × (Nat → Int32) × (Nat → Int32)) ⊕ (Int32 × Int32 × Int32 × (Nat → Int32) × (Nat → Int32))) (t : (Int32 × Int32 × (Nat → Int32) × (Nat → Int32)) ⊕ (Int32 × Int32 × Int32 × Int32 × (Nat → Int32) × (Nat → Int32) × (Nat → Int32) × (Nat → Int32))) : Prop := (∃ c j kd ow K1 A1 K2 A2, 1 ≤ c ∧ c ≤ 6 ∧ j ≤ b ∧ (s = .inl (nI j, nI c, K1, A1) ∨ s = .inr ((1 : Int32), nI j, nI c, K1, A1)) ∧ t = .inl (nI (B + j), nI c, K2, A2) ∧ RI c kd K1 ∧ RI c ow A1 ∧ RI c kd K2 ∧ RI c ow A2 ∧ ownS c kd ow) ∨ (∃ p c1 K1 A1 c2 r2 K2 A2, p ≤ b ∧ s = .inr ((0 : Int32), nI p, c1, K1, A1) ∧ t = .inr ((0 : Int32), nI (B + p), c2, r2, K2, A2, W, Z))
theorem things_go (h : TX a b B T C hc hl) (K1 A1 K2 A2 W Z : Nat → Int32) {j0 : Nat} (hj0 : j0 ≤ b) : ∃ s t, it (u5 (L_X2_areThingsRead_2 (nI a) (nI b) hl hc)) FUEL ((0 : Int32), nI j0, (0 : Int32), K1, A1) = some s ∧ it (u4 (L_X5_readAll_22 C W Z (nI (B + b)))) FUEL (nI (B + j0), (0 : Int32), K2, A2) = some t ∧ thQ a b B W Z s t := by
  have hab := h.2.2.1
  have hB := h.2.2.2
  refine it_two (b1 := u5 (L_X2_areThingsRead_2 (nI a) (nI b) hl hc)) (b2 := u4 (L_X5_readAll_22 C W Z (nI (B + b)))) (thI a b B) (thQ a b B W Z) 6 ?_ ?_ FUEL (FUEL_gt (by omega)) _ _ ⟨j0, fun _ => 0, fun _ => 6, K1, A1, K2, A2, hj0, rfl, rfl, fun i hi => by omega, fun i hi => by omega, fun i hi => by omega, fun i hi => by omega, ⟨fun t ht => by omega, fun t _ => rfl⟩⟩
  · rintro i s t hi ⟨j, kd, ow, K1, A1, K2, A2, hj, rfl, rfl, i1, i2, i3, i4, hown⟩
    have att : (∃ s' t', ob5 (f_X2_isThingRead (nI a) (nI b) (nI j) hl hc (nI i) K1 A1) (fun r_24 r_24_at r_24_count r_24_kind r_24_owner => if r_24 = 0 then (some (.inr (.inr ((0 : Int32), r_24_at, r_24_count, r_24_kind, r_24_owner))) : Option ((Int32 × Int32 × Int32 × (Nat → Int32) × (Nat → Int32)) ⊕ ((Int32 × Int32 × (Nat → Int32) × (Nat → Int32)) ⊕ (Int32 × Int32 × Int32 × (Nat → Int32) × (Nat → Int32))))) else some (.inl ((nI i + 1), r_24_at, r_24_count, r_24_kind, r_24_owner))) = some (.inl s') ∧ ob2 (f_X5_isSign C (nI (B + j)) (nI (B + b)) 59) (fun r_64 r_64_at => if r_64 = 0 then (some (.inr (.inr ((0 : Int32), r_64_at, nI i, (0 : Int32), K2, A2, W, Z))) : Option ((Int32 × Int32 × (Nat → Int32) × (Nat → Int32)) ⊕ ((Int32 × Int32 × (Nat → Int32) × (Nat → Int32)) ⊕ (Int32 × Int32 × Int32 × Int32 × (Nat → Int32) × (Nat → Int32) × (Nat → Int32) × (Nat → Int32))))) else ob5 (f_X5_readThing C r_64_at (nI i) K2 A2 (nI (B + b))) (fun r_72 r_72_at r_72_readThings r_72_readKind r_72_readOwner => if r_72 = 0 then some (.inr (.inr ((0 : Int32), r_72_at, r_72_readThings, (0 : Int32), r_72_readKind, r_72_readOwner, W, Z))) else some (.inl (r_72_at, r_72_readThings, r_72_readKind, r_72_readOwner)))) = some (.inl t') ∧ thI a b B (i + 1) s' t') ∨ (∃ r r', ob5 (f_X2_isThingRead (nI a) (nI b) (nI j) hl hc (nI i) K1 A1) (fun r_24 r_24_at r_24_count r_24_kind r_24_owner => if r_24 = 0 then (some (.inr (.inr ((0 : Int32), r_24_at, r_24_count, r_24_kind, r_24_owner))) : Option ((Int32 × Int32 × Int32 × (Nat → Int32) × (Nat → Int32)) ⊕ ((Int32 × Int32 × (Nat → Int32) × (Nat → Int32)) ⊕ (Int32 × Int32 × Int32 × (Nat → Int32) × (Nat → Int32))))) else some (.inl ((nI i + 1), r_24_at, r_24_count, r_24_kind, r_24_owner))) = some (.inr r) ∧ ob2 (f_X5_isSign C (nI (B + j)) (nI (B + b)) 59) (fun r_64 r_64_at => if r_64 = 0 then (some (.inr (.inr ((0 : Int32), r_64_at, nI i, (0 : Int32), K2, A2, W, Z))) : Option ((Int32 × Int32 × (Nat → Int32) × (Nat → Int32)) ⊕ ((Int32 × Int32 × (Nat → Int32) × (Nat → Int32)) ⊕ (Int32 × Int32 × Int32 × Int32 × (Nat → Int32) × (Nat → Int32) × (Nat → Int32) × (Nat → Int32))))) else ob5 (f_X5_readThing C r_64_at (nI i) K2 A2 (nI (B + b))) (fun r_72 r_72_at r_72_readThings r_72_readKind r_72_readOwner => if r_72 = 0 then some (.inr (.inr ((0 : Int32), r_72_at, r_72_readThings, (0 : Int32), r_72_readKind, r_72_readOwner, W, Z))) else some (.inl (r_72_at, r_72_readThings, r_72_readKind, r_72_readOwner)))) = some (.inr r') ∧ thQ a b B W Z r r') := by
      rw [isThingRead_c h (by omega) hi, isSign_m h (by omega) 59 (by decide)]
      by_cases e : cd b T j = 59
      · have hjb := cd_lt (b := b) (T := T) (j := j) (by rw [e]; decide)
        rw [if_pos e, if_pos e, ob2_s, if_neg (by decide), readThing_m h (by omega) hi]
        cases hk : kdS (cd b T (j + 1)) with
        | none =>
          right
          exact ⟨_, _, rfl, rfl, Or.inr ⟨j + 1, _, _, _, _, _, _, _, by omega, rfl, rfl⟩⟩
        | some q =>
          obtain ⟨hq, hq1⟩ := kdS_le hk
          have hjb2 := cd_lt hq1
          cases hw : whS i (cd b T (j + 1 + 1)) with
          | none =>
            right
            have hw' : whS i (cd b T (j + 2)) = none := hw
            simp only [hw']
            exact ⟨_, _, rfl, rfl, Or.inr ⟨j + 2, _, _, _, _, _, _, _, by omega, rfl, rfl⟩⟩
          | some o =>
            left
            have hw' : whS i (cd b T (j + 2)) = some o := hw
            obtain ⟨ho, ho1⟩ := whS_lt (by omega) hw'
            have hjb3 := cd_lt ho1
            simp only [hw']
            exact ⟨_, _, by rw [L1, nI_ad]; rfl, rfl, j + 3, upN kd i q, upN ow i o, upd K1 i (nI q), upd A1 i (nI o), upd K2 i (nI q), upd A2 i (nI o), by omega, rfl, rfl, RI_ap i1, RI_ap i2, RI_ap i3, RI_ap i4, ownS_up hown hq ho⟩
      · rw [if_neg e, if_neg e, ob2_s, if_pos rfl]
        right
        exact ⟨_, _, rfl, rfl, Or.inr ⟨j, _, _, _, _, _, _, _, hj, rfl, rfl⟩⟩
    have b1 : u5 (L_X2_areThingsRead_2 (nI a) (nI b) hl hc) (nI i, nI j, nI i, K1, A1) = L_X2_areThingsRead_2 (nI a) (nI b) hl hc (nI i) (nI j) (nI i) K1 A1 := rfl
    have b2 : u4 (L_X5_readAll_22 C W Z (nI (B + b))) (nI (B + j), nI i, K2, A2) = L_X5_readAll_22 C W Z (nI (B + b)) (nI (B + j)) (nI i) K2 A2 := rfl
    rw [b1, b2]
    unfold L_X2_areThingsRead_2 L_X5_readAll_22
    by_cases i0 : i = 0
    · rw [L6, ifleF hi (by omega), L0, ifleT (by omega) (by omega), ifeqT i0, ← L0]
      exact att
    · rw [L6, ifleF hi (by omega), L0, ifleF (by omega) (by omega), ifeqF i0 (by omega) (by omega), ifleF hi (by omega), codeHere_c h (by omega), ob1_s, ← L0]
      by_cases e1 : j < b
      · have ec : cd b T j = T j := if_pos e1
        rw [ifleF (by omega) (by omega), cl_nI (by omega), ifgd0 (by omega) (by omega), h.2.1 j e1, ← ec]
        by_cases e2 : cd b T j = 59
        · rw [if_pos e2, if_pos e2]
          exact att
        · rw [if_neg e2, if_neg e2]
          right
          exact ⟨_, _, rfl, rfl, Or.inl ⟨i, j, kd, ow, K1, A1, K2, A2, by omega, by omega, hj, Or.inr rfl, rfl, i1, i2, i3, i4, hown⟩⟩
      · have ec : cd b T j = -1 := if_neg e1
        rw [ifleT (by omega) (by omega), ec, if_neg (by decide)]
        right
        exact ⟨_, _, rfl, rfl, Or.inl ⟨i, j, kd, ow, K1, A1, K2, A2, by omega, by omega, hj, Or.inr rfl, rfl, i1, i2, i3, i4, hown⟩⟩
  · rintro s t ⟨j, kd, ow, K1, A1, K2, A2, hj, rfl, rfl, i1, i2, i3, i4, hown⟩
    refine ⟨.inl (nI j, nI 6, K1, A1), .inl (nI (B + j), nI 6, K2, A2), ?_, ?_, Or.inl ⟨6, j, kd, ow, K1, A1, K2, A2, by omega, by omega, hj, Or.inl rfl, rfl, i1, i2, i3, i4, hown⟩⟩
    · show L_X2_areThingsRead_2 (nI a) (nI b) hl hc (nI 6) (nI j) (nI 6) K1 A1 = _
      unfold L_X2_areThingsRead_2
      rw [L6, ifleT (by omega) (by omega)]
    · show L_X5_readAll_22 C W Z (nI (B + b)) (nI (B + j)) (nI 6) K2 A2 = _
      unfold L_X5_readAll_22
      rw [L0, ifeqF (by omega) (by omega) (by omega), L6, ifleT (by omega) (by omega)]
def rfI (b B n i : Nat) (s : Int32 × Int32 × Int32 × (Nat → Int32) × (Nat → Int32)) (t : Int32 × Int32 × (Nat → Int32) × (Nat → Int32)) : Prop := ∃ j fr to F1 G1 F2 G2, j ≤ b ∧ s = (nI i, nI j, nI i, F1, G1) ∧ t = (nI (B + j), nI i, F2, G2) ∧ RI i fr F1 ∧ RI i to G1 ∧ RI i fr F2 ∧ RI i to G2 ∧ Web n i fr to
def rfQ (b B n : Nat) (K A : Nat → Int32) (s : (Int32 × Int32 × (Nat → Int32) × (Nat → Int32)) ⊕ (Int32 × Int32 × Int32 × (Nat → Int32) × (Nat → Int32))) (t : (Int32 × Int32 × (Nat → Int32) × (Nat → Int32)) ⊕ (Int32 × Int32 × Int32 × Int32 × (Nat → Int32) × (Nat → Int32) × (Nat → Int32) × (Nat → Int32))) : Prop := (∃ r j fr to F1 G1 F2 G2, j ≤ b ∧ s = .inl (nI j, nI r, F1, G1) ∧ t = .inl (nI (B + j), nI r, F2, G2) ∧ RI r fr F1 ∧ RI r to G1 ∧ RI r fr F2 ∧ RI r to G2 ∧ Web n r fr to) ∨ (∃ p r1 F1 G1 r2 F2 G2, p ≤ b ∧ s = .inr ((0 : Int32), nI p, r1, F1, G1) ∧ t = .inr ((0 : Int32), nI (B + p), nI n, r2, K, A, F2, G2))
theorem Web_ap {n r o t : Nat} {fr to : Nat → Nat} (h : Web n r fr to) (hr : r < 12) (ho : o < n ∨ o = 6) (ht : t < n) : Web n (r + 1) (upN fr r o) (upN to r t) := by
  refine ⟨h.1, by omega, fun q hq => ?_⟩
  unfold upN
  by_cases e : q = r
  · rw [if_pos e, if_pos e]; exact ⟨ho, ht⟩
  · rw [if_neg e, if_neg e]; exact h.2.2 q (by omega)
theorem refs_go (h : TX a b B T C hc hl) {n : Nat} (hn : n ≤ 6) (K A F1 G1 F2 G2 : Nat → Int32) {j0 : Nat} (hj0 : j0 ≤ b) : ∃ s t, it (u5 (L_X2_areReferencesRead_2 (nI a) (nI b) hl hc (nI n))) FUEL ((0 : Int32), nI j0, (0 : Int32), F1, G1) = some s ∧ it (u4 (L_X5_readAll_80 C (nI (B + b)) (nI n) K A)) FUEL (nI (B + j0), (0 : Int32), F2, G2) = some t ∧ rfQ b B n K A s t := by
  have hab := h.2.2.1
  have hB := h.2.2.2
  refine it_two (b1 := u5 (L_X2_areReferencesRead_2 (nI a) (nI b) hl hc (nI n))) (b2 := u4 (L_X5_readAll_80 C (nI (B + b)) (nI n) K A)) (rfI b B n) (rfQ b B n K A) 12 ?_ ?_ FUEL (FUEL_gt (by omega)) _ _ ⟨j0, fun _ => 0, fun _ => 0, F1, G1, F2, G2, hj0, rfl, rfl, fun i hi => by omega, fun i hi => by omega, fun i hi => by omega, fun i hi => by omega, hn, by omega, fun q hq => by omega⟩
  · rintro i s t hi ⟨j, fr, to, F1, G1, F2, G2, hj, rfl, rfl, i1, i2, i3, i4, hw⟩
    have b1 : u5 (L_X2_areReferencesRead_2 (nI a) (nI b) hl hc (nI n)) (nI i, nI j, nI i, F1, G1) = L_X2_areReferencesRead_2 (nI a) (nI b) hl hc (nI n) (nI i) (nI j) (nI i) F1 G1 := rfl
    have b2 : u4 (L_X5_readAll_80 C (nI (B + b)) (nI n) K A) (nI (B + j), nI i, F2, G2) = L_X5_readAll_80 C (nI (B + b)) (nI n) K A (nI (B + j)) (nI i) F2 G2 := rfl
    rw [b1, b2]
    unfold L_X2_areReferencesRead_2 L_X5_readAll_80
    rw [L12, ifleF hi (by omega), ifleF hi (by omega)]
    by_cases e1 : j < b
    · rw [ifleF e1 (by omega), ifleF (by omega) (by omega), isReferenceRead_c h (by omega) hw hi i1 i2, isSign_m h (by omega) 44 (by decide)]
      by_cases e : cd b T j = 44
      · rw [if_pos e, if_pos e, ob2_s, if_neg (by decide), readReference_m h (by omega) hw hi i3 i4]
        cases hk : whS n (cd b T (j + 1)) with
        | none =>
          right
          exact ⟨_, _, rfl, rfl, Or.inr ⟨j + 1, _, _, _, _, _, _, by omega, rfl, rfl⟩⟩
        | some o =>
          obtain ⟨ho, ho1⟩ := whS_lt hn hk
          have hjb2 := cd_lt ho1
          cases ht : tgS n o i fr to (cd b T (j + 2)) with
          | none =>
            right
            have ht' : tgS n o i fr to (cd b T (j + 1 + 1)) = none := ht
            simp only [ht, ht']
            exact ⟨_, _, rfl, rfl, Or.inr ⟨j + 2, _, _, _, _, _, _, by omega, rfl, rfl⟩⟩
          | some t =>
            left
            have ht' : tgS n o i fr to (cd b T (j + 1 + 1)) = some t := ht
            obtain ⟨htn, hto, ht1⟩ := tgS_lt hn ht
            have hjb3 := cd_lt ht1
            simp only [ht, ht']
            exact ⟨_, _, by rw [L1, nI_ad]; rfl, rfl, j + 3, upN fr i o, upN to i t, upd F1 i (nI o), upd G1 i (nI t), upd F2 i (nI o), upd G2 i (nI t), by omega, rfl, rfl, RI_ap i1, RI_ap i2, RI_ap i3, RI_ap i4, Web_ap hw hi ho htn⟩
      · rw [if_neg e, if_neg e, ob2_s, if_pos rfl]
        right
        exact ⟨_, _, rfl, rfl, Or.inr ⟨j, _, _, _, _, _, _, hj, rfl, rfl⟩⟩
    · rw [ifleT (by omega) (by omega), ifleT (by omega) (by omega)]
      right
      exact ⟨_, _, rfl, rfl, Or.inl ⟨i, j, fr, to, F1, G1, F2, G2, hj, rfl, rfl, i1, i2, i3, i4, hw⟩⟩
  · rintro s t ⟨j, fr, to, F1, G1, F2, G2, hj, rfl, rfl, i1, i2, i3, i4, hw⟩
    refine ⟨.inl (nI j, nI 12, F1, G1), .inl (nI (B + j), nI 12, F2, G2), ?_, ?_, Or.inl ⟨12, j, fr, to, F1, G1, F2, G2, hj, rfl, rfl, i1, i2, i3, i4, hw⟩⟩
    · show L_X2_areReferencesRead_2 (nI a) (nI b) hl hc (nI n) (nI 12) (nI j) (nI 12) F1 G1 = _
      unfold L_X2_areReferencesRead_2
      rw [L12, ifleT (by omega) (by omega)]
    · show L_X5_readAll_80 C (nI (B + b)) (nI n) K A (nI (B + j)) (nI 12) F2 G2 = _
      unfold L_X5_readAll_80
      rw [L12, ifleT (by omega) (by omega)]
theorem read_cm (h : TX a b B T C hc hl) (K1 A1 F1 G1 K2 A2 F2 G2 : Nat → Int32) : (∃ p C1 R1 K A F G C2 R2 K' A' F' G', p ≤ b ∧ f_X2_firstFault hl hc K1 A1 F1 G1 (nI a) (nI b) = some (nI p, nI a, nI b, nI p, C1, R1, K, A, F, G) ∧ f_X5_readAll C (nI B) K2 A2 F2 G2 (nI (B + b)) = some (0, nI (B + p), C2, R2, K', A', F', G')) ∨ (∃ n r kd ow fr to p q K A F G K' A' F' G', AD n r kd ow fr to ∧ f_X2_firstFault hl hc K1 A1 F1 G1 (nI a) (nI b) = some (-1, nI a, nI b, p, nI n, nI r, K, A, F, G) ∧ f_X5_readAll C (nI B) K2 A2 F2 G2 (nI (B + b)) = some (1, q, nI n, nI r, K', A', F', G') ∧ RI n kd K ∧ RI n ow A ∧ RI r fr F ∧ RI r to G ∧ RI n kd K' ∧ RI n ow A' ∧ RI r fr F' ∧ RI r to G') := by
  have hab := h.2.2.1
  have hB := h.2.2.2
  unfold f_X2_firstFault f_X5_readAll
  rw [show f_X3_clear = some ((0 : Int32), (0 : Int32)) from rfl, ob2_s]
  have e0 := isTaken_c h (j := 0) (by omega) 111
  have e1 := isSign_m h (j := 0) (by omega) 111 (by decide)
  rw [Nat.add_zero] at e1
  rw [show (0 : Int32) = nI 0 from rfl, e0, e1]
  by_cases e : cd b T 0 = 111
  · have h0b := cd_lt (b := b) (T := T) (j := 0) (by rw [e]; decide)
    rw [if_pos e, if_pos e, ob2_s, ob2_s, if_neg (by decide), if_neg (by decide)]
    obtain ⟨s, t, g1, g2, g3⟩ := things_go h K1 A1 K2 A2 F2 G2 (j0 := 1) (by omega)
    unfold f_X2_areThingsRead
    rw [show (nI 0 : Int32) = 0 from rfl, show (0 + 1 : Nat) = 1 from rfl, g1, g2]
    rcases g3 with ⟨c, j, kd, ow, K, A, K', A', hc1, hc6, hj, hs, rfl, i1, i2, i3, i4, hown⟩ | ⟨p, c1, K, A, c2, r2, K', A', hp, rfl, rfl⟩
    · have hs' : os4 (some s) (fun rd_at_2e w_count_2e w_kind_2e w_owner_2e => some ((1 : Int32), rd_at_2e, w_count_2e, w_kind_2e, w_owner_2e)) = some ((1 : Int32), nI j, nI c, K, A) := by
        rcases hs with rfl | rfl
        · rw [os4_l]
        · rw [os4_r]
      rw [hs', ob5_s, if_neg (by decide), os4_l]
      obtain ⟨s2, t2, g4, g5, g6⟩ := refs_go h hc6 K' A' F1 G1 F2 G2 (j0 := j) hj
      unfold f_X2_areReferencesRead
      rw [g4, g5]
      rcases g6 with ⟨r, j2, fr, to, F, G, F', G', hj2, rfl, rfl, i5, i6, i7, i8, hw⟩ | ⟨p, r1, F, G, r2, F', G', hp, rfl, rfl⟩
      · rw [os4_l, os4_l, ob5_s, if_neg (by decide)]
        by_cases e2 : j2 = b
        · rw [ifeqT e2, ifeqT (by omega)]
          right
          exact ⟨c, r, kd, ow, fr, to, _, _, _, _, _, _, _, _, _, _, ownS_ad hown hw, rfl, rfl, i1, i2, i5, i6, i3, i4, i7, i8⟩
        · rw [ifeqF e2 (by omega) (by omega), ifeqF (by omega) (by omega) (by omega)]
          left
          exact ⟨j2, _, _, _, _, _, _, _, _, _, _, _, _, hj2, rfl, rfl⟩
      · rw [os4_r, os4_r, ob5_s, if_pos rfl]
        left
        exact ⟨p, _, _, _, _, _, _, _, _, _, _, _, _, hp, rfl, rfl⟩
    · rw [os4_r, os4_r, ob5_s, if_pos rfl]
      left
      exact ⟨p, _, _, _, _, _, _, _, _, _, _, _, _, hp, rfl, rfl⟩
  · rw [if_neg e, if_neg e, ob2_s, ob2_s]
    left
    exact ⟨0, _, _, _, _, _, _, _, _, _, _, _, _, by omega, rfl, rfl⟩
end TEXT
section THINGS
variable {n r c : Nat} {kd ow fr to on ot le : Nat → Nat} {c1 r1 c2 r2 e1 e2 : Int32} {k1 a1 f1 g1 k2 a2 f2 g2 o1 p1 l1 o2 p2 l2 : Nat → Int32} {sl sn S LL C : Nat → Int32} {sc : Nat → Nat → Int32}
theorem copyIn2 {n N : Nat} {u v U V : Nat → Int32} (hn : n ≤ 6) : ∃ U' V', it (u3 (L_X5_things_103 (nI n) u v)) FUEL ((0 : Int32), U, V) = some (U', V') ∧ ∀ i, i < n → U' i = u i ∧ V' i = v i := by
  have e1 : ∃ w, it (u3 (L_X5_things_103 (nI n) u v)) FUEL ((0 : Int32), U, V) = some w ∧ ∀ i, i < n → w.1 i = u i ∧ w.2 i = v i := by
    refine it_goes (body := u3 (L_X5_things_103 (nI n) u v)) (fun i s => s.1 = nI i ∧ ∀ j, j < i → s.2.1 j = u j ∧ s.2.2 j = v j) (fun w => ∀ i, i < n → w.1 i = u i ∧ w.2 i = v i) n ?_ ?_ FUEL (FUEL_gt (by omega)) _ ⟨rfl, fun j hj => by omega⟩
    · rintro i ⟨y, F, G⟩ hi ⟨h1, h2⟩
      simp only at h1 h2
      subst h1
      left
      refine ⟨(nI (i + 1), upd F i (u i), upd G i (v i)), ?_, rfl, fun j hj => ?_⟩
      · show L_X5_things_103 (nI n) u v (nI i) F G = _
        unfold L_X5_things_103
        rw [ifleF hi (by omega), cl_nI (by omega), ifgd0 (by omega) (by omega), ifgd0 (by omega) (by omega), ifgd0 (by omega) (by omega), ifgd0 (by omega) (by omega), L1, nI_ad]
      · show upd F i (u i) j = u j ∧ upd G i (v i) j = v j
        unfold upd
        by_cases e : j = i
        · subst e
          rw [if_pos rfl, if_pos rfl]
          exact ⟨rfl, rfl⟩
        · rw [if_neg e, if_neg e]
          exact h2 j (by omega)
    · rintro ⟨y, F, G⟩ ⟨h1, h2⟩
      simp only at h1 h2
      subst h1
      refine ⟨(F, G), ?_, h2⟩
      show L_X5_things_103 (nI n) u v (nI n) F G = _
      unfold L_X5_things_103
      rw [ifleT (by omega) (by omega)]
  obtain ⟨⟨U', V'⟩, e1, e2⟩ := e1
  exact ⟨U', V', e1, e2⟩
theorem copyIn4 {n : Nat} {u v U V : Nat → Int32} (hn : n ≤ 12) : ∃ U' V', it (u3 (L_X5_things_149 (nI n) u v)) FUEL ((0 : Int32), U, V) = some (U', V') ∧ ∀ i, i < n → U' i = u i ∧ V' i = v i := by
  have e1 : ∃ w, it (u3 (L_X5_things_149 (nI n) u v)) FUEL ((0 : Int32), U, V) = some w ∧ ∀ i, i < n → w.1 i = u i ∧ w.2 i = v i := by
    refine it_goes (body := u3 (L_X5_things_149 (nI n) u v)) (fun i s => s.1 = nI i ∧ ∀ j, j < i → s.2.1 j = u j ∧ s.2.2 j = v j) (fun w => ∀ i, i < n → w.1 i = u i ∧ w.2 i = v i) n ?_ ?_ FUEL (FUEL_gt (by omega)) _ ⟨rfl, fun j hj => by omega⟩
    · rintro i ⟨y, F, G⟩ hi ⟨h1, h2⟩
      simp only at h1 h2
      subst h1
      left
      refine ⟨(nI (i + 1), upd F i (u i), upd G i (v i)), ?_, rfl, fun j hj => ?_⟩
      · show L_X5_things_149 (nI n) u v (nI i) F G = _
        unfold L_X5_things_149
        rw [ifleF hi (by omega), cl_nI (by omega), ifgd0 (by omega) (by omega), ifgd0 (by omega) (by omega), ifgd0 (by omega) (by omega), ifgd0 (by omega) (by omega), L1, nI_ad]
      · show upd F i (u i) j = u j ∧ upd G i (v i) j = v j
        unfold upd
        by_cases e : j = i
        · subst e
          rw [if_pos rfl, if_pos rfl]
          exact ⟨rfl, rfl⟩
        · rw [if_neg e, if_neg e]
          exact h2 j (by omega)
    · rintro ⟨y, F, G⟩ ⟨h1, h2⟩
      simp only at h1 h2
      subst h1
      refine ⟨(F, G), ?_, h2⟩
      show L_X5_things_149 (nI n) u v (nI n) F G = _
      unfold L_X5_things_149
      rw [ifleT (by omega) (by omega)]
  obtain ⟨⟨U', V'⟩, e1, e2⟩ := e1
  exact ⟨U', V', e1, e2⟩
theorem things_cm (h : AD n r kd ow fr to) (w1 : WR n r kd ow fr to c1 r1 k1 a1 f1 g1) (w2 : WR n r kd ow fr to c2 r2 k2 a2 f2 g2) (hd : RDA n c on ot le) (d1 : RR c on ot le e1 o1 p1 l1) (d2 : RR c on ot le e2 o2 p2 l2) (hs : IS sl sn sc S LL C) (rs rl ra tc tr : Int32) (tk ta tf tg : Nat → Int32) (ma mt mr : Int32) (mk mo mw mz : Nat → Int32) (x y z w : Int32) : ∃ v f n' r' kd' ow' fr' to' c' E1 RS RL RA C1 R1 K1 A1 F1 G1 TC TR TK TA TF TG C2 R2 K2 A2 F2 G2 MA MT MR MK MO MW MZ E2, f_X4_things e1 rs rl ra c1 r1 k1 a1 f1 g1 tc tr tk ta tf tg sl sn sc x y z w = some (v, f, E1, RS, RL, RA, C1, R1, K1, A1, F1, G1, TC, TR, TK, TA, TF, TG) ∧ f_X5_things S LL C c2 r2 k2 a2 f2 g2 ma mt mr mk mo mw mz e2 x y z w = some (v, f, C2, R2, K2, A2, F2, G2, MA, MT, MR, MK, MO, MW, MZ, E2) ∧ AD n' r' kd' ow' fr' to' ∧ WR n' r' kd' ow' fr' to' C1 R1 K1 A1 F1 G1 ∧ WR n' r' kd' ow' fr' to' C2 R2 K2 A2 F2 G2 ∧ RDA n' c' on ot le ∧ RR c' on ot le E1 o1 p1 l1 ∧ RR c' on ot le E2 o2 p2 l2 := by
  have hc8 := hd.1
  unfold f_X4_things f_X5_things
  rw [isSheet_c, isSheet_m, ob1_s, ob1_s]
  by_cases q1 : btw x 0 3 = true
  case neg =>
    rw [Bool.not_eq_true] at q1
    rw [q1]
    exact ⟨_, _, n, r, kd, ow, fr, to, c, _, _, _, _, _, _, _, _, _, _, _, _, _, _, _, _, _, _, _, _, _, _, _, _, _, _, _, _, _, _, rfl, rfl, h, w1, w2, hd, d1, d2⟩
  rw [q1, bT, bT, isLane_c, isSort_m, ob1_s, ob1_s]
  by_cases q2 : btw y 0 2 = true
  case neg =>
    rw [Bool.not_eq_true] at q2
    rw [q2]
    exact ⟨_, _, n, r, kd, ow, fr, to, c, _, _, _, _, _, _, _, _, _, _, _, _, _, _, _, _, _, _, _, _, _, _, _, _, _, _, _, _, _, _, rfl, rfl, h, w1, w2, hd, d1, d2⟩
  rw [q2, bT, bT]
  obtain ⟨k, hk, rfl⟩ := btw_k q1
  rw [cl_nI (by omega), ifgd0 (by omega) (by omega)]
  obtain ⟨f, e3, e4, e5⟩ := fault_cm hs hk y z w
  rw [e3, e4, ob1_s, ob1_s]
  rcases e5 with ⟨rfl, L, la, a, b, hL, hla, s1, s2, s3, s4, s5, rfl, rfl, hab, hC⟩ | e5
  case inr =>
    rw [if_neg e5, if_neg e5]
    exact ⟨_, _, n, r, kd, ow, fr, to, c, _, _, _, _, _, _, _, _, _, _, _, _, _, _, _, _, _, _, _, _, _, _, _, _, _, _, _, _, _, _, rfl, rfl, h, w1, w2, hd, d1, d2⟩
  rw [if_pos rfl, if_pos rfl, ifgd0 (by omega) (by omega), cell_ix, nI_ad]
  have htx : TX a b (60 * k + a) (fun j => sc k (a + j)) C (sc k) (sn k) := by
    refine ⟨fun j hj => ?_, fun j hj => ?_, by omega, by omega⟩
    · rw [nI_ad, s1]; exact valueAt_c hL (by omega)
    · rw [Nat.add_assoc]; exact hC _ (by omega)
  rcases read_cm htx tk ta tf tg mk mo mw mz with ⟨p, C1, R1, K, A, F, G, C2, R2, K', A', F', G', hp, gg1, gg2⟩ | ⟨n', r', kd', ow', fr', to', p, q, K, A, F, G, K', A', F', G', had, gg1, gg2, i1, i2, i3, i4, i5, i6, i7, i8⟩
  · rw [gg1, gg2, ob10_s, ob8_s, if_pos rfl, show (-1 : Int32) = -(nI 1) from rfl, ifeqN (by omega) (by omega) (by omega), nI_sb (by omega), show 60 * k + a + p - (60 * k + a) = p by omega]
    exact ⟨_, _, n, r, kd, ow, fr, to, c, _, _, _, _, _, _, _, _, _, _, _, _, _, _, _, _, _, _, _, _, _, _, _, _, _, _, _, _, _, _, rfl, rfl, h, w1, w2, hd, d1, d2⟩
  · have hn' := had.1.1
    have hr' := had.1.2.1
    obtain ⟨K3, A3, F3, G3, hbe, j1, j2, j3, j4⟩ := become_c hn' hr' (⟨rfl, rfl, i1, i2, i3, i4⟩ : WR n' r' kd' ow' fr' to' (nI n') (nI r') K A F G) k1 a1 f1 g1
    obtain ⟨U, V, u1', u2'⟩ := copyIn2 (N := 0) (u := K') (v := A') (U := k2) (V := a2) hn'
    obtain ⟨X, Y, x1', x2'⟩ := copyIn4 (u := F') (v := G') (U := f2) (V := g2) hr'
    obtain ⟨rfl, ho1, hp1, hl1⟩ := d1
    obtain ⟨rfl, ho2, hp2, hl2⟩ := d2
    have hdrop : f_X0_dropLast (nI c) (nI c) = some (nI 0) := by
      unfold f_X0_dropLast
      rw [L0, ifltF (by omega) (by omega), ifltF (by omega) (by omega), nI_sb (by omega), Nat.sub_self]
    rw [gg1, gg2, ob10_s, ob8_s, if_pos rfl, if_neg (by decide), hbe, ob6_s, rsize_c, ob1_s, hdrop, ob1_s, size_c, ob1_s, u1', ob2_s, x1', ob2_s]
    refine ⟨nI n', 0, n', r', kd', ow', fr', to', 0, nI 0, _, _, _, nI n', nI r', K3, A3, F3, G3, _, _, _, _, _, _, nI n', nI r', U, V, X, Y, _, _, _, _, _, _, _, nI 0, rfl, rfl, had, ⟨rfl, rfl, j1, j2, j3, j4⟩, ⟨rfl, rfl, ?_, ?_, ?_, ?_⟩, ⟨by omega, fun q hq => by omega⟩, ⟨rfl, fun i hi => by omega, fun i hi => by omega, fun i hi => by omega⟩, ⟨rfl, fun i hi => by omega, fun i hi => by omega, fun i hi => by omega⟩⟩
    · intro i hi; rw [(u2' i hi).1]; exact i5 i hi
    · intro i hi; rw [(u2' i hi).2]; exact i6 i hi
    · intro i hi; rw [(x2' i hi).1]; exact i7 i hi
    · intro i hi; rw [(x2' i hi).2]; exact i8 i hi
end THINGS
