/-! SHEETS -/
theorem pos_ex {x : Int32} (h : ¬ x < 0) : ∃ m, m < 2147483648 ∧ x = nI m := by
  rcases pk_ix x (n := 2147483647) (by decide) with q | q | ⟨j, h1, h2⟩
  · exact absurd q h
  · refine ⟨2147483647, by decide, ?_⟩
    apply Int32.toInt_inj.mp
    have h1 := Int32.le_iff_toInt_le.mp q
    rw [nI_toInt (by decide)] at h1 ⊢
    have h2 := Int32.toInt_lt x
    omega
  · exact ⟨j, by omega, h2⟩
theorem le_nlt {a b : Int32} : a ≤ b ↔ ¬ b < a := by
  rw [Int32.le_iff_toInt_le, Int32.lt_iff_toInt_lt]; omega
theorem btw_k {x : Int32} (h : btw x 0 3 = true) : ∃ k, k < 4 ∧ x = nI k := by
  obtain ⟨k, h1, h2⟩ := btw_c0 (c := 3) (by omega) h
  exact ⟨k, by omega, h2⟩
theorem btw_la {x : Int32} (h : btw x 0 2 = true) : ∃ la, la ≤ 2 ∧ x = nI la := btw_c0 (c := 2) (by omega) h
theorem isSheet_c (x : Int32) : f_X4_isSheet x = some (b2i (btw x 0 3)) := by unfold f_X4_isSheet; rw [btw_c, ob1_s]
theorem isSheet_m (x : Int32) : f_X5_isSheet x = some (b2i (btw x 0 3)) := by unfold f_X5_isSheet; rw [btw_m, ob1_s]
theorem isLane_c (x : Int32) : f_X4_isLane x = some (b2i (btw x 0 2)) := by unfold f_X4_isLane; rw [btw_c, ob1_s]
theorem isSort_m (x : Int32) : f_X5_isSort x = some (b2i (btw x 0 2)) := by unfold f_X5_isSort; rw [btw_m, ob1_s]
def IS (sl sn : Nat → Int32) (sc : Nat → Nat → Int32) (S LL C : Nat → Int32) : Prop := ∀ k, k < 4 → (sn k = -(nI 1) ∧ S k = -(nI 9)) ∨ ∃ L la, L ≤ 60 ∧ la ≤ 2 ∧ sn k = nI L ∧ LL k = nI L ∧ sl k = nI la ∧ S k = nI la ∧ ∀ j, j < L → C (60 * k + j) = sc k j
theorem hasRow_no : f_X1_hasRow (-(nI 1)) = some (b2i false) := by
  unfold f_X1_hasRow; exact if_pos rfl
theorem hasRow_yes {L : Nat} (h : L ≤ 60) : f_X1_hasRow (nI L) = some (b2i true) := by
  unfold f_X1_hasRow
  rw [show (-1 : Int32) = -(nI 1) from rfl, ifeqN (by omega) (by omega) (by omega)]; rfl
/-- the cells i, i + 1 .. n of them, among L: b2i -/
theorem hasCells_e {L : Nat} {i n : Int32} (hL : L ≤ 60) : ∃ b, f_X1_hasCells (nI L) i n = some (b2i b) ∧ (b = true ↔ ∃ a m, i = nI a ∧ n = nI m ∧ a + m ≤ L) := by
  unfold f_X1_hasCells
  by_cases h1 : i < 0
  · refine ⟨false, by rw [if_pos h1]; rfl, ⟨fun q => (by cases q), fun ⟨a, m, e1, e2, e3⟩ => ?_⟩⟩
    subst e1
    exact absurd h1 (nI_pos (by omega))
  rw [if_neg h1]
  obtain ⟨a, ha, rfl⟩ := pos_ex h1
  by_cases h2 : nI L < nI a
  · refine ⟨false, by rw [if_pos h2]; rfl, ⟨fun q => (by cases q), fun ⟨a', m, e1, e2, e3⟩ => ?_⟩⟩
    have := (nI_eq (by omega) (by omega)).mp e1
    exact absurd h2 (nI_nlt (by omega) (by omega))
  rw [if_neg h2]
  have haL : a ≤ L := by
    apply Classical.byContradiction
    intro q
    exact h2 (nI_lt (by omega) (by omega))
  by_cases h3 : n < 0
  · refine ⟨false, by rw [if_pos h3]; rfl, ⟨fun q => (by cases q), fun ⟨a', m, e1, e2, e3⟩ => ?_⟩⟩
    subst e2
    exact absurd h3 (nI_pos (by omega))
  rw [if_neg h3]
  obtain ⟨m, hm, rfl⟩ := pos_ex h3
  rw [nI_sb haL]
  by_cases h4 : a + m ≤ L
  · exact ⟨true, by rw [ifltF (by omega) (by omega)]; rfl, ⟨fun _ => ⟨a, m, rfl, rfl, h4⟩, fun _ => rfl⟩⟩
  · refine ⟨false, by rw [ifltT (by omega) (by omega)]; rfl, ⟨fun q => (by cases q), fun ⟨a', m', e1, e2, e3⟩ => ?_⟩⟩
    have := (nI_eq (by omega) (by omega)).mp e1
    have := (nI_eq (by omega) (by omega)).mp e2
    omega
section SHEETS
variable {sl sn S LL C : Nat → Int32} {sc : Nat → Nat → Int32}
theorem fault_cm {k : Nat} (h : IS sl sn sc S LL C) (hk : k < 4) (lane i n : Int32) : ∃ f, f_X1_rowFault (sl k) (sn k) lane i n = some f ∧ f_X5_against S LL (nI k) lane i n = some f ∧ ((f = 0 ∧ ∃ L la a b, L ≤ 60 ∧ la ≤ 2 ∧ sn k = nI L ∧ LL k = nI L ∧ sl k = nI la ∧ S k = nI la ∧ lane = nI la ∧ i = nI a ∧ n = nI b ∧ a + b ≤ L ∧ ∀ j, j < L → C (60 * k + j) = sc k j) ∨ ¬ f = 0) := by
  unfold f_X1_rowFault f_X5_against
  rcases h k hk with ⟨h1, h2⟩ | ⟨L, la, hL, hla, h1, h2, h3, h4, h5⟩
  · refine ⟨1, ?_, ?_, Or.inr (by decide)⟩
    · rw [h1, hasRow_no, ob1_s, bF]
    · rw [cl_nI (by omega), ifgd0 (by omega) (by omega), h2, L9, if_pos rfl, ifgd0 (by omega) (by omega), if_pos rfl]
  · rw [cl_nI (by omega), h1, h3, h4, h2, hasRow_yes hL, ob1_s, bT, ifgd0 (by omega) (by omega), L9, ifeqN (by omega) (by omega) (by omega), ifgd0 (by omega) (by omega)]
    by_cases e1 : nI la = lane
    · rw [if_pos e1, if_pos e1, ifgd0 (by omega) (by omega), ifeqN (by omega) (by omega) (by omega)]
      by_cases e2 : 0 ≤ n
      · rw [if_pos e2, if_pos e2]
        obtain ⟨b, hb1, hb2⟩ := hasCells_e (i := i) (n := n) hL
        rw [hb1, ob1_s]
        obtain ⟨m, hm, rfl⟩ := pos_ex (le_nlt.mp e2)
        by_cases e3 : i < 0
        · have hb : b = false := by
            rw [← Bool.not_eq_true]; intro q
            obtain ⟨a, m', e4, e5, e6⟩ := hb2.mp q
            subst e4
            exact absurd e3 (nI_pos (by omega))
          rw [hb, bF, if_pos e3]
          exact ⟨3, rfl, rfl, Or.inr (by decide)⟩
        · obtain ⟨a, ha, rfl⟩ := pos_ex e3
          rw [if_neg e3, ifgd0 (by omega) (by omega)]
          by_cases e4 : L < a
          · have hb : b = false := by
              rw [← Bool.not_eq_true]; intro q
              obtain ⟨a', m', e5, e6, e7⟩ := hb2.mp q
              have := (nI_eq (by omega) (by omega)).mp e5
              omega
            rw [hb, bF, ifltT e4 (by omega)]
            exact ⟨3, rfl, rfl, Or.inr (by decide)⟩
          · rw [ifltF (by omega) (by omega), ifgd0 (by omega) (by omega), nI_sb (by omega)]
            by_cases e5 : a + m ≤ L
            · have hb : b = true := hb2.mpr ⟨a, m, rfl, rfl, e5⟩
              rw [hb, bT, ifleT (by omega) (by omega)]
              exact ⟨0, rfl, rfl, Or.inl ⟨rfl, L, la, a, m, hL, hla, rfl, rfl, rfl, rfl, e1.symm, rfl, rfl, e5, h5⟩⟩
            · have hb : b = false := by
                rw [← Bool.not_eq_true]; intro q
                obtain ⟨a', m', e6, e7, e8⟩ := hb2.mp q
                have := (nI_eq (by omega) (by omega)).mp e6
                have := (nI_eq (by omega) (by omega)).mp e7
                omega
              rw [hb, bF, ifleF (by omega) (by omega)]
              exact ⟨3, rfl, rfl, Or.inr (by decide)⟩
      · rw [if_neg e2, if_neg e2]
        exact ⟨4, rfl, rfl, Or.inr (by decide)⟩
    · rw [if_neg e1, if_neg e1]
      exact ⟨2, rfl, rfl, Or.inr (by decide)⟩
theorem valueAt_c {L a : Nat} {c : Nat → Int32} (hL : L ≤ 60) (ha : a < L) : f_X1_valueAt (nI L) c (nI a) = some (c a) := by
  unfold f_X1_valueAt
  rw [if_neg (nI_pos (by omega)), ifleF ha (by omega), cl_nI (by omega), ifgd0 (by omega) (by omega)]
theorem cell_ix {k j : Nat} : (60 : Int32) * nI k + nI j = nI (60 * k + j) := by rw [L60, nI_ml, nI_ad]
/-! sheet -/
theorem sheet_cm (h : IS sl sn sc S LL C) (x y z : Int32) : ∃ v f sl' sn' sc' S' LL' C', f_X4_sheet sl sn sc x y z = some (v, f, sl', sn', sc') ∧ f_X5_sheet S LL C x y z = some (v, f, S', LL', C') ∧ IS sl' sn' sc' S' LL' C' := by
  unfold f_X4_sheet f_X5_sheet
  rw [isSheet_c, isSheet_m, ob1_s, ob1_s]
  by_cases q1 : btw x 0 3 = true
  · rw [q1, bT, bT, isLane_c, isSort_m, ob1_s, ob1_s]
    by_cases q2 : btw y 0 2 = true
    · rw [q2, bT, bT]
      by_cases q3 : z ≤ 60
      · rw [if_pos q3, if_pos q3]
        by_cases q4 : 0 ≤ z
        · rw [if_pos q4, if_pos q4]
          obtain ⟨k, hk, rfl⟩ := btw_k q1
          obtain ⟨la, hla, rfl⟩ := btw_la q2
          obtain ⟨L, hL, rfl⟩ := pos_ex (le_nlt.mp q4)
          have hL60 : L ≤ 60 := by
            apply Classical.byContradiction
            intro q
            exact absurd q3 (nI_ge (a := 60) (by omega) (by omega))
          have e1 : ∃ w, it (u2 (L_X1_renew_23 (nI L))) FUEL ((0 : Int32), sc k) = some w ∧ ∀ j, j < L → w j = 0 := by
            refine it_goes (body := u2 (L_X1_renew_23 (nI L))) (fun i s => s.1 = nI i ∧ ∀ j, j < i → s.2 j = 0) (fun w => ∀ j, j < L → w j = 0) L ?_ ?_ FUEL (FUEL_gt (by omega)) _ ⟨rfl, fun j hj => by omega⟩
            · rintro i ⟨y, F⟩ hi ⟨h1, h2⟩
              simp only at h1 h2
              subst h1
              left
              refine ⟨(nI (i + 1), upd F i 0), ?_, rfl, fun j hj => ?_⟩
              · show L_X1_renew_23 (nI L) (nI i) F = _
                unfold L_X1_renew_23
                rw [ifleF hi (by omega), cl_nI (by omega), ifgd0 (by omega) (by omega), L1, nI_ad]
              · show upd F i 0 j = 0
                unfold upd
                by_cases e : j = i
                · rw [if_pos e]
                · rw [if_neg e]; exact h2 j (by omega)
            · rintro ⟨y, F⟩ ⟨h1, h2⟩
              simp only at h1 h2
              subst h1
              refine ⟨F, ?_, h2⟩
              show L_X1_renew_23 (nI L) (nI L) F = _
              unfold L_X1_renew_23
              rw [ifleT (by omega) (by omega)]
          have e2 : ∃ w, it (u2 (L_X5_sheet_57 (nI k))) FUEL ((0 : Int32), C) = some w ∧ ∀ m, w m = if 60 * k ≤ m ∧ m < 60 * k + 60 then 0 else C m := by
            refine it_goes (body := u2 (L_X5_sheet_57 (nI k))) (fun i s => s.1 = nI i ∧ ∀ m, s.2 m = if 60 * k ≤ m ∧ m < 60 * k + i then 0 else C m) (fun w => ∀ m, w m = if 60 * k ≤ m ∧ m < 60 * k + 60 then 0 else C m) 60 ?_ ?_ FUEL (FUEL_gt (by omega)) _ ⟨rfl, fun m => by rw [if_neg (by omega)]⟩
            · rintro i ⟨y, F⟩ hi ⟨h1, h2⟩
              simp only at h1 h2
              subst h1
              left
              refine ⟨(nI (i + 1), upd F (60 * k + i) 0), ?_, rfl, fun m => ?_⟩
              · show L_X5_sheet_57 (nI k) (nI i) F = _
                unfold L_X5_sheet_57
                rw [L60, ifleF hi (by omega), ← L60, cell_ix, cl_nI (by omega), ifgd0 (by omega) (by omega), L1, nI_ad]
              · show upd F (60 * k + i) 0 m = _
                unfold upd
                by_cases e : m = 60 * k + i
                · rw [if_pos e, if_pos (by omega)]
                · rw [if_neg e, h2 m]
                  by_cases e3 : 60 * k ≤ m ∧ m < 60 * k + i
                  · rw [if_pos e3, if_pos (by omega)]
                  · rw [if_neg e3, if_neg (by omega)]
            · rintro ⟨y, F⟩ ⟨h1, h2⟩
              simp only at h1 h2
              subst h1
              refine ⟨F, ?_, h2⟩
              show L_X5_sheet_57 (nI k) (nI 60) F = _
              unfold L_X5_sheet_57
              rw [L60, ifleT (by omega) (by omega)]
          obtain ⟨W, e1, e3⟩ := e1
          obtain ⟨V, e2, e4⟩ := e2
          refine ⟨1, 0, va_up sl k (nI la), va_up sn k (nI L), va_up sc k W, upd S k (nI la), upd LL k (nI L), V, ?_, ?_, ?_⟩
          · rw [cl_nI (by omega), ifgd0 (by omega) (by omega)]
            unfold f_X1_renew
            rw [if_neg (nI_pos (by omega)), if_pos q3, e1, ob1_s, ob3_s]
          · rw [cl_nI (by omega), ifgd0 (by omega) (by omega), ifgd0 (by omega) (by omega), e2, ob1_s]
          · intro k' hk'
            by_cases e : k' = k
            · right
              subst e
              refine ⟨L, la, hL60, hla, if_pos rfl, if_pos rfl, if_pos rfl, if_pos rfl, fun j hj => ?_⟩
              rw [e4, if_pos (by omega)]
              show (0 : Int32) = va_up sc k' W k' j
              unfold va_up
              rw [if_pos rfl, e3 j hj]
            · have z1 : ∀ {α : Type} {f : Nat → α} {v : α}, va_up f k v k' = f k' := fun {α f v} => if_neg e
              have z2 : ∀ {f : Nat → Int32} {v : Int32}, upd f k v k' = f k' := fun {f v} => if_neg e
              rw [z1, z1, z1, z2, z2]
              rcases h k' hk' with h1 | ⟨L', la', g1, g2, g3, g4, g5, g6, g7⟩
              · exact Or.inl h1
              · refine Or.inr ⟨L', la', g1, g2, g3, g4, g5, g6, fun j hj => ?_⟩
                rw [e4, if_neg (by omega)]
                exact g7 j hj
        · rw [if_neg q4, if_neg q4]
          exact ⟨_, _, _, _, _, _, _, _, rfl, rfl, h⟩
      · rw [if_neg q3, if_neg q3]
        exact ⟨_, _, _, _, _, _, _, _, rfl, rfl, h⟩
    · rw [Bool.not_eq_true] at q2
      rw [q2]
      exact ⟨_, _, _, _, _, _, _, _, rfl, rfl, h⟩
  · rw [Bool.not_eq_true] at q1
    rw [q1]
    exact ⟨_, _, _, _, _, _, _, _, rfl, rfl, h⟩
/-! lose -/
theorem lose_cm (h : IS sl sn sc S LL C) (x : Int32) : ∃ v sn' S', f_X4_lose sn x = some (v, sn') ∧ f_X5_lose S x = some (v, S') ∧ IS sl sn' sc S' LL C := by
  unfold f_X4_lose f_X5_lose
  rw [isSheet_c, isSheet_m, ob1_s, ob1_s]
  by_cases q1 : btw x 0 3 = true
  · rw [q1, bT, bT]
    obtain ⟨k, hk, rfl⟩ := btw_k q1
    have hIS : IS sl (va_up sn k (-(nI 1))) sc (upd S k (-(nI 9))) LL C := by
      intro k' hk'
      by_cases e : k' = k
      · exact Or.inl ⟨if_pos e, if_pos e⟩
      · have z1 : va_up sn k (-(nI 1)) k' = sn k' := if_neg e
        have z2 : upd S k (-(nI 9)) k' = S k' := if_neg e
        rw [z1, z2]
        exact h k' hk'
    rw [cl_nI (by omega), ifgd0 (by omega) (by omega), ifgd0 (by omega) (by omega)]
    rcases h k hk with ⟨h1, h2⟩ | ⟨L, la, hL, hla, h1, h2, h3, h4, h5⟩
    · refine ⟨0, _, _, ?_, ?_, hIS⟩
      · rw [h1, hasRow_no, ob1_s, ifgd0 (by omega) (by omega)]; rfl
      · rw [h2, L9, if_pos rfl, ifgd0 (by omega) (by omega)]
    · refine ⟨1, _, _, ?_, ?_, hIS⟩
      · rw [h1, hasRow_yes hL, ob1_s, ifgd0 (by omega) (by omega)]; rfl
      · rw [h4, L9, ifeqN (by omega) (by omega) (by omega), ifgd0 (by omega) (by omega)]
  · rw [Bool.not_eq_true] at q1
    rw [q1]
    exact ⟨_, _, _, rfl, rfl, h⟩
/-! put -/
theorem btw_L {L : Nat} {x : Int32} (hL : L ≤ 60) : btw x 0 (nI L - 1) = true ↔ ∃ a, a < L ∧ x = nI a := by
  by_cases e : L = 0
  · subst e
    constructor
    · intro h
      simp only [btw, decide_eq_true_eq] at h
      obtain ⟨a, ha, rfl⟩ := pos_ex h.1
      exact absurd (m1lt ha) h.2
    · rintro ⟨a, ha, -⟩; omega
  · rw [L1, nI_sb (by omega)]
    constructor
    · intro h
      obtain ⟨a, h1, h2⟩ := btw_c0 (by omega) h
      exact ⟨a, by omega, h2⟩
    · rintro ⟨a, ha, rfl⟩
      simp only [btw, decide_eq_true_eq]
      exact ⟨nI_pos (by omega), nI_nlt (by omega) (by omega)⟩
def cutL (la : Nat) (x : Int32) : Int32 := if la = 0 then x.toInt8.toInt32 else if la = 1 then x.toInt16.toInt32 else x
theorem cut_lane {la : Nat} {x : Int32} (h : la ≤ 2) : f_X1_cutToLane (nI la) x = some (cutL la x) := by
  unfold f_X1_cutToLane cutL
  have : la = 0 ∨ la = 1 ∨ la = 2 := by omega
  rcases this with rfl | rfl | rfl
  · rfl
  · rfl
  · rfl
theorem IS_put {k L la a : Nat} {v : Int32} (h : IS sl sn sc S LL C) (hk : k < 4) (hL : L ≤ 60) (ha : a < L) (hn : sn k = nI L) : IS sl sn (va_up sc k (upd (sc k) a v)) S LL (upd C (60 * k + a) v) := by
  intro k' hk'
  rcases h k' hk' with h1 | ⟨L', la', g1, g2, g3, g4, g5, g6, g7⟩
  · exact Or.inl h1
  · refine Or.inr ⟨L', la', g1, g2, g3, g4, g5, g6, fun j hj => ?_⟩
    unfold va_up upd
    by_cases e : k' = k
    · subst e
      rw [if_pos rfl]
      by_cases e2 : j = a
      · rw [if_pos (by omega)]
        simp only [if_pos e2]
      · rw [if_neg (by omega)]
        simp only [if_neg e2]
        exact g7 j hj
    · rw [if_neg e, if_neg (by omega)]
      exact g7 j hj
theorem put_cm (h : IS sl sn sc S LL C) (x y z : Int32) : ∃ v f sc' C', f_X4_put sl sn sc x y z = some (v, f, sc') ∧ f_X5_put S LL C x y z = some (v, f, C') ∧ IS sl sn sc' S LL C' := by
  unfold f_X4_put f_X5_put
  rw [isSheet_c, isSheet_m, ob1_s, ob1_s]
  by_cases q1 : btw x 0 3 = true
  · rw [q1, bT, bT]
    obtain ⟨k, hk, rfl⟩ := btw_k q1
    rw [cl_nI (by omega), ifgd0 (by omega) (by omega), ifgd0 (by omega) (by omega)]
    rw [show f_X1_laneOf (sl k) = some (sl k) from rfl, ob1_s]
    unfold f_X1_rowFault
    rcases h k hk with ⟨h1, h2⟩ | ⟨L, la, hL, hla, h1, h2, h3, h4, h5⟩
    · refine ⟨-11, 1, sc, C, ?_, ?_, h⟩
      · rw [h1, hasRow_no, ob1_s, bF, ob1_s]; rfl
      · rw [h2, L9, if_pos rfl]; rfl
    · rw [h1, hasRow_yes hL, ob1_s, bT, if_pos rfl, if_pos (by decide), h4, L9, ifeqN (by omega) (by omega) (by omega), ifgd0 (by omega) (by omega), h2, btw_m, ob1_s]
      obtain ⟨b, hb1, hb2⟩ := hasCells_e (i := y) (n := 1) hL
      rw [hb1, ob1_s]
      by_cases q2 : btw y 0 (nI L - 1) = true
      · obtain ⟨a, ha, rfl⟩ := (btw_L hL).mp q2
        have hb : b = true := hb2.mpr ⟨a, 1, rfl, rfl, by omega⟩
        rw [hb, bT, q2, bT, ob1_s, if_pos rfl, ifgd0 (by omega) (by omega)]
        refine ⟨1, 0, _, _, ?_, ?_, IS_put (v := cutL la z) (la := la) h hk hL ha h1⟩
        · unfold f_X1_setAt
          rw [if_neg (nI_pos (by omega)), ifleF ha (by omega), h3, cut_lane hla, ob1_s, cl_nI (by omega), ifgd0 (by omega) (by omega), ob1_s]
        · rw [cell_ix, cl_nI (by omega), ifgd0 (by omega) (by omega)]
          have : la = 0 ∨ la = 1 ∨ la = 2 := by omega
          rcases this with rfl | rfl | rfl
          · rfl
          · rw [L0, ifeqF (by omega) (by omega) (by omega), ← L0, ifgd0 (by omega) (by omega), L1, ifeqT rfl, ifgd0 (by omega) (by omega)]; rfl
          · rw [L0, ifeqF (by omega) (by omega) (by omega), ← L0, ifgd0 (by omega) (by omega), L1, ifeqF (by omega) (by omega) (by omega), ifgd0 (by omega) (by omega)]; rfl
      · have hb : b = false := by
          rw [← Bool.not_eq_true]; intro q
          obtain ⟨a, m, e1, e2, e3⟩ := hb2.mp q
          have := (nI_eq (a := 1) (b := m) (by omega) (by omega)).mp e2
          exact q2 ((btw_L hL).mpr ⟨a, by omega, e1⟩)
        rw [Bool.not_eq_true] at q2
        rw [hb, q2]
        exact ⟨_, _, _, _, rfl, rfl, h⟩
  · rw [Bool.not_eq_true] at q1
    rw [q1]
    exact ⟨_, _, _, _, rfl, rfl, h⟩
/-! cell -/
theorem cell_cm (h : IS sl sn sc S LL C) (x y z : Int32) : ∃ v f, f_X4_cell sl sn sc x y z = some (v, f) ∧ f_X5_cell S LL C x y z = some (v, f) := by
  unfold f_X4_cell f_X5_cell
  rw [isSheet_c, isSheet_m, ob1_s, ob1_s]
  by_cases q1 : btw x 0 3 = true
  · rw [q1, bT, bT, isLane_c, isSort_m, ob1_s, ob1_s]
    by_cases q2 : btw z 0 2 = true
    · rw [q2, bT, bT]
      obtain ⟨k, hk, rfl⟩ := btw_k q1
      rw [cl_nI (by omega), ifgd0 (by omega) (by omega), ifgd0 (by omega) (by omega)]
      unfold f_X1_rowFault
      rcases h k hk with ⟨h1, h2⟩ | ⟨L, la, hL, hla, h1, h2, h3, h4, h5⟩
      · refine ⟨(-9223372036854775808 : Int64), 1, ?_, ?_⟩
        · rw [h1, hasRow_no, ob1_s, bF, ob1_s]; rfl
        · rw [h2, L9]
          repeat first | rw [if_pos rfl] | rw [ifgd0 (by omega) (by omega)]
          rfl
      · rw [h1, h3, h4, h2, hasRow_yes hL, ob1_s, bT, L9, ifeqN (by omega) (by omega) (by omega), ifgd0 (by omega) (by omega)]
        by_cases q3 : nI la = z
        · rw [if_pos q3, if_pos q3, if_pos (by decide), ifgd0 (by omega) (by omega), ifeqN (by omega) (by omega) (by omega), ifgd0 (by omega) (by omega), btw_m, ob1_s]
          obtain ⟨b, hb1, hb2⟩ := hasCells_e (i := y) (n := 1) hL
          rw [hb1, ob1_s]
          by_cases q4 : btw y 0 (nI L - 1) = true
          · obtain ⟨a, ha, rfl⟩ := (btw_L hL).mp q4
            have hb : b = true := hb2.mpr ⟨a, 1, rfl, rfl, by omega⟩
            rw [hb, bT, q4, bT, ob1_s, if_pos rfl, ifgd0 (by omega) (by omega), valueAt_c hL ha, ob1_s, cell_ix, cl_nI (by omega), ifgd0 (by omega) (by omega), h5 a ha]
            exact ⟨_, _, rfl, rfl⟩
          · have hb : b = false := by
              rw [← Bool.not_eq_true]; intro q
              obtain ⟨a, m, e1, e2, e3⟩ := hb2.mp q
              have := (nI_eq (a := 1) (b := m) (by omega) (by omega)).mp e2
              exact q4 ((btw_L hL).mpr ⟨a, by omega, e1⟩)
            rw [Bool.not_eq_true] at q4
            rw [hb, q4]
            repeat rw [ifgd0 (by omega) (by omega)]
            exact ⟨_, _, rfl, rfl⟩
        · rw [if_neg q3, if_neg q3]
          repeat rw [ifgd0 (by omega) (by omega)]
          exact ⟨_, _, rfl, rfl⟩
    · rw [Bool.not_eq_true] at q2
      rw [q2]
      exact ⟨_, _, rfl, rfl⟩
  · rw [Bool.not_eq_true] at q1
    rw [q1]
    exact ⟨_, _, rfl, rfl⟩
/-! copy -/
theorem copyUp {k a o c m : Nat} (hm : m ≤ 60) (hs : 60 * k + a + m ≤ 240) (hd : 60 * o + c + m ≤ 240) (hno : ∀ i, i < m → ¬ (60 * o + c ≤ 60 * k + a + i ∧ 60 * k + a + i < 60 * o + c + i)) : ∃ w, it (u2 (L_X5_copy_166 (nI k) (nI a) (nI o) (nI c) (nI m))) FUEL ((0 : Int32), C) = some w ∧ ∀ j, w j = if 60 * o + c ≤ j ∧ j < 60 * o + c + m then C (60 * k + a + (j - (60 * o + c))) else C j := by
  refine it_goes (body := u2 (L_X5_copy_166 (nI k) (nI a) (nI o) (nI c) (nI m))) (fun i s => s.1 = nI i ∧ ∀ j, s.2 j = if 60 * o + c ≤ j ∧ j < 60 * o + c + i then C (60 * k + a + (j - (60 * o + c))) else C j) (fun w => ∀ j, w j = if 60 * o + c ≤ j ∧ j < 60 * o + c + m then C (60 * k + a + (j - (60 * o + c))) else C j) m ?_ ?_ FUEL (FUEL_gt (by omega)) _ ⟨rfl, fun j => by rw [if_neg (by omega)]⟩
  · rintro i ⟨y, F⟩ hi ⟨h1, h2⟩
    simp only at h1 h2
    subst h1
    left
    refine ⟨(nI (i + 1), upd F (60 * o + c + i) (F (60 * k + a + i))), ?_, rfl, fun j => ?_⟩
    · show L_X5_copy_166 (nI k) (nI a) (nI o) (nI c) (nI m) (nI i) F = _
      unfold L_X5_copy_166
      rw [ifleF hi (by omega), cell_ix, cell_ix, nI_ad, nI_ad, cl_nI (by omega), cl_nI (by omega), ifgd0 (by omega) (by omega), ifgd0 (by omega) (by omega), L1, nI_ad]
    · show upd F (60 * o + c + i) (F (60 * k + a + i)) j = _
      unfold upd
      by_cases e : j = 60 * o + c + i
      · rw [if_pos e, if_pos (by omega), h2, if_neg (hno i hi)]
        congr 1
        omega
      · rw [if_neg e, h2 j]
        by_cases e3 : 60 * o + c ≤ j ∧ j < 60 * o + c + i
        · rw [if_pos e3, if_pos (by omega)]
        · rw [if_neg e3, if_neg (by omega)]
  · rintro ⟨y, F⟩ ⟨h1, h2⟩
    simp only at h1 h2
    subst h1
    refine ⟨F, ?_, h2⟩
    show L_X5_copy_166 (nI k) (nI a) (nI o) (nI c) (nI m) (nI m) F = _
    unfold L_X5_copy_166
    rw [ifleT (by omega) (by omega)]
theorem copyDn {k a o c m : Nat} (hm : m ≤ 60) (hs : 60 * k + a + m ≤ 240) (hd : 60 * o + c + m ≤ 240) (hno : ∀ i, i < m → ¬ (60 * o + c + (m - i) ≤ 60 * k + a + (m - 1 - i) ∧ 60 * k + a + (m - 1 - i) < 60 * o + c + m)) : ∃ w, it (u2 (L_X5_copy_166_2 (nI k) (nI a) (nI o) (nI c) (nI m))) FUEL ((0 : Int32), C) = some w ∧ ∀ j, w j = if 60 * o + c ≤ j ∧ j < 60 * o + c + m then C (60 * k + a + (j - (60 * o + c))) else C j := by
  refine it_goes (body := u2 (L_X5_copy_166_2 (nI k) (nI a) (nI o) (nI c) (nI m))) (fun i s => s.1 = nI i ∧ ∀ j, s.2 j = if 60 * o + c + (m - i) ≤ j ∧ j < 60 * o + c + m then C (60 * k + a + (j - (60 * o + c))) else C j) (fun w => ∀ j, w j = if 60 * o + c ≤ j ∧ j < 60 * o + c + m then C (60 * k + a + (j - (60 * o + c))) else C j) m ?_ ?_ FUEL (FUEL_gt (by omega)) _ ⟨rfl, fun j => by rw [if_neg (by omega)]⟩
  · rintro i ⟨y, F⟩ hi ⟨h1, h2⟩
    simp only at h1 h2
    subst h1
    left
    refine ⟨(nI (i + 1), upd F (60 * o + c + (m - 1 - i)) (F (60 * k + a + (m - 1 - i)))), ?_, rfl, fun j => ?_⟩
    · show L_X5_copy_166_2 (nI k) (nI a) (nI o) (nI c) (nI m) (nI i) F = _
      unfold L_X5_copy_166_2
      rw [ifleF hi (by omega), L1, nI_sb (by omega), nI_sb (by omega), cell_ix, cell_ix, nI_ad, nI_ad, cl_nI (by omega), cl_nI (by omega), ifgd0 (by omega) (by omega), ifgd0 (by omega) (by omega), nI_ad]
    · show upd F (60 * o + c + (m - 1 - i)) (F (60 * k + a + (m - 1 - i))) j = _
      unfold upd
      by_cases e : j = 60 * o + c + (m - 1 - i)
      · rw [if_pos e, if_pos (by omega), h2, if_neg (hno i hi)]
        congr 1
        omega
      · rw [if_neg e, h2 j]
        by_cases e3 : 60 * o + c + (m - i) ≤ j ∧ j < 60 * o + c + m
        · rw [if_pos e3, if_pos (by omega)]
        · rw [if_neg e3, if_neg (by omega)]
  · rintro ⟨y, F⟩ ⟨h1, h2⟩
    simp only at h1 h2
    subst h1
    refine ⟨F, ?_, fun j => ?_⟩
    · show L_X5_copy_166_2 (nI k) (nI a) (nI o) (nI c) (nI m) (nI m) F = _
      unfold L_X5_copy_166_2
      rw [ifleT (by omega) (by omega)]
    · rw [h2 j]
      have : 60 * o + c + (m - m) = 60 * o + c := by omega
      rw [this]
theorem IS_copy {k a o c m L1 L2 : Nat} {C' : Nat → Int32} (h : IS sl sn sc S LL C) (hk : k < 4) (ho : o < 4) (hL1 : L1 ≤ 60) (hL2 : L2 ≤ 60) (ha : a + m ≤ L1) (hc : c + m ≤ L2) (h1 : sn k = nI L1) (h2 : sn o = nI L2) (hC1 : ∀ j, j < L1 → C (60 * k + j) = sc k j) (hC' : ∀ j, C' j = if 60 * o + c ≤ j ∧ j < 60 * o + c + m then C (60 * k + a + (j - (60 * o + c))) else C j) : IS sl sn (va_up sc o (va_cpy (sc k) (sc o) a c m)) S LL C' := by
  intro k' hk'
  rcases h k' hk' with h3 | ⟨L', la', g1, g2, g3, g4, g5, g6, g7⟩
  · exact Or.inl h3
  · refine Or.inr ⟨L', la', g1, g2, g3, g4, g5, g6, fun j hj => ?_⟩
    rw [hC']
    unfold va_up
    by_cases e : k' = o
    · subst e
      rw [if_pos rfl]
      by_cases e2 : c ≤ j ∧ j < c + m
      · rw [if_pos (by omega), pk_cpy_in (by omega) (by omega), show 60 * k + a + (60 * k' + j - (60 * k' + c)) = 60 * k + (a + (j - c)) by omega]
        exact hC1 _ (by omega)
      · rw [if_neg (by omega), pk_cpy_out (by omega)]
        exact g7 j hj
    · rw [if_neg e, if_neg (by omega)]
      exact g7 j hj
theorem copy_cm (h : IS sl sn sc S LL C) (x i y j z : Int32) : ∃ v f sc' C', f_X4_copy sl sn sc x i y j z = some (v, f, sc') ∧ f_X5_copy S LL C x i y j z = some (v, f, C') ∧ IS sl sn sc' S LL C' := by
  unfold f_X4_copy f_X5_copy
  rw [isSheet_c, isSheet_m, isSheet_c, isSheet_m, ob1_s, ob1_s, ob1_s, ob1_s]
  by_cases q1 : btw x 0 3 = true
  · rw [q1, bT, bT]
    by_cases q2 : btw y 0 3 = true
    · rw [q2, bT, bT]
      obtain ⟨k, hk, rfl⟩ := btw_k q1
      obtain ⟨o, ho, rfl⟩ := btw_k q2
      rw [cl_nI (by omega), cl_nI (by omega), ifgd0 (by omega) (by omega), ifgd0 (by omega) (by omega), ifgd0 (by omega) (by omega)]
      rcases h k hk with ⟨h1, h2⟩ | ⟨L, la, hL, hla, h1, h2, h3, h4, h5⟩
      · refine ⟨-11, 1, sc, C, ?_, ?_, h⟩
        · rw [h1, hasRow_no, ob1_s, bF]; rfl
        · rw [h2, L9, if_pos rfl]; rfl
      rcases h o ho with ⟨g1, g2⟩ | ⟨M, ma, gL, gla, g1, g2, g3, g4, g5⟩
      · refine ⟨-11, 1, sc, C, ?_, ?_, h⟩
        · rw [h1, hasRow_yes hL, ob1_s, bT, g1, hasRow_no, ob1_s, bF]; rfl
        · rw [h4, L9, ifeqN (by omega) (by omega) (by omega), ifgd0 (by omega) (by omega), g2, if_pos rfl]; rfl
      rw [h1, hasRow_yes hL, ob1_s, bT, g1, hasRow_yes gL, ob1_s, bT, h4, g4, L9, ifeqN (by omega) (by omega) (by omega), ifgd0 (by omega) (by omega), ifeqN (by omega) (by omega) (by omega), ifgd0 (by omega) (by omega), ifgd0 (by omega) (by omega), h3, g3, h2, g2]
      rw [show f_X1_laneOf (nI la) = some (nI la) from rfl, ob1_s, show f_X1_laneOf (nI ma) = some (nI ma) from rfl, ob1_s]
      by_cases q3 : nI la = nI ma
      · rw [if_pos q3, if_pos q3]
        obtain ⟨b1, hb1, hb2⟩ := hasCells_e (i := i) (n := z) hL
        obtain ⟨b3, hb3, hb4⟩ := hasCells_e (i := j) (n := z) gL
        have no : ¬ (b1 = true ∧ b3 = true) → ob1 (f_X1_hasCells (nI L) i z) (fun r_83 => if r_83 = 0 then ob2 (f_X4_failed 3) (fun r_103 r_103_lastFault => some (r_103, r_103_lastFault, sc)) else ob1 (f_X1_hasCells (nI M) j z) (fun r_95 => if r_95 = 0 then ob2 (f_X4_failed 3) (fun r_103 r_103_lastFault => some (r_103, r_103_lastFault, sc)) else ob1 (f_X1_takeCells (nI M) (sc o) (nI L) (sc k) j i z) (fun r_116_cells => some (z, 0, va_up sc o r_116_cells)))) = some (-13, 3, sc) := by
          intro hbb
          rw [hb1, ob1_s, hb3]
          cases b1
          · rfl
          · cases b3
            · rfl
            · exact absurd ⟨rfl, rfl⟩ hbb
        by_cases e1 : i < 0
        · refine ⟨-13, 3, sc, C, no (fun ⟨t1, _⟩ => ?_), ?_, h⟩
          · obtain ⟨a, m, t2, t3, t4⟩ := hb2.mp t1
            subst t2
            exact absurd e1 (nI_pos (by omega))
          · rw [if_pos e1]; rfl
        rw [if_neg e1]
        obtain ⟨a, ha, rfl⟩ := pos_ex e1
        by_cases e2 : j < 0
        · refine ⟨-13, 3, sc, C, no (fun ⟨_, t1⟩ => ?_), ?_, h⟩
          · obtain ⟨a, m, t2, t3, t4⟩ := hb4.mp t1
            subst t2
            exact absurd e2 (nI_pos (by omega))
          · rw [if_pos e2]; rfl
        rw [if_neg e2]
        obtain ⟨c, hc, rfl⟩ := pos_ex e2
        by_cases e3 : z < 0
        · refine ⟨-13, 3, sc, C, no (fun ⟨_, t1⟩ => ?_), ?_, h⟩
          · obtain ⟨a, m, t2, t3, t4⟩ := hb4.mp t1
            subst t3
            exact absurd e3 (nI_pos (by omega))
          · rw [if_pos e3]; rfl
        rw [if_neg e3, ifgd0 (by omega) (by omega)]
        obtain ⟨m, hm, rfl⟩ := pos_ex e3
        by_cases e4 : L < a
        · refine ⟨-13, 3, sc, C, no (fun ⟨t1, _⟩ => ?_), ?_, h⟩
          · obtain ⟨a', m', t2, t3, t4⟩ := hb2.mp t1
            have := (nI_eq (by omega) (by omega)).mp t2
            omega
          · rw [ifltT e4 (by omega)]; rfl
        rw [ifltF (by omega) (by omega), ifgd0 (by omega) (by omega)]
        by_cases e5 : M < c
        · refine ⟨-13, 3, sc, C, no (fun ⟨_, t1⟩ => ?_), ?_, h⟩
          · obtain ⟨a', m', t2, t3, t4⟩ := hb4.mp t1
            have := (nI_eq (by omega) (by omega)).mp t2
            omega
          · rw [ifltT e5 (by omega)]; rfl
        rw [ifltF (by omega) (by omega), ifgd0 (by omega) (by omega), nI_sb (by omega), nI_sb (by omega)]
        by_cases e6 : a + m ≤ L
        · rw [ifltF (by omega) (by omega), ifgd0 (by omega) (by omega)]
          by_cases e7 : c + m ≤ M
          · have t1 : b1 = true := hb2.mpr ⟨a, m, rfl, rfl, e6⟩
            have t3 : b3 = true := hb4.mpr ⟨c, m, rfl, rfl, e7⟩
            have hw : ∃ w, (if nI c ≤ nI a then ob1 (it (u2 (L_X5_copy_166 (nI k) (nI a) (nI o) (nI c) (nI m))) FUEL ((0 : Int32), C)) (fun m_cells_166e => some (nI m, (0 : Int32), m_cells_166e)) else ob1 (it (u2 (L_X5_copy_166_2 (nI k) (nI a) (nI o) (nI c) (nI m))) FUEL ((0 : Int32), C)) (fun m_cells_166e => some (nI m, (0 : Int32), m_cells_166e))) = some (nI m, (0 : Int32), w) ∧ ∀ j, w j = if 60 * o + c ≤ j ∧ j < 60 * o + c + m then C (60 * k + a + (j - (60 * o + c))) else C j := by
              by_cases e8 : c ≤ a
              · rw [ifleT e8 (by omega)]
                obtain ⟨w, w1, w2⟩ := copyUp (C := C) (k := k) (a := a) (o := o) (c := c) (m := m) (by omega) (by omega) (by omega) (fun i hi => by omega)
                exact ⟨w, by rw [w1, ob1_s], w2⟩
              · rw [ifleF (by omega) (by omega)]
                obtain ⟨w, w1, w2⟩ := copyDn (C := C) (k := k) (a := a) (o := o) (c := c) (m := m) (by omega) (by omega) (by omega) (fun i hi => by omega)
                exact ⟨w, by rw [w1, ob1_s], w2⟩
            obtain ⟨w, w1, w2⟩ := hw
            refine ⟨nI m, 0, _, w, ?_, ?_, IS_copy h hk ho hL gL e6 e7 h1 g1 h5 w2⟩
            · unfold f_X1_takeCells
              rw [hb1, ob1_s, t1, bT, hb3, ob1_s, t3, bT, ob1_s, bT, ob1_s, bT, cl_nI (by omega), cl_nI (by omega), cl_nI (by omega), if_neg, ob1_s]
              rintro (t | t | t | t | t)
              · exact nI_pos (by omega) t
              · exact nI_pos (by omega) t
              · exact nI_pos (by omega) t
              · omega
              · omega
            · rw [ifleT (by omega) (by omega)]
              exact w1
          · refine ⟨-13, 3, sc, C, no (fun ⟨_, t1⟩ => ?_), ?_, h⟩
            · obtain ⟨a', m', t2, t3, t4⟩ := hb4.mp t1
              have := (nI_eq (by omega) (by omega)).mp t2
              have := (nI_eq (by omega) (by omega)).mp t3
              omega
            · rw [ifleF (by omega) (by omega)]; rfl
        · refine ⟨-13, 3, sc, C, no (fun ⟨t1, _⟩ => ?_), ?_, h⟩
          · obtain ⟨a', m', t2, t3, t4⟩ := hb2.mp t1
            have := (nI_eq (by omega) (by omega)).mp t2
            have := (nI_eq (by omega) (by omega)).mp t3
            omega
          · rw [ifltT (by omega) (by omega)]; rfl
      · rw [if_neg q3, if_neg q3]
        exact ⟨-12, 2, sc, C, rfl, rfl, h⟩
    · rw [Bool.not_eq_true] at q2
      rw [q2]
      exact ⟨_, _, _, _, rfl, rfl, h⟩
  · rw [Bool.not_eq_true] at q1
    rw [q1]
    exact ⟨_, _, _, _, rfl, rfl, h⟩
end SHEETS
