/-! DAY -/
def f_day_rest (m_sorts : Nat → Int32) (m_sheetLong : Nat → Int32) (m_cells : Nat → Int32) (m_things : Int32) (m_references : Int32) (m_kind : Nat → Int32) (m_owner : Nat → Int32) (m_whose : Nat → Int32) (m_toWhich : Nat → Int32) (m_kept : Nat → Int32) (x1 : Int32) (x2 : Int32) (x3 : Int32) (x4 : Int32) (x5 : Int32) : Option (Int32 × Int32 × Int32 × (Nat → Int32) × (Nat → Int32) × (Nat → Int32) × (Nat → Int32)) :=
  (ob1 (f_X5_against m_sorts m_sheetLong x1 x2 x3 ((3 : Int32) * x4)) (fun r_65 => (if r_65 = 0 then (if m_things = 0 then (some ((-3 : Int32), (0 : Int32), m_references, m_owner, m_whose, m_toWhich, m_kept)) else (os0 (it (u1 (L_X5_day_103 m_cells m_references m_owner m_whose m_toWhich m_kept x1 x3 x4)) FUEL (0 : Int32)) (ob1 (f_X5_keep m_references m_owner m_whose m_toWhich m_kept) (fun r_140_kept => (ob5 (f_X5_goDay m_cells m_things m_references m_owner m_whose m_toWhich (((60 : Int32) * x1) + x3) x4) (fun r_148 r_148_references r_148_owner r_148_whose r_148_toWhich => (ob1 (f_X5_tellDay m_things r_148_references m_kind r_148_owner r_148_whose r_148_toWhich x5) (fun r_156 => (ob4 (f_X5_putBack r_148_owner r_148_whose r_148_toWhich r_140_kept) (fun r_162_references r_162_owner r_162_whose r_162_toWhich => (if x5 = (1 : Int32) then (some (r_148, (0 : Int32), r_162_references, r_162_owner, r_162_whose, r_162_toWhich, r_140_kept)) else (if r_148 = (-9 : Int32) then (some (r_156, (0 : Int32), r_162_references, r_162_owner, r_162_whose, r_162_toWhich, r_140_kept)) else (some (((-100 : Int32) - r_148), (0 : Int32), r_162_references, r_162_owner, r_162_whose, r_162_toWhich, r_140_kept)))))))))))))) else (ob2 (f_X5_fails r_65) (fun r_78 r_78_fault => (some (r_78, r_78_fault, m_references, m_owner, m_whose, m_toWhich, m_kept)))))))
theorem day_m_eq {m_sorts : Nat → Int32} {m_sheetLong : Nat → Int32} {m_cells : Nat → Int32} {m_things : Int32} {m_references : Int32} {m_kind : Nat → Int32} {m_owner : Nat → Int32} {m_whose : Nat → Int32} {m_toWhich : Nat → Int32} {m_kept : Nat → Int32} {x1 : Int32} {x2 : Int32} {x3 : Int32} {x4 : Int32} {x5 : Int32} : f_X5_day m_sorts m_sheetLong m_cells m_things m_references m_kind m_owner m_whose m_toWhich m_kept x1 x2 x3 x4 x5 = (ob1 (f_X5_isSheet x1) (fun r_6 => (if r_6 = 0 then (some ((-1 : Int32), (0 : Int32), m_references, m_owner, m_whose, m_toWhich, m_kept)) else (ob1 (f_X5_isSort x2) (fun r_15 => (if r_15 = 0 then (some ((-2 : Int32), (0 : Int32), m_references, m_owner, m_whose, m_toWhich, m_kept)) else (ob1 (f_X5_within x4 (0 : Int32) (20 : Int32)) (fun r_26 => (if r_26 = 0 then (some ((-2 : Int32), (0 : Int32), m_references, m_owner, m_whose, m_toWhich, m_kept)) else (ob1 (f_X5_within x5 (0 : Int32) (4 : Int32)) (fun r_36 => (if r_36 = 0 then (ob1 (f_X5_within x5 (10 : Int32) (15 : Int32)) (fun r_48 => (if r_48 = 0 then (some ((-2 : Int32), (0 : Int32), m_references, m_owner, m_whose, m_toWhich, m_kept)) else (f_day_rest m_sorts m_sheetLong m_cells m_things m_references m_kind m_owner m_whose m_toWhich m_kept x1 x2 x3 x4 x5)))) else (f_day_rest m_sorts m_sheetLong m_cells m_things m_references m_kind m_owner m_whose m_toWhich m_kept x1 x2 x3 x4 x5))))))))))))) := id rfl
theorem btw_1015 {x : Int32} (h : btw x 10 15 = true) : ∃ e, 10 ≤ e ∧ e ≤ 15 ∧ x = nI e := by
  simp only [btw, decide_eq_true_eq] at h
  obtain ⟨h1, h2⟩ := h
  rw [Int32.lt_iff_toInt_lt] at h1 h2
  have e1 : (10 : Int32).toInt = 10 := by decide
  have e2 : (15 : Int32).toInt = 15 := by decide
  rw [e1] at h1
  rw [e2] at h2
  have h3 : ¬ x < 0 := by
    rw [Int32.lt_iff_toInt_lt]
    have e3 : (0 : Int32).toInt = 0 := by decide
    rw [e3]; omega
  obtain ⟨m, hm, rfl⟩ := pos_ex h3
  rw [nI_toInt (by omega)] at h1 h2
  exact ⟨m, by omega, by omega, rfl⟩
theorem keep_m (R : Int32) (a f g K : Nat → Int32) : ∃ K', f_X5_keep R a f g K = some K' ∧ K' 0 = R ∧ (∀ i, i < 12 → K' (1 + i) = f i ∧ K' (13 + i) = g i) ∧ ∀ i, i < 6 → K' (25 + i) = a i := by
  unfold f_X5_keep
  have e1 : ∃ w, it (u2 (L_X5_keep_12 f g)) FUEL ((0 : Int32), upd K (0 : Int32).toNatClampNeg R) = some w ∧ w 0 = R ∧ ∀ i, i < 12 → w (1 + i) = f i ∧ w (13 + i) = g i := by
    refine it_goes (body := u2 (L_X5_keep_12 f g)) (fun i s => s.1 = nI i ∧ s.2 0 = R ∧ ∀ j, j < i → s.2 (1 + j) = f j ∧ s.2 (13 + j) = g j) (fun w => w 0 = R ∧ ∀ i, i < 12 → w (1 + i) = f i ∧ w (13 + i) = g i) 12 ?_ ?_ FUEL (FUEL_gt (by omega)) _ ⟨rfl, rfl, fun j hj => by omega⟩
    · rintro i ⟨y, F⟩ hi ⟨h1, h2, h3⟩
      simp only at h1 h2 h3
      subst h1
      left
      refine ⟨(nI (i + 1), upd (upd F (1 + i) (f i)) (13 + i) (g i)), ?_, rfl, ?_, fun j hj => ?_⟩
      · show L_X5_keep_12 f g (nI i) F = _
        unfold L_X5_keep_12
        rw [L12, ifleF hi (by omega), cl_nI (by omega), ifgd0 (by omega) (by omega), L1, nI_ad, cl_nI (by omega), ifgd0 (by omega) (by omega), ifgd0 (by omega) (by omega), show (13 : Int32) = nI 13 from rfl, nI_ad, cl_nI (by omega), ifgd0 (by omega) (by omega), nI_ad]
      · show upd (upd F (1 + i) (f i)) (13 + i) (g i) 0 = R
        unfold upd
        rw [if_neg (by omega), if_neg (by omega)]
        exact h2
      · show upd (upd F (1 + i) (f i)) (13 + i) (g i) (1 + j) = f j ∧ upd (upd F (1 + i) (f i)) (13 + i) (g i) (13 + j) = g j
        unfold upd
        by_cases e : j = i
        · subst e
          rw [if_neg (by omega), if_pos rfl, if_pos rfl]
          exact ⟨rfl, rfl⟩
        · rw [if_neg (by omega), if_neg (by omega), if_neg (by omega), if_neg (by omega)]
          exact h3 j (by omega)
    · rintro ⟨y, F⟩ ⟨h1, h2, h3⟩
      simp only at h1 h2 h3
      subst h1
      refine ⟨F, ?_, h2, h3⟩
      show L_X5_keep_12 f g (nI 12) F = _
      unfold L_X5_keep_12
      rw [L12, ifleT (by omega) (by omega)]
  obtain ⟨W, e1, w1, w2⟩ := e1
  have e2 : ∃ w, it (u2 (L_X5_keep_55 a)) FUEL ((0 : Int32), W) = some w ∧ (∀ i, i < 25 → w i = W i) ∧ ∀ i, i < 6 → w (25 + i) = a i := by
    refine it_goes (body := u2 (L_X5_keep_55 a)) (fun i s => s.1 = nI i ∧ (∀ j, j < 25 → s.2 j = W j) ∧ ∀ j, j < i → s.2 (25 + j) = a j) (fun w => (∀ i, i < 25 → w i = W i) ∧ ∀ i, i < 6 → w (25 + i) = a i) 6 ?_ ?_ FUEL (FUEL_gt (by omega)) _ ⟨rfl, fun _ _ => rfl, fun j hj => by omega⟩
    · rintro i ⟨y, F⟩ hi ⟨h1, h2, h3⟩
      simp only at h1 h2 h3
      subst h1
      left
      refine ⟨(nI (i + 1), upd F (25 + i) (a i)), ?_, rfl, fun j hj => ?_, fun j hj => ?_⟩
      · show L_X5_keep_55 a (nI i) F = _
        unfold L_X5_keep_55
        rw [L6, ifleF hi (by omega), cl_nI (by omega), ifgd0 (by omega) (by omega), show (25 : Int32) = nI 25 from rfl, nI_ad, cl_nI (by omega), ifgd0 (by omega) (by omega), L1, nI_ad]
      · show upd F (25 + i) (a i) j = W j
        unfold upd
        rw [if_neg (by omega)]
        exact h2 j hj
      · show upd F (25 + i) (a i) (25 + j) = a j
        unfold upd
        by_cases e : j = i
        · subst e; rw [if_pos rfl]
        · rw [if_neg (by omega)]
          exact h3 j (by omega)
    · rintro ⟨y, F⟩ ⟨h1, h2, h3⟩
      simp only at h1 h2 h3
      subst h1
      refine ⟨F, ?_, h2, h3⟩
      show L_X5_keep_55 a (nI 6) F = _
      unfold L_X5_keep_55
      rw [L6, ifleT (by omega) (by omega)]
  obtain ⟨X, e2, x1, x2⟩ := e2
  refine ⟨X, ?_, by rw [x1 0 (by omega)]; exact w1, fun i hi => ?_, x2⟩
  · rw [if_neg (by decide), e1, ob1_s, e2, ob1_s]
  · rw [x1 _ (by omega), x1 _ (by omega)]
    exact w2 i hi
theorem putBack_m (a f g K : Nat → Int32) : ∃ A F G, f_X5_putBack a f g K = some (K 0, A, F, G) ∧ (∀ i, i < 12 → F i = K (1 + i) ∧ G i = K (13 + i)) ∧ ∀ i, i < 6 → A i = K (25 + i) := by
  unfold f_X5_putBack
  have e1 : ∃ w, it (u3 (L_X5_putBack_12 K)) FUEL ((0 : Int32), f, g) = some w ∧ ∀ i, i < 12 → w.1 i = K (1 + i) ∧ w.2 i = K (13 + i) := by
    refine it_goes (body := u3 (L_X5_putBack_12 K)) (fun i s => s.1 = nI i ∧ ∀ j, j < i → s.2.1 j = K (1 + j) ∧ s.2.2 j = K (13 + j)) (fun w => ∀ i, i < 12 → w.1 i = K (1 + i) ∧ w.2 i = K (13 + i)) 12 ?_ ?_ FUEL (FUEL_gt (by omega)) _ ⟨rfl, fun j hj => by omega⟩
    · rintro i ⟨y, F, G⟩ hi ⟨h1, h2⟩
      simp only at h1 h2
      subst h1
      left
      refine ⟨(nI (i + 1), upd F i (K (1 + i)), upd G i (K (13 + i))), ?_, rfl, fun j hj => ?_⟩
      · show L_X5_putBack_12 K (nI i) F G = _
        unfold L_X5_putBack_12
        rw [L12, ifleF hi (by omega), L1, nI_ad, cl_nI (by omega), ifgd0 (by omega) (by omega), cl_nI (by omega), ifgd0 (by omega) (by omega), show (13 : Int32) = nI 13 from rfl, nI_ad, cl_nI (by omega), ifgd0 (by omega) (by omega), ifgd0 (by omega) (by omega), nI_ad]
      · show upd F i (K (1 + i)) j = K (1 + j) ∧ upd G i (K (13 + i)) j = K (13 + j)
        unfold upd
        by_cases e : j = i
        · subst e
          rw [if_pos rfl, if_pos rfl]
          exact ⟨rfl, rfl⟩
        · rw [if_neg e, if_neg e]
          exact h2 j (by omega)
    · rintro ⟨y, F, G⟩ ⟨h1, h2⟩
      simp only at h1 h2
      subst h1
      refine ⟨(F, G), ?_, h2⟩
      show L_X5_putBack_12 K (nI 12) F G = _
      unfold L_X5_putBack_12
      rw [L12, ifleT (by omega) (by omega)]
  have e2 : ∃ w, it (u2 (L_X5_putBack_55 K)) FUEL ((0 : Int32), a) = some w ∧ ∀ i, i < 6 → w i = K (25 + i) := by
    refine it_goes (body := u2 (L_X5_putBack_55 K)) (fun i s => s.1 = nI i ∧ ∀ j, j < i → s.2 j = K (25 + j)) (fun w => ∀ i, i < 6 → w i = K (25 + i)) 6 ?_ ?_ FUEL (FUEL_gt (by omega)) _ ⟨rfl, fun j hj => by omega⟩
    · rintro i ⟨y, F⟩ hi ⟨h1, h2⟩
      simp only at h1 h2
      subst h1
      left
      refine ⟨(nI (i + 1), upd F i (K (25 + i))), ?_, rfl, fun j hj => ?_⟩
      · show L_X5_putBack_55 K (nI i) F = _
        unfold L_X5_putBack_55
        rw [L6, ifleF hi (by omega), show (25 : Int32) = nI 25 from rfl, nI_ad, cl_nI (by omega), cl_nI (by omega), ifgd0 (by omega) (by omega), ifgd0 (by omega) (by omega), L1, nI_ad]
      · show upd F i (K (25 + i)) j = K (25 + j)
        unfold upd
        by_cases e : j = i
        · subst e; rw [if_pos rfl]
        · rw [if_neg e]
          exact h2 j (by omega)
    · rintro ⟨y, F⟩ ⟨h1, h2⟩
      simp only at h1 h2
      subst h1
      refine ⟨F, ?_, h2⟩
      show L_X5_putBack_55 K (nI 6) F = _
      unfold L_X5_putBack_55
      rw [L6, ifleT (by omega) (by omega)]
  obtain ⟨⟨F, G⟩, e1, w1⟩ := e1
  obtain ⟨A, e2, x1⟩ := e2
  refine ⟨A, F, G, ?_, w1, x1⟩
  rw [if_neg (by decide), e1, ob2_s, e2, ob1_s]
  rfl
section DAY
variable {n r : Nat} {kd ow fr to : Nat → Nat} {c1 r1 c2 r2 : Int32} {k1 a1 f1 g1 k2 a2 f2 g2 : Nat → Int32} {sl sn S LL C : Nat → Int32} {sc : Nat → Nat → Int32}
theorem tellDay_cm {e : Nat} (h : AD n r kd ow fr to) (hk1 : RI n kd k1) (ha1 : RI n ow a1) (hf1 : RI r fr f1) (hg1 : RI r to g1) (hk2 : RI n kd k2) (ha2 : RI n ow a2) (hf2 : RI r fr f2) (hg2 : RI r to g2) (he : e ≤ 4 ∨ (10 ≤ e ∧ e ≤ 15)) : ∃ v, f_X5_tellDay (nI n) (nI r) k2 a2 f2 g2 (nI e) = some v ∧ (e ≠ 1 → f_X4_afterDay (nI n) (nI r) k1 a1 f1 g1 (nI e) = some v) := by
  have hn := h.1.1
  have hr := h.1.2.1
  have hb := h.1.bd
  have hgr := greatest_m hn hk2 ha2 h.2.2.2 h.kd2
  unfold f_X5_tellDay f_X4_afterDay
  rw [L10]
  by_cases e10 : 10 ≤ e
  · have he15 : e ≤ 15 := by omega
    rw [ifltF e10 (by omega), L0, ifeqF (by omega) (by omega) (by omega), L1, ifeqF (by omega) (by omega) (by omega), L2, ifeqF (by omega) (by omega) (by omega), L3, ifeqF (by omega) (by omega) (by omega), L4, ifeqF (by omega) (by omega) (by omega), nI_sb e10, isThing_c, isThing_m, ob1_s, ob1_s]
    by_cases q : isT n (nI (e - 10)) = true
    · have ht : e - 10 < n := by
        obtain ⟨t, ht, e1⟩ := isT_ex hn q
        have := (nI_eq (by omega) (by omega)).mp e1
        omega
      rw [q, ← L0, bT, bT, cl_nI (by omega), ifgd0 (by omega) (by omega), ha2 _ ht, ownerOf_c hn ha1 ht]
      exact ⟨_, rfl, fun _ => rfl⟩
    · rw [Bool.not_eq_true] at q
      rw [q]
      exact ⟨_, rfl, fun _ => rfl⟩
  · rw [ifltT (by omega) (by omega)]
    have : e = 0 ∨ e = 1 ∨ e = 2 ∨ e = 3 ∨ e = 4 := by omega
    rcases this with rfl | rfl | rfl | rfl | rfl
    · rw [L0, ifeqT rfl, ifeqT rfl]
      exact ⟨_, rfl, fun _ => rfl⟩
    · rw [L0, ifeqF (by omega) (by omega) (by omega), L1, ifeqT rfl, ← L0, hgr, ob1_s]
      exact ⟨_, rfl, fun q => absurd rfl q⟩
    · rw [L0, ifeqF (by omega) (by omega) (by omega), L1, ifeqF (by omega) (by omega) (by omega), L2, ifeqT rfl, unlawfulNow_m h.1 ha2 hf2 hg2 h.ow2, ob1_s]
      refine ⟨_, rfl, fun _ => ?_⟩
      rw [ifeqF (by omega) (by omega) (by omega), ifeqF (by omega) (by omega) (by omega), ifeqT rfl, notLawful_c h.1 ha1 hf1 hg1 h.ow2, ob1_s]
    · rw [L0, ifeqF (by omega) (by omega) (by omega), L1, ifeqF (by omega) (by omega) (by omega), L2, ifeqF (by omega) (by omega) (by omega), L3, ifeqT rfl, reached_m hr hf2 hg2 hb, ob1_s]
      refine ⟨_, rfl, fun _ => ?_⟩
      rw [ifeqF (by omega) (by omega) (by omega), ifeqF (by omega) (by omega) (by omega), ifeqF (by omega) (by omega) (by omega), ifeqT rfl, reached_c hr hf1 hg1 hb, ob1_s]
    · rw [L0, ifeqF (by omega) (by omega) (by omega), L1, ifeqF (by omega) (by omega) (by omega), L2, ifeqF (by omega) (by omega) (by omega), L3, ifeqF (by omega) (by omega) (by omega), ← L0, hgr, ob1_s]
      refine ⟨_, rfl, fun _ => ?_⟩
      rw [L0, ifeqF (by omega) (by omega) (by omega), ifeqF (by omega) (by omega) (by omega), ifeqF (by omega) (by omega) (by omega), ifeqF (by omega) (by omega) (by omega), L4, ifeqT rfl, greatestLock_c hn hk1 ha1 h.2.2.2 h.kd2, ob1_s]
def goI (n : Nat) (kd : Nat → Nat) (i : Nat) (s t : Int32 × Int32 × (Nat → Int32) × (Nat → Int32) × (Nat → Int32)) : Prop := s.1 = nI i ∧ t.1 = nI i ∧ ∃ r ow fr to, AD n r kd ow fr to ∧ s.2.1 = nI r ∧ t.2.1 = nI r ∧ RI n ow s.2.2.1 ∧ RI r fr s.2.2.2.1 ∧ RI r to s.2.2.2.2 ∧ RI n ow t.2.2.1 ∧ RI r fr t.2.2.2.1 ∧ RI r to t.2.2.2.2
def goQ (n : Nat) (kd : Nat → Nat) (s t : (Int32 × (Nat → Int32) × (Nat → Int32) × (Nat → Int32)) ⊕ (Int32 × Int32 × (Nat → Int32) × (Nat → Int32) × (Nat → Int32))) : Prop := ∃ code r ow fr to A1 F1 G1 A2 F2 G2, AD n r kd ow fr to ∧ RI n ow A1 ∧ RI r fr F1 ∧ RI r to G1 ∧ RI n ow A2 ∧ RI r fr F2 ∧ RI r to G2 ∧ ((code = -(nI 9) ∧ s = .inl (nI r, A1, F1, G1) ∧ t = .inl (nI r, A2, F2, G2)) ∨ (s = .inr (code, nI r, A1, F1, G1) ∧ t = .inr (code, nI r, A2, F2, G2)))
theorem b2i_ne {α : Type} {ok : Bool} {X Y : α} : (if b2i ok = 0 then X else Y) = if ok = true then Y else X := by cases ok <;> rfl
theorem goDay_cm {k a b L : Nat} (h : AD n r kd ow fr to) (ha1 : RI n ow a1) (hf1 : RI r fr f1) (hg1 : RI r to g1) (ha2 : RI n ow a2) (hf2 : RI r fr f2) (hg2 : RI r to g2) (hk : k < 4) (hL : L ≤ 60) (hab : a + 3 * b ≤ L) (s1 : sn k = nI L) (hC : ∀ j, j < L → C (60 * k + j) = sc k j) (hso : ∀ j, j < b → sc k (a + 3 * j) = 0 ∨ sc k (a + 3 * j) = 1 ∨ sc k (a + 3 * j) = 2) : ∃ code r' ow' fr' to' A1 F1 G1 A2 F2 G2, f_X4_firstWrong (sn k) (sc k) (nI n) (nI r) a1 f1 g1 (nI a) (nI b) = some (code, nI r', A1, F1, G1) ∧ f_X5_goDay C (nI n) (nI r) a2 f2 g2 (nI (60 * k + a)) (nI b) = some (code, nI r', A2, F2, G2) ∧ AD n r' kd ow' fr' to' ∧ RI n ow' A1 ∧ RI r' fr' F1 ∧ RI r' to' G1 ∧ RI n ow' A2 ∧ RI r' fr' F2 ∧ RI r' to' G2 := by
  have key : ∃ s t, it (u5 (L_X4_firstWrong_3 (sn k) (sc k) (nI n) (nI a) (nI b))) FUEL ((0 : Int32), nI r, a1, f1, g1) = some s ∧ it (u5 (L_X5_goDay_2 C (nI n) (nI (60 * k + a)) (nI b))) FUEL ((0 : Int32), nI r, a2, f2, g2) = some t ∧ goQ n kd s t := by
    refine it_two (b1 := u5 (L_X4_firstWrong_3 (sn k) (sc k) (nI n) (nI a) (nI b))) (b2 := u5 (L_X5_goDay_2 C (nI n) (nI (60 * k + a)) (nI b))) (goI n kd) (goQ n kd) b ?_ ?_ FUEL (FUEL_gt (by omega)) _ _ ⟨rfl, rfl, r, ow, fr, to, h, rfl, rfl, ha1, hf1, hg1, ha2, hf2, hg2⟩
    · rintro i ⟨y, R1, A1, F1, G1⟩ ⟨y2, R2, A2, F2, G2⟩ hi ⟨e1, e2, r, ow, fr, to, h, e3, e4, i1, i2, i3, i4, i5, i6⟩
      simp only at e1 e2 e3 e4 i1 i2 i3 i4 i5 i6
      subst e1 e2 e3 e4
      obtain ⟨ok, r', ow', fr', to', A1', F1', G1', A2', F2', G2', q1, q2, q3, q4, q5, q6, q7, q8, q9⟩ := act_cm h i1 i2 i3 i4 i5 i6 (sc k (a + 3 * i)) (sc k (a + 3 * i + 1)) (sc k (a + 3 * i + 2)) (hso i hi)
      have z1 : C (60 * k + a + 3 * i) = sc k (a + 3 * i) := by rw [Nat.add_assoc]; rw [show 60 * k + (a + 3 * i) = 60 * k + (a + 3 * i) from rfl]; exact hC _ (by omega)
      have z2 : C (60 * k + a + 3 * i + 1) = sc k (a + 3 * i + 1) := by rw [show 60 * k + a + 3 * i + 1 = 60 * k + (a + 3 * i + 1) by omega]; exact hC _ (by omega)
      have z3 : C (60 * k + a + 3 * i + 2) = sc k (a + 3 * i + 2) := by rw [show 60 * k + a + 3 * i + 2 = 60 * k + (a + 3 * i + 2) by omega]; exact hC _ (by omega)
      have b1 : u5 (L_X4_firstWrong_3 (sn k) (sc k) (nI n) (nI a) (nI b)) (nI i, nI r, A1, F1, G1) = if ok = true then some (.inl (nI (i + 1), nI r', A1', F1', G1')) else some (.inr (.inr (nI i, nI r', A1', F1', G1'))) := by
        show L_X4_firstWrong_3 (sn k) (sc k) (nI n) (nI a) (nI b) (nI i) (nI r) A1 F1 G1 = _
        unfold L_X4_firstWrong_3
        rw [ifleF hi (by omega), L3, nI_ml, nI_ad, L1, L2, nI_ad, nI_ad, s1, valueAt_c hL (by omega), ob1_s, valueAt_c hL (by omega), ob1_s, valueAt_c hL (by omega), ob1_s, q1, ob5_s, b2i_ne, nI_ad]
      have b2 : u5 (L_X5_goDay_2 C (nI n) (nI (60 * k + a)) (nI b)) (nI i, nI r, A2, F2, G2) = if ok = true then some (.inl (nI (i + 1), nI r', A2', F2', G2')) else some (.inr (.inr (nI i, nI r', A2', F2', G2'))) := by
        show L_X5_goDay_2 C (nI n) (nI (60 * k + a)) (nI b) (nI i) (nI r) A2 F2 G2 = _
        unfold L_X5_goDay_2
        rw [ifleF hi (by omega), L3, nI_ml, nI_ad, L1, L2, nI_ad, nI_ad, cl_nI (by omega), cl_nI (by omega), cl_nI (by omega), ifgd0 (by omega) (by omega), ifgd0 (by omega) (by omega), ifgd0 (by omega) (by omega), z1, z2, z3, q2, ob5_s, b2i_ne, nI_ad]
      cases ok with
      | true =>
        left
        exact ⟨_, _, b1, b2, rfl, rfl, r', ow', fr', to', q3, rfl, rfl, q4, q5, q6, q7, q8, q9⟩
      | false =>
        right
        exact ⟨_, _, b1, b2, nI i, r', ow', fr', to', A1', F1', G1', A2', F2', G2', q3, q4, q5, q6, q7, q8, q9, Or.inr ⟨rfl, rfl⟩⟩
    · rintro ⟨y, R1, A1, F1, G1⟩ ⟨y2, R2, A2, F2, G2⟩ ⟨e1, e2, r, ow, fr, to, h, e3, e4, i1, i2, i3, i4, i5, i6⟩
      simp only at e1 e2 e3 e4 i1 i2 i3 i4 i5 i6
      subst e1 e2 e3 e4
      refine ⟨.inl (nI r, A1, F1, G1), .inl (nI r, A2, F2, G2), ?_, ?_, -(nI 9), r, ow, fr, to, A1, F1, G1, A2, F2, G2, h, i1, i2, i3, i4, i5, i6, Or.inl ⟨rfl, rfl, rfl⟩⟩
      · show L_X4_firstWrong_3 (sn k) (sc k) (nI n) (nI a) (nI b) (nI b) (nI r) A1 F1 G1 = _
        unfold L_X4_firstWrong_3
        rw [ifleT (by omega) (by omega)]
      · show L_X5_goDay_2 C (nI n) (nI (60 * k + a)) (nI b) (nI b) (nI r) A2 F2 G2 = _
        unfold L_X5_goDay_2
        rw [ifleT (by omega) (by omega)]
  obtain ⟨s, t, e1, e2, code, r', ow', fr', to', A1, F1, G1, A2, F2, G2, q1, q2, q3, q4, q5, q6, q7, q8⟩ := key
  refine ⟨code, r', ow', fr', to', A1, F1, G1, A2, F2, G2, ?_, ?_, q1, q2, q3, q4, q5, q6, q7⟩
  · unfold f_X4_firstWrong
    rw [e1]
    rcases q8 with ⟨rfl, rfl, rfl⟩ | ⟨rfl, rfl⟩
    · rw [os4_l]; rfl
    · rw [os4_r]
  · unfold f_X5_goDay
    rw [e2]
    rcases q8 with ⟨rfl, rfl, rfl⟩ | ⟨rfl, rfl⟩
    · rw [os4_l]; rfl
    · rw [os4_r]
theorem asked_c (x : Int32) : f_X4_isAskedOfDays x = some (b2i (btw x 0 4 || btw x 10 15)) := by
  unfold f_X4_isAskedOfDays
  rw [btw_c, ob1_s, btw_c]
  cases btw x 0 4
  · rw [bF, ob1_s]
    cases btw x 10 15 <;> rfl
  · rw [bT]; rfl
theorem btw_012 {x : Int32} (h : btw x 0 2 = true) : x = 0 ∨ x = 1 ∨ x = 2 := by
  obtain ⟨j, hj, rfl⟩ := btw_la h
  have : j = 0 ∨ j = 1 ∨ j = 2 := by omega
  rcases this with rfl | rfl | rfl
  · exact Or.inl rfl
  · exact Or.inr (Or.inl rfl)
  · exact Or.inr (Or.inr rfl)
theorem day_cm (h : AD n r kd ow fr to) (w1 : WR n r kd ow fr to c1 r1 k1 a1 f1 g1) (w2 : WR n r kd ow fr to c2 r2 k2 a2 f2 g2) (hs : IS sl sn sc S LL C) (tc tr : Int32) (tk ta tf tg kp : Nat → Int32) (x y z w u : Int32) : ∃ v f TC TR TK TA TF TG R2 A2 F2 G2 KP, f_X4_day c1 r1 k1 a1 f1 g1 tc tr tk ta tf tg sl sn sc x y z w u = some (v, f, TC, TR, TK, TA, TF, TG) ∧ f_X5_day S LL C c2 r2 k2 a2 f2 g2 kp x y z w u = some (v, f, R2, A2, F2, G2, KP) ∧ WR n r kd ow fr to c2 R2 k2 A2 F2 G2 := by
  have hn := h.1.1
  have hr := h.1.2.1
  obtain ⟨K, A, F, G, hbe, hK, hA, hF, hG⟩ := become_c hn hr w1 tk ta tf tg
  have w2' := w2
  obtain ⟨rfl, rfl, hk1, ha1, hf1, hg1⟩ := w1
  obtain ⟨rfl, rfl, hk2, ha2, hf2, hg2⟩ := w2
  rw [day_m_eq]
  unfold f_X4_day
  rw [isSheet_c, isSheet_m, ob1_s, ob1_s]
  by_cases q1 : btw x 0 3 = true
  case neg =>
    rw [Bool.not_eq_true] at q1
    rw [q1]
    exact ⟨_, _, _, _, _, _, _, _, _, _, _, _, _, rfl, rfl, w2'⟩
  rw [q1, bT, bT, isLane_c, isSort_m, ob1_s, ob1_s]
  by_cases q2 : btw y 0 2 = true
  case neg =>
    rw [Bool.not_eq_true] at q2
    rw [q2]
    exact ⟨_, _, _, _, _, _, _, _, _, _, _, _, _, rfl, rfl, w2'⟩
  rw [q2, bT, bT, btw_c, btw_m, ob1_s, ob1_s]
  by_cases q3 : btw w 0 20 = true
  case neg =>
    rw [Bool.not_eq_true] at q3
    rw [q3]
    exact ⟨_, _, _, _, _, _, _, _, _, _, _, _, _, rfl, rfl, w2'⟩
  rw [q3, bT, bT, asked_c, btw_m, btw_m, ob1_s, ob1_s]
  by_cases q4 : (btw u 0 4 || btw u 10 15) = true
  case neg =>
    rw [Bool.not_eq_true] at q4
    have q5 := q4
    rw [Bool.or_eq_false_iff] at q5
    rw [q4, q5.1, q5.2]
    exact ⟨_, _, _, _, _, _, _, _, _, _, _, _, _, rfl, rfl, w2'⟩
  have q5 : ∃ e, (e ≤ 4 ∨ (10 ≤ e ∧ e ≤ 15)) ∧ u = nI e := by
    rw [Bool.or_eq_true] at q4
    rcases q4 with q4 | q4
    · obtain ⟨e, h1, h2⟩ := btw_c0 (c := 4) (by omega) q4
      exact ⟨e, Or.inl h1, h2⟩
    · obtain ⟨e, h1, h2, h3⟩ := btw_1015 q4
      exact ⟨e, Or.inr ⟨h1, h2⟩, h3⟩
  obtain ⟨e, he, rfl⟩ := q5
  obtain ⟨k, hk, rfl⟩ := btw_k q1
  obtain ⟨la, hla, rfl⟩ := btw_la q2
  obtain ⟨b, hb, rfl⟩ := btw_c0 (c := 20) (by omega) q3
  rw [q4, bT, cl_nI (by omega), ifgd0 (by omega) (by omega)]
  -- both ways of the reference lead to the same rest
  have hrest : ∀ {P : Prop}, (f_day_rest S LL C (nI n) (nI r) k2 a2 f2 g2 kp (nI k) (nI la) z (nI b) (nI e) = f_day_rest S LL C (nI n) (nI r) k2 a2 f2 g2 kp (nI k) (nI la) z (nI b) (nI e) → P) → P := fun q => q rfl
  have hm : (if b2i (btw (nI e) 0 4) = 0 then ob1 (some (b2i (btw (nI e) 10 15))) (fun r_48 => if r_48 = 0 then some (-2, 0, nI r, a2, f2, g2, kp) else f_day_rest S LL C (nI n) (nI r) k2 a2 f2 g2 kp (nI k) (nI la) z (nI b) (nI e)) else f_day_rest S LL C (nI n) (nI r) k2 a2 f2 g2 kp (nI k) (nI la) z (nI b) (nI e)) = f_day_rest S LL C (nI n) (nI r) k2 a2 f2 g2 kp (nI k) (nI la) z (nI b) (nI e) := by
    cases q6 : btw (nI e) 0 4
    · rw [q6] at q4
      rw [Bool.false_or] at q4
      rw [q4, bF, ob1_s, bT]
    · rw [bT]
  rw [hm]
  unfold f_day_rest
  obtain ⟨f, e1, e2, e3⟩ := fault_cm hs hk (nI la) z (3 * nI b)
  rw [e1, e2, ob1_s, ob1_s]
  rcases e3 with ⟨rfl, L, la', a, b', hL, hla', s1, s2, s3, s4, s5, rfl, s6, hab, hC⟩ | e3
  case inr =>
    rw [if_neg e3, if_neg e3]
    exact ⟨_, _, _, _, _, _, _, _, _, _, _, _, _, rfl, rfl, w2'⟩
  have hb' : b' = 3 * b := by
    rw [L3, nI_ml] at s6
    exact ((nI_eq (by omega) (by omega)).mp s6).symm
  subst hb'
  rw [if_pos rfl, if_pos rfl, size_c, ob1_s]
  by_cases hn0 : nI n = 0
  · rw [if_pos hn0, if_pos hn0]
    exact ⟨_, _, _, _, _, _, _, _, _, _, _, _, _, rfl, rfl, w2'⟩
  rw [if_neg hn0, if_neg hn0]
  obtain ⟨p, hp⟩ : ∃ p : Nat → Bool, p = fun j => !btw (sc k (a + 3 * j)) 0 2 := ⟨_, rfl⟩
  have t1 : it (u1 (L_X4_areSortsKnown_2 (sn k) (sc k) (nI a) (nI b))) FUEL (0 : Int32) = some (if fiF p b 0 < b then .inr (nI 0) else .inl ()) := by
    refine it_search (body := u1 (L_X4_areSortsKnown_2 (sn k) (sc k) (nI a) (nI b))) (fun i => nI i) p (fun _ => nI 0) () b (fun i hi hq => ?_) (fun i hi hq => ?_) ?_ FUEL (FUEL_gt (by omega))
    · show L_X4_areSortsKnown_2 (sn k) (sc k) (nI a) (nI b) (nI i) = some (.inl (nI (i + 1)))
      unfold L_X4_areSortsKnown_2
      have : btw (sc k (a + 3 * i)) 0 2 = true := by rw [hp] at hq; simpa using hq
      rw [ifleF hi (by omega), L3, nI_ml, nI_ad, s1, valueAt_c hL (by omega), ob1_s, btw_c, this, ob1_s, bT, L1, nI_ad]
    · show L_X4_areSortsKnown_2 (sn k) (sc k) (nI a) (nI b) (nI i) = _
      unfold L_X4_areSortsKnown_2
      have : btw (sc k (a + 3 * i)) 0 2 = false := by rw [hp] at hq; simpa using hq
      rw [ifleF hi (by omega), L3, nI_ml, nI_ad, s1, valueAt_c hL (by omega), ob1_s, btw_c, this, ob1_s, bF]; rfl
    · show L_X4_areSortsKnown_2 (sn k) (sc k) (nI a) (nI b) (nI b) = _
      unfold L_X4_areSortsKnown_2
      rw [ifleT (by omega) (by omega)]
  have t2 : it (u1 (L_X5_day_103 C (nI r) a2 f2 g2 kp (nI k) (nI a) (nI b))) FUEL (0 : Int32) = some (if fiF p b 0 < b then .inr ((-2 : Int32), (0 : Int32), nI r, a2, f2, g2, kp) else .inl ()) := by
    refine it_search (body := u1 (L_X5_day_103 C (nI r) a2 f2 g2 kp (nI k) (nI a) (nI b))) (fun i => nI i) p (fun _ => ((-2 : Int32), (0 : Int32), nI r, a2, f2, g2, kp)) () b (fun i hi hq => ?_) (fun i hi hq => ?_) ?_ FUEL (FUEL_gt (by omega))
    · show L_X5_day_103 C (nI r) a2 f2 g2 kp (nI k) (nI a) (nI b) (nI i) = some (.inl (nI (i + 1)))
      unfold L_X5_day_103
      have h1 : btw (sc k (a + 3 * i)) 0 2 = true := by rw [hp] at hq; simpa using hq
      have z1 : C (60 * k + a + 3 * i) = sc k (a + 3 * i) := by rw [Nat.add_assoc]; exact hC _ (by omega)
      rw [ifleF hi (by omega), cell_ix, L3, nI_ml, nI_ad, cl_nI (by omega), ifgd0 (by omega) (by omega), z1, btw_m, h1, ob1_s, bT, L1, nI_ad]
    · show L_X5_day_103 C (nI r) a2 f2 g2 kp (nI k) (nI a) (nI b) (nI i) = _
      unfold L_X5_day_103
      have h1 : btw (sc k (a + 3 * i)) 0 2 = false := by rw [hp] at hq; simpa using hq
      have z1 : C (60 * k + a + 3 * i) = sc k (a + 3 * i) := by rw [Nat.add_assoc]; exact hC _ (by omega)
      rw [ifleF hi (by omega), cell_ix, L3, nI_ml, nI_ad, cl_nI (by omega), ifgd0 (by omega) (by omega), z1, btw_m, h1, ob1_s, bF]
    · show L_X5_day_103 C (nI r) a2 f2 g2 kp (nI k) (nI a) (nI b) (nI b) = _
      unfold L_X5_day_103
      rw [ifleT (by omega) (by omega)]
  unfold f_X4_areSortsKnown
  rw [t1, t2]
  by_cases hf : fiF p b 0 < b
  · rw [if_pos hf, if_pos hf]
    exact ⟨_, _, _, _, _, _, _, _, _, _, _, _, _, rfl, rfl, w2'⟩
  rw [if_neg hf, if_neg hf, os0_l, os0_l, ob1_s, if_neg (by decide)]
  have hso : ∀ j, j < b → sc k (a + 3 * j) = 0 ∨ sc k (a + 3 * j) = 1 ∨ sc k (a + 3 * j) = 2 := by
    intro j hj
    have h1 := fiF_no p b 0 j (by omega) (by omega)
    have h2 : btw (sc k (a + 3 * j)) 0 2 = true := by rw [hp] at h1; simpa using h1
    exact btw_012 h2
  obtain ⟨KP, kp1, kp2, kp3, kp4⟩ := keep_m (nI r) a2 f2 g2 kp
  obtain ⟨code, r', ow', fr', to', A1, F1, G1, A2, F2, G2, go1, go2, go3, go4, go5, go6, go7, go8, go9⟩ := goDay_cm (sn := sn) (sc := sc) (C := C) (k := k) (a := a) (b := b) (L := L) h hA hF hG ha2 hf2 hg2 hk hL hab s1 hC hso
  obtain ⟨v, tl1, tl2⟩ := tellDay_cm (e := e) go3 hK go4 go5 go6 hk2 go7 go8 go9 he
  obtain ⟨A3, F3, G3, pb1, pb2, pb3⟩ := putBack_m A2 F2 G2 KP
  have wr : WR n r kd ow fr to (nI n) (KP 0) k2 A3 F3 G3 := ⟨rfl, kp2, hk2, fun i hi => by rw [pb3 i (by omega), kp4 i (by omega)]; exact ha2 i hi, fun i hi => by rw [(pb2 i (by omega)).1, (kp3 i (by omega)).1]; exact hf2 i hi, fun i hi => by rw [(pb2 i (by omega)).2, (kp3 i (by omega)).2]; exact hg2 i hi⟩
  rw [hbe, ob6_s, go1, ob5_s, kp1, ob1_s, cell_ix, go2, ob5_s, tl1, ob1_s, pb1, ob4_s]
  by_cases e1 : nI e = 1
  · rw [if_pos e1, if_pos e1]
    exact ⟨_, _, _, _, _, _, _, _, _, _, _, _, _, rfl, rfl, wr⟩
  · rw [if_neg e1, if_neg e1]
    by_cases e2 : code = -9
    · rw [if_pos e2, if_pos e2, tl2 (fun q => e1 (by rw [q]; rfl)), ob1_s]
      exact ⟨_, _, _, _, _, _, _, _, _, _, _, _, _, rfl, rfl, wr⟩
    · rw [if_neg e2, if_neg e2]
      exact ⟨_, _, _, _, _, _, _, _, _, _, _, _, _, rfl, rfl, wr⟩
end DAY
