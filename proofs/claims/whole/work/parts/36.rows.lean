/-! ROWS OF A SHEET: locks, day -/
theorem it_two {σ τ ρ ρ' : Type} {b1 : σ → Option (σ ⊕ ρ)} {b2 : τ → Option (τ ⊕ ρ')} (I : Nat → σ → τ → Prop) (Q : ρ → ρ' → Prop) (N : Nat) (hs : ∀ i s t, i < N → I i s t → (∃ s' t', b1 s = some (.inl s') ∧ b2 t = some (.inl t') ∧ I (i + 1) s' t') ∨ (∃ r r', b1 s = some (.inr r) ∧ b2 t = some (.inr r') ∧ Q r r')) (he : ∀ s t, I N s t → ∃ r r', b1 s = some (.inr r) ∧ b2 t = some (.inr r') ∧ Q r r') (n : Nat) (hn : N < n) (s : σ) (t : τ) (h0 : I 0 s t) : ∃ r r', it b1 n s = some r ∧ it b2 n t = some r' ∧ Q r r' := by
  have key : ∀ k i, i + k = N → ∀ n s t, k < n → I i s t → ∃ r r', it b1 n s = some r ∧ it b2 n t = some r' ∧ Q r r' := by
    intro k
    induction k with
    | zero =>
      intro i hi n s t hn h
      obtain ⟨n', rfl⟩ : ∃ n', n = n' + 1 := ⟨n - 1, by omega⟩
      have e : i = N := by omega
      subst e
      obtain ⟨r, r', h1, h2, h3⟩ := he s t h
      exact ⟨r, r', by rw [it, h1], by rw [it, h2], h3⟩
    | succ k ih =>
      intro i hi n s t hn h
      obtain ⟨n', rfl⟩ : ∃ n', n = n' + 1 := ⟨n - 1, by omega⟩
      rcases hs i s t (by omega) h with ⟨s', t', h1, h2, h3⟩ | ⟨r, r', h1, h2, h3⟩
      · obtain ⟨r, r', h4, h5, h6⟩ := ih (i + 1) (by omega) n' s' t' (by omega) h3
        exact ⟨r, r', by rw [it, h1]; exact h4, by rw [it, h2]; exact h5, h6⟩
      · exact ⟨r, r', by rw [it, h1], by rw [it, h2], h3⟩
  exact key N 0 (by omega) n s t hn h0
theorem os2_l {A1 A2 β : Type} {a1 : A1} {a2 : A2} {f : A1 → A2 → Option β} : os2 (some (.inl (a1, a2))) f = f a1 a2 := id rfl
theorem os4_l {A1 A2 A3 A4 β : Type} {a1 : A1} {a2 : A2} {a3 : A3} {a4 : A4} {f : A1 → A2 → A3 → A4 → Option β} : os4 (some (.inl (a1, a2, a3, a4))) f = f a1 a2 a3 a4 := id rfl
theorem os4_r {A1 A2 A3 A4 β : Type} {r : β} {f : A1 → A2 → A3 → A4 → Option β} : os4 (some (.inr r)) f = some r := id rfl
theorem m9lt {m : Nat} (hm : m < 2147483648) : -(nI 9) < nI m := by
  rw [Int32.lt_iff_toInt_lt, nI_toInt (by omega)]
  have : (-(nI 9)).toInt = -9 := by decide
  omega
section ROWS
variable {n r : Nat} {kd ow fr to : Nat → Nat} {c1 r1 c2 r2 : Int32} {k1 a1 f1 g1 k2 a2 f2 g2 : Nat → Int32} {sl sn S LL C : Nat → Int32} {sc : Nat → Nat → Int32}
def prL (n : Nat) (kd ow : Nat → Nat) (V : Nat → Int32) : Nat → Nat
  | 0 => 0
  | i + 1 => lock n kd ow (V i).toNatClampNeg
theorem locks_cm (h : AD n r kd ow fr to) (w1 : WR n r kd ow fr to c1 r1 k1 a1 f1 g1) (w2 : WR n r kd ow fr to c2 r2 k2 a2 f2 g2) (hs : IS sl sn sc S LL C) (x y z w : Int32) : ∃ v f, f_X4_locks c1 k1 a1 sl sn sc x y z w = some (v, f) ∧ f_X5_locks S LL C c2 k2 a2 x y z w = some (v, f) := by
  obtain ⟨rfl, rfl, hk1, ha1, hf1, hg1⟩ := w1
  obtain ⟨rfl, rfl, hk2, ha2, hf2, hg2⟩ := w2
  have hn := h.1.1
  unfold f_X4_locks f_X5_locks
  rw [isSheet_c, isSheet_m, ob1_s, ob1_s]
  by_cases q1 : btw x 0 3 = true
  case neg =>
    rw [Bool.not_eq_true] at q1
    rw [q1]
    exact ⟨_, _, rfl, rfl⟩
  rw [q1, bT, bT, isLane_c, isSort_m, ob1_s, ob1_s]
  by_cases q2 : btw y 0 2 = true
  case neg =>
    rw [Bool.not_eq_true] at q2
    rw [q2]
    exact ⟨_, _, rfl, rfl⟩
  rw [q2, bT, bT, btw_c, btw_m, ob1_s, ob1_s]
  by_cases q3 : btw w 0 20 = true
  case neg =>
    rw [Bool.not_eq_true] at q3
    rw [q3]
    exact ⟨_, _, rfl, rfl⟩
  rw [q3, bT, bT]
  obtain ⟨k, hk, rfl⟩ := btw_k q1
  rw [cl_nI (by omega), ifgd0 (by omega) (by omega)]
  obtain ⟨f, e1, e2, e3⟩ := fault_cm hs hk y z w
  rw [e1, e2, ob1_s, ob1_s]
  rcases e3 with ⟨rfl, L, la, a, b, hL, hla, s1, s2, s3, s4, s5, rfl, rfl, hab, hC⟩ | e3
  case inr =>
    rw [if_neg e3, if_neg e3]
    exact ⟨_, _, rfl, rfl⟩
  rw [if_pos rfl, if_pos rfl, size_c, ob1_s]
  by_cases hn0 : nI n = 0
  · rw [if_pos hn0, if_pos hn0]
    exact ⟨_, _, rfl, rfl⟩
  rw [if_neg hn0, if_neg hn0]
  have hV : ∀ i, i < b → f_X1_valueAt (sn k) (sc k) (nI a + nI i) = some (sc k (a + i)) := fun i hi => by
    rw [nI_ad, s1]; exact valueAt_c hL (by omega)
  have hD : ∀ i, i < b → C (60 * k + a + i) = sc k (a + i) := fun i hi => by
    rw [Nat.add_assoc]; exact hC _ (by omega)
  obtain ⟨V, hVe⟩ : ∃ V : Nat → Int32, V = fun i => sc k (a + i) := ⟨_, rfl⟩
  have hV : ∀ i, i < b → f_X1_valueAt (sn k) (sc k) (nI a + nI i) = some (V i) := fun i hi => by rw [hV i hi, hVe]
  have hD : ∀ i, i < b → C (60 * k + a + i) = V i := fun i hi => by rw [hD i hi, hVe]
  obtain ⟨p, hp⟩ : ∃ p : Nat → Bool, p = fun i => !isT n (V i) := ⟨_, rfl⟩
  have t1 : it (u1 (L_X4_areThings_3 (sn k) (sc k) (nI n) (nI a) (nI b))) FUEL (0 : Int32) = some (if fiF p b 0 < b then .inr (nI 0) else .inl ()) := by
    refine it_search (body := u1 (L_X4_areThings_3 (sn k) (sc k) (nI n) (nI a) (nI b))) (fun i => nI i) p (fun _ => nI 0) () b (fun i hi hq => ?_) (fun i hi hq => ?_) ?_ FUEL (FUEL_gt (by omega))
    · show L_X4_areThings_3 (sn k) (sc k) (nI n) (nI a) (nI b) (nI i) = some (.inl (nI (i + 1)))
      unfold L_X4_areThings_3
      have : isT n (V i) = true := by rw [hp] at hq; simpa using hq
      rw [ifleF hi (by omega), hV i hi, ob1_s, isThing_c, this, ob1_s, bT, L1, nI_ad]
    · show L_X4_areThings_3 (sn k) (sc k) (nI n) (nI a) (nI b) (nI i) = _
      unfold L_X4_areThings_3
      have : isT n (V i) = false := by rw [hp] at hq; simpa using hq
      rw [ifleF hi (by omega), hV i hi, ob1_s, isThing_c, this, ob1_s, bF]; rfl
    · show L_X4_areThings_3 (sn k) (sc k) (nI n) (nI a) (nI b) (nI b) = _
      unfold L_X4_areThings_3
      rw [ifleT (by omega) (by omega)]
  have t2 : it (u1 (L_X5_locks_79 C (nI n) (nI k) (nI a) (nI b))) FUEL (0 : Int32) = some (if fiF p b 0 < b then .inr ((-1 : Int32), (0 : Int32)) else .inl ()) := by
    refine it_search (body := u1 (L_X5_locks_79 C (nI n) (nI k) (nI a) (nI b))) (fun i => nI i) p (fun _ => ((-1 : Int32), (0 : Int32))) () b (fun i hi hq => ?_) (fun i hi hq => ?_) ?_ FUEL (FUEL_gt (by omega))
    · show L_X5_locks_79 C (nI n) (nI k) (nI a) (nI b) (nI i) = some (.inl (nI (i + 1)))
      unfold L_X5_locks_79
      have : isT n (V i) = true := by rw [hp] at hq; simpa using hq
      rw [ifleF hi (by omega), cell_ix, nI_ad, cl_nI (by omega), ifgd0 (by omega) (by omega), hD i hi, isThing_m, this, ob1_s, bT, L1, nI_ad]
    · show L_X5_locks_79 C (nI n) (nI k) (nI a) (nI b) (nI i) = _
      unfold L_X5_locks_79
      have : isT n (V i) = false := by rw [hp] at hq; simpa using hq
      rw [ifleF hi (by omega), cell_ix, nI_ad, cl_nI (by omega), ifgd0 (by omega) (by omega), hD i hi, isThing_m, this, ob1_s, bF]
    · show L_X5_locks_79 C (nI n) (nI k) (nI a) (nI b) (nI b) = _
      unfold L_X5_locks_79
      rw [ifleT (by omega) (by omega)]
  unfold f_X4_areThings
  rw [t1, t2]
  by_cases hf : fiF p b 0 < b
  · rw [if_pos hf, if_pos hf]
    exact ⟨_, _, rfl, rfl⟩
  rw [if_neg hf, if_neg hf, os0_l, os0_l, ob1_s, if_neg (by decide)]
  have hT : ∀ i, i < b → (V i).toNatClampNeg < n ∧ V i = nI (V i).toNatClampNeg := by
    intro i hi
    have h1 := fiF_no p b 0 i (by omega) (by omega)
    have h2 : isT n (V i) = true := by rw [hp] at h1; simpa using h1
    obtain ⟨t, ht, e⟩ := isT_ex hn h2
    rw [e, cl_nI (by omega)]
    exact ⟨ht, rfl⟩
  obtain ⟨pr, hpr⟩ : ∃ pr : Nat → Nat, pr = prL n kd ow V := ⟨_, rfl⟩
  have pr0 : pr 0 = 0 := by rw [hpr]; rfl
  have prs : ∀ i, pr (i + 1) = lock n kd ow (V i).toNatClampNeg := fun i => by rw [hpr]; rfl
  have prl : ∀ i, i ≤ b → pr i ≤ 12 := by
    intro i hi
    cases i with
    | zero => rw [pr0]; omega
    | succ i => rw [prs]; exact (lock_le hn h.2.2.2 (hT i (by omega)).1).2
  obtain ⟨q, hq'⟩ : ∃ q : Nat → Bool, q = fun i => decide (pr (i + 1) ≤ pr i) := ⟨_, rfl⟩
  have t3 : it (u2 (L_X4_howManyInOrder_6 (sn k) (sc k) (nI n) k1 a1 (nI a) (nI b))) FUEL ((0 : Int32), (0 : Int32)) = some (if fiF q b 0 < b then .inr (nI (fiF q b 0)) else .inl ()) := by
    rw [show ((0 : Int32), (0 : Int32)) = (nI (pr 0), nI 0) by rw [pr0]; rfl]
    refine it_search (body := u2 (L_X4_howManyInOrder_6 (sn k) (sc k) (nI n) k1 a1 (nI a) (nI b))) (fun i => (nI (pr i), nI i)) q (fun i => nI i) () b (fun i hi hq => ?_) (fun i hi hq => ?_) ?_ FUEL (FUEL_gt (by omega))
    · show L_X4_howManyInOrder_6 (sn k) (sc k) (nI n) k1 a1 (nI a) (nI b) (nI (pr i)) (nI i) = some (.inl (nI (pr (i + 1)), nI (i + 1)))
      obtain ⟨v1, v2⟩ := hT i hi
      have p1 := prl i (by omega)
      have p2 := prl (i + 1) (by omega)
      have p3 : pr i < pr (i + 1) := by rw [hq'] at hq; simpa using hq
      have p4 := prs i
      unfold L_X4_howManyInOrder_6
      rw [ifleF hi (by omega), hV i hi, ob1_s, v2, lockOf_c hn hk1 ha1 h.2.2.2 h.kd2 v1, ob1_s, ← p4, ifltT p3 (by omega), L1, nI_ad]
    · show L_X4_howManyInOrder_6 (sn k) (sc k) (nI n) k1 a1 (nI a) (nI b) (nI (pr i)) (nI i) = _
      obtain ⟨v1, v2⟩ := hT i hi
      have p1 := prl i (by omega)
      have p2 := prl (i + 1) (by omega)
      have p3 : pr (i + 1) ≤ pr i := by rw [hq'] at hq; simpa using hq
      have p4 := prs i
      unfold L_X4_howManyInOrder_6
      rw [ifleF hi (by omega), hV i hi, ob1_s, v2, lockOf_c hn hk1 ha1 h.2.2.2 h.kd2 v1, ob1_s, ← p4, ifltF p3 (by omega)]
    · show L_X4_howManyInOrder_6 (sn k) (sc k) (nI n) k1 a1 (nI a) (nI b) (nI (pr b)) (nI b) = _
      unfold L_X4_howManyInOrder_6
      rw [ifleT (by omega) (by omega)]
  have t4 : it (u2 (L_X5_locks_118 C k2 a2 (nI k) (nI a) (nI b))) FUEL ((-9 : Int32), (0 : Int32)) = some (if fiF q b 0 < b then .inr (nI (fiF q b 0), (0 : Int32)) else .inl ()) := by
    refine it_search (body := u2 (L_X5_locks_118 C k2 a2 (nI k) (nI a) (nI b))) (fun i => (if i = 0 then -(nI 9) else nI (pr i), nI i)) q (fun i => (nI i, (0 : Int32))) () b (fun i hi hq => ?_) (fun i hi hq => ?_) ?_ FUEL (FUEL_gt (by omega))
    · show L_X5_locks_118 C k2 a2 (nI k) (nI a) (nI b) (if i = 0 then -(nI 9) else nI (pr i)) (nI i) = some (.inl (if i + 1 = 0 then -(nI 9) else nI (pr (i + 1)), nI (i + 1)))
      obtain ⟨v1, v2⟩ := hT i hi
      have p1 := prl i (by omega)
      have p2 := prl (i + 1) (by omega)
      have p3 : pr i < pr (i + 1) := by rw [hq'] at hq; simpa using hq
      have p4 := prs i
      have p5 : ∀ {X Y : Option ((Int32 × Int32) ⊕ (Unit ⊕ (Int32 × Int32)))}, (if (if i = 0 then -(nI 9) else nI (pr i)) < nI (pr (i + 1)) then X else Y) = X := by
        intro X Y
        by_cases e : i = 0
        · rw [if_pos e]; exact if_pos (m9lt (by omega))
        · rw [if_neg e]; exact ifltT p3 (by omega)
      unfold L_X5_locks_118
      rw [ifleF hi (by omega), cell_ix, nI_ad, cl_nI (by omega), ifgd0 (by omega) (by omega), hD i hi, v2, lockOf_m hn hk2 ha2 h.2.2.2 h.kd2 v1, ob1_s, ← p4, p5, ifgd0 (by omega) (by omega), ob1_s, if_neg (by omega), L1, nI_ad]
    · show L_X5_locks_118 C k2 a2 (nI k) (nI a) (nI b) (if i = 0 then -(nI 9) else nI (pr i)) (nI i) = _
      obtain ⟨v1, v2⟩ := hT i hi
      have p1 := prl i (by omega)
      have p2 := prl (i + 1) (by omega)
      have p3 : pr (i + 1) ≤ pr i := by rw [hq'] at hq; simpa using hq
      have p4 := prs i
      have p6 := lock_le (kd := kd) hn h.2.2.2 v1
      have p7 : i ≠ 0 := by
        intro e
        subst e
        rw [pr0] at p3
        omega
      unfold L_X5_locks_118
      rw [ifleF hi (by omega), cell_ix, nI_ad, cl_nI (by omega), ifgd0 (by omega) (by omega), hD i hi, v2, lockOf_m hn hk2 ha2 h.2.2.2 h.kd2 v1, ob1_s, ← p4, if_neg p7, ifltF p3 (by omega)]
    · show L_X5_locks_118 C k2 a2 (nI k) (nI a) (nI b) _ (nI b) = _
      unfold L_X5_locks_118
      rw [ifleT (by omega) (by omega)]
  unfold f_X4_howManyInOrder
  rw [t3, t4]
  by_cases hf : fiF q b 0 < b
  · rw [if_pos hf, if_pos hf]
    exact ⟨_, _, rfl, rfl⟩
  · rw [if_neg hf, if_neg hf]
    exact ⟨_, _, rfl, rfl⟩
end ROWS
