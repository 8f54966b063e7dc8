/-! THE LAW'S put: a text for the row g that it makes -/
section PUT
variable {n r : Nat} {ga : Nat → Int32} {W : Nat × Nat × (Nat → Nat) × (Nat → Nat) × (Nat → Nat) × (Nat → Nat)} {sl sn : Nat → Int32} {sc : Nat → Nat → Int32} {L : Nat} {xs : Nat → Int32}
theorem cell_L {c : Nat} (hL : L ≤ 260) (hc : c < 2147483648) : ∃ v, f_L_cell L xs (nI c) = some v := by
  unfold f_L_cell
  by_cases h : L ≤ c
  · exact ⟨_, if_pos (nI_le (a := L) h (by omega))⟩
  · have e : ¬ Int32.ofNat L ≤ nI c := nI_ge (a := c) (b := L) (by omega) (by omega)
    rw [if_neg e, cl_nI hc, ifgd0 (by omega) (by omega)]
    exact ⟨_, rfl⟩
theorem Fput_of {la Ln k i : Nat} {v : Int32} (hk : k < 4) (hla : la ≤ 2) (hL : Ln ≤ 60) (h1 : sl k = nI la) (h2 : sn k = nI Ln) (hi : i < Ln) (hv : cutL la v = v) : F_put ((W, sl, sn, sc) : SG) (nI k) (nI i) v = some (1, (W, sl, sn, va_up sc k (upd (sc k) i v))) := by
  obtain ⟨f, e⟩ := put_ok (sc := sc) (z := v) hk hla hL h1 h2 hi
  unfold F_put
  rw [hv] at e
  show (match f_X4_put sl sn sc (nI k) (nI i) v with
    | none => none
    | some (v, _, sc') => some (v, ((W, sl, sn, sc') : SG))) = _
  rw [e]
theorem Fsheet_of {la Ln k : Nat} (hk : k < 4) (hla : la ≤ 2) (hL : Ln ≤ 60) : ∃ z, F_sheet ((W, sl, sn, sc) : SG) (nI k) (nI la) (nI Ln) = some (1, (W, va_up sl k (nI la), va_up sn k (nI Ln), va_up sc k z)) := by
  obtain ⟨z, f, e⟩ := sheet_ok (sl := sl) (sn := sn) (sc := sc) hk hla hL
  refine ⟨z, ?_⟩
  unfold F_sheet
  show (match f_X4_sheet sl sn sc (nI k) (nI la) (nI Ln) with
    | none => none
    | some (v, _, sl', sn', sc') => some (v, ((W, sl', sn', sc') : SG))) = _
  rw [e]
theorem if11 {α : Type} {X Y : α} : (if (1 : Int32) = nI 1 then X else Y) = X := if_pos rfl
theorem up_at {α : Type} {f : Nat → α} {k : Nat} {v : α} : va_up f k v k = v := if_pos rfl
theorem up_no {α : Type} {f : Nat → α} {k j : Nat} {v : α} (h : j ≠ k) : va_up f k v j = f j := if_neg h
def PT (n t : Nat) (G c : Nat → Int32) : Prop := G 0 = nI n ∧ c 0 = 111 ∧ ∀ u, u < t → (∃ k, k ≤ 2 ∧ G (2 + u) = nI k ∧ c (2 + 3 * u) = tkd k) ∧ (∃ o, (o < u ∨ o = 6) ∧ G (8 + u) = nI o ∧ c (3 + 3 * u) = twh o) ∧ c (1 + 3 * u) = 59
def PR (n r : Nat) (G c : Nat → Int32) : Prop := G 1 = nI r ∧ ∀ q, q < r → ∃ a b, (a < n ∨ a = 6) ∧ b < n ∧ a ≠ b ∧ G (14 + q) = nI a ∧ G (26 + q) = nI b ∧ c (1 + 3 * n + 3 * q) = 44 ∧ c (2 + 3 * n + 3 * q) = twh a ∧ c (3 + 3 * n + 3 * q) = nI (48 + b) ∧ ∀ p, p < q → ¬ (G (14 + p) = nI a ∧ G (26 + p) = nI b)
theorem PP_gr {c : Nat → Int32} (h0 : 1 ≤ n) (hn : n ≤ 6) (hr : r ≤ 12) (h1 : PT n n ga c) (h2 : PR n r ga c) : gaN ga = n ∧ gaR ga = r ∧ GR n r (gaK ga) (gaO ga) (gaF ga) (gaT ga) ga ∧ GOK n r (gaK ga) (gaO ga) (gaF ga) (gaT ga) ∧ TXT c n r (gaK ga) (gaO ga) (gaF ga) (gaT ga) := by
  obtain ⟨g0, c0, ht⟩ := h1
  obtain ⟨g1, hq⟩ := h2
  have eN : gaN ga = n := by unfold gaN; rw [g0, cl_nI (by omega)]
  have eR : gaR ga = r := by unfold gaR; rw [g1, cl_nI (by omega)]
  have eK : ∀ u, u < n → ∃ k, k ≤ 2 ∧ ga (2 + u) = nI k ∧ gaK ga u = k ∧ c (2 + 3 * u) = tkd k := fun u hu => by
    obtain ⟨⟨k, k1, k2, k3⟩, -⟩ := ht u hu
    exact ⟨k, k1, k2, by unfold gaK; rw [k2, cl_nI (by omega)], k3⟩
  have eO : ∀ u, u < n → ∃ o, (o < u ∨ o = 6) ∧ ga (8 + u) = nI o ∧ gaO ga u = o ∧ c (3 + 3 * u) = twh o := fun u hu => by
    obtain ⟨-, ⟨o, o1, o2, o3⟩, -⟩ := ht u hu
    exact ⟨o, o1, o2, by unfold gaO; rw [eN, if_pos hu, o2, cl_nI (by omega)], o3⟩
  have eF : ∀ q, q < r → ∃ a b, (a < n ∨ a = 6) ∧ b < n ∧ a ≠ b ∧ ga (14 + q) = nI a ∧ ga (26 + q) = nI b ∧ gaF ga q = a ∧ gaT ga q = b ∧ c (1 + 3 * n + 3 * q) = 44 ∧ c (2 + 3 * n + 3 * q) = twh a ∧ c (3 + 3 * n + 3 * q) = nI (48 + b) ∧ ∀ p, p < q → ¬ (ga (14 + p) = nI a ∧ ga (26 + p) = nI b) := fun q hq' => by
    obtain ⟨a, b, a1, a2, a3, a4, a5, a6⟩ := hq q hq'
    exact ⟨a, b, a1, a2, a3, a4, a5, by unfold gaF; rw [a4, cl_nI (by omega)], by unfold gaT; rw [a5, cl_nI (by omega)], a6⟩
  have hweb : Web n r (gaF ga) (gaT ga) := ⟨hn, hr, fun q hq' => by
    obtain ⟨a, b, a1, a2, a3, a4, a5, a6, a7, -⟩ := eF q hq'
    rw [a6, a7]
    exact ⟨a1, a2⟩⟩
  refine ⟨eN, eR, ⟨g0, g1, fun u hu => ?_, fun u hu => ?_, fun q hq' => ?_, fun q hq' => ?_⟩, ⟨h0, hweb, ⟨fun u hu => ⟨?_, ?_⟩, fun u hu => ?_⟩, fun q hq' => ⟨?_, fun p hp => ?_⟩⟩, c0, fun u hu => ?_, fun q hq' => ?_⟩
  · obtain ⟨k, k1, k2, k3, -⟩ := eK u hu
    rw [k3, k2]
  · obtain ⟨k, k1, k2, k3, -⟩ := eO u hu
    rw [k3, k2]
  · obtain ⟨a, b, a1, a2, a3, a4, a5, a6, a7, -⟩ := eF q hq'
    rw [a6, a4]
  · obtain ⟨a, b, a1, a2, a3, a4, a5, a6, a7, -⟩ := eF q hq'
    rw [a7, a5]
  · obtain ⟨k, k1, k2, k3, -⟩ := eK u hu
    rw [k3]; exact k1
  · obtain ⟨k, k1, k2, k3, -⟩ := eO u hu
    rw [k3]; exact k1
  · unfold gaO
    rw [eN, if_neg (by omega)]
  · obtain ⟨a, b, a1, a2, a3, a4, a5, a6, a7, -⟩ := eF q hq'
    rw [a6, a7]; exact a3
  · obtain ⟨a, b, a1, a2, a3, a4, a5, a6, a7, -, -, -, a8⟩ := eF q hq'
    obtain ⟨a', b', b1, b2, b3, b4, b5, b6, b7, -⟩ := eF p (by omega)
    rw [a6, a7, b6, b7]
    rintro ⟨rfl, rfl⟩
    exact a8 p hp ⟨b4, b5⟩
  · obtain ⟨k, k1, k2, k3, k4⟩ := eK u hu
    obtain ⟨o, o1, o2, o3, o4⟩ := eO u hu
    rw [k3, o3]
    exact ⟨(ht u hu).2.2, k4, o4⟩
  · obtain ⟨a, b, a1, a2, a3, a4, a5, a6, a7, a8, a9, a10, -⟩ := eF q hq'
    rw [a6, a7]
    exact ⟨a8, a9, a10⟩
/-- the sheet that a text is put into -/
def SP (W : Nat × Nat × (Nat → Nat) × (Nat → Nat) × (Nat → Nat) × (Nat → Nat)) (sl sn : Nat → Int32) (S : SG) (c : Nat → Int32) : Prop := ∃ sc, S = (W, sl, sn, sc) ∧ sc 0 = c
theorem SP_put {S : SG} {c : Nat → Int32} {i : Nat} {v : Int32} (h1 : sl 0 = 0) (h2 : sn 0 = nI 60) (h : SP W sl sn S c) (hi : i < 60) (hv : cutL 0 v = v) : ∃ S', F_put S (0 : Int32) (nI i) v = some (1, S') ∧ SP W sl sn S' (upd c i v) := by
  obtain ⟨sc, rfl, rfl⟩ := h
  exact ⟨_, Fput_of (k := 0) (la := 0) (Ln := 60) (by omega) (by omega) (by omega) h1 h2 hi hv, _, rfl, up_at⟩
theorem cut_tkd : ∀ k, k ≤ 2 → cutL 0 (tkd k) = tkd k := by decide
theorem cut_twh : ∀ k, k < 7 → cutL 0 (twh k) = twh k := by decide
theorem cut_dig : ∀ k, k < 7 → cutL 0 (nI (48 + k)) = nI (48 + k) := by decide
theorem tkd_if {k : Nat} (hk : k ≤ 2) (c1 c2 : Prop) [Decidable c1] [Decidable c2] (h1 : ¬ c1) (h2 : ¬ c2) {x : Int32} (hx : x = nI k) : (if x = 0 then (some (112 : Int32)) else (if c2 then none else (if x = (1 : Int32) then (some (103 : Int32)) else (some (100 : Int32))))) = some (tkd k) := by
  subst hx
  rw [if_neg h2]
  have : k = 0 ∨ k = 1 ∨ k = 2 := by omega
  rcases this with rfl | rfl | rfl <;> rfl
theorem put_thing {S : SG} {c : Nat → Int32} {t : Nat} (hL : L ≤ 260) (h1 : sl 0 = 0) (h2 : sn 0 = nI 60) (h0 : 1 ≤ n) (hn : n ≤ 6) (ht : t < n) (hP : PT n t ga c) (hz : ga 1 = 0) (hS : SP W sl sn S c) : ∃ G S' c', L_L_put_73 L xs (0 : Int32) (nI (1 + 3 * t)) (nI t) ga S = some (.inl (nI (1 + 3 * (t + 1)), nI (t + 1), G, S')) ∧ PT n (t + 1) G c' ∧ G 1 = 0 ∧ SP W sl sn S' c' := by
  obtain ⟨g0, c0, hu⟩ := hP
  unfold L_L_put_73
  obtain ⟨y, hy⟩ := cell_L (xs := xs) (c := 1) hL (by omega)
  obtain ⟨k4, hk4, e1⟩ := some_L (y >>> (((5 : Int32) * nI t) &&& 31)) (m := 4) (by omega) (by omega)
  have e1' : f_L_some (y >>> (((5 : Int32) * nI t) &&& 31)) (4 : Int32) = some (nI k4) := e1
  -- the kind
  obtain ⟨k, hk, e2⟩ : ∃ k, k ≤ 2 ∧ (if nI k4 = (3 : Int32) then (some (0 : Int32)) else (ob1 (f_L_some (y >>> (((5 : Int32) * nI t) &&& 31)) (4 : Int32)) (fun r_117 => (some r_117)))) = some (nI k) := by
    by_cases e : k4 = 3
    · exact ⟨0, by omega, by rw [e]; rfl⟩
    · exact ⟨k4, by omega, by rw [show (3 : Int32) = nI 3 from rfl, ifeqF e (by omega) (by omega), e1', ob1_s]⟩
  rw [e1'] at e2
  -- the owner
  obtain ⟨o, ho, e3⟩ : ∃ o, (o < t ∨ o = 6) ∧ (if nI t = 0 then (some (6 : Int32)) else (ob1 (f_L_some ((y >>> (((5 : Int32) * nI t) &&& 31)) >>> ((2 : Int32) &&& 31)) (3 : Int32)) (fun r_137 => (if r_137 = 0 then (some (6 : Int32)) else (ob1 (f_L_some ((y >>> (((5 : Int32) * nI t) &&& 31)) >>> ((3 : Int32) &&& 31)) (nI t)) (fun r_154 => (some r_154))))))) = some (nI o) := by
    by_cases e : t = 0
    · exact ⟨6, Or.inr rfl, by rw [e]; rfl⟩
    · obtain ⟨j, hj, q1⟩ := some_L ((y >>> (((5 : Int32) * nI t) &&& 31)) >>> ((2 : Int32) &&& 31)) (m := 3) (by omega) (by omega)
      obtain ⟨o, ho, q2⟩ := some_L ((y >>> (((5 : Int32) * nI t) &&& 31)) >>> ((3 : Int32) &&& 31)) (m := t) (by omega) (by omega)
      have q1' : f_L_some ((y >>> (((5 : Int32) * nI t) &&& 31)) >>> ((2 : Int32) &&& 31)) (3 : Int32) = some (nI j) := q1
      rw [L0, ifeqF e (by omega) (by omega), q1', ob1_s, q2, ob1_s]
      by_cases e4 : nI j = nI 0
      · exact ⟨6, Or.inr rfl, by rw [if_pos e4]; rfl⟩
      · exact ⟨o, Or.inl ho, by rw [if_neg e4]⟩
  have ho6 : o ≤ 6 := by omega
  obtain ⟨S1, p1, s1⟩ := SP_put h1 h2 hS (i := 1 + 3 * t) (v := 59) (by omega) (by decide)
  obtain ⟨S2, p2, s2⟩ := SP_put h1 h2 s1 (i := 2 + 3 * t) (v := tkd k) (by omega) (cut_tkd k hk)
  obtain ⟨S3, p3, s3⟩ := SP_put h1 h2 s2 (i := 3 + 3 * t) (v := twh o) (by omega) (cut_twh o (by omega))
  have z1 : upd (upd ga (2 + t) (nI k)) (8 + t) (nI o) (2 + t) = nI k := by rw [pk_un (by omega), pk_us]
  have z2 : upd (upd ga (2 + t) (nI k)) (8 + t) (nI o) (8 + t) = nI o := pk_us
  refine ⟨upd (upd ga (2 + t) (nI k)) (8 + t) (nI o), S3, _, ?_, ⟨?_, ?_, fun u hu' => ?_⟩, ?_, s3⟩
  · rw [g0, ifleF ht (by omega), show (0 : Int32) + (1 : Int32) = nI 1 from rfl, hy, ob1_s, e1', ob1_s, e2, ob1_s, e3, ob1_s, L2, nI_ad, L8, nI_ad, cl_nI (by omega), cl_nI (by omega), ifgd0 (by omega) (by omega), ifgd0 (by omega) (by omega), p1, ob2_s, if_pos rfl, ifgd0 (by omega) (by omega), ifgd0 (by omega) (by omega), z1, z2]
    rw [show (if nI k = 0 then (some (112 : Int32)) else if nI k = (1 : Int32) then some (103 : Int32) else some (100 : Int32)) = some (tkd k) from ?_, ob1_s]
    · rw [L1, nI_ad, show 1 + 3 * t + 1 = 2 + 3 * t by omega, p2, ob2_s, if11, ifgd0 (by omega) (by omega), ifgd0 (by omega) (by omega)]
      rw [show (if nI o = (6 : Int32) then (some (119 : Int32)) else some ((48 : Int32) + nI o)) = some (twh o) from ?_, ob1_s]
      · rw [nI_ad, show 2 + 3 * t + 1 = 3 + 3 * t by omega, p3, ob2_s, if11, nI_ad, nI_ad, show 3 + 3 * t + 1 = 1 + 3 * (t + 1) by omega]
      · unfold twh
        by_cases e6 : o = 6
        · rw [L6, ifeqT e6, if_pos e6]
        · rw [L6, ifeqF e6 (by omega) (by omega), if_neg e6, show (48 : Int32) = nI 48 from rfl, nI_ad]
    · have : k = 0 ∨ k = 1 ∨ k = 2 := by omega
      rcases this with rfl | rfl | rfl <;> rfl
  · rw [pk_un (by omega), pk_un (by omega)]; exact g0
  · rw [pk_un (by omega), pk_un (by omega), pk_un (by omega)]; exact c0
  · by_cases e : u = t
    · subst e
      refine ⟨⟨k, hk, z1, ?_⟩, ⟨o, ho, z2, pk_us⟩, ?_⟩
      · rw [pk_un (by omega), pk_us]
      · rw [pk_un (by omega), pk_un (by omega), pk_us]
    · obtain ⟨⟨k', a1, a2, a3⟩, ⟨o', b1, b2, b3⟩, d⟩ := hu u (by omega)
      refine ⟨⟨k', a1, ?_, ?_⟩, ⟨o', b1, ?_, ?_⟩, ?_⟩
      · rw [pk_un (by omega), pk_un (by omega)]; exact a2
      · rw [pk_un (by omega), pk_un (by omega), pk_un (by omega)]; exact a3
      · rw [pk_un (by omega), pk_un (by omega)]; exact b2
      · rw [pk_un (by omega), pk_un (by omega), pk_un (by omega)]; exact b3
      · rw [pk_un (by omega), pk_un (by omega), pk_un (by omega)]; exact d
  · rw [pk_un (by omega), pk_un (by omega)]; exact hz
theorem PT_keep {t i : Nat} {G' c c' : Nat → Int32} (h : PT n t ga c) (ht : t ≤ 6) (hG : ∀ j, j < 14 → j ≠ 1 → G' j = ga j) (hc : ∀ j, j < 1 + 3 * t → c' j = c j) : PT n t G' c' := by
  obtain ⟨g0, c0, hu⟩ := h
  refine ⟨by rw [hG 0 (by omega) (by omega)]; exact g0, by rw [hc 0 (by omega)]; exact c0, fun u hu' => ?_⟩
  obtain ⟨⟨k', a1, a2, a3⟩, ⟨o', b1, b2, b3⟩, d⟩ := hu u hu'
  exact ⟨⟨k', a1, by rw [hG _ (by omega) (by omega)]; exact a2, by rw [hc _ (by omega)]; exact a3⟩, ⟨o', b1, by rw [hG _ (by omega) (by omega)]; exact b2, by rw [hc _ (by omega)]; exact b3⟩, by rw [hc _ (by omega)]; exact d⟩
theorem put_ref {S : SG} {c : Nat → Int32} {k m : Nat} (hL : L ≤ 260) (h1 : sl 0 = 0) (h2 : sn 0 = nI 60) (h0 : 1 ≤ n) (hn : n ≤ 6) (hk : k < 20) (hm : m ≤ 12) (hrm : r < m) (hP : PT n n ga c) (hR : PR n r ga c) (hS : SP W sl sn S c) : ∃ r' G S' c', L_L_put_283 L xs (0 : Int32) (nI m) (nI (1 + 3 * n + 3 * r)) (nI k) ga S = some (.inl (nI (1 + 3 * n + 3 * r'), nI (k + 1), G, S')) ∧ r' ≤ 12 ∧ PT n n G c' ∧ PR n r' G c' ∧ SP W sl sn S' c' := by
  obtain ⟨eN, eR, hg, hok, -⟩ := PP_gr h0 hn (by omega) hP hR
  have hweb := hok.2.1
  have g0 := hg.1
  have g1 := hg.2.1
  unfold L_L_put_283
  obtain ⟨y, hy⟩ := cell_L (xs := xs) (c := 2 + k / 5) hL (by omega)
  obtain ⟨j1, hj1, e1⟩ := some_L (y >>> (((nI k - nI k / (5 : Int32) * (5 : Int32)) * (6 : Int32)) &&& 31)) (m := 3) (by omega) (by omega)
  have e1' : f_L_some (y >>> (((nI k - nI k / (5 : Int32) * (5 : Int32)) * (6 : Int32)) &&& 31)) (3 : Int32) = some (nI j1) := e1
  obtain ⟨a0, ha0, e2⟩ := some_L ((y >>> (((nI k - nI k / (5 : Int32) * (5 : Int32)) * (6 : Int32)) &&& 31)) >>> ((1 : Int32) &&& 31)) (m := n) (by omega) (by omega)
  obtain ⟨a1, ha1, e3⟩ := or_pick (k := 6) (nI j1 = 0) e2 rfl
  obtain ⟨b, hb, e4⟩ := some_L ((y >>> (((nI k - nI k / (5 : Int32) * (5 : Int32)) * (6 : Int32)) &&& 31)) >>> ((3 : Int32) &&& 31)) (m := n) (by omega) (by omega)
  obtain ⟨j2, hj2, e5⟩ := some_L ((y >>> (((nI k - nI k / (5 : Int32) * (5 : Int32)) * (6 : Int32)) &&& 31)) >>> ((2 : Int32) &&& 31)) (m := 3) (by omega) (by omega)
  have e5' : f_L_some ((y >>> (((nI k - nI k / (5 : Int32) * (5 : Int32)) * (6 : Int32)) &&& 31)) >>> ((2 : Int32) &&& 31)) (3 : Int32) = some (nI j2) := e5
  -- whose it is
  obtain ⟨a, ha, e6⟩ : ∃ a, (a < n ∨ a = 6) ∧ (if nI j2 = 0 then (if ((8 : Int32) + nI b) < 0 ∨ 38 ≤ ((8 : Int32) + nI b).toNatClampNeg then none else (some (ga ((8 : Int32) + nI b).toNatClampNeg))) else (some (nI a1))) = some (nI a) := by
    by_cases e : nI j2 = 0
    · obtain ⟨⟨-, -⟩, ⟨o, o1, o2, o3⟩, -⟩ := hP.2.2 b hb
      refine ⟨o, by omega, ?_⟩
      rw [if_pos e, L8, nI_ad, cl_nI (by omega), ifgd0 (by omega) (by omega), o2]
    · exact ⟨a1, by omega, if_neg e⟩
  have hcell : f_L_cell L xs (((0 : Int32) + (2 : Int32)) + (nI k / (5 : Int32))) = some y := by
    rw [show (0 : Int32) + (2 : Int32) = nI 2 from rfl, show (5 : Int32) = nI 5 from rfl, pk_div (by omega) (by omega) (by omega), nI_ad]
    exact hy
  rw [L20, ifleF (by omega) (by omega), g1, ifleF (by omega) (by omega), hcell, ob1_s, e1', ob1_s, g0, e3, ob1_s, e4, ob1_s, e5', ob1_s, e6, ob1_s]
  by_cases hab : a = b
  · rw [ifeqT hab, L1, nI_ad]
    exact ⟨r, ga, S, c, rfl, by omega, hP, hR, hS⟩
  rw [ifeqF hab (by omega) (by omega), place_L hg (by omega) hweb.bd (by omega) (by omega), ob1_s]
  by_cases hf : fnd r (gaF ga) (gaT ga) a b < r
  · obtain ⟨q, hq, q1, q2⟩ := (fndI_neg (fr := gaF ga) (to := gaT ga) (a := a) (b := b) (show r ≤ 12 by omega)).1 hf
    rw [q2, if_neg (nI_pos (by omega)), L1, nI_ad]
    exact ⟨r, ga, S, c, rfl, by omega, hP, hR, hS⟩
  · rw [(fndI_neg (fr := gaF ga) (to := gaT ga) (a := a) (b := b) (show r ≤ 12 by omega)).2 hf, if_pos n9lt]
    have ha6 : a ≤ 6 := by omega
    obtain ⟨S1, p1, s1⟩ := SP_put h1 h2 hS (i := 1 + 3 * n + 3 * r) (v := 44) (by omega) (by decide)
    obtain ⟨S2, p2, s2⟩ := SP_put h1 h2 s1 (i := 2 + 3 * n + 3 * r) (v := twh a) (by omega) (cut_twh a (by omega))
    obtain ⟨S3, p3, s3⟩ := SP_put h1 h2 s2 (i := 3 + 3 * n + 3 * r) (v := nI (48 + b)) (by omega) (cut_dig b (by omega))
    have z1 : upd ga (14 + r) (nI a) 1 = nI r := by rw [pk_un (by omega)]; exact g1
    have z2 : upd (upd ga (14 + r) (nI a)) (26 + r) (nI b) 1 = nI r := by rw [pk_un (by omega)]; exact z1
    refine ⟨r + 1, upd (upd (upd ga (14 + r) (nI a)) (26 + r) (nI b)) 1 (nI (r + 1)), S3, _, ?_, by omega, PT_keep (i := 0) hP hn (fun j hj hj1 => ?_) (fun j hj => ?_), ⟨pk_us, fun q hq => ?_⟩, s3⟩
    · rw [K14, nI_ad, cl_nI (by omega), ifgd0 (by omega) (by omega), z1, K26, nI_ad, cl_nI (by omega), ifgd0 (by omega) (by omega), p1, ob2_s, if_pos rfl]
      rw [show (if nI a = (6 : Int32) then (some (119 : Int32)) else some ((48 : Int32) + nI a)) = some (twh a) from ?_, ob1_s]
      · rw [L1, nI_ad, show 1 + 3 * n + 3 * r + 1 = 2 + 3 * n + 3 * r by omega, p2, ob2_s, if11, nI_ad, show 2 + 3 * n + 3 * r + 1 = 3 + 3 * n + 3 * r by omega, show (48 : Int32) = nI 48 from rfl, nI_ad, p3, ob2_s, if11, z2, nI_ad, nI_ad, nI_ad, show 3 + 3 * n + 3 * r + 1 = 1 + 3 * n + 3 * (r + 1) by omega]
      · unfold twh
        by_cases e6 : a = 6
        · rw [L6, ifeqT e6, if_pos e6]
        · rw [L6, ifeqF e6 (by omega) (by omega), if_neg e6, show (48 : Int32) = nI 48 from rfl, nI_ad]
    · rw [pk_un (by omega), pk_un (by omega), pk_un (by omega)]
    · rw [pk_un (by omega), pk_un (by omega), pk_un (by omega)]
    · by_cases e : q = r
      · subst e
        refine ⟨a, b, ha, hb, hab, ?_, ?_, ?_, ?_, pk_us, fun p hp => ?_⟩
        · rw [pk_un (by omega), pk_un (by omega), pk_us]
        · rw [pk_un (by omega), pk_us]
        · rw [pk_un (by omega), pk_un (by omega), pk_us]
        · rw [pk_un (by omega), pk_us]
        · rw [pk_un (by omega), pk_un (by omega), pk_un (by omega), pk_un (by omega), pk_un (by omega), pk_un (by omega)]
          rintro ⟨w1, w2⟩
          have f1 := hg.2.2.2.2.1 p hp
          have f2 := hg.2.2.2.2.2 p hp
          have f3 := hweb.bd p hp
          rw [f1] at w1
          rw [f2] at w2
          exact hf (fnd_lt.mpr ⟨p, hp, (nI_eq (by omega) (by omega)).mp w1, (nI_eq (by omega) (by omega)).mp w2⟩)
      · obtain ⟨a', b', b1, b2, b3, b4, b5, b6, b7, b8, b9⟩ := hR.2 q (by omega)
        refine ⟨a', b', b1, b2, b3, ?_, ?_, ?_, ?_, ?_, fun p hp => ?_⟩
        · rw [pk_un (by omega), pk_un (by omega), pk_un (by omega)]; exact b4
        · rw [pk_un (by omega), pk_un (by omega), pk_un (by omega)]; exact b5
        · rw [pk_un (by omega), pk_un (by omega), pk_un (by omega)]; exact b6
        · rw [pk_un (by omega), pk_un (by omega), pk_un (by omega)]; exact b7
        · rw [pk_un (by omega), pk_un (by omega), pk_un (by omega)]; exact b8
        · rw [pk_un (by omega), pk_un (by omega), pk_un (by omega), pk_un (by omega), pk_un (by omega), pk_un (by omega)]
          exact b9 p hp
theorem put_L (hL : L ≤ 260) (ga0 : Nat → Int32) : ∃ n r G S' c, f_L_put L xs ga0 ((W, sl, sn, sc) : SG) (0 : Int32) = some (nI (1 + 3 * n + 3 * r), G, S') ∧ 1 ≤ n ∧ n ≤ 6 ∧ r ≤ 12 ∧ PT n n G c ∧ PR n r G c ∧ SP W (va_up sl 0 (nI 0)) (va_up sn 0 (nI 60)) S' c := by
  unfold f_L_put
  obtain ⟨y, hy⟩ := cell_L (xs := xs) (c := 0) hL (by omega)
  rw [show f_L_cell L xs (0 : Int32) = some y from hy, ob1_s]
  obtain ⟨G0, e0⟩ : ∃ G0, it (u2 (L_L_put_10)) FUEL ((0 : Int32), ga0) = some G0 ∧ ∀ j, j < 38 → G0 j = 0 := by
    refine it_goes (body := u2 (L_L_put_10)) (fun i s => s.1 = nI i ∧ ∀ j, j < i → s.2 j = 0) (fun G => ∀ j, j < 38 → G j = 0) 38 ?_ ?_ FUEL (FUEL_gt (by omega)) _ ⟨rfl, fun j hj => by omega⟩
    · rintro i ⟨y, F⟩ hi ⟨h1, h2⟩
      simp only at h1 h2
      subst h1
      left
      refine ⟨(nI (i + 1), upd F i 0), ?_, rfl, fun j hj => ?_⟩
      · show L_L_put_10 (nI i) F = _
        unfold L_L_put_10
        rw [K38, ifleF hi (by omega), cl_nI (by omega), ifgd0 (by omega) (by omega), L1, nI_ad]
      · show upd F i 0 j = 0
        unfold upd
        by_cases e : j = i
        · rw [if_pos e]
        · rw [if_neg e]; exact h2 j (by omega)
    · rintro ⟨y, F⟩ ⟨h1, h2⟩
      simp only at h1 h2
      subst h1
      refine ⟨F, ?_, h2⟩
      show L_L_put_10 (nI 38) F = _
      unfold L_L_put_10
      rw [K38, ifleT (Nat.le_refl 38) (by omega)]
  rw [e0.1, ob1_s]
  have hz := e0.2
  obtain ⟨k, hk, e1⟩ := some_L y (m := 6) (by omega) (by omega)
  rw [show f_L_some y (6 : Int32) = some (nI k) from e1, ob1_s]
  obtain ⟨z, e2⟩ := Fsheet_of (W := W) (sl := sl) (sn := sn) (sc := sc) (k := 0) (la := 0) (Ln := 60) (by omega) (by omega) (by omega)
  rw [show F_sheet (W, sl, sn, sc) (0 : Int32) (0 : Int32) (60 : Int32) = _ from e2, ob2_s, if_pos rfl]
  generalize hsl : va_up sl 0 (nI 0) = sl'
  generalize hsn : va_up sn 0 (nI 60) = sn'
  have h1 : sl' 0 = 0 := by rw [← hsl]; exact up_at
  have h2 : sn' 0 = nI 60 := by rw [← hsn]; exact up_at
  obtain ⟨S1, p1, s1⟩ := SP_put h1 h2 (⟨va_up sc 0 z, rfl, rfl⟩ : SP W sl' sn' (W, sl', sn', va_up sc 0 z) (va_up sc 0 z 0)) (i := 0) (v := 111) (by omega) (by decide)
  rw [show F_put (W, sl', sn', va_up sc 0 z) (0 : Int32) (0 : Int32) (111 : Int32) = some (1, S1) from p1, ob2_s, if_pos rfl]
  have hk1 : (1 : Int32) + nI k = nI (k + 1) := by rw [L1, nI_ad, Nat.add_comm]
  rw [hk1]
  generalize hn' : k + 1 = n at *
  have hn6 : n ≤ 6 := by omega
  have h0 : 1 ≤ n := by omega
  have hA : ∃ w : Int32 × (Nat → Int32) × SG, it (u4 (L_L_put_73 L xs (0 : Int32))) FUEL ((1 : Int32), (0 : Int32), upd G0 0 (nI n), S1) = some w ∧ w.1 = nI (1 + 3 * n) ∧ ∃ c, PT n n w.2.1 c ∧ w.2.1 1 = 0 ∧ SP W sl' sn' w.2.2 c := by
    refine it_forI (body := u4 (L_L_put_73 L xs (0 : Int32))) (fun t s => s.1 = nI (1 + 3 * t) ∧ s.2.1 = nI t ∧ ∃ c, PT n t s.2.2.1 c ∧ s.2.2.1 1 = 0 ∧ SP W sl' sn' s.2.2.2 c) (fun w => w.1 = nI (1 + 3 * n) ∧ ∃ c, PT n n w.2.1 c ∧ w.2.1 1 = 0 ∧ SP W sl' sn' w.2.2 c) n ?_ ?_ _ ⟨rfl, rfl, upd (va_up sc 0 z 0) 0 111, ⟨show upd G0 0 (nI n) 0 = nI n from pk_us, pk_us, fun u hu => by omega⟩, by show upd G0 0 (nI n) 1 = 0; rw [pk_un (by omega)]; exact hz 1 (by omega), s1⟩ FUEL (FUEL_gt (by omega))
    · rintro t ht ⟨x5, x6, G, S⟩ ⟨e1, e2, c, e3, e4, e5⟩
      simp only at e1 e2 e3 e4 e5
      subst e1 e2
      obtain ⟨G', S', c', q1, q2, q3, q4⟩ := put_thing (xs := xs) hL h1 h2 h0 hn6 ht e3 e4 e5
      exact ⟨_, q1, rfl, rfl, c', q2, q3, q4⟩
    · rintro ⟨x5, x6, G, S⟩ ⟨e1, e2, c, e3, e4, e5⟩
      simp only at e1 e2 e3 e4 e5
      subst e1 e2
      refine ⟨(nI (1 + 3 * n), G, S), ?_, rfl, c, e3, e4, e5⟩
      show L_L_put_73 L xs (0 : Int32) (nI (1 + 3 * n)) (nI n) G S = _
      unfold L_L_put_73
      rw [e3.1, ifleT (Nat.le_refl n) (by omega)]
  obtain ⟨⟨x5, G1, S2⟩, hA1, hA2, c, hA3, hA4, hA5⟩ := hA
  simp only at hA2 hA3 hA4 hA5
  subst hA2
  rw [hA1, ob3_s]
  obtain ⟨m, hm, e3⟩ := some_L (y >>> ((3 : Int32) &&& 31)) (m := 13) (by omega) (by omega)
  rw [show f_L_some (y >>> ((3 : Int32) &&& 31)) (13 : Int32) = some (nI m) from e3, ob1_s]
  have hB : ∃ w : Int32 × (Nat → Int32) × SG, it (u4 (L_L_put_283 L xs (0 : Int32) (nI m))) FUEL (nI (1 + 3 * n), (0 : Int32), G1, S2) = some w ∧ ∃ r c, w.1 = nI (1 + 3 * n + 3 * r) ∧ r ≤ 12 ∧ PT n n w.2.1 c ∧ PR n r w.2.1 c ∧ SP W sl' sn' w.2.2 c := by
    refine it_goes (body := u4 (L_L_put_283 L xs (0 : Int32) (nI m))) (fun k s => s.2.1 = nI k ∧ ∃ r c, s.1 = nI (1 + 3 * n + 3 * r) ∧ r ≤ 12 ∧ PT n n s.2.2.1 c ∧ PR n r s.2.2.1 c ∧ SP W sl' sn' s.2.2.2 c) (fun w => ∃ r c, w.1 = nI (1 + 3 * n + 3 * r) ∧ r ≤ 12 ∧ PT n n w.2.1 c ∧ PR n r w.2.1 c ∧ SP W sl' sn' w.2.2 c) 20 ?_ ?_ FUEL (FUEL_gt (by omega)) _ ⟨rfl, 0, c, rfl, by omega, hA3, ⟨hA4, fun q hq => by omega⟩, hA5⟩
    · rintro k ⟨x5, x7, G, S⟩ hk ⟨e1, r, c, e2, e3, e4, e5, e6⟩
      simp only at e1 e2 e4 e5 e6
      subst e1 e2
      by_cases hrm : r < m
      · left
        obtain ⟨r', G', S', c', q1, q2, q3, q4, q5⟩ := put_ref (xs := xs) hL h1 h2 h0 hn6 hk (show m ≤ 12 by omega) hrm e4 e5 e6
        exact ⟨_, q1, rfl, r', c', rfl, q2, q3, q4, q5⟩
      · right
        refine ⟨(nI (1 + 3 * n + 3 * r), G, S), ?_, r, c, rfl, e3, e4, e5, e6⟩
        show L_L_put_283 L xs (0 : Int32) (nI m) (nI (1 + 3 * n + 3 * r)) (nI k) G S = _
        unfold L_L_put_283
        rw [L20, ifleF (by omega) (by omega), e5.1, ifleT (by omega) (by omega)]
    · rintro ⟨x5, x7, G, S⟩ ⟨e1, r, c, e2, e3, e4, e5, e6⟩
      simp only at e1 e2 e4 e5 e6
      subst e1 e2
      refine ⟨(nI (1 + 3 * n + 3 * r), G, S), ?_, r, c, rfl, e3, e4, e5, e6⟩
      show L_L_put_283 L xs (0 : Int32) (nI m) (nI (1 + 3 * n + 3 * r)) (nI 20) G S = _
      unfold L_L_put_283
      rw [L20, ifleT (Nat.le_refl 20) (by omega)]
  obtain ⟨⟨x5, G, S⟩, hB1, r, c, hB2, hB3, hB4, hB5, hB6⟩ := hB
  simp only at hB2 hB4 hB5 hB6
  subst hB2
  rw [hB1, ob3_s]
  exact ⟨n, r, G, S, c, rfl, h0, hn6, hB3, hB4, hB5, hB6⟩
end PUT
