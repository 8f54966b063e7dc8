section LAWL
variable {p : Program} {l : Launch} {e : Env} {s : State} {m : MethodId} {below : List Frame} {meth : Method} {c : Code} {dC : Nat → ClassId} {dI : Nat → Nat → Nat} {cI cS : ClassId} {b L : Nat} {xs : Nat → Int32} {ad : Nat → Nat} {a_g a_k : Nat}
set_option maxHeartbeats 32000000 in
set_option maxRecDepth 100000 in
theorem lq_1959 (C0 : lw_At p s m meth c b L xs) (hK : va_K (dC, dI) vwCl (tyW cI cS) s) (hN : Nst s) {r_22_ga : Nat → Int32} {ga_68e : Nat → Int32} {ka_68e : Nat → Int32} {x7_1949 : Int32} {y6_1959 : Int32} {SS_1959e : SG} (after_1959 : ∀ (w : va_W) (H : Heap) (locs : List Loc) (ls : Array Slot), gI cI cS ad SS_1959e w → va_P (dC, dI) vwCl ((a_g, .inl (cI, 38, .inl ga_68e)) :: (a_k, .inl (cI, 38, .inl ka_68e)) :: w) H → va_D (fun q : Nat => s.heap.size ≤ q) ((a_g, .inl (cI, 38, .inl ga_68e)) :: (a_k, .inl (cI, 38, .inl ka_68e)) :: w) → va_S (fun q : Nat => s.heap.size ≤ q) s.heap H locs → lv_has ls 19 [(1, .ref (ad 0)), (5, .int (r_22_ga 0)), (6, .int y6_1959), (7, .int x7_1949)] → W p l e room_1 s m #[Value.ref b] below meth c H locs NCELL NSLOT (lw_Z below #[Value.ref b] s) (F0 m 2008 ls [])) : ∀ (n : Nat) (x6_1959 : Int32) (x8_1959 : Int32) (SS_1959 : SG), it (u3 (L_L_law_1959 r_22_ga x7_1949)) n (x6_1959, x8_1959, SS_1959) = some (y6_1959, SS_1959e) → ∀ (w : va_W) (H : Heap) (locs : List Loc) (ls : Array Slot), gI cI cS ad SS_1959 w → va_P (dC, dI) vwCl ((a_g, .inl (cI, 38, .inl ga_68e)) :: (a_k, .inl (cI, 38, .inl ka_68e)) :: w) H → va_D (fun q : Nat => s.heap.size ≤ q) ((a_g, .inl (cI, 38, .inl ga_68e)) :: (a_k, .inl (cI, 38, .inl ka_68e)) :: w) → va_S (fun q : Nat => s.heap.size ≤ q) s.heap H locs → lv_has ls 19 [(1, .ref (ad 0)), (5, .int (r_22_ga 0)), (6, .int x6_1959), (7, .int x7_1949), (8, .int x8_1959)] → W p l e room_1 s m #[Value.ref b] below meth c H locs NCELL NSLOT (lw_Z below #[Value.ref b] s) (F0 m 1959 ls []) := by
  obtain ⟨hx, hb, hr, hml, hown, hts0, hX, hbl, hlocks, hgv⟩ := id C0
  have hts : ∀ w ∈ wsL_law, w.before #[Value.ref b] s = true := fun w h => hts0 w (wsL_law_in w h)
  have hbA : ¬ (fun q : Nat => s.heap.size ≤ q) b := Nat.not_le.mpr hbl
  intro n
  induction n with
  | zero => intro x6_1959 x8_1959 SS_1959 h2 w H locs ls hI hP hD hS hl; exact (it_0 h2).elim
  | succ n ih_1959 =>
    intro x6_1959 x8_1959 SS_1959 h2 w H locs ls hI hP hD hS hl
    obtain ⟨t_1959, h2, k2⟩ := it3_inv h2
    unfold L_L_law_1959 at h2
    refine lv_iload hx hb dL_law_1959 (lv_at hl 4 rfl) ?_
    refine lv_iload hx hb dL_law_1961 (lv_at hl 1 rfl) ?_
    refine lv_icmp_ge (tgt := 2008) hx hb dL_law_1963 (by decide) (fun c_1963 => ?_) (fun c_1963 => ?_)
    · have h2 := hp_pos c_1963 h2
      cases h2
      obtain ⟨rfl, rfl⟩ := pj2 k2
      exact after_1959 _ _ _ _ hI hP hD hS (lv_sub hl [0, 1, 2, 3] rfl)
    · have h2 := hp_neg c_1963 h2
      refine lv_aload_n hx hb dL_law_1966 rfl (lv_at hl 0 rfl) ?_
      refine lv_iload hx hb dL_law_1967 (lv_at hl 4 rfl) ?_
      refine lv_iload hx hb dL_law_1969 (lv_at hl 4 rfl) ?_
      refine lv_iload hx hb dL_law_1971 (lv_at hl 3 rfl) ?_
      refine lv_iadd hx hb dL_law_1973 ?_
      refine lv_iload hx hb dL_law_1974 (lv_at hl 1 rfl) ?_
      have g_1976 := hg_no h2
      have h2 := hg_yes h2
      refine lv_irem hx hb dL_law_1976 g_1976 ?_
      obtain ⟨r_1977, r_1977_S, e_1977, h2⟩ := ob2_inv h2
      refine k_GVi (pre := [(a_g, .inl (cI, 38, .inl ga_68e)), (a_k, .inl (cI, 38, .inl ka_68e))]) (rest := []) ⟨hx, hb, hml, hown, hts⟩ (A_X4_refer l dC dI cI cS ad e_1977) (cwV 2 hts gL_law_X4_refer rfl rfl rfl khd_X4_refer ⟨(Nat.le_of_ble_eq_true rfl), (Nat.le_of_ble_eq_true rfl)⟩) hK hN hI hP hD hS rfl hl.1 rfl (Nat.le_of_ble_eq_true rfl) dL_law_1977 ⟨(Nat.le_of_ble_eq_true rfl), (Nat.le_of_ble_eq_true rfl)⟩ (fun H locs w hI hP hD hS => ?_)
      have hP : va_P (dC, dI) vwCl ((a_g, .inl (cI, 38, .inl ga_68e)) :: (a_k, .inl (cI, 38, .inl ka_68e)) :: w) H := hP
      have hD : va_D (fun q : Nat => s.heap.size ≤ q) ((a_g, .inl (cI, 38, .inl ga_68e)) :: (a_k, .inl (cI, 38, .inl ka_68e)) :: w) := hD
      refine lv_iload hx hb dL_law_1980 (lv_at hl 2 rfl) ?_
      refine lv_bipush (v := 12) hx hb dL_law_1982 (by decide) ?_
      obtain ⟨u0_1997, v6_1997, i_1997, h2⟩ := ob2_inv h2
      have after_1997 : ∀ (w : va_W) (H : Heap) (locs : List Loc) (ls : Array Slot), gI cI cS ad r_1977_S w → va_P (dC, dI) vwCl ((a_g, .inl (cI, 38, .inl ga_68e)) :: (a_k, .inl (cI, 38, .inl ka_68e)) :: w) H → va_D (fun q : Nat => s.heap.size ≤ q) ((a_g, .inl (cI, 38, .inl ga_68e)) :: (a_k, .inl (cI, 38, .inl ka_68e)) :: w) → va_S (fun q : Nat => s.heap.size ≤ q) s.heap H locs → lv_has ls 19 [(1, .ref (ad 0)), (5, .int (r_22_ga 0)), (6, .int v6_1997), (7, .int x7_1949), (8, .int x8_1959)] → W p l e room_1 s m #[Value.ref b] below meth c H locs NCELL NSLOT (lw_Z below #[Value.ref b] s) (F0 m 1997 ls [.int u0_1997, .int r_1977]) := by
        intro w H locs ls hI hP hD hS hl
        refine lv_icmp_eq (tgt := 2002) hx hb dL_law_1997 (by decide) (fun c_1997 => ?_) (fun c_1997 => ?_)
        · have h2 := hp_pos c_1997 h2
          refine lv_iinc (v := (x8_1959 + (1 : Int32))) (lv' := [(8, .int (x8_1959 + (1 : Int32))), (1, .ref (ad 0)), (5, .int (r_22_ga 0)), (6, .int v6_1997), (7, .int x7_1949)]) hx hb dL_law_2002 hl (k := 4) rfl rfl (by decide) rfl (fun ls hl => ?_)
          refine lv_goto (tgt := 1959) hx hb dL_law_2005 (by decide) ?_
          cases h2
          exact ih_1959 _ _ _ k2 _ _ _ _ hI hP hD hS (lv_sub hl [1, 2, 3, 4, 0] rfl)
        · have h2 := hp_neg c_1997 h2
          cases h2
      have h3 := i_1997
      refine lv_icmp_ge (tgt := 1995) hx hb dL_law_1984 (by decide) (fun c_1984 => ?_) (fun c_1984 => ?_)
      · have h3 := hp_pos c_1984 h3
        refine lv_bipush (v := -4) hx hb dL_law_1995 (by decide) ?_
        obtain ⟨rfl, rfl⟩ := pj2 (Option.some.inj h3)
        exact after_1997 _ _ _ _ hI hP hD hS (lv_sub hl [0, 1, 2, 3, 4] rfl)
      · have h3 := hp_neg c_1984 h3
        refine lv_iinc (v := (x6_1959 + (1 : Int32))) (lv' := [(6, .int (x6_1959 + (1 : Int32))), (1, .ref (ad 0)), (5, .int (r_22_ga 0)), (7, .int x7_1949), (8, .int x8_1959)]) hx hb dL_law_1987 hl (k := 2) rfl rfl (by decide) rfl (fun ls hl => ?_)
        refine lv_iload hx hb dL_law_1990 (lv_at hl 0 rfl) ?_
        refine lv_goto (tgt := 1997) hx hb dL_law_1992 (by decide) ?_
        obtain ⟨rfl, rfl⟩ := pj2 (Option.some.inj h3)
        exact after_1997 _ _ _ _ hI hP hD hS (lv_sub hl [1, 2, 0, 3, 4] rfl)
set_option maxHeartbeats 32000000 in
set_option maxRecDepth 100000 in
theorem lq_1949 (C0 : lw_At p s m meth c b L xs) (hK : va_K (dC, dI) vwCl (tyW cI cS) s) (hN : Nst s) {r_22_ga : Nat → Int32} {ga_68e : Nat → Int32} {ka_68e : Nat → Int32} {y6_1949 : Int32} {SS_1949e : SG} (after_1949 : ∀ (w : va_W) (H : Heap) (locs : List Loc) (ls : Array Slot), gI cI cS ad SS_1949e w → va_P (dC, dI) vwCl ((a_g, .inl (cI, 38, .inl ga_68e)) :: (a_k, .inl (cI, 38, .inl ka_68e)) :: w) H → va_D (fun q : Nat => s.heap.size ≤ q) ((a_g, .inl (cI, 38, .inl ga_68e)) :: (a_k, .inl (cI, 38, .inl ka_68e)) :: w) → va_S (fun q : Nat => s.heap.size ≤ q) s.heap H locs → lv_has ls 19 [(1, .ref (ad 0)), (5, .int (r_22_ga 0)), (6, .int y6_1949)] → W p l e room_1 s m #[Value.ref b] below meth c H locs NCELL NSLOT (lw_Z below #[Value.ref b] s) (F0 m 2014 ls [])) : ∀ (n : Nat) (x6_1949 : Int32) (x7_1949 : Int32) (SS_1949 : SG), it (u3 (L_L_law_1949 r_22_ga)) n (x6_1949, x7_1949, SS_1949) = some (y6_1949, SS_1949e) → ∀ (w : va_W) (H : Heap) (locs : List Loc) (ls : Array Slot), gI cI cS ad SS_1949 w → va_P (dC, dI) vwCl ((a_g, .inl (cI, 38, .inl ga_68e)) :: (a_k, .inl (cI, 38, .inl ka_68e)) :: w) H → va_D (fun q : Nat => s.heap.size ≤ q) ((a_g, .inl (cI, 38, .inl ga_68e)) :: (a_k, .inl (cI, 38, .inl ka_68e)) :: w) → va_S (fun q : Nat => s.heap.size ≤ q) s.heap H locs → lv_has ls 19 [(1, .ref (ad 0)), (5, .int (r_22_ga 0)), (6, .int x6_1949), (7, .int x7_1949)] → W p l e room_1 s m #[Value.ref b] below meth c H locs NCELL NSLOT (lw_Z below #[Value.ref b] s) (F0 m 1949 ls []) := by
  obtain ⟨hx, hb, hr, hml, hown, hts0, hX, hbl, hlocks, hgv⟩ := id C0
  have hts : ∀ w ∈ wsL_law, w.before #[Value.ref b] s = true := fun w h => hts0 w (wsL_law_in w h)
  have hbA : ¬ (fun q : Nat => s.heap.size ≤ q) b := Nat.not_le.mpr hbl
  intro n
  induction n with
  | zero => intro x6_1949 x7_1949 SS_1949 h1 w H locs ls hI hP hD hS hl; exact (it_0 h1).elim
  | succ n ih_1949 =>
    intro x6_1949 x7_1949 SS_1949 h1 w H locs ls hI hP hD hS hl
    obtain ⟨t_1949, h1, k1⟩ := it3_inv h1
    unfold L_L_law_1949 at h1
    refine lv_iload hx hb dL_law_1949 (lv_at hl 3 rfl) ?_
    refine lv_iload hx hb dL_law_1951 (lv_at hl 1 rfl) ?_
    refine lv_icmp_ge (tgt := 2014) hx hb dL_law_1953 (by decide) (fun c_1953 => ?_) (fun c_1953 => ?_)
    · have h1 := hp_pos c_1953 h1
      cases h1
      obtain ⟨rfl, rfl⟩ := pj2 k1
      exact after_1949 _ _ _ _ hI hP hD hS (lv_sub hl [0, 1, 2] rfl)
    · have h1 := hp_neg c_1953 h1
      refine lv_iconst (v := 0) hx hb dL_law_1956 (by decide) ?_
      refine lv_istore (lv' := [(8, .int (0 : Int32)), (1, .ref (ad 0)), (5, .int (r_22_ga 0)), (6, .int x6_1949), (7, .int x7_1949)]) hx hb dL_law_1957 hl (by decide) rfl (fun ls hl => ?_)
      obtain ⟨y6_1959, SS_1959e, i_1959, h1⟩ := ob2_inv h1
      have after_1959 : ∀ (w : va_W) (H : Heap) (locs : List Loc) (ls : Array Slot), gI cI cS ad SS_1959e w → va_P (dC, dI) vwCl ((a_g, .inl (cI, 38, .inl ga_68e)) :: (a_k, .inl (cI, 38, .inl ka_68e)) :: w) H → va_D (fun q : Nat => s.heap.size ≤ q) ((a_g, .inl (cI, 38, .inl ga_68e)) :: (a_k, .inl (cI, 38, .inl ka_68e)) :: w) → va_S (fun q : Nat => s.heap.size ≤ q) s.heap H locs → lv_has ls 19 [(1, .ref (ad 0)), (5, .int (r_22_ga 0)), (6, .int y6_1959), (7, .int x7_1949)] → W p l e room_1 s m #[Value.ref b] below meth c H locs NCELL NSLOT (lw_Z below #[Value.ref b] s) (F0 m 2008 ls []) := by
        intro w H locs ls hI hP hD hS hl
        refine lv_iinc (v := (x7_1949 + (1 : Int32))) (lv' := [(7, .int (x7_1949 + (1 : Int32))), (1, .ref (ad 0)), (5, .int (r_22_ga 0)), (6, .int y6_1959)]) hx hb dL_law_2008 hl (k := 3) rfl rfl (by decide) rfl (fun ls hl => ?_)
        refine lv_goto (tgt := 1949) hx hb dL_law_2011 (by decide) ?_
        cases h1
        exact ih_1949 _ _ _ k1 _ _ _ _ hI hP hD hS (lv_sub hl [1, 2, 3, 0] rfl)
      exact lq_1959 C0 hK hN after_1959 FUEL _ _ _ i_1959 _ _ _ _ hI hP hD hS (lv_sub hl [1, 2, 3, 4, 0] rfl)
set_option maxHeartbeats 32000000 in
set_option maxRecDepth 100000 in
theorem lq_1915 (C0 : lw_At p s m meth c b L xs) (hK : va_K (dC, dI) vwCl (tyW cI cS) s) (hN : Nst s) {r_22_ga : Nat → Int32} {ga_68e : Nat → Int32} {ka_68e : Nat → Int32} {y6_1915 : Int32} {SS_1915e : SG} (after_1915 : ∀ (w : va_W) (H : Heap) (locs : List Loc) (ls : Array Slot), gI cI cS ad SS_1915e w → va_P (dC, dI) vwCl ((a_g, .inl (cI, 38, .inl ga_68e)) :: (a_k, .inl (cI, 38, .inl ka_68e)) :: w) H → va_D (fun q : Nat => s.heap.size ≤ q) ((a_g, .inl (cI, 38, .inl ga_68e)) :: (a_k, .inl (cI, 38, .inl ka_68e)) :: w) → va_S (fun q : Nat => s.heap.size ≤ q) s.heap H locs → lv_has ls 19 [(1, .ref (ad 0)), (5, .int (r_22_ga 0)), (6, .int y6_1915)] → W p l e room_1 s m #[Value.ref b] below meth c H locs NCELL NSLOT (lw_Z below #[Value.ref b] s) (F0 m 1946 ls [])) : ∀ (n : Nat) (x6_1915 : Int32) (x7_1915 : Int32) (SS_1915 : SG), it (u3 (L_L_law_1915 r_22_ga)) n (x6_1915, x7_1915, SS_1915) = some (y6_1915, SS_1915e) → ∀ (w : va_W) (H : Heap) (locs : List Loc) (ls : Array Slot), gI cI cS ad SS_1915 w → va_P (dC, dI) vwCl ((a_g, .inl (cI, 38, .inl ga_68e)) :: (a_k, .inl (cI, 38, .inl ka_68e)) :: w) H → va_D (fun q : Nat => s.heap.size ≤ q) ((a_g, .inl (cI, 38, .inl ga_68e)) :: (a_k, .inl (cI, 38, .inl ka_68e)) :: w) → va_S (fun q : Nat => s.heap.size ≤ q) s.heap H locs → lv_has ls 19 [(1, .ref (ad 0)), (5, .int (r_22_ga 0)), (6, .int x6_1915), (7, .int x7_1915)] → W p l e room_1 s m #[Value.ref b] below meth c H locs NCELL NSLOT (lw_Z below #[Value.ref b] s) (F0 m 1915 ls []) := by
  obtain ⟨hx, hb, hr, hml, hown, hts0, hX, hbl, hlocks, hgv⟩ := id C0
  have hts : ∀ w ∈ wsL_law, w.before #[Value.ref b] s = true := fun w h => hts0 w (wsL_law_in w h)
  have hbA : ¬ (fun q : Nat => s.heap.size ≤ q) b := Nat.not_le.mpr hbl
  intro n
  induction n with
  | zero => intro x6_1915 x7_1915 SS_1915 h1 w H locs ls hI hP hD hS hl; exact (it_0 h1).elim
  | succ n ih_1915 =>
    intro x6_1915 x7_1915 SS_1915 h1 w H locs ls hI hP hD hS hl
    obtain ⟨t_1915, h1, k1⟩ := it3_inv h1
    unfold L_L_law_1915 at h1
    refine lv_iload hx hb dL_law_1915 (lv_at hl 3 rfl) ?_
    refine lv_iload hx hb dL_law_1917 (lv_at hl 1 rfl) ?_
    refine lv_icmp_ge (tgt := 1946) hx hb dL_law_1919 (by decide) (fun c_1919 => ?_) (fun c_1919 => ?_)
    · have h1 := hp_pos c_1919 h1
      cases h1
      obtain ⟨rfl, rfl⟩ := pj2 k1
      exact after_1915 _ _ _ _ hI hP hD hS (lv_sub hl [0, 1, 2] rfl)
    · have h1 := hp_neg c_1919 h1
      refine lv_aload_n hx hb dL_law_1922 rfl (lv_at hl 0 rfl) ?_
      refine lv_bipush (v := 6) hx hb dL_law_1923 (by decide) ?_
      refine lv_iload hx hb dL_law_1925 (lv_at hl 3 rfl) ?_
      obtain ⟨r_1927, r_1927_S, e_1927, h1⟩ := ob2_inv h1
      refine k_GVi (pre := [(a_g, .inl (cI, 38, .inl ga_68e)), (a_k, .inl (cI, 38, .inl ka_68e))]) (rest := []) ⟨hx, hb, hml, hown, hts⟩ (A_X4_refer l dC dI cI cS ad e_1927) (cwV 2 hts gL_law_X4_refer rfl rfl rfl khd_X4_refer ⟨(Nat.le_of_ble_eq_true rfl), (Nat.le_of_ble_eq_true rfl)⟩) hK hN hI hP hD hS rfl hl.1 rfl (Nat.le_of_ble_eq_true rfl) dL_law_1927 ⟨(Nat.le_of_ble_eq_true rfl), (Nat.le_of_ble_eq_true rfl)⟩ (fun H locs w hI hP hD hS => ?_)
      have hP : va_P (dC, dI) vwCl ((a_g, .inl (cI, 38, .inl ga_68e)) :: (a_k, .inl (cI, 38, .inl ka_68e)) :: w) H := hP
      have hD : va_D (fun q : Nat => s.heap.size ≤ q) ((a_g, .inl (cI, 38, .inl ga_68e)) :: (a_k, .inl (cI, 38, .inl ka_68e)) :: w) := hD
      refine lv_iinc (v := (x6_1915 + (1 : Int32))) (lv' := [(6, .int (x6_1915 + (1 : Int32))), (1, .ref (ad 0)), (5, .int (r_22_ga 0)), (7, .int x7_1915)]) hx hb dL_law_1930 hl (k := 2) rfl rfl (by decide) rfl (fun ls hl => ?_)
      refine lv_iload hx hb dL_law_1933 (lv_at hl 0 rfl) ?_
      refine lv_icmp_eq (tgt := 1940) hx hb dL_law_1935 (by decide) (fun c_1935 => ?_) (fun c_1935 => ?_)
      · have h1 := hp_pos c_1935 h1
        refine lv_iinc (v := (x7_1915 + (1 : Int32))) (lv' := [(7, .int (x7_1915 + (1 : Int32))), (6, .int (x6_1915 + (1 : Int32))), (1, .ref (ad 0)), (5, .int (r_22_ga 0))]) hx hb dL_law_1940 hl (k := 3) rfl rfl (by decide) rfl (fun ls hl => ?_)
        refine lv_goto (tgt := 1915) hx hb dL_law_1943 (by decide) ?_
        cases h1
        exact ih_1915 _ _ _ k1 _ _ _ _ hI hP hD hS (lv_sub hl [2, 3, 1, 0] rfl)
      · have h1 := hp_neg c_1935 h1
        cases h1
set_option maxHeartbeats 32000000 in
set_option maxRecDepth 100000 in
theorem lq_1865 (C0 : lw_At p s m meth c b L xs) (hK : va_K (dC, dI) vwCl (tyW cI cS) s) (hN : Nst s) {r_22_ga : Nat → Int32} {ga_68e : Nat → Int32} {ka_68e : Nat → Int32} {SS_1865e : SG} (after_1865 : ∀ (w : va_W) (H : Heap) (locs : List Loc) (ls : Array Slot), gI cI cS ad SS_1865e w → va_P (dC, dI) vwCl ((a_g, .inl (cI, 38, .inl ga_68e)) :: (a_k, .inl (cI, 38, .inl ka_68e)) :: w) H → va_D (fun q : Nat => s.heap.size ≤ q) ((a_g, .inl (cI, 38, .inl ga_68e)) :: (a_k, .inl (cI, 38, .inl ka_68e)) :: w) → va_S (fun q : Nat => s.heap.size ≤ q) s.heap H locs → lv_has ls 19 [(1, .ref (ad 0)), (5, .int (r_22_ga 0))] → W p l e room_1 s m #[Value.ref b] below meth c H locs NCELL NSLOT (lw_Z below #[Value.ref b] s) (F0 m 1909 ls [])) : ∀ (n : Nat) (x6_1865 : Int32) (SS_1865 : SG), it (u2 (L_L_law_1865 r_22_ga ga_68e)) n (x6_1865, SS_1865) = some SS_1865e → ∀ (w : va_W) (H : Heap) (locs : List Loc) (ls : Array Slot), gI cI cS ad SS_1865 w → va_P (dC, dI) vwCl ((a_g, .inl (cI, 38, .inl ga_68e)) :: (a_k, .inl (cI, 38, .inl ka_68e)) :: w) H → va_D (fun q : Nat => s.heap.size ≤ q) ((a_g, .inl (cI, 38, .inl ga_68e)) :: (a_k, .inl (cI, 38, .inl ka_68e)) :: w) → va_S (fun q : Nat => s.heap.size ≤ q) s.heap H locs → lv_has ls 19 [(1, .ref (ad 0)), (2, .ref a_g), (5, .int (r_22_ga 0)), (6, .int x6_1865)] → W p l e room_1 s m #[Value.ref b] below meth c H locs NCELL NSLOT (lw_Z below #[Value.ref b] s) (F0 m 1865 ls []) := by
  obtain ⟨hx, hb, hr, hml, hown, hts0, hX, hbl, hlocks, hgv⟩ := id C0
  have hts : ∀ w ∈ wsL_law, w.before #[Value.ref b] s = true := fun w h => hts0 w (wsL_law_in w h)
  have hbA : ¬ (fun q : Nat => s.heap.size ≤ q) b := Nat.not_le.mpr hbl
  intro n
  induction n with
  | zero => intro x6_1865 SS_1865 h1 w H locs ls hI hP hD hS hl; exact (it_0 h1).elim
  | succ n ih_1865 =>
    intro x6_1865 SS_1865 h1 w H locs ls hI hP hD hS hl
    obtain ⟨t_1865, h1, k1⟩ := it2_inv h1
    unfold L_L_law_1865 at h1
    refine lv_iload hx hb dL_law_1865 (lv_at hl 3 rfl) ?_
    refine lv_iload hx hb dL_law_1867 (lv_at hl 2 rfl) ?_
    refine lv_icmp_ge (tgt := 1909) hx hb dL_law_1869 (by decide) (fun c_1869 => ?_) (fun c_1869 => ?_)
    · have h1 := hp_pos c_1869 h1
      cases h1
      obtain rfl := pj1 k1
      exact after_1865 _ _ _ _ hI hP hD hS (lv_sub hl [0, 2] rfl)
    · have h1 := hp_neg c_1869 h1
      refine lv_aload_n hx hb dL_law_1872 rfl (lv_at hl 0 rfl) ?_
      refine lv_iload hx hb dL_law_1873 (lv_at hl 3 rfl) ?_
      refine lv_bipush (v := 6) hx hb dL_law_1875 (by decide) ?_
      obtain ⟨r_1877, r_1877_S, e_1877, h1⟩ := ob2_inv h1
      refine k_GVi (pre := [(a_g, .inl (cI, 38, .inl ga_68e)), (a_k, .inl (cI, 38, .inl ka_68e))]) (rest := []) ⟨hx, hb, hml, hown, hts⟩ (A_X4_own l dC dI cI cS ad e_1877) (cwV 2 hts gL_law_X4_own rfl rfl rfl khd_X4_own ⟨(Nat.le_of_ble_eq_true rfl), (Nat.le_of_ble_eq_true rfl)⟩) hK hN hI hP hD hS rfl hl.1 rfl (Nat.le_of_ble_eq_true rfl) dL_law_1877 ⟨(Nat.le_of_ble_eq_true rfl), (Nat.le_of_ble_eq_true rfl)⟩ (fun H locs w hI hP hD hS => ?_)
      have hP : va_P (dC, dI) vwCl ((a_g, .inl (cI, 38, .inl ga_68e)) :: (a_k, .inl (cI, 38, .inl ka_68e)) :: w) H := hP
      have hD : va_D (fun q : Nat => s.heap.size ≤ q) ((a_g, .inl (cI, 38, .inl ga_68e)) :: (a_k, .inl (cI, 38, .inl ka_68e)) :: w) := hD
      refine lv_aload_n hx hb dL_law_1880 rfl (lv_at hl 1 rfl) ?_
      refine lv_bipush (v := 8) hx hb dL_law_1881 (by decide) ?_
      refine lv_iload hx hb dL_law_1883 (lv_at hl 3 rfl) ?_
      refine lv_iadd hx hb dL_law_1885 ?_
      have g_1886 := hg_no h1
      have h1 := hg_yes h1
      refine va_iald (D := (dC, dI)) hx hb hK hP 0 0 rfl rfl g_1886 dL_law_1886 ?_
      refine lv_icmp_ne (tgt := 1901) hx hb dL_law_1887 (by decide) (fun c_1887 => ?_) (fun c_1887 => ?_)
      · have h1 := hp_neg c_1887 h1
        cases h1
      · have h1 := hp_pos c_1887 h1
        refine lv_aload_n hx hb dL_law_1890 rfl (lv_at hl 0 rfl) ?_
        refine lv_iload hx hb dL_law_1891 (lv_at hl 3 rfl) ?_
        refine lv_iconst (v := 2) hx hb dL_law_1893 (by decide) ?_
        obtain ⟨r_1894, e_1894, h1⟩ := ob1_inv h1
        refine k_GVi (pre := [(a_g, .inl (cI, 38, .inl ga_68e)), (a_k, .inl (cI, 38, .inl ka_68e))]) (rest := []) ⟨hx, hb, hml, hown, hts⟩ (A_X4_ofThing l dC dI cI cS ad e_1894) (cwV 2 hts gL_law_X4_ofThing rfl rfl rfl khd_X4_ofThing ⟨(Nat.le_of_ble_eq_true rfl), (Nat.le_of_ble_eq_true rfl)⟩) hK hN hI hP hD hS rfl hl.1 rfl (Nat.le_of_ble_eq_true rfl) dL_law_1894 ⟨(Nat.le_of_ble_eq_true rfl), (Nat.le_of_ble_eq_true rfl)⟩ (fun H locs w hI hP hD hS => ?_)
        have hP : va_P (dC, dI) vwCl ((a_g, .inl (cI, 38, .inl ga_68e)) :: (a_k, .inl (cI, 38, .inl ka_68e)) :: w) H := hP
        have hD : va_D (fun q : Nat => s.heap.size ≤ q) ((a_g, .inl (cI, 38, .inl ga_68e)) :: (a_k, .inl (cI, 38, .inl ka_68e)) :: w) := hD
        refine lv_iconst (v := 1) hx hb dL_law_1897 (by decide) ?_
        refine lv_icmp_eq (tgt := 1903) hx hb dL_law_1898 (by decide) (fun c_1898 => ?_) (fun c_1898 => ?_)
        · have h1 := hp_pos c_1898 h1
          refine lv_iinc (v := (x6_1865 + (1 : Int32))) (lv' := [(6, .int (x6_1865 + (1 : Int32))), (1, .ref (ad 0)), (2, .ref a_g), (5, .int (r_22_ga 0))]) hx hb dL_law_1903 hl (k := 3) rfl rfl (by decide) rfl (fun ls hl => ?_)
          refine lv_goto (tgt := 1865) hx hb dL_law_1906 (by decide) ?_
          cases h1
          exact ih_1865 _ _ k1 _ _ _ _ hI hP hD hS (lv_sub hl [1, 2, 3, 0] rfl)
        · have h1 := hp_neg c_1898 h1
          cases h1
set_option maxHeartbeats 32000000 in
set_option maxRecDepth 100000 in
theorem lq_1789 (C0 : lw_At p s m meth c b L xs) (hK : va_K (dC, dI) vwCl (tyW cI cS) s) (hN : Nst s) {r_22_ga : Nat → Int32} {ga_68e : Nat → Int32} {ka_68e : Nat → Int32} {SS_1789e : SG} (after_1789 : ∀ (w : va_W) (H : Heap) (locs : List Loc) (ls : Array Slot), gI cI cS ad SS_1789e w → va_P (dC, dI) vwCl ((a_g, .inl (cI, 38, .inl ga_68e)) :: (a_k, .inl (cI, 38, .inl ka_68e)) :: w) H → va_D (fun q : Nat => s.heap.size ≤ q) ((a_g, .inl (cI, 38, .inl ga_68e)) :: (a_k, .inl (cI, 38, .inl ka_68e)) :: w) → va_S (fun q : Nat => s.heap.size ≤ q) s.heap H locs → lv_has ls 19 [(1, .ref (ad 0)), (2, .ref a_g), (5, .int (r_22_ga 0))] → W p l e room_1 s m #[Value.ref b] below meth c H locs NCELL NSLOT (lw_Z below #[Value.ref b] s) (F0 m 1825 ls [])) : ∀ (n : Nat) (x6_1789 : Int32) (SS_1789 : SG), it (u2 (L_L_law_1789 ga_68e)) n (x6_1789, SS_1789) = some SS_1789e → ∀ (w : va_W) (H : Heap) (locs : List Loc) (ls : Array Slot), gI cI cS ad SS_1789 w → va_P (dC, dI) vwCl ((a_g, .inl (cI, 38, .inl ga_68e)) :: (a_k, .inl (cI, 38, .inl ka_68e)) :: w) H → va_D (fun q : Nat => s.heap.size ≤ q) ((a_g, .inl (cI, 38, .inl ga_68e)) :: (a_k, .inl (cI, 38, .inl ka_68e)) :: w) → va_S (fun q : Nat => s.heap.size ≤ q) s.heap H locs → lv_has ls 19 [(1, .ref (ad 0)), (2, .ref a_g), (5, .int (r_22_ga 0)), (6, .int x6_1789)] → W p l e room_1 s m #[Value.ref b] below meth c H locs NCELL NSLOT (lw_Z below #[Value.ref b] s) (F0 m 1789 ls []) := by
  obtain ⟨hx, hb, hr, hml, hown, hts0, hX, hbl, hlocks, hgv⟩ := id C0
  have hts : ∀ w ∈ wsL_law, w.before #[Value.ref b] s = true := fun w h => hts0 w (wsL_law_in w h)
  have hbA : ¬ (fun q : Nat => s.heap.size ≤ q) b := Nat.not_le.mpr hbl
  intro n
  induction n with
  | zero => intro x6_1789 SS_1789 h1 w H locs ls hI hP hD hS hl; exact (it_0 h1).elim
  | succ n ih_1789 =>
    intro x6_1789 SS_1789 h1 w H locs ls hI hP hD hS hl
    obtain ⟨t_1789, h1, k1⟩ := it2_inv h1
    unfold L_L_law_1789 at h1
    refine lv_iload hx hb dL_law_1789 (lv_at hl 3 rfl) ?_
    refine lv_if_lt (tgt := 1825) hx hb dL_law_1791 (by decide) (fun c_1791 => ?_) (fun c_1791 => ?_)
    · have h1 := hp_pos c_1791 h1
      cases h1
      obtain rfl := pj1 k1
      exact after_1789 _ _ _ _ hI hP hD hS (lv_sub hl [0, 1, 2] rfl)
    · have h1 := hp_neg c_1791 h1
      refine lv_aload_n hx hb dL_law_1794 rfl (lv_at hl 0 rfl) ?_
      refine lv_aload_n hx hb dL_law_1795 rfl (lv_at hl 1 rfl) ?_
      refine lv_bipush (v := 14) hx hb dL_law_1796 (by decide) ?_
      refine lv_iload hx hb dL_law_1798 (lv_at hl 3 rfl) ?_
      refine lv_iadd hx hb dL_law_1800 ?_
      have g_1801 := hg_no h1
      have h1 := hg_yes h1
      refine va_iald (D := (dC, dI)) hx hb hK hP 0 0 rfl rfl g_1801 dL_law_1801 ?_
      refine lv_aload_n hx hb dL_law_1802 rfl (lv_at hl 1 rfl) ?_
      refine lv_bipush (v := 26) hx hb dL_law_1803 (by decide) ?_
      refine lv_iload hx hb dL_law_1805 (lv_at hl 3 rfl) ?_
      refine lv_iadd hx hb dL_law_1807 ?_
      have g_1808 := hg_no h1
      have h1 := hg_yes h1
      refine va_iald (D := (dC, dI)) hx hb hK hP 0 0 rfl rfl g_1808 dL_law_1808 ?_
      obtain ⟨r_1809, r_1809_S, e_1809, h1⟩ := ob2_inv h1
      refine k_GVi (pre := [(a_g, .inl (cI, 38, .inl ga_68e)), (a_k, .inl (cI, 38, .inl ka_68e))]) (rest := []) ⟨hx, hb, hml, hown, hts⟩ (A_X4_refer l dC dI cI cS ad e_1809) (cwV 2 hts gL_law_X4_refer rfl rfl rfl khd_X4_refer ⟨(Nat.le_of_ble_eq_true rfl), (Nat.le_of_ble_eq_true rfl)⟩) hK hN hI hP hD hS rfl hl.1 rfl (Nat.le_of_ble_eq_true rfl) dL_law_1809 ⟨(Nat.le_of_ble_eq_true rfl), (Nat.le_of_ble_eq_true rfl)⟩ (fun H locs w hI hP hD hS => ?_)
      have hP : va_P (dC, dI) vwCl ((a_g, .inl (cI, 38, .inl ga_68e)) :: (a_k, .inl (cI, 38, .inl ka_68e)) :: w) H := hP
      have hD : va_D (fun q : Nat => s.heap.size ≤ q) ((a_g, .inl (cI, 38, .inl ga_68e)) :: (a_k, .inl (cI, 38, .inl ka_68e)) :: w) := hD
      refine lv_iload hx hb dL_law_1812 (lv_at hl 3 rfl) ?_
      refine lv_icmp_eq (tgt := 1819) hx hb dL_law_1814 (by decide) (fun c_1814 => ?_) (fun c_1814 => ?_)
      · have h1 := hp_pos c_1814 h1
        refine lv_iinc (v := (x6_1789 + (-1 : Int32))) (lv' := [(6, .int (x6_1789 + (-1 : Int32))), (1, .ref (ad 0)), (2, .ref a_g), (5, .int (r_22_ga 0))]) hx hb dL_law_1819 hl (k := 3) rfl rfl (by decide) rfl (fun ls hl => ?_)
        refine lv_goto (tgt := 1789) hx hb dL_law_1822 (by decide) ?_
        cases h1
        exact ih_1789 _ _ k1 _ _ _ _ hI hP hD hS (lv_sub hl [1, 2, 3, 0] rfl)
      · have h1 := hp_neg c_1814 h1
        cases h1
set_option maxHeartbeats 32000000 in
set_option maxRecDepth 100000 in
theorem lq_1337 (C0 : lw_At p s m meth c b L xs) (hK : va_K (dC, dI) vwCl (tyW cI cS) s) (hN : Nst s) {r_22_ga : Nat → Int32} {x6_68 : Int32} {ka_718e : Nat → Int32} {SS_746e : SG} {ga_1337e : Nat → Int32} (after_1337 : ∀ (w : va_W) (H : Heap) (locs : List Loc) (ls : Array Slot), gI cI cS ad SS_746e w → va_P (dC, dI) vwCl ((a_g, .inl (cI, 38, .inl ga_1337e)) :: (a_k, .inl (cI, 38, .inl ka_718e)) :: w) H → va_D (fun q : Nat => s.heap.size ≤ q) ((a_g, .inl (cI, 38, .inl ga_1337e)) :: (a_k, .inl (cI, 38, .inl ka_718e)) :: w) → va_S (fun q : Nat => s.heap.size ≤ q) s.heap H locs → lv_has ls 19 [(0, .ref b), (1, .ref (ad 0)), (2, .ref a_g), (3, .ref a_k), (5, .int (r_22_ga 0)), (6, .int x6_68)] → W p l e room_1 s m #[Value.ref b] below meth c H locs NCELL NSLOT (lw_Z below #[Value.ref b] s) (F0 m 1358 ls [])) : ∀ (n : Nat) (x13_1337 : Int32) (ga_1337 : Nat → Int32), it (u2 (L_L_law_1337 ka_718e)) n (x13_1337, ga_1337) = some ga_1337e → ∀ (w : va_W) (H : Heap) (locs : List Loc) (ls : Array Slot), gI cI cS ad SS_746e w → va_P (dC, dI) vwCl ((a_g, .inl (cI, 38, .inl ga_1337)) :: (a_k, .inl (cI, 38, .inl ka_718e)) :: w) H → va_D (fun q : Nat => s.heap.size ≤ q) ((a_g, .inl (cI, 38, .inl ga_1337)) :: (a_k, .inl (cI, 38, .inl ka_718e)) :: w) → va_S (fun q : Nat => s.heap.size ≤ q) s.heap H locs → lv_has ls 19 [(0, .ref b), (1, .ref (ad 0)), (2, .ref a_g), (3, .ref a_k), (5, .int (r_22_ga 0)), (6, .int x6_68), (13, .int x13_1337)] → W p l e room_1 s m #[Value.ref b] below meth c H locs NCELL NSLOT (lw_Z below #[Value.ref b] s) (F0 m 1337 ls []) := by
  obtain ⟨hx, hb, hr, hml, hown, hts0, hX, hbl, hlocks, hgv⟩ := id C0
  have hts : ∀ w ∈ wsL_law, w.before #[Value.ref b] s = true := fun w h => hts0 w (wsL_law_in w h)
  have hbA : ¬ (fun q : Nat => s.heap.size ≤ q) b := Nat.not_le.mpr hbl
  intro n
  induction n with
  | zero => intro x13_1337 ga_1337 h2 w H locs ls hI hP hD hS hl; exact (it_0 h2).elim
  | succ n ih_1337 =>
    intro x13_1337 ga_1337 h2 w H locs ls hI hP hD hS hl
    obtain ⟨t_1337, h2, k2⟩ := it2_inv h2
    unfold L_L_law_1337 at h2
    refine lv_iload hx hb dL_law_1337 (lv_at hl 6 rfl) ?_
    refine lv_bipush (v := 38) hx hb dL_law_1339 (by decide) ?_
    refine lv_icmp_ge (tgt := 1358) hx hb dL_law_1341 (by decide) (fun c_1341 => ?_) (fun c_1341 => ?_)
    · have h2 := hp_pos c_1341 h2
      cases h2
      obtain rfl := pj1 k2
      exact after_1337 _ _ _ _ hI hP hD hS (lv_sub hl [0, 1, 2, 3, 4, 5] rfl)
    · have h2 := hp_neg c_1341 h2
      refine lv_aload_n hx hb dL_law_1344 rfl (lv_at hl 2 rfl) ?_
      refine lv_iload hx hb dL_law_1345 (lv_at hl 6 rfl) ?_
      refine lv_aload_n hx hb dL_law_1347 rfl (lv_at hl 3 rfl) ?_
      refine lv_iload hx hb dL_law_1348 (lv_at hl 6 rfl) ?_
      have g_1350 := hg_no h2
      have h2 := hg_yes h2
      refine va_iald (D := (dC, dI)) hx hb hK hP 1 0 rfl rfl g_1350 dL_law_1350 ?_
      have g_1351 := hg_no h2
      have h2 := hg_yes h2
      refine va_iast (D := (dC, dI)) hx hb hK hP hD hS 0 0 rfl rfl g_1351 dL_law_1351 (fun H locs hP hD hS => ?_)
      have hP : va_P (dC, dI) vwCl ((a_g, .inl (cI, 38, .inl (upd ga_1337 x13_1337.toNatClampNeg (ka_718e x13_1337.toNatClampNeg)))) :: (a_k, .inl (cI, 38, .inl ka_718e)) :: w) H := hP
      have hD : va_D (fun q : Nat => s.heap.size ≤ q) ((a_g, .inl (cI, 38, .inl (upd ga_1337 x13_1337.toNatClampNeg (ka_718e x13_1337.toNatClampNeg)))) :: (a_k, .inl (cI, 38, .inl ka_718e)) :: w) := hD
      refine lv_iinc (v := (x13_1337 + (1 : Int32))) (lv' := [(13, .int (x13_1337 + (1 : Int32))), (0, .ref b), (1, .ref (ad 0)), (2, .ref a_g), (3, .ref a_k), (5, .int (r_22_ga 0)), (6, .int x6_68)]) hx hb dL_law_1352 hl (k := 6) rfl rfl (by decide) rfl (fun ls hl => ?_)
      refine lv_goto (tgt := 1337) hx hb dL_law_1355 (by decide) ?_
      cases h2
      exact ih_1337 _ _ k2 _ _ _ _ hI hP hD hS (lv_sub hl [1, 2, 3, 4, 5, 6, 0] rfl)
set_option maxHeartbeats 32000000 in
set_option maxRecDepth 100000 in
theorem lq_1273 (C0 : lw_At p s m meth c b L xs) (hK : va_K (dC, dI) vwCl (tyW cI cS) s) (hN : Nst s) {r_22_ga : Nat → Int32} {x6_68 : Int32} {r_696 : Int32} {ka_718e : Nat → Int32} {y10_746 : Int32} {ga_746e : Nat → Int32} {SS_746e : SG} (after_1273 : ∀ (w : va_W) (H : Heap) (locs : List Loc) (ls : Array Slot), gI cI cS ad SS_746e w → va_P (dC, dI) vwCl ((a_g, .inl (cI, 38, .inl ga_746e)) :: (a_k, .inl (cI, 38, .inl ka_718e)) :: w) H → va_D (fun q : Nat => s.heap.size ≤ q) ((a_g, .inl (cI, 38, .inl ga_746e)) :: (a_k, .inl (cI, 38, .inl ka_718e)) :: w) → va_S (fun q : Nat => s.heap.size ≤ q) s.heap H locs → lv_has ls 19 [(0, .ref b), (1, .ref (ad 0)), (2, .ref a_g), (3, .ref a_k), (5, .int (r_22_ga 0)), (6, .int x6_68)] → W p l e room_1 s m #[Value.ref b] below meth c H locs NCELL NSLOT (lw_Z below #[Value.ref b] s) (F0 m 1334 ls [])) : ∀ (n : Nat) (x13_1273 : Int32), it (u1 (L_L_law_1273 r_22_ga r_696 y10_746 ga_746e SS_746e)) n x13_1273 = some () → ∀ (w : va_W) (H : Heap) (locs : List Loc) (ls : Array Slot), gI cI cS ad SS_746e w → va_P (dC, dI) vwCl ((a_g, .inl (cI, 38, .inl ga_746e)) :: (a_k, .inl (cI, 38, .inl ka_718e)) :: w) H → va_D (fun q : Nat => s.heap.size ≤ q) ((a_g, .inl (cI, 38, .inl ga_746e)) :: (a_k, .inl (cI, 38, .inl ka_718e)) :: w) → va_S (fun q : Nat => s.heap.size ≤ q) s.heap H locs → lv_has ls 19 [(0, .ref b), (1, .ref (ad 0)), (2, .ref a_g), (3, .ref a_k), (5, .int (r_22_ga 0)), (6, .int x6_68), (9, .int r_696), (10, .int y10_746), (12, .int ((-100 : Int32) - y10_746)), (13, .int x13_1273)] → W p l e room_1 s m #[Value.ref b] below meth c H locs NCELL NSLOT (lw_Z below #[Value.ref b] s) (F0 m 1273 ls []) := by
  obtain ⟨hx, hb, hr, hml, hown, hts0, hX, hbl, hlocks, hgv⟩ := id C0
  have hts : ∀ w ∈ wsL_law, w.before #[Value.ref b] s = true := fun w h => hts0 w (wsL_law_in w h)
  have hbA : ¬ (fun q : Nat => s.heap.size ≤ q) b := Nat.not_le.mpr hbl
  intro n
  induction n with
  | zero => intro x13_1273 h2 w H locs ls hI hP hD hS hl; exact (it_0 h2).elim
  | succ n ih_1273 =>
    intro x13_1273 h2 w H locs ls hI hP hD hS hl
    obtain ⟨t_1273, h2, k2⟩ := it1_inv h2
    unfold L_L_law_1273 at h2
    refine lv_iload hx hb dL_law_1273 (lv_at hl 9 rfl) ?_
    refine lv_bipush (v := 6) hx hb dL_law_1275 (by decide) ?_
    refine lv_icmp_ge (tgt := 1334) hx hb dL_law_1277 (by decide) (fun c_1277 => ?_) (fun c_1277 => ?_)
    · have h2 := hp_pos c_1277 h2
      cases h2
      exact after_1273 _ _ _ _ hI hP hD hS (lv_sub hl [0, 1, 2, 3, 4, 5] rfl)
    · have h2 := hp_neg c_1277 h2
      refine lv_aload_n hx hb dL_law_1280 rfl (lv_at hl 1 rfl) ?_
      refine lv_iconst (v := 1) hx hb dL_law_1281 (by decide) ?_
      refine lv_iconst (v := 1) hx hb dL_law_1282 (by decide) ?_
      refine lv_iconst (v := 4) hx hb dL_law_1283 (by decide) ?_
      refine lv_iload hx hb dL_law_1284 (lv_at hl 6 rfl) ?_
      refine lv_bipush (v := 10) hx hb dL_law_1286 (by decide) ?_
      refine lv_iload hx hb dL_law_1288 (lv_at hl 9 rfl) ?_
      refine lv_iadd hx hb dL_law_1290 ?_
      obtain ⟨r_1291, e_1291, h2⟩ := ob1_inv h2
      refine k_GVi (pre := [(a_g, .inl (cI, 38, .inl ga_746e)), (a_k, .inl (cI, 38, .inl ka_718e))]) (rest := []) ⟨hx, hb, hml, hown, hts⟩ (A_X4_day l dC dI cI cS ad e_1291) (cwV 5 hts gL_law_X4_day rfl rfl rfl khd_X4_day ⟨(Nat.le_of_ble_eq_true rfl), (Nat.le_of_ble_eq_true rfl)⟩) hK hN hI hP hD hS rfl hl.1 rfl (Nat.le_of_ble_eq_true rfl) dL_law_1291 ⟨(Nat.le_of_ble_eq_true rfl), (Nat.le_of_ble_eq_true rfl)⟩ (fun H locs w hI hP hD hS => ?_)
      have hP : va_P (dC, dI) vwCl ((a_g, .inl (cI, 38, .inl ga_746e)) :: (a_k, .inl (cI, 38, .inl ka_718e)) :: w) H := hP
      have hD : va_D (fun q : Nat => s.heap.size ≤ q) ((a_g, .inl (cI, 38, .inl ga_746e)) :: (a_k, .inl (cI, 38, .inl ka_718e)) :: w) := hD
      refine lv_iload hx hb dL_law_1294 (lv_at hl 7 rfl) ?_
      obtain ⟨u0_1323, i_1323, h2⟩ := ob1_inv h2
      have after_1323 : ∀ (w : va_W) (H : Heap) (locs : List Loc) (ls : Array Slot), gI cI cS ad SS_746e w → va_P (dC, dI) vwCl ((a_g, .inl (cI, 38, .inl ga_746e)) :: (a_k, .inl (cI, 38, .inl ka_718e)) :: w) H → va_D (fun q : Nat => s.heap.size ≤ q) ((a_g, .inl (cI, 38, .inl ga_746e)) :: (a_k, .inl (cI, 38, .inl ka_718e)) :: w) → va_S (fun q : Nat => s.heap.size ≤ q) s.heap H locs → lv_has ls 19 [(0, .ref b), (1, .ref (ad 0)), (2, .ref a_g), (3, .ref a_k), (5, .int (r_22_ga 0)), (6, .int x6_68), (9, .int r_696), (10, .int y10_746), (12, .int ((-100 : Int32) - y10_746)), (13, .int x13_1273)] → W p l e room_1 s m #[Value.ref b] below meth c H locs NCELL NSLOT (lw_Z below #[Value.ref b] s) (F0 m 1323 ls [.int u0_1323, .int r_1291]) := by
        intro w H locs ls hI hP hD hS hl
        refine lv_icmp_eq (tgt := 1328) hx hb dL_law_1323 (by decide) (fun c_1323 => ?_) (fun c_1323 => ?_)
        · have h2 := hp_pos c_1323 h2
          refine lv_iinc (v := (x13_1273 + (1 : Int32))) (lv' := [(13, .int (x13_1273 + (1 : Int32))), (0, .ref b), (1, .ref (ad 0)), (2, .ref a_g), (3, .ref a_k), (5, .int (r_22_ga 0)), (6, .int x6_68), (9, .int r_696), (10, .int y10_746), (12, .int ((-100 : Int32) - y10_746))]) hx hb dL_law_1328 hl (k := 9) rfl rfl (by decide) rfl (fun ls hl => ?_)
          refine lv_goto (tgt := 1273) hx hb dL_law_1331 (by decide) ?_
          cases h2
          exact ih_1273 _ k2 _ _ _ _ hI hP hD hS (lv_sub hl [1, 2, 3, 4, 5, 6, 7, 8, 9, 0] rfl)
        · have h2 := hp_neg c_1323 h2
          cases h2
      have h3 := i_1323
      refine lv_if_lt (tgt := 1304) hx hb dL_law_1296 (by decide) (fun c_1296 => ?_) (fun c_1296 => ?_)
      · have h3 := hp_pos c_1296 h3
        refine lv_iload hx hb dL_law_1304 (lv_at hl 9 rfl) ?_
        refine lv_iload hx hb dL_law_1306 (lv_at hl 4 rfl) ?_
        refine lv_icmp_ge (tgt := 1321) hx hb dL_law_1308 (by decide) (fun c_1308 => ?_) (fun c_1308 => ?_)
        · have h3 := hp_pos c_1308 h3
          refine lv_bipush (v := -9) hx hb dL_law_1321 (by decide) ?_
          obtain rfl := Option.some.inj h3
          exact after_1323 _ _ _ _ hI hP hD hS (lv_sub hl [0, 1, 2, 3, 4, 5, 6, 7, 8, 9] rfl)
        · have h3 := hp_neg c_1308 h3
          refine lv_aload_n hx hb dL_law_1311 rfl (lv_at hl 2 rfl) ?_
          refine lv_bipush (v := 8) hx hb dL_law_1312 (by decide) ?_
          refine lv_iload hx hb dL_law_1314 (lv_at hl 9 rfl) ?_
          refine lv_iadd hx hb dL_law_1316 ?_
          have g_1317 := hg_no h3
          have h3 := hg_yes h3
          refine va_iald (D := (dC, dI)) hx hb hK hP 0 0 rfl rfl g_1317 dL_law_1317 ?_
          refine lv_goto (tgt := 1323) hx hb dL_law_1318 (by decide) ?_
          obtain rfl := Option.some.inj h3
          exact after_1323 _ _ _ _ hI hP hD hS (lv_sub hl [0, 1, 2, 3, 4, 5, 6, 7, 8, 9] rfl)
      · have h3 := hp_neg c_1296 h3
        refine lv_iload hx hb dL_law_1299 (lv_at hl 8 rfl) ?_
        refine lv_goto (tgt := 1323) hx hb dL_law_1301 (by decide) ?_
        obtain rfl := Option.some.inj h3
        exact after_1323 _ _ _ _ hI hP hD hS (lv_sub hl [0, 1, 2, 3, 4, 5, 6, 7, 8, 9] rfl)
set_option maxHeartbeats 32000000 in
set_option maxRecDepth 100000 in
theorem lq_1103 (C0 : lw_At p s m meth c b L xs) (hK : va_K (dC, dI) vwCl (tyW cI cS) s) (hN : Nst s) {r_22_ga : Nat → Int32} {x6_68 : Int32} {r_696 : Int32} {ka_718e : Nat → Int32} {y10_746 : Int32} {ga_746e : Nat → Int32} {SS_746e : SG} {y11_1103 : Int32} (after_1103 : ∀ (w : va_W) (H : Heap) (locs : List Loc) (ls : Array Slot), gI cI cS ad SS_746e w → va_P (dC, dI) vwCl ((a_g, .inl (cI, 38, .inl ga_746e)) :: (a_k, .inl (cI, 38, .inl ka_718e)) :: w) H → va_D (fun q : Nat => s.heap.size ≤ q) ((a_g, .inl (cI, 38, .inl ga_746e)) :: (a_k, .inl (cI, 38, .inl ka_718e)) :: w) → va_S (fun q : Nat => s.heap.size ≤ q) s.heap H locs → lv_has ls 19 [(0, .ref b), (1, .ref (ad 0)), (2, .ref a_g), (3, .ref a_k), (5, .int (r_22_ga 0)), (6, .int x6_68), (9, .int r_696), (10, .int y10_746), (11, .int y11_1103)] → W p l e room_1 s m #[Value.ref b] below meth c H locs NCELL NSLOT (lw_Z below #[Value.ref b] s) (F0 m 1135 ls [])) : ∀ (n : Nat) (x11_1103 : Int32) (x12_1103 : Int32), it (u2 (L_L_law_1103 r_22_ga ga_746e)) n (x11_1103, x12_1103) = some y11_1103 → ∀ (w : va_W) (H : Heap) (locs : List Loc) (ls : Array Slot), gI cI cS ad SS_746e w → va_P (dC, dI) vwCl ((a_g, .inl (cI, 38, .inl ga_746e)) :: (a_k, .inl (cI, 38, .inl ka_718e)) :: w) H → va_D (fun q : Nat => s.heap.size ≤ q) ((a_g, .inl (cI, 38, .inl ga_746e)) :: (a_k, .inl (cI, 38, .inl ka_718e)) :: w) → va_S (fun q : Nat => s.heap.size ≤ q) s.heap H locs → lv_has ls 19 [(0, .ref b), (1, .ref (ad 0)), (2, .ref a_g), (3, .ref a_k), (5, .int (r_22_ga 0)), (6, .int x6_68), (9, .int r_696), (10, .int y10_746), (11, .int x11_1103), (12, .int x12_1103)] → W p l e room_1 s m #[Value.ref b] below meth c H locs NCELL NSLOT (lw_Z below #[Value.ref b] s) (F0 m 1103 ls []) := by
  obtain ⟨hx, hb, hr, hml, hown, hts0, hX, hbl, hlocks, hgv⟩ := id C0
  have hts : ∀ w ∈ wsL_law, w.before #[Value.ref b] s = true := fun w h => hts0 w (wsL_law_in w h)
  have hbA : ¬ (fun q : Nat => s.heap.size ≤ q) b := Nat.not_le.mpr hbl
  intro n
  induction n with
  | zero => intro x11_1103 x12_1103 h2 w H locs ls hI hP hD hS hl; exact (it_0 h2).elim
  | succ n ih_1103 =>
    intro x11_1103 x12_1103 h2 w H locs ls hI hP hD hS hl
    obtain ⟨t_1103, h2, k2⟩ := it2_inv h2
    unfold L_L_law_1103 at h2
    refine lv_iload hx hb dL_law_1103 (lv_at hl 9 rfl) ?_
    refine lv_iload hx hb dL_law_1105 (lv_at hl 4 rfl) ?_
    refine lv_icmp_ge (tgt := 1135) hx hb dL_law_1107 (by decide) (fun c_1107 => ?_) (fun c_1107 => ?_)
    · have h2 := hp_pos c_1107 h2
      cases h2
      obtain rfl := pj1 k2
      exact after_1103 _ _ _ _ hI hP hD hS (lv_sub hl [0, 1, 2, 3, 4, 5, 6, 7, 8] rfl)
    · have h2 := hp_neg c_1107 h2
      refine lv_aload_n hx hb dL_law_1110 rfl (lv_at hl 2 rfl) ?_
      refine lv_iload hx hb dL_law_1111 (lv_at hl 9 rfl) ?_
      obtain ⟨r_1113, e_1113, h2⟩ := ob1_inv h2
      refine k_pSi (rest := []) ⟨hx, hb, hml, hown, hts⟩ (c_L_lock l dC dI cI cS a_g e_1113) (va_cwS 2 hts gL_law_L_lock rfl rfl rfl khd_L_lock.2 ⟨(Nat.le_of_ble_eq_true rfl), (Nat.le_of_ble_eq_true rfl)⟩) hK hN hP hD hS [0] rfl rfl rfl hl.1 rfl (Nat.le_of_ble_eq_true rfl) dL_law_1113 ⟨(Nat.le_of_ble_eq_true rfl), (Nat.le_of_ble_eq_true rfl)⟩ (fun H locs hf_1113 hP hS => ?_)
      have hP : va_P (dC, dI) vwCl ((a_g, .inl (cI, 38, .inl ga_746e)) :: (a_k, .inl (cI, 38, .inl ka_718e)) :: w) H := hP
      refine lv_iload hx hb dL_law_1116 (lv_at hl 8 rfl) ?_
      refine lv_icmp_le (tgt := 1129) hx hb dL_law_1118 (by decide) (fun c_1118 => ?_) (fun c_1118 => ?_)
      · have h2 := hp_pos c_1118 h2
        refine lv_iinc (v := (x12_1103 + (1 : Int32))) (lv' := [(12, .int (x12_1103 + (1 : Int32))), (0, .ref b), (1, .ref (ad 0)), (2, .ref a_g), (3, .ref a_k), (5, .int (r_22_ga 0)), (6, .int x6_68), (9, .int r_696), (10, .int y10_746), (11, .int x11_1103)]) hx hb dL_law_1129 hl (k := 9) rfl rfl (by decide) rfl (fun ls hl => ?_)
        refine lv_goto (tgt := 1103) hx hb dL_law_1132 (by decide) ?_
        cases h2
        exact ih_1103 _ _ k2 _ _ _ _ hI hP hD hS (lv_sub hl [1, 2, 3, 4, 5, 6, 7, 8, 9, 0] rfl)
      · have h2 := hp_neg c_1118 h2
        refine lv_aload_n hx hb dL_law_1121 rfl (lv_at hl 2 rfl) ?_
        refine lv_iload hx hb dL_law_1122 (lv_at hl 9 rfl) ?_
        obtain ⟨r_1124, e_1124, h2⟩ := ob1_inv h2
        refine k_pSi (rest := []) ⟨hx, hb, hml, hown, hts⟩ (c_L_lock l dC dI cI cS a_g e_1124) (va_cwS 2 hts gL_law_L_lock rfl rfl rfl khd_L_lock.2 ⟨(Nat.le_of_ble_eq_true rfl), (Nat.le_of_ble_eq_true rfl)⟩) hK hN hP hD hS [0] rfl rfl rfl hl.1 rfl (Nat.le_of_ble_eq_true rfl) dL_law_1124 ⟨(Nat.le_of_ble_eq_true rfl), (Nat.le_of_ble_eq_true rfl)⟩ (fun H locs hf_1124 hP hS => ?_)
        have hP : va_P (dC, dI) vwCl ((a_g, .inl (cI, 38, .inl ga_746e)) :: (a_k, .inl (cI, 38, .inl ka_718e)) :: w) H := hP
        refine lv_istore (lv' := [(11, .int r_1124), (0, .ref b), (1, .ref (ad 0)), (2, .ref a_g), (3, .ref a_k), (5, .int (r_22_ga 0)), (6, .int x6_68), (9, .int r_696), (10, .int y10_746), (12, .int x12_1103)]) hx hb dL_law_1127 hl (by decide) rfl (fun ls hl => ?_)
        refine lv_iinc (v := (x12_1103 + (1 : Int32))) (lv' := [(12, .int (x12_1103 + (1 : Int32))), (11, .int r_1124), (0, .ref b), (1, .ref (ad 0)), (2, .ref a_g), (3, .ref a_k), (5, .int (r_22_ga 0)), (6, .int x6_68), (9, .int r_696), (10, .int y10_746)]) hx hb dL_law_1129 hl (k := 9) rfl rfl (by decide) rfl (fun ls hl => ?_)
        refine lv_goto (tgt := 1103) hx hb dL_law_1132 (by decide) ?_
        cases h2
        exact ih_1103 _ _ k2 _ _ _ _ hI hP hD hS (lv_sub hl [2, 3, 4, 5, 6, 7, 8, 9, 1, 0] rfl)
set_option maxHeartbeats 32000000 in
set_option maxRecDepth 100000 in
theorem lq_877 (C0 : lw_At p s m meth c b L xs) (hK : va_K (dC, dI) vwCl (tyW cI cS) s) (hN : Nst s) {r_22_ga : Nat → Int32} {x6_68 : Int32} {r_696 : Int32} {ka_718e : Nat → Int32} {x10_746 : Int32} {x11_746 : Int32} {ga_746 : Nat → Int32} {SS_746 : SG} {r_759 : Int32} {v14_853 : Int32} {y13_877 : Int32} {y15_877 : Int32} (after_877 : ∀ (w : va_W) (H : Heap) (locs : List Loc) (ls : Array Slot), gI cI cS ad SS_746 w → va_P (dC, dI) vwCl ((a_g, .inl (cI, 38, .inl ga_746)) :: (a_k, .inl (cI, 38, .inl ka_718e)) :: w) H → va_D (fun q : Nat => s.heap.size ≤ q) ((a_g, .inl (cI, 38, .inl ga_746)) :: (a_k, .inl (cI, 38, .inl ka_718e)) :: w) → va_S (fun q : Nat => s.heap.size ≤ q) s.heap H locs → lv_has ls 19 [(0, .ref b), (1, .ref (ad 0)), (2, .ref a_g), (3, .ref a_k), (5, .int (r_22_ga 0)), (6, .int x6_68), (9, .int r_696), (10, .int x10_746), (11, .int x11_746), (13, .int y13_877), (14, .int v14_853), (15, .int y15_877)] → W p l e room_1 s m #[Value.ref b] below meth c H locs NCELL NSLOT (lw_Z below #[Value.ref b] s) (F0 m 963 ls [])) : ∀ (n : Nat) (x13_877 : Int32) (x15_877 : Int32) (x16_877 : Int32), it (u3 (L_L_law_877 r_22_ga x11_746 ga_746 r_759 v14_853)) n (x13_877, x15_877, x16_877) = some (y13_877, y15_877) → ∀ (w : va_W) (H : Heap) (locs : List Loc) (ls : Array Slot), gI cI cS ad SS_746 w → va_P (dC, dI) vwCl ((a_g, .inl (cI, 38, .inl ga_746)) :: (a_k, .inl (cI, 38, .inl ka_718e)) :: w) H → va_D (fun q : Nat => s.heap.size ≤ q) ((a_g, .inl (cI, 38, .inl ga_746)) :: (a_k, .inl (cI, 38, .inl ka_718e)) :: w) → va_S (fun q : Nat => s.heap.size ≤ q) s.heap H locs → lv_has ls 19 [(0, .ref b), (1, .ref (ad 0)), (2, .ref a_g), (3, .ref a_k), (5, .int (r_22_ga 0)), (6, .int x6_68), (9, .int r_696), (10, .int x10_746), (11, .int x11_746), (12, .int (r_759 >>> (x11_746 &&& 31))), (13, .int x13_877), (14, .int v14_853), (15, .int x15_877), (16, .int x16_877)] → W p l e room_1 s m #[Value.ref b] below meth c H locs NCELL NSLOT (lw_Z below #[Value.ref b] s) (F0 m 877 ls []) := by
  obtain ⟨hx, hb, hr, hml, hown, hts0, hX, hbl, hlocks, hgv⟩ := id C0
  have hts : ∀ w ∈ wsL_law, w.before #[Value.ref b] s = true := fun w h => hts0 w (wsL_law_in w h)
  have hbA : ¬ (fun q : Nat => s.heap.size ≤ q) b := Nat.not_le.mpr hbl
  intro n
  induction n with
  | zero => intro x13_877 x15_877 x16_877 h3 w H locs ls hI hP hD hS hl; exact (it_0 h3).elim
  | succ n ih_877 =>
    intro x13_877 x15_877 x16_877 h3 w H locs ls hI hP hD hS hl
    obtain ⟨t_877, h3, k3⟩ := it3_inv h3
    unfold L_L_law_877 at h3
    refine lv_iload hx hb dL_law_877 (lv_at hl 13 rfl) ?_
    refine lv_bipush (v := 9) hx hb dL_law_879 (by decide) ?_
    refine lv_icmp_ge (tgt := 963) hx hb dL_law_881 (by decide) (fun c_881 => ?_) (fun c_881 => ?_)
    · have h3 := hp_pos c_881 h3
      cases h3
      obtain ⟨rfl, rfl⟩ := pj2 k3
      exact after_877 _ _ _ _ hI hP hD hS (lv_sub hl [0, 1, 2, 3, 4, 5, 6, 7, 8, 10, 11, 12] rfl)
    · have h3 := hp_neg c_881 h3
      refine lv_iload hx hb dL_law_884 (lv_at hl 9 rfl) ?_
      refine lv_iconst (v := 3) hx hb dL_law_886 (by decide) ?_
      refine lv_ishr hx hb dL_law_887 ?_
      refine lv_bipush (v := 15) hx hb dL_law_888 (by decide) ?_
      obtain ⟨r_890, e_890, h3⟩ := ob1_inv h3
      refine k_pSi (rest := []) ⟨hx, hb, hml, hown, hts⟩ (c_L_some l dC dI cI cS e_890) (va_cwS 2 hts gL_law_L_some rfl rfl rfl khd_L_some.2 ⟨(Nat.le_of_ble_eq_true rfl), (Nat.le_of_ble_eq_true rfl)⟩) hK hN hP hD hS [] rfl rfl rfl hl.1 rfl (Nat.le_of_ble_eq_true rfl) dL_law_890 ⟨(Nat.le_of_ble_eq_true rfl), (Nat.le_of_ble_eq_true rfl)⟩ (fun H locs hf_890 hP hS => ?_)
      have hP : va_P (dC, dI) vwCl ((a_g, .inl (cI, 38, .inl ga_746)) :: (a_k, .inl (cI, 38, .inl ka_718e)) :: w) H := hP
      refine lv_if_le (tgt := 963) hx hb dL_law_893 (by decide) (fun c_893 => ?_) (fun c_893 => ?_)
      · have h3 := hp_pos c_893 h3
        cases h3
        obtain ⟨rfl, rfl⟩ := pj2 k3
        exact after_877 _ _ _ _ hI hP hD hS (lv_sub hl [0, 1, 2, 3, 4, 5, 6, 7, 8, 10, 11, 12] rfl)
      · have h3 := hp_neg c_893 h3
        refine lv_iload hx hb dL_law_896 (lv_at hl 12 rfl) ?_
        refine lv_istore (lv' := [(17, .int x15_877), (0, .ref b), (1, .ref (ad 0)), (2, .ref a_g), (3, .ref a_k), (5, .int (r_22_ga 0)), (6, .int x6_68), (9, .int r_696), (10, .int x10_746), (11, .int x11_746), (12, .int (r_759 >>> (x11_746 &&& 31))), (13, .int x13_877), (14, .int v14_853), (15, .int x15_877), (16, .int x16_877)]) hx hb dL_law_898 hl (by decide) rfl (fun ls hl => ?_)
        refine lv_aload_n hx hb dL_law_900 rfl (lv_at hl 3 rfl) ?_
        refine lv_iload hx hb dL_law_901 (lv_at hl 11 rfl) ?_
        refine lv_iload hx hb dL_law_903 (lv_at hl 12 rfl) ?_
        refine lv_iload hx hb dL_law_905 (lv_at hl 13 rfl) ?_
        obtain ⟨r_907, e_907, h3⟩ := ob1_inv h3
        refine k_pSi (rest := []) ⟨hx, hb, hml, hown, hts⟩ (c_L_can l dC dI cI cS a_g e_907) (va_cwS 4 hts gL_law_L_can rfl rfl rfl khd_L_can.2 ⟨(Nat.le_of_ble_eq_true rfl), (Nat.le_of_ble_eq_true rfl)⟩) hK hN hP hD hS [0] rfl rfl rfl hl.1 rfl (Nat.le_of_ble_eq_true rfl) dL_law_907 ⟨(Nat.le_of_ble_eq_true rfl), (Nat.le_of_ble_eq_true rfl)⟩ (fun H locs hf_907 hP hS => ?_)
        have hP : va_P (dC, dI) vwCl ((a_g, .inl (cI, 38, .inl ga_746)) :: (a_k, .inl (cI, 38, .inl ka_718e)) :: w) H := hP
        refine lv_istore (lv' := [(18, .int r_907), (17, .int x15_877), (0, .ref b), (1, .ref (ad 0)), (2, .ref a_g), (3, .ref a_k), (5, .int (r_22_ga 0)), (6, .int x6_68), (9, .int r_696), (10, .int x10_746), (11, .int x11_746), (12, .int (r_759 >>> (x11_746 &&& 31))), (13, .int x13_877), (14, .int v14_853), (15, .int x15_877), (16, .int x16_877)]) hx hb dL_law_910 hl (by decide) rfl (fun ls hl => ?_)
        refine lv_iload hx hb dL_law_912 (lv_at hl 0 rfl) ?_
        refine lv_if_eq (tgt := 920) hx hb dL_law_914 (by decide) (fun c_914 => ?_) (fun c_914 => ?_)
        · have h3 := hp_pos c_914 h3
          refine lv_iload hx hb dL_law_920 (lv_at hl 12 rfl) ?_
          refine lv_iconst (v := 1) hx hb dL_law_922 (by decide) ?_
          obtain ⟨v15_947, i_947, h3⟩ := ob1_inv h3
          have after_947 : ∀ (w : va_W) (H : Heap) (locs : List Loc) (ls : Array Slot), gI cI cS ad SS_746 w → va_P (dC, dI) vwCl ((a_g, .inl (cI, 38, .inl ga_746)) :: (a_k, .inl (cI, 38, .inl ka_718e)) :: w) H → va_D (fun q : Nat => s.heap.size ≤ q) ((a_g, .inl (cI, 38, .inl ga_746)) :: (a_k, .inl (cI, 38, .inl ka_718e)) :: w) → va_S (fun q : Nat => s.heap.size ≤ q) s.heap H locs → lv_has ls 19 [(0, .ref b), (1, .ref (ad 0)), (2, .ref a_g), (3, .ref a_k), (5, .int (r_22_ga 0)), (6, .int x6_68), (9, .int r_696), (10, .int x10_746), (11, .int x11_746), (12, .int (r_759 >>> (x11_746 &&& 31))), (13, .int x13_877), (14, .int v14_853), (15, .int v15_947), (16, .int x16_877)] → W p l e room_1 s m #[Value.ref b] below meth c H locs NCELL NSLOT (lw_Z below #[Value.ref b] s) (F0 m 947 ls []) := by
            intro w H locs ls hI hP hD hS hl
            refine lv_iload hx hb dL_law_947 (lv_at hl 13 rfl) ?_
            refine lv_bipush (v := 6) hx hb dL_law_949 (by decide) ?_
            refine lv_icmp_le (tgt := 957) hx hb dL_law_951 (by decide) (fun c_951 => ?_) (fun c_951 => ?_)
            · have h3 := hp_pos c_951 h3
              refine lv_iinc (v := (x16_877 + (1 : Int32))) (lv' := [(16, .int (x16_877 + (1 : Int32))), (0, .ref b), (1, .ref (ad 0)), (2, .ref a_g), (3, .ref a_k), (5, .int (r_22_ga 0)), (6, .int x6_68), (9, .int r_696), (10, .int x10_746), (11, .int x11_746), (12, .int (r_759 >>> (x11_746 &&& 31))), (13, .int x13_877), (14, .int v14_853), (15, .int v15_947)]) hx hb dL_law_957 hl (k := 13) rfl rfl (by decide) rfl (fun ls hl => ?_)
              refine lv_goto (tgt := 877) hx hb dL_law_960 (by decide) ?_
              cases h3
              exact ih_877 _ _ _ k3 _ _ _ _ hI hP hD hS (lv_sub hl [1, 2, 3, 4, 5, 6, 7, 8, 9, 10, 11, 12, 13, 0] rfl)
            · have h3 := hp_neg c_951 h3
              refine lv_iconst (v := 0) hx hb dL_law_954 (by decide) ?_
              refine lv_istore (lv' := [(13, .int (0 : Int32)), (0, .ref b), (1, .ref (ad 0)), (2, .ref a_g), (3, .ref a_k), (5, .int (r_22_ga 0)), (6, .int x6_68), (9, .int r_696), (10, .int x10_746), (11, .int x11_746), (12, .int (r_759 >>> (x11_746 &&& 31))), (14, .int v14_853), (15, .int v15_947), (16, .int x16_877)]) hx hb dL_law_955 hl (by decide) rfl (fun ls hl => ?_)
              refine lv_iinc (v := (x16_877 + (1 : Int32))) (lv' := [(16, .int (x16_877 + (1 : Int32))), (13, .int (0 : Int32)), (0, .ref b), (1, .ref (ad 0)), (2, .ref a_g), (3, .ref a_k), (5, .int (r_22_ga 0)), (6, .int x6_68), (9, .int r_696), (10, .int x10_746), (11, .int x11_746), (12, .int (r_759 >>> (x11_746 &&& 31))), (14, .int v14_853), (15, .int v15_947)]) hx hb dL_law_957 hl (k := 13) rfl rfl (by decide) rfl (fun ls hl => ?_)
              refine lv_goto (tgt := 877) hx hb dL_law_960 (by decide) ?_
              cases h3
              exact ih_877 _ _ _ k3 _ _ _ _ hI hP hD hS (lv_sub hl [2, 3, 4, 5, 6, 7, 8, 9, 10, 11, 1, 12, 13, 0] rfl)
          have h4 := i_947
          refine lv_icmp_ne (tgt := 933) hx hb dL_law_923 (by decide) (fun c_923 => ?_) (fun c_923 => ?_)
          · have h4 := hp_neg c_923 h4
            refine lv_iload hx hb dL_law_933 (lv_at hl 1 rfl) ?_
            refine lv_iconst (v := 1) hx hb dL_law_935 (by decide) ?_
            refine lv_iadd hx hb dL_law_936 ?_
            refine lv_iload hx hb dL_law_937 (lv_at hl 15 rfl) ?_
            refine lv_iadd hx hb dL_law_939 ?_
            refine lv_iload hx hb dL_law_940 (lv_at hl 6 rfl) ?_
            obtain ⟨r_942, e_942, h4⟩ := ob1_inv h4
            refine k_pSi (rest := []) ⟨hx, hb, hml, hown, hts⟩ (c_L_some l dC dI cI cS e_942) (va_cwS 2 hts gL_law_L_some rfl rfl rfl khd_L_some.2 ⟨(Nat.le_of_ble_eq_true rfl), (Nat.le_of_ble_eq_true rfl)⟩) hK hN hP hD hS [] rfl rfl rfl hl.1 rfl (Nat.le_of_ble_eq_true rfl) dL_law_942 ⟨(Nat.le_of_ble_eq_true rfl), (Nat.le_of_ble_eq_true rfl)⟩ (fun H locs hf_942 hP hS => ?_)
            have hP : va_P (dC, dI) vwCl ((a_g, .inl (cI, 38, .inl ga_746)) :: (a_k, .inl (cI, 38, .inl ka_718e)) :: w) H := hP
            refine lv_istore (lv' := [(15, .int r_942), (18, .int r_907), (17, .int x15_877), (0, .ref b), (1, .ref (ad 0)), (2, .ref a_g), (3, .ref a_k), (5, .int (r_22_ga 0)), (6, .int x6_68), (9, .int r_696), (10, .int x10_746), (11, .int x11_746), (12, .int (r_759 >>> (x11_746 &&& 31))), (13, .int x13_877), (14, .int v14_853), (16, .int x16_877)]) hx hb dL_law_945 hl (by decide) rfl (fun ls hl => ?_)
            obtain rfl := Option.some.inj h4
            exact after_947 _ _ _ _ hI hP hD hS (lv_sub hl [3, 4, 5, 6, 7, 8, 9, 10, 11, 12, 13, 14, 0, 15] rfl)
          · have h4 := hp_pos c_923 h4
            refine lv_iload hx hb dL_law_926 (lv_at hl 15 rfl) ?_
            refine lv_bipush (v := 6) hx hb dL_law_928 (by decide) ?_
            refine lv_icmp_ge (tgt := 947) hx hb dL_law_930 (by decide) (fun c_930 => ?_) (fun c_930 => ?_)
            · have h4 := hp_pos c_930 h4
              obtain rfl := Option.some.inj h4
              exact after_947 _ _ _ _ hI hP hD hS (lv_sub hl [2, 3, 4, 5, 6, 7, 8, 9, 10, 11, 12, 13, 14, 15] rfl)
            · have h4 := hp_neg c_930 h4
              refine lv_iload hx hb dL_law_933 (lv_at hl 1 rfl) ?_
              refine lv_iconst (v := 1) hx hb dL_law_935 (by decide) ?_
              refine lv_iadd hx hb dL_law_936 ?_
              refine lv_iload hx hb dL_law_937 (lv_at hl 15 rfl) ?_
              refine lv_iadd hx hb dL_law_939 ?_
              refine lv_iload hx hb dL_law_940 (lv_at hl 6 rfl) ?_
              obtain ⟨r_942, e_942, h4⟩ := ob1_inv h4
              refine k_pSi (rest := []) ⟨hx, hb, hml, hown, hts⟩ (c_L_some l dC dI cI cS e_942) (va_cwS 2 hts gL_law_L_some rfl rfl rfl khd_L_some.2 ⟨(Nat.le_of_ble_eq_true rfl), (Nat.le_of_ble_eq_true rfl)⟩) hK hN hP hD hS [] rfl rfl rfl hl.1 rfl (Nat.le_of_ble_eq_true rfl) dL_law_942 ⟨(Nat.le_of_ble_eq_true rfl), (Nat.le_of_ble_eq_true rfl)⟩ (fun H locs hf_942 hP hS => ?_)
              have hP : va_P (dC, dI) vwCl ((a_g, .inl (cI, 38, .inl ga_746)) :: (a_k, .inl (cI, 38, .inl ka_718e)) :: w) H := hP
              refine lv_istore (lv' := [(15, .int r_942), (18, .int r_907), (17, .int x15_877), (0, .ref b), (1, .ref (ad 0)), (2, .ref a_g), (3, .ref a_k), (5, .int (r_22_ga 0)), (6, .int x6_68), (9, .int r_696), (10, .int x10_746), (11, .int x11_746), (12, .int (r_759 >>> (x11_746 &&& 31))), (13, .int x13_877), (14, .int v14_853), (16, .int x16_877)]) hx hb dL_law_945 hl (by decide) rfl (fun ls hl => ?_)
              obtain rfl := Option.some.inj h4
              exact after_947 _ _ _ _ hI hP hD hS (lv_sub hl [3, 4, 5, 6, 7, 8, 9, 10, 11, 12, 13, 14, 0, 15] rfl)
        · have h3 := hp_neg c_914 h3
          refine lv_goto (tgt := 963) hx hb dL_law_917 (by decide) ?_
          cases h3
          obtain ⟨rfl, rfl⟩ := pj2 k3
          exact after_877 _ _ _ _ hI hP hD hS (lv_sub hl [2, 3, 4, 5, 6, 7, 8, 9, 10, 12, 13, 14] rfl)
set_option maxHeartbeats 32000000 in
set_option maxRecDepth 100000 in
theorem lq_746 (C0 : lw_At p s m meth c b L xs) (hK : va_K (dC, dI) vwCl (tyW cI cS) s) (hN : Nst s) {r_22_ga : Nat → Int32} {x6_68 : Int32} {r_696 : Int32} {ka_718e : Nat → Int32} {y10_746 : Int32} {ga_746e : Nat → Int32} {SS_746e : SG} (after_746 : ∀ (w : va_W) (H : Heap) (locs : List Loc) (ls : Array Slot), gI cI cS ad SS_746e w → va_P (dC, dI) vwCl ((a_g, .inl (cI, 38, .inl ga_746e)) :: (a_k, .inl (cI, 38, .inl ka_718e)) :: w) H → va_D (fun q : Nat => s.heap.size ≤ q) ((a_g, .inl (cI, 38, .inl ga_746e)) :: (a_k, .inl (cI, 38, .inl ka_718e)) :: w) → va_S (fun q : Nat => s.heap.size ≤ q) s.heap H locs → lv_has ls 19 [(0, .ref b), (1, .ref (ad 0)), (2, .ref a_g), (3, .ref a_k), (5, .int (r_22_ga 0)), (6, .int x6_68), (9, .int r_696), (10, .int y10_746)] → W p l e room_1 s m #[Value.ref b] below meth c H locs NCELL NSLOT (lw_Z below #[Value.ref b] s) (F0 m 1097 ls [])) : ∀ (n : Nat) (x10_746 : Int32) (x11_746 : Int32) (ga_746 : Nat → Int32) (SS_746 : SG), it (u4 (L_L_law_746 L xs r_22_ga x6_68 r_696)) n (x10_746, x11_746, ga_746, SS_746) = some (y10_746, ga_746e, SS_746e) → ∀ (w : va_W) (H : Heap) (locs : List Loc) (ls : Array Slot), gI cI cS ad SS_746 w → va_P (dC, dI) vwCl ((a_g, .inl (cI, 38, .inl ga_746)) :: (a_k, .inl (cI, 38, .inl ka_718e)) :: w) H → va_D (fun q : Nat => s.heap.size ≤ q) ((a_g, .inl (cI, 38, .inl ga_746)) :: (a_k, .inl (cI, 38, .inl ka_718e)) :: w) → va_S (fun q : Nat => s.heap.size ≤ q) s.heap H locs → lv_has ls 19 [(0, .ref b), (1, .ref (ad 0)), (2, .ref a_g), (3, .ref a_k), (5, .int (r_22_ga 0)), (6, .int x6_68), (9, .int r_696), (10, .int x10_746), (11, .int x11_746)] → W p l e room_1 s m #[Value.ref b] below meth c H locs NCELL NSLOT (lw_Z below #[Value.ref b] s) (F0 m 746 ls []) := by
  obtain ⟨hx, hb, hr, hml, hown, hts0, hX, hbl, hlocks, hgv⟩ := id C0
  have hts : ∀ w ∈ wsL_law, w.before #[Value.ref b] s = true := fun w h => hts0 w (wsL_law_in w h)
  have hbA : ¬ (fun q : Nat => s.heap.size ≤ q) b := Nat.not_le.mpr hbl
  intro n
  induction n with
  | zero => intro x10_746 x11_746 ga_746 SS_746 h2 w H locs ls hI hP hD hS hl; exact (it_0 h2).elim
  | succ n ih_746 =>
    intro x10_746 x11_746 ga_746 SS_746 h2 w H locs ls hI hP hD hS hl
    obtain ⟨t_746, h2, k2⟩ := it4_inv h2
    unfold L_L_law_746 at h2
    refine lv_iload hx hb dL_law_746 (lv_at hl 8 rfl) ?_
    refine lv_iload hx hb dL_law_748 (lv_at hl 6 rfl) ?_
    refine lv_icmp_ge (tgt := 1097) hx hb dL_law_750 (by decide) (fun c_750 => ?_) (fun c_750 => ?_)
    · have h2 := hp_pos c_750 h2
      cases h2
      obtain ⟨rfl, rfl, rfl⟩ := pj3 k2
      exact after_746 _ _ _ _ hI hP hD hS (lv_sub hl [0, 1, 2, 3, 4, 5, 6, 7] rfl)
    · have h2 := hp_neg c_750 h2
      refine lv_aload_n hx hb dL_law_753 rfl (lv_at hl 0 rfl) ?_
      refine lv_bipush (v := 20) hx hb dL_law_754 (by decide) ?_
      refine lv_iload hx hb dL_law_756 (lv_at hl 5 rfl) ?_
      refine lv_iadd hx hb dL_law_758 ?_
      obtain ⟨r_759, e_759, h2⟩ := ob1_inv h2
      refine k_XSi (rest := []) ⟨hx, hb, hml, hown, hts⟩ (c_L_cell l e_759) (va_cwS 2 hts gL_law_L_cell rfl rfl rfl khd_L_cell.2 ⟨(Nat.le_of_ble_eq_true rfl), (Nat.le_of_ble_eq_true rfl)⟩) (hX.kept (hS.2.1 b hbl hbA)) hP hS rfl hl.1 rfl (Nat.le_of_ble_eq_true rfl) dL_law_759 ⟨(Nat.le_of_ble_eq_true rfl), (Nat.le_of_ble_eq_true rfl)⟩ (fun H locs hP hS => ?_)
      have hP : va_P (dC, dI) vwCl ((a_g, .inl (cI, 38, .inl ga_746)) :: (a_k, .inl (cI, 38, .inl ka_718e)) :: w) H := hP
      refine lv_iload hx hb dL_law_762 (lv_at hl 8 rfl) ?_
      refine lv_ishr hx hb dL_law_764 ?_
      refine lv_istore (lv' := [(12, .int (r_759 >>> (x11_746 &&& 31))), (0, .ref b), (1, .ref (ad 0)), (2, .ref a_g), (3, .ref a_k), (5, .int (r_22_ga 0)), (6, .int x6_68), (9, .int r_696), (10, .int x10_746), (11, .int x11_746)]) hx hb dL_law_765 hl (by decide) rfl (fun ls hl => ?_)
      refine lv_iload hx hb dL_law_767 (lv_at hl 0 rfl) ?_
      refine lv_iconst (v := 3) hx hb dL_law_769 (by decide) ?_
      obtain ⟨r_770, e_770, h2⟩ := ob1_inv h2
      refine k_pSi (rest := []) ⟨hx, hb, hml, hown, hts⟩ (c_L_some l dC dI cI cS e_770) (va_cwS 2 hts gL_law_L_some rfl rfl rfl khd_L_some.2 ⟨(Nat.le_of_ble_eq_true rfl), (Nat.le_of_ble_eq_true rfl)⟩) hK hN hP hD hS [] rfl rfl rfl hl.1 rfl (Nat.le_of_ble_eq_true rfl) dL_law_770 ⟨(Nat.le_of_ble_eq_true rfl), (Nat.le_of_ble_eq_true rfl)⟩ (fun H locs hf_770 hP hS => ?_)
      have hP : va_P (dC, dI) vwCl ((a_g, .inl (cI, 38, .inl ga_746)) :: (a_k, .inl (cI, 38, .inl ka_718e)) :: w) H := hP
      refine lv_istore (lv' := [(13, .int r_770), (12, .int (r_759 >>> (x11_746 &&& 31))), (0, .ref b), (1, .ref (ad 0)), (2, .ref a_g), (3, .ref a_k), (5, .int (r_22_ga 0)), (6, .int x6_68), (9, .int r_696), (10, .int x10_746), (11, .int x11_746)]) hx hb dL_law_773 hl (by decide) rfl (fun ls hl => ?_)
      refine lv_iload hx hb dL_law_775 (lv_at hl 1 rfl) ?_
      refine lv_iconst (v := 2) hx hb dL_law_777 (by decide) ?_
      refine lv_ishr hx hb dL_law_778 ?_
      refine lv_iload hx hb dL_law_779 (lv_at hl 1 rfl) ?_
      refine lv_bipush (v := 6) hx hb dL_law_781 (by decide) ?_
      refine lv_ishr hx hb dL_law_783 ?_
      refine lv_bipush (v := 40) hx hb dL_law_784 (by decide) ?_
      obtain ⟨r_786, e_786, h2⟩ := ob1_inv h2
      refine k_pSi (rest := [.int ((r_759 >>> (x11_746 &&& 31)) >>> ((2 : Int32) &&& 31))]) ⟨hx, hb, hml, hown, hts⟩ (c_L_some l dC dI cI cS e_786) (va_cwS 2 hts gL_law_L_some rfl rfl rfl khd_L_some.2 ⟨(Nat.le_of_ble_eq_true rfl), (Nat.le_of_ble_eq_true rfl)⟩) hK hN hP hD hS [] rfl rfl rfl hl.1 rfl (Nat.le_of_ble_eq_true rfl) dL_law_786 ⟨(Nat.le_of_ble_eq_true rfl), (Nat.le_of_ble_eq_true rfl)⟩ (fun H locs hf_786 hP hS => ?_)
      have hP : va_P (dC, dI) vwCl ((a_g, .inl (cI, 38, .inl ga_746)) :: (a_k, .inl (cI, 38, .inl ka_718e)) :: w) H := hP
      obtain ⟨u0_799, i_799, h2⟩ := ob1_inv h2
      have after_799 : ∀ (w : va_W) (H : Heap) (locs : List Loc) (ls : Array Slot), gI cI cS ad SS_746 w → va_P (dC, dI) vwCl ((a_g, .inl (cI, 38, .inl ga_746)) :: (a_k, .inl (cI, 38, .inl ka_718e)) :: w) H → va_D (fun q : Nat => s.heap.size ≤ q) ((a_g, .inl (cI, 38, .inl ga_746)) :: (a_k, .inl (cI, 38, .inl ka_718e)) :: w) → va_S (fun q : Nat => s.heap.size ≤ q) s.heap H locs → lv_has ls 19 [(0, .ref b), (1, .ref (ad 0)), (2, .ref a_g), (3, .ref a_k), (5, .int (r_22_ga 0)), (6, .int x6_68), (9, .int r_696), (10, .int x10_746), (11, .int x11_746), (12, .int (r_759 >>> (x11_746 &&& 31))), (13, .int r_770)] → W p l e room_1 s m #[Value.ref b] below meth c H locs NCELL NSLOT (lw_Z below #[Value.ref b] s) (F0 m 799 ls [.int u0_799, .int ((r_759 >>> (x11_746 &&& 31)) >>> ((2 : Int32) &&& 31))]) := by
        intro w H locs ls hI hP hD hS hl
        obtain ⟨r_799, e_799, h2⟩ := ob1_inv h2
        refine k_pSi (rest := []) ⟨hx, hb, hml, hown, hts⟩ (c_L_some l dC dI cI cS e_799) (va_cwS 2 hts gL_law_L_some rfl rfl rfl khd_L_some.2 ⟨(Nat.le_of_ble_eq_true rfl), (Nat.le_of_ble_eq_true rfl)⟩) hK hN hP hD hS [] rfl rfl rfl hl.1 rfl (Nat.le_of_ble_eq_true rfl) dL_law_799 ⟨(Nat.le_of_ble_eq_true rfl), (Nat.le_of_ble_eq_true rfl)⟩ (fun H locs hf_799 hP hS => ?_)
        have hP : va_P (dC, dI) vwCl ((a_g, .inl (cI, 38, .inl ga_746)) :: (a_k, .inl (cI, 38, .inl ka_718e)) :: w) H := hP
        refine lv_istore (lv' := [(14, .int r_799), (0, .ref b), (1, .ref (ad 0)), (2, .ref a_g), (3, .ref a_k), (5, .int (r_22_ga 0)), (6, .int x6_68), (9, .int r_696), (10, .int x10_746), (11, .int x11_746), (12, .int (r_759 >>> (x11_746 &&& 31))), (13, .int r_770)]) hx hb dL_law_802 hl (by decide) rfl (fun ls hl => ?_)
        refine lv_iload hx hb dL_law_804 (lv_at hl 10 rfl) ?_
        refine lv_iconst (v := 4) hx hb dL_law_806 (by decide) ?_
        refine lv_ishr hx hb dL_law_807 ?_
        refine lv_iload hx hb dL_law_808 (lv_at hl 10 rfl) ?_
        refine lv_bipush (v := 7) hx hb dL_law_810 (by decide) ?_
        refine lv_ishr hx hb dL_law_812 ?_
        refine lv_bipush (v := 40) hx hb dL_law_813 (by decide) ?_
        obtain ⟨r_815, e_815, h2⟩ := ob1_inv h2
        refine k_pSi (rest := [.int ((r_759 >>> (x11_746 &&& 31)) >>> ((4 : Int32) &&& 31))]) ⟨hx, hb, hml, hown, hts⟩ (c_L_some l dC dI cI cS e_815) (va_cwS 2 hts gL_law_L_some rfl rfl rfl khd_L_some.2 ⟨(Nat.le_of_ble_eq_true rfl), (Nat.le_of_ble_eq_true rfl)⟩) hK hN hP hD hS [] rfl rfl rfl hl.1 rfl (Nat.le_of_ble_eq_true rfl) dL_law_815 ⟨(Nat.le_of_ble_eq_true rfl), (Nat.le_of_ble_eq_true rfl)⟩ (fun H locs hf_815 hP hS => ?_)
        have hP : va_P (dC, dI) vwCl ((a_g, .inl (cI, 38, .inl ga_746)) :: (a_k, .inl (cI, 38, .inl ka_718e)) :: w) H := hP
        obtain ⟨u0_828, i_828, h2⟩ := ob1_inv h2
        have after_828 : ∀ (w : va_W) (H : Heap) (locs : List Loc) (ls : Array Slot), gI cI cS ad SS_746 w → va_P (dC, dI) vwCl ((a_g, .inl (cI, 38, .inl ga_746)) :: (a_k, .inl (cI, 38, .inl ka_718e)) :: w) H → va_D (fun q : Nat => s.heap.size ≤ q) ((a_g, .inl (cI, 38, .inl ga_746)) :: (a_k, .inl (cI, 38, .inl ka_718e)) :: w) → va_S (fun q : Nat => s.heap.size ≤ q) s.heap H locs → lv_has ls 19 [(0, .ref b), (1, .ref (ad 0)), (2, .ref a_g), (3, .ref a_k), (5, .int (r_22_ga 0)), (6, .int x6_68), (9, .int r_696), (10, .int x10_746), (11, .int x11_746), (12, .int (r_759 >>> (x11_746 &&& 31))), (13, .int r_770), (14, .int r_799)] → W p l e room_1 s m #[Value.ref b] below meth c H locs NCELL NSLOT (lw_Z below #[Value.ref b] s) (F0 m 828 ls [.int u0_828, .int ((r_759 >>> (x11_746 &&& 31)) >>> ((4 : Int32) &&& 31))]) := by
          intro w H locs ls hI hP hD hS hl
          obtain ⟨r_828, e_828, h2⟩ := ob1_inv h2
          refine k_pSi (rest := []) ⟨hx, hb, hml, hown, hts⟩ (c_L_some l dC dI cI cS e_828) (va_cwS 2 hts gL_law_L_some rfl rfl rfl khd_L_some.2 ⟨(Nat.le_of_ble_eq_true rfl), (Nat.le_of_ble_eq_true rfl)⟩) hK hN hP hD hS [] rfl rfl rfl hl.1 rfl (Nat.le_of_ble_eq_true rfl) dL_law_828 ⟨(Nat.le_of_ble_eq_true rfl), (Nat.le_of_ble_eq_true rfl)⟩ (fun H locs hf_828 hP hS => ?_)
          have hP : va_P (dC, dI) vwCl ((a_g, .inl (cI, 38, .inl ga_746)) :: (a_k, .inl (cI, 38, .inl ka_718e)) :: w) H := hP
          refine lv_istore (lv' := [(15, .int r_828), (0, .ref b), (1, .ref (ad 0)), (2, .ref a_g), (3, .ref a_k), (5, .int (r_22_ga 0)), (6, .int x6_68), (9, .int r_696), (10, .int x10_746), (11, .int x11_746), (12, .int (r_759 >>> (x11_746 &&& 31))), (13, .int r_770), (14, .int r_799)]) hx hb dL_law_831 hl (by decide) rfl (fun ls hl => ?_)
          refine lv_iload hx hb dL_law_833 (lv_at hl 11 rfl) ?_
          obtain ⟨v14_853, i_853, h2⟩ := ob1_inv h2
          have after_853 : ∀ (w : va_W) (H : Heap) (locs : List Loc) (ls : Array Slot), gI cI cS ad SS_746 w → va_P (dC, dI) vwCl ((a_g, .inl (cI, 38, .inl ga_746)) :: (a_k, .inl (cI, 38, .inl ka_718e)) :: w) H → va_D (fun q : Nat => s.heap.size ≤ q) ((a_g, .inl (cI, 38, .inl ga_746)) :: (a_k, .inl (cI, 38, .inl ka_718e)) :: w) → va_S (fun q : Nat => s.heap.size ≤ q) s.heap H locs → lv_has ls 19 [(0, .ref b), (1, .ref (ad 0)), (2, .ref a_g), (3, .ref a_k), (5, .int (r_22_ga 0)), (6, .int x6_68), (9, .int r_696), (10, .int x10_746), (11, .int x11_746), (12, .int (r_759 >>> (x11_746 &&& 31))), (13, .int r_770), (14, .int v14_853), (15, .int r_828)] → W p l e room_1 s m #[Value.ref b] below meth c H locs NCELL NSLOT (lw_Z below #[Value.ref b] s) (F0 m 853 ls []) := by
            intro w H locs ls hI hP hD hS hl
            refine lv_iload hx hb dL_law_853 (lv_at hl 10 rfl) ?_
            refine lv_iconst (v := 1) hx hb dL_law_855 (by decide) ?_
            obtain ⟨v15_874, i_874, h2⟩ := ob1_inv h2
            have after_874 : ∀ (w : va_W) (H : Heap) (locs : List Loc) (ls : Array Slot), gI cI cS ad SS_746 w → va_P (dC, dI) vwCl ((a_g, .inl (cI, 38, .inl ga_746)) :: (a_k, .inl (cI, 38, .inl ka_718e)) :: w) H → va_D (fun q : Nat => s.heap.size ≤ q) ((a_g, .inl (cI, 38, .inl ga_746)) :: (a_k, .inl (cI, 38, .inl ka_718e)) :: w) → va_S (fun q : Nat => s.heap.size ≤ q) s.heap H locs → lv_has ls 19 [(0, .ref b), (1, .ref (ad 0)), (2, .ref a_g), (3, .ref a_k), (5, .int (r_22_ga 0)), (6, .int x6_68), (9, .int r_696), (10, .int x10_746), (11, .int x11_746), (12, .int (r_759 >>> (x11_746 &&& 31))), (13, .int r_770), (14, .int v14_853), (15, .int v15_874)] → W p l e room_1 s m #[Value.ref b] below meth c H locs NCELL NSLOT (lw_Z below #[Value.ref b] s) (F0 m 874 ls []) := by
              intro w H locs ls hI hP hD hS hl
              refine lv_iconst (v := 0) hx hb dL_law_874 (by decide) ?_
              refine lv_istore (lv' := [(16, .int (0 : Int32)), (0, .ref b), (1, .ref (ad 0)), (2, .ref a_g), (3, .ref a_k), (5, .int (r_22_ga 0)), (6, .int x6_68), (9, .int r_696), (10, .int x10_746), (11, .int x11_746), (12, .int (r_759 >>> (x11_746 &&& 31))), (13, .int r_770), (14, .int v14_853), (15, .int v15_874)]) hx hb dL_law_875 hl (by decide) rfl (fun ls hl => ?_)
              obtain ⟨y13_877, y15_877, i_877, h2⟩ := ob2_inv h2
              have after_877 : ∀ (w : va_W) (H : Heap) (locs : List Loc) (ls : Array Slot), gI cI cS ad SS_746 w → va_P (dC, dI) vwCl ((a_g, .inl (cI, 38, .inl ga_746)) :: (a_k, .inl (cI, 38, .inl ka_718e)) :: w) H → va_D (fun q : Nat => s.heap.size ≤ q) ((a_g, .inl (cI, 38, .inl ga_746)) :: (a_k, .inl (cI, 38, .inl ka_718e)) :: w) → va_S (fun q : Nat => s.heap.size ≤ q) s.heap H locs → lv_has ls 19 [(0, .ref b), (1, .ref (ad 0)), (2, .ref a_g), (3, .ref a_k), (5, .int (r_22_ga 0)), (6, .int x6_68), (9, .int r_696), (10, .int x10_746), (11, .int x11_746), (13, .int y13_877), (14, .int v14_853), (15, .int y15_877)] → W p l e room_1 s m #[Value.ref b] below meth c H locs NCELL NSLOT (lw_Z below #[Value.ref b] s) (F0 m 963 ls []) := by
                intro w H locs ls hI hP hD hS hl
                refine lv_aload_n hx hb dL_law_963 rfl (lv_at hl 1 rfl) ?_
                refine lv_iconst (v := 1) hx hb dL_law_964 (by decide) ?_
                refine lv_iconst (v := 4) hx hb dL_law_965 (by decide) ?_
                refine lv_iconst (v := 3) hx hb dL_law_966 (by decide) ?_
                refine lv_iload hx hb dL_law_967 (lv_at hl 8 rfl) ?_
                refine lv_imul hx hb dL_law_969 ?_
                refine lv_iadd hx hb dL_law_970 ?_
                refine lv_iload hx hb dL_law_971 (lv_at hl 9 rfl) ?_
                obtain ⟨r_973, r_973_S, e_973, h2⟩ := ob2_inv h2
                refine k_GVi (pre := [(a_g, .inl (cI, 38, .inl ga_746)), (a_k, .inl (cI, 38, .inl ka_718e))]) (rest := []) ⟨hx, hb, hml, hown, hts⟩ (A_X4_put l dC dI cI cS ad e_973) (cwV 3 hts gL_law_X4_put rfl rfl rfl khd_X4_put ⟨(Nat.le_of_ble_eq_true rfl), (Nat.le_of_ble_eq_true rfl)⟩) hK hN hI hP hD hS rfl hl.1 rfl (Nat.le_of_ble_eq_true rfl) dL_law_973 ⟨(Nat.le_of_ble_eq_true rfl), (Nat.le_of_ble_eq_true rfl)⟩ (fun H locs w hI hP hD hS => ?_)
                have hP : va_P (dC, dI) vwCl ((a_g, .inl (cI, 38, .inl ga_746)) :: (a_k, .inl (cI, 38, .inl ka_718e)) :: w) H := hP
                have hD : va_D (fun q : Nat => s.heap.size ≤ q) ((a_g, .inl (cI, 38, .inl ga_746)) :: (a_k, .inl (cI, 38, .inl ka_718e)) :: w) := hD
                refine lv_iconst (v := 1) hx hb dL_law_976 (by decide) ?_
                refine lv_icmp_ne (tgt := 1015) hx hb dL_law_977 (by decide) (fun c_977 => ?_) (fun c_977 => ?_)
                · have h2 := hp_neg c_977 h2
                  cases h2
                · have h2 := hp_pos c_977 h2
                  refine lv_aload_n hx hb dL_law_980 rfl (lv_at hl 1 rfl) ?_
                  refine lv_iconst (v := 1) hx hb dL_law_981 (by decide) ?_
                  refine lv_iconst (v := 5) hx hb dL_law_982 (by decide) ?_
                  refine lv_iconst (v := 3) hx hb dL_law_983 (by decide) ?_
                  refine lv_iload hx hb dL_law_984 (lv_at hl 8 rfl) ?_
                  refine lv_imul hx hb dL_law_986 ?_
                  refine lv_iadd hx hb dL_law_987 ?_
                  refine lv_iload hx hb dL_law_988 (lv_at hl 10 rfl) ?_
                  obtain ⟨r_990, r_990_S, e_990, h2⟩ := ob2_inv h2
                  refine k_GVi (pre := [(a_g, .inl (cI, 38, .inl ga_746)), (a_k, .inl (cI, 38, .inl ka_718e))]) (rest := []) ⟨hx, hb, hml, hown, hts⟩ (A_X4_put l dC dI cI cS ad e_990) (cwV 3 hts gL_law_X4_put rfl rfl rfl khd_X4_put ⟨(Nat.le_of_ble_eq_true rfl), (Nat.le_of_ble_eq_true rfl)⟩) hK hN hI hP hD hS rfl hl.1 rfl (Nat.le_of_ble_eq_true rfl) dL_law_990 ⟨(Nat.le_of_ble_eq_true rfl), (Nat.le_of_ble_eq_true rfl)⟩ (fun H locs w hI hP hD hS => ?_)
                  have hP : va_P (dC, dI) vwCl ((a_g, .inl (cI, 38, .inl ga_746)) :: (a_k, .inl (cI, 38, .inl ka_718e)) :: w) H := hP
                  have hD : va_D (fun q : Nat => s.heap.size ≤ q) ((a_g, .inl (cI, 38, .inl ga_746)) :: (a_k, .inl (cI, 38, .inl ka_718e)) :: w) := hD
                  refine lv_iconst (v := 1) hx hb dL_law_993 (by decide) ?_
                  refine lv_icmp_ne (tgt := 1015) hx hb dL_law_994 (by decide) (fun c_994 => ?_) (fun c_994 => ?_)
                  · have h2 := hp_neg c_994 h2
                    cases h2
                  · have h2 := hp_pos c_994 h2
                    refine lv_aload_n hx hb dL_law_997 rfl (lv_at hl 1 rfl) ?_
                    refine lv_iconst (v := 1) hx hb dL_law_998 (by decide) ?_
                    refine lv_bipush (v := 6) hx hb dL_law_999 (by decide) ?_
                    refine lv_iconst (v := 3) hx hb dL_law_1001 (by decide) ?_
                    refine lv_iload hx hb dL_law_1002 (lv_at hl 8 rfl) ?_
                    refine lv_imul hx hb dL_law_1004 ?_
                    refine lv_iadd hx hb dL_law_1005 ?_
                    refine lv_iload hx hb dL_law_1006 (lv_at hl 11 rfl) ?_
                    obtain ⟨r_1008, r_1008_S, e_1008, h2⟩ := ob2_inv h2
                    refine k_GVi (pre := [(a_g, .inl (cI, 38, .inl ga_746)), (a_k, .inl (cI, 38, .inl ka_718e))]) (rest := []) ⟨hx, hb, hml, hown, hts⟩ (A_X4_put l dC dI cI cS ad e_1008) (cwV 3 hts gL_law_X4_put rfl rfl rfl khd_X4_put ⟨(Nat.le_of_ble_eq_true rfl), (Nat.le_of_ble_eq_true rfl)⟩) hK hN hI hP hD hS rfl hl.1 rfl (Nat.le_of_ble_eq_true rfl) dL_law_1008 ⟨(Nat.le_of_ble_eq_true rfl), (Nat.le_of_ble_eq_true rfl)⟩ (fun H locs w hI hP hD hS => ?_)
                    have hP : va_P (dC, dI) vwCl ((a_g, .inl (cI, 38, .inl ga_746)) :: (a_k, .inl (cI, 38, .inl ka_718e)) :: w) H := hP
                    have hD : va_D (fun q : Nat => s.heap.size ≤ q) ((a_g, .inl (cI, 38, .inl ga_746)) :: (a_k, .inl (cI, 38, .inl ka_718e)) :: w) := hD
                    refine lv_iconst (v := 1) hx hb dL_law_1011 (by decide) ?_
                    refine lv_icmp_eq (tgt := 1017) hx hb dL_law_1012 (by decide) (fun c_1012 => ?_) (fun c_1012 => ?_)
                    · have h2 := hp_pos c_1012 h2
                      refine lv_iload hx hb dL_law_1017 (lv_at hl 7 rfl) ?_
                      obtain ⟨v10_1039, i_1039, h2⟩ := ob1_inv h2
                      have after_1039 : ∀ (w : va_W) (H : Heap) (locs : List Loc) (ls : Array Slot), gI cI cS ad r_1008_S w → va_P (dC, dI) vwCl ((a_g, .inl (cI, 38, .inl ga_746)) :: (a_k, .inl (cI, 38, .inl ka_718e)) :: w) H → va_D (fun q : Nat => s.heap.size ≤ q) ((a_g, .inl (cI, 38, .inl ga_746)) :: (a_k, .inl (cI, 38, .inl ka_718e)) :: w) → va_S (fun q : Nat => s.heap.size ≤ q) s.heap H locs → lv_has ls 19 [(0, .ref b), (1, .ref (ad 0)), (2, .ref a_g), (3, .ref a_k), (5, .int (r_22_ga 0)), (6, .int x6_68), (9, .int r_696), (10, .int v10_1039), (11, .int x11_746), (13, .int y13_877), (14, .int v14_853), (15, .int y15_877)] → W p l e room_1 s m #[Value.ref b] below meth c H locs NCELL NSLOT (lw_Z below #[Value.ref b] s) (F0 m 1039 ls []) := by
                        intro w H locs ls hI hP hD hS hl
                        refine lv_iload hx hb dL_law_1039 (lv_at hl 7 rfl) ?_
                        refine lv_if_lt (tgt := 1047) hx hb dL_law_1041 (by decide) (fun c_1041 => ?_) (fun c_1041 => ?_)
                        · have h2 := hp_pos c_1041 h2
                          refine lv_iload hx hb dL_law_1047 (lv_at hl 9 rfl) ?_
                          obtain ⟨ga_1061j, i_1061, h2⟩ := ob1_inv h2
                          have after_1061 : ∀ (w : va_W) (H : Heap) (locs : List Loc) (ls : Array Slot), gI cI cS ad r_1008_S w → va_P (dC, dI) vwCl ((a_g, .inl (cI, 38, .inl ga_1061j)) :: (a_k, .inl (cI, 38, .inl ka_718e)) :: w) H → va_D (fun q : Nat => s.heap.size ≤ q) ((a_g, .inl (cI, 38, .inl ga_1061j)) :: (a_k, .inl (cI, 38, .inl ka_718e)) :: w) → va_S (fun q : Nat => s.heap.size ≤ q) s.heap H locs → lv_has ls 19 [(0, .ref b), (1, .ref (ad 0)), (2, .ref a_g), (3, .ref a_k), (5, .int (r_22_ga 0)), (6, .int x6_68), (9, .int r_696), (10, .int v10_1039), (11, .int x11_746), (13, .int y13_877), (14, .int v14_853), (15, .int y15_877)] → W p l e room_1 s m #[Value.ref b] below meth c H locs NCELL NSLOT (lw_Z below #[Value.ref b] s) (F0 m 1061 ls []) := by
                            intro w H locs ls hI hP hD hS hl
                            refine lv_iload hx hb dL_law_1061 (lv_at hl 9 rfl) ?_
                            refine lv_iconst (v := 1) hx hb dL_law_1063 (by decide) ?_
                            obtain ⟨ga_1076j, i_1076, h2⟩ := ob1_inv h2
                            have after_1076 : ∀ (w : va_W) (H : Heap) (locs : List Loc) (ls : Array Slot), gI cI cS ad r_1008_S w → va_P (dC, dI) vwCl ((a_g, .inl (cI, 38, .inl ga_1076j)) :: (a_k, .inl (cI, 38, .inl ka_718e)) :: w) H → va_D (fun q : Nat => s.heap.size ≤ q) ((a_g, .inl (cI, 38, .inl ga_1076j)) :: (a_k, .inl (cI, 38, .inl ka_718e)) :: w) → va_S (fun q : Nat => s.heap.size ≤ q) s.heap H locs → lv_has ls 19 [(0, .ref b), (1, .ref (ad 0)), (2, .ref a_g), (3, .ref a_k), (5, .int (r_22_ga 0)), (6, .int x6_68), (9, .int r_696), (10, .int v10_1039), (11, .int x11_746), (13, .int y13_877), (14, .int v14_853), (15, .int y15_877)] → W p l e room_1 s m #[Value.ref b] below meth c H locs NCELL NSLOT (lw_Z below #[Value.ref b] s) (F0 m 1076 ls []) := by
                              intro w H locs ls hI hP hD hS hl
                              refine lv_iload hx hb dL_law_1076 (lv_at hl 9 rfl) ?_
                              refine lv_iconst (v := 2) hx hb dL_law_1078 (by decide) ?_
                              refine lv_icmp_ne (tgt := 1091) hx hb dL_law_1079 (by decide) (fun c_1079 => ?_) (fun c_1079 => ?_)
                              · have h2 := hp_neg c_1079 h2
                                refine lv_iinc (v := (x11_746 + (1 : Int32))) (lv' := [(11, .int (x11_746 + (1 : Int32))), (0, .ref b), (1, .ref (ad 0)), (2, .ref a_g), (3, .ref a_k), (5, .int (r_22_ga 0)), (6, .int x6_68), (9, .int r_696), (10, .int v10_1039), (13, .int y13_877), (14, .int v14_853), (15, .int y15_877)]) hx hb dL_law_1091 hl (k := 8) rfl rfl (by decide) rfl (fun ls hl => ?_)
                                refine lv_goto (tgt := 746) hx hb dL_law_1094 (by decide) ?_
                                cases h2
                                exact ih_746 _ _ _ _ k2 _ _ _ _ hI hP hD hS (lv_sub hl [1, 2, 3, 4, 5, 6, 7, 8, 0] rfl)
                              · have h2 := hp_pos c_1079 h2
                                refine lv_aload_n hx hb dL_law_1082 rfl (lv_at hl 2 rfl) ?_
                                refine lv_iload hx hb dL_law_1083 (lv_at hl 10 rfl) ?_
                                refine lv_iload hx hb dL_law_1085 (lv_at hl 11 rfl) ?_
                                obtain ⟨r_1087, r_1087_ga, e_1087, h2⟩ := ob2_inv h2
                                refine k_wSi (rest := []) (ws' := ((a_g, .inl (cI, 38, .inl r_1087_ga)) :: (a_k, .inl (cI, 38, .inl ka_718e)) :: w)) ⟨hx, hb, hml, hown, hts⟩ (c_L_hand l dC dI cI cS a_g e_1087) (va_cwS 3 hts gL_law_L_hand rfl rfl rfl khd_L_hand.2 ⟨(Nat.le_of_ble_eq_true rfl), (Nat.le_of_ble_eq_true rfl)⟩) hK hN hP hD hS [0] rfl rfl rfl hl.1 rfl (Nat.le_of_ble_eq_true rfl) dL_law_1087 ⟨(Nat.le_of_ble_eq_true rfl), (Nat.le_of_ble_eq_true rfl)⟩ rfl rfl (fun H locs hf_1087 hP hS => ?_)
                                have hP : va_P (dC, dI) vwCl ((a_g, .inl (cI, 38, .inl r_1087_ga)) :: (a_k, .inl (cI, 38, .inl ka_718e)) :: w) H := hP
                                have hD : va_D (fun q : Nat => s.heap.size ≤ q) ((a_g, .inl (cI, 38, .inl r_1087_ga)) :: (a_k, .inl (cI, 38, .inl ka_718e)) :: w) := va_D_fst hD rfl
                                refine lv_pop hx hb dL_law_1090 rfl ?_
                                refine lv_iinc (v := (x11_746 + (1 : Int32))) (lv' := [(11, .int (x11_746 + (1 : Int32))), (0, .ref b), (1, .ref (ad 0)), (2, .ref a_g), (3, .ref a_k), (5, .int (r_22_ga 0)), (6, .int x6_68), (9, .int r_696), (10, .int v10_1039), (13, .int y13_877), (14, .int v14_853), (15, .int y15_877)]) hx hb dL_law_1091 hl (k := 8) rfl rfl (by decide) rfl (fun ls hl => ?_)
                                refine lv_goto (tgt := 746) hx hb dL_law_1094 (by decide) ?_
                                cases h2
                                exact ih_746 _ _ _ _ k2 _ _ _ _ hI hP hD hS (lv_sub hl [1, 2, 3, 4, 5, 6, 7, 8, 0] rfl)
                            have h3 := i_1076
                            refine lv_icmp_ne (tgt := 1076) hx hb dL_law_1064 (by decide) (fun c_1064 => ?_) (fun c_1064 => ?_)
                            · have h3 := hp_neg c_1064 h3
                              obtain rfl := Option.some.inj h3
                              exact after_1076 _ _ _ _ hI hP hD hS (lv_sub hl [0, 1, 2, 3, 4, 5, 6, 7, 8, 9, 10, 11] rfl)
                            · have h3 := hp_pos c_1064 h3
                              refine lv_aload_n hx hb dL_law_1067 rfl (lv_at hl 2 rfl) ?_
                              refine lv_bipush (v := 8) hx hb dL_law_1068 (by decide) ?_
                              refine lv_iload hx hb dL_law_1070 (lv_at hl 10 rfl) ?_
                              refine lv_iadd hx hb dL_law_1072 ?_
                              refine lv_iload hx hb dL_law_1073 (lv_at hl 11 rfl) ?_
                              have g_1075 := hg_no h3
                              have h3 := hg_yes h3
                              refine va_iast (D := (dC, dI)) hx hb hK hP hD hS 0 0 rfl rfl g_1075 dL_law_1075 (fun H locs hP hD hS => ?_)
                              have hP : va_P (dC, dI) vwCl ((a_g, .inl (cI, 38, .inl (upd ga_1061j ((8 : Int32) + v14_853).toNatClampNeg y15_877))) :: (a_k, .inl (cI, 38, .inl ka_718e)) :: w) H := hP
                              have hD : va_D (fun q : Nat => s.heap.size ≤ q) ((a_g, .inl (cI, 38, .inl (upd ga_1061j ((8 : Int32) + v14_853).toNatClampNeg y15_877))) :: (a_k, .inl (cI, 38, .inl ka_718e)) :: w) := hD
                              obtain rfl := Option.some.inj h3
                              exact after_1076 _ _ _ _ hI hP hD hS (lv_sub hl [0, 1, 2, 3, 4, 5, 6, 7, 8, 9, 10, 11] rfl)
                          have h3 := i_1061
                          refine lv_if_ne (tgt := 1061) hx hb dL_law_1049 (by decide) (fun c_1049 => ?_) (fun c_1049 => ?_)
                          · have h3 := hp_neg c_1049 h3
                            obtain rfl := Option.some.inj h3
                            exact after_1061 _ _ _ _ hI hP hD hS (lv_sub hl [0, 1, 2, 3, 4, 5, 6, 7, 8, 9, 10, 11] rfl)
                          · have h3 := hp_pos c_1049 h3
                            refine lv_aload_n hx hb dL_law_1052 rfl (lv_at hl 2 rfl) ?_
                            refine lv_iload hx hb dL_law_1053 (lv_at hl 10 rfl) ?_
                            refine lv_iload hx hb dL_law_1055 (lv_at hl 11 rfl) ?_
                            obtain ⟨r_1057, r_1057_ga, e_1057, h3⟩ := ob2_inv h3
                            refine k_wSi (rest := []) (ws' := ((a_g, .inl (cI, 38, .inl r_1057_ga)) :: (a_k, .inl (cI, 38, .inl ka_718e)) :: w)) ⟨hx, hb, hml, hown, hts⟩ (c_L_refer l dC dI cI cS a_g e_1057) (va_cwS 3 hts gL_law_L_refer rfl rfl rfl khd_L_refer.2 ⟨(Nat.le_of_ble_eq_true rfl), (Nat.le_of_ble_eq_true rfl)⟩) hK hN hP hD hS [0] rfl rfl rfl hl.1 rfl (Nat.le_of_ble_eq_true rfl) dL_law_1057 ⟨(Nat.le_of_ble_eq_true rfl), (Nat.le_of_ble_eq_true rfl)⟩ rfl rfl (fun H locs hf_1057 hP hS => ?_)
                            have hP : va_P (dC, dI) vwCl ((a_g, .inl (cI, 38, .inl r_1057_ga)) :: (a_k, .inl (cI, 38, .inl ka_718e)) :: w) H := hP
                            have hD : va_D (fun q : Nat => s.heap.size ≤ q) ((a_g, .inl (cI, 38, .inl r_1057_ga)) :: (a_k, .inl (cI, 38, .inl ka_718e)) :: w) := va_D_fst hD rfl
                            refine lv_pop hx hb dL_law_1060 rfl ?_
                            obtain rfl := Option.some.inj h3
                            exact after_1061 _ _ _ _ hI hP hD hS (lv_sub hl [0, 1, 2, 3, 4, 5, 6, 7, 8, 9, 10, 11] rfl)
                        · have h2 := hp_neg c_1041 h2
                          refine lv_goto (tgt := 1091) hx hb dL_law_1044 (by decide) ?_
                          refine lv_iinc (v := (x11_746 + (1 : Int32))) (lv' := [(11, .int (x11_746 + (1 : Int32))), (0, .ref b), (1, .ref (ad 0)), (2, .ref a_g), (3, .ref a_k), (5, .int (r_22_ga 0)), (6, .int x6_68), (9, .int r_696), (10, .int v10_1039), (13, .int y13_877), (14, .int v14_853), (15, .int y15_877)]) hx hb dL_law_1091 hl (k := 8) rfl rfl (by decide) rfl (fun ls hl => ?_)
                          refine lv_goto (tgt := 746) hx hb dL_law_1094 (by decide) ?_
                          cases h2
                          exact ih_746 _ _ _ _ k2 _ _ _ _ hI hP hD hS (lv_sub hl [1, 2, 3, 4, 5, 6, 7, 8, 0] rfl)
                      have h3 := i_1039
                      refine lv_if_ge (tgt := 1039) hx hb dL_law_1019 (by decide) (fun c_1019 => ?_) (fun c_1019 => ?_)
                      · have h3 := hp_pos c_1019 h3
                        obtain rfl := Option.some.inj h3
                        exact after_1039 _ _ _ _ hI hP hD hS (lv_sub hl [0, 1, 2, 3, 4, 5, 6, 7, 8, 9, 10, 11] rfl)
                      · have h3 := hp_neg c_1019 h3
                        refine lv_aload_n hx hb dL_law_1022 rfl (lv_at hl 2 rfl) ?_
                        refine lv_iload hx hb dL_law_1023 (lv_at hl 9 rfl) ?_
                        refine lv_iload hx hb dL_law_1025 (lv_at hl 10 rfl) ?_
                        refine lv_iload hx hb dL_law_1027 (lv_at hl 11 rfl) ?_
                        obtain ⟨r_1029, e_1029, h3⟩ := ob1_inv h3
                        refine k_pSi (rest := []) ⟨hx, hb, hml, hown, hts⟩ (c_L_can l dC dI cI cS a_g e_1029) (va_cwS 4 hts gL_law_L_can rfl rfl rfl khd_L_can.2 ⟨(Nat.le_of_ble_eq_true rfl), (Nat.le_of_ble_eq_true rfl)⟩) hK hN hP hD hS [0] rfl rfl rfl hl.1 rfl (Nat.le_of_ble_eq_true rfl) dL_law_1029 ⟨(Nat.le_of_ble_eq_true rfl), (Nat.le_of_ble_eq_true rfl)⟩ (fun H locs hf_1029 hP hS => ?_)
                        have hP : va_P (dC, dI) vwCl ((a_g, .inl (cI, 38, .inl ga_746)) :: (a_k, .inl (cI, 38, .inl ka_718e)) :: w) H := hP
                        refine lv_if_ne (tgt := 1039) hx hb dL_law_1032 (by decide) (fun c_1032 => ?_) (fun c_1032 => ?_)
                        · have h3 := hp_neg c_1032 h3
                          obtain rfl := Option.some.inj h3
                          exact after_1039 _ _ _ _ hI hP hD hS (lv_sub hl [0, 1, 2, 3, 4, 5, 6, 7, 8, 9, 10, 11] rfl)
                        · have h3 := hp_pos c_1032 h3
                          refine lv_iload hx hb dL_law_1035 (lv_at hl 8 rfl) ?_
                          refine lv_istore (lv' := [(10, .int x11_746), (0, .ref b), (1, .ref (ad 0)), (2, .ref a_g), (3, .ref a_k), (5, .int (r_22_ga 0)), (6, .int x6_68), (9, .int r_696), (11, .int x11_746), (13, .int y13_877), (14, .int v14_853), (15, .int y15_877)]) hx hb dL_law_1037 hl (by decide) rfl (fun ls hl => ?_)
                          obtain rfl := Option.some.inj h3
                          exact after_1039 _ _ _ _ hI hP hD hS (lv_sub hl [1, 2, 3, 4, 5, 6, 7, 0, 8, 9, 10, 11] rfl)
                    · have h2 := hp_neg c_1012 h2
                      cases h2
              exact lq_877 C0 hK hN after_877 FUEL _ _ _ i_877 _ _ _ _ hI hP hD hS (lv_sub hl [1, 2, 3, 4, 5, 6, 7, 8, 9, 10, 11, 12, 13, 0] rfl)
            have h3 := i_874
            refine lv_icmp_ne (tgt := 874) hx hb dL_law_856 (by decide) (fun c_856 => ?_) (fun c_856 => ?_)
            · have h3 := hp_neg c_856 h3
              obtain rfl := Option.some.inj h3
              exact after_874 _ _ _ _ hI hP hD hS (lv_sub hl [0, 1, 2, 3, 4, 5, 6, 7, 8, 9, 10, 11, 12] rfl)
            · have h3 := hp_pos c_856 h3
              refine lv_iload hx hb dL_law_859 (lv_at hl 9 rfl) ?_
              refine lv_iconst (v := 5) hx hb dL_law_861 (by decide) ?_
              refine lv_ishr hx hb dL_law_862 ?_
              refine lv_iconst (v := 3) hx hb dL_law_863 (by decide) ?_
              obtain ⟨r_864, e_864, h3⟩ := ob1_inv h3
              refine k_pSi (rest := []) ⟨hx, hb, hml, hown, hts⟩ (c_L_some l dC dI cI cS e_864) (va_cwS 2 hts gL_law_L_some rfl rfl rfl khd_L_some.2 ⟨(Nat.le_of_ble_eq_true rfl), (Nat.le_of_ble_eq_true rfl)⟩) hK hN hP hD hS [] rfl rfl rfl hl.1 rfl (Nat.le_of_ble_eq_true rfl) dL_law_864 ⟨(Nat.le_of_ble_eq_true rfl), (Nat.le_of_ble_eq_true rfl)⟩ (fun H locs hf_864 hP hS => ?_)
              have hP : va_P (dC, dI) vwCl ((a_g, .inl (cI, 38, .inl ga_746)) :: (a_k, .inl (cI, 38, .inl ka_718e)) :: w) H := hP
              refine lv_if_ne (tgt := 874) hx hb dL_law_867 (by decide) (fun c_867 => ?_) (fun c_867 => ?_)
              · have h3 := hp_neg c_867 h3
                obtain rfl := Option.some.inj h3
                exact after_874 _ _ _ _ hI hP hD hS (lv_sub hl [0, 1, 2, 3, 4, 5, 6, 7, 8, 9, 10, 11, 12] rfl)
              · have h3 := hp_pos c_867 h3
                refine lv_bipush (v := 6) hx hb dL_law_870 (by decide) ?_
                refine lv_istore (lv' := [(15, .int (6 : Int32)), (0, .ref b), (1, .ref (ad 0)), (2, .ref a_g), (3, .ref a_k), (5, .int (r_22_ga 0)), (6, .int x6_68), (9, .int r_696), (10, .int x10_746), (11, .int x11_746), (12, .int (r_759 >>> (x11_746 &&& 31))), (13, .int r_770), (14, .int v14_853)]) hx hb dL_law_872 hl (by decide) rfl (fun ls hl => ?_)
                obtain rfl := Option.some.inj h3
                exact after_874 _ _ _ _ hI hP hD hS (lv_sub hl [1, 2, 3, 4, 5, 6, 7, 8, 9, 10, 11, 12, 0] rfl)
          have h3 := i_853
          refine lv_if_ne (tgt := 853) hx hb dL_law_835 (by decide) (fun c_835 => ?_) (fun c_835 => ?_)
          · have h3 := hp_neg c_835 h3
            obtain rfl := Option.some.inj h3
            exact after_853 _ _ _ _ hI hP hD hS (lv_sub hl [1, 2, 3, 4, 5, 6, 7, 8, 9, 10, 11, 12, 0] rfl)
          · have h3 := hp_pos c_835 h3
            refine lv_iload hx hb dL_law_838 (lv_at hl 10 rfl) ?_
            refine lv_iconst (v := 5) hx hb dL_law_840 (by decide) ?_
            refine lv_ishr hx hb dL_law_841 ?_
            refine lv_iconst (v := 3) hx hb dL_law_842 (by decide) ?_
            obtain ⟨r_843, e_843, h3⟩ := ob1_inv h3
            refine k_pSi (rest := []) ⟨hx, hb, hml, hown, hts⟩ (c_L_some l dC dI cI cS e_843) (va_cwS 2 hts gL_law_L_some rfl rfl rfl khd_L_some.2 ⟨(Nat.le_of_ble_eq_true rfl), (Nat.le_of_ble_eq_true rfl)⟩) hK hN hP hD hS [] rfl rfl rfl hl.1 rfl (Nat.le_of_ble_eq_true rfl) dL_law_843 ⟨(Nat.le_of_ble_eq_true rfl), (Nat.le_of_ble_eq_true rfl)⟩ (fun H locs hf_843 hP hS => ?_)
            have hP : va_P (dC, dI) vwCl ((a_g, .inl (cI, 38, .inl ga_746)) :: (a_k, .inl (cI, 38, .inl ka_718e)) :: w) H := hP
            refine lv_if_ne (tgt := 853) hx hb dL_law_846 (by decide) (fun c_846 => ?_) (fun c_846 => ?_)
            · have h3 := hp_neg c_846 h3
              obtain rfl := Option.some.inj h3
              exact after_853 _ _ _ _ hI hP hD hS (lv_sub hl [1, 2, 3, 4, 5, 6, 7, 8, 9, 10, 11, 12, 0] rfl)
            · have h3 := hp_pos c_846 h3
              refine lv_bipush (v := 6) hx hb dL_law_849 (by decide) ?_
              refine lv_istore (lv' := [(14, .int (6 : Int32)), (15, .int r_828), (0, .ref b), (1, .ref (ad 0)), (2, .ref a_g), (3, .ref a_k), (5, .int (r_22_ga 0)), (6, .int x6_68), (9, .int r_696), (10, .int x10_746), (11, .int x11_746), (12, .int (r_759 >>> (x11_746 &&& 31))), (13, .int r_770)]) hx hb dL_law_851 hl (by decide) rfl (fun ls hl => ?_)
              obtain rfl := Option.some.inj h3
              exact after_853 _ _ _ _ hI hP hD hS (lv_sub hl [2, 3, 4, 5, 6, 7, 8, 9, 10, 11, 12, 0, 1] rfl)
        have h3 := i_828
        refine lv_if_ne (tgt := 826) hx hb dL_law_818 (by decide) (fun c_818 => ?_) (fun c_818 => ?_)
        · have h3 := hp_neg c_818 h3
          refine lv_iload hx hb dL_law_826 (lv_at hl 5 rfl) ?_
          obtain rfl := Option.some.inj h3
          exact after_828 _ _ _ _ hI hP hD hS (lv_sub hl [1, 2, 3, 4, 5, 6, 7, 8, 9, 10, 11, 0] rfl)
        · have h3 := hp_pos c_818 h3
          refine lv_bipush (v := 8) hx hb dL_law_821 (by decide) ?_
          refine lv_goto (tgt := 828) hx hb dL_law_823 (by decide) ?_
          obtain rfl := Option.some.inj h3
          exact after_828 _ _ _ _ hI hP hD hS (lv_sub hl [1, 2, 3, 4, 5, 6, 7, 8, 9, 10, 11, 0] rfl)
      have h3 := i_799
      refine lv_if_ne (tgt := 797) hx hb dL_law_789 (by decide) (fun c_789 => ?_) (fun c_789 => ?_)
      · have h3 := hp_neg c_789 h3
        refine lv_iload hx hb dL_law_797 (lv_at hl 6 rfl) ?_
        obtain rfl := Option.some.inj h3
        exact after_799 _ _ _ _ hI hP hD hS (lv_sub hl [2, 3, 4, 5, 6, 7, 8, 9, 10, 1, 0] rfl)
      · have h3 := hp_pos c_789 h3
        refine lv_bipush (v := 8) hx hb dL_law_792 (by decide) ?_
        refine lv_goto (tgt := 799) hx hb dL_law_794 (by decide) ?_
        obtain rfl := Option.some.inj h3
        exact after_799 _ _ _ _ hI hP hD hS (lv_sub hl [2, 3, 4, 5, 6, 7, 8, 9, 10, 1, 0] rfl)
set_option maxHeartbeats 32000000 in
set_option maxRecDepth 100000 in
theorem lq_718 (C0 : lw_At p s m meth c b L xs) (hK : va_K (dC, dI) vwCl (tyW cI cS) s) (hN : Nst s) {r_22_ga : Nat → Int32} {x6_68 : Int32} {ga_99j : Nat → Int32} {r_696 : Int32} {r_706_S : SG} {ka_718e : Nat → Int32} (after_718 : ∀ (w : va_W) (H : Heap) (locs : List Loc) (ls : Array Slot), gI cI cS ad r_706_S w → va_P (dC, dI) vwCl ((a_g, .inl (cI, 38, .inl ga_99j)) :: (a_k, .inl (cI, 38, .inl ka_718e)) :: w) H → va_D (fun q : Nat => s.heap.size ≤ q) ((a_g, .inl (cI, 38, .inl ga_99j)) :: (a_k, .inl (cI, 38, .inl ka_718e)) :: w) → va_S (fun q : Nat => s.heap.size ≤ q) s.heap H locs → lv_has ls 19 [(0, .ref b), (1, .ref (ad 0)), (2, .ref a_g), (3, .ref a_k), (5, .int (r_22_ga 0)), (6, .int x6_68), (9, .int r_696)] → W p l e room_1 s m #[Value.ref b] below meth c H locs NCELL NSLOT (lw_Z below #[Value.ref b] s) (F0 m 739 ls [])) : ∀ (n : Nat) (x10_718 : Int32) (ka_718 : Nat → Int32), it (u2 (L_L_law_718 ga_99j)) n (x10_718, ka_718) = some ka_718e → ∀ (w : va_W) (H : Heap) (locs : List Loc) (ls : Array Slot), gI cI cS ad r_706_S w → va_P (dC, dI) vwCl ((a_g, .inl (cI, 38, .inl ga_99j)) :: (a_k, .inl (cI, 38, .inl ka_718)) :: w) H → va_D (fun q : Nat => s.heap.size ≤ q) ((a_g, .inl (cI, 38, .inl ga_99j)) :: (a_k, .inl (cI, 38, .inl ka_718)) :: w) → va_S (fun q : Nat => s.heap.size ≤ q) s.heap H locs → lv_has ls 19 [(0, .ref b), (1, .ref (ad 0)), (2, .ref a_g), (3, .ref a_k), (5, .int (r_22_ga 0)), (6, .int x6_68), (9, .int r_696), (10, .int x10_718)] → W p l e room_1 s m #[Value.ref b] below meth c H locs NCELL NSLOT (lw_Z below #[Value.ref b] s) (F0 m 718 ls []) := by
  obtain ⟨hx, hb, hr, hml, hown, hts0, hX, hbl, hlocks, hgv⟩ := id C0
  have hts : ∀ w ∈ wsL_law, w.before #[Value.ref b] s = true := fun w h => hts0 w (wsL_law_in w h)
  have hbA : ¬ (fun q : Nat => s.heap.size ≤ q) b := Nat.not_le.mpr hbl
  intro n
  induction n with
  | zero => intro x10_718 ka_718 h2 w H locs ls hI hP hD hS hl; exact (it_0 h2).elim
  | succ n ih_718 =>
    intro x10_718 ka_718 h2 w H locs ls hI hP hD hS hl
    obtain ⟨t_718, h2, k2⟩ := it2_inv h2
    unfold L_L_law_718 at h2
    refine lv_iload hx hb dL_law_718 (lv_at hl 7 rfl) ?_
    refine lv_bipush (v := 38) hx hb dL_law_720 (by decide) ?_
    refine lv_icmp_ge (tgt := 739) hx hb dL_law_722 (by decide) (fun c_722 => ?_) (fun c_722 => ?_)
    · have h2 := hp_pos c_722 h2
      cases h2
      obtain rfl := pj1 k2
      exact after_718 _ _ _ _ hI hP hD hS (lv_sub hl [0, 1, 2, 3, 4, 5, 6] rfl)
    · have h2 := hp_neg c_722 h2
      refine lv_aload_n hx hb dL_law_725 rfl (lv_at hl 3 rfl) ?_
      refine lv_iload hx hb dL_law_726 (lv_at hl 7 rfl) ?_
      refine lv_aload_n hx hb dL_law_728 rfl (lv_at hl 2 rfl) ?_
      refine lv_iload hx hb dL_law_729 (lv_at hl 7 rfl) ?_
      have g_731 := hg_no h2
      have h2 := hg_yes h2
      refine va_iald (D := (dC, dI)) hx hb hK hP 0 0 rfl rfl g_731 dL_law_731 ?_
      have g_732 := hg_no h2
      have h2 := hg_yes h2
      refine va_iast (D := (dC, dI)) hx hb hK hP hD hS 1 0 rfl rfl g_732 dL_law_732 (fun H locs hP hD hS => ?_)
      have hP : va_P (dC, dI) vwCl ((a_g, .inl (cI, 38, .inl ga_99j)) :: (a_k, .inl (cI, 38, .inl (upd ka_718 x10_718.toNatClampNeg (ga_99j x10_718.toNatClampNeg)))) :: w) H := hP
      have hD : va_D (fun q : Nat => s.heap.size ≤ q) ((a_g, .inl (cI, 38, .inl ga_99j)) :: (a_k, .inl (cI, 38, .inl (upd ka_718 x10_718.toNatClampNeg (ga_99j x10_718.toNatClampNeg)))) :: w) := hD
      refine lv_iinc (v := (x10_718 + (1 : Int32))) (lv' := [(10, .int (x10_718 + (1 : Int32))), (0, .ref b), (1, .ref (ad 0)), (2, .ref a_g), (3, .ref a_k), (5, .int (r_22_ga 0)), (6, .int x6_68), (9, .int r_696)]) hx hb dL_law_733 hl (k := 7) rfl rfl (by decide) rfl (fun ls hl => ?_)
      refine lv_goto (tgt := 718) hx hb dL_law_736 (by decide) ?_
      cases h2
      exact ih_718 _ _ k2 _ _ _ _ hI hP hD hS (lv_sub hl [1, 2, 3, 4, 5, 6, 7, 0] rfl)
set_option maxHeartbeats 32000000 in
set_option maxRecDepth 100000 in
theorem lq_517 (C0 : lw_At p s m meth c b L xs) (hK : va_K (dC, dI) vwCl (tyW cI cS) s) (hN : Nst s) {r_22_ga : Nat → Int32} {x6_68 : Int32} {ka_68 : Nat → Int32} {ga_99j : Nat → Int32} {SS_99j : SG} {r_105 : Int32} {r_114 : Int32} {x9_125 : Int32} (after_517 : ∀ (w : va_W) (H : Heap) (locs : List Loc) (ls : Array Slot), gI cI cS ad SS_99j w → va_P (dC, dI) vwCl ((a_g, .inl (cI, 38, .inl ga_99j)) :: (a_k, .inl (cI, 38, .inl ka_68)) :: w) H → va_D (fun q : Nat => s.heap.size ≤ q) ((a_g, .inl (cI, 38, .inl ga_99j)) :: (a_k, .inl (cI, 38, .inl ka_68)) :: w) → va_S (fun q : Nat => s.heap.size ≤ q) s.heap H locs → lv_has ls 19 [(0, .ref b), (1, .ref (ad 0)), (2, .ref a_g), (3, .ref a_k), (5, .int (r_22_ga 0)), (6, .int x6_68), (7, .int r_105), (8, .int (r_114 - (64 : Int32))), (9, .int x9_125)] → W p l e room_1 s m #[Value.ref b] below meth c H locs NCELL NSLOT (lw_Z below #[Value.ref b] s) (F0 m 617 ls [])) : ∀ (n : Nat) (x15_517 : Int32), it (u1 (L_L_law_517 r_22_ga ga_99j SS_99j x9_125)) n x15_517 = some () → ∀ (w : va_W) (H : Heap) (locs : List Loc) (ls : Array Slot), gI cI cS ad SS_99j w → va_P (dC, dI) vwCl ((a_g, .inl (cI, 38, .inl ga_99j)) :: (a_k, .inl (cI, 38, .inl ka_68)) :: w) H → va_D (fun q : Nat => s.heap.size ≤ q) ((a_g, .inl (cI, 38, .inl ga_99j)) :: (a_k, .inl (cI, 38, .inl ka_68)) :: w) → va_S (fun q : Nat => s.heap.size ≤ q) s.heap H locs → lv_has ls 19 [(0, .ref b), (1, .ref (ad 0)), (2, .ref a_g), (3, .ref a_k), (5, .int (r_22_ga 0)), (6, .int x6_68), (7, .int r_105), (8, .int (r_114 - (64 : Int32))), (9, .int x9_125), (15, .int x15_517)] → W p l e room_1 s m #[Value.ref b] below meth c H locs NCELL NSLOT (lw_Z below #[Value.ref b] s) (F0 m 517 ls []) := by
  obtain ⟨hx, hb, hr, hml, hown, hts0, hX, hbl, hlocks, hgv⟩ := id C0
  have hts : ∀ w ∈ wsL_law, w.before #[Value.ref b] s = true := fun w h => hts0 w (wsL_law_in w h)
  have hbA : ¬ (fun q : Nat => s.heap.size ≤ q) b := Nat.not_le.mpr hbl
  intro n
  induction n with
  | zero => intro x15_517 h3 w H locs ls hI hP hD hS hl; exact (it_0 h3).elim
  | succ n ih_517 =>
    intro x15_517 h3 w H locs ls hI hP hD hS hl
    obtain ⟨t_517, h3, k3⟩ := it1_inv h3
    unfold L_L_law_517 at h3
    refine lv_iload hx hb dL_law_517 (lv_at hl 9 rfl) ?_
    refine lv_bipush (v := 7) hx hb dL_law_519 (by decide) ?_
    refine lv_icmp_ge (tgt := 617) hx hb dL_law_521 (by decide) (fun c_521 => ?_) (fun c_521 => ?_)
    · have h3 := hp_pos c_521 h3
      cases h3
      exact after_517 _ _ _ _ hI hP hD hS (lv_sub hl [0, 1, 2, 3, 4, 5, 6, 7, 8] rfl)
    · have h3 := hp_neg c_521 h3
      refine lv_iload hx hb dL_law_524 (lv_at hl 9 rfl) ?_
      refine lv_iload hx hb dL_law_526 (lv_at hl 4 rfl) ?_
      obtain ⟨u0_543, i_543, h3⟩ := ob1_inv h3
      have after_543 : ∀ (w : va_W) (H : Heap) (locs : List Loc) (ls : Array Slot), gI cI cS ad SS_99j w → va_P (dC, dI) vwCl ((a_g, .inl (cI, 38, .inl ga_99j)) :: (a_k, .inl (cI, 38, .inl ka_68)) :: w) H → va_D (fun q : Nat => s.heap.size ≤ q) ((a_g, .inl (cI, 38, .inl ga_99j)) :: (a_k, .inl (cI, 38, .inl ka_68)) :: w) → va_S (fun q : Nat => s.heap.size ≤ q) s.heap H locs → lv_has ls 19 [(0, .ref b), (1, .ref (ad 0)), (2, .ref a_g), (3, .ref a_k), (5, .int (r_22_ga 0)), (6, .int x6_68), (7, .int r_105), (8, .int (r_114 - (64 : Int32))), (9, .int x9_125), (15, .int x15_517)] → W p l e room_1 s m #[Value.ref b] below meth c H locs NCELL NSLOT (lw_Z below #[Value.ref b] s) (F0 m 543 ls [.int u0_543]) := by
        intro w H locs ls hI hP hD hS hl
        refine lv_istore (lv' := [(16, .int u0_543), (0, .ref b), (1, .ref (ad 0)), (2, .ref a_g), (3, .ref a_k), (5, .int (r_22_ga 0)), (6, .int x6_68), (7, .int r_105), (8, .int (r_114 - (64 : Int32))), (9, .int x9_125), (15, .int x15_517)]) hx hb dL_law_543 hl (by decide) rfl (fun ls hl => ?_)
        refine lv_aload_n hx hb dL_law_545 rfl (lv_at hl 2 rfl) ?_
        refine lv_iload hx hb dL_law_546 (lv_at hl 10 rfl) ?_
        refine lv_iload hx hb dL_law_548 (lv_at hl 9 rfl) ?_
        obtain ⟨r_550, e_550, h3⟩ := ob1_inv h3
        refine k_GVi (pre := [(a_g, .inl (cI, 38, .inl ga_99j)), (a_k, .inl (cI, 38, .inl ka_68))]) (rest := []) ⟨hx, hb, hml, hown, hts⟩ (A_X4_place l dC dI cI cS ad e_550) (cwV 2 hts gL_law_X4_place rfl rfl rfl khd_X4_place ⟨(Nat.le_of_ble_eq_true rfl), (Nat.le_of_ble_eq_true rfl)⟩) hK hN hI hP hD hS rfl hl.1 rfl (Nat.le_of_ble_eq_true rfl) dL_law_550 ⟨(Nat.le_of_ble_eq_true rfl), (Nat.le_of_ble_eq_true rfl)⟩ (fun H locs w hI hP hD hS => ?_)
        have hP : va_P (dC, dI) vwCl ((a_g, .inl (cI, 38, .inl ga_99j)) :: (a_k, .inl (cI, 38, .inl ka_68)) :: w) H := hP
        have hD : va_D (fun q : Nat => s.heap.size ≤ q) ((a_g, .inl (cI, 38, .inl ga_99j)) :: (a_k, .inl (cI, 38, .inl ka_68)) :: w) := hD
        refine lv_iload hx hb dL_law_553 (lv_at hl 0 rfl) ?_
        obtain ⟨u0_570, i_570, h3⟩ := ob1_inv h3
        have after_570 : ∀ (w : va_W) (H : Heap) (locs : List Loc) (ls : Array Slot), gI cI cS ad SS_99j w → va_P (dC, dI) vwCl ((a_g, .inl (cI, 38, .inl ga_99j)) :: (a_k, .inl (cI, 38, .inl ka_68)) :: w) H → va_D (fun q : Nat => s.heap.size ≤ q) ((a_g, .inl (cI, 38, .inl ga_99j)) :: (a_k, .inl (cI, 38, .inl ka_68)) :: w) → va_S (fun q : Nat => s.heap.size ≤ q) s.heap H locs → lv_has ls 19 [(0, .ref b), (1, .ref (ad 0)), (2, .ref a_g), (3, .ref a_k), (5, .int (r_22_ga 0)), (6, .int x6_68), (7, .int r_105), (8, .int (r_114 - (64 : Int32))), (9, .int x9_125), (15, .int x15_517), (16, .int u0_543)] → W p l e room_1 s m #[Value.ref b] below meth c H locs NCELL NSLOT (lw_Z below #[Value.ref b] s) (F0 m 570 ls [.int u0_570, .int r_550]) := by
          intro w H locs ls hI hP hD hS hl
          refine lv_icmp_ne (tgt := 609) hx hb dL_law_570 (by decide) (fun c_570 => ?_) (fun c_570 => ?_)
          · have h3 := hp_neg c_570 h3
            cases h3
          · have h3 := hp_pos c_570 h3
            refine lv_aload_n hx hb dL_law_573 rfl (lv_at hl 1 rfl) ?_
            refine lv_iload hx hb dL_law_574 (lv_at hl 9 rfl) ?_
            refine lv_iload hx hb dL_law_576 (lv_at hl 8 rfl) ?_
            obtain ⟨r_578, e_578, h3⟩ := ob1_inv h3
            refine k_GVi (pre := [(a_g, .inl (cI, 38, .inl ga_99j)), (a_k, .inl (cI, 38, .inl ka_68))]) (rest := []) ⟨hx, hb, hml, hown, hts⟩ (A_X4_refers l dC dI cI cS ad e_578) (cwV 2 hts gL_law_X4_refers rfl rfl rfl khd_X4_refers ⟨(Nat.le_of_ble_eq_true rfl), (Nat.le_of_ble_eq_true rfl)⟩) hK hN hI hP hD hS rfl hl.1 rfl (Nat.le_of_ble_eq_true rfl) dL_law_578 ⟨(Nat.le_of_ble_eq_true rfl), (Nat.le_of_ble_eq_true rfl)⟩ (fun H locs w hI hP hD hS => ?_)
            have hP : va_P (dC, dI) vwCl ((a_g, .inl (cI, 38, .inl ga_99j)) :: (a_k, .inl (cI, 38, .inl ka_68)) :: w) H := hP
            have hD : va_D (fun q : Nat => s.heap.size ≤ q) ((a_g, .inl (cI, 38, .inl ga_99j)) :: (a_k, .inl (cI, 38, .inl ka_68)) :: w) := hD
            refine lv_iload hx hb dL_law_581 (lv_at hl 10 rfl) ?_
            obtain ⟨u0_606, i_606, h3⟩ := ob1_inv h3
            have after_606 : ∀ (w : va_W) (H : Heap) (locs : List Loc) (ls : Array Slot), gI cI cS ad SS_99j w → va_P (dC, dI) vwCl ((a_g, .inl (cI, 38, .inl ga_99j)) :: (a_k, .inl (cI, 38, .inl ka_68)) :: w) H → va_D (fun q : Nat => s.heap.size ≤ q) ((a_g, .inl (cI, 38, .inl ga_99j)) :: (a_k, .inl (cI, 38, .inl ka_68)) :: w) → va_S (fun q : Nat => s.heap.size ≤ q) s.heap H locs → lv_has ls 19 [(0, .ref b), (1, .ref (ad 0)), (2, .ref a_g), (3, .ref a_k), (5, .int (r_22_ga 0)), (6, .int x6_68), (7, .int r_105), (8, .int (r_114 - (64 : Int32))), (9, .int x9_125), (15, .int x15_517)] → W p l e room_1 s m #[Value.ref b] below meth c H locs NCELL NSLOT (lw_Z below #[Value.ref b] s) (F0 m 606 ls [.int u0_606, .int r_578]) := by
              intro w H locs ls hI hP hD hS hl
              refine lv_icmp_eq (tgt := 611) hx hb dL_law_606 (by decide) (fun c_606 => ?_) (fun c_606 => ?_)
              · have h3 := hp_pos c_606 h3
                refine lv_iinc (v := (x15_517 + (1 : Int32))) (lv' := [(15, .int (x15_517 + (1 : Int32))), (0, .ref b), (1, .ref (ad 0)), (2, .ref a_g), (3, .ref a_k), (5, .int (r_22_ga 0)), (6, .int x6_68), (7, .int r_105), (8, .int (r_114 - (64 : Int32))), (9, .int x9_125)]) hx hb dL_law_611 hl (k := 9) rfl rfl (by decide) rfl (fun ls hl => ?_)
                refine lv_goto (tgt := 517) hx hb dL_law_614 (by decide) ?_
                cases h3
                exact ih_517 _ k3 _ _ _ _ hI hP hD hS (lv_sub hl [1, 2, 3, 4, 5, 6, 7, 8, 9, 0] rfl)
              · have h3 := hp_neg c_606 h3
                cases h3
            have h4 := i_606
            refine lv_if_ne (tgt := 590) hx hb dL_law_583 (by decide) (fun c_583 => ?_) (fun c_583 => ?_)
            · have h4 := hp_neg c_583 h4
              refine lv_aload_n hx hb dL_law_590 rfl (lv_at hl 2 rfl) ?_
              refine lv_iload hx hb dL_law_591 (lv_at hl 9 rfl) ?_
              refine lv_iload hx hb dL_law_593 (lv_at hl 8 rfl) ?_
              obtain ⟨r_595, e_595, h4⟩ := ob1_inv h4
              refine k_pSi (rest := [.int r_578]) ⟨hx, hb, hml, hown, hts⟩ (c_L_place l dC dI cI cS a_g e_595) (va_cwS 3 hts gL_law_L_place rfl rfl rfl khd_L_place.2 ⟨(Nat.le_of_ble_eq_true rfl), (Nat.le_of_ble_eq_true rfl)⟩) hK hN hP hD hS [0] rfl rfl rfl hl.1 rfl (Nat.le_of_ble_eq_true rfl) dL_law_595 ⟨(Nat.le_of_ble_eq_true rfl), (Nat.le_of_ble_eq_true rfl)⟩ (fun H locs hf_595 hP hS => ?_)
              have hP : va_P (dC, dI) vwCl ((a_g, .inl (cI, 38, .inl ga_99j)) :: (a_k, .inl (cI, 38, .inl ka_68)) :: w) H := hP
              refine lv_if_ge (tgt := 605) hx hb dL_law_598 (by decide) (fun c_598 => ?_) (fun c_598 => ?_)
              · have h4 := hp_pos c_598 h4
                refine lv_iconst (v := 1) hx hb dL_law_605 (by decide) ?_
                obtain rfl := Option.some.inj h4
                exact after_606 _ _ _ _ hI hP hD hS (lv_sub hl [0, 1, 2, 3, 4, 5, 6, 7, 8, 9] rfl)
              · have h4 := hp_neg c_598 h4
                refine lv_iconst (v := 0) hx hb dL_law_601 (by decide) ?_
                refine lv_goto (tgt := 606) hx hb dL_law_602 (by decide) ?_
                obtain rfl := Option.some.inj h4
                exact after_606 _ _ _ _ hI hP hD hS (lv_sub hl [0, 1, 2, 3, 4, 5, 6, 7, 8, 9] rfl)
            · have h4 := hp_pos c_583 h4
              refine lv_iconst (v := -1) hx hb dL_law_586 (by decide) ?_
              refine lv_goto (tgt := 606) hx hb dL_law_587 (by decide) ?_
              obtain rfl := Option.some.inj h4
              exact after_606 _ _ _ _ hI hP hD hS (lv_sub hl [0, 1, 2, 3, 4, 5, 6, 7, 8, 9] rfl)
        have h4 := i_570
        refine lv_if_eq (tgt := 569) hx hb dL_law_555 (by decide) (fun c_555 => ?_) (fun c_555 => ?_)
        · have h4 := hp_pos c_555 h4
          refine lv_iconst (v := -1) hx hb dL_law_569 (by decide) ?_
          obtain rfl := Option.some.inj h4
          exact after_570 _ _ _ _ hI hP hD hS (lv_sub hl [1, 2, 3, 4, 5, 6, 7, 8, 9, 10, 0] rfl)
        · have h4 := hp_neg c_555 h4
          refine lv_aload_n hx hb dL_law_558 rfl (lv_at hl 3 rfl) ?_
          refine lv_iload hx hb dL_law_559 (lv_at hl 10 rfl) ?_
          refine lv_iload hx hb dL_law_561 (lv_at hl 9 rfl) ?_
          obtain ⟨r_563, e_563, h4⟩ := ob1_inv h4
          refine k_pSi (rest := [.int r_550]) ⟨hx, hb, hml, hown, hts⟩ (c_L_place l dC dI cI cS a_g e_563) (va_cwS 3 hts gL_law_L_place rfl rfl rfl khd_L_place.2 ⟨(Nat.le_of_ble_eq_true rfl), (Nat.le_of_ble_eq_true rfl)⟩) hK hN hP hD hS [0] rfl rfl rfl hl.1 rfl (Nat.le_of_ble_eq_true rfl) dL_law_563 ⟨(Nat.le_of_ble_eq_true rfl), (Nat.le_of_ble_eq_true rfl)⟩ (fun H locs hf_563 hP hS => ?_)
          have hP : va_P (dC, dI) vwCl ((a_g, .inl (cI, 38, .inl ga_99j)) :: (a_k, .inl (cI, 38, .inl ka_68)) :: w) H := hP
          refine lv_goto (tgt := 570) hx hb dL_law_566 (by decide) ?_
          obtain rfl := Option.some.inj h4
          exact after_570 _ _ _ _ hI hP hD hS (lv_sub hl [1, 2, 3, 4, 5, 6, 7, 8, 9, 10, 0] rfl)
      have h4 := i_543
      refine lv_icmp_lt (tgt := 538) hx hb dL_law_528 (by decide) (fun c_528 => ?_) (fun c_528 => ?_)
      · have h4 := hp_pos c_528 h4
        refine lv_iconst (v := 1) hx hb dL_law_538 (by decide) ?_
        refine lv_goto (tgt := 543) hx hb dL_law_539 (by decide) ?_
        obtain rfl := Option.some.inj h4
        exact after_543 _ _ _ _ hI hP hD hS (lv_sub hl [0, 1, 2, 3, 4, 5, 6, 7, 8, 9] rfl)
      · have h4 := hp_neg c_528 h4
        refine lv_iload hx hb dL_law_531 (lv_at hl 9 rfl) ?_
        refine lv_bipush (v := 6) hx hb dL_law_533 (by decide) ?_
        refine lv_icmp_ne (tgt := 542) hx hb dL_law_535 (by decide) (fun c_535 => ?_) (fun c_535 => ?_)
        · have h4 := hp_neg c_535 h4
          refine lv_iconst (v := 0) hx hb dL_law_542 (by decide) ?_
          obtain rfl := Option.some.inj h4
          exact after_543 _ _ _ _ hI hP hD hS (lv_sub hl [0, 1, 2, 3, 4, 5, 6, 7, 8, 9] rfl)
        · have h4 := hp_pos c_535 h4
          refine lv_iconst (v := 1) hx hb dL_law_538 (by decide) ?_
          refine lv_goto (tgt := 543) hx hb dL_law_539 (by decide) ?_
          obtain rfl := Option.some.inj h4
          exact after_543 _ _ _ _ hI hP hD hS (lv_sub hl [0, 1, 2, 3, 4, 5, 6, 7, 8, 9] rfl)
set_option maxHeartbeats 32000000 in
set_option maxRecDepth 100000 in
theorem lq_273 (C0 : lw_At p s m meth c b L xs) (hK : va_K (dC, dI) vwCl (tyW cI cS) s) (hN : Nst s) {r_22_ga : Nat → Int32} {x6_68 : Int32} {ka_68 : Nat → Int32} {ga_99j : Nat → Int32} {SS_99j : SG} {r_105 : Int32} {r_114 : Int32} {x9_125 : Int32} {y10_138 : Int32} {r_181 : Int32} {y12_193 : Int32} {r_262 : Int32} {y14_273 : Int32} (after_273 : ∀ (w : va_W) (H : Heap) (locs : List Loc) (ls : Array Slot), gI cI cS ad SS_99j w → va_P (dC, dI) vwCl ((a_g, .inl (cI, 38, .inl ga_99j)) :: (a_k, .inl (cI, 38, .inl ka_68)) :: w) H → va_D (fun q : Nat => s.heap.size ≤ q) ((a_g, .inl (cI, 38, .inl ga_99j)) :: (a_k, .inl (cI, 38, .inl ka_68)) :: w) → va_S (fun q : Nat => s.heap.size ≤ q) s.heap H locs → lv_has ls 19 [(0, .ref b), (1, .ref (ad 0)), (2, .ref a_g), (3, .ref a_k), (5, .int (r_22_ga 0)), (6, .int x6_68), (7, .int r_105), (8, .int (r_114 - (64 : Int32))), (9, .int x9_125), (10, .int y10_138), (11, .int r_181), (12, .int y12_193), (13, .int r_262), (14, .int y14_273)] → W p l e room_1 s m #[Value.ref b] below meth c H locs NCELL NSLOT (lw_Z below #[Value.ref b] s) (F0 m 333 ls [])) : ∀ (n : Nat) (x14_273 : Int32) (x15_273 : Int32), it (u2 (L_L_law_273 ga_99j x9_125 r_262)) n (x14_273, x15_273) = some y14_273 → ∀ (w : va_W) (H : Heap) (locs : List Loc) (ls : Array Slot), gI cI cS ad SS_99j w → va_P (dC, dI) vwCl ((a_g, .inl (cI, 38, .inl ga_99j)) :: (a_k, .inl (cI, 38, .inl ka_68)) :: w) H → va_D (fun q : Nat => s.heap.size ≤ q) ((a_g, .inl (cI, 38, .inl ga_99j)) :: (a_k, .inl (cI, 38, .inl ka_68)) :: w) → va_S (fun q : Nat => s.heap.size ≤ q) s.heap H locs → lv_has ls 19 [(0, .ref b), (1, .ref (ad 0)), (2, .ref a_g), (3, .ref a_k), (5, .int (r_22_ga 0)), (6, .int x6_68), (7, .int r_105), (8, .int (r_114 - (64 : Int32))), (9, .int x9_125), (10, .int y10_138), (11, .int r_181), (12, .int y12_193), (13, .int r_262), (14, .int x14_273), (15, .int x15_273)] → W p l e room_1 s m #[Value.ref b] below meth c H locs NCELL NSLOT (lw_Z below #[Value.ref b] s) (F0 m 273 ls []) := by
  obtain ⟨hx, hb, hr, hml, hown, hts0, hX, hbl, hlocks, hgv⟩ := id C0
  have hts : ∀ w ∈ wsL_law, w.before #[Value.ref b] s = true := fun w h => hts0 w (wsL_law_in w h)
  have hbA : ¬ (fun q : Nat => s.heap.size ≤ q) b := Nat.not_le.mpr hbl
  intro n
  induction n with
  | zero => intro x14_273 x15_273 h3 w H locs ls hI hP hD hS hl; exact (it_0 h3).elim
  | succ n ih_273 =>
    intro x14_273 x15_273 h3 w H locs ls hI hP hD hS hl
    obtain ⟨t_273, h3, k3⟩ := it2_inv h3
    unfold L_L_law_273 at h3
    refine lv_iload hx hb dL_law_273 (lv_at hl 14 rfl) ?_
    refine lv_aload_n hx hb dL_law_275 rfl (lv_at hl 2 rfl) ?_
    refine lv_iconst (v := 1) hx hb dL_law_276 (by decide) ?_
    refine va_iald (D := (dC, dI)) hx hb hK hP 0 0 rfl rfl (by decide) dL_law_277 ?_
    refine lv_icmp_ge (tgt := 333) hx hb dL_law_278 (by decide) (fun c_278 => ?_) (fun c_278 => ?_)
    · have h3 := hp_pos c_278 h3
      cases h3
      obtain rfl := pj1 k3
      exact after_273 _ _ _ _ hI hP hD hS (lv_sub hl [0, 1, 2, 3, 4, 5, 6, 7, 8, 9, 10, 11, 12, 13] rfl)
    · have h3 := hp_neg c_278 h3
      refine lv_iload hx hb dL_law_281 (lv_at hl 12 rfl) ?_
      refine lv_aload_n hx hb dL_law_283 rfl (lv_at hl 2 rfl) ?_
      refine lv_bipush (v := 14) hx hb dL_law_284 (by decide) ?_
      refine lv_iload hx hb dL_law_286 (lv_at hl 14 rfl) ?_
      refine lv_iadd hx hb dL_law_288 ?_
      have g_289 := hg_no h3
      have h3 := hg_yes h3
      refine va_iald (D := (dC, dI)) hx hb hK hP 0 0 rfl rfl g_289 dL_law_289 ?_
      refine lv_ishr hx hb dL_law_290 ?_
      refine lv_iconst (v := 1) hx hb dL_law_291 (by decide) ?_
      refine lv_iand hx hb dL_law_292 ?_
      refine lv_if_ne (tgt := 327) hx hb dL_law_293 (by decide) (fun c_293 => ?_) (fun c_293 => ?_)
      · have h3 := hp_neg c_293 h3
        refine lv_iinc (v := (x15_273 + (1 : Int32))) (lv' := [(15, .int (x15_273 + (1 : Int32))), (0, .ref b), (1, .ref (ad 0)), (2, .ref a_g), (3, .ref a_k), (5, .int (r_22_ga 0)), (6, .int x6_68), (7, .int r_105), (8, .int (r_114 - (64 : Int32))), (9, .int x9_125), (10, .int y10_138), (11, .int r_181), (12, .int y12_193), (13, .int r_262), (14, .int x14_273)]) hx hb dL_law_327 hl (k := 14) rfl rfl (by decide) rfl (fun ls hl => ?_)
        refine lv_goto (tgt := 273) hx hb dL_law_330 (by decide) ?_
        cases h3
        exact ih_273 _ _ k3 _ _ _ _ hI hP hD hS (lv_sub hl [1, 2, 3, 4, 5, 6, 7, 8, 9, 10, 11, 12, 13, 14, 0] rfl)
      · have h3 := hp_pos c_293 h3
        refine lv_iload hx hb dL_law_296 (lv_at hl 12 rfl) ?_
        refine lv_aload_n hx hb dL_law_298 rfl (lv_at hl 2 rfl) ?_
        refine lv_bipush (v := 26) hx hb dL_law_299 (by decide) ?_
        refine lv_iload hx hb dL_law_301 (lv_at hl 14 rfl) ?_
        refine lv_iadd hx hb dL_law_303 ?_
        have g_304 := hg_no h3
        have h3 := hg_yes h3
        refine va_iald (D := (dC, dI)) hx hb hK hP 0 0 rfl rfl g_304 dL_law_304 ?_
        refine lv_ishr hx hb dL_law_305 ?_
        refine lv_iconst (v := 1) hx hb dL_law_306 (by decide) ?_
        refine lv_iand hx hb dL_law_307 ?_
        refine lv_iconst (v := 1) hx hb dL_law_308 (by decide) ?_
        refine lv_icmp_ne (tgt := 327) hx hb dL_law_309 (by decide) (fun c_309 => ?_) (fun c_309 => ?_)
        · have h3 := hp_neg c_309 h3
          refine lv_iinc (v := (x15_273 + (1 : Int32))) (lv' := [(15, .int (x15_273 + (1 : Int32))), (0, .ref b), (1, .ref (ad 0)), (2, .ref a_g), (3, .ref a_k), (5, .int (r_22_ga 0)), (6, .int x6_68), (7, .int r_105), (8, .int (r_114 - (64 : Int32))), (9, .int x9_125), (10, .int y10_138), (11, .int r_181), (12, .int y12_193), (13, .int r_262), (14, .int x14_273)]) hx hb dL_law_327 hl (k := 14) rfl rfl (by decide) rfl (fun ls hl => ?_)
          refine lv_goto (tgt := 273) hx hb dL_law_330 (by decide) ?_
          cases h3
          exact ih_273 _ _ k3 _ _ _ _ hI hP hD hS (lv_sub hl [1, 2, 3, 4, 5, 6, 7, 8, 9, 10, 11, 12, 13, 14, 0] rfl)
        · have h3 := hp_pos c_309 h3
          refine lv_aload_n hx hb dL_law_312 rfl (lv_at hl 2 rfl) ?_
          refine lv_bipush (v := 26) hx hb dL_law_313 (by decide) ?_
          refine lv_iload hx hb dL_law_315 (lv_at hl 14 rfl) ?_
          refine lv_iadd hx hb dL_law_317 ?_
          have g_318 := hg_no h3
          have h3 := hg_yes h3
          refine va_iald (D := (dC, dI)) hx hb hK hP 0 0 rfl rfl g_318 dL_law_318 ?_
          refine lv_iload hx hb dL_law_319 (lv_at hl 8 rfl) ?_
          refine lv_icmp_eq (tgt := 327) hx hb dL_law_321 (by decide) (fun c_321 => ?_) (fun c_321 => ?_)
          · have h3 := hp_pos c_321 h3
            refine lv_iinc (v := (x15_273 + (1 : Int32))) (lv' := [(15, .int (x15_273 + (1 : Int32))), (0, .ref b), (1, .ref (ad 0)), (2, .ref a_g), (3, .ref a_k), (5, .int (r_22_ga 0)), (6, .int x6_68), (7, .int r_105), (8, .int (r_114 - (64 : Int32))), (9, .int x9_125), (10, .int y10_138), (11, .int r_181), (12, .int y12_193), (13, .int r_262), (14, .int x14_273)]) hx hb dL_law_327 hl (k := 14) rfl rfl (by decide) rfl (fun ls hl => ?_)
            refine lv_goto (tgt := 273) hx hb dL_law_330 (by decide) ?_
            cases h3
            exact ih_273 _ _ k3 _ _ _ _ hI hP hD hS (lv_sub hl [1, 2, 3, 4, 5, 6, 7, 8, 9, 10, 11, 12, 13, 14, 0] rfl)
          · have h3 := hp_neg c_321 h3
            refine lv_iconst (v := 0) hx hb dL_law_324 (by decide) ?_
            refine lv_istore (lv' := [(14, .int (0 : Int32)), (0, .ref b), (1, .ref (ad 0)), (2, .ref a_g), (3, .ref a_k), (5, .int (r_22_ga 0)), (6, .int x6_68), (7, .int r_105), (8, .int (r_114 - (64 : Int32))), (9, .int x9_125), (10, .int y10_138), (11, .int r_181), (12, .int y12_193), (13, .int r_262), (15, .int x15_273)]) hx hb dL_law_325 hl (by decide) rfl (fun ls hl => ?_)
            refine lv_iinc (v := (x15_273 + (1 : Int32))) (lv' := [(15, .int (x15_273 + (1 : Int32))), (14, .int (0 : Int32)), (0, .ref b), (1, .ref (ad 0)), (2, .ref a_g), (3, .ref a_k), (5, .int (r_22_ga 0)), (6, .int x6_68), (7, .int r_105), (8, .int (r_114 - (64 : Int32))), (9, .int x9_125), (10, .int y10_138), (11, .int r_181), (12, .int y12_193), (13, .int r_262)]) hx hb dL_law_327 hl (k := 14) rfl rfl (by decide) rfl (fun ls hl => ?_)
            refine lv_goto (tgt := 273) hx hb dL_law_330 (by decide) ?_
            cases h3
            exact ih_273 _ _ k3 _ _ _ _ hI hP hD hS (lv_sub hl [2, 3, 4, 5, 6, 7, 8, 9, 10, 11, 12, 13, 14, 1, 0] rfl)
set_option maxHeartbeats 32000000 in
set_option maxRecDepth 100000 in
theorem lq_193 (C0 : lw_At p s m meth c b L xs) (hK : va_K (dC, dI) vwCl (tyW cI cS) s) (hN : Nst s) {r_22_ga : Nat → Int32} {x6_68 : Int32} {ka_68 : Nat → Int32} {ga_99j : Nat → Int32} {SS_99j : SG} {r_105 : Int32} {r_114 : Int32} {x9_125 : Int32} {y10_138 : Int32} {r_181 : Int32} {y12_193 : Int32} (after_193 : ∀ (w : va_W) (H : Heap) (locs : List Loc) (ls : Array Slot), gI cI cS ad SS_99j w → va_P (dC, dI) vwCl ((a_g, .inl (cI, 38, .inl ga_99j)) :: (a_k, .inl (cI, 38, .inl ka_68)) :: w) H → va_D (fun q : Nat => s.heap.size ≤ q) ((a_g, .inl (cI, 38, .inl ga_99j)) :: (a_k, .inl (cI, 38, .inl ka_68)) :: w) → va_S (fun q : Nat => s.heap.size ≤ q) s.heap H locs → lv_has ls 19 [(0, .ref b), (1, .ref (ad 0)), (2, .ref a_g), (3, .ref a_k), (5, .int (r_22_ga 0)), (6, .int x6_68), (7, .int r_105), (8, .int (r_114 - (64 : Int32))), (9, .int x9_125), (10, .int y10_138), (11, .int r_181), (12, .int y12_193)] → W p l e room_1 s m #[Value.ref b] below meth c H locs NCELL NSLOT (lw_Z below #[Value.ref b] s) (F0 m 258 ls [])) : ∀ (n : Nat) (x12_193 : Int32) (x13_193 : Int32), it (u2 (L_L_law_193 r_22_ga ga_99j x9_125 r_181)) n (x12_193, x13_193) = some y12_193 → ∀ (w : va_W) (H : Heap) (locs : List Loc) (ls : Array Slot), gI cI cS ad SS_99j w → va_P (dC, dI) vwCl ((a_g, .inl (cI, 38, .inl ga_99j)) :: (a_k, .inl (cI, 38, .inl ka_68)) :: w) H → va_D (fun q : Nat => s.heap.size ≤ q) ((a_g, .inl (cI, 38, .inl ga_99j)) :: (a_k, .inl (cI, 38, .inl ka_68)) :: w) → va_S (fun q : Nat => s.heap.size ≤ q) s.heap H locs → lv_has ls 19 [(0, .ref b), (1, .ref (ad 0)), (2, .ref a_g), (3, .ref a_k), (5, .int (r_22_ga 0)), (6, .int x6_68), (7, .int r_105), (8, .int (r_114 - (64 : Int32))), (9, .int x9_125), (10, .int y10_138), (11, .int r_181), (12, .int x12_193), (13, .int x13_193)] → W p l e room_1 s m #[Value.ref b] below meth c H locs NCELL NSLOT (lw_Z below #[Value.ref b] s) (F0 m 193 ls []) := by
  obtain ⟨hx, hb, hr, hml, hown, hts0, hX, hbl, hlocks, hgv⟩ := id C0
  have hts : ∀ w ∈ wsL_law, w.before #[Value.ref b] s = true := fun w h => hts0 w (wsL_law_in w h)
  have hbA : ¬ (fun q : Nat => s.heap.size ≤ q) b := Nat.not_le.mpr hbl
  intro n
  induction n with
  | zero => intro x12_193 x13_193 h3 w H locs ls hI hP hD hS hl; exact (it_0 h3).elim
  | succ n ih_193 =>
    intro x12_193 x13_193 h3 w H locs ls hI hP hD hS hl
    obtain ⟨t_193, h3, k3⟩ := it2_inv h3
    unfold L_L_law_193 at h3
    refine lv_iload hx hb dL_law_193 (lv_at hl 12 rfl) ?_
    refine lv_iload hx hb dL_law_195 (lv_at hl 4 rfl) ?_
    refine lv_icmp_ge (tgt := 258) hx hb dL_law_197 (by decide) (fun c_197 => ?_) (fun c_197 => ?_)
    · have h3 := hp_pos c_197 h3
      cases h3
      obtain rfl := pj1 k3
      exact after_193 _ _ _ _ hI hP hD hS (lv_sub hl [0, 1, 2, 3, 4, 5, 6, 7, 8, 9, 10, 11] rfl)
    · have h3 := hp_neg c_197 h3
      refine lv_iload hx hb dL_law_200 (lv_at hl 12 rfl) ?_
      refine lv_iload hx hb dL_law_202 (lv_at hl 8 rfl) ?_
      refine lv_icmp_eq (tgt := 252) hx hb dL_law_204 (by decide) (fun c_204 => ?_) (fun c_204 => ?_)
      · have h3 := hp_pos c_204 h3
        refine lv_iinc (v := (x13_193 + (1 : Int32))) (lv' := [(13, .int (x13_193 + (1 : Int32))), (0, .ref b), (1, .ref (ad 0)), (2, .ref a_g), (3, .ref a_k), (5, .int (r_22_ga 0)), (6, .int x6_68), (7, .int r_105), (8, .int (r_114 - (64 : Int32))), (9, .int x9_125), (10, .int y10_138), (11, .int r_181), (12, .int x12_193)]) hx hb dL_law_252 hl (k := 12) rfl rfl (by decide) rfl (fun ls hl => ?_)
        refine lv_goto (tgt := 193) hx hb dL_law_255 (by decide) ?_
        cases h3
        exact ih_193 _ _ k3 _ _ _ _ hI hP hD hS (lv_sub hl [1, 2, 3, 4, 5, 6, 7, 8, 9, 10, 11, 12, 0] rfl)
      · have h3 := hp_neg c_204 h3
        refine lv_iload hx hb dL_law_207 (lv_at hl 10 rfl) ?_
        refine lv_iload hx hb dL_law_209 (lv_at hl 12 rfl) ?_
        refine lv_ishr hx hb dL_law_211 ?_
        refine lv_iconst (v := 1) hx hb dL_law_212 (by decide) ?_
        refine lv_iand hx hb dL_law_213 ?_
        refine lv_if_ne (tgt := 220) hx hb dL_law_214 (by decide) (fun c_214 => ?_) (fun c_214 => ?_)
        · have h3 := hp_neg c_214 h3
          refine lv_iload hx hb dL_law_220 (lv_at hl 11 rfl) ?_
          refine lv_bipush (v := 6) hx hb dL_law_222 (by decide) ?_
          refine lv_icmp_eq (tgt := 248) hx hb dL_law_224 (by decide) (fun c_224 => ?_) (fun c_224 => ?_)
          · have h3 := hp_pos c_224 h3
            refine lv_iload hx hb dL_law_248 (lv_at hl 12 rfl) ?_
            refine lv_istore (lv' := [(12, .int x13_193), (0, .ref b), (1, .ref (ad 0)), (2, .ref a_g), (3, .ref a_k), (5, .int (r_22_ga 0)), (6, .int x6_68), (7, .int r_105), (8, .int (r_114 - (64 : Int32))), (9, .int x9_125), (10, .int y10_138), (11, .int r_181), (13, .int x13_193)]) hx hb dL_law_250 hl (by decide) rfl (fun ls hl => ?_)
            refine lv_iinc (v := (x13_193 + (1 : Int32))) (lv' := [(13, .int (x13_193 + (1 : Int32))), (12, .int x13_193), (0, .ref b), (1, .ref (ad 0)), (2, .ref a_g), (3, .ref a_k), (5, .int (r_22_ga 0)), (6, .int x6_68), (7, .int r_105), (8, .int (r_114 - (64 : Int32))), (9, .int x9_125), (10, .int y10_138), (11, .int r_181)]) hx hb dL_law_252 hl (k := 12) rfl rfl (by decide) rfl (fun ls hl => ?_)
            refine lv_goto (tgt := 193) hx hb dL_law_255 (by decide) ?_
            cases h3
            exact ih_193 _ _ k3 _ _ _ _ hI hP hD hS (lv_sub hl [2, 3, 4, 5, 6, 7, 8, 9, 10, 11, 12, 1, 0] rfl)
          · have h3 := hp_neg c_224 h3
            refine lv_aload_n hx hb dL_law_227 rfl (lv_at hl 2 rfl) ?_
            refine lv_iload hx hb dL_law_228 (lv_at hl 12 rfl) ?_
            obtain ⟨r_230, e_230, h3⟩ := ob1_inv h3
            refine k_pSi (rest := []) ⟨hx, hb, hml, hown, hts⟩ (c_L_before l dC dI cI cS a_g e_230) (va_cwS 2 hts gL_law_L_before rfl rfl rfl khd_L_before.2 ⟨(Nat.le_of_ble_eq_true rfl), (Nat.le_of_ble_eq_true rfl)⟩) hK hN hP hD hS [0] rfl rfl rfl hl.1 rfl (Nat.le_of_ble_eq_true rfl) dL_law_230 ⟨(Nat.le_of_ble_eq_true rfl), (Nat.le_of_ble_eq_true rfl)⟩ (fun H locs hf_230 hP hS => ?_)
            have hP : va_P (dC, dI) vwCl ((a_g, .inl (cI, 38, .inl ga_99j)) :: (a_k, .inl (cI, 38, .inl ka_68)) :: w) H := hP
            obtain ⟨r_233, e_233, h3⟩ := ob1_inv h3
            refine k_pSi (rest := []) ⟨hx, hb, hml, hown, hts⟩ (c_L_size l dC dI cI cS e_233) (va_cwS 1 hts gL_law_L_size rfl rfl rfl khd_L_size.2 ⟨(Nat.le_of_ble_eq_true rfl), (Nat.le_of_ble_eq_true rfl)⟩) hK hN hP hD hS [] rfl rfl rfl hl.1 rfl (Nat.le_of_ble_eq_true rfl) dL_law_233 ⟨(Nat.le_of_ble_eq_true rfl), (Nat.le_of_ble_eq_true rfl)⟩ (fun H locs hf_233 hP hS => ?_)
            have hP : va_P (dC, dI) vwCl ((a_g, .inl (cI, 38, .inl ga_99j)) :: (a_k, .inl (cI, 38, .inl ka_68)) :: w) H := hP
            refine lv_aload_n hx hb dL_law_236 rfl (lv_at hl 2 rfl) ?_
            refine lv_iload hx hb dL_law_237 (lv_at hl 11 rfl) ?_
            obtain ⟨r_239, e_239, h3⟩ := ob1_inv h3
            refine k_pSi (rest := [.int r_233]) ⟨hx, hb, hml, hown, hts⟩ (c_L_before l dC dI cI cS a_g e_239) (va_cwS 2 hts gL_law_L_before rfl rfl rfl khd_L_before.2 ⟨(Nat.le_of_ble_eq_true rfl), (Nat.le_of_ble_eq_true rfl)⟩) hK hN hP hD hS [0] rfl rfl rfl hl.1 rfl (Nat.le_of_ble_eq_true rfl) dL_law_239 ⟨(Nat.le_of_ble_eq_true rfl), (Nat.le_of_ble_eq_true rfl)⟩ (fun H locs hf_239 hP hS => ?_)
            have hP : va_P (dC, dI) vwCl ((a_g, .inl (cI, 38, .inl ga_99j)) :: (a_k, .inl (cI, 38, .inl ka_68)) :: w) H := hP
            obtain ⟨r_242, e_242, h3⟩ := ob1_inv h3
            refine k_pSi (rest := [.int r_233]) ⟨hx, hb, hml, hown, hts⟩ (c_L_size l dC dI cI cS e_242) (va_cwS 1 hts gL_law_L_size rfl rfl rfl khd_L_size.2 ⟨(Nat.le_of_ble_eq_true rfl), (Nat.le_of_ble_eq_true rfl)⟩) hK hN hP hD hS [] rfl rfl rfl hl.1 rfl (Nat.le_of_ble_eq_true rfl) dL_law_242 ⟨(Nat.le_of_ble_eq_true rfl), (Nat.le_of_ble_eq_true rfl)⟩ (fun H locs hf_242 hP hS => ?_)
            have hP : va_P (dC, dI) vwCl ((a_g, .inl (cI, 38, .inl ga_99j)) :: (a_k, .inl (cI, 38, .inl ka_68)) :: w) H := hP
            refine lv_icmp_le (tgt := 252) hx hb dL_law_245 (by decide) (fun c_245 => ?_) (fun c_245 => ?_)
            · have h3 := hp_pos c_245 h3
              refine lv_iinc (v := (x13_193 + (1 : Int32))) (lv' := [(13, .int (x13_193 + (1 : Int32))), (0, .ref b), (1, .ref (ad 0)), (2, .ref a_g), (3, .ref a_k), (5, .int (r_22_ga 0)), (6, .int x6_68), (7, .int r_105), (8, .int (r_114 - (64 : Int32))), (9, .int x9_125), (10, .int y10_138), (11, .int r_181), (12, .int x12_193)]) hx hb dL_law_252 hl (k := 12) rfl rfl (by decide) rfl (fun ls hl => ?_)
              refine lv_goto (tgt := 193) hx hb dL_law_255 (by decide) ?_
              cases h3
              exact ih_193 _ _ k3 _ _ _ _ hI hP hD hS (lv_sub hl [1, 2, 3, 4, 5, 6, 7, 8, 9, 10, 11, 12, 0] rfl)
            · have h3 := hp_neg c_245 h3
              refine lv_iload hx hb dL_law_248 (lv_at hl 12 rfl) ?_
              refine lv_istore (lv' := [(12, .int x13_193), (0, .ref b), (1, .ref (ad 0)), (2, .ref a_g), (3, .ref a_k), (5, .int (r_22_ga 0)), (6, .int x6_68), (7, .int r_105), (8, .int (r_114 - (64 : Int32))), (9, .int x9_125), (10, .int y10_138), (11, .int r_181), (13, .int x13_193)]) hx hb dL_law_250 hl (by decide) rfl (fun ls hl => ?_)
              refine lv_iinc (v := (x13_193 + (1 : Int32))) (lv' := [(13, .int (x13_193 + (1 : Int32))), (12, .int x13_193), (0, .ref b), (1, .ref (ad 0)), (2, .ref a_g), (3, .ref a_k), (5, .int (r_22_ga 0)), (6, .int x6_68), (7, .int r_105), (8, .int (r_114 - (64 : Int32))), (9, .int x9_125), (10, .int y10_138), (11, .int r_181)]) hx hb dL_law_252 hl (k := 12) rfl rfl (by decide) rfl (fun ls hl => ?_)
              refine lv_goto (tgt := 193) hx hb dL_law_255 (by decide) ?_
              cases h3
              exact ih_193 _ _ k3 _ _ _ _ hI hP hD hS (lv_sub hl [2, 3, 4, 5, 6, 7, 8, 9, 10, 11, 12, 1, 0] rfl)
        · have h3 := hp_pos c_214 h3
          refine lv_goto (tgt := 252) hx hb dL_law_217 (by decide) ?_
          refine lv_iinc (v := (x13_193 + (1 : Int32))) (lv' := [(13, .int (x13_193 + (1 : Int32))), (0, .ref b), (1, .ref (ad 0)), (2, .ref a_g), (3, .ref a_k), (5, .int (r_22_ga 0)), (6, .int x6_68), (7, .int r_105), (8, .int (r_114 - (64 : Int32))), (9, .int x9_125), (10, .int y10_138), (11, .int r_181), (12, .int x12_193)]) hx hb dL_law_252 hl (k := 12) rfl rfl (by decide) rfl (fun ls hl => ?_)
          refine lv_goto (tgt := 193) hx hb dL_law_255 (by decide) ?_
          cases h3
          exact ih_193 _ _ k3 _ _ _ _ hI hP hD hS (lv_sub hl [1, 2, 3, 4, 5, 6, 7, 8, 9, 10, 11, 12, 0] rfl)
set_option maxHeartbeats 32000000 in
set_option maxRecDepth 100000 in
theorem lq_138 (C0 : lw_At p s m meth c b L xs) (hK : va_K (dC, dI) vwCl (tyW cI cS) s) (hN : Nst s) {r_22_ga : Nat → Int32} {x6_68 : Int32} {ka_68 : Nat → Int32} {ga_99j : Nat → Int32} {SS_99j : SG} {r_105 : Int32} {r_114 : Int32} {x9_125 : Int32} {y10_138 : Int32} (after_138 : ∀ (w : va_W) (H : Heap) (locs : List Loc) (ls : Array Slot), gI cI cS ad SS_99j w → va_P (dC, dI) vwCl ((a_g, .inl (cI, 38, .inl ga_99j)) :: (a_k, .inl (cI, 38, .inl ka_68)) :: w) H → va_D (fun q : Nat => s.heap.size ≤ q) ((a_g, .inl (cI, 38, .inl ga_99j)) :: (a_k, .inl (cI, 38, .inl ka_68)) :: w) → va_S (fun q : Nat => s.heap.size ≤ q) s.heap H locs → lv_has ls 19 [(0, .ref b), (1, .ref (ad 0)), (2, .ref a_g), (3, .ref a_k), (5, .int (r_22_ga 0)), (6, .int x6_68), (7, .int r_105), (8, .int (r_114 - (64 : Int32))), (9, .int x9_125), (10, .int y10_138)] → W p l e room_1 s m #[Value.ref b] below meth c H locs NCELL NSLOT (lw_Z below #[Value.ref b] s) (F0 m 178 ls [])) : ∀ (n : Nat) (x10_138 : Int32) (x11_138 : Int32), it (u2 (L_L_law_138 ga_99j x9_125)) n (x10_138, x11_138) = some y10_138 → ∀ (w : va_W) (H : Heap) (locs : List Loc) (ls : Array Slot), gI cI cS ad SS_99j w → va_P (dC, dI) vwCl ((a_g, .inl (cI, 38, .inl ga_99j)) :: (a_k, .inl (cI, 38, .inl ka_68)) :: w) H → va_D (fun q : Nat => s.heap.size ≤ q) ((a_g, .inl (cI, 38, .inl ga_99j)) :: (a_k, .inl (cI, 38, .inl ka_68)) :: w) → va_S (fun q : Nat => s.heap.size ≤ q) s.heap H locs → lv_has ls 19 [(0, .ref b), (1, .ref (ad 0)), (2, .ref a_g), (3, .ref a_k), (5, .int (r_22_ga 0)), (6, .int x6_68), (7, .int r_105), (8, .int (r_114 - (64 : Int32))), (9, .int x9_125), (10, .int x10_138), (11, .int x11_138)] → W p l e room_1 s m #[Value.ref b] below meth c H locs NCELL NSLOT (lw_Z below #[Value.ref b] s) (F0 m 138 ls []) := by
  obtain ⟨hx, hb, hr, hml, hown, hts0, hX, hbl, hlocks, hgv⟩ := id C0
  have hts : ∀ w ∈ wsL_law, w.before #[Value.ref b] s = true := fun w h => hts0 w (wsL_law_in w h)
  have hbA : ¬ (fun q : Nat => s.heap.size ≤ q) b := Nat.not_le.mpr hbl
  intro n
  induction n with
  | zero => intro x10_138 x11_138 h3 w H locs ls hI hP hD hS hl; exact (it_0 h3).elim
  | succ n ih_138 =>
    intro x10_138 x11_138 h3 w H locs ls hI hP hD hS hl
    obtain ⟨t_138, h3, k3⟩ := it2_inv h3
    unfold L_L_law_138 at h3
    refine lv_iload hx hb dL_law_138 (lv_at hl 10 rfl) ?_
    refine lv_aload_n hx hb dL_law_140 rfl (lv_at hl 2 rfl) ?_
    refine lv_iconst (v := 1) hx hb dL_law_141 (by decide) ?_
    refine va_iald (D := (dC, dI)) hx hb hK hP 0 0 rfl rfl (by decide) dL_law_142 ?_
    refine lv_icmp_ge (tgt := 178) hx hb dL_law_143 (by decide) (fun c_143 => ?_) (fun c_143 => ?_)
    · have h3 := hp_pos c_143 h3
      cases h3
      obtain rfl := pj1 k3
      exact after_138 _ _ _ _ hI hP hD hS (lv_sub hl [0, 1, 2, 3, 4, 5, 6, 7, 8, 9] rfl)
    · have h3 := hp_neg c_143 h3
      refine lv_aload_n hx hb dL_law_146 rfl (lv_at hl 2 rfl) ?_
      refine lv_bipush (v := 14) hx hb dL_law_147 (by decide) ?_
      refine lv_iload hx hb dL_law_149 (lv_at hl 10 rfl) ?_
      refine lv_iadd hx hb dL_law_151 ?_
      have g_152 := hg_no h3
      have h3 := hg_yes h3
      refine va_iald (D := (dC, dI)) hx hb hK hP 0 0 rfl rfl g_152 dL_law_152 ?_
      refine lv_iload hx hb dL_law_153 (lv_at hl 8 rfl) ?_
      refine lv_icmp_ne (tgt := 172) hx hb dL_law_155 (by decide) (fun c_155 => ?_) (fun c_155 => ?_)
      · have h3 := hp_neg c_155 h3
        refine lv_iinc (v := (x11_138 + (1 : Int32))) (lv' := [(11, .int (x11_138 + (1 : Int32))), (0, .ref b), (1, .ref (ad 0)), (2, .ref a_g), (3, .ref a_k), (5, .int (r_22_ga 0)), (6, .int x6_68), (7, .int r_105), (8, .int (r_114 - (64 : Int32))), (9, .int x9_125), (10, .int x10_138)]) hx hb dL_law_172 hl (k := 10) rfl rfl (by decide) rfl (fun ls hl => ?_)
        refine lv_goto (tgt := 138) hx hb dL_law_175 (by decide) ?_
        cases h3
        exact ih_138 _ _ k3 _ _ _ _ hI hP hD hS (lv_sub hl [1, 2, 3, 4, 5, 6, 7, 8, 9, 10, 0] rfl)
      · have h3 := hp_pos c_155 h3
        refine lv_iload hx hb dL_law_158 (lv_at hl 9 rfl) ?_
        refine lv_iconst (v := 1) hx hb dL_law_160 (by decide) ?_
        refine lv_aload_n hx hb dL_law_161 rfl (lv_at hl 2 rfl) ?_
        refine lv_bipush (v := 26) hx hb dL_law_162 (by decide) ?_
        refine lv_iload hx hb dL_law_164 (lv_at hl 10 rfl) ?_
        refine lv_iadd hx hb dL_law_166 ?_
        have g_167 := hg_no h3
        have h3 := hg_yes h3
        refine va_iald (D := (dC, dI)) hx hb hK hP 0 0 rfl rfl g_167 dL_law_167 ?_
        refine lv_ishl hx hb dL_law_168 ?_
        refine lv_ior hx hb dL_law_169 ?_
        refine lv_istore (lv' := [(10, .int (x10_138 ||| ((1 : Int32) <<< ((ga_99j ((26 : Int32) + x11_138).toNatClampNeg) &&& 31)))), (0, .ref b), (1, .ref (ad 0)), (2, .ref a_g), (3, .ref a_k), (5, .int (r_22_ga 0)), (6, .int x6_68), (7, .int r_105), (8, .int (r_114 - (64 : Int32))), (9, .int x9_125), (11, .int x11_138)]) hx hb dL_law_170 hl (by decide) rfl (fun ls hl => ?_)
        refine lv_iinc (v := (x11_138 + (1 : Int32))) (lv' := [(11, .int (x11_138 + (1 : Int32))), (10, .int (x10_138 ||| ((1 : Int32) <<< ((ga_99j ((26 : Int32) + x11_138).toNatClampNeg) &&& 31)))), (0, .ref b), (1, .ref (ad 0)), (2, .ref a_g), (3, .ref a_k), (5, .int (r_22_ga 0)), (6, .int x6_68), (7, .int r_105), (8, .int (r_114 - (64 : Int32))), (9, .int x9_125)]) hx hb dL_law_172 hl (k := 10) rfl rfl (by decide) rfl (fun ls hl => ?_)
        refine lv_goto (tgt := 138) hx hb dL_law_175 (by decide) ?_
        cases h3
        exact ih_138 _ _ k3 _ _ _ _ hI hP hD hS (lv_sub hl [2, 3, 4, 5, 6, 7, 8, 9, 10, 1, 0] rfl)
set_option maxHeartbeats 32000000 in
set_option maxRecDepth 100000 in
theorem lq_125 (C0 : lw_At p s m meth c b L xs) (hK : va_K (dC, dI) vwCl (tyW cI cS) s) (hN : Nst s) {r_22_ga : Nat → Int32} {x6_68 : Int32} {ka_68 : Nat → Int32} {ga_99j : Nat → Int32} {SS_99j : SG} {r_105 : Int32} {r_114 : Int32} (after_125 : ∀ (w : va_W) (H : Heap) (locs : List Loc) (ls : Array Slot), gI cI cS ad SS_99j w → va_P (dC, dI) vwCl ((a_g, .inl (cI, 38, .inl ga_99j)) :: (a_k, .inl (cI, 38, .inl ka_68)) :: w) H → va_D (fun q : Nat => s.heap.size ≤ q) ((a_g, .inl (cI, 38, .inl ga_99j)) :: (a_k, .inl (cI, 38, .inl ka_68)) :: w) → va_S (fun q : Nat => s.heap.size ≤ q) s.heap H locs → lv_has ls 19 [(0, .ref b), (1, .ref (ad 0)), (2, .ref a_g), (3, .ref a_k), (5, .int (r_22_ga 0)), (6, .int x6_68), (7, .int r_105), (8, .int (r_114 - (64 : Int32)))] → W p l e room_1 s m #[Value.ref b] below meth c H locs NCELL NSLOT (lw_Z below #[Value.ref b] s) (F0 m 623 ls [])) : ∀ (n : Nat) (x9_125 : Int32), it (u1 (L_L_law_125 r_22_ga ga_99j SS_99j r_114)) n x9_125 = some () → ∀ (w : va_W) (H : Heap) (locs : List Loc) (ls : Array Slot), gI cI cS ad SS_99j w → va_P (dC, dI) vwCl ((a_g, .inl (cI, 38, .inl ga_99j)) :: (a_k, .inl (cI, 38, .inl ka_68)) :: w) H → va_D (fun q : Nat => s.heap.size ≤ q) ((a_g, .inl (cI, 38, .inl ga_99j)) :: (a_k, .inl (cI, 38, .inl ka_68)) :: w) → va_S (fun q : Nat => s.heap.size ≤ q) s.heap H locs → lv_has ls 19 [(0, .ref b), (1, .ref (ad 0)), (2, .ref a_g), (3, .ref a_k), (5, .int (r_22_ga 0)), (6, .int x6_68), (7, .int r_105), (8, .int (r_114 - (64 : Int32))), (9, .int x9_125)] → W p l e room_1 s m #[Value.ref b] below meth c H locs NCELL NSLOT (lw_Z below #[Value.ref b] s) (F0 m 125 ls []) := by
  obtain ⟨hx, hb, hr, hml, hown, hts0, hX, hbl, hlocks, hgv⟩ := id C0
  have hts : ∀ w ∈ wsL_law, w.before #[Value.ref b] s = true := fun w h => hts0 w (wsL_law_in w h)
  have hbA : ¬ (fun q : Nat => s.heap.size ≤ q) b := Nat.not_le.mpr hbl
  intro n
  induction n with
  | zero => intro x9_125 h2 w H locs ls hI hP hD hS hl; exact (it_0 h2).elim
  | succ n ih_125 =>
    intro x9_125 h2 w H locs ls hI hP hD hS hl
    obtain ⟨t_125, h2, k2⟩ := it1_inv h2
    unfold L_L_law_125 at h2
    refine lv_iload hx hb dL_law_125 (lv_at hl 8 rfl) ?_
    refine lv_iload hx hb dL_law_127 (lv_at hl 4 rfl) ?_
    refine lv_icmp_ge (tgt := 623) hx hb dL_law_129 (by decide) (fun c_129 => ?_) (fun c_129 => ?_)
    · have h2 := hp_pos c_129 h2
      cases h2
      exact after_125 _ _ _ _ hI hP hD hS (lv_sub hl [0, 1, 2, 3, 4, 5, 6, 7] rfl)
    · have h2 := hp_neg c_129 h2
      refine lv_iconst (v := 0) hx hb dL_law_132 (by decide) ?_
      refine lv_istore (lv' := [(10, .int (0 : Int32)), (0, .ref b), (1, .ref (ad 0)), (2, .ref a_g), (3, .ref a_k), (5, .int (r_22_ga 0)), (6, .int x6_68), (7, .int r_105), (8, .int (r_114 - (64 : Int32))), (9, .int x9_125)]) hx hb dL_law_133 hl (by decide) rfl (fun ls hl => ?_)
      refine lv_iconst (v := 0) hx hb dL_law_135 (by decide) ?_
      refine lv_istore (lv' := [(11, .int (0 : Int32)), (10, .int (0 : Int32)), (0, .ref b), (1, .ref (ad 0)), (2, .ref a_g), (3, .ref a_k), (5, .int (r_22_ga 0)), (6, .int x6_68), (7, .int r_105), (8, .int (r_114 - (64 : Int32))), (9, .int x9_125)]) hx hb dL_law_136 hl (by decide) rfl (fun ls hl => ?_)
      obtain ⟨y10_138, i_138, h2⟩ := ob1_inv h2
      have after_138 : ∀ (w : va_W) (H : Heap) (locs : List Loc) (ls : Array Slot), gI cI cS ad SS_99j w → va_P (dC, dI) vwCl ((a_g, .inl (cI, 38, .inl ga_99j)) :: (a_k, .inl (cI, 38, .inl ka_68)) :: w) H → va_D (fun q : Nat => s.heap.size ≤ q) ((a_g, .inl (cI, 38, .inl ga_99j)) :: (a_k, .inl (cI, 38, .inl ka_68)) :: w) → va_S (fun q : Nat => s.heap.size ≤ q) s.heap H locs → lv_has ls 19 [(0, .ref b), (1, .ref (ad 0)), (2, .ref a_g), (3, .ref a_k), (5, .int (r_22_ga 0)), (6, .int x6_68), (7, .int r_105), (8, .int (r_114 - (64 : Int32))), (9, .int x9_125), (10, .int y10_138)] → W p l e room_1 s m #[Value.ref b] below meth c H locs NCELL NSLOT (lw_Z below #[Value.ref b] s) (F0 m 178 ls []) := by
        intro w H locs ls hI hP hD hS hl
        refine lv_aload_n hx hb dL_law_178 rfl (lv_at hl 2 rfl) ?_
        refine lv_iload hx hb dL_law_179 (lv_at hl 8 rfl) ?_
        obtain ⟨r_181, e_181, h2⟩ := ob1_inv h2
        refine k_pSi (rest := []) ⟨hx, hb, hml, hown, hts⟩ (c_L_before l dC dI cI cS a_g e_181) (va_cwS 2 hts gL_law_L_before rfl rfl rfl khd_L_before.2 ⟨(Nat.le_of_ble_eq_true rfl), (Nat.le_of_ble_eq_true rfl)⟩) hK hN hP hD hS [0] rfl rfl rfl hl.1 rfl (Nat.le_of_ble_eq_true rfl) dL_law_181 ⟨(Nat.le_of_ble_eq_true rfl), (Nat.le_of_ble_eq_true rfl)⟩ (fun H locs hf_181 hP hS => ?_)
        have hP : va_P (dC, dI) vwCl ((a_g, .inl (cI, 38, .inl ga_99j)) :: (a_k, .inl (cI, 38, .inl ka_68)) :: w) H := hP
        refine lv_istore (lv' := [(11, .int r_181), (0, .ref b), (1, .ref (ad 0)), (2, .ref a_g), (3, .ref a_k), (5, .int (r_22_ga 0)), (6, .int x6_68), (7, .int r_105), (8, .int (r_114 - (64 : Int32))), (9, .int x9_125), (10, .int y10_138)]) hx hb dL_law_184 hl (by decide) rfl (fun ls hl => ?_)
        refine lv_bipush (v := 6) hx hb dL_law_186 (by decide) ?_
        refine lv_istore (lv' := [(12, .int (6 : Int32)), (11, .int r_181), (0, .ref b), (1, .ref (ad 0)), (2, .ref a_g), (3, .ref a_k), (5, .int (r_22_ga 0)), (6, .int x6_68), (7, .int r_105), (8, .int (r_114 - (64 : Int32))), (9, .int x9_125), (10, .int y10_138)]) hx hb dL_law_188 hl (by decide) rfl (fun ls hl => ?_)
        refine lv_iconst (v := 0) hx hb dL_law_190 (by decide) ?_
        refine lv_istore (lv' := [(13, .int (0 : Int32)), (12, .int (6 : Int32)), (11, .int r_181), (0, .ref b), (1, .ref (ad 0)), (2, .ref a_g), (3, .ref a_k), (5, .int (r_22_ga 0)), (6, .int x6_68), (7, .int r_105), (8, .int (r_114 - (64 : Int32))), (9, .int x9_125), (10, .int y10_138)]) hx hb dL_law_191 hl (by decide) rfl (fun ls hl => ?_)
        obtain ⟨y12_193, i_193, h2⟩ := ob1_inv h2
        have after_193 : ∀ (w : va_W) (H : Heap) (locs : List Loc) (ls : Array Slot), gI cI cS ad SS_99j w → va_P (dC, dI) vwCl ((a_g, .inl (cI, 38, .inl ga_99j)) :: (a_k, .inl (cI, 38, .inl ka_68)) :: w) H → va_D (fun q : Nat => s.heap.size ≤ q) ((a_g, .inl (cI, 38, .inl ga_99j)) :: (a_k, .inl (cI, 38, .inl ka_68)) :: w) → va_S (fun q : Nat => s.heap.size ≤ q) s.heap H locs → lv_has ls 19 [(0, .ref b), (1, .ref (ad 0)), (2, .ref a_g), (3, .ref a_k), (5, .int (r_22_ga 0)), (6, .int x6_68), (7, .int r_105), (8, .int (r_114 - (64 : Int32))), (9, .int x9_125), (10, .int y10_138), (11, .int r_181), (12, .int y12_193)] → W p l e room_1 s m #[Value.ref b] below meth c H locs NCELL NSLOT (lw_Z below #[Value.ref b] s) (F0 m 258 ls []) := by
          intro w H locs ls hI hP hD hS hl
          refine lv_aload_n hx hb dL_law_258 rfl (lv_at hl 2 rfl) ?_
          refine lv_iload hx hb dL_law_259 (lv_at hl 8 rfl) ?_
          refine lv_iconst (v := -1) hx hb dL_law_261 (by decide) ?_
          obtain ⟨r_262, e_262, h2⟩ := ob1_inv h2
          refine k_pSi (rest := []) ⟨hx, hb, hml, hown, hts⟩ (c_L_come l dC dI cI cS a_g e_262) (va_cwS 3 hts gL_law_L_come rfl rfl rfl khd_L_come.2 ⟨(Nat.le_of_ble_eq_true rfl), (Nat.le_of_ble_eq_true rfl)⟩) hK hN hP hD hS [0] rfl rfl rfl hl.1 rfl (Nat.le_of_ble_eq_true rfl) dL_law_262 ⟨(Nat.le_of_ble_eq_true rfl), (Nat.le_of_ble_eq_true rfl)⟩ (fun H locs hf_262 hP hS => ?_)
          have hP : va_P (dC, dI) vwCl ((a_g, .inl (cI, 38, .inl ga_99j)) :: (a_k, .inl (cI, 38, .inl ka_68)) :: w) H := hP
          refine lv_istore (lv' := [(13, .int r_262), (0, .ref b), (1, .ref (ad 0)), (2, .ref a_g), (3, .ref a_k), (5, .int (r_22_ga 0)), (6, .int x6_68), (7, .int r_105), (8, .int (r_114 - (64 : Int32))), (9, .int x9_125), (10, .int y10_138), (11, .int r_181), (12, .int y12_193)]) hx hb dL_law_265 hl (by decide) rfl (fun ls hl => ?_)
          refine lv_iconst (v := 1) hx hb dL_law_267 (by decide) ?_
          refine lv_istore (lv' := [(14, .int (1 : Int32)), (13, .int r_262), (0, .ref b), (1, .ref (ad 0)), (2, .ref a_g), (3, .ref a_k), (5, .int (r_22_ga 0)), (6, .int x6_68), (7, .int r_105), (8, .int (r_114 - (64 : Int32))), (9, .int x9_125), (10, .int y10_138), (11, .int r_181), (12, .int y12_193)]) hx hb dL_law_268 hl (by decide) rfl (fun ls hl => ?_)
          refine lv_iconst (v := 0) hx hb dL_law_270 (by decide) ?_
          refine lv_istore (lv' := [(15, .int (0 : Int32)), (14, .int (1 : Int32)), (13, .int r_262), (0, .ref b), (1, .ref (ad 0)), (2, .ref a_g), (3, .ref a_k), (5, .int (r_22_ga 0)), (6, .int x6_68), (7, .int r_105), (8, .int (r_114 - (64 : Int32))), (9, .int x9_125), (10, .int y10_138), (11, .int r_181), (12, .int y12_193)]) hx hb dL_law_271 hl (by decide) rfl (fun ls hl => ?_)
          obtain ⟨y14_273, i_273, h2⟩ := ob1_inv h2
          have after_273 : ∀ (w : va_W) (H : Heap) (locs : List Loc) (ls : Array Slot), gI cI cS ad SS_99j w → va_P (dC, dI) vwCl ((a_g, .inl (cI, 38, .inl ga_99j)) :: (a_k, .inl (cI, 38, .inl ka_68)) :: w) H → va_D (fun q : Nat => s.heap.size ≤ q) ((a_g, .inl (cI, 38, .inl ga_99j)) :: (a_k, .inl (cI, 38, .inl ka_68)) :: w) → va_S (fun q : Nat => s.heap.size ≤ q) s.heap H locs → lv_has ls 19 [(0, .ref b), (1, .ref (ad 0)), (2, .ref a_g), (3, .ref a_k), (5, .int (r_22_ga 0)), (6, .int x6_68), (7, .int r_105), (8, .int (r_114 - (64 : Int32))), (9, .int x9_125), (10, .int y10_138), (11, .int r_181), (12, .int y12_193), (13, .int r_262), (14, .int y14_273)] → W p l e room_1 s m #[Value.ref b] below meth c H locs NCELL NSLOT (lw_Z below #[Value.ref b] s) (F0 m 333 ls []) := by
            intro w H locs ls hI hP hD hS hl
            refine lv_aload_n hx hb dL_law_333 rfl (lv_at hl 1 rfl) ?_
            refine lv_iload hx hb dL_law_334 (lv_at hl 8 rfl) ?_
            refine lv_iconst (v := 0) hx hb dL_law_336 (by decide) ?_
            obtain ⟨r_337, e_337, h2⟩ := ob1_inv h2
            refine k_GVi (pre := [(a_g, .inl (cI, 38, .inl ga_99j)), (a_k, .inl (cI, 38, .inl ka_68))]) (rest := []) ⟨hx, hb, hml, hown, hts⟩ (A_X4_ofThing l dC dI cI cS ad e_337) (cwV 2 hts gL_law_X4_ofThing rfl rfl rfl khd_X4_ofThing ⟨(Nat.le_of_ble_eq_true rfl), (Nat.le_of_ble_eq_true rfl)⟩) hK hN hI hP hD hS rfl hl.1 rfl (Nat.le_of_ble_eq_true rfl) dL_law_337 ⟨(Nat.le_of_ble_eq_true rfl), (Nat.le_of_ble_eq_true rfl)⟩ (fun H locs w hI hP hD hS => ?_)
            have hP : va_P (dC, dI) vwCl ((a_g, .inl (cI, 38, .inl ga_99j)) :: (a_k, .inl (cI, 38, .inl ka_68)) :: w) H := hP
            have hD : va_D (fun q : Nat => s.heap.size ≤ q) ((a_g, .inl (cI, 38, .inl ga_99j)) :: (a_k, .inl (cI, 38, .inl ka_68)) :: w) := hD
            refine lv_aload_n hx hb dL_law_340 rfl (lv_at hl 2 rfl) ?_
            refine lv_iconst (v := 2) hx hb dL_law_341 (by decide) ?_
            refine lv_iload hx hb dL_law_342 (lv_at hl 8 rfl) ?_
            refine lv_iadd hx hb dL_law_344 ?_
            have g_345 := hg_no h2
            have h2 := hg_yes h2
            refine va_iald (D := (dC, dI)) hx hb hK hP 0 0 rfl rfl g_345 dL_law_345 ?_
            refine lv_icmp_ne (tgt := 512) hx hb dL_law_346 (by decide) (fun c_346 => ?_) (fun c_346 => ?_)
            · have h2 := hp_neg c_346 h2
              cases h2
            · have h2 := hp_pos c_346 h2
              refine lv_aload_n hx hb dL_law_349 rfl (lv_at hl 1 rfl) ?_
              refine lv_iload hx hb dL_law_350 (lv_at hl 8 rfl) ?_
              refine lv_iconst (v := 1) hx hb dL_law_352 (by decide) ?_
              obtain ⟨r_353, e_353, h2⟩ := ob1_inv h2
              refine k_GVi (pre := [(a_g, .inl (cI, 38, .inl ga_99j)), (a_k, .inl (cI, 38, .inl ka_68))]) (rest := []) ⟨hx, hb, hml, hown, hts⟩ (A_X4_ofThing l dC dI cI cS ad e_353) (cwV 2 hts gL_law_X4_ofThing rfl rfl rfl khd_X4_ofThing ⟨(Nat.le_of_ble_eq_true rfl), (Nat.le_of_ble_eq_true rfl)⟩) hK hN hI hP hD hS rfl hl.1 rfl (Nat.le_of_ble_eq_true rfl) dL_law_353 ⟨(Nat.le_of_ble_eq_true rfl), (Nat.le_of_ble_eq_true rfl)⟩ (fun H locs w hI hP hD hS => ?_)
              have hP : va_P (dC, dI) vwCl ((a_g, .inl (cI, 38, .inl ga_99j)) :: (a_k, .inl (cI, 38, .inl ka_68)) :: w) H := hP
              have hD : va_D (fun q : Nat => s.heap.size ≤ q) ((a_g, .inl (cI, 38, .inl ga_99j)) :: (a_k, .inl (cI, 38, .inl ka_68)) :: w) := hD
              refine lv_aload_n hx hb dL_law_356 rfl (lv_at hl 2 rfl) ?_
              refine lv_bipush (v := 8) hx hb dL_law_357 (by decide) ?_
              refine lv_iload hx hb dL_law_359 (lv_at hl 8 rfl) ?_
              refine lv_iadd hx hb dL_law_361 ?_
              have g_362 := hg_no h2
              have h2 := hg_yes h2
              refine va_iald (D := (dC, dI)) hx hb hK hP 0 0 rfl rfl g_362 dL_law_362 ?_
              refine lv_icmp_ne (tgt := 512) hx hb dL_law_363 (by decide) (fun c_363 => ?_) (fun c_363 => ?_)
              · have h2 := hp_neg c_363 h2
                cases h2
              · have h2 := hp_pos c_363 h2
                refine lv_aload_n hx hb dL_law_366 rfl (lv_at hl 1 rfl) ?_
                refine lv_iload hx hb dL_law_367 (lv_at hl 8 rfl) ?_
                refine lv_iconst (v := 2) hx hb dL_law_369 (by decide) ?_
                obtain ⟨r_370, e_370, h2⟩ := ob1_inv h2
                refine k_GVi (pre := [(a_g, .inl (cI, 38, .inl ga_99j)), (a_k, .inl (cI, 38, .inl ka_68))]) (rest := []) ⟨hx, hb, hml, hown, hts⟩ (A_X4_ofThing l dC dI cI cS ad e_370) (cwV 2 hts gL_law_X4_ofThing rfl rfl rfl khd_X4_ofThing ⟨(Nat.le_of_ble_eq_true rfl), (Nat.le_of_ble_eq_true rfl)⟩) hK hN hI hP hD hS rfl hl.1 rfl (Nat.le_of_ble_eq_true rfl) dL_law_370 ⟨(Nat.le_of_ble_eq_true rfl), (Nat.le_of_ble_eq_true rfl)⟩ (fun H locs w hI hP hD hS => ?_)
                have hP : va_P (dC, dI) vwCl ((a_g, .inl (cI, 38, .inl ga_99j)) :: (a_k, .inl (cI, 38, .inl ka_68)) :: w) H := hP
                have hD : va_D (fun q : Nat => s.heap.size ≤ q) ((a_g, .inl (cI, 38, .inl ga_99j)) :: (a_k, .inl (cI, 38, .inl ka_68)) :: w) := hD
                refine lv_aload_n hx hb dL_law_373 rfl (lv_at hl 2 rfl) ?_
                refine lv_iload hx hb dL_law_374 (lv_at hl 8 rfl) ?_
                obtain ⟨r_376, e_376, h2⟩ := ob1_inv h2
                refine k_pSi (rest := [.int r_370]) ⟨hx, hb, hml, hown, hts⟩ (c_L_level l dC dI cI cS a_g e_376) (va_cwS 2 hts gL_law_L_level rfl rfl rfl khd_L_level.2 ⟨(Nat.le_of_ble_eq_true rfl), (Nat.le_of_ble_eq_true rfl)⟩) hK hN hP hD hS [0] rfl rfl rfl hl.1 rfl (Nat.le_of_ble_eq_true rfl) dL_law_376 ⟨(Nat.le_of_ble_eq_true rfl), (Nat.le_of_ble_eq_true rfl)⟩ (fun H locs hf_376 hP hS => ?_)
                have hP : va_P (dC, dI) vwCl ((a_g, .inl (cI, 38, .inl ga_99j)) :: (a_k, .inl (cI, 38, .inl ka_68)) :: w) H := hP
                refine lv_icmp_ne (tgt := 512) hx hb dL_law_379 (by decide) (fun c_379 => ?_) (fun c_379 => ?_)
                · have h2 := hp_neg c_379 h2
                  cases h2
                · have h2 := hp_pos c_379 h2
                  refine lv_aload_n hx hb dL_law_382 rfl (lv_at hl 1 rfl) ?_
                  refine lv_iload hx hb dL_law_383 (lv_at hl 8 rfl) ?_
                  refine lv_iconst (v := 3) hx hb dL_law_385 (by decide) ?_
                  obtain ⟨r_386, e_386, h2⟩ := ob1_inv h2
                  refine k_GVi (pre := [(a_g, .inl (cI, 38, .inl ga_99j)), (a_k, .inl (cI, 38, .inl ka_68))]) (rest := []) ⟨hx, hb, hml, hown, hts⟩ (A_X4_ofThing l dC dI cI cS ad e_386) (cwV 2 hts gL_law_X4_ofThing rfl rfl rfl khd_X4_ofThing ⟨(Nat.le_of_ble_eq_true rfl), (Nat.le_of_ble_eq_true rfl)⟩) hK hN hI hP hD hS rfl hl.1 rfl (Nat.le_of_ble_eq_true rfl) dL_law_386 ⟨(Nat.le_of_ble_eq_true rfl), (Nat.le_of_ble_eq_true rfl)⟩ (fun H locs w hI hP hD hS => ?_)
                  have hP : va_P (dC, dI) vwCl ((a_g, .inl (cI, 38, .inl ga_99j)) :: (a_k, .inl (cI, 38, .inl ka_68)) :: w) H := hP
                  have hD : va_D (fun q : Nat => s.heap.size ≤ q) ((a_g, .inl (cI, 38, .inl ga_99j)) :: (a_k, .inl (cI, 38, .inl ka_68)) :: w) := hD
                  refine lv_aload_n hx hb dL_law_389 rfl (lv_at hl 2 rfl) ?_
                  refine lv_iload hx hb dL_law_390 (lv_at hl 8 rfl) ?_
                  obtain ⟨r_392, e_392, h2⟩ := ob1_inv h2
                  refine k_pSi (rest := [.int r_386]) ⟨hx, hb, hml, hown, hts⟩ (c_L_lock l dC dI cI cS a_g e_392) (va_cwS 2 hts gL_law_L_lock rfl rfl rfl khd_L_lock.2 ⟨(Nat.le_of_ble_eq_true rfl), (Nat.le_of_ble_eq_true rfl)⟩) hK hN hP hD hS [0] rfl rfl rfl hl.1 rfl (Nat.le_of_ble_eq_true rfl) dL_law_392 ⟨(Nat.le_of_ble_eq_true rfl), (Nat.le_of_ble_eq_true rfl)⟩ (fun H locs hf_392 hP hS => ?_)
                  have hP : va_P (dC, dI) vwCl ((a_g, .inl (cI, 38, .inl ga_99j)) :: (a_k, .inl (cI, 38, .inl ka_68)) :: w) H := hP
                  refine lv_icmp_ne (tgt := 512) hx hb dL_law_395 (by decide) (fun c_395 => ?_) (fun c_395 => ?_)
                  · have h2 := hp_neg c_395 h2
                    cases h2
                  · have h2 := hp_pos c_395 h2
                    refine lv_aload_n hx hb dL_law_398 rfl (lv_at hl 1 rfl) ?_
                    refine lv_iload hx hb dL_law_399 (lv_at hl 8 rfl) ?_
                    refine lv_iconst (v := 4) hx hb dL_law_401 (by decide) ?_
                    obtain ⟨r_402, e_402, h2⟩ := ob1_inv h2
                    refine k_GVi (pre := [(a_g, .inl (cI, 38, .inl ga_99j)), (a_k, .inl (cI, 38, .inl ka_68))]) (rest := []) ⟨hx, hb, hml, hown, hts⟩ (A_X4_ofThing l dC dI cI cS ad e_402) (cwV 2 hts gL_law_X4_ofThing rfl rfl rfl khd_X4_ofThing ⟨(Nat.le_of_ble_eq_true rfl), (Nat.le_of_ble_eq_true rfl)⟩) hK hN hI hP hD hS rfl hl.1 rfl (Nat.le_of_ble_eq_true rfl) dL_law_402 ⟨(Nat.le_of_ble_eq_true rfl), (Nat.le_of_ble_eq_true rfl)⟩ (fun H locs w hI hP hD hS => ?_)
                    have hP : va_P (dC, dI) vwCl ((a_g, .inl (cI, 38, .inl ga_99j)) :: (a_k, .inl (cI, 38, .inl ka_68)) :: w) H := hP
                    have hD : va_D (fun q : Nat => s.heap.size ≤ q) ((a_g, .inl (cI, 38, .inl ga_99j)) :: (a_k, .inl (cI, 38, .inl ka_68)) :: w) := hD
                    refine lv_iload hx hb dL_law_405 (lv_at hl 9 rfl) ?_
                    refine lv_icmp_ne (tgt := 512) hx hb dL_law_407 (by decide) (fun c_407 => ?_) (fun c_407 => ?_)
                    · have h2 := hp_neg c_407 h2
                      cases h2
                    · have h2 := hp_pos c_407 h2
                      refine lv_aload_n hx hb dL_law_410 rfl (lv_at hl 1 rfl) ?_
                      refine lv_iload hx hb dL_law_411 (lv_at hl 8 rfl) ?_
                      refine lv_iconst (v := 5) hx hb dL_law_413 (by decide) ?_
                      obtain ⟨r_414, e_414, h2⟩ := ob1_inv h2
                      refine k_GVi (pre := [(a_g, .inl (cI, 38, .inl ga_99j)), (a_k, .inl (cI, 38, .inl ka_68))]) (rest := []) ⟨hx, hb, hml, hown, hts⟩ (A_X4_ofThing l dC dI cI cS ad e_414) (cwV 2 hts gL_law_X4_ofThing rfl rfl rfl khd_X4_ofThing ⟨(Nat.le_of_ble_eq_true rfl), (Nat.le_of_ble_eq_true rfl)⟩) hK hN hI hP hD hS rfl hl.1 rfl (Nat.le_of_ble_eq_true rfl) dL_law_414 ⟨(Nat.le_of_ble_eq_true rfl), (Nat.le_of_ble_eq_true rfl)⟩ (fun H locs w hI hP hD hS => ?_)
                      have hP : va_P (dC, dI) vwCl ((a_g, .inl (cI, 38, .inl ga_99j)) :: (a_k, .inl (cI, 38, .inl ka_68)) :: w) H := hP
                      have hD : va_D (fun q : Nat => s.heap.size ≤ q) ((a_g, .inl (cI, 38, .inl ga_99j)) :: (a_k, .inl (cI, 38, .inl ka_68)) :: w) := hD
                      refine lv_iload hx hb dL_law_417 (lv_at hl 7 rfl) ?_
                      refine lv_iload hx hb dL_law_419 (lv_at hl 8 rfl) ?_
                      refine lv_ishr hx hb dL_law_421 ?_
                      refine lv_iconst (v := 1) hx hb dL_law_422 (by decide) ?_
                      refine lv_iand hx hb dL_law_423 ?_
                      refine lv_icmp_ne (tgt := 512) hx hb dL_law_424 (by decide) (fun c_424 => ?_) (fun c_424 => ?_)
                      · have h2 := hp_neg c_424 h2
                        cases h2
                      · have h2 := hp_pos c_424 h2
                        refine lv_aload_n hx hb dL_law_427 rfl (lv_at hl 1 rfl) ?_
                        refine lv_iload hx hb dL_law_428 (lv_at hl 8 rfl) ?_
                        refine lv_bipush (v := 6) hx hb dL_law_430 (by decide) ?_
                        obtain ⟨r_432, e_432, h2⟩ := ob1_inv h2
                        refine k_GVi (pre := [(a_g, .inl (cI, 38, .inl ga_99j)), (a_k, .inl (cI, 38, .inl ka_68))]) (rest := []) ⟨hx, hb, hml, hown, hts⟩ (A_X4_ofThing l dC dI cI cS ad e_432) (cwV 2 hts gL_law_X4_ofThing rfl rfl rfl khd_X4_ofThing ⟨(Nat.le_of_ble_eq_true rfl), (Nat.le_of_ble_eq_true rfl)⟩) hK hN hI hP hD hS rfl hl.1 rfl (Nat.le_of_ble_eq_true rfl) dL_law_432 ⟨(Nat.le_of_ble_eq_true rfl), (Nat.le_of_ble_eq_true rfl)⟩ (fun H locs w hI hP hD hS => ?_)
                        have hP : va_P (dC, dI) vwCl ((a_g, .inl (cI, 38, .inl ga_99j)) :: (a_k, .inl (cI, 38, .inl ka_68)) :: w) H := hP
                        have hD : va_D (fun q : Nat => s.heap.size ≤ q) ((a_g, .inl (cI, 38, .inl ga_99j)) :: (a_k, .inl (cI, 38, .inl ka_68)) :: w) := hD
                        refine lv_iload hx hb dL_law_435 (lv_at hl 10 rfl) ?_
                        refine lv_icmp_ne (tgt := 512) hx hb dL_law_437 (by decide) (fun c_437 => ?_) (fun c_437 => ?_)
                        · have h2 := hp_neg c_437 h2
                          cases h2
                        · have h2 := hp_pos c_437 h2
                          refine lv_aload_n hx hb dL_law_440 rfl (lv_at hl 1 rfl) ?_
                          refine lv_iload hx hb dL_law_441 (lv_at hl 8 rfl) ?_
                          refine lv_bipush (v := 7) hx hb dL_law_443 (by decide) ?_
                          obtain ⟨r_445, e_445, h2⟩ := ob1_inv h2
                          refine k_GVi (pre := [(a_g, .inl (cI, 38, .inl ga_99j)), (a_k, .inl (cI, 38, .inl ka_68))]) (rest := []) ⟨hx, hb, hml, hown, hts⟩ (A_X4_ofThing l dC dI cI cS ad e_445) (cwV 2 hts gL_law_X4_ofThing rfl rfl rfl khd_X4_ofThing ⟨(Nat.le_of_ble_eq_true rfl), (Nat.le_of_ble_eq_true rfl)⟩) hK hN hI hP hD hS rfl hl.1 rfl (Nat.le_of_ble_eq_true rfl) dL_law_445 ⟨(Nat.le_of_ble_eq_true rfl), (Nat.le_of_ble_eq_true rfl)⟩ (fun H locs w hI hP hD hS => ?_)
                          have hP : va_P (dC, dI) vwCl ((a_g, .inl (cI, 38, .inl ga_99j)) :: (a_k, .inl (cI, 38, .inl ka_68)) :: w) H := hP
                          have hD : va_D (fun q : Nat => s.heap.size ≤ q) ((a_g, .inl (cI, 38, .inl ga_99j)) :: (a_k, .inl (cI, 38, .inl ka_68)) :: w) := hD
                          refine lv_aload_n hx hb dL_law_448 rfl (lv_at hl 2 rfl) ?_
                          refine lv_iload hx hb dL_law_449 (lv_at hl 8 rfl) ?_
                          obtain ⟨r_451, e_451, h2⟩ := ob1_inv h2
                          refine k_pSi (rest := [.int r_445]) ⟨hx, hb, hml, hown, hts⟩ (c_L_lawful l dC dI cI cS a_g e_451) (va_cwS 2 hts gL_law_L_lawful rfl rfl rfl khd_L_lawful.2 ⟨(Nat.le_of_ble_eq_true rfl), (Nat.le_of_ble_eq_true rfl)⟩) hK hN hP hD hS [0] rfl rfl rfl hl.1 rfl (Nat.le_of_ble_eq_true rfl) dL_law_451 ⟨(Nat.le_of_ble_eq_true rfl), (Nat.le_of_ble_eq_true rfl)⟩ (fun H locs hf_451 hP hS => ?_)
                          have hP : va_P (dC, dI) vwCl ((a_g, .inl (cI, 38, .inl ga_99j)) :: (a_k, .inl (cI, 38, .inl ka_68)) :: w) H := hP
                          obtain ⟨u0_462, i_462, h2⟩ := ob1_inv h2
                          have after_462 : ∀ (w : va_W) (H : Heap) (locs : List Loc) (ls : Array Slot), gI cI cS ad SS_99j w → va_P (dC, dI) vwCl ((a_g, .inl (cI, 38, .inl ga_99j)) :: (a_k, .inl (cI, 38, .inl ka_68)) :: w) H → va_D (fun q : Nat => s.heap.size ≤ q) ((a_g, .inl (cI, 38, .inl ga_99j)) :: (a_k, .inl (cI, 38, .inl ka_68)) :: w) → va_S (fun q : Nat => s.heap.size ≤ q) s.heap H locs → lv_has ls 19 [(0, .ref b), (1, .ref (ad 0)), (2, .ref a_g), (3, .ref a_k), (5, .int (r_22_ga 0)), (6, .int x6_68), (7, .int r_105), (8, .int (r_114 - (64 : Int32))), (9, .int x9_125), (12, .int y12_193), (13, .int r_262), (14, .int y14_273)] → W p l e room_1 s m #[Value.ref b] below meth c H locs NCELL NSLOT (lw_Z below #[Value.ref b] s) (F0 m 462 ls [.int u0_462, .int r_445]) := by
                            intro w H locs ls hI hP hD hS hl
                            refine lv_icmp_ne (tgt := 512) hx hb dL_law_462 (by decide) (fun c_462 => ?_) (fun c_462 => ?_)
                            · have h2 := hp_neg c_462 h2
                              cases h2
                            · have h2 := hp_pos c_462 h2
                              refine lv_aload_n hx hb dL_law_465 rfl (lv_at hl 1 rfl) ?_
                              refine lv_iload hx hb dL_law_466 (lv_at hl 8 rfl) ?_
                              refine lv_bipush (v := 8) hx hb dL_law_468 (by decide) ?_
                              obtain ⟨r_470, e_470, h2⟩ := ob1_inv h2
                              refine k_GVi (pre := [(a_g, .inl (cI, 38, .inl ga_99j)), (a_k, .inl (cI, 38, .inl ka_68))]) (rest := []) ⟨hx, hb, hml, hown, hts⟩ (A_X4_ofThing l dC dI cI cS ad e_470) (cwV 2 hts gL_law_X4_ofThing rfl rfl rfl khd_X4_ofThing ⟨(Nat.le_of_ble_eq_true rfl), (Nat.le_of_ble_eq_true rfl)⟩) hK hN hI hP hD hS rfl hl.1 rfl (Nat.le_of_ble_eq_true rfl) dL_law_470 ⟨(Nat.le_of_ble_eq_true rfl), (Nat.le_of_ble_eq_true rfl)⟩ (fun H locs w hI hP hD hS => ?_)
                              have hP : va_P (dC, dI) vwCl ((a_g, .inl (cI, 38, .inl ga_99j)) :: (a_k, .inl (cI, 38, .inl ka_68)) :: w) H := hP
                              have hD : va_D (fun q : Nat => s.heap.size ≤ q) ((a_g, .inl (cI, 38, .inl ga_99j)) :: (a_k, .inl (cI, 38, .inl ka_68)) :: w) := hD
                              refine lv_iload hx hb dL_law_473 (lv_at hl 9 rfl) ?_
                              refine lv_icmp_ne (tgt := 512) hx hb dL_law_475 (by decide) (fun c_475 => ?_) (fun c_475 => ?_)
                              · have h2 := hp_neg c_475 h2
                                cases h2
                              · have h2 := hp_pos c_475 h2
                                refine lv_aload_n hx hb dL_law_478 rfl (lv_at hl 1 rfl) ?_
                                refine lv_iload hx hb dL_law_479 (lv_at hl 8 rfl) ?_
                                refine lv_bipush (v := 9) hx hb dL_law_481 (by decide) ?_
                                obtain ⟨r_483, e_483, h2⟩ := ob1_inv h2
                                refine k_GVi (pre := [(a_g, .inl (cI, 38, .inl ga_99j)), (a_k, .inl (cI, 38, .inl ka_68))]) (rest := []) ⟨hx, hb, hml, hown, hts⟩ (A_X4_ofThing l dC dI cI cS ad e_483) (cwV 2 hts gL_law_X4_ofThing rfl rfl rfl khd_X4_ofThing ⟨(Nat.le_of_ble_eq_true rfl), (Nat.le_of_ble_eq_true rfl)⟩) hK hN hI hP hD hS rfl hl.1 rfl (Nat.le_of_ble_eq_true rfl) dL_law_483 ⟨(Nat.le_of_ble_eq_true rfl), (Nat.le_of_ble_eq_true rfl)⟩ (fun H locs w hI hP hD hS => ?_)
                                have hP : va_P (dC, dI) vwCl ((a_g, .inl (cI, 38, .inl ga_99j)) :: (a_k, .inl (cI, 38, .inl ka_68)) :: w) H := hP
                                have hD : va_D (fun q : Nat => s.heap.size ≤ q) ((a_g, .inl (cI, 38, .inl ga_99j)) :: (a_k, .inl (cI, 38, .inl ka_68)) :: w) := hD
                                refine lv_iload hx hb dL_law_486 (lv_at hl 10 rfl) ?_
                                refine lv_icmp_ne (tgt := 512) hx hb dL_law_488 (by decide) (fun c_488 => ?_) (fun c_488 => ?_)
                                · have h2 := hp_neg c_488 h2
                                  cases h2
                                · have h2 := hp_pos c_488 h2
                                  refine lv_aload_n hx hb dL_law_491 rfl (lv_at hl 1 rfl) ?_
                                  refine lv_iload hx hb dL_law_492 (lv_at hl 8 rfl) ?_
                                  refine lv_bipush (v := 10) hx hb dL_law_494 (by decide) ?_
                                  obtain ⟨r_496, e_496, h2⟩ := ob1_inv h2
                                  refine k_GVi (pre := [(a_g, .inl (cI, 38, .inl ga_99j)), (a_k, .inl (cI, 38, .inl ka_68))]) (rest := []) ⟨hx, hb, hml, hown, hts⟩ (A_X4_ofThing l dC dI cI cS ad e_496) (cwV 2 hts gL_law_X4_ofThing rfl rfl rfl khd_X4_ofThing ⟨(Nat.le_of_ble_eq_true rfl), (Nat.le_of_ble_eq_true rfl)⟩) hK hN hI hP hD hS rfl hl.1 rfl (Nat.le_of_ble_eq_true rfl) dL_law_496 ⟨(Nat.le_of_ble_eq_true rfl), (Nat.le_of_ble_eq_true rfl)⟩ (fun H locs w hI hP hD hS => ?_)
                                  have hP : va_P (dC, dI) vwCl ((a_g, .inl (cI, 38, .inl ga_99j)) :: (a_k, .inl (cI, 38, .inl ka_68)) :: w) H := hP
                                  have hD : va_D (fun q : Nat => s.heap.size ≤ q) ((a_g, .inl (cI, 38, .inl ga_99j)) :: (a_k, .inl (cI, 38, .inl ka_68)) :: w) := hD
                                  refine lv_iload hx hb dL_law_499 (lv_at hl 11 rfl) ?_
                                  obtain ⟨u0_509, i_509, h2⟩ := ob1_inv h2
                                  have after_509 : ∀ (w : va_W) (H : Heap) (locs : List Loc) (ls : Array Slot), gI cI cS ad SS_99j w → va_P (dC, dI) vwCl ((a_g, .inl (cI, 38, .inl ga_99j)) :: (a_k, .inl (cI, 38, .inl ka_68)) :: w) H → va_D (fun q : Nat => s.heap.size ≤ q) ((a_g, .inl (cI, 38, .inl ga_99j)) :: (a_k, .inl (cI, 38, .inl ka_68)) :: w) → va_S (fun q : Nat => s.heap.size ≤ q) s.heap H locs → lv_has ls 19 [(0, .ref b), (1, .ref (ad 0)), (2, .ref a_g), (3, .ref a_k), (5, .int (r_22_ga 0)), (6, .int x6_68), (7, .int r_105), (8, .int (r_114 - (64 : Int32))), (9, .int x9_125)] → W p l e room_1 s m #[Value.ref b] below meth c H locs NCELL NSLOT (lw_Z below #[Value.ref b] s) (F0 m 509 ls [.int u0_509, .int r_496]) := by
                                    intro w H locs ls hI hP hD hS hl
                                    refine lv_icmp_eq (tgt := 514) hx hb dL_law_509 (by decide) (fun c_509 => ?_) (fun c_509 => ?_)
                                    · have h2 := hp_pos c_509 h2
                                      refine lv_iconst (v := 0) hx hb dL_law_514 (by decide) ?_
                                      refine lv_istore (lv' := [(15, .int (0 : Int32)), (0, .ref b), (1, .ref (ad 0)), (2, .ref a_g), (3, .ref a_k), (5, .int (r_22_ga 0)), (6, .int x6_68), (7, .int r_105), (8, .int (r_114 - (64 : Int32))), (9, .int x9_125)]) hx hb dL_law_515 hl (by decide) rfl (fun ls hl => ?_)
                                      obtain ⟨i_517, h2⟩ := ob0_inv h2
                                      have after_517 : ∀ (w : va_W) (H : Heap) (locs : List Loc) (ls : Array Slot), gI cI cS ad SS_99j w → va_P (dC, dI) vwCl ((a_g, .inl (cI, 38, .inl ga_99j)) :: (a_k, .inl (cI, 38, .inl ka_68)) :: w) H → va_D (fun q : Nat => s.heap.size ≤ q) ((a_g, .inl (cI, 38, .inl ga_99j)) :: (a_k, .inl (cI, 38, .inl ka_68)) :: w) → va_S (fun q : Nat => s.heap.size ≤ q) s.heap H locs → lv_has ls 19 [(0, .ref b), (1, .ref (ad 0)), (2, .ref a_g), (3, .ref a_k), (5, .int (r_22_ga 0)), (6, .int x6_68), (7, .int r_105), (8, .int (r_114 - (64 : Int32))), (9, .int x9_125)] → W p l e room_1 s m #[Value.ref b] below meth c H locs NCELL NSLOT (lw_Z below #[Value.ref b] s) (F0 m 617 ls []) := by
                                        intro w H locs ls hI hP hD hS hl
                                        refine lv_iinc (v := (x9_125 + (1 : Int32))) (lv' := [(9, .int (x9_125 + (1 : Int32))), (0, .ref b), (1, .ref (ad 0)), (2, .ref a_g), (3, .ref a_k), (5, .int (r_22_ga 0)), (6, .int x6_68), (7, .int r_105), (8, .int (r_114 - (64 : Int32)))]) hx hb dL_law_617 hl (k := 8) rfl rfl (by decide) rfl (fun ls hl => ?_)
                                        refine lv_goto (tgt := 125) hx hb dL_law_620 (by decide) ?_
                                        cases h2
                                        exact ih_125 _ k2 _ _ _ _ hI hP hD hS (lv_sub hl [1, 2, 3, 4, 5, 6, 7, 8, 0] rfl)
                                      exact lq_517 C0 hK hN after_517 FUEL _ i_517 _ _ _ _ hI hP hD hS (lv_sub hl [1, 2, 3, 4, 5, 6, 7, 8, 9, 0] rfl)
                                    · have h2 := hp_neg c_509 h2
                                      cases h2
                                  have h3 := i_509
                                  refine lv_if_eq (tgt := 508) hx hb dL_law_501 (by decide) (fun c_501 => ?_) (fun c_501 => ?_)
                                  · have h3 := hp_pos c_501 h3
                                    refine lv_iconst (v := 0) hx hb dL_law_508 (by decide) ?_
                                    obtain rfl := Option.some.inj h3
                                    exact after_509 _ _ _ _ hI hP hD hS (lv_sub hl [0, 1, 2, 3, 4, 5, 6, 7, 8] rfl)
                                  · have h3 := hp_neg c_501 h3
                                    refine lv_iconst (v := 1) hx hb dL_law_504 (by decide) ?_
                                    refine lv_goto (tgt := 509) hx hb dL_law_505 (by decide) ?_
                                    obtain rfl := Option.some.inj h3
                                    exact after_509 _ _ _ _ hI hP hD hS (lv_sub hl [0, 1, 2, 3, 4, 5, 6, 7, 8] rfl)
                          have h3 := i_462
                          refine lv_if_eq (tgt := 461) hx hb dL_law_454 (by decide) (fun c_454 => ?_) (fun c_454 => ?_)
                          · have h3 := hp_pos c_454 h3
                            refine lv_iconst (v := 0) hx hb dL_law_461 (by decide) ?_
                            obtain rfl := Option.some.inj h3
                            exact after_462 _ _ _ _ hI hP hD hS (lv_sub hl [0, 1, 2, 3, 4, 5, 6, 7, 8, 11, 12, 13] rfl)
                          · have h3 := hp_neg c_454 h3
                            refine lv_iconst (v := 1) hx hb dL_law_457 (by decide) ?_
                            refine lv_goto (tgt := 462) hx hb dL_law_458 (by decide) ?_
                            obtain rfl := Option.some.inj h3
                            exact after_462 _ _ _ _ hI hP hD hS (lv_sub hl [0, 1, 2, 3, 4, 5, 6, 7, 8, 11, 12, 13] rfl)
          exact lq_273 C0 hK hN after_273 FUEL _ _ i_273 _ _ _ _ hI hP hD hS (lv_sub hl [3, 4, 5, 6, 7, 8, 9, 10, 11, 12, 13, 14, 2, 1, 0] rfl)
        exact lq_193 C0 hK hN after_193 FUEL _ _ i_193 _ _ _ _ hI hP hD hS (lv_sub hl [3, 4, 5, 6, 7, 8, 9, 10, 11, 12, 2, 1, 0] rfl)
      exact lq_138 C0 hK hN after_138 FUEL _ _ i_138 _ _ _ _ hI hP hD hS (lv_sub hl [2, 3, 4, 5, 6, 7, 8, 9, 10, 1, 0] rfl)
set_option maxHeartbeats 32000000 in
set_option maxRecDepth 100000 in
theorem lq_68 (C0 : lw_At p s m meth c b L xs) (hK : va_K (dC, dI) vwCl (tyW cI cS) s) (hN : Nst s) {r_22_ga : Nat → Int32} {ga_68e : Nat → Int32} {ka_68e : Nat → Int32} {SS_68e : SG} (after_68 : ∀ (w : va_W) (H : Heap) (locs : List Loc) (ls : Array Slot), gI cI cS ad SS_68e w → va_P (dC, dI) vwCl ((a_g, .inl (cI, 38, .inl ga_68e)) :: (a_k, .inl (cI, 38, .inl ka_68e)) :: w) H → va_D (fun q : Nat => s.heap.size ≤ q) ((a_g, .inl (cI, 38, .inl ga_68e)) :: (a_k, .inl (cI, 38, .inl ka_68e)) :: w) → va_S (fun q : Nat => s.heap.size ≤ q) s.heap H locs → lv_has ls 19 [(1, .ref (ad 0)), (2, .ref a_g), (5, .int (r_22_ga 0))] → W p l e room_1 s m #[Value.ref b] below meth c H locs NCELL NSLOT (lw_Z below #[Value.ref b] s) (F0 m 1411 ls [])) : ∀ (n : Nat) (x6_68 : Int32) (ga_68 : Nat → Int32) (ka_68 : Nat → Int32) (SS_68 : SG), it (u4 (L_L_law_68 L xs r_22_ga)) n (x6_68, ga_68, ka_68, SS_68) = some (ga_68e, ka_68e, SS_68e) → ∀ (w : va_W) (H : Heap) (locs : List Loc) (ls : Array Slot), gI cI cS ad SS_68 w → va_P (dC, dI) vwCl ((a_g, .inl (cI, 38, .inl ga_68)) :: (a_k, .inl (cI, 38, .inl ka_68)) :: w) H → va_D (fun q : Nat => s.heap.size ≤ q) ((a_g, .inl (cI, 38, .inl ga_68)) :: (a_k, .inl (cI, 38, .inl ka_68)) :: w) → va_S (fun q : Nat => s.heap.size ≤ q) s.heap H locs → lv_has ls 19 [(0, .ref b), (1, .ref (ad 0)), (2, .ref a_g), (3, .ref a_k), (5, .int (r_22_ga 0)), (6, .int x6_68)] → W p l e room_1 s m #[Value.ref b] below meth c H locs NCELL NSLOT (lw_Z below #[Value.ref b] s) (F0 m 68 ls []) := by
  obtain ⟨hx, hb, hr, hml, hown, hts0, hX, hbl, hlocks, hgv⟩ := id C0
  have hts : ∀ w ∈ wsL_law, w.before #[Value.ref b] s = true := fun w h => hts0 w (wsL_law_in w h)
  have hbA : ¬ (fun q : Nat => s.heap.size ≤ q) b := Nat.not_le.mpr hbl
  intro n
  induction n with
  | zero => intro x6_68 ga_68 ka_68 SS_68 h1 w H locs ls hI hP hD hS hl; exact (it_0 h1).elim
  | succ n ih_68 =>
    intro x6_68 ga_68 ka_68 SS_68 h1 w H locs ls hI hP hD hS hl
    obtain ⟨t_68, h1, k1⟩ := it4_inv h1
    unfold L_L_law_68 at h1
    refine lv_iload hx hb dL_law_68 (lv_at hl 5 rfl) ?_
    refine lv_bipush (v := 7) hx hb dL_law_70 (by decide) ?_
    refine lv_icmp_ge (tgt := 1411) hx hb dL_law_72 (by decide) (fun c_72 => ?_) (fun c_72 => ?_)
    · have h1 := hp_pos c_72 h1
      cases h1
      obtain ⟨rfl, rfl, rfl⟩ := pj3 k1
      exact after_68 _ _ _ _ hI hP hD hS (lv_sub hl [1, 2, 4] rfl)
    · have h1 := hp_neg c_72 h1
      refine lv_iload hx hb dL_law_75 (lv_at hl 5 rfl) ?_
      obtain ⟨ga_99j, SS_99j, i_99, h1⟩ := ob2_inv h1
      have after_99 : ∀ (w : va_W) (H : Heap) (locs : List Loc) (ls : Array Slot), gI cI cS ad SS_99j w → va_P (dC, dI) vwCl ((a_g, .inl (cI, 38, .inl ga_99j)) :: (a_k, .inl (cI, 38, .inl ka_68)) :: w) H → va_D (fun q : Nat => s.heap.size ≤ q) ((a_g, .inl (cI, 38, .inl ga_99j)) :: (a_k, .inl (cI, 38, .inl ka_68)) :: w) → va_S (fun q : Nat => s.heap.size ≤ q) s.heap H locs → lv_has ls 19 [(0, .ref b), (1, .ref (ad 0)), (2, .ref a_g), (3, .ref a_k), (5, .int (r_22_ga 0)), (6, .int x6_68)] → W p l e room_1 s m #[Value.ref b] below meth c H locs NCELL NSLOT (lw_Z below #[Value.ref b] s) (F0 m 99 ls []) := by
        intro w H locs ls hI hP hD hS hl
        refine lv_aload_n hx hb dL_law_99 rfl (lv_at hl 0 rfl) ?_
        refine lv_bipush (v := 13) hx hb dL_law_100 (by decide) ?_
        refine lv_iload hx hb dL_law_102 (lv_at hl 5 rfl) ?_
        refine lv_iadd hx hb dL_law_104 ?_
        obtain ⟨r_105, e_105, h1⟩ := ob1_inv h1
        refine k_XSi (rest := []) ⟨hx, hb, hml, hown, hts⟩ (c_L_cell l e_105) (va_cwS 2 hts gL_law_L_cell rfl rfl rfl khd_L_cell.2 ⟨(Nat.le_of_ble_eq_true rfl), (Nat.le_of_ble_eq_true rfl)⟩) (hX.kept (hS.2.1 b hbl hbA)) hP hS rfl hl.1 rfl (Nat.le_of_ble_eq_true rfl) dL_law_105 ⟨(Nat.le_of_ble_eq_true rfl), (Nat.le_of_ble_eq_true rfl)⟩ (fun H locs hP hS => ?_)
        have hP : va_P (dC, dI) vwCl ((a_g, .inl (cI, 38, .inl ga_99j)) :: (a_k, .inl (cI, 38, .inl ka_68)) :: w) H := hP
        refine lv_istore (lv' := [(7, .int r_105), (0, .ref b), (1, .ref (ad 0)), (2, .ref a_g), (3, .ref a_k), (5, .int (r_22_ga 0)), (6, .int x6_68)]) hx hb dL_law_108 hl (by decide) rfl (fun ls hl => ?_)
        refine lv_aload_n hx hb dL_law_110 rfl (lv_at hl 3 rfl) ?_
        refine lv_bipush (v := 6) hx hb dL_law_111 (by decide) ?_
        refine lv_iconst (v := -1) hx hb dL_law_113 (by decide) ?_
        obtain ⟨r_114, e_114, h1⟩ := ob1_inv h1
        refine k_pSi (rest := []) ⟨hx, hb, hml, hown, hts⟩ (c_L_come l dC dI cI cS a_g e_114) (va_cwS 3 hts gL_law_L_come rfl rfl rfl khd_L_come.2 ⟨(Nat.le_of_ble_eq_true rfl), (Nat.le_of_ble_eq_true rfl)⟩) hK hN hP hD hS [0] rfl rfl rfl hl.1 rfl (Nat.le_of_ble_eq_true rfl) dL_law_114 ⟨(Nat.le_of_ble_eq_true rfl), (Nat.le_of_ble_eq_true rfl)⟩ (fun H locs hf_114 hP hS => ?_)
        have hP : va_P (dC, dI) vwCl ((a_g, .inl (cI, 38, .inl ga_99j)) :: (a_k, .inl (cI, 38, .inl ka_68)) :: w) H := hP
        refine lv_bipush (v := 64) hx hb dL_law_117 (by decide) ?_
        refine lv_isub hx hb dL_law_119 ?_
        refine lv_istore (lv' := [(8, .int (r_114 - (64 : Int32))), (7, .int r_105), (0, .ref b), (1, .ref (ad 0)), (2, .ref a_g), (3, .ref a_k), (5, .int (r_22_ga 0)), (6, .int x6_68)]) hx hb dL_law_120 hl (by decide) rfl (fun ls hl => ?_)
        refine lv_iconst (v := 0) hx hb dL_law_122 (by decide) ?_
        refine lv_istore (lv' := [(9, .int (0 : Int32)), (8, .int (r_114 - (64 : Int32))), (7, .int r_105), (0, .ref b), (1, .ref (ad 0)), (2, .ref a_g), (3, .ref a_k), (5, .int (r_22_ga 0)), (6, .int x6_68)]) hx hb dL_law_123 hl (by decide) rfl (fun ls hl => ?_)
        obtain ⟨i_125, h1⟩ := ob0_inv h1
        have after_125 : ∀ (w : va_W) (H : Heap) (locs : List Loc) (ls : Array Slot), gI cI cS ad SS_99j w → va_P (dC, dI) vwCl ((a_g, .inl (cI, 38, .inl ga_99j)) :: (a_k, .inl (cI, 38, .inl ka_68)) :: w) H → va_D (fun q : Nat => s.heap.size ≤ q) ((a_g, .inl (cI, 38, .inl ga_99j)) :: (a_k, .inl (cI, 38, .inl ka_68)) :: w) → va_S (fun q : Nat => s.heap.size ≤ q) s.heap H locs → lv_has ls 19 [(0, .ref b), (1, .ref (ad 0)), (2, .ref a_g), (3, .ref a_k), (5, .int (r_22_ga 0)), (6, .int x6_68), (7, .int r_105), (8, .int (r_114 - (64 : Int32)))] → W p l e room_1 s m #[Value.ref b] below meth c H locs NCELL NSLOT (lw_Z below #[Value.ref b] s) (F0 m 623 ls []) := by
          intro w H locs ls hI hP hD hS hl
          refine lv_aload_n hx hb dL_law_623 rfl (lv_at hl 1 rfl) ?_
          refine lv_iconst (v := 1) hx hb dL_law_624 (by decide) ?_
          obtain ⟨r_625, e_625, h1⟩ := ob1_inv h1
          refine k_GVi (pre := [(a_g, .inl (cI, 38, .inl ga_99j)), (a_k, .inl (cI, 38, .inl ka_68))]) (rest := []) ⟨hx, hb, hml, hown, hts⟩ (A_X4_many l dC dI cI cS ad e_625) (cwV 1 hts gL_law_X4_many rfl rfl rfl khd_X4_many ⟨(Nat.le_of_ble_eq_true rfl), (Nat.le_of_ble_eq_true rfl)⟩) hK hN hI hP hD hS rfl hl.1 rfl (Nat.le_of_ble_eq_true rfl) dL_law_625 ⟨(Nat.le_of_ble_eq_true rfl), (Nat.le_of_ble_eq_true rfl)⟩ (fun H locs w hI hP hD hS => ?_)
          have hP : va_P (dC, dI) vwCl ((a_g, .inl (cI, 38, .inl ga_99j)) :: (a_k, .inl (cI, 38, .inl ka_68)) :: w) H := hP
          have hD : va_D (fun q : Nat => s.heap.size ≤ q) ((a_g, .inl (cI, 38, .inl ga_99j)) :: (a_k, .inl (cI, 38, .inl ka_68)) :: w) := hD
          refine lv_aload_n hx hb dL_law_628 rfl (lv_at hl 2 rfl) ?_
          refine lv_iconst (v := 1) hx hb dL_law_629 (by decide) ?_
          refine va_iald (D := (dC, dI)) hx hb hK hP 0 0 rfl rfl (by decide) dL_law_630 ?_
          refine lv_icmp_ne (tgt := 673) hx hb dL_law_631 (by decide) (fun c_631 => ?_) (fun c_631 => ?_)
          · have h1 := hp_neg c_631 h1
            cases h1
          · have h1 := hp_pos c_631 h1
            refine lv_aload_n hx hb dL_law_634 rfl (lv_at hl 1 rfl) ?_
            refine lv_iconst (v := 2) hx hb dL_law_635 (by decide) ?_
            obtain ⟨r_636, e_636, h1⟩ := ob1_inv h1
            refine k_GVi (pre := [(a_g, .inl (cI, 38, .inl ga_99j)), (a_k, .inl (cI, 38, .inl ka_68))]) (rest := []) ⟨hx, hb, hml, hown, hts⟩ (A_X4_many l dC dI cI cS ad e_636) (cwV 1 hts gL_law_X4_many rfl rfl rfl khd_X4_many ⟨(Nat.le_of_ble_eq_true rfl), (Nat.le_of_ble_eq_true rfl)⟩) hK hN hI hP hD hS rfl hl.1 rfl (Nat.le_of_ble_eq_true rfl) dL_law_636 ⟨(Nat.le_of_ble_eq_true rfl), (Nat.le_of_ble_eq_true rfl)⟩ (fun H locs w hI hP hD hS => ?_)
            have hP : va_P (dC, dI) vwCl ((a_g, .inl (cI, 38, .inl ga_99j)) :: (a_k, .inl (cI, 38, .inl ka_68)) :: w) H := hP
            have hD : va_D (fun q : Nat => s.heap.size ≤ q) ((a_g, .inl (cI, 38, .inl ga_99j)) :: (a_k, .inl (cI, 38, .inl ka_68)) :: w) := hD
            refine lv_iload hx hb dL_law_639 (lv_at hl 7 rfl) ?_
            obtain ⟨r_641, e_641, h1⟩ := ob1_inv h1
            refine k_pSi (rest := [.int r_636]) ⟨hx, hb, hml, hown, hts⟩ (c_L_size l dC dI cI cS e_641) (va_cwS 1 hts gL_law_L_size rfl rfl rfl khd_L_size.2 ⟨(Nat.le_of_ble_eq_true rfl), (Nat.le_of_ble_eq_true rfl)⟩) hK hN hP hD hS [] rfl rfl rfl hl.1 rfl (Nat.le_of_ble_eq_true rfl) dL_law_641 ⟨(Nat.le_of_ble_eq_true rfl), (Nat.le_of_ble_eq_true rfl)⟩ (fun H locs hf_641 hP hS => ?_)
            have hP : va_P (dC, dI) vwCl ((a_g, .inl (cI, 38, .inl ga_99j)) :: (a_k, .inl (cI, 38, .inl ka_68)) :: w) H := hP
            refine lv_icmp_ne (tgt := 673) hx hb dL_law_644 (by decide) (fun c_644 => ?_) (fun c_644 => ?_)
            · have h1 := hp_neg c_644 h1
              cases h1
            · have h1 := hp_pos c_644 h1
              refine lv_aload_n hx hb dL_law_647 rfl (lv_at hl 1 rfl) ?_
              refine lv_iconst (v := 3) hx hb dL_law_648 (by decide) ?_
              obtain ⟨r_649, e_649, h1⟩ := ob1_inv h1
              refine k_GVi (pre := [(a_g, .inl (cI, 38, .inl ga_99j)), (a_k, .inl (cI, 38, .inl ka_68))]) (rest := []) ⟨hx, hb, hml, hown, hts⟩ (A_X4_many l dC dI cI cS ad e_649) (cwV 1 hts gL_law_X4_many rfl rfl rfl khd_X4_many ⟨(Nat.le_of_ble_eq_true rfl), (Nat.le_of_ble_eq_true rfl)⟩) hK hN hI hP hD hS rfl hl.1 rfl (Nat.le_of_ble_eq_true rfl) dL_law_649 ⟨(Nat.le_of_ble_eq_true rfl), (Nat.le_of_ble_eq_true rfl)⟩ (fun H locs w hI hP hD hS => ?_)
              have hP : va_P (dC, dI) vwCl ((a_g, .inl (cI, 38, .inl ga_99j)) :: (a_k, .inl (cI, 38, .inl ka_68)) :: w) H := hP
              have hD : va_D (fun q : Nat => s.heap.size ≤ q) ((a_g, .inl (cI, 38, .inl ga_99j)) :: (a_k, .inl (cI, 38, .inl ka_68)) :: w) := hD
              refine lv_aload_n hx hb dL_law_652 rfl (lv_at hl 2 rfl) ?_
              obtain ⟨r_653, e_653, h1⟩ := ob1_inv h1
              refine k_pSi (rest := [.int r_649]) ⟨hx, hb, hml, hown, hts⟩ (c_L_unlawful l dC dI cI cS a_g e_653) (va_cwS 1 hts gL_law_L_unlawful rfl rfl rfl khd_L_unlawful.2 ⟨(Nat.le_of_ble_eq_true rfl), (Nat.le_of_ble_eq_true rfl)⟩) hK hN hP hD hS [0] rfl rfl rfl hl.1 rfl (Nat.le_of_ble_eq_true rfl) dL_law_653 ⟨(Nat.le_of_ble_eq_true rfl), (Nat.le_of_ble_eq_true rfl)⟩ (fun H locs hf_653 hP hS => ?_)
              have hP : va_P (dC, dI) vwCl ((a_g, .inl (cI, 38, .inl ga_99j)) :: (a_k, .inl (cI, 38, .inl ka_68)) :: w) H := hP
              obtain ⟨r_656, e_656, h1⟩ := ob1_inv h1
              refine k_pSi (rest := [.int r_649]) ⟨hx, hb, hml, hown, hts⟩ (c_L_size l dC dI cI cS e_656) (va_cwS 1 hts gL_law_L_size rfl rfl rfl khd_L_size.2 ⟨(Nat.le_of_ble_eq_true rfl), (Nat.le_of_ble_eq_true rfl)⟩) hK hN hP hD hS [] rfl rfl rfl hl.1 rfl (Nat.le_of_ble_eq_true rfl) dL_law_656 ⟨(Nat.le_of_ble_eq_true rfl), (Nat.le_of_ble_eq_true rfl)⟩ (fun H locs hf_656 hP hS => ?_)
              have hP : va_P (dC, dI) vwCl ((a_g, .inl (cI, 38, .inl ga_99j)) :: (a_k, .inl (cI, 38, .inl ka_68)) :: w) H := hP
              refine lv_icmp_ne (tgt := 673) hx hb dL_law_659 (by decide) (fun c_659 => ?_) (fun c_659 => ?_)
              · have h1 := hp_neg c_659 h1
                cases h1
              · have h1 := hp_pos c_659 h1
                refine lv_aload_n hx hb dL_law_662 rfl (lv_at hl 1 rfl) ?_
                obtain ⟨r_663, e_663, h1⟩ := ob1_inv h1
                refine k_GVi (pre := [(a_g, .inl (cI, 38, .inl ga_99j)), (a_k, .inl (cI, 38, .inl ka_68))]) (rest := []) ⟨hx, hb, hml, hown, hts⟩ (A_X4_unlawful l dC dI cI cS ad e_663) (cwV 0 hts gL_law_X4_unlawful rfl rfl rfl khd_X4_unlawful ⟨(Nat.le_of_ble_eq_true rfl), (Nat.le_of_ble_eq_true rfl)⟩) hK hN hI hP hD hS rfl hl.1 rfl (Nat.le_of_ble_eq_true rfl) dL_law_663 ⟨(Nat.le_of_ble_eq_true rfl), (Nat.le_of_ble_eq_true rfl)⟩ (fun H locs w hI hP hD hS => ?_)
                have hP : va_P (dC, dI) vwCl ((a_g, .inl (cI, 38, .inl ga_99j)) :: (a_k, .inl (cI, 38, .inl ka_68)) :: w) H := hP
                have hD : va_D (fun q : Nat => s.heap.size ≤ q) ((a_g, .inl (cI, 38, .inl ga_99j)) :: (a_k, .inl (cI, 38, .inl ka_68)) :: w) := hD
                refine lv_aload_n hx hb dL_law_666 rfl (lv_at hl 2 rfl) ?_
                obtain ⟨r_667, e_667, h1⟩ := ob1_inv h1
                refine k_pSi (rest := [.int r_663]) ⟨hx, hb, hml, hown, hts⟩ (c_L_unlawful l dC dI cI cS a_g e_667) (va_cwS 1 hts gL_law_L_unlawful rfl rfl rfl khd_L_unlawful.2 ⟨(Nat.le_of_ble_eq_true rfl), (Nat.le_of_ble_eq_true rfl)⟩) hK hN hP hD hS [0] rfl rfl rfl hl.1 rfl (Nat.le_of_ble_eq_true rfl) dL_law_667 ⟨(Nat.le_of_ble_eq_true rfl), (Nat.le_of_ble_eq_true rfl)⟩ (fun H locs hf_667 hP hS => ?_)
                have hP : va_P (dC, dI) vwCl ((a_g, .inl (cI, 38, .inl ga_99j)) :: (a_k, .inl (cI, 38, .inl ka_68)) :: w) H := hP
                refine lv_icmp_eq (tgt := 675) hx hb dL_law_670 (by decide) (fun c_670 => ?_) (fun c_670 => ?_)
                · have h1 := hp_pos c_670 h1
                  refine lv_iload hx hb dL_law_675 (lv_at hl 6 rfl) ?_
                  refine lv_iload hx hb dL_law_677 (lv_at hl 6 rfl) ?_
                  refine lv_bipush (v := 9) hx hb dL_law_679 (by decide) ?_
                  refine lv_ishr hx hb dL_law_681 ?_
                  refine lv_iconst (v := 2) hx hb dL_law_682 (by decide) ?_
                  obtain ⟨r_683, e_683, h1⟩ := ob1_inv h1
                  refine k_pSi (rest := [.int r_105]) ⟨hx, hb, hml, hown, hts⟩ (c_L_some l dC dI cI cS e_683) (va_cwS 2 hts gL_law_L_some rfl rfl rfl khd_L_some.2 ⟨(Nat.le_of_ble_eq_true rfl), (Nat.le_of_ble_eq_true rfl)⟩) hK hN hP hD hS [] rfl rfl rfl hl.1 rfl (Nat.le_of_ble_eq_true rfl) dL_law_683 ⟨(Nat.le_of_ble_eq_true rfl), (Nat.le_of_ble_eq_true rfl)⟩ (fun H locs hf_683 hP hS => ?_)
                  have hP : va_P (dC, dI) vwCl ((a_g, .inl (cI, 38, .inl ga_99j)) :: (a_k, .inl (cI, 38, .inl ka_68)) :: w) H := hP
                  obtain ⟨u0_696, i_696, h1⟩ := ob1_inv h1
                  have after_696 : ∀ (w : va_W) (H : Heap) (locs : List Loc) (ls : Array Slot), gI cI cS ad SS_99j w → va_P (dC, dI) vwCl ((a_g, .inl (cI, 38, .inl ga_99j)) :: (a_k, .inl (cI, 38, .inl ka_68)) :: w) H → va_D (fun q : Nat => s.heap.size ≤ q) ((a_g, .inl (cI, 38, .inl ga_99j)) :: (a_k, .inl (cI, 38, .inl ka_68)) :: w) → va_S (fun q : Nat => s.heap.size ≤ q) s.heap H locs → lv_has ls 19 [(0, .ref b), (1, .ref (ad 0)), (2, .ref a_g), (3, .ref a_k), (5, .int (r_22_ga 0)), (6, .int x6_68)] → W p l e room_1 s m #[Value.ref b] below meth c H locs NCELL NSLOT (lw_Z below #[Value.ref b] s) (F0 m 696 ls [.int u0_696, .int r_105]) := by
                    intro w H locs ls hI hP hD hS hl
                    obtain ⟨r_696, e_696, h1⟩ := ob1_inv h1
                    refine k_pSi (rest := []) ⟨hx, hb, hml, hown, hts⟩ (c_L_some l dC dI cI cS e_696) (va_cwS 2 hts gL_law_L_some rfl rfl rfl khd_L_some.2 ⟨(Nat.le_of_ble_eq_true rfl), (Nat.le_of_ble_eq_true rfl)⟩) hK hN hP hD hS [] rfl rfl rfl hl.1 rfl (Nat.le_of_ble_eq_true rfl) dL_law_696 ⟨(Nat.le_of_ble_eq_true rfl), (Nat.le_of_ble_eq_true rfl)⟩ (fun H locs hf_696 hP hS => ?_)
                    have hP : va_P (dC, dI) vwCl ((a_g, .inl (cI, 38, .inl ga_99j)) :: (a_k, .inl (cI, 38, .inl ka_68)) :: w) H := hP
                    refine lv_istore (lv' := [(9, .int r_696), (0, .ref b), (1, .ref (ad 0)), (2, .ref a_g), (3, .ref a_k), (5, .int (r_22_ga 0)), (6, .int x6_68)]) hx hb dL_law_699 hl (by decide) rfl (fun ls hl => ?_)
                    refine lv_aload_n hx hb dL_law_701 rfl (lv_at hl 2 rfl) ?_
                    refine lv_iconst (v := 1) hx hb dL_law_702 (by decide) ?_
                    refine lv_iconst (v := 1) hx hb dL_law_703 (by decide) ?_
                    refine lv_bipush (v := 55) hx hb dL_law_704 (by decide) ?_
                    obtain ⟨r_706, r_706_S, e_706, h1⟩ := ob2_inv h1
                    refine k_GVi (pre := [(a_g, .inl (cI, 38, .inl ga_99j)), (a_k, .inl (cI, 38, .inl ka_68))]) (rest := []) ⟨hx, hb, hml, hown, hts⟩ (A_X4_sheet l dC dI cI cS ad e_706) (cwV 3 hts gL_law_X4_sheet rfl rfl rfl khd_X4_sheet ⟨(Nat.le_of_ble_eq_true rfl), (Nat.le_of_ble_eq_true rfl)⟩) hK hN hI hP hD hS rfl hl.1 rfl (Nat.le_of_ble_eq_true rfl) dL_law_706 ⟨(Nat.le_of_ble_eq_true rfl), (Nat.le_of_ble_eq_true rfl)⟩ (fun H locs w hI hP hD hS => ?_)
                    have hP : va_P (dC, dI) vwCl ((a_g, .inl (cI, 38, .inl ga_99j)) :: (a_k, .inl (cI, 38, .inl ka_68)) :: w) H := hP
                    have hD : va_D (fun q : Nat => s.heap.size ≤ q) ((a_g, .inl (cI, 38, .inl ga_99j)) :: (a_k, .inl (cI, 38, .inl ka_68)) :: w) := hD
                    refine lv_iconst (v := 1) hx hb dL_law_709 (by decide) ?_
                    refine lv_icmp_eq (tgt := 715) hx hb dL_law_710 (by decide) (fun c_710 => ?_) (fun c_710 => ?_)
                    · have h1 := hp_pos c_710 h1
                      refine lv_iconst (v := 0) hx hb dL_law_715 (by decide) ?_
                      refine lv_istore (lv' := [(10, .int (0 : Int32)), (9, .int r_696), (0, .ref b), (1, .ref (ad 0)), (2, .ref a_g), (3, .ref a_k), (5, .int (r_22_ga 0)), (6, .int x6_68)]) hx hb dL_law_716 hl (by decide) rfl (fun ls hl => ?_)
                      obtain ⟨ka_718e, i_718, h1⟩ := ob1_inv h1
                      have after_718 : ∀ (w : va_W) (H : Heap) (locs : List Loc) (ls : Array Slot), gI cI cS ad r_706_S w → va_P (dC, dI) vwCl ((a_g, .inl (cI, 38, .inl ga_99j)) :: (a_k, .inl (cI, 38, .inl ka_718e)) :: w) H → va_D (fun q : Nat => s.heap.size ≤ q) ((a_g, .inl (cI, 38, .inl ga_99j)) :: (a_k, .inl (cI, 38, .inl ka_718e)) :: w) → va_S (fun q : Nat => s.heap.size ≤ q) s.heap H locs → lv_has ls 19 [(0, .ref b), (1, .ref (ad 0)), (2, .ref a_g), (3, .ref a_k), (5, .int (r_22_ga 0)), (6, .int x6_68), (9, .int r_696)] → W p l e room_1 s m #[Value.ref b] below meth c H locs NCELL NSLOT (lw_Z below #[Value.ref b] s) (F0 m 739 ls []) := by
                        intro w H locs ls hI hP hD hS hl
                        refine lv_bipush (v := -9) hx hb dL_law_739 (by decide) ?_
                        refine lv_istore (lv' := [(10, .int (-9 : Int32)), (0, .ref b), (1, .ref (ad 0)), (2, .ref a_g), (3, .ref a_k), (5, .int (r_22_ga 0)), (6, .int x6_68), (9, .int r_696)]) hx hb dL_law_741 hl (by decide) rfl (fun ls hl => ?_)
                        refine lv_iconst (v := 0) hx hb dL_law_743 (by decide) ?_
                        refine lv_istore (lv' := [(11, .int (0 : Int32)), (10, .int (-9 : Int32)), (0, .ref b), (1, .ref (ad 0)), (2, .ref a_g), (3, .ref a_k), (5, .int (r_22_ga 0)), (6, .int x6_68), (9, .int r_696)]) hx hb dL_law_744 hl (by decide) rfl (fun ls hl => ?_)
                        obtain ⟨y10_746, ga_746e, SS_746e, i_746, h1⟩ := ob3_inv h1
                        have after_746 : ∀ (w : va_W) (H : Heap) (locs : List Loc) (ls : Array Slot), gI cI cS ad SS_746e w → va_P (dC, dI) vwCl ((a_g, .inl (cI, 38, .inl ga_746e)) :: (a_k, .inl (cI, 38, .inl ka_718e)) :: w) H → va_D (fun q : Nat => s.heap.size ≤ q) ((a_g, .inl (cI, 38, .inl ga_746e)) :: (a_k, .inl (cI, 38, .inl ka_718e)) :: w) → va_S (fun q : Nat => s.heap.size ≤ q) s.heap H locs → lv_has ls 19 [(0, .ref b), (1, .ref (ad 0)), (2, .ref a_g), (3, .ref a_k), (5, .int (r_22_ga 0)), (6, .int x6_68), (9, .int r_696), (10, .int y10_746)] → W p l e room_1 s m #[Value.ref b] below meth c H locs NCELL NSLOT (lw_Z below #[Value.ref b] s) (F0 m 1097 ls []) := by
                          intro w H locs ls hI hP hD hS hl
                          refine lv_iconst (v := 0) hx hb dL_law_1097 (by decide) ?_
                          refine lv_istore (lv' := [(11, .int (0 : Int32)), (0, .ref b), (1, .ref (ad 0)), (2, .ref a_g), (3, .ref a_k), (5, .int (r_22_ga 0)), (6, .int x6_68), (9, .int r_696), (10, .int y10_746)]) hx hb dL_law_1098 hl (by decide) rfl (fun ls hl => ?_)
                          refine lv_iconst (v := 0) hx hb dL_law_1100 (by decide) ?_
                          refine lv_istore (lv' := [(12, .int (0 : Int32)), (11, .int (0 : Int32)), (0, .ref b), (1, .ref (ad 0)), (2, .ref a_g), (3, .ref a_k), (5, .int (r_22_ga 0)), (6, .int x6_68), (9, .int r_696), (10, .int y10_746)]) hx hb dL_law_1101 hl (by decide) rfl (fun ls hl => ?_)
                          obtain ⟨y11_1103, i_1103, h1⟩ := ob1_inv h1
                          have after_1103 : ∀ (w : va_W) (H : Heap) (locs : List Loc) (ls : Array Slot), gI cI cS ad SS_746e w → va_P (dC, dI) vwCl ((a_g, .inl (cI, 38, .inl ga_746e)) :: (a_k, .inl (cI, 38, .inl ka_718e)) :: w) H → va_D (fun q : Nat => s.heap.size ≤ q) ((a_g, .inl (cI, 38, .inl ga_746e)) :: (a_k, .inl (cI, 38, .inl ka_718e)) :: w) → va_S (fun q : Nat => s.heap.size ≤ q) s.heap H locs → lv_has ls 19 [(0, .ref b), (1, .ref (ad 0)), (2, .ref a_g), (3, .ref a_k), (5, .int (r_22_ga 0)), (6, .int x6_68), (9, .int r_696), (10, .int y10_746), (11, .int y11_1103)] → W p l e room_1 s m #[Value.ref b] below meth c H locs NCELL NSLOT (lw_Z below #[Value.ref b] s) (F0 m 1135 ls []) := by
                            intro w H locs ls hI hP hD hS hl
                            refine lv_bipush (v := -100) hx hb dL_law_1135 (by decide) ?_
                            refine lv_iload hx hb dL_law_1137 (lv_at hl 7 rfl) ?_
                            refine lv_isub hx hb dL_law_1139 ?_
                            refine lv_istore (lv' := [(12, .int ((-100 : Int32) - y10_746)), (0, .ref b), (1, .ref (ad 0)), (2, .ref a_g), (3, .ref a_k), (5, .int (r_22_ga 0)), (6, .int x6_68), (9, .int r_696), (10, .int y10_746), (11, .int y11_1103)]) hx hb dL_law_1140 hl (by decide) rfl (fun ls hl => ?_)
                            refine lv_aload_n hx hb dL_law_1142 rfl (lv_at hl 2 rfl) ?_
                            refine lv_iconst (v := 1) hx hb dL_law_1143 (by decide) ?_
                            refine lv_iconst (v := 1) hx hb dL_law_1144 (by decide) ?_
                            refine lv_iconst (v := 4) hx hb dL_law_1145 (by decide) ?_
                            refine lv_iload hx hb dL_law_1146 (lv_at hl 7 rfl) ?_
                            refine lv_iconst (v := 1) hx hb dL_law_1148 (by decide) ?_
                            obtain ⟨r_1149, e_1149, h1⟩ := ob1_inv h1
                            refine k_GVi (pre := [(a_g, .inl (cI, 38, .inl ga_746e)), (a_k, .inl (cI, 38, .inl ka_718e))]) (rest := []) ⟨hx, hb, hml, hown, hts⟩ (A_X4_day l dC dI cI cS ad e_1149) (cwV 5 hts gL_law_X4_day rfl rfl rfl khd_X4_day ⟨(Nat.le_of_ble_eq_true rfl), (Nat.le_of_ble_eq_true rfl)⟩) hK hN hI hP hD hS rfl hl.1 rfl (Nat.le_of_ble_eq_true rfl) dL_law_1149 ⟨(Nat.le_of_ble_eq_true rfl), (Nat.le_of_ble_eq_true rfl)⟩ (fun H locs w hI hP hD hS => ?_)
                            have hP : va_P (dC, dI) vwCl ((a_g, .inl (cI, 38, .inl ga_746e)) :: (a_k, .inl (cI, 38, .inl ka_718e)) :: w) H := hP
                            have hD : va_D (fun q : Nat => s.heap.size ≤ q) ((a_g, .inl (cI, 38, .inl ga_746e)) :: (a_k, .inl (cI, 38, .inl ka_718e)) :: w) := hD
                            refine lv_iload hx hb dL_law_1152 (lv_at hl 8 rfl) ?_
                            refine lv_icmp_ne (tgt := 1268) hx hb dL_law_1154 (by decide) (fun c_1154 => ?_) (fun c_1154 => ?_)
                            · have h1 := hp_neg c_1154 h1
                              cases h1
                            · have h1 := hp_pos c_1154 h1
                              refine lv_aload_n hx hb dL_law_1157 rfl (lv_at hl 2 rfl) ?_
                              refine lv_iconst (v := 1) hx hb dL_law_1158 (by decide) ?_
                              refine lv_iconst (v := 1) hx hb dL_law_1159 (by decide) ?_
                              refine lv_iconst (v := 4) hx hb dL_law_1160 (by decide) ?_
                              refine lv_iload hx hb dL_law_1161 (lv_at hl 7 rfl) ?_
                              refine lv_iconst (v := 0) hx hb dL_law_1163 (by decide) ?_
                              obtain ⟨r_1164, e_1164, h1⟩ := ob1_inv h1
                              refine k_GVi (pre := [(a_g, .inl (cI, 38, .inl ga_746e)), (a_k, .inl (cI, 38, .inl ka_718e))]) (rest := []) ⟨hx, hb, hml, hown, hts⟩ (A_X4_day l dC dI cI cS ad e_1164) (cwV 5 hts gL_law_X4_day rfl rfl rfl khd_X4_day ⟨(Nat.le_of_ble_eq_true rfl), (Nat.le_of_ble_eq_true rfl)⟩) hK hN hI hP hD hS rfl hl.1 rfl (Nat.le_of_ble_eq_true rfl) dL_law_1164 ⟨(Nat.le_of_ble_eq_true rfl), (Nat.le_of_ble_eq_true rfl)⟩ (fun H locs w hI hP hD hS => ?_)
                              have hP : va_P (dC, dI) vwCl ((a_g, .inl (cI, 38, .inl ga_746e)) :: (a_k, .inl (cI, 38, .inl ka_718e)) :: w) H := hP
                              have hD : va_D (fun q : Nat => s.heap.size ≤ q) ((a_g, .inl (cI, 38, .inl ga_746e)) :: (a_k, .inl (cI, 38, .inl ka_718e)) :: w) := hD
                              refine lv_iload hx hb dL_law_1167 (lv_at hl 8 rfl) ?_
                              obtain ⟨u0_1180, i_1180, h1⟩ := ob1_inv h1
                              have after_1180 : ∀ (w : va_W) (H : Heap) (locs : List Loc) (ls : Array Slot), gI cI cS ad SS_746e w → va_P (dC, dI) vwCl ((a_g, .inl (cI, 38, .inl ga_746e)) :: (a_k, .inl (cI, 38, .inl ka_718e)) :: w) H → va_D (fun q : Nat => s.heap.size ≤ q) ((a_g, .inl (cI, 38, .inl ga_746e)) :: (a_k, .inl (cI, 38, .inl ka_718e)) :: w) → va_S (fun q : Nat => s.heap.size ≤ q) s.heap H locs → lv_has ls 19 [(0, .ref b), (1, .ref (ad 0)), (2, .ref a_g), (3, .ref a_k), (5, .int (r_22_ga 0)), (6, .int x6_68), (9, .int r_696), (10, .int y10_746), (11, .int y11_1103), (12, .int ((-100 : Int32) - y10_746))] → W p l e room_1 s m #[Value.ref b] below meth c H locs NCELL NSLOT (lw_Z below #[Value.ref b] s) (F0 m 1180 ls [.int u0_1180, .int r_1164]) := by
                                intro w H locs ls hI hP hD hS hl
                                refine lv_icmp_ne (tgt := 1268) hx hb dL_law_1180 (by decide) (fun c_1180 => ?_) (fun c_1180 => ?_)
                                · have h1 := hp_neg c_1180 h1
                                  cases h1
                                · have h1 := hp_pos c_1180 h1
                                  refine lv_aload_n hx hb dL_law_1183 rfl (lv_at hl 1 rfl) ?_
                                  refine lv_iconst (v := 1) hx hb dL_law_1184 (by decide) ?_
                                  refine lv_iconst (v := 1) hx hb dL_law_1185 (by decide) ?_
                                  refine lv_iconst (v := 4) hx hb dL_law_1186 (by decide) ?_
                                  refine lv_iload hx hb dL_law_1187 (lv_at hl 6 rfl) ?_
                                  refine lv_iconst (v := 2) hx hb dL_law_1189 (by decide) ?_
                                  obtain ⟨r_1190, e_1190, h1⟩ := ob1_inv h1
                                  refine k_GVi (pre := [(a_g, .inl (cI, 38, .inl ga_746e)), (a_k, .inl (cI, 38, .inl ka_718e))]) (rest := []) ⟨hx, hb, hml, hown, hts⟩ (A_X4_day l dC dI cI cS ad e_1190) (cwV 5 hts gL_law_X4_day rfl rfl rfl khd_X4_day ⟨(Nat.le_of_ble_eq_true rfl), (Nat.le_of_ble_eq_true rfl)⟩) hK hN hI hP hD hS rfl hl.1 rfl (Nat.le_of_ble_eq_true rfl) dL_law_1190 ⟨(Nat.le_of_ble_eq_true rfl), (Nat.le_of_ble_eq_true rfl)⟩ (fun H locs w hI hP hD hS => ?_)
                                  have hP : va_P (dC, dI) vwCl ((a_g, .inl (cI, 38, .inl ga_746e)) :: (a_k, .inl (cI, 38, .inl ka_718e)) :: w) H := hP
                                  have hD : va_D (fun q : Nat => s.heap.size ≤ q) ((a_g, .inl (cI, 38, .inl ga_746e)) :: (a_k, .inl (cI, 38, .inl ka_718e)) :: w) := hD
                                  refine lv_iload hx hb dL_law_1193 (lv_at hl 7 rfl) ?_
                                  obtain ⟨u0_1207, i_1207, h1⟩ := ob1_inv h1
                                  have after_1207 : ∀ (w : va_W) (H : Heap) (locs : List Loc) (ls : Array Slot), gI cI cS ad SS_746e w → va_P (dC, dI) vwCl ((a_g, .inl (cI, 38, .inl ga_746e)) :: (a_k, .inl (cI, 38, .inl ka_718e)) :: w) H → va_D (fun q : Nat => s.heap.size ≤ q) ((a_g, .inl (cI, 38, .inl ga_746e)) :: (a_k, .inl (cI, 38, .inl ka_718e)) :: w) → va_S (fun q : Nat => s.heap.size ≤ q) s.heap H locs → lv_has ls 19 [(0, .ref b), (1, .ref (ad 0)), (2, .ref a_g), (3, .ref a_k), (5, .int (r_22_ga 0)), (6, .int x6_68), (9, .int r_696), (10, .int y10_746), (11, .int y11_1103), (12, .int ((-100 : Int32) - y10_746))] → W p l e room_1 s m #[Value.ref b] below meth c H locs NCELL NSLOT (lw_Z below #[Value.ref b] s) (F0 m 1207 ls [.int u0_1207, .int r_1190]) := by
                                    intro w H locs ls hI hP hD hS hl
                                    refine lv_icmp_ne (tgt := 1268) hx hb dL_law_1207 (by decide) (fun c_1207 => ?_) (fun c_1207 => ?_)
                                    · have h1 := hp_neg c_1207 h1
                                      cases h1
                                    · have h1 := hp_pos c_1207 h1
                                      refine lv_aload_n hx hb dL_law_1210 rfl (lv_at hl 1 rfl) ?_
                                      refine lv_iconst (v := 1) hx hb dL_law_1211 (by decide) ?_
                                      refine lv_iconst (v := 1) hx hb dL_law_1212 (by decide) ?_
                                      refine lv_iconst (v := 4) hx hb dL_law_1213 (by decide) ?_
                                      refine lv_iload hx hb dL_law_1214 (lv_at hl 6 rfl) ?_
                                      refine lv_iconst (v := 3) hx hb dL_law_1216 (by decide) ?_
                                      obtain ⟨r_1217, e_1217, h1⟩ := ob1_inv h1
                                      refine k_GVi (pre := [(a_g, .inl (cI, 38, .inl ga_746e)), (a_k, .inl (cI, 38, .inl ka_718e))]) (rest := []) ⟨hx, hb, hml, hown, hts⟩ (A_X4_day l dC dI cI cS ad e_1217) (cwV 5 hts gL_law_X4_day rfl rfl rfl khd_X4_day ⟨(Nat.le_of_ble_eq_true rfl), (Nat.le_of_ble_eq_true rfl)⟩) hK hN hI hP hD hS rfl hl.1 rfl (Nat.le_of_ble_eq_true rfl) dL_law_1217 ⟨(Nat.le_of_ble_eq_true rfl), (Nat.le_of_ble_eq_true rfl)⟩ (fun H locs w hI hP hD hS => ?_)
                                      have hP : va_P (dC, dI) vwCl ((a_g, .inl (cI, 38, .inl ga_746e)) :: (a_k, .inl (cI, 38, .inl ka_718e)) :: w) H := hP
                                      have hD : va_D (fun q : Nat => s.heap.size ≤ q) ((a_g, .inl (cI, 38, .inl ga_746e)) :: (a_k, .inl (cI, 38, .inl ka_718e)) :: w) := hD
                                      refine lv_iload hx hb dL_law_1220 (lv_at hl 7 rfl) ?_
                                      obtain ⟨u0_1240, i_1240, h1⟩ := ob1_inv h1
                                      have after_1240 : ∀ (w : va_W) (H : Heap) (locs : List Loc) (ls : Array Slot), gI cI cS ad SS_746e w → va_P (dC, dI) vwCl ((a_g, .inl (cI, 38, .inl ga_746e)) :: (a_k, .inl (cI, 38, .inl ka_718e)) :: w) H → va_D (fun q : Nat => s.heap.size ≤ q) ((a_g, .inl (cI, 38, .inl ga_746e)) :: (a_k, .inl (cI, 38, .inl ka_718e)) :: w) → va_S (fun q : Nat => s.heap.size ≤ q) s.heap H locs → lv_has ls 19 [(0, .ref b), (1, .ref (ad 0)), (2, .ref a_g), (3, .ref a_k), (5, .int (r_22_ga 0)), (6, .int x6_68), (9, .int r_696), (10, .int y10_746), (11, .int y11_1103), (12, .int ((-100 : Int32) - y10_746))] → W p l e room_1 s m #[Value.ref b] below meth c H locs NCELL NSLOT (lw_Z below #[Value.ref b] s) (F0 m 1240 ls [.int u0_1240, .int r_1217]) := by
                                        intro w H locs ls hI hP hD hS hl
                                        refine lv_icmp_ne (tgt := 1268) hx hb dL_law_1240 (by decide) (fun c_1240 => ?_) (fun c_1240 => ?_)
                                        · have h1 := hp_neg c_1240 h1
                                          cases h1
                                        · have h1 := hp_pos c_1240 h1
                                          refine lv_aload_n hx hb dL_law_1243 rfl (lv_at hl 1 rfl) ?_
                                          refine lv_iconst (v := 1) hx hb dL_law_1244 (by decide) ?_
                                          refine lv_iconst (v := 1) hx hb dL_law_1245 (by decide) ?_
                                          refine lv_iconst (v := 4) hx hb dL_law_1246 (by decide) ?_
                                          refine lv_iload hx hb dL_law_1247 (lv_at hl 6 rfl) ?_
                                          refine lv_iconst (v := 4) hx hb dL_law_1249 (by decide) ?_
                                          obtain ⟨r_1250, e_1250, h1⟩ := ob1_inv h1
                                          refine k_GVi (pre := [(a_g, .inl (cI, 38, .inl ga_746e)), (a_k, .inl (cI, 38, .inl ka_718e))]) (rest := []) ⟨hx, hb, hml, hown, hts⟩ (A_X4_day l dC dI cI cS ad e_1250) (cwV 5 hts gL_law_X4_day rfl rfl rfl khd_X4_day ⟨(Nat.le_of_ble_eq_true rfl), (Nat.le_of_ble_eq_true rfl)⟩) hK hN hI hP hD hS rfl hl.1 rfl (Nat.le_of_ble_eq_true rfl) dL_law_1250 ⟨(Nat.le_of_ble_eq_true rfl), (Nat.le_of_ble_eq_true rfl)⟩ (fun H locs w hI hP hD hS => ?_)
                                          have hP : va_P (dC, dI) vwCl ((a_g, .inl (cI, 38, .inl ga_746e)) :: (a_k, .inl (cI, 38, .inl ka_718e)) :: w) H := hP
                                          have hD : va_D (fun q : Nat => s.heap.size ≤ q) ((a_g, .inl (cI, 38, .inl ga_746e)) :: (a_k, .inl (cI, 38, .inl ka_718e)) :: w) := hD
                                          refine lv_iload hx hb dL_law_1253 (lv_at hl 7 rfl) ?_
                                          obtain ⟨u0_1265, i_1265, h1⟩ := ob1_inv h1
                                          have after_1265 : ∀ (w : va_W) (H : Heap) (locs : List Loc) (ls : Array Slot), gI cI cS ad SS_746e w → va_P (dC, dI) vwCl ((a_g, .inl (cI, 38, .inl ga_746e)) :: (a_k, .inl (cI, 38, .inl ka_718e)) :: w) H → va_D (fun q : Nat => s.heap.size ≤ q) ((a_g, .inl (cI, 38, .inl ga_746e)) :: (a_k, .inl (cI, 38, .inl ka_718e)) :: w) → va_S (fun q : Nat => s.heap.size ≤ q) s.heap H locs → lv_has ls 19 [(0, .ref b), (1, .ref (ad 0)), (2, .ref a_g), (3, .ref a_k), (5, .int (r_22_ga 0)), (6, .int x6_68), (9, .int r_696), (10, .int y10_746), (12, .int ((-100 : Int32) - y10_746))] → W p l e room_1 s m #[Value.ref b] below meth c H locs NCELL NSLOT (lw_Z below #[Value.ref b] s) (F0 m 1265 ls [.int u0_1265, .int r_1250]) := by
                                            intro w H locs ls hI hP hD hS hl
                                            refine lv_icmp_eq (tgt := 1270) hx hb dL_law_1265 (by decide) (fun c_1265 => ?_) (fun c_1265 => ?_)
                                            · have h1 := hp_pos c_1265 h1
                                              refine lv_iconst (v := 0) hx hb dL_law_1270 (by decide) ?_
                                              refine lv_istore (lv' := [(13, .int (0 : Int32)), (0, .ref b), (1, .ref (ad 0)), (2, .ref a_g), (3, .ref a_k), (5, .int (r_22_ga 0)), (6, .int x6_68), (9, .int r_696), (10, .int y10_746), (12, .int ((-100 : Int32) - y10_746))]) hx hb dL_law_1271 hl (by decide) rfl (fun ls hl => ?_)
                                              obtain ⟨i_1273, h1⟩ := ob0_inv h1
                                              have after_1273 : ∀ (w : va_W) (H : Heap) (locs : List Loc) (ls : Array Slot), gI cI cS ad SS_746e w → va_P (dC, dI) vwCl ((a_g, .inl (cI, 38, .inl ga_746e)) :: (a_k, .inl (cI, 38, .inl ka_718e)) :: w) H → va_D (fun q : Nat => s.heap.size ≤ q) ((a_g, .inl (cI, 38, .inl ga_746e)) :: (a_k, .inl (cI, 38, .inl ka_718e)) :: w) → va_S (fun q : Nat => s.heap.size ≤ q) s.heap H locs → lv_has ls 19 [(0, .ref b), (1, .ref (ad 0)), (2, .ref a_g), (3, .ref a_k), (5, .int (r_22_ga 0)), (6, .int x6_68)] → W p l e room_1 s m #[Value.ref b] below meth c H locs NCELL NSLOT (lw_Z below #[Value.ref b] s) (F0 m 1334 ls []) := by
                                                intro w H locs ls hI hP hD hS hl
                                                refine lv_iconst (v := 0) hx hb dL_law_1334 (by decide) ?_
                                                refine lv_istore (lv' := [(13, .int (0 : Int32)), (0, .ref b), (1, .ref (ad 0)), (2, .ref a_g), (3, .ref a_k), (5, .int (r_22_ga 0)), (6, .int x6_68)]) hx hb dL_law_1335 hl (by decide) rfl (fun ls hl => ?_)
                                                obtain ⟨ga_1337e, i_1337, h1⟩ := ob1_inv h1
                                                have after_1337 : ∀ (w : va_W) (H : Heap) (locs : List Loc) (ls : Array Slot), gI cI cS ad SS_746e w → va_P (dC, dI) vwCl ((a_g, .inl (cI, 38, .inl ga_1337e)) :: (a_k, .inl (cI, 38, .inl ka_718e)) :: w) H → va_D (fun q : Nat => s.heap.size ≤ q) ((a_g, .inl (cI, 38, .inl ga_1337e)) :: (a_k, .inl (cI, 38, .inl ka_718e)) :: w) → va_S (fun q : Nat => s.heap.size ≤ q) s.heap H locs → lv_has ls 19 [(0, .ref b), (1, .ref (ad 0)), (2, .ref a_g), (3, .ref a_k), (5, .int (r_22_ga 0)), (6, .int x6_68)] → W p l e room_1 s m #[Value.ref b] below meth c H locs NCELL NSLOT (lw_Z below #[Value.ref b] s) (F0 m 1358 ls []) := by
                                                  intro w H locs ls hI hP hD hS hl
                                                  refine lv_aload_n hx hb dL_law_1358 rfl (lv_at hl 1 rfl) ?_
                                                  refine lv_iconst (v := 1) hx hb dL_law_1359 (by decide) ?_
                                                  obtain ⟨r_1360, e_1360, h1⟩ := ob1_inv h1
                                                  refine k_GVi (pre := [(a_g, .inl (cI, 38, .inl ga_1337e)), (a_k, .inl (cI, 38, .inl ka_718e))]) (rest := []) ⟨hx, hb, hml, hown, hts⟩ (A_X4_many l dC dI cI cS ad e_1360) (cwV 1 hts gL_law_X4_many rfl rfl rfl khd_X4_many ⟨(Nat.le_of_ble_eq_true rfl), (Nat.le_of_ble_eq_true rfl)⟩) hK hN hI hP hD hS rfl hl.1 rfl (Nat.le_of_ble_eq_true rfl) dL_law_1360 ⟨(Nat.le_of_ble_eq_true rfl), (Nat.le_of_ble_eq_true rfl)⟩ (fun H locs w hI hP hD hS => ?_)
                                                  have hP : va_P (dC, dI) vwCl ((a_g, .inl (cI, 38, .inl ga_1337e)) :: (a_k, .inl (cI, 38, .inl ka_718e)) :: w) H := hP
                                                  have hD : va_D (fun q : Nat => s.heap.size ≤ q) ((a_g, .inl (cI, 38, .inl ga_1337e)) :: (a_k, .inl (cI, 38, .inl ka_718e)) :: w) := hD
                                                  refine lv_aload_n hx hb dL_law_1363 rfl (lv_at hl 2 rfl) ?_
                                                  refine lv_iconst (v := 1) hx hb dL_law_1364 (by decide) ?_
                                                  refine va_iald (D := (dC, dI)) hx hb hK hP 0 0 rfl rfl (by decide) dL_law_1365 ?_
                                                  refine lv_icmp_ne (tgt := 1403) hx hb dL_law_1366 (by decide) (fun c_1366 => ?_) (fun c_1366 => ?_)
                                                  · have h1 := hp_neg c_1366 h1
                                                    cases h1
                                                  · have h1 := hp_pos c_1366 h1
                                                    refine lv_aload_n hx hb dL_law_1369 rfl (lv_at hl 1 rfl) ?_
                                                    refine lv_iconst (v := 3) hx hb dL_law_1370 (by decide) ?_
                                                    obtain ⟨r_1371, e_1371, h1⟩ := ob1_inv h1
                                                    refine k_GVi (pre := [(a_g, .inl (cI, 38, .inl ga_1337e)), (a_k, .inl (cI, 38, .inl ka_718e))]) (rest := []) ⟨hx, hb, hml, hown, hts⟩ (A_X4_many l dC dI cI cS ad e_1371) (cwV 1 hts gL_law_X4_many rfl rfl rfl khd_X4_many ⟨(Nat.le_of_ble_eq_true rfl), (Nat.le_of_ble_eq_true rfl)⟩) hK hN hI hP hD hS rfl hl.1 rfl (Nat.le_of_ble_eq_true rfl) dL_law_1371 ⟨(Nat.le_of_ble_eq_true rfl), (Nat.le_of_ble_eq_true rfl)⟩ (fun H locs w hI hP hD hS => ?_)
                                                    have hP : va_P (dC, dI) vwCl ((a_g, .inl (cI, 38, .inl ga_1337e)) :: (a_k, .inl (cI, 38, .inl ka_718e)) :: w) H := hP
                                                    have hD : va_D (fun q : Nat => s.heap.size ≤ q) ((a_g, .inl (cI, 38, .inl ga_1337e)) :: (a_k, .inl (cI, 38, .inl ka_718e)) :: w) := hD
                                                    refine lv_aload_n hx hb dL_law_1374 rfl (lv_at hl 2 rfl) ?_
                                                    obtain ⟨r_1375, e_1375, h1⟩ := ob1_inv h1
                                                    refine k_pSi (rest := [.int r_1371]) ⟨hx, hb, hml, hown, hts⟩ (c_L_unlawful l dC dI cI cS a_g e_1375) (va_cwS 1 hts gL_law_L_unlawful rfl rfl rfl khd_L_unlawful.2 ⟨(Nat.le_of_ble_eq_true rfl), (Nat.le_of_ble_eq_true rfl)⟩) hK hN hP hD hS [0] rfl rfl rfl hl.1 rfl (Nat.le_of_ble_eq_true rfl) dL_law_1375 ⟨(Nat.le_of_ble_eq_true rfl), (Nat.le_of_ble_eq_true rfl)⟩ (fun H locs hf_1375 hP hS => ?_)
                                                    have hP : va_P (dC, dI) vwCl ((a_g, .inl (cI, 38, .inl ga_1337e)) :: (a_k, .inl (cI, 38, .inl ka_718e)) :: w) H := hP
                                                    obtain ⟨r_1378, e_1378, h1⟩ := ob1_inv h1
                                                    refine k_pSi (rest := [.int r_1371]) ⟨hx, hb, hml, hown, hts⟩ (c_L_size l dC dI cI cS e_1378) (va_cwS 1 hts gL_law_L_size rfl rfl rfl khd_L_size.2 ⟨(Nat.le_of_ble_eq_true rfl), (Nat.le_of_ble_eq_true rfl)⟩) hK hN hP hD hS [] rfl rfl rfl hl.1 rfl (Nat.le_of_ble_eq_true rfl) dL_law_1378 ⟨(Nat.le_of_ble_eq_true rfl), (Nat.le_of_ble_eq_true rfl)⟩ (fun H locs hf_1378 hP hS => ?_)
                                                    have hP : va_P (dC, dI) vwCl ((a_g, .inl (cI, 38, .inl ga_1337e)) :: (a_k, .inl (cI, 38, .inl ka_718e)) :: w) H := hP
                                                    refine lv_icmp_ne (tgt := 1403) hx hb dL_law_1381 (by decide) (fun c_1381 => ?_) (fun c_1381 => ?_)
                                                    · have h1 := hp_neg c_1381 h1
                                                      cases h1
                                                    · have h1 := hp_pos c_1381 h1
                                                      refine lv_aload_n hx hb dL_law_1384 rfl (lv_at hl 1 rfl) ?_
                                                      refine lv_iload hx hb dL_law_1385 (lv_at hl 4 rfl) ?_
                                                      refine lv_iconst (v := 1) hx hb dL_law_1387 (by decide) ?_
                                                      refine lv_isub hx hb dL_law_1388 ?_
                                                      refine lv_iconst (v := 1) hx hb dL_law_1389 (by decide) ?_
                                                      obtain ⟨r_1390, e_1390, h1⟩ := ob1_inv h1
                                                      refine k_GVi (pre := [(a_g, .inl (cI, 38, .inl ga_1337e)), (a_k, .inl (cI, 38, .inl ka_718e))]) (rest := []) ⟨hx, hb, hml, hown, hts⟩ (A_X4_ofThing l dC dI cI cS ad e_1390) (cwV 2 hts gL_law_X4_ofThing rfl rfl rfl khd_X4_ofThing ⟨(Nat.le_of_ble_eq_true rfl), (Nat.le_of_ble_eq_true rfl)⟩) hK hN hI hP hD hS rfl hl.1 rfl (Nat.le_of_ble_eq_true rfl) dL_law_1390 ⟨(Nat.le_of_ble_eq_true rfl), (Nat.le_of_ble_eq_true rfl)⟩ (fun H locs w hI hP hD hS => ?_)
                                                      have hP : va_P (dC, dI) vwCl ((a_g, .inl (cI, 38, .inl ga_1337e)) :: (a_k, .inl (cI, 38, .inl ka_718e)) :: w) H := hP
                                                      have hD : va_D (fun q : Nat => s.heap.size ≤ q) ((a_g, .inl (cI, 38, .inl ga_1337e)) :: (a_k, .inl (cI, 38, .inl ka_718e)) :: w) := hD
                                                      refine lv_aload_n hx hb dL_law_1393 rfl (lv_at hl 2 rfl) ?_
                                                      refine lv_bipush (v := 7) hx hb dL_law_1394 (by decide) ?_
                                                      refine lv_iload hx hb dL_law_1396 (lv_at hl 4 rfl) ?_
                                                      refine lv_iadd hx hb dL_law_1398 ?_
                                                      have g_1399 := hg_no h1
                                                      have h1 := hg_yes h1
                                                      refine va_iald (D := (dC, dI)) hx hb hK hP 0 0 rfl rfl g_1399 dL_law_1399 ?_
                                                      refine lv_icmp_eq (tgt := 1405) hx hb dL_law_1400 (by decide) (fun c_1400 => ?_) (fun c_1400 => ?_)
                                                      · have h1 := hp_pos c_1400 h1
                                                        refine lv_iinc (v := (x6_68 + (1 : Int32))) (lv' := [(6, .int (x6_68 + (1 : Int32))), (0, .ref b), (1, .ref (ad 0)), (2, .ref a_g), (3, .ref a_k), (5, .int (r_22_ga 0))]) hx hb dL_law_1405 hl (k := 5) rfl rfl (by decide) rfl (fun ls hl => ?_)
                                                        refine lv_goto (tgt := 68) hx hb dL_law_1408 (by decide) ?_
                                                        cases h1
                                                        exact ih_68 _ _ _ _ k1 _ _ _ _ hI hP hD hS (lv_sub hl [1, 2, 3, 4, 5, 0] rfl)
                                                      · have h1 := hp_neg c_1400 h1
                                                        cases h1
                                                exact lq_1337 C0 hK hN after_1337 FUEL _ _ i_1337 _ _ _ _ hI hP hD hS (lv_sub hl [1, 2, 3, 4, 5, 6, 0] rfl)
                                              exact lq_1273 C0 hK hN after_1273 FUEL _ i_1273 _ _ _ _ hI hP hD hS (lv_sub hl [1, 2, 3, 4, 5, 6, 7, 8, 9, 0] rfl)
                                            · have h1 := hp_neg c_1265 h1
                                              cases h1
                                          have h2 := i_1265
                                          refine lv_if_ge (tgt := 1263) hx hb dL_law_1255 (by decide) (fun c_1255 => ?_) (fun c_1255 => ?_)
                                          · have h2 := hp_pos c_1255 h2
                                            refine lv_iload hx hb dL_law_1263 (lv_at hl 9 rfl) ?_
                                            obtain rfl := Option.some.inj h2
                                            exact after_1265 _ _ _ _ hI hP hD hS (lv_sub hl [0, 1, 2, 3, 4, 5, 6, 7, 9] rfl)
                                          · have h2 := hp_neg c_1255 h2
                                            refine lv_iload hx hb dL_law_1258 (lv_at hl 8 rfl) ?_
                                            refine lv_goto (tgt := 1265) hx hb dL_law_1260 (by decide) ?_
                                            obtain rfl := Option.some.inj h2
                                            exact after_1265 _ _ _ _ hI hP hD hS (lv_sub hl [0, 1, 2, 3, 4, 5, 6, 7, 9] rfl)
                                      have h2 := i_1240
                                      refine lv_if_ge (tgt := 1238) hx hb dL_law_1222 (by decide) (fun c_1222 => ?_) (fun c_1222 => ?_)
                                      · have h2 := hp_pos c_1222 h2
                                        refine lv_iload hx hb dL_law_1238 (lv_at hl 9 rfl) ?_
                                        obtain rfl := Option.some.inj h2
                                        exact after_1240 _ _ _ _ hI hP hD hS (lv_sub hl [0, 1, 2, 3, 4, 5, 6, 7, 8, 9] rfl)
                                      · have h2 := hp_neg c_1222 h2
                                        refine lv_aload_n hx hb dL_law_1225 rfl (lv_at hl 2 rfl) ?_
                                        refine lv_bipush (v := 6) hx hb dL_law_1226 (by decide) ?_
                                        refine lv_iconst (v := -1) hx hb dL_law_1228 (by decide) ?_
                                        obtain ⟨r_1229, e_1229, h2⟩ := ob1_inv h2
                                        refine k_pSi (rest := [.int r_1217]) ⟨hx, hb, hml, hown, hts⟩ (c_L_come l dC dI cI cS a_g e_1229) (va_cwS 3 hts gL_law_L_come rfl rfl rfl khd_L_come.2 ⟨(Nat.le_of_ble_eq_true rfl), (Nat.le_of_ble_eq_true rfl)⟩) hK hN hP hD hS [0] rfl rfl rfl hl.1 rfl (Nat.le_of_ble_eq_true rfl) dL_law_1229 ⟨(Nat.le_of_ble_eq_true rfl), (Nat.le_of_ble_eq_true rfl)⟩ (fun H locs hf_1229 hP hS => ?_)
                                        have hP : va_P (dC, dI) vwCl ((a_g, .inl (cI, 38, .inl ga_746e)) :: (a_k, .inl (cI, 38, .inl ka_718e)) :: w) H := hP
                                        refine lv_bipush (v := 64) hx hb dL_law_1232 (by decide) ?_
                                        refine lv_isub hx hb dL_law_1234 ?_
                                        refine lv_goto (tgt := 1240) hx hb dL_law_1235 (by decide) ?_
                                        obtain rfl := Option.some.inj h2
                                        exact after_1240 _ _ _ _ hI hP hD hS (lv_sub hl [0, 1, 2, 3, 4, 5, 6, 7, 8, 9] rfl)
                                  have h2 := i_1207
                                  refine lv_if_ge (tgt := 1205) hx hb dL_law_1195 (by decide) (fun c_1195 => ?_) (fun c_1195 => ?_)
                                  · have h2 := hp_pos c_1195 h2
                                    refine lv_iload hx hb dL_law_1205 (lv_at hl 9 rfl) ?_
                                    obtain rfl := Option.some.inj h2
                                    exact after_1207 _ _ _ _ hI hP hD hS (lv_sub hl [0, 1, 2, 3, 4, 5, 6, 7, 8, 9] rfl)
                                  · have h2 := hp_neg c_1195 h2
                                    refine lv_aload_n hx hb dL_law_1198 rfl (lv_at hl 2 rfl) ?_
                                    obtain ⟨r_1199, e_1199, h2⟩ := ob1_inv h2
                                    refine k_pSi (rest := [.int r_1190]) ⟨hx, hb, hml, hown, hts⟩ (c_L_unlawful l dC dI cI cS a_g e_1199) (va_cwS 1 hts gL_law_L_unlawful rfl rfl rfl khd_L_unlawful.2 ⟨(Nat.le_of_ble_eq_true rfl), (Nat.le_of_ble_eq_true rfl)⟩) hK hN hP hD hS [0] rfl rfl rfl hl.1 rfl (Nat.le_of_ble_eq_true rfl) dL_law_1199 ⟨(Nat.le_of_ble_eq_true rfl), (Nat.le_of_ble_eq_true rfl)⟩ (fun H locs hf_1199 hP hS => ?_)
                                    have hP : va_P (dC, dI) vwCl ((a_g, .inl (cI, 38, .inl ga_746e)) :: (a_k, .inl (cI, 38, .inl ka_718e)) :: w) H := hP
                                    refine lv_goto (tgt := 1207) hx hb dL_law_1202 (by decide) ?_
                                    obtain rfl := Option.some.inj h2
                                    exact after_1207 _ _ _ _ hI hP hD hS (lv_sub hl [0, 1, 2, 3, 4, 5, 6, 7, 8, 9] rfl)
                              have h2 := i_1180
                              refine lv_if_ge (tgt := 1178) hx hb dL_law_1169 (by decide) (fun c_1169 => ?_) (fun c_1169 => ?_)
                              · have h2 := hp_pos c_1169 h2
                                refine lv_iload hx hb dL_law_1178 (lv_at hl 0 rfl) ?_
                                obtain rfl := Option.some.inj h2
                                exact after_1180 _ _ _ _ hI hP hD hS (lv_sub hl [1, 2, 3, 4, 5, 6, 7, 8, 9, 0] rfl)
                              · have h2 := hp_neg c_1169 h2
                                refine lv_aload_n hx hb dL_law_1172 rfl (lv_at hl 3 rfl) ?_
                                refine lv_iconst (v := 1) hx hb dL_law_1173 (by decide) ?_
                                refine va_iald (D := (dC, dI)) hx hb hK hP 0 0 rfl rfl (by decide) dL_law_1174 ?_
                                refine lv_goto (tgt := 1180) hx hb dL_law_1175 (by decide) ?_
                                obtain rfl := Option.some.inj h2
                                exact after_1180 _ _ _ _ hI hP hD hS (lv_sub hl [1, 2, 3, 4, 5, 6, 7, 8, 9, 0] rfl)
                          exact lq_1103 C0 hK hN after_1103 FUEL _ _ i_1103 _ _ _ _ hI hP hD hS (lv_sub hl [2, 3, 4, 5, 6, 7, 8, 9, 1, 0] rfl)
                        exact lq_746 C0 hK hN after_746 FUEL _ _ _ _ i_746 _ _ _ _ hI hP hD hS (lv_sub hl [2, 3, 4, 5, 6, 7, 8, 1, 0] rfl)
                      exact lq_718 C0 hK hN after_718 FUEL _ _ i_718 _ _ _ _ hI hP hD hS (lv_sub hl [2, 3, 4, 5, 6, 7, 1, 0] rfl)
                    · have h1 := hp_neg c_710 h1
                      cases h1
                  have h2 := i_696
                  refine lv_if_ne (tgt := 694) hx hb dL_law_686 (by decide) (fun c_686 => ?_) (fun c_686 => ?_)
                  · have h2 := hp_neg c_686 h2
                    refine lv_bipush (v := 6) hx hb dL_law_694 (by decide) ?_
                    obtain rfl := Option.some.inj h2
                    exact after_696 _ _ _ _ hI hP hD hS (lv_sub hl [0, 1, 2, 3, 4, 5] rfl)
                  · have h2 := hp_pos c_686 h2
                    refine lv_bipush (v := 15) hx hb dL_law_689 (by decide) ?_
                    refine lv_goto (tgt := 696) hx hb dL_law_691 (by decide) ?_
                    obtain rfl := Option.some.inj h2
                    exact after_696 _ _ _ _ hI hP hD hS (lv_sub hl [0, 1, 2, 3, 4, 5] rfl)
                · have h1 := hp_neg c_670 h1
                  cases h1
        exact lq_125 C0 hK hN after_125 FUEL _ i_125 _ _ _ _ hI hP hD hS (lv_sub hl [3, 4, 5, 6, 7, 8, 2, 1, 0] rfl)
      have h2 := i_99
      refine lv_if_le (tgt := 99) hx hb dL_law_77 (by decide) (fun c_77 => ?_) (fun c_77 => ?_)
      · have h2 := hp_pos c_77 h2
        obtain ⟨rfl, rfl⟩ := pj2 (Option.some.inj h2)
        exact after_99 _ _ _ _ hI hP hD hS (lv_sub hl [0, 1, 2, 3, 4, 5] rfl)
      · have h2 := hp_neg c_77 h2
        refine lv_aload_n hx hb dL_law_80 rfl (lv_at hl 1 rfl) ?_
        refine lv_aload_n hx hb dL_law_81 rfl (lv_at hl 0 rfl) ?_
        refine lv_bipush (v := 6) hx hb dL_law_82 (by decide) ?_
        refine lv_iload hx hb dL_law_84 (lv_at hl 5 rfl) ?_
        refine lv_iadd hx hb dL_law_86 ?_
        obtain ⟨r_87, e_87, h2⟩ := ob1_inv h2
        refine k_XSi (rest := [.ref (ad 0)]) ⟨hx, hb, hml, hown, hts⟩ (c_L_cell l e_87) (va_cwS 2 hts gL_law_L_cell rfl rfl rfl khd_L_cell.2 ⟨(Nat.le_of_ble_eq_true rfl), (Nat.le_of_ble_eq_true rfl)⟩) (hX.kept (hS.2.1 b hbl hbA)) hP hS rfl hl.1 rfl (Nat.le_of_ble_eq_true rfl) dL_law_87 ⟨(Nat.le_of_ble_eq_true rfl), (Nat.le_of_ble_eq_true rfl)⟩ (fun H locs hP hS => ?_)
        have hP : va_P (dC, dI) vwCl ((a_g, .inl (cI, 38, .inl ga_68)) :: (a_k, .inl (cI, 38, .inl ka_68)) :: w) H := hP
        refine lv_aload_n hx hb dL_law_90 rfl (lv_at hl 2 rfl) ?_
        obtain ⟨r_91, r_91_ga, r_91_SS, e_91, h2⟩ := ob3_inv h2
        refine k_GSi (pre := [(a_g, .inl (cI, 38, .inl ga_68)), (a_k, .inl (cI, 38, .inl ka_68))]) (pre' := [(a_g, .inl (cI, 38, .inl r_91_ga)), (a_k, .inl (cI, 38, .inl ka_68))]) (rest := []) ⟨hx, hb, hml, hown, hts⟩ (c_L_change l dC dI cI cS ad a_g e_91) (va_cwS 3 hts gL_law_L_change rfl rfl rfl khd_L_change.2 ⟨(Nat.le_of_ble_eq_true rfl), (Nat.le_of_ble_eq_true rfl)⟩) hK hN hI hP hD hS [0] rfl rfl rfl rfl rfl xT_b (fun _ _ _ => trivial) rfl hl.1 rfl (Nat.le_of_ble_eq_true rfl) dL_law_91 ⟨(Nat.le_of_ble_eq_true rfl), (Nat.le_of_ble_eq_true rfl)⟩ (fun H locs w hf_91 hI hP hD hS => ?_)
        have hP : va_P (dC, dI) vwCl ((a_g, .inl (cI, 38, .inl r_91_ga)) :: (a_k, .inl (cI, 38, .inl ka_68)) :: w) H := hP
        have hD : va_D (fun q : Nat => s.heap.size ≤ q) ((a_g, .inl (cI, 38, .inl r_91_ga)) :: (a_k, .inl (cI, 38, .inl ka_68)) :: w) := hD
        refine lv_if_ne (tgt := 99) hx hb dL_law_94 (by decide) (fun c_94 => ?_) (fun c_94 => ?_)
        · have h2 := hp_neg c_94 h2
          obtain ⟨rfl, rfl⟩ := pj2 (Option.some.inj h2)
          exact after_99 _ _ _ _ hI hP hD hS (lv_sub hl [0, 1, 2, 3, 4, 5] rfl)
        · have h2 := hp_pos c_94 h2
          cases h2
set_option maxHeartbeats 32000000 in
set_option maxRecDepth 100000 in
theorem law_walk (C0 : lw_At p s m meth c b L xs) (hK : va_K (dC, dI) vwCl (tyW cI cS) s) (hN : Nst s) (hbg : b ≠ a_g ∧ b ∉ AL ad) {SS : SG} {ga ka : Nat → Int32} {r : Int32} (h : f_L_law L xs ga ka SS = some r) : ∀ (w : va_W) (H : Heap) (locs : List Loc) (ls : Array Slot), gI cI cS ad SS w → va_P (dC, dI) vwCl ((a_g, .inl (cI, 38, .inl ga)) :: (a_k, .inl (cI, 38, .inl ka)) :: w) H → va_D (fun q : Nat => s.heap.size ≤ q) ((a_g, .inl (cI, 38, .inl ga)) :: (a_k, .inl (cI, 38, .inl ka)) :: w) → va_S (fun q : Nat => s.heap.size ≤ q) s.heap H locs → lv_has ls 19 [(3, .ref a_k), (2, .ref a_g), (1, .ref (ad 0)), (0, .ref b)] → W p l e room_1 s m #[Value.ref b] below meth c H locs NCELL NSLOT (lw_Z below #[Value.ref b] s) (F0 m 18 ls []) := by
  obtain ⟨hx, hb, hr, hml, hown, hts0, hX, hbl, hlocks, hgv⟩ := id C0
  have hts : ∀ w ∈ wsL_law, w.before #[Value.ref b] s = true := fun w h => hts0 w (wsL_law_in w h)
  have hbA : ¬ (fun q : Nat => s.heap.size ≤ q) b := Nat.not_le.mpr hbl
  intro w H locs ls hI hP hD hS hl
  unfold f_L_law at h
  refine lv_aload_n hx hb dL_law_18 rfl (lv_at hl 2 rfl) ?_
  refine lv_aload_n hx hb dL_law_19 rfl (lv_at hl 3 rfl) ?_
  refine lv_iconst (v := 0) hx hb dL_law_20 (by decide) ?_
  refine lv_aload_n hx hb dL_law_21 rfl (lv_at hl 1 rfl) ?_
  obtain ⟨r_22, r_22_ga, r_22_SS, e_22, h⟩ := ob3_inv h
  refine k_GSi (pre := [(a_g, .inl (cI, 38, .inl ga)), (a_k, .inl (cI, 38, .inl ka))]) (pre' := [(a_g, .inl (cI, 38, .inl r_22_ga)), (a_k, .inl (cI, 38, .inl ka))]) (rest := []) ⟨hx, hb, hml, hown, hts⟩ (c_L_put l dC dI cI cS ad a_g hbg e_22) (va_cwS 4 hts gL_law_L_put rfl rfl rfl khd_L_put.2 ⟨(Nat.le_of_ble_eq_true rfl), (Nat.le_of_ble_eq_true rfl)⟩) hK hN hI hP hD hS [0] rfl rfl rfl rfl rfl xS_b (fun U hU hW => by show va_X b L xs U U.heap; rw [hU]; exact va_X.moved hW.alike (hX.kept (hS.2.1 b hbl hbA))) rfl hl.1 rfl (Nat.le_of_ble_eq_true rfl) dL_law_22 ⟨(Nat.le_of_ble_eq_true rfl), (Nat.le_of_ble_eq_true rfl)⟩ (fun H locs w hf_22 hI hP hD hS => ?_)
  have hP : va_P (dC, dI) vwCl ((a_g, .inl (cI, 38, .inl r_22_ga)) :: (a_k, .inl (cI, 38, .inl ka)) :: w) H := hP
  have hD : va_D (fun q : Nat => s.heap.size ≤ q) ((a_g, .inl (cI, 38, .inl r_22_ga)) :: (a_k, .inl (cI, 38, .inl ka)) :: w) := hD
  refine lv_istore (lv' := [(4, .int r_22), (3, .ref a_k), (2, .ref a_g), (1, .ref (ad 0)), (0, .ref b)]) hx hb dL_law_25 hl (by decide) rfl (fun ls hl => ?_)
  refine lv_aload_n hx hb dL_law_27 rfl (lv_at hl 2 rfl) ?_
  refine lv_iconst (v := 0) hx hb dL_law_28 (by decide) ?_
  refine va_iald (D := (dC, dI)) hx hb hK hP 0 0 rfl rfl (by decide) dL_law_29 ?_
  refine lv_istore (lv' := [(5, .int (r_22_ga 0)), (4, .int r_22), (3, .ref a_k), (2, .ref a_g), (1, .ref (ad 0)), (0, .ref b)]) hx hb dL_law_30 hl (by decide) rfl (fun ls hl => ?_)
  refine lv_iload hx hb dL_law_32 (lv_at hl 1 rfl) ?_
  refine lv_iconst (v := 4) hx hb dL_law_34 (by decide) ?_
  refine lv_icmp_lt (tgt := 63) hx hb dL_law_35 (by decide) (fun c_35 => ?_) (fun c_35 => ?_)
  · have h := hp_pos c_35 h
    cases h
  · have h := hp_neg c_35 h
    refine lv_aload_n hx hb dL_law_38 rfl (lv_at hl 4 rfl) ?_
    refine lv_iconst (v := 0) hx hb dL_law_39 (by decide) ?_
    refine lv_iconst (v := 0) hx hb dL_law_40 (by decide) ?_
    refine lv_iconst (v := 0) hx hb dL_law_41 (by decide) ?_
    refine lv_iload hx hb dL_law_42 (lv_at hl 1 rfl) ?_
    obtain ⟨r_44, r_44_S, e_44, h⟩ := ob2_inv h
    refine k_GVi (pre := [(a_g, .inl (cI, 38, .inl r_22_ga)), (a_k, .inl (cI, 38, .inl ka))]) (rest := []) ⟨hx, hb, hml, hown, hts⟩ (A_X4_things l dC dI cI cS ad e_44) (cwV 4 hts gL_law_X4_things rfl rfl rfl khd_X4_things ⟨(Nat.le_of_ble_eq_true rfl), (Nat.le_of_ble_eq_true rfl)⟩) hK hN hI hP hD hS rfl hl.1 rfl (Nat.le_of_ble_eq_true rfl) dL_law_44 ⟨(Nat.le_of_ble_eq_true rfl), (Nat.le_of_ble_eq_true rfl)⟩ (fun H locs w hI hP hD hS => ?_)
    have hP : va_P (dC, dI) vwCl ((a_g, .inl (cI, 38, .inl r_22_ga)) :: (a_k, .inl (cI, 38, .inl ka)) :: w) H := hP
    have hD : va_D (fun q : Nat => s.heap.size ≤ q) ((a_g, .inl (cI, 38, .inl r_22_ga)) :: (a_k, .inl (cI, 38, .inl ka)) :: w) := hD
    refine lv_iload hx hb dL_law_47 (lv_at hl 0 rfl) ?_
    refine lv_icmp_ne (tgt := 63) hx hb dL_law_49 (by decide) (fun c_49 => ?_) (fun c_49 => ?_)
    · have h := hp_neg c_49 h
      cases h
    · have h := hp_pos c_49 h
      refine lv_aload_n hx hb dL_law_52 rfl (lv_at hl 4 rfl) ?_
      refine lv_iconst (v := 1) hx hb dL_law_53 (by decide) ?_
      obtain ⟨r_54, e_54, h⟩ := ob1_inv h
      refine k_GVi (pre := [(a_g, .inl (cI, 38, .inl r_22_ga)), (a_k, .inl (cI, 38, .inl ka))]) (rest := []) ⟨hx, hb, hml, hown, hts⟩ (A_X4_many l dC dI cI cS ad e_54) (cwV 1 hts gL_law_X4_many rfl rfl rfl khd_X4_many ⟨(Nat.le_of_ble_eq_true rfl), (Nat.le_of_ble_eq_true rfl)⟩) hK hN hI hP hD hS rfl hl.1 rfl (Nat.le_of_ble_eq_true rfl) dL_law_54 ⟨(Nat.le_of_ble_eq_true rfl), (Nat.le_of_ble_eq_true rfl)⟩ (fun H locs w hI hP hD hS => ?_)
      have hP : va_P (dC, dI) vwCl ((a_g, .inl (cI, 38, .inl r_22_ga)) :: (a_k, .inl (cI, 38, .inl ka)) :: w) H := hP
      have hD : va_D (fun q : Nat => s.heap.size ≤ q) ((a_g, .inl (cI, 38, .inl r_22_ga)) :: (a_k, .inl (cI, 38, .inl ka)) :: w) := hD
      refine lv_aload_n hx hb dL_law_57 rfl (lv_at hl 3 rfl) ?_
      refine lv_iconst (v := 1) hx hb dL_law_58 (by decide) ?_
      refine va_iald (D := (dC, dI)) hx hb hK hP 0 0 rfl rfl (by decide) dL_law_59 ?_
      refine lv_icmp_eq (tgt := 65) hx hb dL_law_60 (by decide) (fun c_60 => ?_) (fun c_60 => ?_)
      · have h := hp_pos c_60 h
        refine lv_iconst (v := 0) hx hb dL_law_65 (by decide) ?_
        refine lv_istore (lv' := [(6, .int (0 : Int32)), (5, .int (r_22_ga 0)), (4, .int r_22), (3, .ref a_k), (2, .ref a_g), (1, .ref (ad 0)), (0, .ref b)]) hx hb dL_law_66 hl (by decide) rfl (fun ls hl => ?_)
        obtain ⟨ga_68e, ka_68e, SS_68e, i_68, h⟩ := ob3_inv h
        have after_68 : ∀ (w : va_W) (H : Heap) (locs : List Loc) (ls : Array Slot), gI cI cS ad SS_68e w → va_P (dC, dI) vwCl ((a_g, .inl (cI, 38, .inl ga_68e)) :: (a_k, .inl (cI, 38, .inl ka_68e)) :: w) H → va_D (fun q : Nat => s.heap.size ≤ q) ((a_g, .inl (cI, 38, .inl ga_68e)) :: (a_k, .inl (cI, 38, .inl ka_68e)) :: w) → va_S (fun q : Nat => s.heap.size ≤ q) s.heap H locs → lv_has ls 19 [(1, .ref (ad 0)), (2, .ref a_g), (5, .int (r_22_ga 0))] → W p l e room_1 s m #[Value.ref b] below meth c H locs NCELL NSLOT (lw_Z below #[Value.ref b] s) (F0 m 1411 ls []) := by
          intro w H locs ls hI hP hD hS hl
          refine lv_aload_n hx hb dL_law_1411 rfl (lv_at hl 0 rfl) ?_
          refine lv_iload hx hb dL_law_1412 (lv_at hl 2 rfl) ?_
          refine lv_iconst (v := 0) hx hb dL_law_1414 (by decide) ?_
          obtain ⟨r_1415, e_1415, h⟩ := ob1_inv h
          refine k_GVi (pre := [(a_g, .inl (cI, 38, .inl ga_68e)), (a_k, .inl (cI, 38, .inl ka_68e))]) (rest := []) ⟨hx, hb, hml, hown, hts⟩ (A_X4_ofThing l dC dI cI cS ad e_1415) (cwV 2 hts gL_law_X4_ofThing rfl rfl rfl khd_X4_ofThing ⟨(Nat.le_of_ble_eq_true rfl), (Nat.le_of_ble_eq_true rfl)⟩) hK hN hI hP hD hS rfl hl.1 rfl (Nat.le_of_ble_eq_true rfl) dL_law_1415 ⟨(Nat.le_of_ble_eq_true rfl), (Nat.le_of_ble_eq_true rfl)⟩ (fun H locs w hI hP hD hS => ?_)
          have hP : va_P (dC, dI) vwCl ((a_g, .inl (cI, 38, .inl ga_68e)) :: (a_k, .inl (cI, 38, .inl ka_68e)) :: w) H := hP
          have hD : va_D (fun q : Nat => s.heap.size ≤ q) ((a_g, .inl (cI, 38, .inl ga_68e)) :: (a_k, .inl (cI, 38, .inl ka_68e)) :: w) := hD
          refine lv_iconst (v := -1) hx hb dL_law_1418 (by decide) ?_
          refine lv_icmp_ne (tgt := 1585) hx hb dL_law_1419 (by decide) (fun c_1419 => ?_) (fun c_1419 => ?_)
          · have h := hp_neg c_1419 h
            cases h
          · have h := hp_pos c_1419 h
            refine lv_aload_n hx hb dL_law_1422 rfl (lv_at hl 0 rfl) ?_
            refine lv_iconst (v := 0) hx hb dL_law_1423 (by decide) ?_
            refine lv_bipush (v := 11) hx hb dL_law_1424 (by decide) ?_
            obtain ⟨r_1426, e_1426, h⟩ := ob1_inv h
            refine k_GVi (pre := [(a_g, .inl (cI, 38, .inl ga_68e)), (a_k, .inl (cI, 38, .inl ka_68e))]) (rest := []) ⟨hx, hb, hml, hown, hts⟩ (A_X4_ofThing l dC dI cI cS ad e_1426) (cwV 2 hts gL_law_X4_ofThing rfl rfl rfl khd_X4_ofThing ⟨(Nat.le_of_ble_eq_true rfl), (Nat.le_of_ble_eq_true rfl)⟩) hK hN hI hP hD hS rfl hl.1 rfl (Nat.le_of_ble_eq_true rfl) dL_law_1426 ⟨(Nat.le_of_ble_eq_true rfl), (Nat.le_of_ble_eq_true rfl)⟩ (fun H locs w hI hP hD hS => ?_)
            have hP : va_P (dC, dI) vwCl ((a_g, .inl (cI, 38, .inl ga_68e)) :: (a_k, .inl (cI, 38, .inl ka_68e)) :: w) H := hP
            have hD : va_D (fun q : Nat => s.heap.size ≤ q) ((a_g, .inl (cI, 38, .inl ga_68e)) :: (a_k, .inl (cI, 38, .inl ka_68e)) :: w) := hD
            refine lv_bipush (v := -2) hx hb dL_law_1429 (by decide) ?_
            refine lv_icmp_ne (tgt := 1585) hx hb dL_law_1431 (by decide) (fun c_1431 => ?_) (fun c_1431 => ?_)
            · have h := hp_neg c_1431 h
              cases h
            · have h := hp_pos c_1431 h
              refine lv_aload_n hx hb dL_law_1434 rfl (lv_at hl 0 rfl) ?_
              refine lv_bipush (v := 7) hx hb dL_law_1435 (by decide) ?_
              refine lv_iconst (v := 0) hx hb dL_law_1437 (by decide) ?_
              obtain ⟨r_1438, e_1438, h⟩ := ob1_inv h
              refine k_GVi (pre := [(a_g, .inl (cI, 38, .inl ga_68e)), (a_k, .inl (cI, 38, .inl ka_68e))]) (rest := []) ⟨hx, hb, hml, hown, hts⟩ (A_X4_refers l dC dI cI cS ad e_1438) (cwV 2 hts gL_law_X4_refers rfl rfl rfl khd_X4_refers ⟨(Nat.le_of_ble_eq_true rfl), (Nat.le_of_ble_eq_true rfl)⟩) hK hN hI hP hD hS rfl hl.1 rfl (Nat.le_of_ble_eq_true rfl) dL_law_1438 ⟨(Nat.le_of_ble_eq_true rfl), (Nat.le_of_ble_eq_true rfl)⟩ (fun H locs w hI hP hD hS => ?_)
              have hP : va_P (dC, dI) vwCl ((a_g, .inl (cI, 38, .inl ga_68e)) :: (a_k, .inl (cI, 38, .inl ka_68e)) :: w) H := hP
              have hD : va_D (fun q : Nat => s.heap.size ≤ q) ((a_g, .inl (cI, 38, .inl ga_68e)) :: (a_k, .inl (cI, 38, .inl ka_68e)) :: w) := hD
              refine lv_iconst (v := -1) hx hb dL_law_1441 (by decide) ?_
              refine lv_icmp_ne (tgt := 1585) hx hb dL_law_1442 (by decide) (fun c_1442 => ?_) (fun c_1442 => ?_)
              · have h := hp_neg c_1442 h
                cases h
              · have h := hp_pos c_1442 h
                refine lv_aload_n hx hb dL_law_1445 rfl (lv_at hl 0 rfl) ?_
                refine lv_iconst (v := 0) hx hb dL_law_1446 (by decide) ?_
                refine lv_iload hx hb dL_law_1447 (lv_at hl 2 rfl) ?_
                obtain ⟨r_1449, e_1449, h⟩ := ob1_inv h
                refine k_GVi (pre := [(a_g, .inl (cI, 38, .inl ga_68e)), (a_k, .inl (cI, 38, .inl ka_68e))]) (rest := []) ⟨hx, hb, hml, hown, hts⟩ (A_X4_refers l dC dI cI cS ad e_1449) (cwV 2 hts gL_law_X4_refers rfl rfl rfl khd_X4_refers ⟨(Nat.le_of_ble_eq_true rfl), (Nat.le_of_ble_eq_true rfl)⟩) hK hN hI hP hD hS rfl hl.1 rfl (Nat.le_of_ble_eq_true rfl) dL_law_1449 ⟨(Nat.le_of_ble_eq_true rfl), (Nat.le_of_ble_eq_true rfl)⟩ (fun H locs w hI hP hD hS => ?_)
                have hP : va_P (dC, dI) vwCl ((a_g, .inl (cI, 38, .inl ga_68e)) :: (a_k, .inl (cI, 38, .inl ka_68e)) :: w) H := hP
                have hD : va_D (fun q : Nat => s.heap.size ≤ q) ((a_g, .inl (cI, 38, .inl ga_68e)) :: (a_k, .inl (cI, 38, .inl ka_68e)) :: w) := hD
                refine lv_iconst (v := -1) hx hb dL_law_1452 (by decide) ?_
                refine lv_icmp_ne (tgt := 1585) hx hb dL_law_1453 (by decide) (fun c_1453 => ?_) (fun c_1453 => ?_)
                · have h := hp_neg c_1453 h
                  cases h
                · have h := hp_pos c_1453 h
                  refine lv_aload_n hx hb dL_law_1456 rfl (lv_at hl 0 rfl) ?_
                  refine lv_iconst (v := 0) hx hb dL_law_1457 (by decide) ?_
                  refine lv_bipush (v := 6) hx hb dL_law_1458 (by decide) ?_
                  obtain ⟨r_1460, e_1460, h⟩ := ob1_inv h
                  refine k_GVi (pre := [(a_g, .inl (cI, 38, .inl ga_68e)), (a_k, .inl (cI, 38, .inl ka_68e))]) (rest := []) ⟨hx, hb, hml, hown, hts⟩ (A_X4_refers l dC dI cI cS ad e_1460) (cwV 2 hts gL_law_X4_refers rfl rfl rfl khd_X4_refers ⟨(Nat.le_of_ble_eq_true rfl), (Nat.le_of_ble_eq_true rfl)⟩) hK hN hI hP hD hS rfl hl.1 rfl (Nat.le_of_ble_eq_true rfl) dL_law_1460 ⟨(Nat.le_of_ble_eq_true rfl), (Nat.le_of_ble_eq_true rfl)⟩ (fun H locs w hI hP hD hS => ?_)
                  have hP : va_P (dC, dI) vwCl ((a_g, .inl (cI, 38, .inl ga_68e)) :: (a_k, .inl (cI, 38, .inl ka_68e)) :: w) H := hP
                  have hD : va_D (fun q : Nat => s.heap.size ≤ q) ((a_g, .inl (cI, 38, .inl ga_68e)) :: (a_k, .inl (cI, 38, .inl ka_68e)) :: w) := hD
                  refine lv_iconst (v := -1) hx hb dL_law_1463 (by decide) ?_
                  refine lv_icmp_ne (tgt := 1585) hx hb dL_law_1464 (by decide) (fun c_1464 => ?_) (fun c_1464 => ?_)
                  · have h := hp_neg c_1464 h
                    cases h
                  · have h := hp_pos c_1464 h
                    refine lv_aload_n hx hb dL_law_1467 rfl (lv_at hl 0 rfl) ?_
                    refine lv_iconst (v := -1) hx hb dL_law_1468 (by decide) ?_
                    refine lv_iconst (v := 0) hx hb dL_law_1469 (by decide) ?_
                    obtain ⟨r_1470, e_1470, h⟩ := ob1_inv h
                    refine k_GVi (pre := [(a_g, .inl (cI, 38, .inl ga_68e)), (a_k, .inl (cI, 38, .inl ka_68e))]) (rest := []) ⟨hx, hb, hml, hown, hts⟩ (A_X4_place l dC dI cI cS ad e_1470) (cwV 2 hts gL_law_X4_place rfl rfl rfl khd_X4_place ⟨(Nat.le_of_ble_eq_true rfl), (Nat.le_of_ble_eq_true rfl)⟩) hK hN hI hP hD hS rfl hl.1 rfl (Nat.le_of_ble_eq_true rfl) dL_law_1470 ⟨(Nat.le_of_ble_eq_true rfl), (Nat.le_of_ble_eq_true rfl)⟩ (fun H locs w hI hP hD hS => ?_)
                    have hP : va_P (dC, dI) vwCl ((a_g, .inl (cI, 38, .inl ga_68e)) :: (a_k, .inl (cI, 38, .inl ka_68e)) :: w) H := hP
                    have hD : va_D (fun q : Nat => s.heap.size ≤ q) ((a_g, .inl (cI, 38, .inl ga_68e)) :: (a_k, .inl (cI, 38, .inl ka_68e)) :: w) := hD
                    refine lv_iconst (v := -1) hx hb dL_law_1473 (by decide) ?_
                    refine lv_icmp_ne (tgt := 1585) hx hb dL_law_1474 (by decide) (fun c_1474 => ?_) (fun c_1474 => ?_)
                    · have h := hp_neg c_1474 h
                      cases h
                    · have h := hp_pos c_1474 h
                      refine lv_aload_n hx hb dL_law_1477 rfl (lv_at hl 0 rfl) ?_
                      refine lv_iconst (v := 0) hx hb dL_law_1478 (by decide) ?_
                      refine lv_iconst (v := 0) hx hb dL_law_1479 (by decide) ?_
                      obtain ⟨r_1480, e_1480, h⟩ := ob1_inv h
                      refine k_GVi (pre := [(a_g, .inl (cI, 38, .inl ga_68e)), (a_k, .inl (cI, 38, .inl ka_68e))]) (rest := []) ⟨hx, hb, hml, hown, hts⟩ (A_X4_place l dC dI cI cS ad e_1480) (cwV 2 hts gL_law_X4_place rfl rfl rfl khd_X4_place ⟨(Nat.le_of_ble_eq_true rfl), (Nat.le_of_ble_eq_true rfl)⟩) hK hN hI hP hD hS rfl hl.1 rfl (Nat.le_of_ble_eq_true rfl) dL_law_1480 ⟨(Nat.le_of_ble_eq_true rfl), (Nat.le_of_ble_eq_true rfl)⟩ (fun H locs w hI hP hD hS => ?_)
                      have hP : va_P (dC, dI) vwCl ((a_g, .inl (cI, 38, .inl ga_68e)) :: (a_k, .inl (cI, 38, .inl ka_68e)) :: w) H := hP
                      have hD : va_D (fun q : Nat => s.heap.size ≤ q) ((a_g, .inl (cI, 38, .inl ga_68e)) :: (a_k, .inl (cI, 38, .inl ka_68e)) :: w) := hD
                      refine lv_bipush (v := -9) hx hb dL_law_1483 (by decide) ?_
                      refine lv_icmp_ne (tgt := 1585) hx hb dL_law_1485 (by decide) (fun c_1485 => ?_) (fun c_1485 => ?_)
                      · have h := hp_neg c_1485 h
                        cases h
                      · have h := hp_pos c_1485 h
                        refine lv_aload_n hx hb dL_law_1488 rfl (lv_at hl 0 rfl) ?_
                        refine lv_bipush (v := 7) hx hb dL_law_1489 (by decide) ?_
                        refine lv_iconst (v := 0) hx hb dL_law_1491 (by decide) ?_
                        obtain ⟨r_1492, r_1492_S, e_1492, h⟩ := ob2_inv h
                        refine k_GVi (pre := [(a_g, .inl (cI, 38, .inl ga_68e)), (a_k, .inl (cI, 38, .inl ka_68e))]) (rest := []) ⟨hx, hb, hml, hown, hts⟩ (A_X4_refer l dC dI cI cS ad e_1492) (cwV 2 hts gL_law_X4_refer rfl rfl rfl khd_X4_refer ⟨(Nat.le_of_ble_eq_true rfl), (Nat.le_of_ble_eq_true rfl)⟩) hK hN hI hP hD hS rfl hl.1 rfl (Nat.le_of_ble_eq_true rfl) dL_law_1492 ⟨(Nat.le_of_ble_eq_true rfl), (Nat.le_of_ble_eq_true rfl)⟩ (fun H locs w hI hP hD hS => ?_)
                        have hP : va_P (dC, dI) vwCl ((a_g, .inl (cI, 38, .inl ga_68e)) :: (a_k, .inl (cI, 38, .inl ka_68e)) :: w) H := hP
                        have hD : va_D (fun q : Nat => s.heap.size ≤ q) ((a_g, .inl (cI, 38, .inl ga_68e)) :: (a_k, .inl (cI, 38, .inl ka_68e)) :: w) := hD
                        refine lv_iconst (v := -1) hx hb dL_law_1495 (by decide) ?_
                        refine lv_icmp_ne (tgt := 1585) hx hb dL_law_1496 (by decide) (fun c_1496 => ?_) (fun c_1496 => ?_)
                        · have h := hp_neg c_1496 h
                          cases h
                        · have h := hp_pos c_1496 h
                          refine lv_aload_n hx hb dL_law_1499 rfl (lv_at hl 0 rfl) ?_
                          refine lv_bipush (v := 6) hx hb dL_law_1500 (by decide) ?_
                          refine lv_bipush (v := 6) hx hb dL_law_1502 (by decide) ?_
                          obtain ⟨r_1504, r_1504_S, e_1504, h⟩ := ob2_inv h
                          refine k_GVi (pre := [(a_g, .inl (cI, 38, .inl ga_68e)), (a_k, .inl (cI, 38, .inl ka_68e))]) (rest := []) ⟨hx, hb, hml, hown, hts⟩ (A_X4_refer l dC dI cI cS ad e_1504) (cwV 2 hts gL_law_X4_refer rfl rfl rfl khd_X4_refer ⟨(Nat.le_of_ble_eq_true rfl), (Nat.le_of_ble_eq_true rfl)⟩) hK hN hI hP hD hS rfl hl.1 rfl (Nat.le_of_ble_eq_true rfl) dL_law_1504 ⟨(Nat.le_of_ble_eq_true rfl), (Nat.le_of_ble_eq_true rfl)⟩ (fun H locs w hI hP hD hS => ?_)
                          have hP : va_P (dC, dI) vwCl ((a_g, .inl (cI, 38, .inl ga_68e)) :: (a_k, .inl (cI, 38, .inl ka_68e)) :: w) H := hP
                          have hD : va_D (fun q : Nat => s.heap.size ≤ q) ((a_g, .inl (cI, 38, .inl ga_68e)) :: (a_k, .inl (cI, 38, .inl ka_68e)) :: w) := hD
                          refine lv_iconst (v := -1) hx hb dL_law_1507 (by decide) ?_
                          refine lv_icmp_ne (tgt := 1585) hx hb dL_law_1508 (by decide) (fun c_1508 => ?_) (fun c_1508 => ?_)
                          · have h := hp_neg c_1508 h
                            cases h
                          · have h := hp_pos c_1508 h
                            refine lv_aload_n hx hb dL_law_1511 rfl (lv_at hl 0 rfl) ?_
                            refine lv_iconst (v := 0) hx hb dL_law_1512 (by decide) ?_
                            refine lv_iconst (v := 0) hx hb dL_law_1513 (by decide) ?_
                            obtain ⟨r_1514, r_1514_S, e_1514, h⟩ := ob2_inv h
                            refine k_GVi (pre := [(a_g, .inl (cI, 38, .inl ga_68e)), (a_k, .inl (cI, 38, .inl ka_68e))]) (rest := []) ⟨hx, hb, hml, hown, hts⟩ (A_X4_refer l dC dI cI cS ad e_1514) (cwV 2 hts gL_law_X4_refer rfl rfl rfl khd_X4_refer ⟨(Nat.le_of_ble_eq_true rfl), (Nat.le_of_ble_eq_true rfl)⟩) hK hN hI hP hD hS rfl hl.1 rfl (Nat.le_of_ble_eq_true rfl) dL_law_1514 ⟨(Nat.le_of_ble_eq_true rfl), (Nat.le_of_ble_eq_true rfl)⟩ (fun H locs w hI hP hD hS => ?_)
                            have hP : va_P (dC, dI) vwCl ((a_g, .inl (cI, 38, .inl ga_68e)) :: (a_k, .inl (cI, 38, .inl ka_68e)) :: w) H := hP
                            have hD : va_D (fun q : Nat => s.heap.size ≤ q) ((a_g, .inl (cI, 38, .inl ga_68e)) :: (a_k, .inl (cI, 38, .inl ka_68e)) :: w) := hD
                            refine lv_iconst (v := -1) hx hb dL_law_1517 (by decide) ?_
                            refine lv_icmp_ne (tgt := 1585) hx hb dL_law_1518 (by decide) (fun c_1518 => ?_) (fun c_1518 => ?_)
                            · have h := hp_neg c_1518 h
                              cases h
                            · have h := hp_pos c_1518 h
                              refine lv_aload_n hx hb dL_law_1521 rfl (lv_at hl 0 rfl) ?_
                              refine lv_bipush (v := 6) hx hb dL_law_1522 (by decide) ?_
                              refine lv_iconst (v := 0) hx hb dL_law_1524 (by decide) ?_
                              obtain ⟨r_1525, r_1525_S, e_1525, h⟩ := ob2_inv h
                              refine k_GVi (pre := [(a_g, .inl (cI, 38, .inl ga_68e)), (a_k, .inl (cI, 38, .inl ka_68e))]) (rest := []) ⟨hx, hb, hml, hown, hts⟩ (A_X4_own l dC dI cI cS ad e_1525) (cwV 2 hts gL_law_X4_own rfl rfl rfl khd_X4_own ⟨(Nat.le_of_ble_eq_true rfl), (Nat.le_of_ble_eq_true rfl)⟩) hK hN hI hP hD hS rfl hl.1 rfl (Nat.le_of_ble_eq_true rfl) dL_law_1525 ⟨(Nat.le_of_ble_eq_true rfl), (Nat.le_of_ble_eq_true rfl)⟩ (fun H locs w hI hP hD hS => ?_)
                              have hP : va_P (dC, dI) vwCl ((a_g, .inl (cI, 38, .inl ga_68e)) :: (a_k, .inl (cI, 38, .inl ka_68e)) :: w) H := hP
                              have hD : va_D (fun q : Nat => s.heap.size ≤ q) ((a_g, .inl (cI, 38, .inl ga_68e)) :: (a_k, .inl (cI, 38, .inl ka_68e)) :: w) := hD
                              refine lv_iconst (v := -1) hx hb dL_law_1528 (by decide) ?_
                              refine lv_icmp_ne (tgt := 1585) hx hb dL_law_1529 (by decide) (fun c_1529 => ?_) (fun c_1529 => ?_)
                              · have h := hp_neg c_1529 h
                                cases h
                              · have h := hp_pos c_1529 h
                                refine lv_aload_n hx hb dL_law_1532 rfl (lv_at hl 0 rfl) ?_
                                refine lv_iconst (v := 0) hx hb dL_law_1533 (by decide) ?_
                                refine lv_bipush (v := 7) hx hb dL_law_1534 (by decide) ?_
                                obtain ⟨r_1536, r_1536_S, e_1536, h⟩ := ob2_inv h
                                refine k_GVi (pre := [(a_g, .inl (cI, 38, .inl ga_68e)), (a_k, .inl (cI, 38, .inl ka_68e))]) (rest := []) ⟨hx, hb, hml, hown, hts⟩ (A_X4_own l dC dI cI cS ad e_1536) (cwV 2 hts gL_law_X4_own rfl rfl rfl khd_X4_own ⟨(Nat.le_of_ble_eq_true rfl), (Nat.le_of_ble_eq_true rfl)⟩) hK hN hI hP hD hS rfl hl.1 rfl (Nat.le_of_ble_eq_true rfl) dL_law_1536 ⟨(Nat.le_of_ble_eq_true rfl), (Nat.le_of_ble_eq_true rfl)⟩ (fun H locs w hI hP hD hS => ?_)
                                have hP : va_P (dC, dI) vwCl ((a_g, .inl (cI, 38, .inl ga_68e)) :: (a_k, .inl (cI, 38, .inl ka_68e)) :: w) H := hP
                                have hD : va_D (fun q : Nat => s.heap.size ≤ q) ((a_g, .inl (cI, 38, .inl ga_68e)) :: (a_k, .inl (cI, 38, .inl ka_68e)) :: w) := hD
                                refine lv_iconst (v := -1) hx hb dL_law_1539 (by decide) ?_
                                refine lv_icmp_ne (tgt := 1585) hx hb dL_law_1540 (by decide) (fun c_1540 => ?_) (fun c_1540 => ?_)
                                · have h := hp_neg c_1540 h
                                  cases h
                                · have h := hp_pos c_1540 h
                                  refine lv_aload_n hx hb dL_law_1543 rfl (lv_at hl 0 rfl) ?_
                                  refine lv_iconst (v := 0) hx hb dL_law_1544 (by decide) ?_
                                  refine lv_iconst (v := 0) hx hb dL_law_1545 (by decide) ?_
                                  obtain ⟨r_1546, r_1546_S, e_1546, h⟩ := ob2_inv h
                                  refine k_GVi (pre := [(a_g, .inl (cI, 38, .inl ga_68e)), (a_k, .inl (cI, 38, .inl ka_68e))]) (rest := []) ⟨hx, hb, hml, hown, hts⟩ (A_X4_own l dC dI cI cS ad e_1546) (cwV 2 hts gL_law_X4_own rfl rfl rfl khd_X4_own ⟨(Nat.le_of_ble_eq_true rfl), (Nat.le_of_ble_eq_true rfl)⟩) hK hN hI hP hD hS rfl hl.1 rfl (Nat.le_of_ble_eq_true rfl) dL_law_1546 ⟨(Nat.le_of_ble_eq_true rfl), (Nat.le_of_ble_eq_true rfl)⟩ (fun H locs w hI hP hD hS => ?_)
                                  have hP : va_P (dC, dI) vwCl ((a_g, .inl (cI, 38, .inl ga_68e)) :: (a_k, .inl (cI, 38, .inl ka_68e)) :: w) H := hP
                                  have hD : va_D (fun q : Nat => s.heap.size ≤ q) ((a_g, .inl (cI, 38, .inl ga_68e)) :: (a_k, .inl (cI, 38, .inl ka_68e)) :: w) := hD
                                  refine lv_iconst (v := -1) hx hb dL_law_1549 (by decide) ?_
                                  refine lv_icmp_ne (tgt := 1585) hx hb dL_law_1550 (by decide) (fun c_1550 => ?_) (fun c_1550 => ?_)
                                  · have h := hp_neg c_1550 h
                                    cases h
                                  · have h := hp_pos c_1550 h
                                    refine lv_aload_n hx hb dL_law_1553 rfl (lv_at hl 0 rfl) ?_
                                    refine lv_iconst (v := 0) hx hb dL_law_1554 (by decide) ?_
                                    refine lv_bipush (v := 6) hx hb dL_law_1555 (by decide) ?_
                                    obtain ⟨r_1557, r_1557_S, e_1557, h⟩ := ob2_inv h
                                    refine k_GVi (pre := [(a_g, .inl (cI, 38, .inl ga_68e)), (a_k, .inl (cI, 38, .inl ka_68e))]) (rest := []) ⟨hx, hb, hml, hown, hts⟩ (A_X4_hand l dC dI cI cS ad e_1557) (cwV 2 hts gL_law_X4_hand rfl rfl rfl khd_X4_hand ⟨(Nat.le_of_ble_eq_true rfl), (Nat.le_of_ble_eq_true rfl)⟩) hK hN hI hP hD hS rfl hl.1 rfl (Nat.le_of_ble_eq_true rfl) dL_law_1557 ⟨(Nat.le_of_ble_eq_true rfl), (Nat.le_of_ble_eq_true rfl)⟩ (fun H locs w hI hP hD hS => ?_)
                                    have hP : va_P (dC, dI) vwCl ((a_g, .inl (cI, 38, .inl ga_68e)) :: (a_k, .inl (cI, 38, .inl ka_68e)) :: w) H := hP
                                    have hD : va_D (fun q : Nat => s.heap.size ≤ q) ((a_g, .inl (cI, 38, .inl ga_68e)) :: (a_k, .inl (cI, 38, .inl ka_68e)) :: w) := hD
                                    refine lv_iconst (v := -1) hx hb dL_law_1560 (by decide) ?_
                                    refine lv_icmp_ne (tgt := 1585) hx hb dL_law_1561 (by decide) (fun c_1561 => ?_) (fun c_1561 => ?_)
                                    · have h := hp_neg c_1561 h
                                      cases h
                                    · have h := hp_pos c_1561 h
                                      refine lv_aload_n hx hb dL_law_1564 rfl (lv_at hl 0 rfl) ?_
                                      refine lv_iload hx hb dL_law_1565 (lv_at hl 2 rfl) ?_
                                      refine lv_iconst (v := 0) hx hb dL_law_1567 (by decide) ?_
                                      obtain ⟨r_1568, r_1568_S, e_1568, h⟩ := ob2_inv h
                                      refine k_GVi (pre := [(a_g, .inl (cI, 38, .inl ga_68e)), (a_k, .inl (cI, 38, .inl ka_68e))]) (rest := []) ⟨hx, hb, hml, hown, hts⟩ (A_X4_hand l dC dI cI cS ad e_1568) (cwV 2 hts gL_law_X4_hand rfl rfl rfl khd_X4_hand ⟨(Nat.le_of_ble_eq_true rfl), (Nat.le_of_ble_eq_true rfl)⟩) hK hN hI hP hD hS rfl hl.1 rfl (Nat.le_of_ble_eq_true rfl) dL_law_1568 ⟨(Nat.le_of_ble_eq_true rfl), (Nat.le_of_ble_eq_true rfl)⟩ (fun H locs w hI hP hD hS => ?_)
                                      have hP : va_P (dC, dI) vwCl ((a_g, .inl (cI, 38, .inl ga_68e)) :: (a_k, .inl (cI, 38, .inl ka_68e)) :: w) H := hP
                                      have hD : va_D (fun q : Nat => s.heap.size ≤ q) ((a_g, .inl (cI, 38, .inl ga_68e)) :: (a_k, .inl (cI, 38, .inl ka_68e)) :: w) := hD
                                      refine lv_iconst (v := -1) hx hb dL_law_1571 (by decide) ?_
                                      refine lv_icmp_ne (tgt := 1585) hx hb dL_law_1572 (by decide) (fun c_1572 => ?_) (fun c_1572 => ?_)
                                      · have h := hp_neg c_1572 h
                                        cases h
                                      · have h := hp_pos c_1572 h
                                        refine lv_aload_n hx hb dL_law_1575 rfl (lv_at hl 0 rfl) ?_
                                        refine lv_iconst (v := 0) hx hb dL_law_1576 (by decide) ?_
                                        refine lv_iconst (v := 0) hx hb dL_law_1577 (by decide) ?_
                                        obtain ⟨r_1578, r_1578_S, e_1578, h⟩ := ob2_inv h
                                        refine k_GVi (pre := [(a_g, .inl (cI, 38, .inl ga_68e)), (a_k, .inl (cI, 38, .inl ka_68e))]) (rest := []) ⟨hx, hb, hml, hown, hts⟩ (A_X4_hand l dC dI cI cS ad e_1578) (cwV 2 hts gL_law_X4_hand rfl rfl rfl khd_X4_hand ⟨(Nat.le_of_ble_eq_true rfl), (Nat.le_of_ble_eq_true rfl)⟩) hK hN hI hP hD hS rfl hl.1 rfl (Nat.le_of_ble_eq_true rfl) dL_law_1578 ⟨(Nat.le_of_ble_eq_true rfl), (Nat.le_of_ble_eq_true rfl)⟩ (fun H locs w hI hP hD hS => ?_)
                                        have hP : va_P (dC, dI) vwCl ((a_g, .inl (cI, 38, .inl ga_68e)) :: (a_k, .inl (cI, 38, .inl ka_68e)) :: w) H := hP
                                        have hD : va_D (fun q : Nat => s.heap.size ≤ q) ((a_g, .inl (cI, 38, .inl ga_68e)) :: (a_k, .inl (cI, 38, .inl ka_68e)) :: w) := hD
                                        refine lv_iconst (v := -1) hx hb dL_law_1581 (by decide) ?_
                                        refine lv_icmp_eq (tgt := 1587) hx hb dL_law_1582 (by decide) (fun c_1582 => ?_) (fun c_1582 => ?_)
                                        · have h := hp_pos c_1582 h
                                          refine lv_aload_n hx hb dL_law_1587 rfl (lv_at hl 0 rfl) ?_
                                          refine lv_iconst (v := 4) hx hb dL_law_1588 (by decide) ?_
                                          refine lv_iconst (v := 1) hx hb dL_law_1589 (by decide) ?_
                                          refine lv_iconst (v := 4) hx hb dL_law_1590 (by decide) ?_
                                          refine lv_iconst (v := 0) hx hb dL_law_1591 (by decide) ?_
                                          refine lv_iconst (v := 0) hx hb dL_law_1592 (by decide) ?_
                                          obtain ⟨r_1593, e_1593, h⟩ := ob1_inv h
                                          refine k_GVi (pre := [(a_g, .inl (cI, 38, .inl ga_68e)), (a_k, .inl (cI, 38, .inl ka_68e))]) (rest := []) ⟨hx, hb, hml, hown, hts⟩ (A_X4_day l dC dI cI cS ad e_1593) (cwV 5 hts gL_law_X4_day rfl rfl rfl khd_X4_day ⟨(Nat.le_of_ble_eq_true rfl), (Nat.le_of_ble_eq_true rfl)⟩) hK hN hI hP hD hS rfl hl.1 rfl (Nat.le_of_ble_eq_true rfl) dL_law_1593 ⟨(Nat.le_of_ble_eq_true rfl), (Nat.le_of_ble_eq_true rfl)⟩ (fun H locs w hI hP hD hS => ?_)
                                          have hP : va_P (dC, dI) vwCl ((a_g, .inl (cI, 38, .inl ga_68e)) :: (a_k, .inl (cI, 38, .inl ka_68e)) :: w) H := hP
                                          have hD : va_D (fun q : Nat => s.heap.size ≤ q) ((a_g, .inl (cI, 38, .inl ga_68e)) :: (a_k, .inl (cI, 38, .inl ka_68e)) :: w) := hD
                                          refine lv_iconst (v := -1) hx hb dL_law_1596 (by decide) ?_
                                          refine lv_icmp_ne (tgt := 1780) hx hb dL_law_1597 (by decide) (fun c_1597 => ?_) (fun c_1597 => ?_)
                                          · have h := hp_neg c_1597 h
                                            cases h
                                          · have h := hp_pos c_1597 h
                                            refine lv_aload_n hx hb dL_law_1600 rfl (lv_at hl 0 rfl) ?_
                                            refine lv_iconst (v := 1) hx hb dL_law_1601 (by decide) ?_
                                            refine lv_iconst (v := 3) hx hb dL_law_1602 (by decide) ?_
                                            refine lv_iconst (v := 4) hx hb dL_law_1603 (by decide) ?_
                                            refine lv_iconst (v := 0) hx hb dL_law_1604 (by decide) ?_
                                            refine lv_iconst (v := 0) hx hb dL_law_1605 (by decide) ?_
                                            obtain ⟨r_1606, e_1606, h⟩ := ob1_inv h
                                            refine k_GVi (pre := [(a_g, .inl (cI, 38, .inl ga_68e)), (a_k, .inl (cI, 38, .inl ka_68e))]) (rest := []) ⟨hx, hb, hml, hown, hts⟩ (A_X4_day l dC dI cI cS ad e_1606) (cwV 5 hts gL_law_X4_day rfl rfl rfl khd_X4_day ⟨(Nat.le_of_ble_eq_true rfl), (Nat.le_of_ble_eq_true rfl)⟩) hK hN hI hP hD hS rfl hl.1 rfl (Nat.le_of_ble_eq_true rfl) dL_law_1606 ⟨(Nat.le_of_ble_eq_true rfl), (Nat.le_of_ble_eq_true rfl)⟩ (fun H locs w hI hP hD hS => ?_)
                                            have hP : va_P (dC, dI) vwCl ((a_g, .inl (cI, 38, .inl ga_68e)) :: (a_k, .inl (cI, 38, .inl ka_68e)) :: w) H := hP
                                            have hD : va_D (fun q : Nat => s.heap.size ≤ q) ((a_g, .inl (cI, 38, .inl ga_68e)) :: (a_k, .inl (cI, 38, .inl ka_68e)) :: w) := hD
                                            refine lv_bipush (v := -2) hx hb dL_law_1609 (by decide) ?_
                                            refine lv_icmp_ne (tgt := 1780) hx hb dL_law_1611 (by decide) (fun c_1611 => ?_) (fun c_1611 => ?_)
                                            · have h := hp_neg c_1611 h
                                              cases h
                                            · have h := hp_pos c_1611 h
                                              refine lv_aload_n hx hb dL_law_1614 rfl (lv_at hl 0 rfl) ?_
                                              refine lv_iconst (v := 1) hx hb dL_law_1615 (by decide) ?_
                                              refine lv_iconst (v := 1) hx hb dL_law_1616 (by decide) ?_
                                              refine lv_iconst (v := 4) hx hb dL_law_1617 (by decide) ?_
                                              refine lv_bipush (v := 21) hx hb dL_law_1618 (by decide) ?_
                                              refine lv_iconst (v := 0) hx hb dL_law_1620 (by decide) ?_
                                              obtain ⟨r_1621, e_1621, h⟩ := ob1_inv h
                                              refine k_GVi (pre := [(a_g, .inl (cI, 38, .inl ga_68e)), (a_k, .inl (cI, 38, .inl ka_68e))]) (rest := []) ⟨hx, hb, hml, hown, hts⟩ (A_X4_day l dC dI cI cS ad e_1621) (cwV 5 hts gL_law_X4_day rfl rfl rfl khd_X4_day ⟨(Nat.le_of_ble_eq_true rfl), (Nat.le_of_ble_eq_true rfl)⟩) hK hN hI hP hD hS rfl hl.1 rfl (Nat.le_of_ble_eq_true rfl) dL_law_1621 ⟨(Nat.le_of_ble_eq_true rfl), (Nat.le_of_ble_eq_true rfl)⟩ (fun H locs w hI hP hD hS => ?_)
                                              have hP : va_P (dC, dI) vwCl ((a_g, .inl (cI, 38, .inl ga_68e)) :: (a_k, .inl (cI, 38, .inl ka_68e)) :: w) H := hP
                                              have hD : va_D (fun q : Nat => s.heap.size ≤ q) ((a_g, .inl (cI, 38, .inl ga_68e)) :: (a_k, .inl (cI, 38, .inl ka_68e)) :: w) := hD
                                              refine lv_bipush (v := -2) hx hb dL_law_1624 (by decide) ?_
                                              refine lv_icmp_ne (tgt := 1780) hx hb dL_law_1626 (by decide) (fun c_1626 => ?_) (fun c_1626 => ?_)
                                              · have h := hp_neg c_1626 h
                                                cases h
                                              · have h := hp_pos c_1626 h
                                                refine lv_aload_n hx hb dL_law_1629 rfl (lv_at hl 0 rfl) ?_
                                                refine lv_iconst (v := 1) hx hb dL_law_1630 (by decide) ?_
                                                refine lv_iconst (v := 1) hx hb dL_law_1631 (by decide) ?_
                                                refine lv_iconst (v := 4) hx hb dL_law_1632 (by decide) ?_
                                                refine lv_iconst (v := -1) hx hb dL_law_1633 (by decide) ?_
                                                refine lv_iconst (v := 0) hx hb dL_law_1634 (by decide) ?_
                                                obtain ⟨r_1635, e_1635, h⟩ := ob1_inv h
                                                refine k_GVi (pre := [(a_g, .inl (cI, 38, .inl ga_68e)), (a_k, .inl (cI, 38, .inl ka_68e))]) (rest := []) ⟨hx, hb, hml, hown, hts⟩ (A_X4_day l dC dI cI cS ad e_1635) (cwV 5 hts gL_law_X4_day rfl rfl rfl khd_X4_day ⟨(Nat.le_of_ble_eq_true rfl), (Nat.le_of_ble_eq_true rfl)⟩) hK hN hI hP hD hS rfl hl.1 rfl (Nat.le_of_ble_eq_true rfl) dL_law_1635 ⟨(Nat.le_of_ble_eq_true rfl), (Nat.le_of_ble_eq_true rfl)⟩ (fun H locs w hI hP hD hS => ?_)
                                                have hP : va_P (dC, dI) vwCl ((a_g, .inl (cI, 38, .inl ga_68e)) :: (a_k, .inl (cI, 38, .inl ka_68e)) :: w) H := hP
                                                have hD : va_D (fun q : Nat => s.heap.size ≤ q) ((a_g, .inl (cI, 38, .inl ga_68e)) :: (a_k, .inl (cI, 38, .inl ka_68e)) :: w) := hD
                                                refine lv_bipush (v := -2) hx hb dL_law_1638 (by decide) ?_
                                                refine lv_icmp_ne (tgt := 1780) hx hb dL_law_1640 (by decide) (fun c_1640 => ?_) (fun c_1640 => ?_)
                                                · have h := hp_neg c_1640 h
                                                  cases h
                                                · have h := hp_pos c_1640 h
                                                  refine lv_aload_n hx hb dL_law_1643 rfl (lv_at hl 0 rfl) ?_
                                                  refine lv_iconst (v := 1) hx hb dL_law_1644 (by decide) ?_
                                                  refine lv_iconst (v := 1) hx hb dL_law_1645 (by decide) ?_
                                                  refine lv_iconst (v := 4) hx hb dL_law_1646 (by decide) ?_
                                                  refine lv_iconst (v := 0) hx hb dL_law_1647 (by decide) ?_
                                                  refine lv_iconst (v := 5) hx hb dL_law_1648 (by decide) ?_
                                                  obtain ⟨r_1649, e_1649, h⟩ := ob1_inv h
                                                  refine k_GVi (pre := [(a_g, .inl (cI, 38, .inl ga_68e)), (a_k, .inl (cI, 38, .inl ka_68e))]) (rest := []) ⟨hx, hb, hml, hown, hts⟩ (A_X4_day l dC dI cI cS ad e_1649) (cwV 5 hts gL_law_X4_day rfl rfl rfl khd_X4_day ⟨(Nat.le_of_ble_eq_true rfl), (Nat.le_of_ble_eq_true rfl)⟩) hK hN hI hP hD hS rfl hl.1 rfl (Nat.le_of_ble_eq_true rfl) dL_law_1649 ⟨(Nat.le_of_ble_eq_true rfl), (Nat.le_of_ble_eq_true rfl)⟩ (fun H locs w hI hP hD hS => ?_)
                                                  have hP : va_P (dC, dI) vwCl ((a_g, .inl (cI, 38, .inl ga_68e)) :: (a_k, .inl (cI, 38, .inl ka_68e)) :: w) H := hP
                                                  have hD : va_D (fun q : Nat => s.heap.size ≤ q) ((a_g, .inl (cI, 38, .inl ga_68e)) :: (a_k, .inl (cI, 38, .inl ka_68e)) :: w) := hD
                                                  refine lv_bipush (v := -2) hx hb dL_law_1652 (by decide) ?_
                                                  refine lv_icmp_ne (tgt := 1780) hx hb dL_law_1654 (by decide) (fun c_1654 => ?_) (fun c_1654 => ?_)
                                                  · have h := hp_neg c_1654 h
                                                    cases h
                                                  · have h := hp_pos c_1654 h
                                                    refine lv_aload_n hx hb dL_law_1657 rfl (lv_at hl 0 rfl) ?_
                                                    refine lv_iconst (v := 1) hx hb dL_law_1658 (by decide) ?_
                                                    refine lv_iconst (v := 1) hx hb dL_law_1659 (by decide) ?_
                                                    refine lv_iconst (v := 4) hx hb dL_law_1660 (by decide) ?_
                                                    refine lv_iconst (v := 0) hx hb dL_law_1661 (by decide) ?_
                                                    refine lv_bipush (v := 16) hx hb dL_law_1662 (by decide) ?_
                                                    obtain ⟨r_1664, e_1664, h⟩ := ob1_inv h
                                                    refine k_GVi (pre := [(a_g, .inl (cI, 38, .inl ga_68e)), (a_k, .inl (cI, 38, .inl ka_68e))]) (rest := []) ⟨hx, hb, hml, hown, hts⟩ (A_X4_day l dC dI cI cS ad e_1664) (cwV 5 hts gL_law_X4_day rfl rfl rfl khd_X4_day ⟨(Nat.le_of_ble_eq_true rfl), (Nat.le_of_ble_eq_true rfl)⟩) hK hN hI hP hD hS rfl hl.1 rfl (Nat.le_of_ble_eq_true rfl) dL_law_1664 ⟨(Nat.le_of_ble_eq_true rfl), (Nat.le_of_ble_eq_true rfl)⟩ (fun H locs w hI hP hD hS => ?_)
                                                    have hP : va_P (dC, dI) vwCl ((a_g, .inl (cI, 38, .inl ga_68e)) :: (a_k, .inl (cI, 38, .inl ka_68e)) :: w) H := hP
                                                    have hD : va_D (fun q : Nat => s.heap.size ≤ q) ((a_g, .inl (cI, 38, .inl ga_68e)) :: (a_k, .inl (cI, 38, .inl ka_68e)) :: w) := hD
                                                    refine lv_bipush (v := -2) hx hb dL_law_1667 (by decide) ?_
                                                    refine lv_icmp_ne (tgt := 1780) hx hb dL_law_1669 (by decide) (fun c_1669 => ?_) (fun c_1669 => ?_)
                                                    · have h := hp_neg c_1669 h
                                                      cases h
                                                    · have h := hp_pos c_1669 h
                                                      refine lv_aload_n hx hb dL_law_1672 rfl (lv_at hl 0 rfl) ?_
                                                      refine lv_iconst (v := 1) hx hb dL_law_1673 (by decide) ?_
                                                      refine lv_iconst (v := 2) hx hb dL_law_1674 (by decide) ?_
                                                      refine lv_iconst (v := 4) hx hb dL_law_1675 (by decide) ?_
                                                      refine lv_iconst (v := 0) hx hb dL_law_1676 (by decide) ?_
                                                      refine lv_iconst (v := 0) hx hb dL_law_1677 (by decide) ?_
                                                      obtain ⟨r_1678, e_1678, h⟩ := ob1_inv h
                                                      refine k_GVi (pre := [(a_g, .inl (cI, 38, .inl ga_68e)), (a_k, .inl (cI, 38, .inl ka_68e))]) (rest := []) ⟨hx, hb, hml, hown, hts⟩ (A_X4_day l dC dI cI cS ad e_1678) (cwV 5 hts gL_law_X4_day rfl rfl rfl khd_X4_day ⟨(Nat.le_of_ble_eq_true rfl), (Nat.le_of_ble_eq_true rfl)⟩) hK hN hI hP hD hS rfl hl.1 rfl (Nat.le_of_ble_eq_true rfl) dL_law_1678 ⟨(Nat.le_of_ble_eq_true rfl), (Nat.le_of_ble_eq_true rfl)⟩ (fun H locs w hI hP hD hS => ?_)
                                                      have hP : va_P (dC, dI) vwCl ((a_g, .inl (cI, 38, .inl ga_68e)) :: (a_k, .inl (cI, 38, .inl ka_68e)) :: w) H := hP
                                                      have hD : va_D (fun q : Nat => s.heap.size ≤ q) ((a_g, .inl (cI, 38, .inl ga_68e)) :: (a_k, .inl (cI, 38, .inl ka_68e)) :: w) := hD
                                                      refine lv_bipush (v := -12) hx hb dL_law_1681 (by decide) ?_
                                                      refine lv_icmp_ne (tgt := 1780) hx hb dL_law_1683 (by decide) (fun c_1683 => ?_) (fun c_1683 => ?_)
                                                      · have h := hp_neg c_1683 h
                                                        cases h
                                                      · have h := hp_pos c_1683 h
                                                        refine lv_aload_n hx hb dL_law_1686 rfl (lv_at hl 0 rfl) ?_
                                                        refine lv_iconst (v := 2) hx hb dL_law_1687 (by decide) ?_
                                                        refine lv_iconst (v := 2) hx hb dL_law_1688 (by decide) ?_
                                                        refine lv_iconst (v := 4) hx hb dL_law_1689 (by decide) ?_
                                                        refine lv_iconst (v := 0) hx hb dL_law_1690 (by decide) ?_
                                                        refine lv_iconst (v := 0) hx hb dL_law_1691 (by decide) ?_
                                                        obtain ⟨r_1692, e_1692, h⟩ := ob1_inv h
                                                        refine k_GVi (pre := [(a_g, .inl (cI, 38, .inl ga_68e)), (a_k, .inl (cI, 38, .inl ka_68e))]) (rest := []) ⟨hx, hb, hml, hown, hts⟩ (A_X4_day l dC dI cI cS ad e_1692) (cwV 5 hts gL_law_X4_day rfl rfl rfl khd_X4_day ⟨(Nat.le_of_ble_eq_true rfl), (Nat.le_of_ble_eq_true rfl)⟩) hK hN hI hP hD hS rfl hl.1 rfl (Nat.le_of_ble_eq_true rfl) dL_law_1692 ⟨(Nat.le_of_ble_eq_true rfl), (Nat.le_of_ble_eq_true rfl)⟩ (fun H locs w hI hP hD hS => ?_)
                                                        have hP : va_P (dC, dI) vwCl ((a_g, .inl (cI, 38, .inl ga_68e)) :: (a_k, .inl (cI, 38, .inl ka_68e)) :: w) H := hP
                                                        have hD : va_D (fun q : Nat => s.heap.size ≤ q) ((a_g, .inl (cI, 38, .inl ga_68e)) :: (a_k, .inl (cI, 38, .inl ka_68e)) :: w) := hD
                                                        refine lv_bipush (v := -11) hx hb dL_law_1695 (by decide) ?_
                                                        refine lv_icmp_ne (tgt := 1780) hx hb dL_law_1697 (by decide) (fun c_1697 => ?_) (fun c_1697 => ?_)
                                                        · have h := hp_neg c_1697 h
                                                          cases h
                                                        · have h := hp_pos c_1697 h
                                                          refine lv_aload_n hx hb dL_law_1700 rfl (lv_at hl 0 rfl) ?_
                                                          refine lv_iconst (v := 1) hx hb dL_law_1701 (by decide) ?_
                                                          refine lv_iconst (v := 1) hx hb dL_law_1702 (by decide) ?_
                                                          refine lv_iconst (v := 2) hx hb dL_law_1703 (by decide) ?_
                                                          refine lv_bipush (v := 18) hx hb dL_law_1704 (by decide) ?_
                                                          refine lv_iconst (v := 0) hx hb dL_law_1706 (by decide) ?_
                                                          obtain ⟨r_1707, e_1707, h⟩ := ob1_inv h
                                                          refine k_GVi (pre := [(a_g, .inl (cI, 38, .inl ga_68e)), (a_k, .inl (cI, 38, .inl ka_68e))]) (rest := []) ⟨hx, hb, hml, hown, hts⟩ (A_X4_day l dC dI cI cS ad e_1707) (cwV 5 hts gL_law_X4_day rfl rfl rfl khd_X4_day ⟨(Nat.le_of_ble_eq_true rfl), (Nat.le_of_ble_eq_true rfl)⟩) hK hN hI hP hD hS rfl hl.1 rfl (Nat.le_of_ble_eq_true rfl) dL_law_1707 ⟨(Nat.le_of_ble_eq_true rfl), (Nat.le_of_ble_eq_true rfl)⟩ (fun H locs w hI hP hD hS => ?_)
                                                          have hP : va_P (dC, dI) vwCl ((a_g, .inl (cI, 38, .inl ga_68e)) :: (a_k, .inl (cI, 38, .inl ka_68e)) :: w) H := hP
                                                          have hD : va_D (fun q : Nat => s.heap.size ≤ q) ((a_g, .inl (cI, 38, .inl ga_68e)) :: (a_k, .inl (cI, 38, .inl ka_68e)) :: w) := hD
                                                          refine lv_bipush (v := -13) hx hb dL_law_1710 (by decide) ?_
                                                          refine lv_icmp_ne (tgt := 1780) hx hb dL_law_1712 (by decide) (fun c_1712 => ?_) (fun c_1712 => ?_)
                                                          · have h := hp_neg c_1712 h
                                                            cases h
                                                          · have h := hp_pos c_1712 h
                                                            refine lv_aload_n hx hb dL_law_1715 rfl (lv_at hl 0 rfl) ?_
                                                            refine lv_iconst (v := 1) hx hb dL_law_1716 (by decide) ?_
                                                            refine lv_iconst (v := 1) hx hb dL_law_1717 (by decide) ?_
                                                            refine lv_iconst (v := 4) hx hb dL_law_1718 (by decide) ?_
                                                            refine lv_iconst (v := 0) hx hb dL_law_1719 (by decide) ?_
                                                            refine lv_iconst (v := 0) hx hb dL_law_1720 (by decide) ?_
                                                            obtain ⟨r_1721, e_1721, h⟩ := ob1_inv h
                                                            refine k_GVi (pre := [(a_g, .inl (cI, 38, .inl ga_68e)), (a_k, .inl (cI, 38, .inl ka_68e))]) (rest := []) ⟨hx, hb, hml, hown, hts⟩ (A_X4_day l dC dI cI cS ad e_1721) (cwV 5 hts gL_law_X4_day rfl rfl rfl khd_X4_day ⟨(Nat.le_of_ble_eq_true rfl), (Nat.le_of_ble_eq_true rfl)⟩) hK hN hI hP hD hS rfl hl.1 rfl (Nat.le_of_ble_eq_true rfl) dL_law_1721 ⟨(Nat.le_of_ble_eq_true rfl), (Nat.le_of_ble_eq_true rfl)⟩ (fun H locs w hI hP hD hS => ?_)
                                                            have hP : va_P (dC, dI) vwCl ((a_g, .inl (cI, 38, .inl ga_68e)) :: (a_k, .inl (cI, 38, .inl ka_68e)) :: w) H := hP
                                                            have hD : va_D (fun q : Nat => s.heap.size ≤ q) ((a_g, .inl (cI, 38, .inl ga_68e)) :: (a_k, .inl (cI, 38, .inl ka_68e)) :: w) := hD
                                                            refine lv_aload_n hx hb dL_law_1724 rfl (lv_at hl 1 rfl) ?_
                                                            refine lv_iconst (v := 1) hx hb dL_law_1725 (by decide) ?_
                                                            refine va_iald (D := (dC, dI)) hx hb hK hP 0 0 rfl rfl (by decide) dL_law_1726 ?_
                                                            refine lv_icmp_ne (tgt := 1780) hx hb dL_law_1727 (by decide) (fun c_1727 => ?_) (fun c_1727 => ?_)
                                                            · have h := hp_neg c_1727 h
                                                              cases h
                                                            · have h := hp_pos c_1727 h
                                                              refine lv_aload_n hx hb dL_law_1730 rfl (lv_at hl 0 rfl) ?_
                                                              refine lv_iconst (v := 1) hx hb dL_law_1731 (by decide) ?_
                                                              refine lv_iconst (v := 4) hx hb dL_law_1732 (by decide) ?_
                                                              refine lv_iconst (v := 3) hx hb dL_law_1733 (by decide) ?_
                                                              obtain ⟨r_1734, r_1734_S, e_1734, h⟩ := ob2_inv h
                                                              refine k_GVi (pre := [(a_g, .inl (cI, 38, .inl ga_68e)), (a_k, .inl (cI, 38, .inl ka_68e))]) (rest := []) ⟨hx, hb, hml, hown, hts⟩ (A_X4_put l dC dI cI cS ad e_1734) (cwV 3 hts gL_law_X4_put rfl rfl rfl khd_X4_put ⟨(Nat.le_of_ble_eq_true rfl), (Nat.le_of_ble_eq_true rfl)⟩) hK hN hI hP hD hS rfl hl.1 rfl (Nat.le_of_ble_eq_true rfl) dL_law_1734 ⟨(Nat.le_of_ble_eq_true rfl), (Nat.le_of_ble_eq_true rfl)⟩ (fun H locs w hI hP hD hS => ?_)
                                                              have hP : va_P (dC, dI) vwCl ((a_g, .inl (cI, 38, .inl ga_68e)) :: (a_k, .inl (cI, 38, .inl ka_68e)) :: w) H := hP
                                                              have hD : va_D (fun q : Nat => s.heap.size ≤ q) ((a_g, .inl (cI, 38, .inl ga_68e)) :: (a_k, .inl (cI, 38, .inl ka_68e)) :: w) := hD
                                                              refine lv_iconst (v := 1) hx hb dL_law_1737 (by decide) ?_
                                                              refine lv_icmp_ne (tgt := 1780) hx hb dL_law_1738 (by decide) (fun c_1738 => ?_) (fun c_1738 => ?_)
                                                              · have h := hp_neg c_1738 h
                                                                cases h
                                                              · have h := hp_pos c_1738 h
                                                                refine lv_aload_n hx hb dL_law_1741 rfl (lv_at hl 0 rfl) ?_
                                                                refine lv_iconst (v := 1) hx hb dL_law_1742 (by decide) ?_
                                                                refine lv_iconst (v := 1) hx hb dL_law_1743 (by decide) ?_
                                                                refine lv_iconst (v := 4) hx hb dL_law_1744 (by decide) ?_
                                                                refine lv_iconst (v := 1) hx hb dL_law_1745 (by decide) ?_
                                                                refine lv_iconst (v := 1) hx hb dL_law_1746 (by decide) ?_
                                                                obtain ⟨r_1747, e_1747, h⟩ := ob1_inv h
                                                                refine k_GVi (pre := [(a_g, .inl (cI, 38, .inl ga_68e)), (a_k, .inl (cI, 38, .inl ka_68e))]) (rest := []) ⟨hx, hb, hml, hown, hts⟩ (A_X4_day l dC dI cI cS ad e_1747) (cwV 5 hts gL_law_X4_day rfl rfl rfl khd_X4_day ⟨(Nat.le_of_ble_eq_true rfl), (Nat.le_of_ble_eq_true rfl)⟩) hK hN hI hP hD hS rfl hl.1 rfl (Nat.le_of_ble_eq_true rfl) dL_law_1747 ⟨(Nat.le_of_ble_eq_true rfl), (Nat.le_of_ble_eq_true rfl)⟩ (fun H locs w hI hP hD hS => ?_)
                                                                have hP : va_P (dC, dI) vwCl ((a_g, .inl (cI, 38, .inl ga_68e)) :: (a_k, .inl (cI, 38, .inl ka_68e)) :: w) H := hP
                                                                have hD : va_D (fun q : Nat => s.heap.size ≤ q) ((a_g, .inl (cI, 38, .inl ga_68e)) :: (a_k, .inl (cI, 38, .inl ka_68e)) :: w) := hD
                                                                refine lv_bipush (v := -2) hx hb dL_law_1750 (by decide) ?_
                                                                refine lv_icmp_ne (tgt := 1780) hx hb dL_law_1752 (by decide) (fun c_1752 => ?_) (fun c_1752 => ?_)
                                                                · have h := hp_neg c_1752 h
                                                                  cases h
                                                                · have h := hp_pos c_1752 h
                                                                  refine lv_aload_n hx hb dL_law_1755 rfl (lv_at hl 0 rfl) ?_
                                                                  refine lv_iconst (v := 1) hx hb dL_law_1756 (by decide) ?_
                                                                  refine lv_iconst (v := 4) hx hb dL_law_1757 (by decide) ?_
                                                                  refine lv_iconst (v := -1) hx hb dL_law_1758 (by decide) ?_
                                                                  obtain ⟨r_1759, r_1759_S, e_1759, h⟩ := ob2_inv h
                                                                  refine k_GVi (pre := [(a_g, .inl (cI, 38, .inl ga_68e)), (a_k, .inl (cI, 38, .inl ka_68e))]) (rest := []) ⟨hx, hb, hml, hown, hts⟩ (A_X4_put l dC dI cI cS ad e_1759) (cwV 3 hts gL_law_X4_put rfl rfl rfl khd_X4_put ⟨(Nat.le_of_ble_eq_true rfl), (Nat.le_of_ble_eq_true rfl)⟩) hK hN hI hP hD hS rfl hl.1 rfl (Nat.le_of_ble_eq_true rfl) dL_law_1759 ⟨(Nat.le_of_ble_eq_true rfl), (Nat.le_of_ble_eq_true rfl)⟩ (fun H locs w hI hP hD hS => ?_)
                                                                  have hP : va_P (dC, dI) vwCl ((a_g, .inl (cI, 38, .inl ga_68e)) :: (a_k, .inl (cI, 38, .inl ka_68e)) :: w) H := hP
                                                                  have hD : va_D (fun q : Nat => s.heap.size ≤ q) ((a_g, .inl (cI, 38, .inl ga_68e)) :: (a_k, .inl (cI, 38, .inl ka_68e)) :: w) := hD
                                                                  refine lv_iconst (v := 1) hx hb dL_law_1762 (by decide) ?_
                                                                  refine lv_icmp_ne (tgt := 1780) hx hb dL_law_1763 (by decide) (fun c_1763 => ?_) (fun c_1763 => ?_)
                                                                  · have h := hp_neg c_1763 h
                                                                    cases h
                                                                  · have h := hp_pos c_1763 h
                                                                    refine lv_aload_n hx hb dL_law_1766 rfl (lv_at hl 0 rfl) ?_
                                                                    refine lv_iconst (v := 1) hx hb dL_law_1767 (by decide) ?_
                                                                    refine lv_iconst (v := 1) hx hb dL_law_1768 (by decide) ?_
                                                                    refine lv_iconst (v := 4) hx hb dL_law_1769 (by decide) ?_
                                                                    refine lv_iconst (v := 1) hx hb dL_law_1770 (by decide) ?_
                                                                    refine lv_iconst (v := 1) hx hb dL_law_1771 (by decide) ?_
                                                                    obtain ⟨r_1772, e_1772, h⟩ := ob1_inv h
                                                                    refine k_GVi (pre := [(a_g, .inl (cI, 38, .inl ga_68e)), (a_k, .inl (cI, 38, .inl ka_68e))]) (rest := []) ⟨hx, hb, hml, hown, hts⟩ (A_X4_day l dC dI cI cS ad e_1772) (cwV 5 hts gL_law_X4_day rfl rfl rfl khd_X4_day ⟨(Nat.le_of_ble_eq_true rfl), (Nat.le_of_ble_eq_true rfl)⟩) hK hN hI hP hD hS rfl hl.1 rfl (Nat.le_of_ble_eq_true rfl) dL_law_1772 ⟨(Nat.le_of_ble_eq_true rfl), (Nat.le_of_ble_eq_true rfl)⟩ (fun H locs w hI hP hD hS => ?_)
                                                                    have hP : va_P (dC, dI) vwCl ((a_g, .inl (cI, 38, .inl ga_68e)) :: (a_k, .inl (cI, 38, .inl ka_68e)) :: w) H := hP
                                                                    have hD : va_D (fun q : Nat => s.heap.size ≤ q) ((a_g, .inl (cI, 38, .inl ga_68e)) :: (a_k, .inl (cI, 38, .inl ka_68e)) :: w) := hD
                                                                    refine lv_bipush (v := -2) hx hb dL_law_1775 (by decide) ?_
                                                                    refine lv_icmp_eq (tgt := 1782) hx hb dL_law_1777 (by decide) (fun c_1777 => ?_) (fun c_1777 => ?_)
                                                                    · have h := hp_pos c_1777 h
                                                                      refine lv_aload_n hx hb dL_law_1782 rfl (lv_at hl 1 rfl) ?_
                                                                      refine lv_iconst (v := 1) hx hb dL_law_1783 (by decide) ?_
                                                                      refine va_iald (D := (dC, dI)) hx hb hK hP 0 0 rfl rfl (by decide) dL_law_1784 ?_
                                                                      refine lv_iconst (v := 1) hx hb dL_law_1785 (by decide) ?_
                                                                      refine lv_isub hx hb dL_law_1786 ?_
                                                                      refine lv_istore (lv' := [(6, .int ((ga_68e 1) - (1 : Int32))), (1, .ref (ad 0)), (2, .ref a_g), (5, .int (r_22_ga 0))]) hx hb dL_law_1787 hl (by decide) rfl (fun ls hl => ?_)
                                                                      obtain ⟨SS_1789e, i_1789, h⟩ := ob1_inv h
                                                                      have after_1789 : ∀ (w : va_W) (H : Heap) (locs : List Loc) (ls : Array Slot), gI cI cS ad SS_1789e w → va_P (dC, dI) vwCl ((a_g, .inl (cI, 38, .inl ga_68e)) :: (a_k, .inl (cI, 38, .inl ka_68e)) :: w) H → va_D (fun q : Nat => s.heap.size ≤ q) ((a_g, .inl (cI, 38, .inl ga_68e)) :: (a_k, .inl (cI, 38, .inl ka_68e)) :: w) → va_S (fun q : Nat => s.heap.size ≤ q) s.heap H locs → lv_has ls 19 [(1, .ref (ad 0)), (2, .ref a_g), (5, .int (r_22_ga 0))] → W p l e room_1 s m #[Value.ref b] below meth c H locs NCELL NSLOT (lw_Z below #[Value.ref b] s) (F0 m 1825 ls []) := by
                                                                        intro w H locs ls hI hP hD hS hl
                                                                        refine lv_aload_n hx hb dL_law_1825 rfl (lv_at hl 0 rfl) ?_
                                                                        refine lv_iconst (v := 1) hx hb dL_law_1826 (by decide) ?_
                                                                        obtain ⟨r_1827, e_1827, h⟩ := ob1_inv h
                                                                        refine k_GVi (pre := [(a_g, .inl (cI, 38, .inl ga_68e)), (a_k, .inl (cI, 38, .inl ka_68e))]) (rest := []) ⟨hx, hb, hml, hown, hts⟩ (A_X4_many l dC dI cI cS ad e_1827) (cwV 1 hts gL_law_X4_many rfl rfl rfl khd_X4_many ⟨(Nat.le_of_ble_eq_true rfl), (Nat.le_of_ble_eq_true rfl)⟩) hK hN hI hP hD hS rfl hl.1 rfl (Nat.le_of_ble_eq_true rfl) dL_law_1827 ⟨(Nat.le_of_ble_eq_true rfl), (Nat.le_of_ble_eq_true rfl)⟩ (fun H locs w hI hP hD hS => ?_)
                                                                        have hP : va_P (dC, dI) vwCl ((a_g, .inl (cI, 38, .inl ga_68e)) :: (a_k, .inl (cI, 38, .inl ka_68e)) :: w) H := hP
                                                                        have hD : va_D (fun q : Nat => s.heap.size ≤ q) ((a_g, .inl (cI, 38, .inl ga_68e)) :: (a_k, .inl (cI, 38, .inl ka_68e)) :: w) := hD
                                                                        refine lv_if_ne (tgt := 1860) hx hb dL_law_1830 (by decide) (fun c_1830 => ?_) (fun c_1830 => ?_)
                                                                        · have h := hp_neg c_1830 h
                                                                          cases h
                                                                        · have h := hp_pos c_1830 h
                                                                          refine lv_aload_n hx hb dL_law_1833 rfl (lv_at hl 0 rfl) ?_
                                                                          refine lv_iconst (v := 2) hx hb dL_law_1834 (by decide) ?_
                                                                          obtain ⟨r_1835, e_1835, h⟩ := ob1_inv h
                                                                          refine k_GVi (pre := [(a_g, .inl (cI, 38, .inl ga_68e)), (a_k, .inl (cI, 38, .inl ka_68e))]) (rest := []) ⟨hx, hb, hml, hown, hts⟩ (A_X4_many l dC dI cI cS ad e_1835) (cwV 1 hts gL_law_X4_many rfl rfl rfl khd_X4_many ⟨(Nat.le_of_ble_eq_true rfl), (Nat.le_of_ble_eq_true rfl)⟩) hK hN hI hP hD hS rfl hl.1 rfl (Nat.le_of_ble_eq_true rfl) dL_law_1835 ⟨(Nat.le_of_ble_eq_true rfl), (Nat.le_of_ble_eq_true rfl)⟩ (fun H locs w hI hP hD hS => ?_)
                                                                          have hP : va_P (dC, dI) vwCl ((a_g, .inl (cI, 38, .inl ga_68e)) :: (a_k, .inl (cI, 38, .inl ka_68e)) :: w) H := hP
                                                                          have hD : va_D (fun q : Nat => s.heap.size ≤ q) ((a_g, .inl (cI, 38, .inl ga_68e)) :: (a_k, .inl (cI, 38, .inl ka_68e)) :: w) := hD
                                                                          refine lv_if_ne (tgt := 1860) hx hb dL_law_1838 (by decide) (fun c_1838 => ?_) (fun c_1838 => ?_)
                                                                          · have h := hp_neg c_1838 h
                                                                            cases h
                                                                          · have h := hp_pos c_1838 h
                                                                            refine lv_aload_n hx hb dL_law_1841 rfl (lv_at hl 0 rfl) ?_
                                                                            obtain ⟨r_1842, e_1842, h⟩ := ob1_inv h
                                                                            refine k_GVi (pre := [(a_g, .inl (cI, 38, .inl ga_68e)), (a_k, .inl (cI, 38, .inl ka_68e))]) (rest := []) ⟨hx, hb, hml, hown, hts⟩ (A_X4_unlawful l dC dI cI cS ad e_1842) (cwV 0 hts gL_law_X4_unlawful rfl rfl rfl khd_X4_unlawful ⟨(Nat.le_of_ble_eq_true rfl), (Nat.le_of_ble_eq_true rfl)⟩) hK hN hI hP hD hS rfl hl.1 rfl (Nat.le_of_ble_eq_true rfl) dL_law_1842 ⟨(Nat.le_of_ble_eq_true rfl), (Nat.le_of_ble_eq_true rfl)⟩ (fun H locs w hI hP hD hS => ?_)
                                                                            have hP : va_P (dC, dI) vwCl ((a_g, .inl (cI, 38, .inl ga_68e)) :: (a_k, .inl (cI, 38, .inl ka_68e)) :: w) H := hP
                                                                            have hD : va_D (fun q : Nat => s.heap.size ≤ q) ((a_g, .inl (cI, 38, .inl ga_68e)) :: (a_k, .inl (cI, 38, .inl ka_68e)) :: w) := hD
                                                                            refine lv_if_ne (tgt := 1860) hx hb dL_law_1845 (by decide) (fun c_1845 => ?_) (fun c_1845 => ?_)
                                                                            · have h := hp_neg c_1845 h
                                                                              cases h
                                                                            · have h := hp_pos c_1845 h
                                                                              refine lv_aload_n hx hb dL_law_1848 rfl (lv_at hl 0 rfl) ?_
                                                                              refine lv_iconst (v := 0) hx hb dL_law_1849 (by decide) ?_
                                                                              obtain ⟨r_1850, e_1850, h⟩ := ob1_inv h
                                                                              refine k_GVl (pre := [(a_g, .inl (cI, 38, .inl ga_68e)), (a_k, .inl (cI, 38, .inl ka_68e))]) (rest := []) ⟨hx, hb, hml, hown, hts⟩ (A_X4_odds l dC dI cI cS ad e_1850) (cwV 1 hts gL_law_X4_odds rfl rfl rfl khd_X4_odds ⟨(Nat.le_of_ble_eq_true rfl), (Nat.le_of_ble_eq_true rfl)⟩) hK hN hI hP hD hS rfl hl.1 rfl (Nat.le_of_ble_eq_true rfl) dL_law_1850 ⟨(Nat.le_of_ble_eq_true rfl), (Nat.le_of_ble_eq_true rfl)⟩ (fun H locs w hI hP hD hS => ?_)
                                                                              have hP : va_P (dC, dI) vwCl ((a_g, .inl (cI, 38, .inl ga_68e)) :: (a_k, .inl (cI, 38, .inl ka_68e)) :: w) H := hP
                                                                              have hD : va_D (fun q : Nat => s.heap.size ≤ q) ((a_g, .inl (cI, 38, .inl ga_68e)) :: (a_k, .inl (cI, 38, .inl ka_68e)) :: w) := hD
                                                                              refine lv_ldc2 (v := (-9223372036854775808)) hx hb hown (hts0 (.constantLong RL 111 (-9223372036854775808)) (List.mem_append_right _ (List.mem_of_getElem? (i := 524) (by decide +kernel)))) dL_law_1853 ?_
                                                                              refine W.lcmp hx hb dL_law_1856 ?_
                                                                              refine lv_if_eq (tgt := 1862) hx hb dL_law_1857 (by decide) (fun c_1857 => ?_) (fun c_1857 => ?_)
                                                                              · have h := hp_pos c_1857 h
                                                                                refine lv_iconst (v := 0) hx hb dL_law_1862 (by decide) ?_
                                                                                refine lv_istore (lv' := [(6, .int (0 : Int32)), (1, .ref (ad 0)), (2, .ref a_g), (5, .int (r_22_ga 0))]) hx hb dL_law_1863 hl (by decide) rfl (fun ls hl => ?_)
                                                                                obtain ⟨SS_1865e, i_1865, h⟩ := ob1_inv h
                                                                                have after_1865 : ∀ (w : va_W) (H : Heap) (locs : List Loc) (ls : Array Slot), gI cI cS ad SS_1865e w → va_P (dC, dI) vwCl ((a_g, .inl (cI, 38, .inl ga_68e)) :: (a_k, .inl (cI, 38, .inl ka_68e)) :: w) H → va_D (fun q : Nat => s.heap.size ≤ q) ((a_g, .inl (cI, 38, .inl ga_68e)) :: (a_k, .inl (cI, 38, .inl ka_68e)) :: w) → va_S (fun q : Nat => s.heap.size ≤ q) s.heap H locs → lv_has ls 19 [(1, .ref (ad 0)), (5, .int (r_22_ga 0))] → W p l e room_1 s m #[Value.ref b] below meth c H locs NCELL NSLOT (lw_Z below #[Value.ref b] s) (F0 m 1909 ls []) := by
                                                                                  intro w H locs ls hI hP hD hS hl
                                                                                  refine lv_iconst (v := 0) hx hb dL_law_1909 (by decide) ?_
                                                                                  refine lv_istore (lv' := [(6, .int (0 : Int32)), (1, .ref (ad 0)), (5, .int (r_22_ga 0))]) hx hb dL_law_1910 hl (by decide) rfl (fun ls hl => ?_)
                                                                                  refine lv_iconst (v := 0) hx hb dL_law_1912 (by decide) ?_
                                                                                  refine lv_istore (lv' := [(7, .int (0 : Int32)), (6, .int (0 : Int32)), (1, .ref (ad 0)), (5, .int (r_22_ga 0))]) hx hb dL_law_1913 hl (by decide) rfl (fun ls hl => ?_)
                                                                                  obtain ⟨y6_1915, SS_1915e, i_1915, h⟩ := ob2_inv h
                                                                                  have after_1915 : ∀ (w : va_W) (H : Heap) (locs : List Loc) (ls : Array Slot), gI cI cS ad SS_1915e w → va_P (dC, dI) vwCl ((a_g, .inl (cI, 38, .inl ga_68e)) :: (a_k, .inl (cI, 38, .inl ka_68e)) :: w) H → va_D (fun q : Nat => s.heap.size ≤ q) ((a_g, .inl (cI, 38, .inl ga_68e)) :: (a_k, .inl (cI, 38, .inl ka_68e)) :: w) → va_S (fun q : Nat => s.heap.size ≤ q) s.heap H locs → lv_has ls 19 [(1, .ref (ad 0)), (5, .int (r_22_ga 0)), (6, .int y6_1915)] → W p l e room_1 s m #[Value.ref b] below meth c H locs NCELL NSLOT (lw_Z below #[Value.ref b] s) (F0 m 1946 ls []) := by
                                                                                    intro w H locs ls hI hP hD hS hl
                                                                                    refine lv_iconst (v := 1) hx hb dL_law_1946 (by decide) ?_
                                                                                    refine lv_istore (lv' := [(7, .int (1 : Int32)), (1, .ref (ad 0)), (5, .int (r_22_ga 0)), (6, .int y6_1915)]) hx hb dL_law_1947 hl (by decide) rfl (fun ls hl => ?_)
                                                                                    obtain ⟨y6_1949, SS_1949e, i_1949, h⟩ := ob2_inv h
                                                                                    have after_1949 : ∀ (w : va_W) (H : Heap) (locs : List Loc) (ls : Array Slot), gI cI cS ad SS_1949e w → va_P (dC, dI) vwCl ((a_g, .inl (cI, 38, .inl ga_68e)) :: (a_k, .inl (cI, 38, .inl ka_68e)) :: w) H → va_D (fun q : Nat => s.heap.size ≤ q) ((a_g, .inl (cI, 38, .inl ga_68e)) :: (a_k, .inl (cI, 38, .inl ka_68e)) :: w) → va_S (fun q : Nat => s.heap.size ≤ q) s.heap H locs → lv_has ls 19 [(1, .ref (ad 0)), (5, .int (r_22_ga 0)), (6, .int y6_1949)] → W p l e room_1 s m #[Value.ref b] below meth c H locs NCELL NSLOT (lw_Z below #[Value.ref b] s) (F0 m 2014 ls []) := by
                                                                                      intro w H locs ls hI hP hD hS hl
                                                                                      refine lv_aload_n hx hb dL_law_2014 rfl (lv_at hl 0 rfl) ?_
                                                                                      refine lv_iconst (v := 2) hx hb dL_law_2015 (by decide) ?_
                                                                                      obtain ⟨r_2016, e_2016, h⟩ := ob1_inv h
                                                                                      refine k_GVi (pre := [(a_g, .inl (cI, 38, .inl ga_68e)), (a_k, .inl (cI, 38, .inl ka_68e))]) (rest := []) ⟨hx, hb, hml, hown, hts⟩ (A_X4_many l dC dI cI cS ad e_2016) (cwV 1 hts gL_law_X4_many rfl rfl rfl khd_X4_many ⟨(Nat.le_of_ble_eq_true rfl), (Nat.le_of_ble_eq_true rfl)⟩) hK hN hI hP hD hS rfl hl.1 rfl (Nat.le_of_ble_eq_true rfl) dL_law_2016 ⟨(Nat.le_of_ble_eq_true rfl), (Nat.le_of_ble_eq_true rfl)⟩ (fun H locs w hI hP hD hS => ?_)
                                                                                      have hP : va_P (dC, dI) vwCl ((a_g, .inl (cI, 38, .inl ga_68e)) :: (a_k, .inl (cI, 38, .inl ka_68e)) :: w) H := hP
                                                                                      have hD : va_D (fun q : Nat => s.heap.size ≤ q) ((a_g, .inl (cI, 38, .inl ga_68e)) :: (a_k, .inl (cI, 38, .inl ka_68e)) :: w) := hD
                                                                                      refine lv_iload hx hb dL_law_2019 (lv_at hl 1 rfl) ?_
                                                                                      refine lv_icmp_ne (tgt := 2100) hx hb dL_law_2021 (by decide) (fun c_2021 => ?_) (fun c_2021 => ?_)
                                                                                      · have h := hp_neg c_2021 h
                                                                                        cases h
                                                                                      · have h := hp_pos c_2021 h
                                                                                        refine lv_aload_n hx hb dL_law_2024 rfl (lv_at hl 0 rfl) ?_
                                                                                        obtain ⟨r_2025, e_2025, h⟩ := ob1_inv h
                                                                                        refine k_GVi (pre := [(a_g, .inl (cI, 38, .inl ga_68e)), (a_k, .inl (cI, 38, .inl ka_68e))]) (rest := []) ⟨hx, hb, hml, hown, hts⟩ (A_X4_unlawful l dC dI cI cS ad e_2025) (cwV 0 hts gL_law_X4_unlawful rfl rfl rfl khd_X4_unlawful ⟨(Nat.le_of_ble_eq_true rfl), (Nat.le_of_ble_eq_true rfl)⟩) hK hN hI hP hD hS rfl hl.1 rfl (Nat.le_of_ble_eq_true rfl) dL_law_2025 ⟨(Nat.le_of_ble_eq_true rfl), (Nat.le_of_ble_eq_true rfl)⟩ (fun H locs w hI hP hD hS => ?_)
                                                                                        have hP : va_P (dC, dI) vwCl ((a_g, .inl (cI, 38, .inl ga_68e)) :: (a_k, .inl (cI, 38, .inl ka_68e)) :: w) H := hP
                                                                                        have hD : va_D (fun q : Nat => s.heap.size ≤ q) ((a_g, .inl (cI, 38, .inl ga_68e)) :: (a_k, .inl (cI, 38, .inl ka_68e)) :: w) := hD
                                                                                        refine lv_if_ne (tgt := 2100) hx hb dL_law_2028 (by decide) (fun c_2028 => ?_) (fun c_2028 => ?_)
                                                                                        · have h := hp_neg c_2028 h
                                                                                          cases h
                                                                                        · have h := hp_pos c_2028 h
                                                                                          refine lv_aload_n hx hb dL_law_2031 rfl (lv_at hl 0 rfl) ?_
                                                                                          refine lv_iconst (v := 1) hx hb dL_law_2032 (by decide) ?_
                                                                                          obtain ⟨r_2033, e_2033, h⟩ := ob1_inv h
                                                                                          refine k_GVi (pre := [(a_g, .inl (cI, 38, .inl ga_68e)), (a_k, .inl (cI, 38, .inl ka_68e))]) (rest := []) ⟨hx, hb, hml, hown, hts⟩ (A_X4_many l dC dI cI cS ad e_2033) (cwV 1 hts gL_law_X4_many rfl rfl rfl khd_X4_many ⟨(Nat.le_of_ble_eq_true rfl), (Nat.le_of_ble_eq_true rfl)⟩) hK hN hI hP hD hS rfl hl.1 rfl (Nat.le_of_ble_eq_true rfl) dL_law_2033 ⟨(Nat.le_of_ble_eq_true rfl), (Nat.le_of_ble_eq_true rfl)⟩ (fun H locs w hI hP hD hS => ?_)
                                                                                          have hP : va_P (dC, dI) vwCl ((a_g, .inl (cI, 38, .inl ga_68e)) :: (a_k, .inl (cI, 38, .inl ka_68e)) :: w) H := hP
                                                                                          have hD : va_D (fun q : Nat => s.heap.size ≤ q) ((a_g, .inl (cI, 38, .inl ga_68e)) :: (a_k, .inl (cI, 38, .inl ka_68e)) :: w) := hD
                                                                                          refine lv_iload hx hb dL_law_2036 (lv_at hl 2 rfl) ?_
                                                                                          refine lv_icmp_ne (tgt := 2100) hx hb dL_law_2038 (by decide) (fun c_2038 => ?_) (fun c_2038 => ?_)
                                                                                          · have h := hp_neg c_2038 h
                                                                                            cases h
                                                                                          · have h := hp_pos c_2038 h
                                                                                            refine lv_iload hx hb dL_law_2041 (lv_at hl 1 rfl) ?_
                                                                                            refine lv_iconst (v := 2) hx hb dL_law_2043 (by decide) ?_
                                                                                            refine lv_icmp_lt (tgt := 2096) hx hb dL_law_2044 (by decide) (fun c_2044 => ?_) (fun c_2044 => ?_)
                                                                                            · have h := hp_pos c_2044 h
                                                                                              refine lv_iconst (v := 1) hx hb dL_law_2096 (by decide) ?_
                                                                                              refine lv_goto (tgt := 2101) hx hb dL_law_2097 (by decide) ?_
                                                                                              refine va_forget (fun q hq => hS.2.2 q hq) ?_
                                                                                              refine W.widen (k := 600000) (n := 7302250) (Nat.le_of_ble_eq_true rfl) (Nat.le_of_ble_eq_true rfl) ?_
                                                                                              exact lw_ret hx hb hr hlocks dL_law_2101
                                                                                            · have h := hp_neg c_2044 h
                                                                                              refine lv_aload_n hx hb dL_law_2047 rfl (lv_at hl 0 rfl) ?_
                                                                                              refine lv_iconst (v := 1) hx hb dL_law_2048 (by decide) ?_
                                                                                              refine lv_iconst (v := 0) hx hb dL_law_2049 (by decide) ?_
                                                                                              obtain ⟨r_2050, r_2050_S, e_2050, h⟩ := ob2_inv h
                                                                                              refine k_GVi (pre := [(a_g, .inl (cI, 38, .inl ga_68e)), (a_k, .inl (cI, 38, .inl ka_68e))]) (rest := []) ⟨hx, hb, hml, hown, hts⟩ (A_X4_own l dC dI cI cS ad e_2050) (cwV 2 hts gL_law_X4_own rfl rfl rfl khd_X4_own ⟨(Nat.le_of_ble_eq_true rfl), (Nat.le_of_ble_eq_true rfl)⟩) hK hN hI hP hD hS rfl hl.1 rfl (Nat.le_of_ble_eq_true rfl) dL_law_2050 ⟨(Nat.le_of_ble_eq_true rfl), (Nat.le_of_ble_eq_true rfl)⟩ (fun H locs w hI hP hD hS => ?_)
                                                                                              have hP : va_P (dC, dI) vwCl ((a_g, .inl (cI, 38, .inl ga_68e)) :: (a_k, .inl (cI, 38, .inl ka_68e)) :: w) H := hP
                                                                                              have hD : va_D (fun q : Nat => s.heap.size ≤ q) ((a_g, .inl (cI, 38, .inl ga_68e)) :: (a_k, .inl (cI, 38, .inl ka_68e)) :: w) := hD
                                                                                              refine lv_bipush (v := 6) hx hb dL_law_2053 (by decide) ?_
                                                                                              refine lv_icmp_ne (tgt := 2100) hx hb dL_law_2055 (by decide) (fun c_2055 => ?_) (fun c_2055 => ?_)
                                                                                              · have h := hp_neg c_2055 h
                                                                                                cases h
                                                                                              · have h := hp_pos c_2055 h
                                                                                                refine lv_aload_n hx hb dL_law_2058 rfl (lv_at hl 0 rfl) ?_
                                                                                                obtain ⟨r_2059, e_2059, h⟩ := ob1_inv h
                                                                                                refine k_GVi (pre := [(a_g, .inl (cI, 38, .inl ga_68e)), (a_k, .inl (cI, 38, .inl ka_68e))]) (rest := []) ⟨hx, hb, hml, hown, hts⟩ (A_X4_unlawful l dC dI cI cS ad e_2059) (cwV 0 hts gL_law_X4_unlawful rfl rfl rfl khd_X4_unlawful ⟨(Nat.le_of_ble_eq_true rfl), (Nat.le_of_ble_eq_true rfl)⟩) hK hN hI hP hD hS rfl hl.1 rfl (Nat.le_of_ble_eq_true rfl) dL_law_2059 ⟨(Nat.le_of_ble_eq_true rfl), (Nat.le_of_ble_eq_true rfl)⟩ (fun H locs w hI hP hD hS => ?_)
                                                                                                have hP : va_P (dC, dI) vwCl ((a_g, .inl (cI, 38, .inl ga_68e)) :: (a_k, .inl (cI, 38, .inl ka_68e)) :: w) H := hP
                                                                                                have hD : va_D (fun q : Nat => s.heap.size ≤ q) ((a_g, .inl (cI, 38, .inl ga_68e)) :: (a_k, .inl (cI, 38, .inl ka_68e)) :: w) := hD
                                                                                                refine lv_iconst (v := 2) hx hb dL_law_2062 (by decide) ?_
                                                                                                refine lv_icmp_ne (tgt := 2100) hx hb dL_law_2063 (by decide) (fun c_2063 => ?_) (fun c_2063 => ?_)
                                                                                                · have h := hp_neg c_2063 h
                                                                                                  cases h
                                                                                                · have h := hp_pos c_2063 h
                                                                                                  refine lv_aload_n hx hb dL_law_2066 rfl (lv_at hl 0 rfl) ?_
                                                                                                  refine lv_iconst (v := 1) hx hb dL_law_2067 (by decide) ?_
                                                                                                  refine lv_iconst (v := -1) hx hb dL_law_2068 (by decide) ?_
                                                                                                  obtain ⟨r_2069, e_2069, h⟩ := ob1_inv h
                                                                                                  refine k_GVi (pre := [(a_g, .inl (cI, 38, .inl ga_68e)), (a_k, .inl (cI, 38, .inl ka_68e))]) (rest := []) ⟨hx, hb, hml, hown, hts⟩ (A_X4_past l dC dI cI cS ad e_2069) (cwV 2 hts gL_law_X4_past rfl rfl rfl khd_X4_past ⟨(Nat.le_of_ble_eq_true rfl), (Nat.le_of_ble_eq_true rfl)⟩) hK hN hI hP hD hS rfl hl.1 rfl (Nat.le_of_ble_eq_true rfl) dL_law_2069 ⟨(Nat.le_of_ble_eq_true rfl), (Nat.le_of_ble_eq_true rfl)⟩ (fun H locs w hI hP hD hS => ?_)
                                                                                                  have hP : va_P (dC, dI) vwCl ((a_g, .inl (cI, 38, .inl ga_68e)) :: (a_k, .inl (cI, 38, .inl ka_68e)) :: w) H := hP
                                                                                                  have hD : va_D (fun q : Nat => s.heap.size ≤ q) ((a_g, .inl (cI, 38, .inl ga_68e)) :: (a_k, .inl (cI, 38, .inl ka_68e)) :: w) := hD
                                                                                                  refine lv_iconst (v := 1) hx hb dL_law_2072 (by decide) ?_
                                                                                                  refine lv_icmp_ne (tgt := 2100) hx hb dL_law_2073 (by decide) (fun c_2073 => ?_) (fun c_2073 => ?_)
                                                                                                  · have h := hp_neg c_2073 h
                                                                                                    cases h
                                                                                                  · have h := hp_pos c_2073 h
                                                                                                    refine lv_aload_n hx hb dL_law_2076 rfl (lv_at hl 0 rfl) ?_
                                                                                                    refine lv_iconst (v := 1) hx hb dL_law_2077 (by decide) ?_
                                                                                                    refine lv_iconst (v := 0) hx hb dL_law_2078 (by decide) ?_
                                                                                                    obtain ⟨r_2079, e_2079, h⟩ := ob1_inv h
                                                                                                    refine k_GVi (pre := [(a_g, .inl (cI, 38, .inl ga_68e)), (a_k, .inl (cI, 38, .inl ka_68e))]) (rest := []) ⟨hx, hb, hml, hown, hts⟩ (A_X4_past l dC dI cI cS ad e_2079) (cwV 2 hts gL_law_X4_past rfl rfl rfl khd_X4_past ⟨(Nat.le_of_ble_eq_true rfl), (Nat.le_of_ble_eq_true rfl)⟩) hK hN hI hP hD hS rfl hl.1 rfl (Nat.le_of_ble_eq_true rfl) dL_law_2079 ⟨(Nat.le_of_ble_eq_true rfl), (Nat.le_of_ble_eq_true rfl)⟩ (fun H locs w hI hP hD hS => ?_)
                                                                                                    have hP : va_P (dC, dI) vwCl ((a_g, .inl (cI, 38, .inl ga_68e)) :: (a_k, .inl (cI, 38, .inl ka_68e)) :: w) H := hP
                                                                                                    have hD : va_D (fun q : Nat => s.heap.size ≤ q) ((a_g, .inl (cI, 38, .inl ga_68e)) :: (a_k, .inl (cI, 38, .inl ka_68e)) :: w) := hD
                                                                                                    refine lv_iconst (v := 1) hx hb dL_law_2082 (by decide) ?_
                                                                                                    refine lv_icmp_ne (tgt := 2100) hx hb dL_law_2083 (by decide) (fun c_2083 => ?_) (fun c_2083 => ?_)
                                                                                                    · have h := hp_neg c_2083 h
                                                                                                      cases h
                                                                                                    · have h := hp_pos c_2083 h
                                                                                                      refine lv_aload_n hx hb dL_law_2086 rfl (lv_at hl 0 rfl) ?_
                                                                                                      refine lv_iconst (v := 1) hx hb dL_law_2087 (by decide) ?_
                                                                                                      refine lv_bipush (v := 6) hx hb dL_law_2088 (by decide) ?_
                                                                                                      obtain ⟨r_2090, r_2090_S, e_2090, h⟩ := ob2_inv h
                                                                                                      refine k_GVi (pre := [(a_g, .inl (cI, 38, .inl ga_68e)), (a_k, .inl (cI, 38, .inl ka_68e))]) (rest := []) ⟨hx, hb, hml, hown, hts⟩ (A_X4_own l dC dI cI cS ad e_2090) (cwV 2 hts gL_law_X4_own rfl rfl rfl khd_X4_own ⟨(Nat.le_of_ble_eq_true rfl), (Nat.le_of_ble_eq_true rfl)⟩) hK hN hI hP hD hS rfl hl.1 rfl (Nat.le_of_ble_eq_true rfl) dL_law_2090 ⟨(Nat.le_of_ble_eq_true rfl), (Nat.le_of_ble_eq_true rfl)⟩ (fun H locs w hI hP hD hS => ?_)
                                                                                                      have hP : va_P (dC, dI) vwCl ((a_g, .inl (cI, 38, .inl ga_68e)) :: (a_k, .inl (cI, 38, .inl ka_68e)) :: w) H := hP
                                                                                                      have hD : va_D (fun q : Nat => s.heap.size ≤ q) ((a_g, .inl (cI, 38, .inl ga_68e)) :: (a_k, .inl (cI, 38, .inl ka_68e)) :: w) := hD
                                                                                                      refine lv_if_ne (tgt := 2100) hx hb dL_law_2093 (by decide) (fun c_2093 => ?_) (fun c_2093 => ?_)
                                                                                                      · have h := hp_neg c_2093 h
                                                                                                        cases h
                                                                                                      · have h := hp_pos c_2093 h
                                                                                                        refine lv_iconst (v := 1) hx hb dL_law_2096 (by decide) ?_
                                                                                                        refine lv_goto (tgt := 2101) hx hb dL_law_2097 (by decide) ?_
                                                                                                        refine va_forget (fun q hq => hS.2.2 q hq) ?_
                                                                                                        refine W.widen (k := 600000) (n := 7302250) (Nat.le_of_ble_eq_true rfl) (Nat.le_of_ble_eq_true rfl) ?_
                                                                                                        exact lw_ret hx hb hr hlocks dL_law_2101
                                                                                    exact lq_1949 C0 hK hN after_1949 FUEL _ _ _ i_1949 _ _ _ _ hI hP hD hS (lv_sub hl [1, 2, 3, 0] rfl)
                                                                                  exact lq_1915 C0 hK hN after_1915 FUEL _ _ _ i_1915 _ _ _ _ hI hP hD hS (lv_sub hl [2, 3, 1, 0] rfl)
                                                                                exact lq_1865 C0 hK hN after_1865 FUEL _ _ i_1865 _ _ _ _ hI hP hD hS (lv_sub hl [1, 2, 3, 0] rfl)
                                                                              · have h := hp_neg c_1857 h
                                                                                cases h
                                                                      exact lq_1789 C0 hK hN after_1789 FUEL _ _ i_1789 _ _ _ _ hI hP hD hS (lv_sub hl [1, 2, 3, 0] rfl)
                                                                    · have h := hp_neg c_1777 h
                                                                      cases h
                                        · have h := hp_neg c_1582 h
                                          cases h
        exact lq_68 C0 hK hN after_68 FUEL _ _ _ _ i_68 _ _ _ _ hI hP hD hS (lv_sub hl [6, 5, 4, 3, 1, 0] rfl)
      · have h := hp_neg c_60 h
        cases h
end LAWL
