section LAWL
variable {p : Program} {l : Launch} {e : Env} {s : State} {m : MethodId} {below : List Frame} {meth : Method} {c : Code} {dC : Nat → ClassId} {dI : Nat → Nat → Nat} {cI cS : ClassId} {b L : Nat} {xs : Nat → Int32} {ad : Nat → Nat} {a_g a_k : Nat}
set_option maxHeartbeats 32000000 in
set_option maxRecDepth 100000 in
theorem lq_1959 (C0 : lw_At p s m meth c b L xs) (hK : va_K (dC, dI) vwCl (tyW cI cS) s) (hN : Nst s) {r_22_ga : Nat → Int32} {ga_68e : Nat → Int32} {ka_68e : Nat → Int32} {x7_1949 : Int32} {y6_1959 : Int32} {SS_1959e : SG} (after_1959 : ∀ (w : va_W) (H : Heap) (locs : List Loc) (ls : Array Slot), gI cI cS ad SS_1959e w → va_P (dC, dI) vwCl ((a_g, .inl (cI, 38, .inl ga_68e)) :: (a_k, .inl (cI, 38, .inl ka_68e)) :: w) H → va_D (fun q : Nat => s.heap.size ≤ q) ((a_g, .inl (cI, 38, .inl ga_68e)) :: (a_k, .inl (cI, 38, .inl ka_68e)) :: w) → va_S (fun q : Nat => s.heap.size ≤ q) s.heap H locs → lv_has ls 19 [(1, .ref (ad 0)), (5, .int (r_22_ga 0)), (6, .int y6_1959), (7, .int x7_1949)] → W p l e room_1 s m #[Value.ref b] below meth c H locs 29 472 (lw_Z below #[Value.ref b] s) (F0 m 2008 ls [])) : ∀ (n : Nat) (x6_1959 : Int32) (x8_1959 : Int32) (SS_1959 : SG), it (u3 (L_L_law_1959 r_22_ga x7_1949)) n (x6_1959, x8_1959, SS_1959) = some (y6_1959, SS_1959e) → ∀ (w : va_W) (H : Heap) (locs : List Loc) (ls : Array Slot), gI cI cS ad SS_1959 w → va_P (dC, dI) vwCl ((a_g, .inl (cI, 38, .inl ga_68e)) :: (a_k, .inl (cI, 38, .inl ka_68e)) :: w) H → va_D (fun q : Nat => s.heap.size ≤ q) ((a_g, .inl (cI, 38, .inl ga_68e)) :: (a_k, .inl (cI, 38, .inl ka_68e)) :: w) → va_S (fun q : Nat => s.heap.size ≤ q) s.heap H locs → lv_has ls 19 [(1, .ref (ad 0)), (5, .int (r_22_ga 0)), (6, .int x6_1959), (7, .int x7_1949), (8, .int x8_1959)] → W p l e room_1 s m #[Value.ref b] below meth c H locs 29 472 (lw_Z below #[Value.ref b] s) (F0 m 1959 ls []) := by
  obtain ⟨hx, hb, hr, hml, hown, hts0, hX, hbl, hlocks, hgv⟩ := id C0
  have hts : ∀ w ∈ wsL_law, w.before #[Value.ref b] s = true := fun w h => hts0 w (wsL_law_in w h)
  have hbA : ¬ (fun q : Nat => s.heap.size ≤ q) b := Nat.not_le.mpr hbl
  intro n
  induction n with
  | zero => intro x6_1959 x8_1959 SS_1959 h2 w H locs ls hI hP hD hS hl; exact (it_0 h2).elim
  | succ n ih_1959 =>
    intro x6_1959 x8_1959 SS_1959 h2 w H locs ls hI hP hD hS hl
    obtain ⟨t_1959, h2, k2⟩ := it3_inv h2
    unfold L_L_law_1959 at h2
    refine lv_iload hx hb dL_law_1959 (lv_at hl 4 rfl) ?_
    refine lv_iload hx hb dL_law_1961 (lv_at hl 1 rfl) ?_
    refine lv_icmp_ge (tgt := 2008) hx hb dL_law_1963 (by decide) (fun c_1963 => ?_) (fun c_1963 => ?_)
    · have h2 := hp_pos c_1963 h2
      cases h2
      obtain ⟨rfl, rfl⟩ := pj2 k2
      exact after_1959 _ _ _ _ hI hP hD hS (lv_sub hl [0, 1, 2, 3] rfl)
    · have h2 := hp_neg c_1963 h2
      refine lv_aload_n hx hb dL_law_1966 rfl (lv_at hl 0 rfl) ?_
      refine lv_iload hx hb dL_law_1967 (lv_at hl 4 rfl) ?_
      refine lv_iload hx hb dL_law_1969 (lv_at hl 4 rfl) ?_
      refine lv_iload hx hb dL_law_1971 (lv_at hl 3 rfl) ?_
      refine lv_iadd hx hb dL_law_1973 ?_
      refine lv_iload hx hb dL_law_1974 (lv_at hl 1 rfl) ?_
      have g_1976 := hg_no h2
      have h2 := hg_yes h2
      refine lv_irem hx hb dL_law_1976 g_1976 ?_
      obtain ⟨r_1977, r_1977_S, e_1977, h2⟩ := ob2_inv h2
      refine k_GVi (pre := [(a_g, .inl (cI, 38, .inl ga_68e)), (a_k, .inl (cI, 38, .inl ka_68e))]) (rest := []) ⟨hx, hb, hml, hown, hts⟩ (A_X4_refer l dC dI cI cS ad e_1977) (cwV 2 hts gL_law_X4_refer rfl rfl rfl khd_X4_refer ⟨(Nat.le_of_ble_eq_true rfl), (Nat.le_of_ble_eq_true rfl)⟩) hK hN hI hP hD hS rfl hl.1 rfl (Nat.le_of_ble_eq_true rfl) dL_law_1977 ⟨(Nat.le_of_ble_eq_true rfl), (Nat.le_of_ble_eq_true rfl)⟩ (fun H locs w hI hP hD hS => ?_)
      have hP : va_P (dC, dI) vwCl ((a_g, .inl (cI, 38, .inl ga_68e)) :: (a_k, .inl (cI, 38, .inl ka_68e)) :: w) H := hP
      have hD : va_D (fun q : Nat => s.heap.size ≤ q) ((a_g, .inl (cI, 38, .inl ga_68e)) :: (a_k, .inl (cI, 38, .inl ka_68e)) :: w) := hD
      refine lv_iload hx hb dL_law_1980 (lv_at hl 2 rfl) ?_
      refine lv_bipush (v := 12) hx hb dL_law_1982 (by decide) ?_
      obtain ⟨u0_1997, v6_1997, i_1997, h2⟩ := ob2_inv h2
      have after_1997 : ∀ (w : va_W) (H : Heap) (locs : List Loc) (ls : Array Slot), gI cI cS ad r_1977_S w → va_P (dC, dI) vwCl ((a_g, .inl (cI, 38, .inl ga_68e)) :: (a_k, .inl (cI, 38, .inl ka_68e)) :: w) H → va_D (fun q : Nat => s.heap.size ≤ q) ((a_g, .inl (cI, 38, .inl ga_68e)) :: (a_k, .inl (cI, 38, .inl ka_68e)) :: w) → va_S (fun q : Nat => s.heap.size ≤ q) s.heap H locs → lv_has ls 19 [(1, .ref (ad 0)), (5, .int (r_22_ga 0)), (6, .int v6_1997), (7, .int x7_1949), (8, .int x8_1959)] → W p l e room_1 s m #[Value.ref b] below meth c H locs 29 472 (lw_Z below #[Value.ref b] s) (F0 m 1997 ls [.int u0_1997, .int r_1977]) := by
        intro w H locs ls hI hP hD hS hl
        refine lv_icmp_eq (tgt := 2002) hx hb dL_law_1997 (by decide) (fun c_1997 => ?_) (fun c_1997 => ?_)
        · have h2 := hp_pos c_1997 h2
          refine lv_iinc (v := (x8_1959 + (1 : Int32))) (lv' := [(8, .int (x8_1959 + (1 : Int32))), (1, .ref (ad 0)), (5, .int (r_22_ga 0)), (6, .int v6_1997), (7, .int x7_1949)]) hx hb dL_law_2002 hl (k := 4) rfl rfl (by decide) rfl (fun ls hl => ?_)
          refine lv_goto (tgt := 1959) hx hb dL_law_2005 (by decide) ?_
          cases h2
          exact ih_1959 _ _ _ k2 _ _ _ _ hI hP hD hS (lv_sub hl [1, 2, 3, 4, 0] rfl)
        · have h2 := hp_neg c_1997 h2
          cases h2
      have h3 := i_1997
      refine lv_icmp_ge (tgt := 1995) hx hb dL_law_1984 (by decide) (fun c_1984 => ?_) (fun c_1984 => ?_)
      · have h3 := hp_pos c_1984 h3
        refine lv_bipush (v := -4) hx hb dL_law_1995 (by decide) ?_
        obtain ⟨rfl, rfl⟩ := pj2 (Option.some.inj h3)
        exact after_1997 _ _ _ _ hI hP hD hS (lv_sub hl [0, 1, 2, 3, 4] rfl)
      · have h3 := hp_neg c_1984 h3
        refine lv_iinc (v := (x6_1959 + (1 : Int32))) (lv' := [(6, .int (x6_1959 + (1 : Int32))), (1, .ref (ad 0)), (5, .int (r_22_ga 0)), (7, .int x7_1949), (8, .int x8_1959)]) hx hb dL_law_1987 hl (k := 2) rfl rfl (by decide) rfl (fun ls hl => ?_)
        refine lv_iload hx hb dL_law_1990 (lv_at hl 0 rfl) ?_
        refine lv_goto (tgt := 1997) hx hb dL_law_1992 (by decide) ?_
        obtain ⟨rfl, rfl⟩ := pj2 (Option.some.inj h3)
        exact after_1997 _ _ _ _ hI hP hD hS (lv_sub hl [1, 2, 0, 3, 4] rfl)
set_option maxHeartbeats 32000000 in
set_option maxRecDepth 100000 in
theorem lq_1949 (C0 : lw_At p s m meth c b L xs) (hK : va_K (dC, dI) vwCl (tyW cI cS) s) (hN : Nst s) {r_22_ga : Nat → Int32} {ga_68e : Nat → Int32} {ka_68e : Nat → Int32} {y6_1949 : Int32} {SS_1949e : SG} (after_1949 : ∀ (w : va_W) (H : Heap) (locs : List Loc) (ls : Array Slot), gI cI cS ad SS_1949e w → va_P (dC, dI) vwCl ((a_g, .inl (cI, 38, .inl ga_68e)) :: (a_k, .inl (cI, 38, .inl ka_68e)) :: w) H → va_D (fun q : Nat => s.heap.size ≤ q) ((a_g, .inl (cI, 38, .inl ga_68e)) :: (a_k, .inl (cI, 38, .inl ka_68e)) :: w) → va_S (fun q : Nat => s.heap.size ≤ q) s.heap H locs → lv_has ls 19 [(1, .ref (ad 0)), (5, .int (r_22_ga 0)), (6, .int y6_1949)] → W p l e room_1 s m #[Value.ref b] below meth c H locs 29 472 (lw_Z below #[Value.ref b] s) (F0 m 2014 ls [])) : ∀ (n : Nat) (x6_1949 : Int32) (x7_1949 : Int32) (SS_1949 : SG), it (u3 (L_L_law_1949 r_22_ga)) n (x6_1949, x7_1949, SS_1949) = some (y6_1949, SS_1949e) → ∀ (w : va_W) (H : Heap) (locs : List Loc) (ls : Array Slot), gI cI cS ad SS_1949 w → va_P (dC, dI) vwCl ((a_g, .inl (cI, 38, .inl ga_68e)) :: (a_k, .inl (cI, 38, .inl ka_68e)) :: w) H → va_D (fun q : Nat => s.heap.size ≤ q) ((a_g, .inl (cI, 38, .inl ga_68e)) :: (a_k, .inl (cI, 38, .inl ka_68e)) :: w) → va_S (fun q : Nat => s.heap.size ≤ q) s.heap H locs → lv_has ls 19 [(1, .ref (ad 0)), (5, .int (r_22_ga 0)), (6, .int x6_1949), (7, .int x7_1949)] → W p l e room_1 s m #[Value.ref b] below meth c H locs 29 472 (lw_Z below #[Value.ref b] s) (F0 m 1949 ls []) := by
  obtain ⟨hx, hb, hr, hml, hown, hts0, hX, hbl, hlocks, hgv⟩ := id C0
  have hts : ∀ w ∈ wsL_law, w.before #[Value.ref b] s = true := fun w h => hts0 w (wsL_law_in w h)
  have hbA : ¬ (fun q : Nat => s.heap.size ≤ q) b := Nat.not_le.mpr hbl
  intro n
  induction n with
  | zero => intro x6_1949 x7_1949 SS_1949 h1 w H locs ls hI hP hD hS hl; exact (it_0 h1).elim
  | succ n ih_1949 =>
    intro x6_1949 x7_1949 SS_1949 h1 w H locs ls hI hP hD hS hl
    obtain ⟨t_1949, h1, k1⟩ := it3_inv h1
    unfold L_L_law_1949 at h1
    refine lv_iload hx hb dL_law_1949 (lv_at hl 3 rfl) ?_
    refine lv_iload hx hb dL_law_1951 (lv_at hl 1 rfl) ?_
    refine lv_icmp_ge (tgt := 2014) hx hb dL_law_1953 (by decide) (fun c_1953 => ?_) (fun c_1953 => ?_)
    · have h1 := hp_pos c_1953 h1
      cases h1
      obtain ⟨rfl, rfl⟩ := pj2 k1
      exact after_1949 _ _ _ _ hI hP hD hS (lv_sub hl [0, 1, 2] rfl)
    · have h1 := hp_neg c_1953 h1
      refine lv_iconst (v := 0) hx hb dL_law_1956 (by decide) ?_
      refine lv_istore (lv' := [(8, .int (0 : Int32)), (1, .ref (ad 0)), (5, .int (r_22_ga 0)), (6, .int x6_1949), (7, .int x7_1949)]) hx hb dL_law_1957 hl (by decide) rfl (fun ls hl => ?_)
      obtain ⟨y6_1959, SS_1959e, i_1959, h1⟩ := ob2_inv h1
      have after_1959 : ∀ (w : va_W) (H : Heap) (locs : List Loc) (ls : Array Slot), gI cI cS ad SS_1959e w → va_P (dC, dI) vwCl ((a_g, .inl (cI, 38, .inl ga_68e)) :: (a_k, .inl (cI, 38, .inl ka_68e)) :: w) H → va_D (fun q : Nat => s.heap.size ≤ q) ((a_g, .inl (cI, 38, .inl ga_68e)) :: (a_k, .inl (cI, 38, .inl ka_68e)) :: w) → va_S (fun q : Nat => s.heap.size ≤ q) s.heap H locs → lv_has ls 19 [(1, .ref (ad 0)), (5, .int (r_22_ga 0)), (6, .int y6_1959), (7, .int x7_1949)] → W p l e room_1 s m #[Value.ref b] below meth c H locs 29 472 (lw_Z below #[Value.ref b] s) (F0 m 2008 ls []) := by
        intro w H locs ls hI hP hD hS hl
        refine lv_iinc (v := (x7_1949 + (1 : Int32))) (lv' := [(7, .int (x7_1949 + (1 : Int32))), (1, .ref (ad 0)), (5, .int (r_22_ga 0)), (6, .int y6_1959)]) hx hb dL_law_2008 hl (k := 3) rfl rfl (by decide) rfl (fun ls hl => ?_)
        refine lv_goto (tgt := 1949) hx hb dL_law_2011 (by decide) ?_
        cases h1
        exact ih_1949 _ _ _ k1 _ _ _ _ hI hP hD hS (lv_sub hl [1, 2, 3, 0] rfl)
      exact lq_1959 C0 hK hN after_1959 FUEL _ _ _ i_1959 _ _ _ _ hI hP hD hS (lv_sub hl [1, 2, 3, 4, 0] rfl)
set_option maxHeartbeats 32000000 in
set_option maxRecDepth 100000 in
theorem lq_1915 (C0 : lw_At p s m meth c b L xs) (hK : va_K (dC, dI) vwCl (tyW cI cS) s) (hN : Nst s) {r_22_ga : Nat → Int32} {ga_68e : Nat → Int32} {ka_68e : Nat → Int32} {y6_1915 : Int32} {SS_1915e : SG} (after_1915 : ∀ (w : va_W) (H : Heap) (locs : List Loc) (ls : Array Slot), gI cI cS ad SS_1915e w → va_P (dC, dI) vwCl ((a_g, .inl (cI, 38, .inl ga_68e)) :: (a_k, .inl (cI, 38, .inl ka_68e)) :: w) H → va_D (fun q : Nat => s.heap.size ≤ q) ((a_g, .inl (cI, 38, .inl ga_68e)) :: (a_k, .inl (cI, 38, .inl ka_68e)) :: w) → va_S (fun q : Nat => s.heap.size ≤ q) s.heap H locs → lv_has ls 19 [(1, .ref (ad 0)), (5, .int (r_22_ga 0)), (6, .int y6_1915)] → W p l e room_1 s m #[Value.ref b] below meth c H locs 29 472 (lw_Z below #[Value.ref b] s) (F0 m 1946 ls [])) : ∀ (n : Nat) (x6_1915 : Int32) (x7_1915 : Int32) (SS_1915 : SG), it (u3 (L_L_law_1915 r_22_ga)) n (x6_1915, x7_1915, SS_1915) = some (y6_1915, SS_1915e) → ∀ (w : va_W) (H : Heap) (locs : List Loc) (ls : Array Slot), gI cI cS ad SS_1915 w → va_P (dC, dI) vwCl ((a_g, .inl (cI, 38, .inl ga_68e)) :: (a_k, .inl (cI, 38, .inl ka_68e)) :: w) H → va_D (fun q : Nat => s.heap.size ≤ q) ((a_g, .inl (cI, 38, .inl ga_68e)) :: (a_k, .inl (cI, 38, .inl ka_68e)) :: w) → va_S (fun q : Nat => s.heap.size ≤ q) s.heap H locs → lv_has ls 19 [(1, .ref (ad 0)), (5, .int (r_22_ga 0)), (6, .int x6_1915), (7, .int x7_1915)] → W p l e room_1 s m #[Value.ref b] below meth c H locs 29 472 (lw_Z below #[Value.ref b] s) (F0 m 1915 ls []) := by
  obtain ⟨hx, hb, hr, hml, hown, hts0, hX, hbl, hlocks, hgv⟩ := id C0
  have hts : ∀ w ∈ wsL_law, w.before #[Value.ref b] s = true := fun w h => hts0 w (wsL_law_in w h)
  have hbA : ¬ (fun q : Nat => s.heap.size ≤ q) b := Nat.not_le.mpr hbl
  intro n
  induction n with
  | zero => intro x6_1915 x7_1915 SS_1915 h1 w H locs ls hI hP hD hS hl; exact (it_0 h1).elim
  | succ n ih_1915 =>
    intro x6_1915 x7_1915 SS_1915 h1 w H locs ls hI hP hD hS hl
    obtain ⟨t_1915, h1, k1⟩ := it3_inv h1
    unfold L_L_law_1915 at h1
    refine lv_iload hx hb dL_law_1915 (lv_at hl 3 rfl) ?_
    refine lv_iload hx hb dL_law_1917 (lv_at hl 1 rfl) ?_
    refine lv_icmp_ge (tgt := 1946) hx hb dL_law_1919 (by decide) (fun c_1919 => ?_) (fun c_1919 => ?_)
    · have h1 := hp_pos c_1919 h1
      cases h1
      obtain ⟨rfl, rfl⟩ := pj2 k1
      exact after_1915 _ _ _ _ hI hP hD hS (lv_sub hl [0, 1, 2] rfl)
    · have h1 := hp_neg c_1919 h1
      refine lv_aload_n hx hb dL_law_1922 rfl (lv_at hl 0 rfl) ?_
      refine lv_bipush (v := 6) hx hb dL_law_1923 (by decide) ?_
      refine lv_iload hx hb dL_law_1925 (lv_at hl 3 rfl) ?_
      obtain ⟨r_1927, r_1927_S, e_1927, h1⟩ := ob2_inv h1
      refine k_GVi (pre := [(a_g, .inl (cI, 38, .inl ga_68e)), (a_k, .inl (cI, 38, .inl ka_68e))]) (rest := []) ⟨hx, hb, hml, hown, hts⟩ (A_X4_refer l dC dI cI cS ad e_1927) (cwV 2 hts gL_law_X4_refer rfl rfl rfl khd_X4_refer ⟨(Nat.le_of_ble_eq_true rfl), (Nat.le_of_ble_eq_true rfl)⟩) hK hN hI hP hD hS rfl hl.1 rfl (Nat.le_of_ble_eq_true rfl) dL_law_1927 ⟨(Nat.le_of_ble_eq_true rfl), (Nat.le_of_ble_eq_true rfl)⟩ (fun H locs w hI hP hD hS => ?_)
      have hP : va_P (dC, dI) vwCl ((a_g, .inl (cI, 38, .inl ga_68e)) :: (a_k, .inl (cI, 38, .inl ka_68e)) :: w) H := hP
      have hD : va_D (fun q : Nat => s.heap.size ≤ q) ((a_g, .inl (cI, 38, .inl ga_68e)) :: (a_k, .inl (cI, 38, .inl ka_68e)) :: w) := hD
      refine lv_iinc (v := (x6_1915 + (1 : Int32))) (lv' := [(6, .int (x6_1915 + (1 : Int32))), (1, .ref (ad 0)), (5, .int (r_22_ga 0)), (7, .int x7_1915)]) hx hb dL_law_1930 hl (k := 2) rfl rfl (by decide) rfl (fun ls hl => ?_)
      refine lv_iload hx hb dL_law_1933 (lv_at hl 0 rfl) ?_
      refine lv_icmp_eq (tgt := 1940) hx hb dL_law_1935 (by decide) (fun c_1935 => ?_) (fun c_1935 => ?_)
      · have h1 := hp_pos c_1935 h1
        refine lv_iinc (v := (x7_1915 + (1 : Int32))) (lv' := [(7, .int (x7_1915 + (1 : Int32))), (6, .int (x6_1915 + (1 : Int32))), (1, .ref (ad 0)), (5, .int (r_22_ga 0))]) hx hb dL_law_1940 hl (k := 3) rfl rfl (by decide) rfl (fun ls hl => ?_)
        refine lv_goto (tgt := 1915) hx hb dL_law_1943 (by decide) ?_
        cases h1
        exact ih_1915 _ _ _ k1 _ _ _ _ hI hP hD hS (lv_sub hl [2, 3, 1, 0] rfl)
      · have h1 := hp_neg c_1935 h1
        cases h1
set_option maxHeartbeats 32000000 in
set_option maxRecDepth 100000 in
theorem lq_1865 (C0 : lw_At p s m meth c b L xs) (hK : va_K (dC, dI) vwCl (tyW cI cS) s) (hN : Nst s) {r_22_ga : Nat → Int32} {ga_68e : Nat → Int32} {ka_68e : Nat → Int32} {SS_1865e : SG} (after_1865 : ∀ (w : va_W) (H : Heap) (locs : List Loc) (ls : Array Slot), gI cI cS ad SS_1865e w → va_P (dC, dI) vwCl ((a_g, .inl (cI, 38, .inl ga_68e)) :: (a_k, .inl (cI, 38, .inl ka_68e)) :: w) H → va_D (fun q : Nat => s.heap.size ≤ q) ((a_g, .inl (cI, 38, .inl ga_68e)) :: (a_k, .inl (cI, 38, .inl ka_68e)) :: w) → va_S (fun q : Nat => s.heap.size ≤ q) s.heap H locs → lv_has ls 19 [(1, .ref (ad 0)), (5, .int (r_22_ga 0))] → W p l e room_1 s m #[Value.ref b] below meth c H locs 29 472 (lw_Z below #[Value.ref b] s) (F0 m 1909 ls [])) : ∀ (n : Nat) (x6_1865 : Int32) (SS_1865 : SG), it (u2 (L_L_law_1865 r_22_ga ga_68e)) n (x6_1865, SS_1865) = some SS_1865e → ∀ (w : va_W) (H : Heap) (locs : List Loc) (ls : Array Slot), gI cI cS ad SS_1865 w → va_P (dC, dI) vwCl ((a_g, .inl (cI, 38, .inl ga_68e)) :: (a_k, .inl (cI, 38, .inl ka_68e)) :: w) H → va_D (fun q : Nat => s.heap.size ≤ q) ((a_g, .inl (cI, 38, .inl ga_68e)) :: (a_k, .inl (cI, 38, .inl ka_68e)) :: w) → va_S (fun q : Nat => s.heap.size ≤ q) s.heap H locs → lv_has ls 19 [(1, .ref (ad 0)), (2, .ref a_g), (5, .int (r_22_ga 0)), (6, .int x6_1865)] → W p l e room_1 s m #[Value.ref b] below meth c H locs 29 472 (lw_Z below #[Value.ref b] s) (F0 m 1865 ls []) := by
  obtain ⟨hx, hb, hr, hml, hown, hts0, hX, hbl, hlocks, hgv⟩ := id C0
  have hts : ∀ w ∈ wsL_law, w.before #[Value.ref b] s = true := fun w h => hts0 w (wsL_law_in w h)
  have hbA : ¬ (fun q : Nat => s.heap.size ≤ q) b := Nat.not_le.mpr hbl
  intro n
  induction n with
  | zero => intro x6_1865 SS_1865 h1 w H locs ls hI hP hD hS hl; exact (it_0 h1).elim
  | succ n ih_1865 =>
    intro x6_1865 SS_1865 h1 w H locs ls hI hP hD hS hl
    obtain ⟨t_1865, h1, k1⟩ := it2_inv h1
    unfold L_L_law_1865 at h1
    refine lv_iload hx hb dL_law_1865 (lv_at hl 3 rfl) ?_
    refine lv_iload hx hb dL_law_1867 (lv_at hl 2 rfl) ?_
    refine lv_icmp_ge (tgt := 1909) hx hb dL_law_1869 (by decide) (fun c_1869 => ?_) (fun c_1869 => ?_)
    · have h1 := hp_pos c_1869 h1
      cases h1
      obtain rfl := pj1 k1
      exact after_1865 _ _ _ _ hI hP hD hS (lv_sub hl [0, 2] rfl)
    · have h1 := hp_neg c_1869 h1
      refine lv_aload_n hx hb dL_law_1872 rfl (lv_at hl 0 rfl) ?_
      refine lv_iload hx hb dL_law_1873 (lv_at hl 3 rfl) ?_
      refine lv_bipush (v := 6) hx hb dL_law_1875 (by decide) ?_
      obtain ⟨r_1877, r_1877_S, e_1877, h1⟩ := ob2_inv h1
      refine k_GVi (pre := [(a_g, .inl (cI, 38, .inl ga_68e)), (a_k, .inl (cI, 38, .inl ka_68e))]) (rest := []) ⟨hx, hb, hml, hown, hts⟩ (A_X4_own l dC dI cI cS ad e_1877) (cwV 2 hts gL_law_X4_own rfl rfl rfl khd_X4_own ⟨(Nat.le_of_ble_eq_true rfl), (Nat.le_of_ble_eq_true rfl)⟩) hK hN hI hP hD hS rfl hl.1 rfl (Nat.le_of_ble_eq_true rfl) dL_law_1877 ⟨(Nat.le_of_ble_eq_true rfl), (Nat.le_of_ble_eq_true rfl)⟩ (fun H locs w hI hP hD hS => ?_)
      have hP : va_P (dC, dI) vwCl ((a_g, .inl (cI, 38, .inl ga_68e)) :: (a_k, .inl (cI, 38, .inl ka_68e)) :: w) H := hP
      have hD : va_D (fun q : Nat => s.heap.size ≤ q) ((a_g, .inl (cI, 38, .inl ga_68e)) :: (a_k, .inl (cI, 38, .inl ka_68e)) :: w) := hD
      refine lv_aload_n hx hb dL_law_1880 rfl (lv_at hl 1 rfl) ?_
      refine lv_bipush (v := 8) hx hb dL_law_1881 (by decide) ?_
      refine lv_iload hx hb dL_law_1883 (lv_at hl 3 rfl) ?_
      refine lv_iadd hx hb dL_law_1885 ?_
      have g_1886 := hg_no h1
      have h1 := hg_yes h1
      refine va_iald (D := (dC, dI)) hx hb hK hP 0 0 rfl rfl g_1886 dL_law_1886 ?_
      refine lv_icmp_ne (tgt := 1901) hx hb dL_law_1887 (by decide) (fun c_1887 => ?_) (fun c_1887 => ?_)
      · have h1 := hp_neg c_1887 h1
        cases h1
      · have h1 := hp_pos c_1887 h1
        refine lv_aload_n hx hb dL_law_1890 rfl (lv_at hl 0 rfl) ?_
        refine lv_iload hx hb dL_law_1891 (lv_at hl 3 rfl) ?_
        refine lv_iconst (v := 2) hx hb dL_law_1893 (by decide) ?_
        obtain ⟨r_1894, e_1894, h1⟩ := ob1_inv h1
        refine k_GVi (pre := [(a_g, .inl (cI, 38, .inl ga_68e)), (a_k, .inl (cI, 38, .inl ka_68e))]) (rest := []) ⟨hx, hb, hml, hown, hts⟩ (A_X4_ofThing l dC dI cI cS ad e_1894) (cwV 2 hts gL_law_X4_ofThing rfl rfl rfl khd_X4_ofThing ⟨(Nat.le_of_ble_eq_true rfl), (Nat.le_of_ble_eq_true rfl)⟩) hK hN hI hP hD hS rfl hl.1 rfl (Nat.le_of_ble_eq_true rfl) dL_law_1894 ⟨(Nat.le_of_ble_eq_true rfl), (Nat.le_of_ble_eq_true rfl)⟩ (fun H locs w hI hP hD hS => ?_)
        have hP : va_P (dC, dI) vwCl ((a_g, .inl (cI, 38, .inl ga_68e)) :: (a_k, .inl (cI, 38, .inl ka_68e)) :: w) H := hP
        have hD : va_D (fun q : Nat => s.heap.size ≤ q) ((a_g, .inl (cI, 38, .inl ga_68e)) :: (a_k, .inl (cI, 38, .inl ka_68e)) :: w) := hD
        refine lv_iconst (v := 1) hx hb dL_law_1897 (by decide) ?_
        refine lv_icmp_eq (tgt := 1903) hx hb dL_law_1898 (by decide) (fun c_1898 => ?_) (fun c_1898 => ?_)
        · have h1 := hp_pos c_1898 h1
          refine lv_iinc (v := (x6_1865 + (1 : Int32))) (lv' := [(6, .int (x6_1865 + (1 : Int32))), (1, .ref (ad 0)), (2, .ref a_g), (5, .int (r_22_ga 0))]) hx hb dL_law_1903 hl (k := 3) rfl rfl (by decide) rfl (fun ls hl => ?_)
          refine lv_goto (tgt := 1865) hx hb dL_law_1906 (by decide) ?_
          cases h1
          exact ih_1865 _ _ k1 _ _ _ _ hI hP hD hS (lv_sub hl [1, 2, 3, 0] rfl)
        · have h1 := hp_neg c_1898 h1
          cases h1
set_option maxHeartbeats 32000000 in
set_option maxRecDepth 100000 in
theorem lq_1789 (C0 : lw_At p s m meth c b L xs) (hK : va_K (dC, dI) vwCl (tyW cI cS) s) (hN : Nst s) {r_22_ga : Nat → Int32} {ga_68e : Nat → Int32} {ka_68e : Nat → Int32} {SS_1789e : SG} (after_1789 : ∀ (w : va_W) (H : Heap) (locs : List Loc) (ls : Array Slot), gI cI cS ad SS_1789e w → va_P (dC, dI) vwCl ((a_g, .inl (cI, 38, .inl ga_68e)) :: (a_k, .inl (cI, 38, .inl ka_68e)) :: w) H → va_D (fun q : Nat => s.heap.size ≤ q) ((a_g, .inl (cI, 38, .inl ga_68e)) :: (a_k, .inl (cI, 38, .inl ka_68e)) :: w) → va_S (fun q : Nat => s.heap.size ≤ q) s.heap H locs → lv_has ls 19 [(1, .ref (ad 0)), (2, .ref a_g), (5, .int (r_22_ga 0))] → W p l e room_1 s m #[Value.ref b] below meth c H locs 29 472 (lw_Z below #[Value.ref b] s) (F0 m 1825 ls [])) : ∀ (n : Nat) (x6_1789 : Int32) (SS_1789 : SG), it (u2 (L_L_law_1789 ga_68e)) n (x6_1789, SS_1789) = some SS_1789e → ∀ (w : va_W) (H : Heap) (locs : List Loc) (ls : Array Slot), gI cI cS ad SS_1789 w → va_P (dC, dI) vwCl ((a_g, .inl (cI, 38, .inl ga_68e)) :: (a_k, .inl (cI, 38, .inl ka_68e)) :: w) H → va_D (fun q : Nat => s.heap.size ≤ q) ((a_g, .inl (cI, 38, .inl ga_68e)) :: (a_k, .inl (cI, 38, .inl ka_68e)) :: w) → va_S (fun q : Nat => s.heap.size ≤ q) s.heap H locs → lv_has ls 19 [(1, .ref (ad 0)), (2, .ref a_g), (5, .int (r_22_ga 0)), (6, .int x6_1789)] → W p l e room_1 s m #[Value.ref b] below meth c H locs 29 472 (lw_Z below #[Value.ref b] s) (F0 m 1789 ls []) := by
  obtain ⟨hx, hb, hr, hml, hown, hts0, hX, hbl, hlocks, hgv⟩ := id C0
  have hts : ∀ w ∈ wsL_law, w.before #[Value.ref b] s = true := fun w h => hts0 w (wsL_law_in w h)
  have hbA : ¬ (fun q : Nat => s.heap.size ≤ q) b := Nat.not_le.mpr hbl
  intro n
  induction n with
  | zero => intro x6_1789 SS_1789 h1 w H locs ls hI hP hD hS hl; exact (it_0 h1).elim
  | succ n ih_1789 =>
    intro x6_1789 SS_1789 h1 w H locs ls hI hP hD hS hl
    obtain ⟨t_1789, h1, k1⟩ := it2_inv h1
    unfold L_L_law_1789 at h1
    refine lv_iload hx hb dL_law_1789 (lv_at hl 3 rfl) ?_
    refine lv_if_lt (tgt := 1825) hx hb dL_law_1791 (by decide) (fun c_1791 => ?_) (fun c_1791 => ?_)
    · have h1 := hp_pos c_1791 h1
      cases h1
      obtain rfl := pj1 k1
      exact after_1789 _ _ _ _ hI hP hD hS (lv_sub hl [0, 1, 2] rfl)
    · have h1 := hp_neg c_1791 h1
      refine lv_aload_n hx hb dL_law_1794 rfl (lv_at hl 0 rfl) ?_
      refine lv_aload_n hx hb dL_law_1795 rfl (lv_at hl 1 rfl) ?_
      refine lv_bipush (v := 14) hx hb dL_law_1796 (by decide) ?_
      refine lv_iload hx hb dL_law_1798 (lv_at hl 3 rfl) ?_
      refine lv_iadd hx hb dL_law_1800 ?_
      have g_1801 := hg_no h1
      have h1 := hg_yes h1
      refine va_iald (D := (dC, dI)) hx hb hK hP 0 0 rfl rfl g_1801 dL_law_1801 ?_
      refine lv_aload_n hx hb dL_law_1802 rfl (lv_at hl 1 rfl) ?_
      refine lv_bipush (v := 26) hx hb dL_law_1803 (by decide) ?_
      refine lv_iload hx hb dL_law_1805 (lv_at hl 3 rfl) ?_
      refine lv_iadd hx hb dL_law_1807 ?_
      have g_1808 := hg_no h1
      have h1 := hg_yes h1
      refine va_iald (D := (dC, dI)) hx hb hK hP 0 0 rfl rfl g_1808 dL_law_1808 ?_
      obtain ⟨r_1809, r_1809_S, e_1809, h1⟩ := ob2_inv h1
      refine k_GVi (pre := [(a_g, .inl (cI, 38, .inl ga_68e)), (a_k, .inl (cI, 38, .inl ka_68e))]) (rest := []) ⟨hx, hb, hml, hown, hts⟩ (A_X4_refer l dC dI cI cS ad e_1809) (cwV 2 hts gL_law_X4_refer rfl rfl rfl khd_X4_refer ⟨(Nat.le_of_ble_eq_true rfl), (Nat.le_of_ble_eq_true rfl)⟩) hK hN hI hP hD hS rfl hl.1 rfl (Nat.le_of_ble_eq_true rfl) dL_law_1809 ⟨(Nat.le_of_ble_eq_true rfl), (Nat.le_of_ble_eq_true rfl)⟩ (fun H locs w hI hP hD hS => ?_)
      have hP : va_P (dC, dI) vwCl ((a_g, .inl (cI, 38, .inl ga_68e)) :: (a_k, .inl (cI, 38, .inl ka_68e)) :: w) H := hP
      have hD : va_D (fun q : Nat => s.heap.size ≤ q) ((a_g, .inl (cI, 38, .inl ga_68e)) :: (a_k, .inl (cI, 38, .inl ka_68e)) :: w) := hD
      refine lv_iload hx hb dL_law_1812 (lv_at hl 3 rfl) ?_
      refine lv_icmp_eq (tgt := 1819) hx hb dL_law_1814 (by decide) (fun c_1814 => ?_) (fun c_1814 => ?_)
      · have h1 := hp_pos c_1814 h1
        refine lv_iinc (v := (x6_1789 + (-1 : Int32))) (lv' := [(6, .int (x6_1789 + (-1 : Int32))), (1, .ref (ad 0)), (2, .ref a_g), (5, .int (r_22_ga 0))]) hx hb dL_law_1819 hl (k := 3) rfl rfl (by decide) rfl (fun ls hl => ?_)
        refine lv_goto (tgt := 1789) hx hb dL_law_1822 (by decide) ?_
        cases h1
        exact ih_1789 _ _ k1 _ _ _ _ hI hP hD hS (lv_sub hl [1, 2, 3, 0] rfl)
      · have h1 := hp_neg c_1814 h1
        cases h1
set_option maxHeartbeats 32000000 in
set_option maxRecDepth 100000 in
theorem lq_1337 (C0 : lw_At p s m meth c b L xs) (hK : va_K (dC, dI) vwCl (tyW cI cS) s) (hN : Nst s) {r_22_ga : Nat → Int32} {x6_68 : Int32} {ka_718e : Nat → Int32} {SS_746e : SG} {ga_1337e : Nat → Int32} (after_1337 : ∀ (w : va_W) (H : Heap) (locs : List Loc) (ls : Array Slot), gI cI cS ad SS_746e w → va_P (dC, dI) vwCl ((a_g, .inl (cI, 38, .inl ga_1337e)) :: (a_k, .inl (cI, 38, .inl ka_718e)) :: w) H → va_D (fun q : Nat => s.heap.size ≤ q) ((a_g, .inl (cI, 38, .inl ga_1337e)) :: (a_k, .inl (cI, 38, .inl ka_718e)) :: w) → va_S (fun q : Nat => s.heap.size ≤ q) s.heap H locs → lv_has ls 19 [(0, .ref b), (1, .ref (ad 0)), (2, .ref a_g), (3, .ref a_k), (5, .int (r_22_ga 0)), (6, .int x6_68)] → W p l e room_1 s m #[Value.ref b] below meth c H locs 29 472 (lw_Z below #[Value.ref b] s) (F0 m 1358 ls [])) : ∀ (n : Nat) (x13_1337 : Int32) (ga_1337 : Nat → Int32), it (u2 (L_L_law_1337 ka_718e)) n (x13_1337, ga_1337) = some ga_1337e → ∀ (w : va_W) (H : Heap) (locs : List Loc) (ls : Array Slot), gI cI cS ad SS_746e w → va_P (dC, dI) vwCl ((a_g, .inl (cI, 38, .inl ga_1337)) :: (a_k, .inl (cI, 38, .inl ka_718e)) :: w) H → va_D (fun q : Nat => s.heap.size ≤ q) ((a_g, .inl (cI, 38, .inl ga_1337)) :: (a_k, .inl (cI, 38, .inl ka_718e)) :: w) → va_S (fun q : Nat => s.heap.size ≤ q) s.heap H locs → lv_has ls 19 [(0, .ref b), (1, .ref (ad 0)), (2, .ref a_g), (3, .ref a_k), (5, .int (r_22_ga 0)), (6, .int x6_68), (13, .int x13_1337)] → W p l e room_1 s m #[Value.ref b] below meth c H locs 29 472 (lw_Z below #[Value.ref b] s) (F0 m 1337 ls []) := by
  obtain ⟨hx, hb, hr, hml, hown, hts0, hX, hbl, hlocks, hgv⟩ := id C0
  have hts : ∀ w ∈ wsL_law, w.before #[Value.ref b] s = true := fun w h => hts0 w (wsL_law_in w h)
  have hbA : ¬ (fun q : Nat => s.heap.size ≤ q) b := Nat.not_le.mpr hbl
  intro n
  induction n with
  | zero => intro x13_1337 ga_1337 h2 w H locs ls hI hP hD hS hl; exact (it_0 h2).elim
  | succ n ih_1337 =>
    intro x13_1337 ga_1337 h2 w H locs ls hI hP hD hS hl
    obtain ⟨t_1337, h2, k2⟩ := it2_inv h2
    unfold L_L_law_1337 at h2
    refine lv_iload hx hb dL_law_1337 (lv_at hl 6 rfl) ?_
    refine lv_bipush (v := 38) hx hb dL_law_1339 (by decide) ?_
    refine lv_icmp_ge (tgt := 1358) hx hb dL_law_1341 (by decide) (fun c_1341 => ?_) (fun c_1341 => ?_)
    · have h2 := hp_pos c_1341 h2
      cases h2
      obtain rfl := pj1 k2
      exact after_1337 _ _ _ _ hI hP hD hS (lv_sub hl [0, 1, 2, 3, 4, 5] rfl)
    · have h2 := hp_neg c_1341 h2
      refine lv_aload_n hx hb dL_law_1344 rfl (lv_at hl 2 rfl) ?_
      refine lv_iload hx hb dL_law_1345 (lv_at hl 6 rfl) ?_
      refine lv_aload_n hx hb dL_law_1347 rfl (lv_at hl 3 rfl) ?_
      refine lv_iload hx hb dL_law_1348 (lv_at hl 6 rfl) ?_
      have g_1350 := hg_no h2
      have h2 := hg_yes h2
      refine va_iald (D := (dC, dI)) hx hb hK hP 1 0 rfl rfl g_1350 dL_law_1350 ?_
      have g_1351 := hg_no h2
      have h2 := hg_yes h2
      refine va_iast (D := (dC, dI)) hx hb hK hP hD hS 0 0 rfl rfl g_1351 dL_law_1351 (fun H locs hP hD hS => ?_)
      have hP : va_P (dC, dI) vwCl ((a_g, .inl (cI, 38, .inl (upd ga_1337 x13_1337.toNatClampNeg (ka_718e x13_1337.toNatClampNeg)))) :: (a_k, .inl (cI, 38, .inl ka_718e)) :: w) H := hP
      have hD : va_D (fun q : Nat => s.heap.size ≤ q) ((a_g, .inl (cI, 38, .inl (upd ga_1337 x13_1337.toNatClampNeg (ka_718e x13_1337.toNatClampNeg)))) :: (a_k, .inl (cI, 38, .inl ka_718e)) :: w) := hD
      refine lv_iinc (v := (x13_1337 + (1 : Int32))) (lv' := [(13, .int (x13_1337 + (1 : Int32))), (0, .ref b), (1, .ref (ad 0)), (2, .ref a_g), (3, .ref a_k), (5, .int (r_22_ga 0)), (6, .int x6_68)]) hx hb dL_law_1352 hl (k := 6) rfl rfl (by decide) rfl (fun ls hl => ?_)
      refine lv_goto (tgt := 1337) hx hb dL_law_1355 (by decide) ?_
      cases h2
      exact ih_1337 _ _ k2 _ _ _ _ hI hP hD hS (lv_sub hl [1, 2, 3, 4, 5, 6, 0] rfl)
end LAWL
