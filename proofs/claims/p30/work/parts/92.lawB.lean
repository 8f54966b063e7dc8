section LAWL
variable {p : Program} {l : Launch} {e : Env} {s : State} {m : MethodId} {below : List Frame} {meth : Method} {c : Code} {dC : Nat → ClassId} {dI : Nat → Nat → Nat} {cI cS : ClassId} {b L : Nat} {xs : Nat → Int32} {ad : Nat → Nat} {a_g a_k : Nat}
set_option maxHeartbeats 32000000 in
set_option maxRecDepth 100000 in
theorem lq_1273 (C0 : lw_At p s m meth c b L xs) (hK : va_K (dC, dI) vwCl (tyW cI cS) s) (hN : Nst s) {r_22_ga : Nat → Int32} {x6_68 : Int32} {r_696 : Int32} {ka_718e : Nat → Int32} {y10_746 : Int32} {ga_746e : Nat → Int32} {SS_746e : SG} (after_1273 : ∀ (w : va_W) (H : Heap) (locs : List Loc) (ls : Array Slot), gI cI cS ad SS_746e w → va_P (dC, dI) vwCl ((a_g, .inl (cI, 38, .inl ga_746e)) :: (a_k, .inl (cI, 38, .inl ka_718e)) :: w) H → va_D (fun q : Nat => s.heap.size ≤ q) ((a_g, .inl (cI, 38, .inl ga_746e)) :: (a_k, .inl (cI, 38, .inl ka_718e)) :: w) → va_S (fun q : Nat => s.heap.size ≤ q) s.heap H locs → lv_has ls 19 [(0, .ref b), (1, .ref (ad 0)), (2, .ref a_g), (3, .ref a_k), (5, .int (r_22_ga 0)), (6, .int x6_68)] → W p l e room_1 s m #[Value.ref b] below meth c H locs 29 472 (lw_Z below #[Value.ref b] s) (F0 m 1334 ls [])) : ∀ (n : Nat) (x13_1273 : Int32), it (u1 (L_L_law_1273 r_22_ga r_696 y10_746 ga_746e SS_746e)) n x13_1273 = some () → ∀ (w : va_W) (H : Heap) (locs : List Loc) (ls : Array Slot), gI cI cS ad SS_746e w → va_P (dC, dI) vwCl ((a_g, .inl (cI, 38, .inl ga_746e)) :: (a_k, .inl (cI, 38, .inl ka_718e)) :: w) H → va_D (fun q : Nat => s.heap.size ≤ q) ((a_g, .inl (cI, 38, .inl ga_746e)) :: (a_k, .inl (cI, 38, .inl ka_718e)) :: w) → va_S (fun q : Nat => s.heap.size ≤ q) s.heap H locs → lv_has ls 19 [(0, .ref b), (1, .ref (ad 0)), (2, .ref a_g), (3, .ref a_k), (5, .int (r_22_ga 0)), (6, .int x6_68), (9, .int r_696), (10, .int y10_746), (12, .int ((-100 : Int32) - y10_746)), (13, .int x13_1273)] → W p l e room_1 s m #[Value.ref b] below meth c H locs 29 472 (lw_Z below #[Value.ref b] s) (F0 m 1273 ls []) := by
  obtain ⟨hx, hb, hr, hml, hown, hts0, hX, hbl, hlocks, hgv⟩ := id C0
  have hts : ∀ w ∈ wsL_law, w.before #[Value.ref b] s = true := fun w h => hts0 w (wsL_law_in w h)
  have hbA : ¬ (fun q : Nat => s.heap.size ≤ q) b := Nat.not_le.mpr hbl
  intro n
  induction n with
  | zero => intro x13_1273 h2 w H locs ls hI hP hD hS hl; exact (it_0 h2).elim
  | succ n ih_1273 =>
    intro x13_1273 h2 w H locs ls hI hP hD hS hl
    obtain ⟨t_1273, h2, k2⟩ := it1_inv h2
    unfold L_L_law_1273 at h2
    refine lv_iload hx hb dL_law_1273 (lv_at hl 9 rfl) ?_
    refine lv_bipush (v := 6) hx hb dL_law_1275 (by decide) ?_
    refine lv_icmp_ge (tgt := 1334) hx hb dL_law_1277 (by decide) (fun c_1277 => ?_) (fun c_1277 => ?_)
    · have h2 := hp_pos c_1277 h2
      cases h2
      exact after_1273 _ _ _ _ hI hP hD hS (lv_sub hl [0, 1, 2, 3, 4, 5] rfl)
    · have h2 := hp_neg c_1277 h2
      refine lv_aload_n hx hb dL_law_1280 rfl (lv_at hl 1 rfl) ?_
      refine lv_iconst (v := 1) hx hb dL_law_1281 (by decide) ?_
      refine lv_iconst (v := 1) hx hb dL_law_1282 (by decide) ?_
      refine lv_iconst (v := 4) hx hb dL_law_1283 (by decide) ?_
      refine lv_iload hx hb dL_law_1284 (lv_at hl 6 rfl) ?_
      refine lv_bipush (v := 10) hx hb dL_law_1286 (by decide) ?_
      refine lv_iload hx hb dL_law_1288 (lv_at hl 9 rfl) ?_
      refine lv_iadd hx hb dL_law_1290 ?_
      obtain ⟨r_1291, e_1291, h2⟩ := ob1_inv h2
      refine k_GVi (pre := [(a_g, .inl (cI, 38, .inl ga_746e)), (a_k, .inl (cI, 38, .inl ka_718e))]) (rest := []) ⟨hx, hb, hml, hown, hts⟩ (A_X4_day l dC dI cI cS ad e_1291) (cwV 5 hts gL_law_X4_day rfl rfl rfl khd_X4_day ⟨(Nat.le_of_ble_eq_true rfl), (Nat.le_of_ble_eq_true rfl)⟩) hK hN hI hP hD hS rfl hl.1 rfl (Nat.le_of_ble_eq_true rfl) dL_law_1291 ⟨(Nat.le_of_ble_eq_true rfl), (Nat.le_of_ble_eq_true rfl)⟩ (fun H locs w hI hP hD hS => ?_)
      have hP : va_P (dC, dI) vwCl ((a_g, .inl (cI, 38, .inl ga_746e)) :: (a_k, .inl (cI, 38, .inl ka_718e)) :: w) H := hP
      have hD : va_D (fun q : Nat => s.heap.size ≤ q) ((a_g, .inl (cI, 38, .inl ga_746e)) :: (a_k, .inl (cI, 38, .inl ka_718e)) :: w) := hD
      refine lv_iload hx hb dL_law_1294 (lv_at hl 7 rfl) ?_
      obtain ⟨u0_1323, i_1323, h2⟩ := ob1_inv h2
      have after_1323 : ∀ (w : va_W) (H : Heap) (locs : List Loc) (ls : Array Slot), gI cI cS ad SS_746e w → va_P (dC, dI) vwCl ((a_g, .inl (cI, 38, .inl ga_746e)) :: (a_k, .inl (cI, 38, .inl ka_718e)) :: w) H → va_D (fun q : Nat => s.heap.size ≤ q) ((a_g, .inl (cI, 38, .inl ga_746e)) :: (a_k, .inl (cI, 38, .inl ka_718e)) :: w) → va_S (fun q : Nat => s.heap.size ≤ q) s.heap H locs → lv_has ls 19 [(0, .ref b), (1, .ref (ad 0)), (2, .ref a_g), (3, .ref a_k), (5, .int (r_22_ga 0)), (6, .int x6_68), (9, .int r_696), (10, .int y10_746), (12, .int ((-100 : Int32) - y10_746)), (13, .int x13_1273)] → W p l e room_1 s m #[Value.ref b] below meth c H locs 29 472 (lw_Z below #[Value.ref b] s) (F0 m 1323 ls [.int u0_1323, .int r_1291]) := by
        intro w H locs ls hI hP hD hS hl
        refine lv_icmp_eq (tgt := 1328) hx hb dL_law_1323 (by decide) (fun c_1323 => ?_) (fun c_1323 => ?_)
        · have h2 := hp_pos c_1323 h2
          refine lv_iinc (v := (x13_1273 + (1 : Int32))) (lv' := [(13, .int (x13_1273 + (1 : Int32))), (0, .ref b), (1, .ref (ad 0)), (2, .ref a_g), (3, .ref a_k), (5, .int (r_22_ga 0)), (6, .int x6_68), (9, .int r_696), (10, .int y10_746), (12, .int ((-100 : Int32) - y10_746))]) hx hb dL_law_1328 hl (k := 9) rfl rfl (by decide) rfl (fun ls hl => ?_)
          refine lv_goto (tgt := 1273) hx hb dL_law_1331 (by decide) ?_
          cases h2
          exact ih_1273 _ k2 _ _ _ _ hI hP hD hS (lv_sub hl [1, 2, 3, 4, 5, 6, 7, 8, 9, 0] rfl)
        · have h2 := hp_neg c_1323 h2
          cases h2
      have h3 := i_1323
      refine lv_if_lt (tgt := 1304) hx hb dL_law_1296 (by decide) (fun c_1296 => ?_) (fun c_1296 => ?_)
      · have h3 := hp_pos c_1296 h3
        refine lv_iload hx hb dL_law_1304 (lv_at hl 9 rfl) ?_
        refine lv_iload hx hb dL_law_1306 (lv_at hl 4 rfl) ?_
        refine lv_icmp_ge (tgt := 1321) hx hb dL_law_1308 (by decide) (fun c_1308 => ?_) (fun c_1308 => ?_)
        · have h3 := hp_pos c_1308 h3
          refine lv_bipush (v := -9) hx hb dL_law_1321 (by decide) ?_
          obtain rfl := Option.some.inj h3
          exact after_1323 _ _ _ _ hI hP hD hS (lv_sub hl [0, 1, 2, 3, 4, 5, 6, 7, 8, 9] rfl)
        · have h3 := hp_neg c_1308 h3
          refine lv_aload_n hx hb dL_law_1311 rfl (lv_at hl 2 rfl) ?_
          refine lv_bipush (v := 8) hx hb dL_law_1312 (by decide) ?_
          refine lv_iload hx hb dL_law_1314 (lv_at hl 9 rfl) ?_
          refine lv_iadd hx hb dL_law_1316 ?_
          have g_1317 := hg_no h3
          have h3 := hg_yes h3
          refine va_iald (D := (dC, dI)) hx hb hK hP 0 0 rfl rfl g_1317 dL_law_1317 ?_
          refine lv_goto (tgt := 1323) hx hb dL_law_1318 (by decide) ?_
          obtain rfl := Option.some.inj h3
          exact after_1323 _ _ _ _ hI hP hD hS (lv_sub hl [0, 1, 2, 3, 4, 5, 6, 7, 8, 9] rfl)
      · have h3 := hp_neg c_1296 h3
        refine lv_iload hx hb dL_law_1299 (lv_at hl 8 rfl) ?_
        refine lv_goto (tgt := 1323) hx hb dL_law_1301 (by decide) ?_
        obtain rfl := Option.some.inj h3
        exact after_1323 _ _ _ _ hI hP hD hS (lv_sub hl [0, 1, 2, 3, 4, 5, 6, 7, 8, 9] rfl)
set_option maxHeartbeats 32000000 in
set_option maxRecDepth 100000 in
theorem lq_1103 (C0 : lw_At p s m meth c b L xs) (hK : va_K (dC, dI) vwCl (tyW cI cS) s) (hN : Nst s) {r_22_ga : Nat → Int32} {x6_68 : Int32} {r_696 : Int32} {ka_718e : Nat → Int32} {y10_746 : Int32} {ga_746e : Nat → Int32} {SS_746e : SG} {y11_1103 : Int32} (after_1103 : ∀ (w : va_W) (H : Heap) (locs : List Loc) (ls : Array Slot), gI cI cS ad SS_746e w → va_P (dC, dI) vwCl ((a_g, .inl (cI, 38, .inl ga_746e)) :: (a_k, .inl (cI, 38, .inl ka_718e)) :: w) H → va_D (fun q : Nat => s.heap.size ≤ q) ((a_g, .inl (cI, 38, .inl ga_746e)) :: (a_k, .inl (cI, 38, .inl ka_718e)) :: w) → va_S (fun q : Nat => s.heap.size ≤ q) s.heap H locs → lv_has ls 19 [(0, .ref b), (1, .ref (ad 0)), (2, .ref a_g), (3, .ref a_k), (5, .int (r_22_ga 0)), (6, .int x6_68), (9, .int r_696), (10, .int y10_746), (11, .int y11_1103)] → W p l e room_1 s m #[Value.ref b] below meth c H locs 29 472 (lw_Z below #[Value.ref b] s) (F0 m 1135 ls [])) : ∀ (n : Nat) (x11_1103 : Int32) (x12_1103 : Int32), it (u2 (L_L_law_1103 r_22_ga ga_746e)) n (x11_1103, x12_1103) = some y11_1103 → ∀ (w : va_W) (H : Heap) (locs : List Loc) (ls : Array Slot), gI cI cS ad SS_746e w → va_P (dC, dI) vwCl ((a_g, .inl (cI, 38, .inl ga_746e)) :: (a_k, .inl (cI, 38, .inl ka_718e)) :: w) H → va_D (fun q : Nat => s.heap.size ≤ q) ((a_g, .inl (cI, 38, .inl ga_746e)) :: (a_k, .inl (cI, 38, .inl ka_718e)) :: w) → va_S (fun q : Nat => s.heap.size ≤ q) s.heap H locs → lv_has ls 19 [(0, .ref b), (1, .ref (ad 0)), (2, .ref a_g), (3, .ref a_k), (5, .int (r_22_ga 0)), (6, .int x6_68), (9, .int r_696), (10, .int y10_746), (11, .int x11_1103), (12, .int x12_1103)] → W p l e room_1 s m #[Value.ref b] below meth c H locs 29 472 (lw_Z below #[Value.ref b] s) (F0 m 1103 ls []) := by
  obtain ⟨hx, hb, hr, hml, hown, hts0, hX, hbl, hlocks, hgv⟩ := id C0
  have hts : ∀ w ∈ wsL_law, w.before #[Value.ref b] s = true := fun w h => hts0 w (wsL_law_in w h)
  have hbA : ¬ (fun q : Nat => s.heap.size ≤ q) b := Nat.not_le.mpr hbl
  intro n
  induction n with
  | zero => intro x11_1103 x12_1103 h2 w H locs ls hI hP hD hS hl; exact (it_0 h2).elim
  | succ n ih_1103 =>
    intro x11_1103 x12_1103 h2 w H locs ls hI hP hD hS hl
    obtain ⟨t_1103, h2, k2⟩ := it2_inv h2
    unfold L_L_law_1103 at h2
    refine lv_iload hx hb dL_law_1103 (lv_at hl 9 rfl) ?_
    refine lv_iload hx hb dL_law_1105 (lv_at hl 4 rfl) ?_
    refine lv_icmp_ge (tgt := 1135) hx hb dL_law_1107 (by decide) (fun c_1107 => ?_) (fun c_1107 => ?_)
    · have h2 := hp_pos c_1107 h2
      cases h2
      obtain rfl := pj1 k2
      exact after_1103 _ _ _ _ hI hP hD hS (lv_sub hl [0, 1, 2, 3, 4, 5, 6, 7, 8] rfl)
    · have h2 := hp_neg c_1107 h2
      refine lv_aload_n hx hb dL_law_1110 rfl (lv_at hl 2 rfl) ?_
      refine lv_iload hx hb dL_law_1111 (lv_at hl 9 rfl) ?_
      obtain ⟨r_1113, e_1113, h2⟩ := ob1_inv h2
      refine k_pSi (rest := []) ⟨hx, hb, hml, hown, hts⟩ (c_L_lock l dC dI cI cS a_g e_1113) (va_cwS 2 hts gL_law_L_lock rfl rfl rfl khd_L_lock.2 ⟨(Nat.le_of_ble_eq_true rfl), (Nat.le_of_ble_eq_true rfl)⟩) hK hN hP hD hS [0] rfl rfl rfl hl.1 rfl (Nat.le_of_ble_eq_true rfl) dL_law_1113 ⟨(Nat.le_of_ble_eq_true rfl), (Nat.le_of_ble_eq_true rfl)⟩ (fun H locs hf_1113 hP hS => ?_)
      have hP : va_P (dC, dI) vwCl ((a_g, .inl (cI, 38, .inl ga_746e)) :: (a_k, .inl (cI, 38, .inl ka_718e)) :: w) H := hP
      refine lv_iload hx hb dL_law_1116 (lv_at hl 8 rfl) ?_
      refine lv_icmp_le (tgt := 1129) hx hb dL_law_1118 (by decide) (fun c_1118 => ?_) (fun c_1118 => ?_)
      · have h2 := hp_pos c_1118 h2
        refine lv_iinc (v := (x12_1103 + (1 : Int32))) (lv' := [(12, .int (x12_1103 + (1 : Int32))), (0, .ref b), (1, .ref (ad 0)), (2, .ref a_g), (3, .ref a_k), (5, .int (r_22_ga 0)), (6, .int x6_68), (9, .int r_696), (10, .int y10_746), (11, .int x11_1103)]) hx hb dL_law_1129 hl (k := 9) rfl rfl (by decide) rfl (fun ls hl => ?_)
        refine lv_goto (tgt := 1103) hx hb dL_law_1132 (by decide) ?_
        cases h2
        exact ih_1103 _ _ k2 _ _ _ _ hI hP hD hS (lv_sub hl [1, 2, 3, 4, 5, 6, 7, 8, 9, 0] rfl)
      · have h2 := hp_neg c_1118 h2
        refine lv_aload_n hx hb dL_law_1121 rfl (lv_at hl 2 rfl) ?_
        refine lv_iload hx hb dL_law_1122 (lv_at hl 9 rfl) ?_
        obtain ⟨r_1124, e_1124, h2⟩ := ob1_inv h2
        refine k_pSi (rest := []) ⟨hx, hb, hml, hown, hts⟩ (c_L_lock l dC dI cI cS a_g e_1124) (va_cwS 2 hts gL_law_L_lock rfl rfl rfl khd_L_lock.2 ⟨(Nat.le_of_ble_eq_true rfl), (Nat.le_of_ble_eq_true rfl)⟩) hK hN hP hD hS [0] rfl rfl rfl hl.1 rfl (Nat.le_of_ble_eq_true rfl) dL_law_1124 ⟨(Nat.le_of_ble_eq_true rfl), (Nat.le_of_ble_eq_true rfl)⟩ (fun H locs hf_1124 hP hS => ?_)
        have hP : va_P (dC, dI) vwCl ((a_g, .inl (cI, 38, .inl ga_746e)) :: (a_k, .inl (cI, 38, .inl ka_718e)) :: w) H := hP
        refine lv_istore (lv' := [(11, .int r_1124), (0, .ref b), (1, .ref (ad 0)), (2, .ref a_g), (3, .ref a_k), (5, .int (r_22_ga 0)), (6, .int x6_68), (9, .int r_696), (10, .int y10_746), (12, .int x12_1103)]) hx hb dL_law_1127 hl (by decide) rfl (fun ls hl => ?_)
        refine lv_iinc (v := (x12_1103 + (1 : Int32))) (lv' := [(12, .int (x12_1103 + (1 : Int32))), (11, .int r_1124), (0, .ref b), (1, .ref (ad 0)), (2, .ref a_g), (3, .ref a_k), (5, .int (r_22_ga 0)), (6, .int x6_68), (9, .int r_696), (10, .int y10_746)]) hx hb dL_law_1129 hl (k := 9) rfl rfl (by decide) rfl (fun ls hl => ?_)
        refine lv_goto (tgt := 1103) hx hb dL_law_1132 (by decide) ?_
        cases h2
        exact ih_1103 _ _ k2 _ _ _ _ hI hP hD hS (lv_sub hl [2, 3, 4, 5, 6, 7, 8, 9, 1, 0] rfl)
set_option maxHeartbeats 32000000 in
set_option maxRecDepth 100000 in
theorem lq_877 (C0 : lw_At p s m meth c b L xs) (hK : va_K (dC, dI) vwCl (tyW cI cS) s) (hN : Nst s) {r_22_ga : Nat → Int32} {x6_68 : Int32} {r_696 : Int32} {ka_718e : Nat → Int32} {x10_746 : Int32} {x11_746 : Int32} {ga_746 : Nat → Int32} {SS_746 : SG} {r_759 : Int32} {v14_853 : Int32} {y13_877 : Int32} {y15_877 : Int32} (after_877 : ∀ (w : va_W) (H : Heap) (locs : List Loc) (ls : Array Slot), gI cI cS ad SS_746 w → va_P (dC, dI) vwCl ((a_g, .inl (cI, 38, .inl ga_746)) :: (a_k, .inl (cI, 38, .inl ka_718e)) :: w) H → va_D (fun q : Nat => s.heap.size ≤ q) ((a_g, .inl (cI, 38, .inl ga_746)) :: (a_k, .inl (cI, 38, .inl ka_718e)) :: w) → va_S (fun q : Nat => s.heap.size ≤ q) s.heap H locs → lv_has ls 19 [(0, .ref b), (1, .ref (ad 0)), (2, .ref a_g), (3, .ref a_k), (5, .int (r_22_ga 0)), (6, .int x6_68), (9, .int r_696), (10, .int x10_746), (11, .int x11_746), (13, .int y13_877), (14, .int v14_853), (15, .int y15_877)] → W p l e room_1 s m #[Value.ref b] below meth c H locs 29 472 (lw_Z below #[Value.ref b] s) (F0 m 963 ls [])) : ∀ (n : Nat) (x13_877 : Int32) (x15_877 : Int32) (x16_877 : Int32), it (u3 (L_L_law_877 r_22_ga x11_746 ga_746 r_759 v14_853)) n (x13_877, x15_877, x16_877) = some (y13_877, y15_877) → ∀ (w : va_W) (H : Heap) (locs : List Loc) (ls : Array Slot), gI cI cS ad SS_746 w → va_P (dC, dI) vwCl ((a_g, .inl (cI, 38, .inl ga_746)) :: (a_k, .inl (cI, 38, .inl ka_718e)) :: w) H → va_D (fun q : Nat => s.heap.size ≤ q) ((a_g, .inl (cI, 38, .inl ga_746)) :: (a_k, .inl (cI, 38, .inl ka_718e)) :: w) → va_S (fun q : Nat => s.heap.size ≤ q) s.heap H locs → lv_has ls 19 [(0, .ref b), (1, .ref (ad 0)), (2, .ref a_g), (3, .ref a_k), (5, .int (r_22_ga 0)), (6, .int x6_68), (9, .int r_696), (10, .int x10_746), (11, .int x11_746), (12, .int (r_759 >>> (x11_746 &&& 31))), (13, .int x13_877), (14, .int v14_853), (15, .int x15_877), (16, .int x16_877)] → W p l e room_1 s m #[Value.ref b] below meth c H locs 29 472 (lw_Z below #[Value.ref b] s) (F0 m 877 ls []) := by
  obtain ⟨hx, hb, hr, hml, hown, hts0, hX, hbl, hlocks, hgv⟩ := id C0
  have hts : ∀ w ∈ wsL_law, w.before #[Value.ref b] s = true := fun w h => hts0 w (wsL_law_in w h)
  have hbA : ¬ (fun q : Nat => s.heap.size ≤ q) b := Nat.not_le.mpr hbl
  intro n
  induction n with
  | zero => intro x13_877 x15_877 x16_877 h3 w H locs ls hI hP hD hS hl; exact (it_0 h3).elim
  | succ n ih_877 =>
    intro x13_877 x15_877 x16_877 h3 w H locs ls hI hP hD hS hl
    obtain ⟨t_877, h3, k3⟩ := it3_inv h3
    unfold L_L_law_877 at h3
    refine lv_iload hx hb dL_law_877 (lv_at hl 13 rfl) ?_
    refine lv_bipush (v := 9) hx hb dL_law_879 (by decide) ?_
    refine lv_icmp_ge (tgt := 963) hx hb dL_law_881 (by decide) (fun c_881 => ?_) (fun c_881 => ?_)
    · have h3 := hp_pos c_881 h3
      cases h3
      obtain ⟨rfl, rfl⟩ := pj2 k3
      exact after_877 _ _ _ _ hI hP hD hS (lv_sub hl [0, 1, 2, 3, 4, 5, 6, 7, 8, 10, 11, 12] rfl)
    · have h3 := hp_neg c_881 h3
      refine lv_iload hx hb dL_law_884 (lv_at hl 9 rfl) ?_
      refine lv_iconst (v := 3) hx hb dL_law_886 (by decide) ?_
      refine lv_ishr hx hb dL_law_887 ?_
      refine lv_bipush (v := 15) hx hb dL_law_888 (by decide) ?_
      obtain ⟨r_890, e_890, h3⟩ := ob1_inv h3
      refine k_pSi (rest := []) ⟨hx, hb, hml, hown, hts⟩ (c_L_some l dC dI cI cS e_890) (va_cwS 2 hts gL_law_L_some rfl rfl rfl khd_L_some.2 ⟨(Nat.le_of_ble_eq_true rfl), (Nat.le_of_ble_eq_true rfl)⟩) hK hN hP hD hS [] rfl rfl rfl hl.1 rfl (Nat.le_of_ble_eq_true rfl) dL_law_890 ⟨(Nat.le_of_ble_eq_true rfl), (Nat.le_of_ble_eq_true rfl)⟩ (fun H locs hf_890 hP hS => ?_)
      have hP : va_P (dC, dI) vwCl ((a_g, .inl (cI, 38, .inl ga_746)) :: (a_k, .inl (cI, 38, .inl ka_718e)) :: w) H := hP
      refine lv_if_le (tgt := 963) hx hb dL_law_893 (by decide) (fun c_893 => ?_) (fun c_893 => ?_)
      · have h3 := hp_pos c_893 h3
        cases h3
        obtain ⟨rfl, rfl⟩ := pj2 k3
        exact after_877 _ _ _ _ hI hP hD hS (lv_sub hl [0, 1, 2, 3, 4, 5, 6, 7, 8, 10, 11, 12] rfl)
      · have h3 := hp_neg c_893 h3
        refine lv_iload hx hb dL_law_896 (lv_at hl 12 rfl) ?_
        refine lv_istore (lv' := [(17, .int x15_877), (0, .ref b), (1, .ref (ad 0)), (2, .ref a_g), (3, .ref a_k), (5, .int (r_22_ga 0)), (6, .int x6_68), (9, .int r_696), (10, .int x10_746), (11, .int x11_746), (12, .int (r_759 >>> (x11_746 &&& 31))), (13, .int x13_877), (14, .int v14_853), (15, .int x15_877), (16, .int x16_877)]) hx hb dL_law_898 hl (by decide) rfl (fun ls hl => ?_)
        refine lv_aload_n hx hb dL_law_900 rfl (lv_at hl 3 rfl) ?_
        refine lv_iload hx hb dL_law_901 (lv_at hl 11 rfl) ?_
        refine lv_iload hx hb dL_law_903 (lv_at hl 12 rfl) ?_
        refine lv_iload hx hb dL_law_905 (lv_at hl 13 rfl) ?_
        obtain ⟨r_907, e_907, h3⟩ := ob1_inv h3
        refine k_pSi (rest := []) ⟨hx, hb, hml, hown, hts⟩ (c_L_can l dC dI cI cS a_g e_907) (va_cwS 4 hts gL_law_L_can rfl rfl rfl khd_L_can.2 ⟨(Nat.le_of_ble_eq_true rfl), (Nat.le_of_ble_eq_true rfl)⟩) hK hN hP hD hS [0] rfl rfl rfl hl.1 rfl (Nat.le_of_ble_eq_true rfl) dL_law_907 ⟨(Nat.le_of_ble_eq_true rfl), (Nat.le_of_ble_eq_true rfl)⟩ (fun H locs hf_907 hP hS => ?_)
        have hP : va_P (dC, dI) vwCl ((a_g, .inl (cI, 38, .inl ga_746)) :: (a_k, .inl (cI, 38, .inl ka_718e)) :: w) H := hP
        refine lv_istore (lv' := [(18, .int r_907), (17, .int x15_877), (0, .ref b), (1, .ref (ad 0)), (2, .ref a_g), (3, .ref a_k), (5, .int (r_22_ga 0)), (6, .int x6_68), (9, .int r_696), (10, .int x10_746), (11, .int x11_746), (12, .int (r_759 >>> (x11_746 &&& 31))), (13, .int x13_877), (14, .int v14_853), (15, .int x15_877), (16, .int x16_877)]) hx hb dL_law_910 hl (by decide) rfl (fun ls hl => ?_)
        refine lv_iload hx hb dL_law_912 (lv_at hl 0 rfl) ?_
        refine lv_if_eq (tgt := 920) hx hb dL_law_914 (by decide) (fun c_914 => ?_) (fun c_914 => ?_)
        · have h3 := hp_pos c_914 h3
          refine lv_iload hx hb dL_law_920 (lv_at hl 12 rfl) ?_
          refine lv_iconst (v := 1) hx hb dL_law_922 (by decide) ?_
          obtain ⟨v15_947, i_947, h3⟩ := ob1_inv h3
          have after_947 : ∀ (w : va_W) (H : Heap) (locs : List Loc) (ls : Array Slot), gI cI cS ad SS_746 w → va_P (dC, dI) vwCl ((a_g, .inl (cI, 38, .inl ga_746)) :: (a_k, .inl (cI, 38, .inl ka_718e)) :: w) H → va_D (fun q : Nat => s.heap.size ≤ q) ((a_g, .inl (cI, 38, .inl ga_746)) :: (a_k, .inl (cI, 38, .inl ka_718e)) :: w) → va_S (fun q : Nat => s.heap.size ≤ q) s.heap H locs → lv_has ls 19 [(0, .ref b), (1, .ref (ad 0)), (2, .ref a_g), (3, .ref a_k), (5, .int (r_22_ga 0)), (6, .int x6_68), (9, .int r_696), (10, .int x10_746), (11, .int x11_746), (12, .int (r_759 >>> (x11_746 &&& 31))), (13, .int x13_877), (14, .int v14_853), (15, .int v15_947), (16, .int x16_877)] → W p l e room_1 s m #[Value.ref b] below meth c H locs 29 472 (lw_Z below #[Value.ref b] s) (F0 m 947 ls []) := by
            intro w H locs ls hI hP hD hS hl
            refine lv_iload hx hb dL_law_947 (lv_at hl 13 rfl) ?_
            refine lv_bipush (v := 6) hx hb dL_law_949 (by decide) ?_
            refine lv_icmp_le (tgt := 957) hx hb dL_law_951 (by decide) (fun c_951 => ?_) (fun c_951 => ?_)
            · have h3 := hp_pos c_951 h3
              refine lv_iinc (v := (x16_877 + (1 : Int32))) (lv' := [(16, .int (x16_877 + (1 : Int32))), (0, .ref b), (1, .ref (ad 0)), (2, .ref a_g), (3, .ref a_k), (5, .int (r_22_ga 0)), (6, .int x6_68), (9, .int r_696), (10, .int x10_746), (11, .int x11_746), (12, .int (r_759 >>> (x11_746 &&& 31))), (13, .int x13_877), (14, .int v14_853), (15, .int v15_947)]) hx hb dL_law_957 hl (k := 13) rfl rfl (by decide) rfl (fun ls hl => ?_)
              refine lv_goto (tgt := 877) hx hb dL_law_960 (by decide) ?_
              cases h3
              exact ih_877 _ _ _ k3 _ _ _ _ hI hP hD hS (lv_sub hl [1, 2, 3, 4, 5, 6, 7, 8, 9, 10, 11, 12, 13, 0] rfl)
            · have h3 := hp_neg c_951 h3
              refine lv_iconst (v := 0) hx hb dL_law_954 (by decide) ?_
              refine lv_istore (lv' := [(13, .int (0 : Int32)), (0, .ref b), (1, .ref (ad 0)), (2, .ref a_g), (3, .ref a_k), (5, .int (r_22_ga 0)), (6, .int x6_68), (9, .int r_696), (10, .int x10_746), (11, .int x11_746), (12, .int (r_759 >>> (x11_746 &&& 31))), (14, .int v14_853), (15, .int v15_947), (16, .int x16_877)]) hx hb dL_law_955 hl (by decide) rfl (fun ls hl => ?_)
              refine lv_iinc (v := (x16_877 + (1 : Int32))) (lv' := [(16, .int (x16_877 + (1 : Int32))), (13, .int (0 : Int32)), (0, .ref b), (1, .ref (ad 0)), (2, .ref a_g), (3, .ref a_k), (5, .int (r_22_ga 0)), (6, .int x6_68), (9, .int r_696), (10, .int x10_746), (11, .int x11_746), (12, .int (r_759 >>> (x11_746 &&& 31))), (14, .int v14_853), (15, .int v15_947)]) hx hb dL_law_957 hl (k := 13) rfl rfl (by decide) rfl (fun ls hl => ?_)
              refine lv_goto (tgt := 877) hx hb dL_law_960 (by decide) ?_
              cases h3
              exact ih_877 _ _ _ k3 _ _ _ _ hI hP hD hS (lv_sub hl [2, 3, 4, 5, 6, 7, 8, 9, 10, 11, 1, 12, 13, 0] rfl)
          have h4 := i_947
          refine lv_icmp_ne (tgt := 933) hx hb dL_law_923 (by decide) (fun c_923 => ?_) (fun c_923 => ?_)
          · have h4 := hp_neg c_923 h4
            refine lv_iload hx hb dL_law_933 (lv_at hl 1 rfl) ?_
            refine lv_iconst (v := 1) hx hb dL_law_935 (by decide) ?_
            refine lv_iadd hx hb dL_law_936 ?_
            refine lv_iload hx hb dL_law_937 (lv_at hl 15 rfl) ?_
            refine lv_iadd hx hb dL_law_939 ?_
            refine lv_iload hx hb dL_law_940 (lv_at hl 6 rfl) ?_
            obtain ⟨r_942, e_942, h4⟩ := ob1_inv h4
            refine k_pSi (rest := []) ⟨hx, hb, hml, hown, hts⟩ (c_L_some l dC dI cI cS e_942) (va_cwS 2 hts gL_law_L_some rfl rfl rfl khd_L_some.2 ⟨(Nat.le_of_ble_eq_true rfl), (Nat.le_of_ble_eq_true rfl)⟩) hK hN hP hD hS [] rfl rfl rfl hl.1 rfl (Nat.le_of_ble_eq_true rfl) dL_law_942 ⟨(Nat.le_of_ble_eq_true rfl), (Nat.le_of_ble_eq_true rfl)⟩ (fun H locs hf_942 hP hS => ?_)
            have hP : va_P (dC, dI) vwCl ((a_g, .inl (cI, 38, .inl ga_746)) :: (a_k, .inl (cI, 38, .inl ka_718e)) :: w) H := hP
            refine lv_istore (lv' := [(15, .int r_942), (18, .int r_907), (17, .int x15_877), (0, .ref b), (1, .ref (ad 0)), (2, .ref a_g), (3, .ref a_k), (5, .int (r_22_ga 0)), (6, .int x6_68), (9, .int r_696), (10, .int x10_746), (11, .int x11_746), (12, .int (r_759 >>> (x11_746 &&& 31))), (13, .int x13_877), (14, .int v14_853), (16, .int x16_877)]) hx hb dL_law_945 hl (by decide) rfl (fun ls hl => ?_)
            obtain rfl := Option.some.inj h4
            exact after_947 _ _ _ _ hI hP hD hS (lv_sub hl [3, 4, 5, 6, 7, 8, 9, 10, 11, 12, 13, 14, 0, 15] rfl)
          · have h4 := hp_pos c_923 h4
            refine lv_iload hx hb dL_law_926 (lv_at hl 15 rfl) ?_
            refine lv_bipush (v := 6) hx hb dL_law_928 (by decide) ?_
            refine lv_icmp_ge (tgt := 947) hx hb dL_law_930 (by decide) (fun c_930 => ?_) (fun c_930 => ?_)
            · have h4 := hp_pos c_930 h4
              obtain rfl := Option.some.inj h4
              exact after_947 _ _ _ _ hI hP hD hS (lv_sub hl [2, 3, 4, 5, 6, 7, 8, 9, 10, 11, 12, 13, 14, 15] rfl)
            · have h4 := hp_neg c_930 h4
              refine lv_iload hx hb dL_law_933 (lv_at hl 1 rfl) ?_
              refine lv_iconst (v := 1) hx hb dL_law_935 (by decide) ?_
              refine lv_iadd hx hb dL_law_936 ?_
              refine lv_iload hx hb dL_law_937 (lv_at hl 15 rfl) ?_
              refine lv_iadd hx hb dL_law_939 ?_
              refine lv_iload hx hb dL_law_940 (lv_at hl 6 rfl) ?_
              obtain ⟨r_942, e_942, h4⟩ := ob1_inv h4
              refine k_pSi (rest := []) ⟨hx, hb, hml, hown, hts⟩ (c_L_some l dC dI cI cS e_942) (va_cwS 2 hts gL_law_L_some rfl rfl rfl khd_L_some.2 ⟨(Nat.le_of_ble_eq_true rfl), (Nat.le_of_ble_eq_true rfl)⟩) hK hN hP hD hS [] rfl rfl rfl hl.1 rfl (Nat.le_of_ble_eq_true rfl) dL_law_942 ⟨(Nat.le_of_ble_eq_true rfl), (Nat.le_of_ble_eq_true rfl)⟩ (fun H locs hf_942 hP hS => ?_)
              have hP : va_P (dC, dI) vwCl ((a_g, .inl (cI, 38, .inl ga_746)) :: (a_k, .inl (cI, 38, .inl ka_718e)) :: w) H := hP
              refine lv_istore (lv' := [(15, .int r_942), (18, .int r_907), (17, .int x15_877), (0, .ref b), (1, .ref (ad 0)), (2, .ref a_g), (3, .ref a_k), (5, .int (r_22_ga 0)), (6, .int x6_68), (9, .int r_696), (10, .int x10_746), (11, .int x11_746), (12, .int (r_759 >>> (x11_746 &&& 31))), (13, .int x13_877), (14, .int v14_853), (16, .int x16_877)]) hx hb dL_law_945 hl (by decide) rfl (fun ls hl => ?_)
              obtain rfl := Option.some.inj h4
              exact after_947 _ _ _ _ hI hP hD hS (lv_sub hl [3, 4, 5, 6, 7, 8, 9, 10, 11, 12, 13, 14, 0, 15] rfl)
        · have h3 := hp_neg c_914 h3
          refine lv_goto (tgt := 963) hx hb dL_law_917 (by decide) ?_
          cases h3
          obtain ⟨rfl, rfl⟩ := pj2 k3
          exact after_877 _ _ _ _ hI hP hD hS (lv_sub hl [2, 3, 4, 5, 6, 7, 8, 9, 10, 12, 13, 14] rfl)
end LAWL
