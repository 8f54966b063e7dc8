section LAWL
variable {p : Program} {l : Launch} {e : Env} {s : State} {m : MethodId} {below : List Frame} {meth : Method} {c : Code} {dC : Nat → ClassId} {dI : Nat → Nat → Nat} {cI cS : ClassId} {b L : Nat} {xs : Nat → Int32} {ad : Nat → Nat} {a_g a_k : Nat}
set_option maxHeartbeats 32000000 in
set_option maxRecDepth 100000 in
theorem lq_125 (C0 : lw_At p s m meth c b L xs) (hK : va_K (dC, dI) vwCl (tyW cI cS) s) (hN : Nst s) {r_22_ga : Nat → Int32} {x6_68 : Int32} {ka_68 : Nat → Int32} {ga_99j : Nat → Int32} {SS_99j : SG} {r_105 : Int32} {r_114 : Int32} (after_125 : ∀ (w : va_W) (H : Heap) (locs : List Loc) (ls : Array Slot), gI cI cS ad SS_99j w → va_P (dC, dI) vwCl ((a_g, .inl (cI, 38, .inl ga_99j)) :: (a_k, .inl (cI, 38, .inl ka_68)) :: w) H → va_D (fun q : Nat => s.heap.size ≤ q) ((a_g, .inl (cI, 38, .inl ga_99j)) :: (a_k, .inl (cI, 38, .inl ka_68)) :: w) → va_S (fun q : Nat => s.heap.size ≤ q) s.heap H locs → lv_has ls 19 [(0, .ref b), (1, .ref (ad 0)), (2, .ref a_g), (3, .ref a_k), (5, .int (r_22_ga 0)), (6, .int x6_68), (7, .int r_105), (8, .int (r_114 - (64 : Int32)))] → W p l e room_1 s m #[Value.ref b] below meth c H locs 29 472 (lw_Z below #[Value.ref b] s) (F0 m 623 ls [])) : ∀ (n : Nat) (x9_125 : Int32), it (u1 (L_L_law_125 r_22_ga ga_99j SS_99j r_114)) n x9_125 = some () → ∀ (w : va_W) (H : Heap) (locs : List Loc) (ls : Array Slot), gI cI cS ad SS_99j w → va_P (dC, dI) vwCl ((a_g, .inl (cI, 38, .inl ga_99j)) :: (a_k, .inl (cI, 38, .inl ka_68)) :: w) H → va_D (fun q : Nat => s.heap.size ≤ q) ((a_g, .inl (cI, 38, .inl ga_99j)) :: (a_k, .inl (cI, 38, .inl ka_68)) :: w) → va_S (fun q : Nat => s.heap.size ≤ q) s.heap H locs → lv_has ls 19 [(0, .ref b), (1, .ref (ad 0)), (2, .ref a_g), (3, .ref a_k), (5, .int (r_22_ga 0)), (6, .int x6_68), (7, .int r_105), (8, .int (r_114 - (64 : Int32))), (9, .int x9_125)] → W p l e room_1 s m #[Value.ref b] below meth c H locs 29 472 (lw_Z below #[Value.ref b] s) (F0 m 125 ls []) := by
  obtain ⟨hx, hb, hr, hml, hown, hts0, hX, hbl, hlocks, hgv⟩ := id C0
  have hts : ∀ w ∈ wsL_law, w.before #[Value.ref b] s = true := fun w h => hts0 w (wsL_law_in w h)
  have hbA : ¬ (fun q : Nat => s.heap.size ≤ q) b := Nat.not_le.mpr hbl
  intro n
  induction n with
  | zero => intro x9_125 h2 w H locs ls hI hP hD hS hl; exact (it_0 h2).elim
  | succ n ih_125 =>
    intro x9_125 h2 w H locs ls hI hP hD hS hl
    obtain ⟨t_125, h2, k2⟩ := it1_inv h2
    unfold L_L_law_125 at h2
    refine lv_iload hx hb dL_law_125 (lv_at hl 8 rfl) ?_
    refine lv_iload hx hb dL_law_127 (lv_at hl 4 rfl) ?_
    refine lv_icmp_ge (tgt := 623) hx hb dL_law_129 (by decide) (fun c_129 => ?_) (fun c_129 => ?_)
    · have h2 := hp_pos c_129 h2
      cases h2
      exact after_125 _ _ _ _ hI hP hD hS (lv_sub hl [0, 1, 2, 3, 4, 5, 6, 7] rfl)
    · have h2 := hp_neg c_129 h2
      refine lv_iconst (v := 0) hx hb dL_law_132 (by decide) ?_
      refine lv_istore (lv' := [(10, .int (0 : Int32)), (0, .ref b), (1, .ref (ad 0)), (2, .ref a_g), (3, .ref a_k), (5, .int (r_22_ga 0)), (6, .int x6_68), (7, .int r_105), (8, .int (r_114 - (64 : Int32))), (9, .int x9_125)]) hx hb dL_law_133 hl (by decide) rfl (fun ls hl => ?_)
      refine lv_iconst (v := 0) hx hb dL_law_135 (by decide) ?_
      refine lv_istore (lv' := [(11, .int (0 : Int32)), (10, .int (0 : Int32)), (0, .ref b), (1, .ref (ad 0)), (2, .ref a_g), (3, .ref a_k), (5, .int (r_22_ga 0)), (6, .int x6_68), (7, .int r_105), (8, .int (r_114 - (64 : Int32))), (9, .int x9_125)]) hx hb dL_law_136 hl (by decide) rfl (fun ls hl => ?_)
      obtain ⟨y10_138, i_138, h2⟩ := ob1_inv h2
      have after_138 : ∀ (w : va_W) (H : Heap) (locs : List Loc) (ls : Array Slot), gI cI cS ad SS_99j w → va_P (dC, dI) vwCl ((a_g, .inl (cI, 38, .inl ga_99j)) :: (a_k, .inl (cI, 38, .inl ka_68)) :: w) H → va_D (fun q : Nat => s.heap.size ≤ q) ((a_g, .inl (cI, 38, .inl ga_99j)) :: (a_k, .inl (cI, 38, .inl ka_68)) :: w) → va_S (fun q : Nat => s.heap.size ≤ q) s.heap H locs → lv_has ls 19 [(0, .ref b), (1, .ref (ad 0)), (2, .ref a_g), (3, .ref a_k), (5, .int (r_22_ga 0)), (6, .int x6_68), (7, .int r_105), (8, .int (r_114 - (64 : Int32))), (9, .int x9_125), (10, .int y10_138)] → W p l e room_1 s m #[Value.ref b] below meth c H locs 29 472 (lw_Z below #[Value.ref b] s) (F0 m 178 ls []) := by
        intro w H locs ls hI hP hD hS hl
        refine lv_aload_n hx hb dL_law_178 rfl (lv_at hl 2 rfl) ?_
        refine lv_iload hx hb dL_law_179 (lv_at hl 8 rfl) ?_
        obtain ⟨r_181, e_181, h2⟩ := ob1_inv h2
        refine k_pSi (rest := []) ⟨hx, hb, hml, hown, hts⟩ (c_L_before l dC dI cI cS a_g e_181) (va_cwS 2 hts gL_law_L_before rfl rfl rfl khd_L_before.2 ⟨(Nat.le_of_ble_eq_true rfl), (Nat.le_of_ble_eq_true rfl)⟩) hK hN hP hD hS [0] rfl rfl rfl hl.1 rfl (Nat.le_of_ble_eq_true rfl) dL_law_181 ⟨(Nat.le_of_ble_eq_true rfl), (Nat.le_of_ble_eq_true rfl)⟩ (fun H locs hf_181 hP hS => ?_)
        have hP : va_P (dC, dI) vwCl ((a_g, .inl (cI, 38, .inl ga_99j)) :: (a_k, .inl (cI, 38, .inl ka_68)) :: w) H := hP
        refine lv_istore (lv' := [(11, .int r_181), (0, .ref b), (1, .ref (ad 0)), (2, .ref a_g), (3, .ref a_k), (5, .int (r_22_ga 0)), (6, .int x6_68), (7, .int r_105), (8, .int (r_114 - (64 : Int32))), (9, .int x9_125), (10, .int y10_138)]) hx hb dL_law_184 hl (by decide) rfl (fun ls hl => ?_)
        refine lv_bipush (v := 6) hx hb dL_law_186 (by decide) ?_
        refine lv_istore (lv' := [(12, .int (6 : Int32)), (11, .int r_181), (0, .ref b), (1, .ref (ad 0)), (2, .ref a_g), (3, .ref a_k), (5, .int (r_22_ga 0)), (6, .int x6_68), (7, .int r_105), (8, .int (r_114 - (64 : Int32))), (9, .int x9_125), (10, .int y10_138)]) hx hb dL_law_188 hl (by decide) rfl (fun ls hl => ?_)
        refine lv_iconst (v := 0) hx hb dL_law_190 (by decide) ?_
        refine lv_istore (lv' := [(13, .int (0 : Int32)), (12, .int (6 : Int32)), (11, .int r_181), (0, .ref b), (1, .ref (ad 0)), (2, .ref a_g), (3, .ref a_k), (5, .int (r_22_ga 0)), (6, .int x6_68), (7, .int r_105), (8, .int (r_114 - (64 : Int32))), (9, .int x9_125), (10, .int y10_138)]) hx hb dL_law_191 hl (by decide) rfl (fun ls hl => ?_)
        obtain ⟨y12_193, i_193, h2⟩ := ob1_inv h2
        have after_193 : ∀ (w : va_W) (H : Heap) (locs : List Loc) (ls : Array Slot), gI cI cS ad SS_99j w → va_P (dC, dI) vwCl ((a_g, .inl (cI, 38, .inl ga_99j)) :: (a_k, .inl (cI, 38, .inl ka_68)) :: w) H → va_D (fun q : Nat => s.heap.size ≤ q) ((a_g, .inl (cI, 38, .inl ga_99j)) :: (a_k, .inl (cI, 38, .inl ka_68)) :: w) → va_S (fun q : Nat => s.heap.size ≤ q) s.heap H locs → lv_has ls 19 [(0, .ref b), (1, .ref (ad 0)), (2, .ref a_g), (3, .ref a_k), (5, .int (r_22_ga 0)), (6, .int x6_68), (7, .int r_105), (8, .int (r_114 - (64 : Int32))), (9, .int x9_125), (10, .int y10_138), (11, .int r_181), (12, .int y12_193)] → W p l e room_1 s m #[Value.ref b] below meth c H locs 29 472 (lw_Z below #[Value.ref b] s) (F0 m 258 ls []) := by
          intro w H locs ls hI hP hD hS hl
          refine lv_aload_n hx hb dL_law_258 rfl (lv_at hl 2 rfl) ?_
          refine lv_iload hx hb dL_law_259 (lv_at hl 8 rfl) ?_
          refine lv_iconst (v := -1) hx hb dL_law_261 (by decide) ?_
          obtain ⟨r_262, e_262, h2⟩ := ob1_inv h2
          refine k_pSi (rest := []) ⟨hx, hb, hml, hown, hts⟩ (c_L_come l dC dI cI cS a_g e_262) (va_cwS 3 hts gL_law_L_come rfl rfl rfl khd_L_come.2 ⟨(Nat.le_of_ble_eq_true rfl), (Nat.le_of_ble_eq_true rfl)⟩) hK hN hP hD hS [0] rfl rfl rfl hl.1 rfl (Nat.le_of_ble_eq_true rfl) dL_law_262 ⟨(Nat.le_of_ble_eq_true rfl), (Nat.le_of_ble_eq_true rfl)⟩ (fun H locs hf_262 hP hS => ?_)
          have hP : va_P (dC, dI) vwCl ((a_g, .inl (cI, 38, .inl ga_99j)) :: (a_k, .inl (cI, 38, .inl ka_68)) :: w) H := hP
          refine lv_istore (lv' := [(13, .int r_262), (0, .ref b), (1, .ref (ad 0)), (2, .ref a_g), (3, .ref a_k), (5, .int (r_22_ga 0)), (6, .int x6_68), (7, .int r_105), (8, .int (r_114 - (64 : Int32))), (9, .int x9_125), (10, .int y10_138), (11, .int r_181), (12, .int y12_193)]) hx hb dL_law_265 hl (by decide) rfl (fun ls hl => ?_)
          refine lv_iconst (v := 1) hx hb dL_law_267 (by decide) ?_
          refine lv_istore (lv' := [(14, .int (1 : Int32)), (13, .int r_262), (0, .ref b), (1, .ref (ad 0)), (2, .ref a_g), (3, .ref a_k), (5, .int (r_22_ga 0)), (6, .int x6_68), (7, .int r_105), (8, .int (r_114 - (64 : Int32))), (9, .int x9_125), (10, .int y10_138), (11, .int r_181), (12, .int y12_193)]) hx hb dL_law_268 hl (by decide) rfl (fun ls hl => ?_)
          refine lv_iconst (v := 0) hx hb dL_law_270 (by decide) ?_
          refine lv_istore (lv' := [(15, .int (0 : Int32)), (14, .int (1 : Int32)), (13, .int r_262), (0, .ref b), (1, .ref (ad 0)), (2, .ref a_g), (3, .ref a_k), (5, .int (r_22_ga 0)), (6, .int x6_68), (7, .int r_105), (8, .int (r_114 - (64 : Int32))), (9, .int x9_125), (10, .int y10_138), (11, .int r_181), (12, .int y12_193)]) hx hb dL_law_271 hl (by decide) rfl (fun ls hl => ?_)
          obtain ⟨y14_273, i_273, h2⟩ := ob1_inv h2
          have after_273 : ∀ (w : va_W) (H : Heap) (locs : List Loc) (ls : Array Slot), gI cI cS ad SS_99j w → va_P (dC, dI) vwCl ((a_g, .inl (cI, 38, .inl ga_99j)) :: (a_k, .inl (cI, 38, .inl ka_68)) :: w) H → va_D (fun q : Nat => s.heap.size ≤ q) ((a_g, .inl (cI, 38, .inl ga_99j)) :: (a_k, .inl (cI, 38, .inl ka_68)) :: w) → va_S (fun q : Nat => s.heap.size ≤ q) s.heap H locs → lv_has ls 19 [(0, .ref b), (1, .ref (ad 0)), (2, .ref a_g), (3, .ref a_k), (5, .int (r_22_ga 0)), (6, .int x6_68), (7, .int r_105), (8, .int (r_114 - (64 : Int32))), (9, .int x9_125), (10, .int y10_138), (11, .int r_181), (12, .int y12_193), (13, .int r_262), (14, .int y14_273)] → W p l e room_1 s m #[Value.ref b] below meth c H locs 29 472 (lw_Z below #[Value.ref b] s) (F0 m 333 ls []) := by
            intro w H locs ls hI hP hD hS hl
            refine lv_aload_n hx hb dL_law_333 rfl (lv_at hl 1 rfl) ?_
            refine lv_iload hx hb dL_law_334 (lv_at hl 8 rfl) ?_
            refine lv_iconst (v := 0) hx hb dL_law_336 (by decide) ?_
            obtain ⟨r_337, e_337, h2⟩ := ob1_inv h2
            refine k_GVi (pre := [(a_g, .inl (cI, 38, .inl ga_99j)), (a_k, .inl (cI, 38, .inl ka_68))]) (rest := []) ⟨hx, hb, hml, hown, hts⟩ (A_X4_ofThing l dC dI cI cS ad e_337) (cwV 2 hts gL_law_X4_ofThing rfl rfl rfl khd_X4_ofThing ⟨(Nat.le_of_ble_eq_true rfl), (Nat.le_of_ble_eq_true rfl)⟩) hK hN hI hP hD hS rfl hl.1 rfl (Nat.le_of_ble_eq_true rfl) dL_law_337 ⟨(Nat.le_of_ble_eq_true rfl), (Nat.le_of_ble_eq_true rfl)⟩ (fun H locs w hI hP hD hS => ?_)
            have hP : va_P (dC, dI) vwCl ((a_g, .inl (cI, 38, .inl ga_99j)) :: (a_k, .inl (cI, 38, .inl ka_68)) :: w) H := hP
            have hD : va_D (fun q : Nat => s.heap.size ≤ q) ((a_g, .inl (cI, 38, .inl ga_99j)) :: (a_k, .inl (cI, 38, .inl ka_68)) :: w) := hD
            refine lv_aload_n hx hb dL_law_340 rfl (lv_at hl 2 rfl) ?_
            refine lv_iconst (v := 2) hx hb dL_law_341 (by decide) ?_
            refine lv_iload hx hb dL_law_342 (lv_at hl 8 rfl) ?_
            refine lv_iadd hx hb dL_law_344 ?_
            have g_345 := hg_no h2
            have h2 := hg_yes h2
            refine va_iald (D := (dC, dI)) hx hb hK hP 0 0 rfl rfl g_345 dL_law_345 ?_
            refine lv_icmp_ne (tgt := 512) hx hb dL_law_346 (by decide) (fun c_346 => ?_) (fun c_346 => ?_)
            · have h2 := hp_neg c_346 h2
              cases h2
            · have h2 := hp_pos c_346 h2
              refine lv_aload_n hx hb dL_law_349 rfl (lv_at hl 1 rfl) ?_
              refine lv_iload hx hb dL_law_350 (lv_at hl 8 rfl) ?_
              refine lv_iconst (v := 1) hx hb dL_law_352 (by decide) ?_
              obtain ⟨r_353, e_353, h2⟩ := ob1_inv h2
              refine k_GVi (pre := [(a_g, .inl (cI, 38, .inl ga_99j)), (a_k, .inl (cI, 38, .inl ka_68))]) (rest := []) ⟨hx, hb, hml, hown, hts⟩ (A_X4_ofThing l dC dI cI cS ad e_353) (cwV 2 hts gL_law_X4_ofThing rfl rfl rfl khd_X4_ofThing ⟨(Nat.le_of_ble_eq_true rfl), (Nat.le_of_ble_eq_true rfl)⟩) hK hN hI hP hD hS rfl hl.1 rfl (Nat.le_of_ble_eq_true rfl) dL_law_353 ⟨(Nat.le_of_ble_eq_true rfl), (Nat.le_of_ble_eq_true rfl)⟩ (fun H locs w hI hP hD hS => ?_)
              have hP : va_P (dC, dI) vwCl ((a_g, .inl (cI, 38, .inl ga_99j)) :: (a_k, .inl (cI, 38, .inl ka_68)) :: w) H := hP
              have hD : va_D (fun q : Nat => s.heap.size ≤ q) ((a_g, .inl (cI, 38, .inl ga_99j)) :: (a_k, .inl (cI, 38, .inl ka_68)) :: w) := hD
              refine lv_aload_n hx hb dL_law_356 rfl (lv_at hl 2 rfl) ?_
              refine lv_bipush (v := 8) hx hb dL_law_357 (by decide) ?_
              refine lv_iload hx hb dL_law_359 (lv_at hl 8 rfl) ?_
              refine lv_iadd hx hb dL_law_361 ?_
              have g_362 := hg_no h2
              have h2 := hg_yes h2
              refine va_iald (D := (dC, dI)) hx hb hK hP 0 0 rfl rfl g_362 dL_law_362 ?_
              refine lv_icmp_ne (tgt := 512) hx hb dL_law_363 (by decide) (fun c_363 => ?_) (fun c_363 => ?_)
              · have h2 := hp_neg c_363 h2
                cases h2
              · have h2 := hp_pos c_363 h2
                refine lv_aload_n hx hb dL_law_366 rfl (lv_at hl 1 rfl) ?_
                refine lv_iload hx hb dL_law_367 (lv_at hl 8 rfl) ?_
                refine lv_iconst (v := 2) hx hb dL_law_369 (by decide) ?_
                obtain ⟨r_370, e_370, h2⟩ := ob1_inv h2
                refine k_GVi (pre := [(a_g, .inl (cI, 38, .inl ga_99j)), (a_k, .inl (cI, 38, .inl ka_68))]) (rest := []) ⟨hx, hb, hml, hown, hts⟩ (A_X4_ofThing l dC dI cI cS ad e_370) (cwV 2 hts gL_law_X4_ofThing rfl rfl rfl khd_X4_ofThing ⟨(Nat.le_of_ble_eq_true rfl), (Nat.le_of_ble_eq_true rfl)⟩) hK hN hI hP hD hS rfl hl.1 rfl (Nat.le_of_ble_eq_true rfl) dL_law_370 ⟨(Nat.le_of_ble_eq_true rfl), (Nat.le_of_ble_eq_true rfl)⟩ (fun H locs w hI hP hD hS => ?_)
                have hP : va_P (dC, dI) vwCl ((a_g, .inl (cI, 38, .inl ga_99j)) :: (a_k, .inl (cI, 38, .inl ka_68)) :: w) H := hP
                have hD : va_D (fun q : Nat => s.heap.size ≤ q) ((a_g, .inl (cI, 38, .inl ga_99j)) :: (a_k, .inl (cI, 38, .inl ka_68)) :: w) := hD
                refine lv_aload_n hx hb dL_law_373 rfl (lv_at hl 2 rfl) ?_
                refine lv_iload hx hb dL_law_374 (lv_at hl 8 rfl) ?_
                obtain ⟨r_376, e_376, h2⟩ := ob1_inv h2
                refine k_pSi (rest := [.int r_370]) ⟨hx, hb, hml, hown, hts⟩ (c_L_level l dC dI cI cS a_g e_376) (va_cwS 2 hts gL_law_L_level rfl rfl rfl khd_L_level.2 ⟨(Nat.le_of_ble_eq_true rfl), (Nat.le_of_ble_eq_true rfl)⟩) hK hN hP hD hS [0] rfl rfl rfl hl.1 rfl (Nat.le_of_ble_eq_true rfl) dL_law_376 ⟨(Nat.le_of_ble_eq_true rfl), (Nat.le_of_ble_eq_true rfl)⟩ (fun H locs hf_376 hP hS => ?_)
                have hP : va_P (dC, dI) vwCl ((a_g, .inl (cI, 38, .inl ga_99j)) :: (a_k, .inl (cI, 38, .inl ka_68)) :: w) H := hP
                refine lv_icmp_ne (tgt := 512) hx hb dL_law_379 (by decide) (fun c_379 => ?_) (fun c_379 => ?_)
                · have h2 := hp_neg c_379 h2
                  cases h2
                · have h2 := hp_pos c_379 h2
                  refine lv_aload_n hx hb dL_law_382 rfl (lv_at hl 1 rfl) ?_
                  refine lv_iload hx hb dL_law_383 (lv_at hl 8 rfl) ?_
                  refine lv_iconst (v := 3) hx hb dL_law_385 (by decide) ?_
                  obtain ⟨r_386, e_386, h2⟩ := ob1_inv h2
                  refine k_GVi (pre := [(a_g, .inl (cI, 38, .inl ga_99j)), (a_k, .inl (cI, 38, .inl ka_68))]) (rest := []) ⟨hx, hb, hml, hown, hts⟩ (A_X4_ofThing l dC dI cI cS ad e_386) (cwV 2 hts gL_law_X4_ofThing rfl rfl rfl khd_X4_ofThing ⟨(Nat.le_of_ble_eq_true rfl), (Nat.le_of_ble_eq_true rfl)⟩) hK hN hI hP hD hS rfl hl.1 rfl (Nat.le_of_ble_eq_true rfl) dL_law_386 ⟨(Nat.le_of_ble_eq_true rfl), (Nat.le_of_ble_eq_true rfl)⟩ (fun H locs w hI hP hD hS => ?_)
                  have hP : va_P (dC, dI) vwCl ((a_g, .inl (cI, 38, .inl ga_99j)) :: (a_k, .inl (cI, 38, .inl ka_68)) :: w) H := hP
                  have hD : va_D (fun q : Nat => s.heap.size ≤ q) ((a_g, .inl (cI, 38, .inl ga_99j)) :: (a_k, .inl (cI, 38, .inl ka_68)) :: w) := hD
                  refine lv_aload_n hx hb dL_law_389 rfl (lv_at hl 2 rfl) ?_
                  refine lv_iload hx hb dL_law_390 (lv_at hl 8 rfl) ?_
                  obtain ⟨r_392, e_392, h2⟩ := ob1_inv h2
                  refine k_pSi (rest := [.int r_386]) ⟨hx, hb, hml, hown, hts⟩ (c_L_lock l dC dI cI cS a_g e_392) (va_cwS 2 hts gL_law_L_lock rfl rfl rfl khd_L_lock.2 ⟨(Nat.le_of_ble_eq_true rfl), (Nat.le_of_ble_eq_true rfl)⟩) hK hN hP hD hS [0] rfl rfl rfl hl.1 rfl (Nat.le_of_ble_eq_true rfl) dL_law_392 ⟨(Nat.le_of_ble_eq_true rfl), (Nat.le_of_ble_eq_true rfl)⟩ (fun H locs hf_392 hP hS => ?_)
                  have hP : va_P (dC, dI) vwCl ((a_g, .inl (cI, 38, .inl ga_99j)) :: (a_k, .inl (cI, 38, .inl ka_68)) :: w) H := hP
                  refine lv_icmp_ne (tgt := 512) hx hb dL_law_395 (by decide) (fun c_395 => ?_) (fun c_395 => ?_)
                  · have h2 := hp_neg c_395 h2
                    cases h2
                  · have h2 := hp_pos c_395 h2
                    refine lv_aload_n hx hb dL_law_398 rfl (lv_at hl 1 rfl) ?_
                    refine lv_iload hx hb dL_law_399 (lv_at hl 8 rfl) ?_
                    refine lv_iconst (v := 4) hx hb dL_law_401 (by decide) ?_
                    obtain ⟨r_402, e_402, h2⟩ := ob1_inv h2
                    refine k_GVi (pre := [(a_g, .inl (cI, 38, .inl ga_99j)), (a_k, .inl (cI, 38, .inl ka_68))]) (rest := []) ⟨hx, hb, hml, hown, hts⟩ (A_X4_ofThing l dC dI cI cS ad e_402) (cwV 2 hts gL_law_X4_ofThing rfl rfl rfl khd_X4_ofThing ⟨(Nat.le_of_ble_eq_true rfl), (Nat.le_of_ble_eq_true rfl)⟩) hK hN hI hP hD hS rfl hl.1 rfl (Nat.le_of_ble_eq_true rfl) dL_law_402 ⟨(Nat.le_of_ble_eq_true rfl), (Nat.le_of_ble_eq_true rfl)⟩ (fun H locs w hI hP hD hS => ?_)
                    have hP : va_P (dC, dI) vwCl ((a_g, .inl (cI, 38, .inl ga_99j)) :: (a_k, .inl (cI, 38, .inl ka_68)) :: w) H := hP
                    have hD : va_D (fun q : Nat => s.heap.size ≤ q) ((a_g, .inl (cI, 38, .inl ga_99j)) :: (a_k, .inl (cI, 38, .inl ka_68)) :: w) := hD
                    refine lv_iload hx hb dL_law_405 (lv_at hl 9 rfl) ?_
                    refine lv_icmp_ne (tgt := 512) hx hb dL_law_407 (by decide) (fun c_407 => ?_) (fun c_407 => ?_)
                    · have h2 := hp_neg c_407 h2
                      cases h2
                    · have h2 := hp_pos c_407 h2
                      refine lv_aload_n hx hb dL_law_410 rfl (lv_at hl 1 rfl) ?_
                      refine lv_iload hx hb dL_law_411 (lv_at hl 8 rfl) ?_
                      refine lv_iconst (v := 5) hx hb dL_law_413 (by decide) ?_
                      obtain ⟨r_414, e_414, h2⟩ := ob1_inv h2
                      refine k_GVi (pre := [(a_g, .inl (cI, 38, .inl ga_99j)), (a_k, .inl (cI, 38, .inl ka_68))]) (rest := []) ⟨hx, hb, hml, hown, hts⟩ (A_X4_ofThing l dC dI cI cS ad e_414) (cwV 2 hts gL_law_X4_ofThing rfl rfl rfl khd_X4_ofThing ⟨(Nat.le_of_ble_eq_true rfl), (Nat.le_of_ble_eq_true rfl)⟩) hK hN hI hP hD hS rfl hl.1 rfl (Nat.le_of_ble_eq_true rfl) dL_law_414 ⟨(Nat.le_of_ble_eq_true rfl), (Nat.le_of_ble_eq_true rfl)⟩ (fun H locs w hI hP hD hS => ?_)
                      have hP : va_P (dC, dI) vwCl ((a_g, .inl (cI, 38, .inl ga_99j)) :: (a_k, .inl (cI, 38, .inl ka_68)) :: w) H := hP
                      have hD : va_D (fun q : Nat => s.heap.size ≤ q) ((a_g, .inl (cI, 38, .inl ga_99j)) :: (a_k, .inl (cI, 38, .inl ka_68)) :: w) := hD
                      refine lv_iload hx hb dL_law_417 (lv_at hl 7 rfl) ?_
                      refine lv_iload hx hb dL_law_419 (lv_at hl 8 rfl) ?_
                      refine lv_ishr hx hb dL_law_421 ?_
                      refine lv_iconst (v := 1) hx hb dL_law_422 (by decide) ?_
                      refine lv_iand hx hb dL_law_423 ?_
                      refine lv_icmp_ne (tgt := 512) hx hb dL_law_424 (by decide) (fun c_424 => ?_) (fun c_424 => ?_)
                      · have h2 := hp_neg c_424 h2
                        cases h2
                      · have h2 := hp_pos c_424 h2
                        refine lv_aload_n hx hb dL_law_427 rfl (lv_at hl 1 rfl) ?_
                        refine lv_iload hx hb dL_law_428 (lv_at hl 8 rfl) ?_
                        refine lv_bipush (v := 6) hx hb dL_law_430 (by decide) ?_
                        obtain ⟨r_432, e_432, h2⟩ := ob1_inv h2
                        refine k_GVi (pre := [(a_g, .inl (cI, 38, .inl ga_99j)), (a_k, .inl (cI, 38, .inl ka_68))]) (rest := []) ⟨hx, hb, hml, hown, hts⟩ (A_X4_ofThing l dC dI cI cS ad e_432) (cwV 2 hts gL_law_X4_ofThing rfl rfl rfl khd_X4_ofThing ⟨(Nat.le_of_ble_eq_true rfl), (Nat.le_of_ble_eq_true rfl)⟩) hK hN hI hP hD hS rfl hl.1 rfl (Nat.le_of_ble_eq_true rfl) dL_law_432 ⟨(Nat.le_of_ble_eq_true rfl), (Nat.le_of_ble_eq_true rfl)⟩ (fun H locs w hI hP hD hS => ?_)
                        have hP : va_P (dC, dI) vwCl ((a_g, .inl (cI, 38, .inl ga_99j)) :: (a_k, .inl (cI, 38, .inl ka_68)) :: w) H := hP
                        have hD : va_D (fun q : Nat => s.heap.size ≤ q) ((a_g, .inl (cI, 38, .inl ga_99j)) :: (a_k, .inl (cI, 38, .inl ka_68)) :: w) := hD
                        refine lv_iload hx hb dL_law_435 (lv_at hl 10 rfl) ?_
                        refine lv_icmp_ne (tgt := 512) hx hb dL_law_437 (by decide) (fun c_437 => ?_) (fun c_437 => ?_)
                        · have h2 := hp_neg c_437 h2
                          cases h2
                        · have h2 := hp_pos c_437 h2
                          refine lv_aload_n hx hb dL_law_440 rfl (lv_at hl 1 rfl) ?_
                          refine lv_iload hx hb dL_law_441 (lv_at hl 8 rfl) ?_
                          refine lv_bipush (v := 7) hx hb dL_law_443 (by decide) ?_
                          obtain ⟨r_445, e_445, h2⟩ := ob1_inv h2
                          refine k_GVi (pre := [(a_g, .inl (cI, 38, .inl ga_99j)), (a_k, .inl (cI, 38, .inl ka_68))]) (rest := []) ⟨hx, hb, hml, hown, hts⟩ (A_X4_ofThing l dC dI cI cS ad e_445) (cwV 2 hts gL_law_X4_ofThing rfl rfl rfl khd_X4_ofThing ⟨(Nat.le_of_ble_eq_true rfl), (Nat.le_of_ble_eq_true rfl)⟩) hK hN hI hP hD hS rfl hl.1 rfl (Nat.le_of_ble_eq_true rfl) dL_law_445 ⟨(Nat.le_of_ble_eq_true rfl), (Nat.le_of_ble_eq_true rfl)⟩ (fun H locs w hI hP hD hS => ?_)
                          have hP : va_P (dC, dI) vwCl ((a_g, .inl (cI, 38, .inl ga_99j)) :: (a_k, .inl (cI, 38, .inl ka_68)) :: w) H := hP
                          have hD : va_D (fun q : Nat => s.heap.size ≤ q) ((a_g, .inl (cI, 38, .inl ga_99j)) :: (a_k, .inl (cI, 38, .inl ka_68)) :: w) := hD
                          refine lv_aload_n hx hb dL_law_448 rfl (lv_at hl 2 rfl) ?_
                          refine lv_iload hx hb dL_law_449 (lv_at hl 8 rfl) ?_
                          obtain ⟨r_451, e_451, h2⟩ := ob1_inv h2
                          refine k_pSi (rest := [.int r_445]) ⟨hx, hb, hml, hown, hts⟩ (c_L_lawful l dC dI cI cS a_g e_451) (va_cwS 2 hts gL_law_L_lawful rfl rfl rfl khd_L_lawful.2 ⟨(Nat.le_of_ble_eq_true rfl), (Nat.le_of_ble_eq_true rfl)⟩) hK hN hP hD hS [0] rfl rfl rfl hl.1 rfl (Nat.le_of_ble_eq_true rfl) dL_law_451 ⟨(Nat.le_of_ble_eq_true rfl), (Nat.le_of_ble_eq_true rfl)⟩ (fun H locs hf_451 hP hS => ?_)
                          have hP : va_P (dC, dI) vwCl ((a_g, .inl (cI, 38, .inl ga_99j)) :: (a_k, .inl (cI, 38, .inl ka_68)) :: w) H := hP
                          obtain ⟨u0_462, i_462, h2⟩ := ob1_inv h2
                          have after_462 : ∀ (w : va_W) (H : Heap) (locs : List Loc) (ls : Array Slot), gI cI cS ad SS_99j w → va_P (dC, dI) vwCl ((a_g, .inl (cI, 38, .inl ga_99j)) :: (a_k, .inl (cI, 38, .inl ka_68)) :: w) H → va_D (fun q : Nat => s.heap.size ≤ q) ((a_g, .inl (cI, 38, .inl ga_99j)) :: (a_k, .inl (cI, 38, .inl ka_68)) :: w) → va_S (fun q : Nat => s.heap.size ≤ q) s.heap H locs → lv_has ls 19 [(0, .ref b), (1, .ref (ad 0)), (2, .ref a_g), (3, .ref a_k), (5, .int (r_22_ga 0)), (6, .int x6_68), (7, .int r_105), (8, .int (r_114 - (64 : Int32))), (9, .int x9_125), (12, .int y12_193), (13, .int r_262), (14, .int y14_273)] → W p l e room_1 s m #[Value.ref b] below meth c H locs 29 472 (lw_Z below #[Value.ref b] s) (F0 m 462 ls [.int u0_462, .int r_445]) := by
                            intro w H locs ls hI hP hD hS hl
                            refine lv_icmp_ne (tgt := 512) hx hb dL_law_462 (by decide) (fun c_462 => ?_) (fun c_462 => ?_)
                            · have h2 := hp_neg c_462 h2
                              cases h2
                            · have h2 := hp_pos c_462 h2
                              refine lv_aload_n hx hb dL_law_465 rfl (lv_at hl 1 rfl) ?_
                              refine lv_iload hx hb dL_law_466 (lv_at hl 8 rfl) ?_
                              refine lv_bipush (v := 8) hx hb dL_law_468 (by decide) ?_
                              obtain ⟨r_470, e_470, h2⟩ := ob1_inv h2
                              refine k_GVi (pre := [(a_g, .inl (cI, 38, .inl ga_99j)), (a_k, .inl (cI, 38, .inl ka_68))]) (rest := []) ⟨hx, hb, hml, hown, hts⟩ (A_X4_ofThing l dC dI cI cS ad e_470) (cwV 2 hts gL_law_X4_ofThing rfl rfl rfl khd_X4_ofThing ⟨(Nat.le_of_ble_eq_true rfl), (Nat.le_of_ble_eq_true rfl)⟩) hK hN hI hP hD hS rfl hl.1 rfl (Nat.le_of_ble_eq_true rfl) dL_law_470 ⟨(Nat.le_of_ble_eq_true rfl), (Nat.le_of_ble_eq_true rfl)⟩ (fun H locs w hI hP hD hS => ?_)
                              have hP : va_P (dC, dI) vwCl ((a_g, .inl (cI, 38, .inl ga_99j)) :: (a_k, .inl (cI, 38, .inl ka_68)) :: w) H := hP
                              have hD : va_D (fun q : Nat => s.heap.size ≤ q) ((a_g, .inl (cI, 38, .inl ga_99j)) :: (a_k, .inl (cI, 38, .inl ka_68)) :: w) := hD
                              refine lv_iload hx hb dL_law_473 (lv_at hl 9 rfl) ?_
                              refine lv_icmp_ne (tgt := 512) hx hb dL_law_475 (by decide) (fun c_475 => ?_) (fun c_475 => ?_)
                              · have h2 := hp_neg c_475 h2
                                cases h2
                              · have h2 := hp_pos c_475 h2
                                refine lv_aload_n hx hb dL_law_478 rfl (lv_at hl 1 rfl) ?_
                                refine lv_iload hx hb dL_law_479 (lv_at hl 8 rfl) ?_
                                refine lv_bipush (v := 9) hx hb dL_law_481 (by decide) ?_
                                obtain ⟨r_483, e_483, h2⟩ := ob1_inv h2
                                refine k_GVi (pre := [(a_g, .inl (cI, 38, .inl ga_99j)), (a_k, .inl (cI, 38, .inl ka_68))]) (rest := []) ⟨hx, hb, hml, hown, hts⟩ (A_X4_ofThing l dC dI cI cS ad e_483) (cwV 2 hts gL_law_X4_ofThing rfl rfl rfl khd_X4_ofThing ⟨(Nat.le_of_ble_eq_true rfl), (Nat.le_of_ble_eq_true rfl)⟩) hK hN hI hP hD hS rfl hl.1 rfl (Nat.le_of_ble_eq_true rfl) dL_law_483 ⟨(Nat.le_of_ble_eq_true rfl), (Nat.le_of_ble_eq_true rfl)⟩ (fun H locs w hI hP hD hS => ?_)
                                have hP : va_P (dC, dI) vwCl ((a_g, .inl (cI, 38, .inl ga_99j)) :: (a_k, .inl (cI, 38, .inl ka_68)) :: w) H := hP
                                have hD : va_D (fun q : Nat => s.heap.size ≤ q) ((a_g, .inl (cI, 38, .inl ga_99j)) :: (a_k, .inl (cI, 38, .inl ka_68)) :: w) := hD
                                refine lv_iload hx hb dL_law_486 (lv_at hl 10 rfl) ?_
                                refine lv_icmp_ne (tgt := 512) hx hb dL_law_488 (by decide) (fun c_488 => ?_) (fun c_488 => ?_)
                                · have h2 := hp_neg c_488 h2
                                  cases h2
                                · have h2 := hp_pos c_488 h2
                                  refine lv_aload_n hx hb dL_law_491 rfl (lv_at hl 1 rfl) ?_
                                  refine lv_iload hx hb dL_law_492 (lv_at hl 8 rfl) ?_
                                  refine lv_bipush (v := 10) hx hb dL_law_494 (by decide) ?_
                                  obtain ⟨r_496, e_496, h2⟩ := ob1_inv h2
                                  refine k_GVi (pre := [(a_g, .inl (cI, 38, .inl ga_99j)), (a_k, .inl (cI, 38, .inl ka_68))]) (rest := []) ⟨hx, hb, hml, hown, hts⟩ (A_X4_ofThing l dC dI cI cS ad e_496) (cwV 2 hts gL_law_X4_ofThing rfl rfl rfl khd_X4_ofThing ⟨(Nat.le_of_ble_eq_true rfl), (Nat.le_of_ble_eq_true rfl)⟩) hK hN hI hP hD hS rfl hl.1 rfl (Nat.le_of_ble_eq_true rfl) dL_law_496 ⟨(Nat.le_of_ble_eq_true rfl), (Nat.le_of_ble_eq_true rfl)⟩ (fun H locs w hI hP hD hS => ?_)
                                  have hP : va_P (dC, dI) vwCl ((a_g, .inl (cI, 38, .inl ga_99j)) :: (a_k, .inl (cI, 38, .inl ka_68)) :: w) H := hP
                                  have hD : va_D (fun q : Nat => s.heap.size ≤ q) ((a_g, .inl (cI, 38, .inl ga_99j)) :: (a_k, .inl (cI, 38, .inl ka_68)) :: w) := hD
                                  refine lv_iload hx hb dL_law_499 (lv_at hl 11 rfl) ?_
                                  obtain ⟨u0_509, i_509, h2⟩ := ob1_inv h2
                                  have after_509 : ∀ (w : va_W) (H : Heap) (locs : List Loc) (ls : Array Slot), gI cI cS ad SS_99j w → va_P (dC, dI) vwCl ((a_g, .inl (cI, 38, .inl ga_99j)) :: (a_k, .inl (cI, 38, .inl ka_68)) :: w) H → va_D (fun q : Nat => s.heap.size ≤ q) ((a_g, .inl (cI, 38, .inl ga_99j)) :: (a_k, .inl (cI, 38, .inl ka_68)) :: w) → va_S (fun q : Nat => s.heap.size ≤ q) s.heap H locs → lv_has ls 19 [(0, .ref b), (1, .ref (ad 0)), (2, .ref a_g), (3, .ref a_k), (5, .int (r_22_ga 0)), (6, .int x6_68), (7, .int r_105), (8, .int (r_114 - (64 : Int32))), (9, .int x9_125)] → W p l e room_1 s m #[Value.ref b] below meth c H locs 29 472 (lw_Z below #[Value.ref b] s) (F0 m 509 ls [.int u0_509, .int r_496]) := by
                                    intro w H locs ls hI hP hD hS hl
                                    refine lv_icmp_eq (tgt := 514) hx hb dL_law_509 (by decide) (fun c_509 => ?_) (fun c_509 => ?_)
                                    · have h2 := hp_pos c_509 h2
                                      refine lv_iconst (v := 0) hx hb dL_law_514 (by decide) ?_
                                      refine lv_istore (lv' := [(15, .int (0 : Int32)), (0, .ref b), (1, .ref (ad 0)), (2, .ref a_g), (3, .ref a_k), (5, .int (r_22_ga 0)), (6, .int x6_68), (7, .int r_105), (8, .int (r_114 - (64 : Int32))), (9, .int x9_125)]) hx hb dL_law_515 hl (by decide) rfl (fun ls hl => ?_)
                                      obtain ⟨i_517, h2⟩ := ob0_inv h2
                                      have after_517 : ∀ (w : va_W) (H : Heap) (locs : List Loc) (ls : Array Slot), gI cI cS ad SS_99j w → va_P (dC, dI) vwCl ((a_g, .inl (cI, 38, .inl ga_99j)) :: (a_k, .inl (cI, 38, .inl ka_68)) :: w) H → va_D (fun q : Nat => s.heap.size ≤ q) ((a_g, .inl (cI, 38, .inl ga_99j)) :: (a_k, .inl (cI, 38, .inl ka_68)) :: w) → va_S (fun q : Nat => s.heap.size ≤ q) s.heap H locs → lv_has ls 19 [(0, .ref b), (1, .ref (ad 0)), (2, .ref a_g), (3, .ref a_k), (5, .int (r_22_ga 0)), (6, .int x6_68), (7, .int r_105), (8, .int (r_114 - (64 : Int32))), (9, .int x9_125)] → W p l e room_1 s m #[Value.ref b] below meth c H locs 29 472 (lw_Z below #[Value.ref b] s) (F0 m 617 ls []) := by
                                        intro w H locs ls hI hP hD hS hl
                                        refine lv_iinc (v := (x9_125 + (1 : Int32))) (lv' := [(9, .int (x9_125 + (1 : Int32))), (0, .ref b), (1, .ref (ad 0)), (2, .ref a_g), (3, .ref a_k), (5, .int (r_22_ga 0)), (6, .int x6_68), (7, .int r_105), (8, .int (r_114 - (64 : Int32)))]) hx hb dL_law_617 hl (k := 8) rfl rfl (by decide) rfl (fun ls hl => ?_)
                                        refine lv_goto (tgt := 125) hx hb dL_law_620 (by decide) ?_
                                        cases h2
                                        exact ih_125 _ k2 _ _ _ _ hI hP hD hS (lv_sub hl [1, 2, 3, 4, 5, 6, 7, 8, 0] rfl)
                                      exact lq_517 C0 hK hN after_517 FUEL _ i_517 _ _ _ _ hI hP hD hS (lv_sub hl [1, 2, 3, 4, 5, 6, 7, 8, 9, 0] rfl)
                                    · have h2 := hp_neg c_509 h2
                                      cases h2
                                  have h3 := i_509
                                  refine lv_if_eq (tgt := 508) hx hb dL_law_501 (by decide) (fun c_501 => ?_) (fun c_501 => ?_)
                                  · have h3 := hp_pos c_501 h3
                                    refine lv_iconst (v := 0) hx hb dL_law_508 (by decide) ?_
                                    obtain rfl := Option.some.inj h3
                                    exact after_509 _ _ _ _ hI hP hD hS (lv_sub hl [0, 1, 2, 3, 4, 5, 6, 7, 8] rfl)
                                  · have h3 := hp_neg c_501 h3
                                    refine lv_iconst (v := 1) hx hb dL_law_504 (by decide) ?_
                                    refine lv_goto (tgt := 509) hx hb dL_law_505 (by decide) ?_
                                    obtain rfl := Option.some.inj h3
                                    exact after_509 _ _ _ _ hI hP hD hS (lv_sub hl [0, 1, 2, 3, 4, 5, 6, 7, 8] rfl)
                          have h3 := i_462
                          refine lv_if_eq (tgt := 461) hx hb dL_law_454 (by decide) (fun c_454 => ?_) (fun c_454 => ?_)
                          · have h3 := hp_pos c_454 h3
                            refine lv_iconst (v := 0) hx hb dL_law_461 (by decide) ?_
                            obtain rfl := Option.some.inj h3
                            exact after_462 _ _ _ _ hI hP hD hS (lv_sub hl [0, 1, 2, 3, 4, 5, 6, 7, 8, 11, 12, 13] rfl)
                          · have h3 := hp_neg c_454 h3
                            refine lv_iconst (v := 1) hx hb dL_law_457 (by decide) ?_
                            refine lv_goto (tgt := 462) hx hb dL_law_458 (by decide) ?_
                            obtain rfl := Option.some.inj h3
                            exact after_462 _ _ _ _ hI hP hD hS (lv_sub hl [0, 1, 2, 3, 4, 5, 6, 7, 8, 11, 12, 13] rfl)
          exact lq_273 C0 hK hN after_273 FUEL _ _ i_273 _ _ _ _ hI hP hD hS (lv_sub hl [3, 4, 5, 6, 7, 8, 9, 10, 11, 12, 13, 14, 2, 1, 0] rfl)
        exact lq_193 C0 hK hN after_193 FUEL _ _ i_193 _ _ _ _ hI hP hD hS (lv_sub hl [3, 4, 5, 6, 7, 8, 9, 10, 11, 12, 2, 1, 0] rfl)
      exact lq_138 C0 hK hN after_138 FUEL _ _ i_138 _ _ _ _ hI hP hD hS (lv_sub hl [2, 3, 4, 5, 6, 7, 8, 9, 10, 1, 0] rfl)
end LAWL
