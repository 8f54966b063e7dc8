section LAWL
variable {p : Program} {l : Launch} {e : Env} {s : State} {m : MethodId} {below : List Frame} {meth : Method} {c : Code} {dC : Nat → ClassId} {dI : Nat → Nat → Nat} {cI cS : ClassId} {b L : Nat} {xs : Nat → Int32} {ad : Nat → Nat} {a_g a_k : Nat}
set_option maxHeartbeats 32000000 in
set_option maxRecDepth 100000 in
theorem lq_718 (C0 : lw_At p s m meth c b L xs) (hK : va_K (dC, dI) vwCl (tyW cI cS) s) (hN : Nst s) {r_22_ga : Nat → Int32} {x6_68 : Int32} {ga_99j : Nat → Int32} {r_696 : Int32} {r_706_S : SG} {ka_718e : Nat → Int32} (after_718 : ∀ (w : va_W) (H : Heap) (locs : List Loc) (ls : Array Slot), gI cI cS ad r_706_S w → va_P (dC, dI) vwCl ((a_g, .inl (cI, 38, .inl ga_99j)) :: (a_k, .inl (cI, 38, .inl ka_718e)) :: w) H → va_D (fun q : Nat => s.heap.size ≤ q) ((a_g, .inl (cI, 38, .inl ga_99j)) :: (a_k, .inl (cI, 38, .inl ka_718e)) :: w) → va_S (fun q : Nat => s.heap.size ≤ q) s.heap H locs → lv_has ls 19 [(0, .ref b), (1, .ref (ad 0)), (2, .ref a_g), (3, .ref a_k), (5, .int (r_22_ga 0)), (6, .int x6_68), (9, .int r_696)] → W p l e room_1 s m #[Value.ref b] below meth c H locs 29 472 (lw_Z below #[Value.ref b] s) (F0 m 739 ls [])) : ∀ (n : Nat) (x10_718 : Int32) (ka_718 : Nat → Int32), it (u2 (L_L_law_718 ga_99j)) n (x10_718, ka_718) = some ka_718e → ∀ (w : va_W) (H : Heap) (locs : List Loc) (ls : Array Slot), gI cI cS ad r_706_S w → va_P (dC, dI) vwCl ((a_g, .inl (cI, 38, .inl ga_99j)) :: (a_k, .inl (cI, 38, .inl ka_718)) :: w) H → va_D (fun q : Nat => s.heap.size ≤ q) ((a_g, .inl (cI, 38, .inl ga_99j)) :: (a_k, .inl (cI, 38, .inl ka_718)) :: w) → va_S (fun q : Nat => s.heap.size ≤ q) s.heap H locs → lv_has ls 19 [(0, .ref b), (1, .ref (ad 0)), (2, .ref a_g), (3, .ref a_k), (5, .int (r_22_ga 0)), (6, .int x6_68), (9, .int r_696), (10, .int x10_718)] → W p l e room_1 s m #[Value.ref b] below meth c H locs 29 472 (lw_Z below #[Value.ref b] s) (F0 m 718 ls []) := by
  obtain ⟨hx, hb, hr, hml, hown, hts0, hX, hbl, hlocks, hgv⟩ := id C0
  have hts : ∀ w ∈ wsL_law, w.before #[Value.ref b] s = true := fun w h => hts0 w (wsL_law_in w h)
  have hbA : ¬ (fun q : Nat => s.heap.size ≤ q) b := Nat.not_le.mpr hbl
  intro n
  induction n with
  | zero => intro x10_718 ka_718 h2 w H locs ls hI hP hD hS hl; exact (it_0 h2).elim
  | succ n ih_718 =>
    intro x10_718 ka_718 h2 w H locs ls hI hP hD hS hl
    obtain ⟨t_718, h2, k2⟩ := it2_inv h2
    unfold L_L_law_718 at h2
    refine lv_iload hx hb dL_law_718 (lv_at hl 7 rfl) ?_
    refine lv_bipush (v := 38) hx hb dL_law_720 (by decide) ?_
    refine lv_icmp_ge (tgt := 739) hx hb dL_law_722 (by decide) (fun c_722 => ?_) (fun c_722 => ?_)
    · have h2 := hp_pos c_722 h2
      cases h2
      obtain rfl := pj1 k2
      exact after_718 _ _ _ _ hI hP hD hS (lv_sub hl [0, 1, 2, 3, 4, 5, 6] rfl)
    · have h2 := hp_neg c_722 h2
      refine lv_aload_n hx hb dL_law_725 rfl (lv_at hl 3 rfl) ?_
      refine lv_iload hx hb dL_law_726 (lv_at hl 7 rfl) ?_
      refine lv_aload_n hx hb dL_law_728 rfl (lv_at hl 2 rfl) ?_
      refine lv_iload hx hb dL_law_729 (lv_at hl 7 rfl) ?_
      have g_731 := hg_no h2
      have h2 := hg_yes h2
      refine va_iald (D := (dC, dI)) hx hb hK hP 0 0 rfl rfl g_731 dL_law_731 ?_
      have g_732 := hg_no h2
      have h2 := hg_yes h2
      refine va_iast (D := (dC, dI)) hx hb hK hP hD hS 1 0 rfl rfl g_732 dL_law_732 (fun H locs hP hD hS => ?_)
      have hP : va_P (dC, dI) vwCl ((a_g, .inl (cI, 38, .inl ga_99j)) :: (a_k, .inl (cI, 38, .inl (upd ka_718 x10_718.toNatClampNeg (ga_99j x10_718.toNatClampNeg)))) :: w) H := hP
      have hD : va_D (fun q : Nat => s.heap.size ≤ q) ((a_g, .inl (cI, 38, .inl ga_99j)) :: (a_k, .inl (cI, 38, .inl (upd ka_718 x10_718.toNatClampNeg (ga_99j x10_718.toNatClampNeg)))) :: w) := hD
      refine lv_iinc (v := (x10_718 + (1 : Int32))) (lv' := [(10, .int (x10_718 + (1 : Int32))), (0, .ref b), (1, .ref (ad 0)), (2, .ref a_g), (3, .ref a_k), (5, .int (r_22_ga 0)), (6, .int x6_68), (9, .int r_696)]) hx hb dL_law_733 hl (k := 7) rfl rfl (by decide) rfl (fun ls hl => ?_)
      refine lv_goto (tgt := 718) hx hb dL_law_736 (by decide) ?_
      cases h2
      exact ih_718 _ _ k2 _ _ _ _ hI hP hD hS (lv_sub hl [1, 2, 3, 4, 5, 6, 7, 0] rfl)
set_option maxHeartbeats 32000000 in
set_option maxRecDepth 100000 in
theorem lq_517 (C0 : lw_At p s m meth c b L xs) (hK : va_K (dC, dI) vwCl (tyW cI cS) s) (hN : Nst s) {r_22_ga : Nat → Int32} {x6_68 : Int32} {ka_68 : Nat → Int32} {ga_99j : Nat → Int32} {SS_99j : SG} {r_105 : Int32} {r_114 : Int32} {x9_125 : Int32} (after_517 : ∀ (w : va_W) (H : Heap) (locs : List Loc) (ls : Array Slot), gI cI cS ad SS_99j w → va_P (dC, dI) vwCl ((a_g, .inl (cI, 38, .inl ga_99j)) :: (a_k, .inl (cI, 38, .inl ka_68)) :: w) H → va_D (fun q : Nat => s.heap.size ≤ q) ((a_g, .inl (cI, 38, .inl ga_99j)) :: (a_k, .inl (cI, 38, .inl ka_68)) :: w) → va_S (fun q : Nat => s.heap.size ≤ q) s.heap H locs → lv_has ls 19 [(0, .ref b), (1, .ref (ad 0)), (2, .ref a_g), (3, .ref a_k), (5, .int (r_22_ga 0)), (6, .int x6_68), (7, .int r_105), (8, .int (r_114 - (64 : Int32))), (9, .int x9_125)] → W p l e room_1 s m #[Value.ref b] below meth c H locs 29 472 (lw_Z below #[Value.ref b] s) (F0 m 617 ls [])) : ∀ (n : Nat) (x15_517 : Int32), it (u1 (L_L_law_517 r_22_ga ga_99j SS_99j x9_125)) n x15_517 = some () → ∀ (w : va_W) (H : Heap) (locs : List Loc) (ls : Array Slot), gI cI cS ad SS_99j w → va_P (dC, dI) vwCl ((a_g, .inl (cI, 38, .inl ga_99j)) :: (a_k, .inl (cI, 38, .inl ka_68)) :: w) H → va_D (fun q : Nat => s.heap.size ≤ q) ((a_g, .inl (cI, 38, .inl ga_99j)) :: (a_k, .inl (cI, 38, .inl ka_68)) :: w) → va_S (fun q : Nat => s.heap.size ≤ q) s.heap H locs → lv_has ls 19 [(0, .ref b), (1, .ref (ad 0)), (2, .ref a_g), (3, .ref a_k), (5, .int (r_22_ga 0)), (6, .int x6_68), (7, .int r_105), (8, .int (r_114 - (64 : Int32))), (9, .int x9_125), (15, .int x15_517)] → W p l e room_1 s m #[Value.ref b] below meth c H locs 29 472 (lw_Z below #[Value.ref b] s) (F0 m 517 ls []) := by
  obtain ⟨hx, hb, hr, hml, hown, hts0, hX, hbl, hlocks, hgv⟩ := id C0
  have hts : ∀ w ∈ wsL_law, w.before #[Value.ref b] s = true := fun w h => hts0 w (wsL_law_in w h)
  have hbA : ¬ (fun q : Nat => s.heap.size ≤ q) b := Nat.not_le.mpr hbl
  intro n
  induction n with
  | zero => intro x15_517 h3 w H locs ls hI hP hD hS hl; exact (it_0 h3).elim
  | succ n ih_517 =>
    intro x15_517 h3 w H locs ls hI hP hD hS hl
    obtain ⟨t_517, h3, k3⟩ := it1_inv h3
    unfold L_L_law_517 at h3
    refine lv_iload hx hb dL_law_517 (lv_at hl 9 rfl) ?_
    refine lv_bipush (v := 7) hx hb dL_law_519 (by decide) ?_
    refine lv_icmp_ge (tgt := 617) hx hb dL_law_521 (by decide) (fun c_521 => ?_) (fun c_521 => ?_)
    · have h3 := hp_pos c_521 h3
      cases h3
      exact after_517 _ _ _ _ hI hP hD hS (lv_sub hl [0, 1, 2, 3, 4, 5, 6, 7, 8] rfl)
    · have h3 := hp_neg c_521 h3
      refine lv_iload hx hb dL_law_524 (lv_at hl 9 rfl) ?_
      refine lv_iload hx hb dL_law_526 (lv_at hl 4 rfl) ?_
      obtain ⟨u0_543, i_543, h3⟩ := ob1_inv h3
      have after_543 : ∀ (w : va_W) (H : Heap) (locs : List Loc) (ls : Array Slot), gI cI cS ad SS_99j w → va_P (dC, dI) vwCl ((a_g, .inl (cI, 38, .inl ga_99j)) :: (a_k, .inl (cI, 38, .inl ka_68)) :: w) H → va_D (fun q : Nat => s.heap.size ≤ q) ((a_g, .inl (cI, 38, .inl ga_99j)) :: (a_k, .inl (cI, 38, .inl ka_68)) :: w) → va_S (fun q : Nat => s.heap.size ≤ q) s.heap H locs → lv_has ls 19 [(0, .ref b), (1, .ref (ad 0)), (2, .ref a_g), (3, .ref a_k), (5, .int (r_22_ga 0)), (6, .int x6_68), (7, .int r_105), (8, .int (r_114 - (64 : Int32))), (9, .int x9_125), (15, .int x15_517)] → W p l e room_1 s m #[Value.ref b] below meth c H locs 29 472 (lw_Z below #[Value.ref b] s) (F0 m 543 ls [.int u0_543]) := by
        intro w H locs ls hI hP hD hS hl
        refine lv_istore (lv' := [(16, .int u0_543), (0, .ref b), (1, .ref (ad 0)), (2, .ref a_g), (3, .ref a_k), (5, .int (r_22_ga 0)), (6, .int x6_68), (7, .int r_105), (8, .int (r_114 - (64 : Int32))), (9, .int x9_125), (15, .int x15_517)]) hx hb dL_law_543 hl (by decide) rfl (fun ls hl => ?_)
        refine lv_aload_n hx hb dL_law_545 rfl (lv_at hl 2 rfl) ?_
        refine lv_iload hx hb dL_law_546 (lv_at hl 10 rfl) ?_
        refine lv_iload hx hb dL_law_548 (lv_at hl 9 rfl) ?_
        obtain ⟨r_550, e_550, h3⟩ := ob1_inv h3
        refine k_GVi (pre := [(a_g, .inl (cI, 38, .inl ga_99j)), (a_k, .inl (cI, 38, .inl ka_68))]) (rest := []) ⟨hx, hb, hml, hown, hts⟩ (A_X4_place l dC dI cI cS ad e_550) (cwV 2 hts gL_law_X4_place rfl rfl rfl khd_X4_place ⟨(Nat.le_of_ble_eq_true rfl), (Nat.le_of_ble_eq_true rfl)⟩) hK hN hI hP hD hS rfl hl.1 rfl (Nat.le_of_ble_eq_true rfl) dL_law_550 ⟨(Nat.le_of_ble_eq_true rfl), (Nat.le_of_ble_eq_true rfl)⟩ (fun H locs w hI hP hD hS => ?_)
        have hP : va_P (dC, dI) vwCl ((a_g, .inl (cI, 38, .inl ga_99j)) :: (a_k, .inl (cI, 38, .inl ka_68)) :: w) H := hP
        have hD : va_D (fun q : Nat => s.heap.size ≤ q) ((a_g, .inl (cI, 38, .inl ga_99j)) :: (a_k, .inl (cI, 38, .inl ka_68)) :: w) := hD
        refine lv_iload hx hb dL_law_553 (lv_at hl 0 rfl) ?_
        obtain ⟨u0_570, i_570, h3⟩ := ob1_inv h3
        have after_570 : ∀ (w : va_W) (H : Heap) (locs : List Loc) (ls : Array Slot), gI cI cS ad SS_99j w → va_P (dC, dI) vwCl ((a_g, .inl (cI, 38, .inl ga_99j)) :: (a_k, .inl (cI, 38, .inl ka_68)) :: w) H → va_D (fun q : Nat => s.heap.size ≤ q) ((a_g, .inl (cI, 38, .inl ga_99j)) :: (a_k, .inl (cI, 38, .inl ka_68)) :: w) → va_S (fun q : Nat => s.heap.size ≤ q) s.heap H locs → lv_has ls 19 [(0, .ref b), (1, .ref (ad 0)), (2, .ref a_g), (3, .ref a_k), (5, .int (r_22_ga 0)), (6, .int x6_68), (7, .int r_105), (8, .int (r_114 - (64 : Int32))), (9, .int x9_125), (15, .int x15_517), (16, .int u0_543)] → W p l e room_1 s m #[Value.ref b] below meth c H locs 29 472 (lw_Z below #[Value.ref b] s) (F0 m 570 ls [.int u0_570, .int r_550]) := by
          intro w H locs ls hI hP hD hS hl
          refine lv_icmp_ne (tgt := 609) hx hb dL_law_570 (by decide) (fun c_570 => ?_) (fun c_570 => ?_)
          · have h3 := hp_neg c_570 h3
            cases h3
          · have h3 := hp_pos c_570 h3
            refine lv_aload_n hx hb dL_law_573 rfl (lv_at hl 1 rfl) ?_
            refine lv_iload hx hb dL_law_574 (lv_at hl 9 rfl) ?_
            refine lv_iload hx hb dL_law_576 (lv_at hl 8 rfl) ?_
            obtain ⟨r_578, e_578, h3⟩ := ob1_inv h3
            refine k_GVi (pre := [(a_g, .inl (cI, 38, .inl ga_99j)), (a_k, .inl (cI, 38, .inl ka_68))]) (rest := []) ⟨hx, hb, hml, hown, hts⟩ (A_X4_refers l dC dI cI cS ad e_578) (cwV 2 hts gL_law_X4_refers rfl rfl rfl khd_X4_refers ⟨(Nat.le_of_ble_eq_true rfl), (Nat.le_of_ble_eq_true rfl)⟩) hK hN hI hP hD hS rfl hl.1 rfl (Nat.le_of_ble_eq_true rfl) dL_law_578 ⟨(Nat.le_of_ble_eq_true rfl), (Nat.le_of_ble_eq_true rfl)⟩ (fun H locs w hI hP hD hS => ?_)
            have hP : va_P (dC, dI) vwCl ((a_g, .inl (cI, 38, .inl ga_99j)) :: (a_k, .inl (cI, 38, .inl ka_68)) :: w) H := hP
            have hD : va_D (fun q : Nat => s.heap.size ≤ q) ((a_g, .inl (cI, 38, .inl ga_99j)) :: (a_k, .inl (cI, 38, .inl ka_68)) :: w) := hD
            refine lv_iload hx hb dL_law_581 (lv_at hl 10 rfl) ?_
            obtain ⟨u0_606, i_606, h3⟩ := ob1_inv h3
            have after_606 : ∀ (w : va_W) (H : Heap) (locs : List Loc) (ls : Array Slot), gI cI cS ad SS_99j w → va_P (dC, dI) vwCl ((a_g, .inl (cI, 38, .inl ga_99j)) :: (a_k, .inl (cI, 38, .inl ka_68)) :: w) H → va_D (fun q : Nat => s.heap.size ≤ q) ((a_g, .inl (cI, 38, .inl ga_99j)) :: (a_k, .inl (cI, 38, .inl ka_68)) :: w) → va_S (fun q : Nat => s.heap.size ≤ q) s.heap H locs → lv_has ls 19 [(0, .ref b), (1, .ref (ad 0)), (2, .ref a_g), (3, .ref a_k), (5, .int (r_22_ga 0)), (6, .int x6_68), (7, .int r_105), (8, .int (r_114 - (64 : Int32))), (9, .int x9_125), (15, .int x15_517)] → W p l e room_1 s m #[Value.ref b] below meth c H locs 29 472 (lw_Z below #[Value.ref b] s) (F0 m 606 ls [.int u0_606, .int r_578]) := by
              intro w H locs ls hI hP hD hS hl
              refine lv_icmp_eq (tgt := 611) hx hb dL_law_606 (by decide) (fun c_606 => ?_) (fun c_606 => ?_)
              · have h3 := hp_pos c_606 h3
                refine lv_iinc (v := (x15_517 + (1 : Int32))) (lv' := [(15, .int (x15_517 + (1 : Int32))), (0, .ref b), (1, .ref (ad 0)), (2, .ref a_g), (3, .ref a_k), (5, .int (r_22_ga 0)), (6, .int x6_68), (7, .int r_105), (8, .int (r_114 - (64 : Int32))), (9, .int x9_125)]) hx hb dL_law_611 hl (k := 9) rfl rfl (by decide) rfl (fun ls hl => ?_)
                refine lv_goto (tgt := 517) hx hb dL_law_614 (by decide) ?_
                cases h3
                exact ih_517 _ k3 _ _ _ _ hI hP hD hS (lv_sub hl [1, 2, 3, 4, 5, 6, 7, 8, 9, 0] rfl)
              · have h3 := hp_neg c_606 h3
                cases h3
            have h4 := i_606
            refine lv_if_ne (tgt := 590) hx hb dL_law_583 (by decide) (fun c_583 => ?_) (fun c_583 => ?_)
            · have h4 := hp_neg c_583 h4
              refine lv_aload_n hx hb dL_law_590 rfl (lv_at hl 2 rfl) ?_
              refine lv_iload hx hb dL_law_591 (lv_at hl 9 rfl) ?_
              refine lv_iload hx hb dL_law_593 (lv_at hl 8 rfl) ?_
              obtain ⟨r_595, e_595, h4⟩ := ob1_inv h4
              refine k_pSi (rest := [.int r_578]) ⟨hx, hb, hml, hown, hts⟩ (c_L_place l dC dI cI cS a_g e_595) (va_cwS 3 hts gL_law_L_place rfl rfl rfl khd_L_place.2 ⟨(Nat.le_of_ble_eq_true rfl), (Nat.le_of_ble_eq_true rfl)⟩) hK hN hP hD hS [0] rfl rfl rfl hl.1 rfl (Nat.le_of_ble_eq_true rfl) dL_law_595 ⟨(Nat.le_of_ble_eq_true rfl), (Nat.le_of_ble_eq_true rfl)⟩ (fun H locs hf_595 hP hS => ?_)
              have hP : va_P (dC, dI) vwCl ((a_g, .inl (cI, 38, .inl ga_99j)) :: (a_k, .inl (cI, 38, .inl ka_68)) :: w) H := hP
              refine lv_if_ge (tgt := 605) hx hb dL_law_598 (by decide) (fun c_598 => ?_) (fun c_598 => ?_)
              · have h4 := hp_pos c_598 h4
                refine lv_iconst (v := 1) hx hb dL_law_605 (by decide) ?_
                obtain rfl := Option.some.inj h4
                exact after_606 _ _ _ _ hI hP hD hS (lv_sub hl [0, 1, 2, 3, 4, 5, 6, 7, 8, 9] rfl)
              · have h4 := hp_neg c_598 h4
                refine lv_iconst (v := 0) hx hb dL_law_601 (by decide) ?_
                refine lv_goto (tgt := 606) hx hb dL_law_602 (by decide) ?_
                obtain rfl := Option.some.inj h4
                exact after_606 _ _ _ _ hI hP hD hS (lv_sub hl [0, 1, 2, 3, 4, 5, 6, 7, 8, 9] rfl)
            · have h4 := hp_pos c_583 h4
              refine lv_iconst (v := -1) hx hb dL_law_586 (by decide) ?_
              refine lv_goto (tgt := 606) hx hb dL_law_587 (by decide) ?_
              obtain rfl := Option.some.inj h4
              exact after_606 _ _ _ _ hI hP hD hS (lv_sub hl [0, 1, 2, 3, 4, 5, 6, 7, 8, 9] rfl)
        have h4 := i_570
        refine lv_if_eq (tgt := 569) hx hb dL_law_555 (by decide) (fun c_555 => ?_) (fun c_555 => ?_)
        · have h4 := hp_pos c_555 h4
          refine lv_iconst (v := -1) hx hb dL_law_569 (by decide) ?_
          obtain rfl := Option.some.inj h4
          exact after_570 _ _ _ _ hI hP hD hS (lv_sub hl [1, 2, 3, 4, 5, 6, 7, 8, 9, 10, 0] rfl)
        · have h4 := hp_neg c_555 h4
          refine lv_aload_n hx hb dL_law_558 rfl (lv_at hl 3 rfl) ?_
          refine lv_iload hx hb dL_law_559 (lv_at hl 10 rfl) ?_
          refine lv_iload hx hb dL_law_561 (lv_at hl 9 rfl) ?_
          obtain ⟨r_563, e_563, h4⟩ := ob1_inv h4
          refine k_pSi (rest := [.int r_550]) ⟨hx, hb, hml, hown, hts⟩ (c_L_place l dC dI cI cS a_g e_563) (va_cwS 3 hts gL_law_L_place rfl rfl rfl khd_L_place.2 ⟨(Nat.le_of_ble_eq_true rfl), (Nat.le_of_ble_eq_true rfl)⟩) hK hN hP hD hS [0] rfl rfl rfl hl.1 rfl (Nat.le_of_ble_eq_true rfl) dL_law_563 ⟨(Nat.le_of_ble_eq_true rfl), (Nat.le_of_ble_eq_true rfl)⟩ (fun H locs hf_563 hP hS => ?_)
          have hP : va_P (dC, dI) vwCl ((a_g, .inl (cI, 38, .inl ga_99j)) :: (a_k, .inl (cI, 38, .inl ka_68)) :: w) H := hP
          refine lv_goto (tgt := 570) hx hb dL_law_566 (by decide) ?_
          obtain rfl := Option.some.inj h4
          exact after_570 _ _ _ _ hI hP hD hS (lv_sub hl [1, 2, 3, 4, 5, 6, 7, 8, 9, 10, 0] rfl)
      have h4 := i_543
      refine lv_icmp_lt (tgt := 538) hx hb dL_law_528 (by decide) (fun c_528 => ?_) (fun c_528 => ?_)
      · have h4 := hp_pos c_528 h4
        refine lv_iconst (v := 1) hx hb dL_law_538 (by decide) ?_
        refine lv_goto (tgt := 543) hx hb dL_law_539 (by decide) ?_
        obtain rfl := Option.some.inj h4
        exact after_543 _ _ _ _ hI hP hD hS (lv_sub hl [0, 1, 2, 3, 4, 5, 6, 7, 8, 9] rfl)
      · have h4 := hp_neg c_528 h4
        refine lv_iload hx hb dL_law_531 (lv_at hl 9 rfl) ?_
        refine lv_bipush (v := 6) hx hb dL_law_533 (by decide) ?_
        refine lv_icmp_ne (tgt := 542) hx hb dL_law_535 (by decide) (fun c_535 => ?_) (fun c_535 => ?_)
        · have h4 := hp_neg c_535 h4
          refine lv_iconst (v := 0) hx hb dL_law_542 (by decide) ?_
          obtain rfl := Option.some.inj h4
          exact after_543 _ _ _ _ hI hP hD hS (lv_sub hl [0, 1, 2, 3, 4, 5, 6, 7, 8, 9] rfl)
        · have h4 := hp_pos c_535 h4
          refine lv_iconst (v := 1) hx hb dL_law_538 (by decide) ?_
          refine lv_goto (tgt := 543) hx hb dL_law_539 (by decide) ?_
          obtain rfl := Option.some.inj h4
          exact after_543 _ _ _ _ hI hP hD hS (lv_sub hl [0, 1, 2, 3, 4, 5, 6, 7, 8, 9] rfl)
set_option maxHeartbeats 32000000 in
set_option maxRecDepth 100000 in
theorem lq_273 (C0 : lw_At p s m meth c b L xs) (hK : va_K (dC, dI) vwCl (tyW cI cS) s) (hN : Nst s) {r_22_ga : Nat → Int32} {x6_68 : Int32} {ka_68 : Nat → Int32} {ga_99j : Nat → Int32} {SS_99j : SG} {r_105 : Int32} {r_114 : Int32} {x9_125 : Int32} {y10_138 : Int32} {r_181 : Int32} {y12_193 : Int32} {r_262 : Int32} {y14_273 : Int32} (after_273 : ∀ (w : va_W) (H : Heap) (locs : List Loc) (ls : Array Slot), gI cI cS ad SS_99j w → va_P (dC, dI) vwCl ((a_g, .inl (cI, 38, .inl ga_99j)) :: (a_k, .inl (cI, 38, .inl ka_68)) :: w) H → va_D (fun q : Nat => s.heap.size ≤ q) ((a_g, .inl (cI, 38, .inl ga_99j)) :: (a_k, .inl (cI, 38, .inl ka_68)) :: w) → va_S (fun q : Nat => s.heap.size ≤ q) s.heap H locs → lv_has ls 19 [(0, .ref b), (1, .ref (ad 0)), (2, .ref a_g), (3, .ref a_k), (5, .int (r_22_ga 0)), (6, .int x6_68), (7, .int r_105), (8, .int (r_114 - (64 : Int32))), (9, .int x9_125), (10, .int y10_138), (11, .int r_181), (12, .int y12_193), (13, .int r_262), (14, .int y14_273)] → W p l e room_1 s m #[Value.ref b] below meth c H locs 29 472 (lw_Z below #[Value.ref b] s) (F0 m 333 ls [])) : ∀ (n : Nat) (x14_273 : Int32) (x15_273 : Int32), it (u2 (L_L_law_273 ga_99j x9_125 r_262)) n (x14_273, x15_273) = some y14_273 → ∀ (w : va_W) (H : Heap) (locs : List Loc) (ls : Array Slot), gI cI cS ad SS_99j w → va_P (dC, dI) vwCl ((a_g, .inl (cI, 38, .inl ga_99j)) :: (a_k, .inl (cI, 38, .inl ka_68)) :: w) H → va_D (fun q : Nat => s.heap.size ≤ q) ((a_g, .inl (cI, 38, .inl ga_99j)) :: (a_k, .inl (cI, 38, .inl ka_68)) :: w) → va_S (fun q : Nat => s.heap.size ≤ q) s.heap H locs → lv_has ls 19 [(0, .ref b), (1, .ref (ad 0)), (2, .ref a_g), (3, .ref a_k), (5, .int (r_22_ga 0)), (6, .int x6_68), (7, .int r_105), (8, .int (r_114 - (64 : Int32))), (9, .int x9_125), (10, .int y10_138), (11, .int r_181), (12, .int y12_193), (13, .int r_262), (14, .int x14_273), (15, .int x15_273)] → W p l e room_1 s m #[Value.ref b] below meth c H locs 29 472 (lw_Z below #[Value.ref b] s) (F0 m 273 ls []) := by
  obtain ⟨hx, hb, hr, hml, hown, hts0, hX, hbl, hlocks, hgv⟩ := id C0
  have hts : ∀ w ∈ wsL_law, w.before #[Value.ref b] s = true := fun w h => hts0 w (wsL_law_in w h)
  have hbA : ¬ (fun q : Nat => s.heap.size ≤ q) b := Nat.not_le.mpr hbl
  intro n
  induction n with
  | zero => intro x14_273 x15_273 h3 w H locs ls hI hP hD hS hl; exact (it_0 h3).elim
  | succ n ih_273 =>
    intro x14_273 x15_273 h3 w H locs ls hI hP hD hS hl
    obtain ⟨t_273, h3, k3⟩ := it2_inv h3
    unfold L_L_law_273 at h3
    refine lv_iload hx hb dL_law_273 (lv_at hl 14 rfl) ?_
    refine lv_aload_n hx hb dL_law_275 rfl (lv_at hl 2 rfl) ?_
    refine lv_iconst (v := 1) hx hb dL_law_276 (by decide) ?_
    refine va_iald (D := (dC, dI)) hx hb hK hP 0 0 rfl rfl (by unfold vp_in; decide) dL_law_277 ?_
    refine lv_icmp_ge (tgt := 333) hx hb dL_law_278 (by decide) (fun c_278 => ?_) (fun c_278 => ?_)
    · have h3 := hp_pos c_278 h3
      cases h3
      obtain rfl := pj1 k3
      exact after_273 _ _ _ _ hI hP hD hS (lv_sub hl [0, 1, 2, 3, 4, 5, 6, 7, 8, 9, 10, 11, 12, 13] rfl)
    · have h3 := hp_neg c_278 h3
      refine lv_iload hx hb dL_law_281 (lv_at hl 12 rfl) ?_
      refine lv_aload_n hx hb dL_law_283 rfl (lv_at hl 2 rfl) ?_
      refine lv_bipush (v := 14) hx hb dL_law_284 (by decide) ?_
      refine lv_iload hx hb dL_law_286 (lv_at hl 14 rfl) ?_
      refine lv_iadd hx hb dL_law_288 ?_
      have g_289 := hg_no h3
      have h3 := hg_yes h3
      refine va_iald (D := (dC, dI)) hx hb hK hP 0 0 rfl rfl g_289 dL_law_289 ?_
      refine lv_ishr hx hb dL_law_290 ?_
      refine lv_iconst (v := 1) hx hb dL_law_291 (by decide) ?_
      refine lv_iand hx hb dL_law_292 ?_
      refine lv_if_ne (tgt := 327) hx hb dL_law_293 (by decide) (fun c_293 => ?_) (fun c_293 => ?_)
      · have h3 := hp_neg c_293 h3
        refine lv_iinc (v := (x15_273 + (1 : Int32))) (lv' := [(15, .int (x15_273 + (1 : Int32))), (0, .ref b), (1, .ref (ad 0)), (2, .ref a_g), (3, .ref a_k), (5, .int (r_22_ga 0)), (6, .int x6_68), (7, .int r_105), (8, .int (r_114 - (64 : Int32))), (9, .int x9_125), (10, .int y10_138), (11, .int r_181), (12, .int y12_193), (13, .int r_262), (14, .int x14_273)]) hx hb dL_law_327 hl (k := 14) rfl rfl (by decide) rfl (fun ls hl => ?_)
        refine lv_goto (tgt := 273) hx hb dL_law_330 (by decide) ?_
        cases h3
        exact ih_273 _ _ k3 _ _ _ _ hI hP hD hS (lv_sub hl [1, 2, 3, 4, 5, 6, 7, 8, 9, 10, 11, 12, 13, 14, 0] rfl)
      · have h3 := hp_pos c_293 h3
        refine lv_iload hx hb dL_law_296 (lv_at hl 12 rfl) ?_
        refine lv_aload_n hx hb dL_law_298 rfl (lv_at hl 2 rfl) ?_
        refine lv_bipush (v := 26) hx hb dL_law_299 (by decide) ?_
        refine lv_iload hx hb dL_law_301 (lv_at hl 14 rfl) ?_
        refine lv_iadd hx hb dL_law_303 ?_
        have g_304 := hg_no h3
        have h3 := hg_yes h3
        refine va_iald (D := (dC, dI)) hx hb hK hP 0 0 rfl rfl g_304 dL_law_304 ?_
        refine lv_ishr hx hb dL_law_305 ?_
        refine lv_iconst (v := 1) hx hb dL_law_306 (by decide) ?_
        refine lv_iand hx hb dL_law_307 ?_
        refine lv_iconst (v := 1) hx hb dL_law_308 (by decide) ?_
        refine lv_icmp_ne (tgt := 327) hx hb dL_law_309 (by decide) (fun c_309 => ?_) (fun c_309 => ?_)
        · have h3 := hp_neg c_309 h3
          refine lv_iinc (v := (x15_273 + (1 : Int32))) (lv' := [(15, .int (x15_273 + (1 : Int32))), (0, .ref b), (1, .ref (ad 0)), (2, .ref a_g), (3, .ref a_k), (5, .int (r_22_ga 0)), (6, .int x6_68), (7, .int r_105), (8, .int (r_114 - (64 : Int32))), (9, .int x9_125), (10, .int y10_138), (11, .int r_181), (12, .int y12_193), (13, .int r_262), (14, .int x14_273)]) hx hb dL_law_327 hl (k := 14) rfl rfl (by decide) rfl (fun ls hl => ?_)
          refine lv_goto (tgt := 273) hx hb dL_law_330 (by decide) ?_
          cases h3
          exact ih_273 _ _ k3 _ _ _ _ hI hP hD hS (lv_sub hl [1, 2, 3, 4, 5, 6, 7, 8, 9, 10, 11, 12, 13, 14, 0] rfl)
        · have h3 := hp_pos c_309 h3
          refine lv_aload_n hx hb dL_law_312 rfl (lv_at hl 2 rfl) ?_
          refine lv_bipush (v := 26) hx hb dL_law_313 (by decide) ?_
          refine lv_iload hx hb dL_law_315 (lv_at hl 14 rfl) ?_
          refine lv_iadd hx hb dL_law_317 ?_
          have g_318 := hg_no h3
          have h3 := hg_yes h3
          refine va_iald (D := (dC, dI)) hx hb hK hP 0 0 rfl rfl g_318 dL_law_318 ?_
          refine lv_iload hx hb dL_law_319 (lv_at hl 8 rfl) ?_
          refine lv_icmp_eq (tgt := 327) hx hb dL_law_321 (by decide) (fun c_321 => ?_) (fun c_321 => ?_)
          · have h3 := hp_pos c_321 h3
            refine lv_iinc (v := (x15_273 + (1 : Int32))) (lv' := [(15, .int (x15_273 + (1 : Int32))), (0, .ref b), (1, .ref (ad 0)), (2, .ref a_g), (3, .ref a_k), (5, .int (r_22_ga 0)), (6, .int x6_68), (7, .int r_105), (8, .int (r_114 - (64 : Int32))), (9, .int x9_125), (10, .int y10_138), (11, .int r_181), (12, .int y12_193), (13, .int r_262), (14, .int x14_273)]) hx hb dL_law_327 hl (k := 14) rfl rfl (by decide) rfl (fun ls hl => ?_)
            refine lv_goto (tgt := 273) hx hb dL_law_330 (by decide) ?_
            cases h3
            exact ih_273 _ _ k3 _ _ _ _ hI hP hD hS (lv_sub hl [1, 2, 3, 4, 5, 6, 7, 8, 9, 10, 11, 12, 13, 14, 0] rfl)
          · have h3 := hp_neg c_321 h3
            refine lv_iconst (v := 0) hx hb dL_law_324 (by decide) ?_
            refine lv_istore (lv' := [(14, .int (0 : Int32)), (0, .ref b), (1, .ref (ad 0)), (2, .ref a_g), (3, .ref a_k), (5, .int (r_22_ga 0)), (6, .int x6_68), (7, .int r_105), (8, .int (r_114 - (64 : Int32))), (9, .int x9_125), (10, .int y10_138), (11, .int r_181), (12, .int y12_193), (13, .int r_262), (15, .int x15_273)]) hx hb dL_law_325 hl (by decide) rfl (fun ls hl => ?_)
            refine lv_iinc (v := (x15_273 + (1 : Int32))) (lv' := [(15, .int (x15_273 + (1 : Int32))), (14, .int (0 : Int32)), (0, .ref b), (1, .ref (ad 0)), (2, .ref a_g), (3, .ref a_k), (5, .int (r_22_ga 0)), (6, .int x6_68), (7, .int r_105), (8, .int (r_114 - (64 : Int32))), (9, .int x9_125), (10, .int y10_138), (11, .int r_181), (12, .int y12_193), (13, .int r_262)]) hx hb dL_law_327 hl (k := 14) rfl rfl (by decide) rfl (fun ls hl => ?_)
            refine lv_goto (tgt := 273) hx hb dL_law_330 (by decide) ?_
            cases h3
            exact ih_273 _ _ k3 _ _ _ _ hI hP hD hS (lv_sub hl [2, 3, 4, 5, 6, 7, 8, 9, 10, 11, 12, 13, 14, 1, 0] rfl)
set_option maxHeartbeats 32000000 in
set_option maxRecDepth 100000 in
theorem lq_193 (C0 : lw_At p s m meth c b L xs) (hK : va_K (dC, dI) vwCl (tyW cI cS) s) (hN : Nst s) {r_22_ga : Nat → Int32} {x6_68 : Int32} {ka_68 : Nat → Int32} {ga_99j : Nat → Int32} {SS_99j : SG} {r_105 : Int32} {r_114 : Int32} {x9_125 : Int32} {y10_138 : Int32} {r_181 : Int32} {y12_193 : Int32} (after_193 : ∀ (w : va_W) (H : Heap) (locs : List Loc) (ls : Array Slot), gI cI cS ad SS_99j w → va_P (dC, dI) vwCl ((a_g, .inl (cI, 38, .inl ga_99j)) :: (a_k, .inl (cI, 38, .inl ka_68)) :: w) H → va_D (fun q : Nat => s.heap.size ≤ q) ((a_g, .inl (cI, 38, .inl ga_99j)) :: (a_k, .inl (cI, 38, .inl ka_68)) :: w) → va_S (fun q : Nat => s.heap.size ≤ q) s.heap H locs → lv_has ls 19 [(0, .ref b), (1, .ref (ad 0)), (2, .ref a_g), (3, .ref a_k), (5, .int (r_22_ga 0)), (6, .int x6_68), (7, .int r_105), (8, .int (r_114 - (64 : Int32))), (9, .int x9_125), (10, .int y10_138), (11, .int r_181), (12, .int y12_193)] → W p l e room_1 s m #[Value.ref b] below meth c H locs 29 472 (lw_Z below #[Value.ref b] s) (F0 m 258 ls [])) : ∀ (n : Nat) (x12_193 : Int32) (x13_193 : Int32), it (u2 (L_L_law_193 r_22_ga ga_99j x9_125 r_181)) n (x12_193, x13_193) = some y12_193 → ∀ (w : va_W) (H : Heap) (locs : List Loc) (ls : Array Slot), gI cI cS ad SS_99j w → va_P (dC, dI) vwCl ((a_g, .inl (cI, 38, .inl ga_99j)) :: (a_k, .inl (cI, 38, .inl ka_68)) :: w) H → va_D (fun q : Nat => s.heap.size ≤ q) ((a_g, .inl (cI, 38, .inl ga_99j)) :: (a_k, .inl (cI, 38, .inl ka_68)) :: w) → va_S (fun q : Nat => s.heap.size ≤ q) s.heap H locs → lv_has ls 19 [(0, .ref b), (1, .ref (ad 0)), (2, .ref a_g), (3, .ref a_k), (5, .int (r_22_ga 0)), (6, .int x6_68), (7, .int r_105), (8, .int (r_114 - (64 : Int32))), (9, .int x9_125), (10, .int y10_138), (11, .int r_181), (12, .int x12_193), (13, .int x13_193)] → W p l e room_1 s m #[Value.ref b] below meth c H locs 29 472 (lw_Z below #[Value.ref b] s) (F0 m 193 ls []) := by
  obtain ⟨hx, hb, hr, hml, hown, hts0, hX, hbl, hlocks, hgv⟩ := id C0
  have hts : ∀ w ∈ wsL_law, w.before #[Value.ref b] s = true := fun w h => hts0 w (wsL_law_in w h)
  have hbA : ¬ (fun q : Nat => s.heap.size ≤ q) b := Nat.not_le.mpr hbl
  intro n
  induction n with
  | zero => intro x12_193 x13_193 h3 w H locs ls hI hP hD hS hl; exact (it_0 h3).elim
  | succ n ih_193 =>
    intro x12_193 x13_193 h3 w H locs ls hI hP hD hS hl
    obtain ⟨t_193, h3, k3⟩ := it2_inv h3
    unfold L_L_law_193 at h3
    refine lv_iload hx hb dL_law_193 (lv_at hl 12 rfl) ?_
    refine lv_iload hx hb dL_law_195 (lv_at hl 4 rfl) ?_
    refine lv_icmp_ge (tgt := 258) hx hb dL_law_197 (by decide) (fun c_197 => ?_) (fun c_197 => ?_)
    · have h3 := hp_pos c_197 h3
      cases h3
      obtain rfl := pj1 k3
      exact after_193 _ _ _ _ hI hP hD hS (lv_sub hl [0, 1, 2, 3, 4, 5, 6, 7, 8, 9, 10, 11] rfl)
    · have h3 := hp_neg c_197 h3
      refine lv_iload hx hb dL_law_200 (lv_at hl 12 rfl) ?_
      refine lv_iload hx hb dL_law_202 (lv_at hl 8 rfl) ?_
      refine lv_icmp_eq (tgt := 252) hx hb dL_law_204 (by decide) (fun c_204 => ?_) (fun c_204 => ?_)
      · have h3 := hp_pos c_204 h3
        refine lv_iinc (v := (x13_193 + (1 : Int32))) (lv' := [(13, .int (x13_193 + (1 : Int32))), (0, .ref b), (1, .ref (ad 0)), (2, .ref a_g), (3, .ref a_k), (5, .int (r_22_ga 0)), (6, .int x6_68), (7, .int r_105), (8, .int (r_114 - (64 : Int32))), (9, .int x9_125), (10, .int y10_138), (11, .int r_181), (12, .int x12_193)]) hx hb dL_law_252 hl (k := 12) rfl rfl (by decide) rfl (fun ls hl => ?_)
        refine lv_goto (tgt := 193) hx hb dL_law_255 (by decide) ?_
        cases h3
        exact ih_193 _ _ k3 _ _ _ _ hI hP hD hS (lv_sub hl [1, 2, 3, 4, 5, 6, 7, 8, 9, 10, 11, 12, 0] rfl)
      · have h3 := hp_neg c_204 h3
        refine lv_iload hx hb dL_law_207 (lv_at hl 10 rfl) ?_
        refine lv_iload hx hb dL_law_209 (lv_at hl 12 rfl) ?_
        refine lv_ishr hx hb dL_law_211 ?_
        refine lv_iconst (v := 1) hx hb dL_law_212 (by decide) ?_
        refine lv_iand hx hb dL_law_213 ?_
        refine lv_if_ne (tgt := 220) hx hb dL_law_214 (by decide) (fun c_214 => ?_) (fun c_214 => ?_)
        · have h3 := hp_neg c_214 h3
          refine lv_iload hx hb dL_law_220 (lv_at hl 11 rfl) ?_
          refine lv_bipush (v := 6) hx hb dL_law_222 (by decide) ?_
          refine lv_icmp_eq (tgt := 248) hx hb dL_law_224 (by decide) (fun c_224 => ?_) (fun c_224 => ?_)
          · have h3 := hp_pos c_224 h3
            refine lv_iload hx hb dL_law_248 (lv_at hl 12 rfl) ?_
            refine lv_istore (lv' := [(12, .int x13_193), (0, .ref b), (1, .ref (ad 0)), (2, .ref a_g), (3, .ref a_k), (5, .int (r_22_ga 0)), (6, .int x6_68), (7, .int r_105), (8, .int (r_114 - (64 : Int32))), (9, .int x9_125), (10, .int y10_138), (11, .int r_181), (13, .int x13_193)]) hx hb dL_law_250 hl (by decide) rfl (fun ls hl => ?_)
            refine lv_iinc (v := (x13_193 + (1 : Int32))) (lv' := [(13, .int (x13_193 + (1 : Int32))), (12, .int x13_193), (0, .ref b), (1, .ref (ad 0)), (2, .ref a_g), (3, .ref a_k), (5, .int (r_22_ga 0)), (6, .int x6_68), (7, .int r_105), (8, .int (r_114 - (64 : Int32))), (9, .int x9_125), (10, .int y10_138), (11, .int r_181)]) hx hb dL_law_252 hl (k := 12) rfl rfl (by decide) rfl (fun ls hl => ?_)
            refine lv_goto (tgt := 193) hx hb dL_law_255 (by decide) ?_
            cases h3
            exact ih_193 _ _ k3 _ _ _ _ hI hP hD hS (lv_sub hl [2, 3, 4, 5, 6, 7, 8, 9, 10, 11, 12, 1, 0] rfl)
          · have h3 := hp_neg c_224 h3
            refine lv_aload_n hx hb dL_law_227 rfl (lv_at hl 2 rfl) ?_
            refine lv_iload hx hb dL_law_228 (lv_at hl 12 rfl) ?_
            obtain ⟨r_230, e_230, h3⟩ := ob1_inv h3
            refine k_pSi (rest := []) ⟨hx, hb, hml, hown, hts⟩ (c_L_before l dC dI cI cS a_g e_230) (va_cwS 2 hts gL_law_L_before rfl rfl rfl khd_L_before.2 ⟨(Nat.le_of_ble_eq_true rfl), (Nat.le_of_ble_eq_true rfl)⟩) hK hN hP hD hS [0] rfl rfl rfl hl.1 rfl (Nat.le_of_ble_eq_true rfl) dL_law_230 ⟨(Nat.le_of_ble_eq_true rfl), (Nat.le_of_ble_eq_true rfl)⟩ (fun H locs hf_230 hP hS => ?_)
            have hP : va_P (dC, dI) vwCl ((a_g, .inl (cI, 38, .inl ga_99j)) :: (a_k, .inl (cI, 38, .inl ka_68)) :: w) H := hP
            obtain ⟨r_233, e_233, h3⟩ := ob1_inv h3
            refine k_pSi (rest := []) ⟨hx, hb, hml, hown, hts⟩ (c_L_size l dC dI cI cS e_233) (va_cwS 1 hts gL_law_L_size rfl rfl rfl khd_L_size.2 ⟨(Nat.le_of_ble_eq_true rfl), (Nat.le_of_ble_eq_true rfl)⟩) hK hN hP hD hS [] rfl rfl rfl hl.1 rfl (Nat.le_of_ble_eq_true rfl) dL_law_233 ⟨(Nat.le_of_ble_eq_true rfl), (Nat.le_of_ble_eq_true rfl)⟩ (fun H locs hf_233 hP hS => ?_)
            have hP : va_P (dC, dI) vwCl ((a_g, .inl (cI, 38, .inl ga_99j)) :: (a_k, .inl (cI, 38, .inl ka_68)) :: w) H := hP
            refine lv_aload_n hx hb dL_law_236 rfl (lv_at hl 2 rfl) ?_
            refine lv_iload hx hb dL_law_237 (lv_at hl 11 rfl) ?_
            obtain ⟨r_239, e_239, h3⟩ := ob1_inv h3
            refine k_pSi (rest := [.int r_233]) ⟨hx, hb, hml, hown, hts⟩ (c_L_before l dC dI cI cS a_g e_239) (va_cwS 2 hts gL_law_L_before rfl rfl rfl khd_L_before.2 ⟨(Nat.le_of_ble_eq_true rfl), (Nat.le_of_ble_eq_true rfl)⟩) hK hN hP hD hS [0] rfl rfl rfl hl.1 rfl (Nat.le_of_ble_eq_true rfl) dL_law_239 ⟨(Nat.le_of_ble_eq_true rfl), (Nat.le_of_ble_eq_true rfl)⟩ (fun H locs hf_239 hP hS => ?_)
            have hP : va_P (dC, dI) vwCl ((a_g, .inl (cI, 38, .inl ga_99j)) :: (a_k, .inl (cI, 38, .inl ka_68)) :: w) H := hP
            obtain ⟨r_242, e_242, h3⟩ := ob1_inv h3
            refine k_pSi (rest := [.int r_233]) ⟨hx, hb, hml, hown, hts⟩ (c_L_size l dC dI cI cS e_242) (va_cwS 1 hts gL_law_L_size rfl rfl rfl khd_L_size.2 ⟨(Nat.le_of_ble_eq_true rfl), (Nat.le_of_ble_eq_true rfl)⟩) hK hN hP hD hS [] rfl rfl rfl hl.1 rfl (Nat.le_of_ble_eq_true rfl) dL_law_242 ⟨(Nat.le_of_ble_eq_true rfl), (Nat.le_of_ble_eq_true rfl)⟩ (fun H locs hf_242 hP hS => ?_)
            have hP : va_P (dC, dI) vwCl ((a_g, .inl (cI, 38, .inl ga_99j)) :: (a_k, .inl (cI, 38, .inl ka_68)) :: w) H := hP
            refine lv_icmp_le (tgt := 252) hx hb dL_law_245 (by decide) (fun c_245 => ?_) (fun c_245 => ?_)
            · have h3 := hp_pos c_245 h3
              refine lv_iinc (v := (x13_193 + (1 : Int32))) (lv' := [(13, .int (x13_193 + (1 : Int32))), (0, .ref b), (1, .ref (ad 0)), (2, .ref a_g), (3, .ref a_k), (5, .int (r_22_ga 0)), (6, .int x6_68), (7, .int r_105), (8, .int (r_114 - (64 : Int32))), (9, .int x9_125), (10, .int y10_138), (11, .int r_181), (12, .int x12_193)]) hx hb dL_law_252 hl (k := 12) rfl rfl (by decide) rfl (fun ls hl => ?_)
              refine lv_goto (tgt := 193) hx hb dL_law_255 (by decide) ?_
              cases h3
              exact ih_193 _ _ k3 _ _ _ _ hI hP hD hS (lv_sub hl [1, 2, 3, 4, 5, 6, 7, 8, 9, 10, 11, 12, 0] rfl)
            · have h3 := hp_neg c_245 h3
              refine lv_iload hx hb dL_law_248 (lv_at hl 12 rfl) ?_
              refine lv_istore (lv' := [(12, .int x13_193), (0, .ref b), (1, .ref (ad 0)), (2, .ref a_g), (3, .ref a_k), (5, .int (r_22_ga 0)), (6, .int x6_68), (7, .int r_105), (8, .int (r_114 - (64 : Int32))), (9, .int x9_125), (10, .int y10_138), (11, .int r_181), (13, .int x13_193)]) hx hb dL_law_250 hl (by decide) rfl (fun ls hl => ?_)
              refine lv_iinc (v := (x13_193 + (1 : Int32))) (lv' := [(13, .int (x13_193 + (1 : Int32))), (12, .int x13_193), (0, .ref b), (1, .ref (ad 0)), (2, .ref a_g), (3, .ref a_k), (5, .int (r_22_ga 0)), (6, .int x6_68), (7, .int r_105), (8, .int (r_114 - (64 : Int32))), (9, .int x9_125), (10, .int y10_138), (11, .int r_181)]) hx hb dL_law_252 hl (k := 12) rfl rfl (by decide) rfl (fun ls hl => ?_)
              refine lv_goto (tgt := 193) hx hb dL_law_255 (by decide) ?_
              cases h3
              exact ih_193 _ _ k3 _ _ _ _ hI hP hD hS (lv_sub hl [2, 3, 4, 5, 6, 7, 8, 9, 10, 11, 12, 1, 0] rfl)
        · have h3 := hp_pos c_214 h3
          refine lv_goto (tgt := 252) hx hb dL_law_217 (by decide) ?_
          refine lv_iinc (v := (x13_193 + (1 : Int32))) (lv' := [(13, .int (x13_193 + (1 : Int32))), (0, .ref b), (1, .ref (ad 0)), (2, .ref a_g), (3, .ref a_k), (5, .int (r_22_ga 0)), (6, .int x6_68), (7, .int r_105), (8, .int (r_114 - (64 : Int32))), (9, .int x9_125), (10, .int y10_138), (11, .int r_181), (12, .int x12_193)]) hx hb dL_law_252 hl (k := 12) rfl rfl (by decide) rfl (fun ls hl => ?_)
          refine lv_goto (tgt := 193) hx hb dL_law_255 (by decide) ?_
          cases h3
          exact ih_193 _ _ k3 _ _ _ _ hI hP hD hS (lv_sub hl [1, 2, 3, 4, 5, 6, 7, 8, 9, 10, 11, 12, 0] rfl)
set_option maxHeartbeats 32000000 in
set_option maxRecDepth 100000 in
theorem lq_138 (C0 : lw_At p s m meth c b L xs) (hK : va_K (dC, dI) vwCl (tyW cI cS) s) (hN : Nst s) {r_22_ga : Nat → Int32} {x6_68 : Int32} {ka_68 : Nat → Int32} {ga_99j : Nat → Int32} {SS_99j : SG} {r_105 : Int32} {r_114 : Int32} {x9_125 : Int32} {y10_138 : Int32} (after_138 : ∀ (w : va_W) (H : Heap) (locs : List Loc) (ls : Array Slot), gI cI cS ad SS_99j w → va_P (dC, dI) vwCl ((a_g, .inl (cI, 38, .inl ga_99j)) :: (a_k, .inl (cI, 38, .inl ka_68)) :: w) H → va_D (fun q : Nat => s.heap.size ≤ q) ((a_g, .inl (cI, 38, .inl ga_99j)) :: (a_k, .inl (cI, 38, .inl ka_68)) :: w) → va_S (fun q : Nat => s.heap.size ≤ q) s.heap H locs → lv_has ls 19 [(0, .ref b), (1, .ref (ad 0)), (2, .ref a_g), (3, .ref a_k), (5, .int (r_22_ga 0)), (6, .int x6_68), (7, .int r_105), (8, .int (r_114 - (64 : Int32))), (9, .int x9_125), (10, .int y10_138)] → W p l e room_1 s m #[Value.ref b] below meth c H locs 29 472 (lw_Z below #[Value.ref b] s) (F0 m 178 ls [])) : ∀ (n : Nat) (x10_138 : Int32) (x11_138 : Int32), it (u2 (L_L_law_138 ga_99j x9_125)) n (x10_138, x11_138) = some y10_138 → ∀ (w : va_W) (H : Heap) (locs : List Loc) (ls : Array Slot), gI cI cS ad SS_99j w → va_P (dC, dI) vwCl ((a_g, .inl (cI, 38, .inl ga_99j)) :: (a_k, .inl (cI, 38, .inl ka_68)) :: w) H → va_D (fun q : Nat => s.heap.size ≤ q) ((a_g, .inl (cI, 38, .inl ga_99j)) :: (a_k, .inl (cI, 38, .inl ka_68)) :: w) → va_S (fun q : Nat => s.heap.size ≤ q) s.heap H locs → lv_has ls 19 [(0, .ref b), (1, .ref (ad 0)), (2, .ref a_g), (3, .ref a_k), (5, .int (r_22_ga 0)), (6, .int x6_68), (7, .int r_105), (8, .int (r_114 - (64 : Int32))), (9, .int x9_125), (10, .int x10_138), (11, .int x11_138)] → W p l e room_1 s m #[Value.ref b] below meth c H locs 29 472 (lw_Z below #[Value.ref b] s) (F0 m 138 ls []) := by
  obtain ⟨hx, hb, hr, hml, hown, hts0, hX, hbl, hlocks, hgv⟩ := id C0
  have hts : ∀ w ∈ wsL_law, w.before #[Value.ref b] s = true := fun w h => hts0 w (wsL_law_in w h)
  have hbA : ¬ (fun q : Nat => s.heap.size ≤ q) b := Nat.not_le.mpr hbl
  intro n
  induction n with
  | zero => intro x10_138 x11_138 h3 w H locs ls hI hP hD hS hl; exact (it_0 h3).elim
  | succ n ih_138 =>
    intro x10_138 x11_138 h3 w H locs ls hI hP hD hS hl
    obtain ⟨t_138, h3, k3⟩ := it2_inv h3
    unfold L_L_law_138 at h3
    refine lv_iload hx hb dL_law_138 (lv_at hl 10 rfl) ?_
    refine lv_aload_n hx hb dL_law_140 rfl (lv_at hl 2 rfl) ?_
    refine lv_iconst (v := 1) hx hb dL_law_141 (by decide) ?_
    refine va_iald (D := (dC, dI)) hx hb hK hP 0 0 rfl rfl (by unfold vp_in; decide) dL_law_142 ?_
    refine lv_icmp_ge (tgt := 178) hx hb dL_law_143 (by decide) (fun c_143 => ?_) (fun c_143 => ?_)
    · have h3 := hp_pos c_143 h3
      cases h3
      obtain rfl := pj1 k3
      exact after_138 _ _ _ _ hI hP hD hS (lv_sub hl [0, 1, 2, 3, 4, 5, 6, 7, 8, 9] rfl)
    · have h3 := hp_neg c_143 h3
      refine lv_aload_n hx hb dL_law_146 rfl (lv_at hl 2 rfl) ?_
      refine lv_bipush (v := 14) hx hb dL_law_147 (by decide) ?_
      refine lv_iload hx hb dL_law_149 (lv_at hl 10 rfl) ?_
      refine lv_iadd hx hb dL_law_151 ?_
      have g_152 := hg_no h3
      have h3 := hg_yes h3
      refine va_iald (D := (dC, dI)) hx hb hK hP 0 0 rfl rfl g_152 dL_law_152 ?_
      refine lv_iload hx hb dL_law_153 (lv_at hl 8 rfl) ?_
      refine lv_icmp_ne (tgt := 172) hx hb dL_law_155 (by decide) (fun c_155 => ?_) (fun c_155 => ?_)
      · have h3 := hp_neg c_155 h3
        refine lv_iinc (v := (x11_138 + (1 : Int32))) (lv' := [(11, .int (x11_138 + (1 : Int32))), (0, .ref b), (1, .ref (ad 0)), (2, .ref a_g), (3, .ref a_k), (5, .int (r_22_ga 0)), (6, .int x6_68), (7, .int r_105), (8, .int (r_114 - (64 : Int32))), (9, .int x9_125), (10, .int x10_138)]) hx hb dL_law_172 hl (k := 10) rfl rfl (by decide) rfl (fun ls hl => ?_)
        refine lv_goto (tgt := 138) hx hb dL_law_175 (by decide) ?_
        cases h3
        exact ih_138 _ _ k3 _ _ _ _ hI hP hD hS (lv_sub hl [1, 2, 3, 4, 5, 6, 7, 8, 9, 10, 0] rfl)
      · have h3 := hp_pos c_155 h3
        refine lv_iload hx hb dL_law_158 (lv_at hl 9 rfl) ?_
        refine lv_iconst (v := 1) hx hb dL_law_160 (by decide) ?_
        refine lv_aload_n hx hb dL_law_161 rfl (lv_at hl 2 rfl) ?_
        refine lv_bipush (v := 26) hx hb dL_law_162 (by decide) ?_
        refine lv_iload hx hb dL_law_164 (lv_at hl 10 rfl) ?_
        refine lv_iadd hx hb dL_law_166 ?_
        have g_167 := hg_no h3
        have h3 := hg_yes h3
        refine va_iald (D := (dC, dI)) hx hb hK hP 0 0 rfl rfl g_167 dL_law_167 ?_
        refine lv_ishl hx hb dL_law_168 ?_
        refine lv_ior hx hb dL_law_169 ?_
        refine lv_istore (lv' := [(10, .int (x10_138 ||| ((1 : Int32) <<< ((ga_99j ((26 : Int32) + x11_138).toNatClampNeg) &&& 31)))), (0, .ref b), (1, .ref (ad 0)), (2, .ref a_g), (3, .ref a_k), (5, .int (r_22_ga 0)), (6, .int x6_68), (7, .int r_105), (8, .int (r_114 - (64 : Int32))), (9, .int x9_125), (11, .int x11_138)]) hx hb dL_law_170 hl (by decide) rfl (fun ls hl => ?_)
        refine lv_iinc (v := (x11_138 + (1 : Int32))) (lv' := [(11, .int (x11_138 + (1 : Int32))), (10, .int (x10_138 ||| ((1 : Int32) <<< ((ga_99j ((26 : Int32) + x11_138).toNatClampNeg) &&& 31)))), (0, .ref b), (1, .ref (ad 0)), (2, .ref a_g), (3, .ref a_k), (5, .int (r_22_ga 0)), (6, .int x6_68), (7, .int r_105), (8, .int (r_114 - (64 : Int32))), (9, .int x9_125)]) hx hb dL_law_172 hl (k := 10) rfl rfl (by decide) rfl (fun ls hl => ?_)
        refine lv_goto (tgt := 138) hx hb dL_law_175 (by decide) ?_
        cases h3
        exact ih_138 _ _ k3 _ _ _ _ hI hP hD hS (lv_sub hl [2, 3, 4, 5, 6, 7, 8, 9, 10, 1, 0] rfl)
end LAWL
