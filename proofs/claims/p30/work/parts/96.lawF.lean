section LAWL
variable {p : Program} {l : Launch} {e : Env} {s : State} {m : MethodId} {below : List Frame} {meth : Method} {c : Code} {dC : Nat → ClassId} {dI : Nat → Nat → Nat} {cI cS : ClassId} {b L : Nat} {xs : Nat → Int32} {ad : Nat → Nat} {a_g a_k : Nat}
set_option maxHeartbeats 32000000 in
set_option maxRecDepth 100000 in
theorem lq_68 (C0 : lw_At p s m meth c b L xs) (hK : va_K (dC, dI) vwCl (tyW cI cS) s) (hN : Nst s) {r_22_ga : Nat → Int32} {ga_68e : Nat → Int32} {ka_68e : Nat → Int32} {SS_68e : SG} (after_68 : ∀ (w : va_W) (H : Heap) (locs : List Loc) (ls : Array Slot), gI cI cS ad SS_68e w → va_P (dC, dI) vwCl ((a_g, .inl (cI, 38, .inl ga_68e)) :: (a_k, .inl (cI, 38, .inl ka_68e)) :: w) H → va_D (fun q : Nat => s.heap.size ≤ q) ((a_g, .inl (cI, 38, .inl ga_68e)) :: (a_k, .inl (cI, 38, .inl ka_68e)) :: w) → va_S (fun q : Nat => s.heap.size ≤ q) s.heap H locs → lv_has ls 19 [(1, .ref (ad 0)), (2, .ref a_g), (5, .int (r_22_ga 0))] → W p l e room_1 s m #[Value.ref b] below meth c H locs 29 472 (lw_Z below #[Value.ref b] s) (F0 m 1411 ls [])) : ∀ (n : Nat) (x6_68 : Int32) (ga_68 : Nat → Int32) (ka_68 : Nat → Int32) (SS_68 : SG), it (u4 (L_L_law_68 L xs r_22_ga)) n (x6_68, ga_68, ka_68, SS_68) = some (ga_68e, ka_68e, SS_68e) → ∀ (w : va_W) (H : Heap) (locs : List Loc) (ls : Array Slot), gI cI cS ad SS_68 w → va_P (dC, dI) vwCl ((a_g, .inl (cI, 38, .inl ga_68)) :: (a_k, .inl (cI, 38, .inl ka_68)) :: w) H → va_D (fun q : Nat => s.heap.size ≤ q) ((a_g, .inl (cI, 38, .inl ga_68)) :: (a_k, .inl (cI, 38, .inl ka_68)) :: w) → va_S (fun q : Nat => s.heap.size ≤ q) s.heap H locs → lv_has ls 19 [(0, .ref b), (1, .ref (ad 0)), (2, .ref a_g), (3, .ref a_k), (5, .int (r_22_ga 0)), (6, .int x6_68)] → W p l e room_1 s m #[Value.ref b] below meth c H locs 29 472 (lw_Z below #[Value.ref b] s) (F0 m 68 ls []) := by
  obtain ⟨hx, hb, hr, hml, hown, hts0, hX, hbl, hlocks, hgv⟩ := id C0
  have hts : ∀ w ∈ wsL_law, w.before #[Value.ref b] s = true := fun w h => hts0 w (wsL_law_in w h)
  have hbA : ¬ (fun q : Nat => s.heap.size ≤ q) b := Nat.not_le.mpr hbl
  intro n
  induction n with
  | zero => intro x6_68 ga_68 ka_68 SS_68 h1 w H locs ls hI hP hD hS hl; exact (it_0 h1).elim
  | succ n ih_68 =>
    intro x6_68 ga_68 ka_68 SS_68 h1 w H locs ls hI hP hD hS hl
    obtain ⟨t_68, h1, k1⟩ := it4_inv h1
    unfold L_L_law_68 at h1
    refine lv_iload hx hb dL_law_68 (lv_at hl 5 rfl) ?_
    refine lv_bipush (v := 7) hx hb dL_law_70 (by decide) ?_
    refine lv_icmp_ge (tgt := 1411) hx hb dL_law_72 (by decide) (fun c_72 => ?_) (fun c_72 => ?_)
    · have h1 := hp_pos c_72 h1
      cases h1
      obtain ⟨rfl, rfl, rfl⟩ := pj3 k1
      exact after_68 _ _ _ _ hI hP hD hS (lv_sub hl [1, 2, 4] rfl)
    · have h1 := hp_neg c_72 h1
      refine lv_iload hx hb dL_law_75 (lv_at hl 5 rfl) ?_
      obtain ⟨ga_99j, SS_99j, i_99, h1⟩ := ob2_inv h1
      have after_99 : ∀ (w : va_W) (H : Heap) (locs : List Loc) (ls : Array Slot), gI cI cS ad SS_99j w → va_P (dC, dI) vwCl ((a_g, .inl (cI, 38, .inl ga_99j)) :: (a_k, .inl (cI, 38, .inl ka_68)) :: w) H → va_D (fun q : Nat => s.heap.size ≤ q) ((a_g, .inl (cI, 38, .inl ga_99j)) :: (a_k, .inl (cI, 38, .inl ka_68)) :: w) → va_S (fun q : Nat => s.heap.size ≤ q) s.heap H locs → lv_has ls 19 [(0, .ref b), (1, .ref (ad 0)), (2, .ref a_g), (3, .ref a_k), (5, .int (r_22_ga 0)), (6, .int x6_68)] → W p l e room_1 s m #[Value.ref b] below meth c H locs 29 472 (lw_Z below #[Value.ref b] s) (F0 m 99 ls []) := by
        intro w H locs ls hI hP hD hS hl
        refine lv_aload_n hx hb dL_law_99 rfl (lv_at hl 0 rfl) ?_
        refine lv_bipush (v := 13) hx hb dL_law_100 (by decide) ?_
        refine lv_iload hx hb dL_law_102 (lv_at hl 5 rfl) ?_
        refine lv_iadd hx hb dL_law_104 ?_
        obtain ⟨r_105, e_105, h1⟩ := ob1_inv h1
        refine k_XSi (rest := []) ⟨hx, hb, hml, hown, hts⟩ (c_L_cell l e_105) (va_cwS 2 hts gL_law_L_cell rfl rfl rfl khd_L_cell.2 ⟨(Nat.le_of_ble_eq_true rfl), (Nat.le_of_ble_eq_true rfl)⟩) (hX.kept (hS.2.1 b hbl hbA)) hP hS rfl hl.1 rfl (Nat.le_of_ble_eq_true rfl) dL_law_105 ⟨(Nat.le_of_ble_eq_true rfl), (Nat.le_of_ble_eq_true rfl)⟩ (fun H locs hP hS => ?_)
        have hP : va_P (dC, dI) vwCl ((a_g, .inl (cI, 38, .inl ga_99j)) :: (a_k, .inl (cI, 38, .inl ka_68)) :: w) H := hP
        refine lv_istore (lv' := [(7, .int r_105), (0, .ref b), (1, .ref (ad 0)), (2, .ref a_g), (3, .ref a_k), (5, .int (r_22_ga 0)), (6, .int x6_68)]) hx hb dL_law_108 hl (by decide) rfl (fun ls hl => ?_)
        refine lv_aload_n hx hb dL_law_110 rfl (lv_at hl 3 rfl) ?_
        refine lv_bipush (v := 6) hx hb dL_law_111 (by decide) ?_
        refine lv_iconst (v := -1) hx hb dL_law_113 (by decide) ?_
        obtain ⟨r_114, e_114, h1⟩ := ob1_inv h1
        refine k_pSi (rest := []) ⟨hx, hb, hml, hown, hts⟩ (c_L_come l dC dI cI cS a_g e_114) (va_cwS 3 hts gL_law_L_come rfl rfl rfl khd_L_come.2 ⟨(Nat.le_of_ble_eq_true rfl), (Nat.le_of_ble_eq_true rfl)⟩) hK hN hP hD hS [0] rfl rfl rfl hl.1 rfl (Nat.le_of_ble_eq_true rfl) dL_law_114 ⟨(Nat.le_of_ble_eq_true rfl), (Nat.le_of_ble_eq_true rfl)⟩ (fun H locs hf_114 hP hS => ?_)
        have hP : va_P (dC, dI) vwCl ((a_g, .inl (cI, 38, .inl ga_99j)) :: (a_k, .inl (cI, 38, .inl ka_68)) :: w) H := hP
        refine lv_bipush (v := 64) hx hb dL_law_117 (by decide) ?_
        refine lv_isub hx hb dL_law_119 ?_
        refine lv_istore (lv' := [(8, .int (r_114 - (64 : Int32))), (7, .int r_105), (0, .ref b), (1, .ref (ad 0)), (2, .ref a_g), (3, .ref a_k), (5, .int (r_22_ga 0)), (6, .int x6_68)]) hx hb dL_law_120 hl (by decide) rfl (fun ls hl => ?_)
        refine lv_iconst (v := 0) hx hb dL_law_122 (by decide) ?_
        refine lv_istore (lv' := [(9, .int (0 : Int32)), (8, .int (r_114 - (64 : Int32))), (7, .int r_105), (0, .ref b), (1, .ref (ad 0)), (2, .ref a_g), (3, .ref a_k), (5, .int (r_22_ga 0)), (6, .int x6_68)]) hx hb dL_law_123 hl (by decide) rfl (fun ls hl => ?_)
        obtain ⟨i_125, h1⟩ := ob0_inv h1
        have after_125 : ∀ (w : va_W) (H : Heap) (locs : List Loc) (ls : Array Slot), gI cI cS ad SS_99j w → va_P (dC, dI) vwCl ((a_g, .inl (cI, 38, .inl ga_99j)) :: (a_k, .inl (cI, 38, .inl ka_68)) :: w) H → va_D (fun q : Nat => s.heap.size ≤ q) ((a_g, .inl (cI, 38, .inl ga_99j)) :: (a_k, .inl (cI, 38, .inl ka_68)) :: w) → va_S (fun q : Nat => s.heap.size ≤ q) s.heap H locs → lv_has ls 19 [(0, .ref b), (1, .ref (ad 0)), (2, .ref a_g), (3, .ref a_k), (5, .int (r_22_ga 0)), (6, .int x6_68), (7, .int r_105), (8, .int (r_114 - (64 : Int32)))] → W p l e room_1 s m #[Value.ref b] below meth c H locs 29 472 (lw_Z below #[Value.ref b] s) (F0 m 623 ls []) := by
          intro w H locs ls hI hP hD hS hl
          refine lv_aload_n hx hb dL_law_623 rfl (lv_at hl 1 rfl) ?_
          refine lv_iconst (v := 1) hx hb dL_law_624 (by decide) ?_
          obtain ⟨r_625, e_625, h1⟩ := ob1_inv h1
          refine k_GVi (pre := [(a_g, .inl (cI, 38, .inl ga_99j)), (a_k, .inl (cI, 38, .inl ka_68))]) (rest := []) ⟨hx, hb, hml, hown, hts⟩ (A_X4_many l dC dI cI cS ad e_625) (cwV 1 hts gL_law_X4_many rfl rfl rfl khd_X4_many ⟨(Nat.le_of_ble_eq_true rfl), (Nat.le_of_ble_eq_true rfl)⟩) hK hN hI hP hD hS rfl hl.1 rfl (Nat.le_of_ble_eq_true rfl) dL_law_625 ⟨(Nat.le_of_ble_eq_true rfl), (Nat.le_of_ble_eq_true rfl)⟩ (fun H locs w hI hP hD hS => ?_)
          have hP : va_P (dC, dI) vwCl ((a_g, .inl (cI, 38, .inl ga_99j)) :: (a_k, .inl (cI, 38, .inl ka_68)) :: w) H := hP
          have hD : va_D (fun q : Nat => s.heap.size ≤ q) ((a_g, .inl (cI, 38, .inl ga_99j)) :: (a_k, .inl (cI, 38, .inl ka_68)) :: w) := hD
          refine lv_aload_n hx hb dL_law_628 rfl (lv_at hl 2 rfl) ?_
          refine lv_iconst (v := 1) hx hb dL_law_629 (by decide) ?_
          refine va_iald (D := (dC, dI)) hx hb hK hP 0 0 rfl rfl (by unfold vp_in; decide) dL_law_630 ?_
          refine lv_icmp_ne (tgt := 673) hx hb dL_law_631 (by decide) (fun c_631 => ?_) (fun c_631 => ?_)
          · have h1 := hp_neg c_631 h1
            cases h1
          · have h1 := hp_pos c_631 h1
            refine lv_aload_n hx hb dL_law_634 rfl (lv_at hl 1 rfl) ?_
            refine lv_iconst (v := 2) hx hb dL_law_635 (by decide) ?_
            obtain ⟨r_636, e_636, h1⟩ := ob1_inv h1
            refine k_GVi (pre := [(a_g, .inl (cI, 38, .inl ga_99j)), (a_k, .inl (cI, 38, .inl ka_68))]) (rest := []) ⟨hx, hb, hml, hown, hts⟩ (A_X4_many l dC dI cI cS ad e_636) (cwV 1 hts gL_law_X4_many rfl rfl rfl khd_X4_many ⟨(Nat.le_of_ble_eq_true rfl), (Nat.le_of_ble_eq_true rfl)⟩) hK hN hI hP hD hS rfl hl.1 rfl (Nat.le_of_ble_eq_true rfl) dL_law_636 ⟨(Nat.le_of_ble_eq_true rfl), (Nat.le_of_ble_eq_true rfl)⟩ (fun H locs w hI hP hD hS => ?_)
            have hP : va_P (dC, dI) vwCl ((a_g, .inl (cI, 38, .inl ga_99j)) :: (a_k, .inl (cI, 38, .inl ka_68)) :: w) H := hP
            have hD : va_D (fun q : Nat => s.heap.size ≤ q) ((a_g, .inl (cI, 38, .inl ga_99j)) :: (a_k, .inl (cI, 38, .inl ka_68)) :: w) := hD
            refine lv_iload hx hb dL_law_639 (lv_at hl 7 rfl) ?_
            obtain ⟨r_641, e_641, h1⟩ := ob1_inv h1
            refine k_pSi (rest := [.int r_636]) ⟨hx, hb, hml, hown, hts⟩ (c_L_size l dC dI cI cS e_641) (va_cwS 1 hts gL_law_L_size rfl rfl rfl khd_L_size.2 ⟨(Nat.le_of_ble_eq_true rfl), (Nat.le_of_ble_eq_true rfl)⟩) hK hN hP hD hS [] rfl rfl rfl hl.1 rfl (Nat.le_of_ble_eq_true rfl) dL_law_641 ⟨(Nat.le_of_ble_eq_true rfl), (Nat.le_of_ble_eq_true rfl)⟩ (fun H locs hf_641 hP hS => ?_)
            have hP : va_P (dC, dI) vwCl ((a_g, .inl (cI, 38, .inl ga_99j)) :: (a_k, .inl (cI, 38, .inl ka_68)) :: w) H := hP
            refine lv_icmp_ne (tgt := 673) hx hb dL_law_644 (by decide) (fun c_644 => ?_) (fun c_644 => ?_)
            · have h1 := hp_neg c_644 h1
              cases h1
            · have h1 := hp_pos c_644 h1
              refine lv_aload_n hx hb dL_law_647 rfl (lv_at hl 1 rfl) ?_
              refine lv_iconst (v := 3) hx hb dL_law_648 (by decide) ?_
              obtain ⟨r_649, e_649, h1⟩ := ob1_inv h1
              refine k_GVi (pre := [(a_g, .inl (cI, 38, .inl ga_99j)), (a_k, .inl (cI, 38, .inl ka_68))]) (rest := []) ⟨hx, hb, hml, hown, hts⟩ (A_X4_many l dC dI cI cS ad e_649) (cwV 1 hts gL_law_X4_many rfl rfl rfl khd_X4_many ⟨(Nat.le_of_ble_eq_true rfl), (Nat.le_of_ble_eq_true rfl)⟩) hK hN hI hP hD hS rfl hl.1 rfl (Nat.le_of_ble_eq_true rfl) dL_law_649 ⟨(Nat.le_of_ble_eq_true rfl), (Nat.le_of_ble_eq_true rfl)⟩ (fun H locs w hI hP hD hS => ?_)
              have hP : va_P (dC, dI) vwCl ((a_g, .inl (cI, 38, .inl ga_99j)) :: (a_k, .inl (cI, 38, .inl ka_68)) :: w) H := hP
              have hD : va_D (fun q : Nat => s.heap.size ≤ q) ((a_g, .inl (cI, 38, .inl ga_99j)) :: (a_k, .inl (cI, 38, .inl ka_68)) :: w) := hD
              refine lv_aload_n hx hb dL_law_652 rfl (lv_at hl 2 rfl) ?_
              obtain ⟨r_653, e_653, h1⟩ := ob1_inv h1
              refine k_pSi (rest := [.int r_649]) ⟨hx, hb, hml, hown, hts⟩ (c_L_unlawful l dC dI cI cS a_g e_653) (va_cwS 1 hts gL_law_L_unlawful rfl rfl rfl khd_L_unlawful.2 ⟨(Nat.le_of_ble_eq_true rfl), (Nat.le_of_ble_eq_true rfl)⟩) hK hN hP hD hS [0] rfl rfl rfl hl.1 rfl (Nat.le_of_ble_eq_true rfl) dL_law_653 ⟨(Nat.le_of_ble_eq_true rfl), (Nat.le_of_ble_eq_true rfl)⟩ (fun H locs hf_653 hP hS => ?_)
              have hP : va_P (dC, dI) vwCl ((a_g, .inl (cI, 38, .inl ga_99j)) :: (a_k, .inl (cI, 38, .inl ka_68)) :: w) H := hP
              obtain ⟨r_656, e_656, h1⟩ := ob1_inv h1
              refine k_pSi (rest := [.int r_649]) ⟨hx, hb, hml, hown, hts⟩ (c_L_size l dC dI cI cS e_656) (va_cwS 1 hts gL_law_L_size rfl rfl rfl khd_L_size.2 ⟨(Nat.le_of_ble_eq_true rfl), (Nat.le_of_ble_eq_true rfl)⟩) hK hN hP hD hS [] rfl rfl rfl hl.1 rfl (Nat.le_of_ble_eq_true rfl) dL_law_656 ⟨(Nat.le_of_ble_eq_true rfl), (Nat.le_of_ble_eq_true rfl)⟩ (fun H locs hf_656 hP hS => ?_)
              have hP : va_P (dC, dI) vwCl ((a_g, .inl (cI, 38, .inl ga_99j)) :: (a_k, .inl (cI, 38, .inl ka_68)) :: w) H := hP
              refine lv_icmp_ne (tgt := 673) hx hb dL_law_659 (by decide) (fun c_659 => ?_) (fun c_659 => ?_)
              · have h1 := hp_neg c_659 h1
                cases h1
              · have h1 := hp_pos c_659 h1
                refine lv_aload_n hx hb dL_law_662 rfl (lv_at hl 1 rfl) ?_
                obtain ⟨r_663, e_663, h1⟩ := ob1_inv h1
                refine k_GVi (pre := [(a_g, .inl (cI, 38, .inl ga_99j)), (a_k, .inl (cI, 38, .inl ka_68))]) (rest := []) ⟨hx, hb, hml, hown, hts⟩ (A_X4_unlawful l dC dI cI cS ad e_663) (cwV 0 hts gL_law_X4_unlawful rfl rfl rfl khd_X4_unlawful ⟨(Nat.le_of_ble_eq_true rfl), (Nat.le_of_ble_eq_true rfl)⟩) hK hN hI hP hD hS rfl hl.1 rfl (Nat.le_of_ble_eq_true rfl) dL_law_663 ⟨(Nat.le_of_ble_eq_true rfl), (Nat.le_of_ble_eq_true rfl)⟩ (fun H locs w hI hP hD hS => ?_)
                have hP : va_P (dC, dI) vwCl ((a_g, .inl (cI, 38, .inl ga_99j)) :: (a_k, .inl (cI, 38, .inl ka_68)) :: w) H := hP
                have hD : va_D (fun q : Nat => s.heap.size ≤ q) ((a_g, .inl (cI, 38, .inl ga_99j)) :: (a_k, .inl (cI, 38, .inl ka_68)) :: w) := hD
                refine lv_aload_n hx hb dL_law_666 rfl (lv_at hl 2 rfl) ?_
                obtain ⟨r_667, e_667, h1⟩ := ob1_inv h1
                refine k_pSi (rest := [.int r_663]) ⟨hx, hb, hml, hown, hts⟩ (c_L_unlawful l dC dI cI cS a_g e_667) (va_cwS 1 hts gL_law_L_unlawful rfl rfl rfl khd_L_unlawful.2 ⟨(Nat.le_of_ble_eq_true rfl), (Nat.le_of_ble_eq_true rfl)⟩) hK hN hP hD hS [0] rfl rfl rfl hl.1 rfl (Nat.le_of_ble_eq_true rfl) dL_law_667 ⟨(Nat.le_of_ble_eq_true rfl), (Nat.le_of_ble_eq_true rfl)⟩ (fun H locs hf_667 hP hS => ?_)
                have hP : va_P (dC, dI) vwCl ((a_g, .inl (cI, 38, .inl ga_99j)) :: (a_k, .inl (cI, 38, .inl ka_68)) :: w) H := hP
                refine lv_icmp_eq (tgt := 675) hx hb dL_law_670 (by decide) (fun c_670 => ?_) (fun c_670 => ?_)
                · have h1 := hp_pos c_670 h1
                  refine lv_iload hx hb dL_law_675 (lv_at hl 6 rfl) ?_
                  refine lv_iload hx hb dL_law_677 (lv_at hl 6 rfl) ?_
                  refine lv_bipush (v := 9) hx hb dL_law_679 (by decide) ?_
                  refine lv_ishr hx hb dL_law_681 ?_
                  refine lv_iconst (v := 2) hx hb dL_law_682 (by decide) ?_
                  obtain ⟨r_683, e_683, h1⟩ := ob1_inv h1
                  refine k_pSi (rest := [.int r_105]) ⟨hx, hb, hml, hown, hts⟩ (c_L_some l dC dI cI cS e_683) (va_cwS 2 hts gL_law_L_some rfl rfl rfl khd_L_some.2 ⟨(Nat.le_of_ble_eq_true rfl), (Nat.le_of_ble_eq_true rfl)⟩) hK hN hP hD hS [] rfl rfl rfl hl.1 rfl (Nat.le_of_ble_eq_true rfl) dL_law_683 ⟨(Nat.le_of_ble_eq_true rfl), (Nat.le_of_ble_eq_true rfl)⟩ (fun H locs hf_683 hP hS => ?_)
                  have hP : va_P (dC, dI) vwCl ((a_g, .inl (cI, 38, .inl ga_99j)) :: (a_k, .inl (cI, 38, .inl ka_68)) :: w) H := hP
                  obtain ⟨u0_696, i_696, h1⟩ := ob1_inv h1
                  have after_696 : ∀ (w : va_W) (H : Heap) (locs : List Loc) (ls : Array Slot), gI cI cS ad SS_99j w → va_P (dC, dI) vwCl ((a_g, .inl (cI, 38, .inl ga_99j)) :: (a_k, .inl (cI, 38, .inl ka_68)) :: w) H → va_D (fun q : Nat => s.heap.size ≤ q) ((a_g, .inl (cI, 38, .inl ga_99j)) :: (a_k, .inl (cI, 38, .inl ka_68)) :: w) → va_S (fun q : Nat => s.heap.size ≤ q) s.heap H locs → lv_has ls 19 [(0, .ref b), (1, .ref (ad 0)), (2, .ref a_g), (3, .ref a_k), (5, .int (r_22_ga 0)), (6, .int x6_68)] → W p l e room_1 s m #[Value.ref b] below meth c H locs 29 472 (lw_Z below #[Value.ref b] s) (F0 m 696 ls [.int u0_696, .int r_105]) := by
                    intro w H locs ls hI hP hD hS hl
                    obtain ⟨r_696, e_696, h1⟩ := ob1_inv h1
                    refine k_pSi (rest := []) ⟨hx, hb, hml, hown, hts⟩ (c_L_some l dC dI cI cS e_696) (va_cwS 2 hts gL_law_L_some rfl rfl rfl khd_L_some.2 ⟨(Nat.le_of_ble_eq_true rfl), (Nat.le_of_ble_eq_true rfl)⟩) hK hN hP hD hS [] rfl rfl rfl hl.1 rfl (Nat.le_of_ble_eq_true rfl) dL_law_696 ⟨(Nat.le_of_ble_eq_true rfl), (Nat.le_of_ble_eq_true rfl)⟩ (fun H locs hf_696 hP hS => ?_)
                    have hP : va_P (dC, dI) vwCl ((a_g, .inl (cI, 38, .inl ga_99j)) :: (a_k, .inl (cI, 38, .inl ka_68)) :: w) H := hP
                    refine lv_istore (lv' := [(9, .int r_696), (0, .ref b), (1, .ref (ad 0)), (2, .ref a_g), (3, .ref a_k), (5, .int (r_22_ga 0)), (6, .int x6_68)]) hx hb dL_law_699 hl (by decide) rfl (fun ls hl => ?_)
                    refine lv_aload_n hx hb dL_law_701 rfl (lv_at hl 2 rfl) ?_
                    refine lv_iconst (v := 1) hx hb dL_law_702 (by decide) ?_
                    refine lv_iconst (v := 1) hx hb dL_law_703 (by decide) ?_
                    refine lv_bipush (v := 55) hx hb dL_law_704 (by decide) ?_
                    obtain ⟨r_706, r_706_S, e_706, h1⟩ := ob2_inv h1
                    refine k_GVi (pre := [(a_g, .inl (cI, 38, .inl ga_99j)), (a_k, .inl (cI, 38, .inl ka_68))]) (rest := []) ⟨hx, hb, hml, hown, hts⟩ (A_X4_sheet l dC dI cI cS ad e_706) (cwV 3 hts gL_law_X4_sheet rfl rfl rfl khd_X4_sheet ⟨(Nat.le_of_ble_eq_true rfl), (Nat.le_of_ble_eq_true rfl)⟩) hK hN hI hP hD hS rfl hl.1 rfl (Nat.le_of_ble_eq_true rfl) dL_law_706 ⟨(Nat.le_of_ble_eq_true rfl), (Nat.le_of_ble_eq_true rfl)⟩ (fun H locs w hI hP hD hS => ?_)
                    have hP : va_P (dC, dI) vwCl ((a_g, .inl (cI, 38, .inl ga_99j)) :: (a_k, .inl (cI, 38, .inl ka_68)) :: w) H := hP
                    have hD : va_D (fun q : Nat => s.heap.size ≤ q) ((a_g, .inl (cI, 38, .inl ga_99j)) :: (a_k, .inl (cI, 38, .inl ka_68)) :: w) := hD
                    refine lv_iconst (v := 1) hx hb dL_law_709 (by decide) ?_
                    refine lv_icmp_eq (tgt := 715) hx hb dL_law_710 (by decide) (fun c_710 => ?_) (fun c_710 => ?_)
                    · have h1 := hp_pos c_710 h1
                      refine lv_iconst (v := 0) hx hb dL_law_715 (by decide) ?_
                      refine lv_istore (lv' := [(10, .int (0 : Int32)), (9, .int r_696), (0, .ref b), (1, .ref (ad 0)), (2, .ref a_g), (3, .ref a_k), (5, .int (r_22_ga 0)), (6, .int x6_68)]) hx hb dL_law_716 hl (by decide) rfl (fun ls hl => ?_)
                      obtain ⟨ka_718e, i_718, h1⟩ := ob1_inv h1
                      have after_718 : ∀ (w : va_W) (H : Heap) (locs : List Loc) (ls : Array Slot), gI cI cS ad r_706_S w → va_P (dC, dI) vwCl ((a_g, .inl (cI, 38, .inl ga_99j)) :: (a_k, .inl (cI, 38, .inl ka_718e)) :: w) H → va_D (fun q : Nat => s.heap.size ≤ q) ((a_g, .inl (cI, 38, .inl ga_99j)) :: (a_k, .inl (cI, 38, .inl ka_718e)) :: w) → va_S (fun q : Nat => s.heap.size ≤ q) s.heap H locs → lv_has ls 19 [(0, .ref b), (1, .ref (ad 0)), (2, .ref a_g), (3, .ref a_k), (5, .int (r_22_ga 0)), (6, .int x6_68), (9, .int r_696)] → W p l e room_1 s m #[Value.ref b] below meth c H locs 29 472 (lw_Z below #[Value.ref b] s) (F0 m 739 ls []) := by
                        intro w H locs ls hI hP hD hS hl
                        refine lv_bipush (v := -9) hx hb dL_law_739 (by decide) ?_
                        refine lv_istore (lv' := [(10, .int (-9 : Int32)), (0, .ref b), (1, .ref (ad 0)), (2, .ref a_g), (3, .ref a_k), (5, .int (r_22_ga 0)), (6, .int x6_68), (9, .int r_696)]) hx hb dL_law_741 hl (by decide) rfl (fun ls hl => ?_)
                        refine lv_iconst (v := 0) hx hb dL_law_743 (by decide) ?_
                        refine lv_istore (lv' := [(11, .int (0 : Int32)), (10, .int (-9 : Int32)), (0, .ref b), (1, .ref (ad 0)), (2, .ref a_g), (3, .ref a_k), (5, .int (r_22_ga 0)), (6, .int x6_68), (9, .int r_696)]) hx hb dL_law_744 hl (by decide) rfl (fun ls hl => ?_)
                        obtain ⟨y10_746, ga_746e, SS_746e, i_746, h1⟩ := ob3_inv h1
                        have after_746 : ∀ (w : va_W) (H : Heap) (locs : List Loc) (ls : Array Slot), gI cI cS ad SS_746e w → va_P (dC, dI) vwCl ((a_g, .inl (cI, 38, .inl ga_746e)) :: (a_k, .inl (cI, 38, .inl ka_718e)) :: w) H → va_D (fun q : Nat => s.heap.size ≤ q) ((a_g, .inl (cI, 38, .inl ga_746e)) :: (a_k, .inl (cI, 38, .inl ka_718e)) :: w) → va_S (fun q : Nat => s.heap.size ≤ q) s.heap H locs → lv_has ls 19 [(0, .ref b), (1, .ref (ad 0)), (2, .ref a_g), (3, .ref a_k), (5, .int (r_22_ga 0)), (6, .int x6_68), (9, .int r_696), (10, .int y10_746)] → W p l e room_1 s m #[Value.ref b] below meth c H locs 29 472 (lw_Z below #[Value.ref b] s) (F0 m 1097 ls []) := by
                          intro w H locs ls hI hP hD hS hl
                          refine lv_iconst (v := 0) hx hb dL_law_1097 (by decide) ?_
                          refine lv_istore (lv' := [(11, .int (0 : Int32)), (0, .ref b), (1, .ref (ad 0)), (2, .ref a_g), (3, .ref a_k), (5, .int (r_22_ga 0)), (6, .int x6_68), (9, .int r_696), (10, .int y10_746)]) hx hb dL_law_1098 hl (by decide) rfl (fun ls hl => ?_)
                          refine lv_iconst (v := 0) hx hb dL_law_1100 (by decide) ?_
                          refine lv_istore (lv' := [(12, .int (0 : Int32)), (11, .int (0 : Int32)), (0, .ref b), (1, .ref (ad 0)), (2, .ref a_g), (3, .ref a_k), (5, .int (r_22_ga 0)), (6, .int x6_68), (9, .int r_696), (10, .int y10_746)]) hx hb dL_law_1101 hl (by decide) rfl (fun ls hl => ?_)
                          obtain ⟨y11_1103, i_1103, h1⟩ := ob1_inv h1
                          have after_1103 : ∀ (w : va_W) (H : Heap) (locs : List Loc) (ls : Array Slot), gI cI cS ad SS_746e w → va_P (dC, dI) vwCl ((a_g, .inl (cI, 38, .inl ga_746e)) :: (a_k, .inl (cI, 38, .inl ka_718e)) :: w) H → va_D (fun q : Nat => s.heap.size ≤ q) ((a_g, .inl (cI, 38, .inl ga_746e)) :: (a_k, .inl (cI, 38, .inl ka_718e)) :: w) → va_S (fun q : Nat => s.heap.size ≤ q) s.heap H locs → lv_has ls 19 [(0, .ref b), (1, .ref (ad 0)), (2, .ref a_g), (3, .ref a_k), (5, .int (r_22_ga 0)), (6, .int x6_68), (9, .int r_696), (10, .int y10_746), (11, .int y11_1103)] → W p l e room_1 s m #[Value.ref b] below meth c H locs 29 472 (lw_Z below #[Value.ref b] s) (F0 m 1135 ls []) := by
                            intro w H locs ls hI hP hD hS hl
                            refine lv_bipush (v := -100) hx hb dL_law_1135 (by decide) ?_
                            refine lv_iload hx hb dL_law_1137 (lv_at hl 7 rfl) ?_
                            refine lv_isub hx hb dL_law_1139 ?_
                            refine lv_istore (lv' := [(12, .int ((-100 : Int32) - y10_746)), (0, .ref b), (1, .ref (ad 0)), (2, .ref a_g), (3, .ref a_k), (5, .int (r_22_ga 0)), (6, .int x6_68), (9, .int r_696), (10, .int y10_746), (11, .int y11_1103)]) hx hb dL_law_1140 hl (by decide) rfl (fun ls hl => ?_)
                            refine lv_aload_n hx hb dL_law_1142 rfl (lv_at hl 2 rfl) ?_
                            refine lv_iconst (v := 1) hx hb dL_law_1143 (by decide) ?_
                            refine lv_iconst (v := 1) hx hb dL_law_1144 (by decide) ?_
                            refine lv_iconst (v := 4) hx hb dL_law_1145 (by decide) ?_
                            refine lv_iload hx hb dL_law_1146 (lv_at hl 7 rfl) ?_
                            refine lv_iconst (v := 1) hx hb dL_law_1148 (by decide) ?_
                            obtain ⟨r_1149, e_1149, h1⟩ := ob1_inv h1
                            refine k_GVi (pre := [(a_g, .inl (cI, 38, .inl ga_746e)), (a_k, .inl (cI, 38, .inl ka_718e))]) (rest := []) ⟨hx, hb, hml, hown, hts⟩ (A_X4_day l dC dI cI cS ad e_1149) (cwV 5 hts gL_law_X4_day rfl rfl rfl khd_X4_day ⟨(Nat.le_of_ble_eq_true rfl), (Nat.le_of_ble_eq_true rfl)⟩) hK hN hI hP hD hS rfl hl.1 rfl (Nat.le_of_ble_eq_true rfl) dL_law_1149 ⟨(Nat.le_of_ble_eq_true rfl), (Nat.le_of_ble_eq_true rfl)⟩ (fun H locs w hI hP hD hS => ?_)
                            have hP : va_P (dC, dI) vwCl ((a_g, .inl (cI, 38, .inl ga_746e)) :: (a_k, .inl (cI, 38, .inl ka_718e)) :: w) H := hP
                            have hD : va_D (fun q : Nat => s.heap.size ≤ q) ((a_g, .inl (cI, 38, .inl ga_746e)) :: (a_k, .inl (cI, 38, .inl ka_718e)) :: w) := hD
                            refine lv_iload hx hb dL_law_1152 (lv_at hl 8 rfl) ?_
                            refine lv_icmp_ne (tgt := 1268) hx hb dL_law_1154 (by decide) (fun c_1154 => ?_) (fun c_1154 => ?_)
                            · have h1 := hp_neg c_1154 h1
                              cases h1
                            · have h1 := hp_pos c_1154 h1
                              refine lv_aload_n hx hb dL_law_1157 rfl (lv_at hl 2 rfl) ?_
                              refine lv_iconst (v := 1) hx hb dL_law_1158 (by decide) ?_
                              refine lv_iconst (v := 1) hx hb dL_law_1159 (by decide) ?_
                              refine lv_iconst (v := 4) hx hb dL_law_1160 (by decide) ?_
                              refine lv_iload hx hb dL_law_1161 (lv_at hl 7 rfl) ?_
                              refine lv_iconst (v := 0) hx hb dL_law_1163 (by decide) ?_
                              obtain ⟨r_1164, e_1164, h1⟩ := ob1_inv h1
                              refine k_GVi (pre := [(a_g, .inl (cI, 38, .inl ga_746e)), (a_k, .inl (cI, 38, .inl ka_718e))]) (rest := []) ⟨hx, hb, hml, hown, hts⟩ (A_X4_day l dC dI cI cS ad e_1164) (cwV 5 hts gL_law_X4_day rfl rfl rfl khd_X4_day ⟨(Nat.le_of_ble_eq_true rfl), (Nat.le_of_ble_eq_true rfl)⟩) hK hN hI hP hD hS rfl hl.1 rfl (Nat.le_of_ble_eq_true rfl) dL_law_1164 ⟨(Nat.le_of_ble_eq_true rfl), (Nat.le_of_ble_eq_true rfl)⟩ (fun H locs w hI hP hD hS => ?_)
                              have hP : va_P (dC, dI) vwCl ((a_g, .inl (cI, 38, .inl ga_746e)) :: (a_k, .inl (cI, 38, .inl ka_718e)) :: w) H := hP
                              have hD : va_D (fun q : Nat => s.heap.size ≤ q) ((a_g, .inl (cI, 38, .inl ga_746e)) :: (a_k, .inl (cI, 38, .inl ka_718e)) :: w) := hD
                              refine lv_iload hx hb dL_law_1167 (lv_at hl 8 rfl) ?_
                              obtain ⟨u0_1180, i_1180, h1⟩ := ob1_inv h1
                              have after_1180 : ∀ (w : va_W) (H : Heap) (locs : List Loc) (ls : Array Slot), gI cI cS ad SS_746e w → va_P (dC, dI) vwCl ((a_g, .inl (cI, 38, .inl ga_746e)) :: (a_k, .inl (cI, 38, .inl ka_718e)) :: w) H → va_D (fun q : Nat => s.heap.size ≤ q) ((a_g, .inl (cI, 38, .inl ga_746e)) :: (a_k, .inl (cI, 38, .inl ka_718e)) :: w) → va_S (fun q : Nat => s.heap.size ≤ q) s.heap H locs → lv_has ls 19 [(0, .ref b), (1, .ref (ad 0)), (2, .ref a_g), (3, .ref a_k), (5, .int (r_22_ga 0)), (6, .int x6_68), (9, .int r_696), (10, .int y10_746), (11, .int y11_1103), (12, .int ((-100 : Int32) - y10_746))] → W p l e room_1 s m #[Value.ref b] below meth c H locs 29 472 (lw_Z below #[Value.ref b] s) (F0 m 1180 ls [.int u0_1180, .int r_1164]) := by
                                intro w H locs ls hI hP hD hS hl
                                refine lv_icmp_ne (tgt := 1268) hx hb dL_law_1180 (by decide) (fun c_1180 => ?_) (fun c_1180 => ?_)
                                · have h1 := hp_neg c_1180 h1
                                  cases h1
                                · have h1 := hp_pos c_1180 h1
                                  refine lv_aload_n hx hb dL_law_1183 rfl (lv_at hl 1 rfl) ?_
                                  refine lv_iconst (v := 1) hx hb dL_law_1184 (by decide) ?_
                                  refine lv_iconst (v := 1) hx hb dL_law_1185 (by decide) ?_
                                  refine lv_iconst (v := 4) hx hb dL_law_1186 (by decide) ?_
                                  refine lv_iload hx hb dL_law_1187 (lv_at hl 6 rfl) ?_
                                  refine lv_iconst (v := 2) hx hb dL_law_1189 (by decide) ?_
                                  obtain ⟨r_1190, e_1190, h1⟩ := ob1_inv h1
                                  refine k_GVi (pre := [(a_g, .inl (cI, 38, .inl ga_746e)), (a_k, .inl (cI, 38, .inl ka_718e))]) (rest := []) ⟨hx, hb, hml, hown, hts⟩ (A_X4_day l dC dI cI cS ad e_1190) (cwV 5 hts gL_law_X4_day rfl rfl rfl khd_X4_day ⟨(Nat.le_of_ble_eq_true rfl), (Nat.le_of_ble_eq_true rfl)⟩) hK hN hI hP hD hS rfl hl.1 rfl (Nat.le_of_ble_eq_true rfl) dL_law_1190 ⟨(Nat.le_of_ble_eq_true rfl), (Nat.le_of_ble_eq_true rfl)⟩ (fun H locs w hI hP hD hS => ?_)
                                  have hP : va_P (dC, dI) vwCl ((a_g, .inl (cI, 38, .inl ga_746e)) :: (a_k, .inl (cI, 38, .inl ka_718e)) :: w) H := hP
                                  have hD : va_D (fun q : Nat => s.heap.size ≤ q) ((a_g, .inl (cI, 38, .inl ga_746e)) :: (a_k, .inl (cI, 38, .inl ka_718e)) :: w) := hD
                                  refine lv_iload hx hb dL_law_1193 (lv_at hl 7 rfl) ?_
                                  obtain ⟨u0_1207, i_1207, h1⟩ := ob1_inv h1
                                  have after_1207 : ∀ (w : va_W) (H : Heap) (locs : List Loc) (ls : Array Slot), gI cI cS ad SS_746e w → va_P (dC, dI) vwCl ((a_g, .inl (cI, 38, .inl ga_746e)) :: (a_k, .inl (cI, 38, .inl ka_718e)) :: w) H → va_D (fun q : Nat => s.heap.size ≤ q) ((a_g, .inl (cI, 38, .inl ga_746e)) :: (a_k, .inl (cI, 38, .inl ka_718e)) :: w) → va_S (fun q : Nat => s.heap.size ≤ q) s.heap H locs → lv_has ls 19 [(0, .ref b), (1, .ref (ad 0)), (2, .ref a_g), (3, .ref a_k), (5, .int (r_22_ga 0)), (6, .int x6_68), (9, .int r_696), (10, .int y10_746), (11, .int y11_1103), (12, .int ((-100 : Int32) - y10_746))] → W p l e room_1 s m #[Value.ref b] below meth c H locs 29 472 (lw_Z below #[Value.ref b] s) (F0 m 1207 ls [.int u0_1207, .int r_1190]) := by
                                    intro w H locs ls hI hP hD hS hl
                                    refine lv_icmp_ne (tgt := 1268) hx hb dL_law_1207 (by decide) (fun c_1207 => ?_) (fun c_1207 => ?_)
                                    · have h1 := hp_neg c_1207 h1
                                      cases h1
                                    · have h1 := hp_pos c_1207 h1
                                      refine lv_aload_n hx hb dL_law_1210 rfl (lv_at hl 1 rfl) ?_
                                      refine lv_iconst (v := 1) hx hb dL_law_1211 (by decide) ?_
                                      refine lv_iconst (v := 1) hx hb dL_law_1212 (by decide) ?_
                                      refine lv_iconst (v := 4) hx hb dL_law_1213 (by decide) ?_
                                      refine lv_iload hx hb dL_law_1214 (lv_at hl 6 rfl) ?_
                                      refine lv_iconst (v := 3) hx hb dL_law_1216 (by decide) ?_
                                      obtain ⟨r_1217, e_1217, h1⟩ := ob1_inv h1
                                      refine k_GVi (pre := [(a_g, .inl (cI, 38, .inl ga_746e)), (a_k, .inl (cI, 38, .inl ka_718e))]) (rest := []) ⟨hx, hb, hml, hown, hts⟩ (A_X4_day l dC dI cI cS ad e_1217) (cwV 5 hts gL_law_X4_day rfl rfl rfl khd_X4_day ⟨(Nat.le_of_ble_eq_true rfl), (Nat.le_of_ble_eq_true rfl)⟩) hK hN hI hP hD hS rfl hl.1 rfl (Nat.le_of_ble_eq_true rfl) dL_law_1217 ⟨(Nat.le_of_ble_eq_true rfl), (Nat.le_of_ble_eq_true rfl)⟩ (fun H locs w hI hP hD hS => ?_)
                                      have hP : va_P (dC, dI) vwCl ((a_g, .inl (cI, 38, .inl ga_746e)) :: (a_k, .inl (cI, 38, .inl ka_718e)) :: w) H := hP
                                      have hD : va_D (fun q : Nat => s.heap.size ≤ q) ((a_g, .inl (cI, 38, .inl ga_746e)) :: (a_k, .inl (cI, 38, .inl ka_718e)) :: w) := hD
                                      refine lv_iload hx hb dL_law_1220 (lv_at hl 7 rfl) ?_
                                      obtain ⟨u0_1240, i_1240, h1⟩ := ob1_inv h1
                                      have after_1240 : ∀ (w : va_W) (H : Heap) (locs : List Loc) (ls : Array Slot), gI cI cS ad SS_746e w → va_P (dC, dI) vwCl ((a_g, .inl (cI, 38, .inl ga_746e)) :: (a_k, .inl (cI, 38, .inl ka_718e)) :: w) H → va_D (fun q : Nat => s.heap.size ≤ q) ((a_g, .inl (cI, 38, .inl ga_746e)) :: (a_k, .inl (cI, 38, .inl ka_718e)) :: w) → va_S (fun q : Nat => s.heap.size ≤ q) s.heap H locs → lv_has ls 19 [(0, .ref b), (1, .ref (ad 0)), (2, .ref a_g), (3, .ref a_k), (5, .int (r_22_ga 0)), (6, .int x6_68), (9, .int r_696), (10, .int y10_746), (11, .int y11_1103), (12, .int ((-100 : Int32) - y10_746))] → W p l e room_1 s m #[Value.ref b] below meth c H locs 29 472 (lw_Z below #[Value.ref b] s) (F0 m 1240 ls [.int u0_1240, .int r_1217]) := by
                                        intro w H locs ls hI hP hD hS hl
                                        refine lv_icmp_ne (tgt := 1268) hx hb dL_law_1240 (by decide) (fun c_1240 => ?_) (fun c_1240 => ?_)
                                        · have h1 := hp_neg c_1240 h1
                                          cases h1
                                        · have h1 := hp_pos c_1240 h1
                                          refine lv_aload_n hx hb dL_law_1243 rfl (lv_at hl 1 rfl) ?_
                                          refine lv_iconst (v := 1) hx hb dL_law_1244 (by decide) ?_
                                          refine lv_iconst (v := 1) hx hb dL_law_1245 (by decide) ?_
                                          refine lv_iconst (v := 4) hx hb dL_law_1246 (by decide) ?_
                                          refine lv_iload hx hb dL_law_1247 (lv_at hl 6 rfl) ?_
                                          refine lv_iconst (v := 4) hx hb dL_law_1249 (by decide) ?_
                                          obtain ⟨r_1250, e_1250, h1⟩ := ob1_inv h1
                                          refine k_GVi (pre := [(a_g, .inl (cI, 38, .inl ga_746e)), (a_k, .inl (cI, 38, .inl ka_718e))]) (rest := []) ⟨hx, hb, hml, hown, hts⟩ (A_X4_day l dC dI cI cS ad e_1250) (cwV 5 hts gL_law_X4_day rfl rfl rfl khd_X4_day ⟨(Nat.le_of_ble_eq_true rfl), (Nat.le_of_ble_eq_true rfl)⟩) hK hN hI hP hD hS rfl hl.1 rfl (Nat.le_of_ble_eq_true rfl) dL_law_1250 ⟨(Nat.le_of_ble_eq_true rfl), (Nat.le_of_ble_eq_true rfl)⟩ (fun H locs w hI hP hD hS => ?_)
                                          have hP : va_P (dC, dI) vwCl ((a_g, .inl (cI, 38, .inl ga_746e)) :: (a_k, .inl (cI, 38, .inl ka_718e)) :: w) H := hP
                                          have hD : va_D (fun q : Nat => s.heap.size ≤ q) ((a_g, .inl (cI, 38, .inl ga_746e)) :: (a_k, .inl (cI, 38, .inl ka_718e)) :: w) := hD
                                          refine lv_iload hx hb dL_law_1253 (lv_at hl 7 rfl) ?_
                                          obtain ⟨u0_1265, i_1265, h1⟩ := ob1_inv h1
                                          have after_1265 : ∀ (w : va_W) (H : Heap) (locs : List Loc) (ls : Array Slot), gI cI cS ad SS_746e w → va_P (dC, dI) vwCl ((a_g, .inl (cI, 38, .inl ga_746e)) :: (a_k, .inl (cI, 38, .inl ka_718e)) :: w) H → va_D (fun q : Nat => s.heap.size ≤ q) ((a_g, .inl (cI, 38, .inl ga_746e)) :: (a_k, .inl (cI, 38, .inl ka_718e)) :: w) → va_S (fun q : Nat => s.heap.size ≤ q) s.heap H locs → lv_has ls 19 [(0, .ref b), (1, .ref (ad 0)), (2, .ref a_g), (3, .ref a_k), (5, .int (r_22_ga 0)), (6, .int x6_68), (9, .int r_696), (10, .int y10_746), (12, .int ((-100 : Int32) - y10_746))] → W p l e room_1 s m #[Value.ref b] below meth c H locs 29 472 (lw_Z below #[Value.ref b] s) (F0 m 1265 ls [.int u0_1265, .int r_1250]) := by
                                            intro w H locs ls hI hP hD hS hl
                                            refine lv_icmp_eq (tgt := 1270) hx hb dL_law_1265 (by decide) (fun c_1265 => ?_) (fun c_1265 => ?_)
                                            · have h1 := hp_pos c_1265 h1
                                              refine lv_iconst (v := 0) hx hb dL_law_1270 (by decide) ?_
                                              refine lv_istore (lv' := [(13, .int (0 : Int32)), (0, .ref b), (1, .ref (ad 0)), (2, .ref a_g), (3, .ref a_k), (5, .int (r_22_ga 0)), (6, .int x6_68), (9, .int r_696), (10, .int y10_746), (12, .int ((-100 : Int32) - y10_746))]) hx hb dL_law_1271 hl (by decide) rfl (fun ls hl => ?_)
                                              obtain ⟨i_1273, h1⟩ := ob0_inv h1
                                              have after_1273 : ∀ (w : va_W) (H : Heap) (locs : List Loc) (ls : Array Slot), gI cI cS ad SS_746e w → va_P (dC, dI) vwCl ((a_g, .inl (cI, 38, .inl ga_746e)) :: (a_k, .inl (cI, 38, .inl ka_718e)) :: w) H → va_D (fun q : Nat => s.heap.size ≤ q) ((a_g, .inl (cI, 38, .inl ga_746e)) :: (a_k, .inl (cI, 38, .inl ka_718e)) :: w) → va_S (fun q : Nat => s.heap.size ≤ q) s.heap H locs → lv_has ls 19 [(0, .ref b), (1, .ref (ad 0)), (2, .ref a_g), (3, .ref a_k), (5, .int (r_22_ga 0)), (6, .int x6_68)] → W p l e room_1 s m #[Value.ref b] below meth c H locs 29 472 (lw_Z below #[Value.ref b] s) (F0 m 1334 ls []) := by
                                                intro w H locs ls hI hP hD hS hl
                                                refine lv_iconst (v := 0) hx hb dL_law_1334 (by decide) ?_
                                                refine lv_istore (lv' := [(13, .int (0 : Int32)), (0, .ref b), (1, .ref (ad 0)), (2, .ref a_g), (3, .ref a_k), (5, .int (r_22_ga 0)), (6, .int x6_68)]) hx hb dL_law_1335 hl (by decide) rfl (fun ls hl => ?_)
                                                obtain ⟨ga_1337e, i_1337, h1⟩ := ob1_inv h1
                                                have after_1337 : ∀ (w : va_W) (H : Heap) (locs : List Loc) (ls : Array Slot), gI cI cS ad SS_746e w → va_P (dC, dI) vwCl ((a_g, .inl (cI, 38, .inl ga_1337e)) :: (a_k, .inl (cI, 38, .inl ka_718e)) :: w) H → va_D (fun q : Nat => s.heap.size ≤ q) ((a_g, .inl (cI, 38, .inl ga_1337e)) :: (a_k, .inl (cI, 38, .inl ka_718e)) :: w) → va_S (fun q : Nat => s.heap.size ≤ q) s.heap H locs → lv_has ls 19 [(0, .ref b), (1, .ref (ad 0)), (2, .ref a_g), (3, .ref a_k), (5, .int (r_22_ga 0)), (6, .int x6_68)] → W p l e room_1 s m #[Value.ref b] below meth c H locs 29 472 (lw_Z below #[Value.ref b] s) (F0 m 1358 ls []) := by
                                                  intro w H locs ls hI hP hD hS hl
                                                  refine lv_aload_n hx hb dL_law_1358 rfl (lv_at hl 1 rfl) ?_
                                                  refine lv_iconst (v := 1) hx hb dL_law_1359 (by decide) ?_
                                                  obtain ⟨r_1360, e_1360, h1⟩ := ob1_inv h1
                                                  refine k_GVi (pre := [(a_g, .inl (cI, 38, .inl ga_1337e)), (a_k, .inl (cI, 38, .inl ka_718e))]) (rest := []) ⟨hx, hb, hml, hown, hts⟩ (A_X4_many l dC dI cI cS ad e_1360) (cwV 1 hts gL_law_X4_many rfl rfl rfl khd_X4_many ⟨(Nat.le_of_ble_eq_true rfl), (Nat.le_of_ble_eq_true rfl)⟩) hK hN hI hP hD hS rfl hl.1 rfl (Nat.le_of_ble_eq_true rfl) dL_law_1360 ⟨(Nat.le_of_ble_eq_true rfl), (Nat.le_of_ble_eq_true rfl)⟩ (fun H locs w hI hP hD hS => ?_)
                                                  have hP : va_P (dC, dI) vwCl ((a_g, .inl (cI, 38, .inl ga_1337e)) :: (a_k, .inl (cI, 38, .inl ka_718e)) :: w) H := hP
                                                  have hD : va_D (fun q : Nat => s.heap.size ≤ q) ((a_g, .inl (cI, 38, .inl ga_1337e)) :: (a_k, .inl (cI, 38, .inl ka_718e)) :: w) := hD
                                                  refine lv_aload_n hx hb dL_law_1363 rfl (lv_at hl 2 rfl) ?_
                                                  refine lv_iconst (v := 1) hx hb dL_law_1364 (by decide) ?_
                                                  refine va_iald (D := (dC, dI)) hx hb hK hP 0 0 rfl rfl (by unfold vp_in; decide) dL_law_1365 ?_
                                                  refine lv_icmp_ne (tgt := 1403) hx hb dL_law_1366 (by decide) (fun c_1366 => ?_) (fun c_1366 => ?_)
                                                  · have h1 := hp_neg c_1366 h1
                                                    cases h1
                                                  · have h1 := hp_pos c_1366 h1
                                                    refine lv_aload_n hx hb dL_law_1369 rfl (lv_at hl 1 rfl) ?_
                                                    refine lv_iconst (v := 3) hx hb dL_law_1370 (by decide) ?_
                                                    obtain ⟨r_1371, e_1371, h1⟩ := ob1_inv h1
                                                    refine k_GVi (pre := [(a_g, .inl (cI, 38, .inl ga_1337e)), (a_k, .inl (cI, 38, .inl ka_718e))]) (rest := []) ⟨hx, hb, hml, hown, hts⟩ (A_X4_many l dC dI cI cS ad e_1371) (cwV 1 hts gL_law_X4_many rfl rfl rfl khd_X4_many ⟨(Nat.le_of_ble_eq_true rfl), (Nat.le_of_ble_eq_true rfl)⟩) hK hN hI hP hD hS rfl hl.1 rfl (Nat.le_of_ble_eq_true rfl) dL_law_1371 ⟨(Nat.le_of_ble_eq_true rfl), (Nat.le_of_ble_eq_true rfl)⟩ (fun H locs w hI hP hD hS => ?_)
                                                    have hP : va_P (dC, dI) vwCl ((a_g, .inl (cI, 38, .inl ga_1337e)) :: (a_k, .inl (cI, 38, .inl ka_718e)) :: w) H := hP
                                                    have hD : va_D (fun q : Nat => s.heap.size ≤ q) ((a_g, .inl (cI, 38, .inl ga_1337e)) :: (a_k, .inl (cI, 38, .inl ka_718e)) :: w) := hD
                                                    refine lv_aload_n hx hb dL_law_1374 rfl (lv_at hl 2 rfl) ?_
                                                    obtain ⟨r_1375, e_1375, h1⟩ := ob1_inv h1
                                                    refine k_pSi (rest := [.int r_1371]) ⟨hx, hb, hml, hown, hts⟩ (c_L_unlawful l dC dI cI cS a_g e_1375) (va_cwS 1 hts gL_law_L_unlawful rfl rfl rfl khd_L_unlawful.2 ⟨(Nat.le_of_ble_eq_true rfl), (Nat.le_of_ble_eq_true rfl)⟩) hK hN hP hD hS [0] rfl rfl rfl hl.1 rfl (Nat.le_of_ble_eq_true rfl) dL_law_1375 ⟨(Nat.le_of_ble_eq_true rfl), (Nat.le_of_ble_eq_true rfl)⟩ (fun H locs hf_1375 hP hS => ?_)
                                                    have hP : va_P (dC, dI) vwCl ((a_g, .inl (cI, 38, .inl ga_1337e)) :: (a_k, .inl (cI, 38, .inl ka_718e)) :: w) H := hP
                                                    obtain ⟨r_1378, e_1378, h1⟩ := ob1_inv h1
                                                    refine k_pSi (rest := [.int r_1371]) ⟨hx, hb, hml, hown, hts⟩ (c_L_size l dC dI cI cS e_1378) (va_cwS 1 hts gL_law_L_size rfl rfl rfl khd_L_size.2 ⟨(Nat.le_of_ble_eq_true rfl), (Nat.le_of_ble_eq_true rfl)⟩) hK hN hP hD hS [] rfl rfl rfl hl.1 rfl (Nat.le_of_ble_eq_true rfl) dL_law_1378 ⟨(Nat.le_of_ble_eq_true rfl), (Nat.le_of_ble_eq_true rfl)⟩ (fun H locs hf_1378 hP hS => ?_)
                                                    have hP : va_P (dC, dI) vwCl ((a_g, .inl (cI, 38, .inl ga_1337e)) :: (a_k, .inl (cI, 38, .inl ka_718e)) :: w) H := hP
                                                    refine lv_icmp_ne (tgt := 1403) hx hb dL_law_1381 (by decide) (fun c_1381 => ?_) (fun c_1381 => ?_)
                                                    · have h1 := hp_neg c_1381 h1
                                                      cases h1
                                                    · have h1 := hp_pos c_1381 h1
                                                      refine lv_aload_n hx hb dL_law_1384 rfl (lv_at hl 1 rfl) ?_
                                                      refine lv_iload hx hb dL_law_1385 (lv_at hl 4 rfl) ?_
                                                      refine lv_iconst (v := 1) hx hb dL_law_1387 (by decide) ?_
                                                      refine lv_isub hx hb dL_law_1388 ?_
                                                      refine lv_iconst (v := 1) hx hb dL_law_1389 (by decide) ?_
                                                      obtain ⟨r_1390, e_1390, h1⟩ := ob1_inv h1
                                                      refine k_GVi (pre := [(a_g, .inl (cI, 38, .inl ga_1337e)), (a_k, .inl (cI, 38, .inl ka_718e))]) (rest := []) ⟨hx, hb, hml, hown, hts⟩ (A_X4_ofThing l dC dI cI cS ad e_1390) (cwV 2 hts gL_law_X4_ofThing rfl rfl rfl khd_X4_ofThing ⟨(Nat.le_of_ble_eq_true rfl), (Nat.le_of_ble_eq_true rfl)⟩) hK hN hI hP hD hS rfl hl.1 rfl (Nat.le_of_ble_eq_true rfl) dL_law_1390 ⟨(Nat.le_of_ble_eq_true rfl), (Nat.le_of_ble_eq_true rfl)⟩ (fun H locs w hI hP hD hS => ?_)
                                                      have hP : va_P (dC, dI) vwCl ((a_g, .inl (cI, 38, .inl ga_1337e)) :: (a_k, .inl (cI, 38, .inl ka_718e)) :: w) H := hP
                                                      have hD : va_D (fun q : Nat => s.heap.size ≤ q) ((a_g, .inl (cI, 38, .inl ga_1337e)) :: (a_k, .inl (cI, 38, .inl ka_718e)) :: w) := hD
                                                      refine lv_aload_n hx hb dL_law_1393 rfl (lv_at hl 2 rfl) ?_
                                                      refine lv_bipush (v := 7) hx hb dL_law_1394 (by decide) ?_
                                                      refine lv_iload hx hb dL_law_1396 (lv_at hl 4 rfl) ?_
                                                      refine lv_iadd hx hb dL_law_1398 ?_
                                                      have g_1399 := hg_no h1
                                                      have h1 := hg_yes h1
                                                      refine va_iald (D := (dC, dI)) hx hb hK hP 0 0 rfl rfl g_1399 dL_law_1399 ?_
                                                      refine lv_icmp_eq (tgt := 1405) hx hb dL_law_1400 (by decide) (fun c_1400 => ?_) (fun c_1400 => ?_)
                                                      · have h1 := hp_pos c_1400 h1
                                                        refine lv_iinc (v := (x6_68 + (1 : Int32))) (lv' := [(6, .int (x6_68 + (1 : Int32))), (0, .ref b), (1, .ref (ad 0)), (2, .ref a_g), (3, .ref a_k), (5, .int (r_22_ga 0))]) hx hb dL_law_1405 hl (k := 5) rfl rfl (by decide) rfl (fun ls hl => ?_)
                                                        refine lv_goto (tgt := 68) hx hb dL_law_1408 (by decide) ?_
                                                        cases h1
                                                        exact ih_68 _ _ _ _ k1 _ _ _ _ hI hP hD hS (lv_sub hl [1, 2, 3, 4, 5, 0] rfl)
                                                      · have h1 := hp_neg c_1400 h1
                                                        cases h1
                                                exact lq_1337 C0 hK hN after_1337 FUEL _ _ i_1337 _ _ _ _ hI hP hD hS (lv_sub hl [1, 2, 3, 4, 5, 6, 0] rfl)
                                              exact lq_1273 C0 hK hN after_1273 FUEL _ i_1273 _ _ _ _ hI hP hD hS (lv_sub hl [1, 2, 3, 4, 5, 6, 7, 8, 9, 0] rfl)
                                            · have h1 := hp_neg c_1265 h1
                                              cases h1
                                          have h2 := i_1265
                                          refine lv_if_ge (tgt := 1263) hx hb dL_law_1255 (by decide) (fun c_1255 => ?_) (fun c_1255 => ?_)
                                          · have h2 := hp_pos c_1255 h2
                                            refine lv_iload hx hb dL_law_1263 (lv_at hl 9 rfl) ?_
                                            obtain rfl := Option.some.inj h2
                                            exact after_1265 _ _ _ _ hI hP hD hS (lv_sub hl [0, 1, 2, 3, 4, 5, 6, 7, 9] rfl)
                                          · have h2 := hp_neg c_1255 h2
                                            refine lv_iload hx hb dL_law_1258 (lv_at hl 8 rfl) ?_
                                            refine lv_goto (tgt := 1265) hx hb dL_law_1260 (by decide) ?_
                                            obtain rfl := Option.some.inj h2
                                            exact after_1265 _ _ _ _ hI hP hD hS (lv_sub hl [0, 1, 2, 3, 4, 5, 6, 7, 9] rfl)
                                      have h2 := i_1240
                                      refine lv_if_ge (tgt := 1238) hx hb dL_law_1222 (by decide) (fun c_1222 => ?_) (fun c_1222 => ?_)
                                      · have h2 := hp_pos c_1222 h2
                                        refine lv_iload hx hb dL_law_1238 (lv_at hl 9 rfl) ?_
                                        obtain rfl := Option.some.inj h2
                                        exact after_1240 _ _ _ _ hI hP hD hS (lv_sub hl [0, 1, 2, 3, 4, 5, 6, 7, 8, 9] rfl)
                                      · have h2 := hp_neg c_1222 h2
                                        refine lv_aload_n hx hb dL_law_1225 rfl (lv_at hl 2 rfl) ?_
                                        refine lv_bipush (v := 6) hx hb dL_law_1226 (by decide) ?_
                                        refine lv_iconst (v := -1) hx hb dL_law_1228 (by decide) ?_
                                        obtain ⟨r_1229, e_1229, h2⟩ := ob1_inv h2
                                        refine k_pSi (rest := [.int r_1217]) ⟨hx, hb, hml, hown, hts⟩ (c_L_come l dC dI cI cS a_g e_1229) (va_cwS 3 hts gL_law_L_come rfl rfl rfl khd_L_come.2 ⟨(Nat.le_of_ble_eq_true rfl), (Nat.le_of_ble_eq_true rfl)⟩) hK hN hP hD hS [0] rfl rfl rfl hl.1 rfl (Nat.le_of_ble_eq_true rfl) dL_law_1229 ⟨(Nat.le_of_ble_eq_true rfl), (Nat.le_of_ble_eq_true rfl)⟩ (fun H locs hf_1229 hP hS => ?_)
                                        have hP : va_P (dC, dI) vwCl ((a_g, .inl (cI, 38, .inl ga_746e)) :: (a_k, .inl (cI, 38, .inl ka_718e)) :: w) H := hP
                                        refine lv_bipush (v := 64) hx hb dL_law_1232 (by decide) ?_
                                        refine lv_isub hx hb dL_law_1234 ?_
                                        refine lv_goto (tgt := 1240) hx hb dL_law_1235 (by decide) ?_
                                        obtain rfl := Option.some.inj h2
                                        exact after_1240 _ _ _ _ hI hP hD hS (lv_sub hl [0, 1, 2, 3, 4, 5, 6, 7, 8, 9] rfl)
                                  have h2 := i_1207
                                  refine lv_if_ge (tgt := 1205) hx hb dL_law_1195 (by decide) (fun c_1195 => ?_) (fun c_1195 => ?_)
                                  · have h2 := hp_pos c_1195 h2
                                    refine lv_iload hx hb dL_law_1205 (lv_at hl 9 rfl) ?_
                                    obtain rfl := Option.some.inj h2
                                    exact after_1207 _ _ _ _ hI hP hD hS (lv_sub hl [0, 1, 2, 3, 4, 5, 6, 7, 8, 9] rfl)
                                  · have h2 := hp_neg c_1195 h2
                                    refine lv_aload_n hx hb dL_law_1198 rfl (lv_at hl 2 rfl) ?_
                                    obtain ⟨r_1199, e_1199, h2⟩ := ob1_inv h2
                                    refine k_pSi (rest := [.int r_1190]) ⟨hx, hb, hml, hown, hts⟩ (c_L_unlawful l dC dI cI cS a_g e_1199) (va_cwS 1 hts gL_law_L_unlawful rfl rfl rfl khd_L_unlawful.2 ⟨(Nat.le_of_ble_eq_true rfl), (Nat.le_of_ble_eq_true rfl)⟩) hK hN hP hD hS [0] rfl rfl rfl hl.1 rfl (Nat.le_of_ble_eq_true rfl) dL_law_1199 ⟨(Nat.le_of_ble_eq_true rfl), (Nat.le_of_ble_eq_true rfl)⟩ (fun H locs hf_1199 hP hS => ?_)
                                    have hP : va_P (dC, dI) vwCl ((a_g, .inl (cI, 38, .inl ga_746e)) :: (a_k, .inl (cI, 38, .inl ka_718e)) :: w) H := hP
                                    refine lv_goto (tgt := 1207) hx hb dL_law_1202 (by decide) ?_
                                    obtain rfl := Option.some.inj h2
                                    exact after_1207 _ _ _ _ hI hP hD hS (lv_sub hl [0, 1, 2, 3, 4, 5, 6, 7, 8, 9] rfl)
                              have h2 := i_1180
                              refine lv_if_ge (tgt := 1178) hx hb dL_law_1169 (by decide) (fun c_1169 => ?_) (fun c_1169 => ?_)
                              · have h2 := hp_pos c_1169 h2
                                refine lv_iload hx hb dL_law_1178 (lv_at hl 0 rfl) ?_
                                obtain rfl := Option.some.inj h2
                                exact after_1180 _ _ _ _ hI hP hD hS (lv_sub hl [1, 2, 3, 4, 5, 6, 7, 8, 9, 0] rfl)
                              · have h2 := hp_neg c_1169 h2
                                refine lv_aload_n hx hb dL_law_1172 rfl (lv_at hl 3 rfl) ?_
                                refine lv_iconst (v := 1) hx hb dL_law_1173 (by decide) ?_
                                refine va_iald (D := (dC, dI)) hx hb hK hP 0 0 rfl rfl (by unfold vp_in; decide) dL_law_1174 ?_
                                refine lv_goto (tgt := 1180) hx hb dL_law_1175 (by decide) ?_
                                obtain rfl := Option.some.inj h2
                                exact after_1180 _ _ _ _ hI hP hD hS (lv_sub hl [1, 2, 3, 4, 5, 6, 7, 8, 9, 0] rfl)
                          exact lq_1103 C0 hK hN after_1103 FUEL _ _ i_1103 _ _ _ _ hI hP hD hS (lv_sub hl [2, 3, 4, 5, 6, 7, 8, 9, 1, 0] rfl)
                        exact lq_746 C0 hK hN after_746 FUEL _ _ _ _ i_746 _ _ _ _ hI hP hD hS (lv_sub hl [2, 3, 4, 5, 6, 7, 8, 1, 0] rfl)
                      exact lq_718 C0 hK hN after_718 FUEL _ _ i_718 _ _ _ _ hI hP hD hS (lv_sub hl [2, 3, 4, 5, 6, 7, 1, 0] rfl)
                    · have h1 := hp_neg c_710 h1
                      cases h1
                  have h2 := i_696
                  refine lv_if_ne (tgt := 694) hx hb dL_law_686 (by decide) (fun c_686 => ?_) (fun c_686 => ?_)
                  · have h2 := hp_neg c_686 h2
                    refine lv_bipush (v := 6) hx hb dL_law_694 (by decide) ?_
                    obtain rfl := Option.some.inj h2
                    exact after_696 _ _ _ _ hI hP hD hS (lv_sub hl [0, 1, 2, 3, 4, 5] rfl)
                  · have h2 := hp_pos c_686 h2
                    refine lv_bipush (v := 15) hx hb dL_law_689 (by decide) ?_
                    refine lv_goto (tgt := 696) hx hb dL_law_691 (by decide) ?_
                    obtain rfl := Option.some.inj h2
                    exact after_696 _ _ _ _ hI hP hD hS (lv_sub hl [0, 1, 2, 3, 4, 5] rfl)
                · have h1 := hp_neg c_670 h1
                  cases h1
        exact lq_125 C0 hK hN after_125 FUEL _ i_125 _ _ _ _ hI hP hD hS (lv_sub hl [3, 4, 5, 6, 7, 8, 2, 1, 0] rfl)
      have h2 := i_99
      refine lv_if_le (tgt := 99) hx hb dL_law_77 (by decide) (fun c_77 => ?_) (fun c_77 => ?_)
      · have h2 := hp_pos c_77 h2
        obtain ⟨rfl, rfl⟩ := pj2 (Option.some.inj h2)
        exact after_99 _ _ _ _ hI hP hD hS (lv_sub hl [0, 1, 2, 3, 4, 5] rfl)
      · have h2 := hp_neg c_77 h2
        refine lv_aload_n hx hb dL_law_80 rfl (lv_at hl 1 rfl) ?_
        refine lv_aload_n hx hb dL_law_81 rfl (lv_at hl 0 rfl) ?_
        refine lv_bipush (v := 6) hx hb dL_law_82 (by decide) ?_
        refine lv_iload hx hb dL_law_84 (lv_at hl 5 rfl) ?_
        refine lv_iadd hx hb dL_law_86 ?_
        obtain ⟨r_87, e_87, h2⟩ := ob1_inv h2
        refine k_XSi (rest := [.ref (ad 0)]) ⟨hx, hb, hml, hown, hts⟩ (c_L_cell l e_87) (va_cwS 2 hts gL_law_L_cell rfl rfl rfl khd_L_cell.2 ⟨(Nat.le_of_ble_eq_true rfl), (Nat.le_of_ble_eq_true rfl)⟩) (hX.kept (hS.2.1 b hbl hbA)) hP hS rfl hl.1 rfl (Nat.le_of_ble_eq_true rfl) dL_law_87 ⟨(Nat.le_of_ble_eq_true rfl), (Nat.le_of_ble_eq_true rfl)⟩ (fun H locs hP hS => ?_)
        have hP : va_P (dC, dI) vwCl ((a_g, .inl (cI, 38, .inl ga_68)) :: (a_k, .inl (cI, 38, .inl ka_68)) :: w) H := hP
        refine lv_aload_n hx hb dL_law_90 rfl (lv_at hl 2 rfl) ?_
        obtain ⟨r_91, r_91_ga, r_91_SS, e_91, h2⟩ := ob3_inv h2
        refine k_GSi (pre := [(a_g, .inl (cI, 38, .inl ga_68)), (a_k, .inl (cI, 38, .inl ka_68))]) (pre' := [(a_g, .inl (cI, 38, .inl r_91_ga)), (a_k, .inl (cI, 38, .inl ka_68))]) (rest := []) ⟨hx, hb, hml, hown, hts⟩ (c_L_change l dC dI cI cS ad a_g e_91) (va_cwS 3 hts gL_law_L_change rfl rfl rfl khd_L_change.2 ⟨(Nat.le_of_ble_eq_true rfl), (Nat.le_of_ble_eq_true rfl)⟩) hK hN hI hP hD hS [0] rfl rfl rfl rfl rfl xT_b (fun _ _ _ => trivial) rfl hl.1 rfl (Nat.le_of_ble_eq_true rfl) dL_law_91 ⟨(Nat.le_of_ble_eq_true rfl), (Nat.le_of_ble_eq_true rfl)⟩ (fun H locs w hf_91 hI hP hD hS => ?_)
        have hP : va_P (dC, dI) vwCl ((a_g, .inl (cI, 38, .inl r_91_ga)) :: (a_k, .inl (cI, 38, .inl ka_68)) :: w) H := hP
        have hD : va_D (fun q : Nat => s.heap.size ≤ q) ((a_g, .inl (cI, 38, .inl r_91_ga)) :: (a_k, .inl (cI, 38, .inl ka_68)) :: w) := hD
        refine lv_if_ne (tgt := 99) hx hb dL_law_94 (by decide) (fun c_94 => ?_) (fun c_94 => ?_)
        · have h2 := hp_neg c_94 h2
          obtain ⟨rfl, rfl⟩ := pj2 (Option.some.inj h2)
          exact after_99 _ _ _ _ hI hP hD hS (lv_sub hl [0, 1, 2, 3, 4, 5] rfl)
        · have h2 := hp_pos c_94 h2
          cases h2
end LAWL
