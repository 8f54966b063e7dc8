section LAWL
variable {p : Program} {l : Launch} {e : Env} {s : State} {m : MethodId} {below : List Frame} {meth : Method} {c : Code} {dC : Nat → ClassId} {dI : Nat → Nat → Nat} {cI cS : ClassId} {b L : Nat} {xs : Nat → Int32} {ad : Nat → Nat} {a_g a_k : Nat}
set_option maxHeartbeats 32000000 in
set_option maxRecDepth 100000 in
theorem lq_746 (C0 : lw_At p s m meth c b L xs) (hK : va_K (dC, dI) vwCl (tyW cI cS) s) (hN : Nst s) {r_22_ga : Nat → Int32} {x6_68 : Int32} {r_696 : Int32} {ka_718e : Nat → Int32} {y10_746 : Int32} {ga_746e : Nat → Int32} {SS_746e : SG} (after_746 : ∀ (w : va_W) (H : Heap) (locs : List Loc) (ls : Array Slot), gI cI cS ad SS_746e w → va_P (dC, dI) vwCl ((a_g, .inl (cI, 38, .inl ga_746e)) :: (a_k, .inl (cI, 38, .inl ka_718e)) :: w) H → va_D (fun q : Nat => s.heap.size ≤ q) ((a_g, .inl (cI, 38, .inl ga_746e)) :: (a_k, .inl (cI, 38, .inl ka_718e)) :: w) → va_S (fun q : Nat => s.heap.size ≤ q) s.heap H locs → lv_has ls 19 [(0, .ref b), (1, .ref (ad 0)), (2, .ref a_g), (3, .ref a_k), (5, .int (r_22_ga 0)), (6, .int x6_68), (9, .int r_696), (10, .int y10_746)] → W p l e room_1 s m #[Value.ref b] below meth c H locs 29 472 (lw_Z below #[Value.ref b] s) (F0 m 1097 ls [])) : ∀ (n : Nat) (x10_746 : Int32) (x11_746 : Int32) (ga_746 : Nat → Int32) (SS_746 : SG), it (u4 (L_L_law_746 L xs r_22_ga x6_68 r_696)) n (x10_746, x11_746, ga_746, SS_746) = some (y10_746, ga_746e, SS_746e) → ∀ (w : va_W) (H : Heap) (locs : List Loc) (ls : Array Slot), gI cI cS ad SS_746 w → va_P (dC, dI) vwCl ((a_g, .inl (cI, 38, .inl ga_746)) :: (a_k, .inl (cI, 38, .inl ka_718e)) :: w) H → va_D (fun q : Nat => s.heap.size ≤ q) ((a_g, .inl (cI, 38, .inl ga_746)) :: (a_k, .inl (cI, 38, .inl ka_718e)) :: w) → va_S (fun q : Nat => s.heap.size ≤ q) s.heap H locs → lv_has ls 19 [(0, .ref b), (1, .ref (ad 0)), (2, .ref a_g), (3, .ref a_k), (5, .int (r_22_ga 0)), (6, .int x6_68), (9, .int r_696), (10, .int x10_746), (11, .int x11_746)] → W p l e room_1 s m #[Value.ref b] below meth c H locs 29 472 (lw_Z below #[Value.ref b] s) (F0 m 746 ls []) := by
  obtain ⟨hx, hb, hr, hml, hown, hts0, hX, hbl, hlocks, hgv⟩ := id C0
  have hts : ∀ w ∈ wsL_law, w.before #[Value.ref b] s = true := fun w h => hts0 w (wsL_law_in w h)
  have hbA : ¬ (fun q : Nat => s.heap.size ≤ q) b := Nat.not_le.mpr hbl
  intro n
  induction n with
  | zero => intro x10_746 x11_746 ga_746 SS_746 h2 w H locs ls hI hP hD hS hl; exact (it_0 h2).elim
  | succ n ih_746 =>
    intro x10_746 x11_746 ga_746 SS_746 h2 w H locs ls hI hP hD hS hl
    obtain ⟨t_746, h2, k2⟩ := it4_inv h2
    unfold L_L_law_746 at h2
    refine lv_iload hx hb dL_law_746 (lv_at hl 8 rfl) ?_
    refine lv_iload hx hb dL_law_748 (lv_at hl 6 rfl) ?_
    refine lv_icmp_ge (tgt := 1097) hx hb dL_law_750 (by decide) (fun c_750 => ?_) (fun c_750 => ?_)
    · have h2 := hp_pos c_750 h2
      cases h2
      obtain ⟨rfl, rfl, rfl⟩ := pj3 k2
      exact after_746 _ _ _ _ hI hP hD hS (lv_sub hl [0, 1, 2, 3, 4, 5, 6, 7] rfl)
    · have h2 := hp_neg c_750 h2
      refine lv_aload_n hx hb dL_law_753 rfl (lv_at hl 0 rfl) ?_
      refine lv_bipush (v := 20) hx hb dL_law_754 (by decide) ?_
      refine lv_iload hx hb dL_law_756 (lv_at hl 5 rfl) ?_
      refine lv_iadd hx hb dL_law_758 ?_
      obtain ⟨r_759, e_759, h2⟩ := ob1_inv h2
      refine k_XSi (rest := []) ⟨hx, hb, hml, hown, hts⟩ (c_L_cell l e_759) (va_cwS 2 hts gL_law_L_cell rfl rfl rfl khd_L_cell.2 ⟨(Nat.le_of_ble_eq_true rfl), (Nat.le_of_ble_eq_true rfl)⟩) (hX.kept (hS.2.1 b hbl hbA)) hP hS rfl hl.1 rfl (Nat.le_of_ble_eq_true rfl) dL_law_759 ⟨(Nat.le_of_ble_eq_true rfl), (Nat.le_of_ble_eq_true rfl)⟩ (fun H locs hP hS => ?_)
      have hP : va_P (dC, dI) vwCl ((a_g, .inl (cI, 38, .inl ga_746)) :: (a_k, .inl (cI, 38, .inl ka_718e)) :: w) H := hP
      refine lv_iload hx hb dL_law_762 (lv_at hl 8 rfl) ?_
      refine lv_ishr hx hb dL_law_764 ?_
      refine lv_istore (lv' := [(12, .int (r_759 >>> (x11_746 &&& 31))), (0, .ref b), (1, .ref (ad 0)), (2, .ref a_g), (3, .ref a_k), (5, .int (r_22_ga 0)), (6, .int x6_68), (9, .int r_696), (10, .int x10_746), (11, .int x11_746)]) hx hb dL_law_765 hl (by decide) rfl (fun ls hl => ?_)
      refine lv_iload hx hb dL_law_767 (lv_at hl 0 rfl) ?_
      refine lv_iconst (v := 3) hx hb dL_law_769 (by decide) ?_
      obtain ⟨r_770, e_770, h2⟩ := ob1_inv h2
      refine k_pSi (rest := []) ⟨hx, hb, hml, hown, hts⟩ (c_L_some l dC dI cI cS e_770) (va_cwS 2 hts gL_law_L_some rfl rfl rfl khd_L_some.2 ⟨(Nat.le_of_ble_eq_true rfl), (Nat.le_of_ble_eq_true rfl)⟩) hK hN hP hD hS [] rfl rfl rfl hl.1 rfl (Nat.le_of_ble_eq_true rfl) dL_law_770 ⟨(Nat.le_of_ble_eq_true rfl), (Nat.le_of_ble_eq_true rfl)⟩ (fun H locs hf_770 hP hS => ?_)
      have hP : va_P (dC, dI) vwCl ((a_g, .inl (cI, 38, .inl ga_746)) :: (a_k, .inl (cI, 38, .inl ka_718e)) :: w) H := hP
      refine lv_istore (lv' := [(13, .int r_770), (12, .int (r_759 >>> (x11_746 &&& 31))), (0, .ref b), (1, .ref (ad 0)), (2, .ref a_g), (3, .ref a_k), (5, .int (r_22_ga 0)), (6, .int x6_68), (9, .int r_696), (10, .int x10_746), (11, .int x11_746)]) hx hb dL_law_773 hl (by decide) rfl (fun ls hl => ?_)
      refine lv_iload hx hb dL_law_775 (lv_at hl 1 rfl) ?_
      refine lv_iconst (v := 2) hx hb dL_law_777 (by decide) ?_
      refine lv_ishr hx hb dL_law_778 ?_
      refine lv_iload hx hb dL_law_779 (lv_at hl 1 rfl) ?_
      refine lv_bipush (v := 6) hx hb dL_law_781 (by decide) ?_
      refine lv_ishr hx hb dL_law_783 ?_
      refine lv_bipush (v := 40) hx hb dL_law_784 (by decide) ?_
      obtain ⟨r_786, e_786, h2⟩ := ob1_inv h2
      refine k_pSi (rest := [.int ((r_759 >>> (x11_746 &&& 31)) >>> ((2 : Int32) &&& 31))]) ⟨hx, hb, hml, hown, hts⟩ (c_L_some l dC dI cI cS e_786) (va_cwS 2 hts gL_law_L_some rfl rfl rfl khd_L_some.2 ⟨(Nat.le_of_ble_eq_true rfl), (Nat.le_of_ble_eq_true rfl)⟩) hK hN hP hD hS [] rfl rfl rfl hl.1 rfl (Nat.le_of_ble_eq_true rfl) dL_law_786 ⟨(Nat.le_of_ble_eq_true rfl), (Nat.le_of_ble_eq_true rfl)⟩ (fun H locs hf_786 hP hS => ?_)
      have hP : va_P (dC, dI) vwCl ((a_g, .inl (cI, 38, .inl ga_746)) :: (a_k, .inl (cI, 38, .inl ka_718e)) :: w) H := hP
      obtain ⟨u0_799, i_799, h2⟩ := ob1_inv h2
      have after_799 : ∀ (w : va_W) (H : Heap) (locs : List Loc) (ls : Array Slot), gI cI cS ad SS_746 w → va_P (dC, dI) vwCl ((a_g, .inl (cI, 38, .inl ga_746)) :: (a_k, .inl (cI, 38, .inl ka_718e)) :: w) H → va_D (fun q : Nat => s.heap.size ≤ q) ((a_g, .inl (cI, 38, .inl ga_746)) :: (a_k, .inl (cI, 38, .inl ka_718e)) :: w) → va_S (fun q : Nat => s.heap.size ≤ q) s.heap H locs → lv_has ls 19 [(0, .ref b), (1, .ref (ad 0)), (2, .ref a_g), (3, .ref a_k), (5, .int (r_22_ga 0)), (6, .int x6_68), (9, .int r_696), (10, .int x10_746), (11, .int x11_746), (12, .int (r_759 >>> (x11_746 &&& 31))), (13, .int r_770)] → W p l e room_1 s m #[Value.ref b] below meth c H locs 29 472 (lw_Z below #[Value.ref b] s) (F0 m 799 ls [.int u0_799, .int ((r_759 >>> (x11_746 &&& 31)) >>> ((2 : Int32) &&& 31))]) := by
        intro w H locs ls hI hP hD hS hl
        obtain ⟨r_799, e_799, h2⟩ := ob1_inv h2
        refine k_pSi (rest := []) ⟨hx, hb, hml, hown, hts⟩ (c_L_some l dC dI cI cS e_799) (va_cwS 2 hts gL_law_L_some rfl rfl rfl khd_L_some.2 ⟨(Nat.le_of_ble_eq_true rfl), (Nat.le_of_ble_eq_true rfl)⟩) hK hN hP hD hS [] rfl rfl rfl hl.1 rfl (Nat.le_of_ble_eq_true rfl) dL_law_799 ⟨(Nat.le_of_ble_eq_true rfl), (Nat.le_of_ble_eq_true rfl)⟩ (fun H locs hf_799 hP hS => ?_)
        have hP : va_P (dC, dI) vwCl ((a_g, .inl (cI, 38, .inl ga_746)) :: (a_k, .inl (cI, 38, .inl ka_718e)) :: w) H := hP
        refine lv_istore (lv' := [(14, .int r_799), (0, .ref b), (1, .ref (ad 0)), (2, .ref a_g), (3, .ref a_k), (5, .int (r_22_ga 0)), (6, .int x6_68), (9, .int r_696), (10, .int x10_746), (11, .int x11_746), (12, .int (r_759 >>> (x11_746 &&& 31))), (13, .int r_770)]) hx hb dL_law_802 hl (by decide) rfl (fun ls hl => ?_)
        refine lv_iload hx hb dL_law_804 (lv_at hl 10 rfl) ?_
        refine lv_iconst (v := 4) hx hb dL_law_806 (by decide) ?_
        refine lv_ishr hx hb dL_law_807 ?_
        refine lv_iload hx hb dL_law_808 (lv_at hl 10 rfl) ?_
        refine lv_bipush (v := 7) hx hb dL_law_810 (by decide) ?_
        refine lv_ishr hx hb dL_law_812 ?_
        refine lv_bipush (v := 40) hx hb dL_law_813 (by decide) ?_
        obtain ⟨r_815, e_815, h2⟩ := ob1_inv h2
        refine k_pSi (rest := [.int ((r_759 >>> (x11_746 &&& 31)) >>> ((4 : Int32) &&& 31))]) ⟨hx, hb, hml, hown, hts⟩ (c_L_some l dC dI cI cS e_815) (va_cwS 2 hts gL_law_L_some rfl rfl rfl khd_L_some.2 ⟨(Nat.le_of_ble_eq_true rfl), (Nat.le_of_ble_eq_true rfl)⟩) hK hN hP hD hS [] rfl rfl rfl hl.1 rfl (Nat.le_of_ble_eq_true rfl) dL_law_815 ⟨(Nat.le_of_ble_eq_true rfl), (Nat.le_of_ble_eq_true rfl)⟩ (fun H locs hf_815 hP hS => ?_)
        have hP : va_P (dC, dI) vwCl ((a_g, .inl (cI, 38, .inl ga_746)) :: (a_k, .inl (cI, 38, .inl ka_718e)) :: w) H := hP
        obtain ⟨u0_828, i_828, h2⟩ := ob1_inv h2
        have after_828 : ∀ (w : va_W) (H : Heap) (locs : List Loc) (ls : Array Slot), gI cI cS ad SS_746 w → va_P (dC, dI) vwCl ((a_g, .inl (cI, 38, .inl ga_746)) :: (a_k, .inl (cI, 38, .inl ka_718e)) :: w) H → va_D (fun q : Nat => s.heap.size ≤ q) ((a_g, .inl (cI, 38, .inl ga_746)) :: (a_k, .inl (cI, 38, .inl ka_718e)) :: w) → va_S (fun q : Nat => s.heap.size ≤ q) s.heap H locs → lv_has ls 19 [(0, .ref b), (1, .ref (ad 0)), (2, .ref a_g), (3, .ref a_k), (5, .int (r_22_ga 0)), (6, .int x6_68), (9, .int r_696), (10, .int x10_746), (11, .int x11_746), (12, .int (r_759 >>> (x11_746 &&& 31))), (13, .int r_770), (14, .int r_799)] → W p l e room_1 s m #[Value.ref b] below meth c H locs 29 472 (lw_Z below #[Value.ref b] s) (F0 m 828 ls [.int u0_828, .int ((r_759 >>> (x11_746 &&& 31)) >>> ((4 : Int32) &&& 31))]) := by
          intro w H locs ls hI hP hD hS hl
          obtain ⟨r_828, e_828, h2⟩ := ob1_inv h2
          refine k_pSi (rest := []) ⟨hx, hb, hml, hown, hts⟩ (c_L_some l dC dI cI cS e_828) (va_cwS 2 hts gL_law_L_some rfl rfl rfl khd_L_some.2 ⟨(Nat.le_of_ble_eq_true rfl), (Nat.le_of_ble_eq_true rfl)⟩) hK hN hP hD hS [] rfl rfl rfl hl.1 rfl (Nat.le_of_ble_eq_true rfl) dL_law_828 ⟨(Nat.le_of_ble_eq_true rfl), (Nat.le_of_ble_eq_true rfl)⟩ (fun H locs hf_828 hP hS => ?_)
          have hP : va_P (dC, dI) vwCl ((a_g, .inl (cI, 38, .inl ga_746)) :: (a_k, .inl (cI, 38, .inl ka_718e)) :: w) H := hP
          refine lv_istore (lv' := [(15, .int r_828), (0, .ref b), (1, .ref (ad 0)), (2, .ref a_g), (3, .ref a_k), (5, .int (r_22_ga 0)), (6, .int x6_68), (9, .int r_696), (10, .int x10_746), (11, .int x11_746), (12, .int (r_759 >>> (x11_746 &&& 31))), (13, .int r_770), (14, .int r_799)]) hx hb dL_law_831 hl (by decide) rfl (fun ls hl => ?_)
          refine lv_iload hx hb dL_law_833 (lv_at hl 11 rfl) ?_
          obtain ⟨v14_853, i_853, h2⟩ := ob1_inv h2
          have after_853 : ∀ (w : va_W) (H : Heap) (locs : List Loc) (ls : Array Slot), gI cI cS ad SS_746 w → va_P (dC, dI) vwCl ((a_g, .inl (cI, 38, .inl ga_746)) :: (a_k, .inl (cI, 38, .inl ka_718e)) :: w) H → va_D (fun q : Nat => s.heap.size ≤ q) ((a_g, .inl (cI, 38, .inl ga_746)) :: (a_k, .inl (cI, 38, .inl ka_718e)) :: w) → va_S (fun q : Nat => s.heap.size ≤ q) s.heap H locs → lv_has ls 19 [(0, .ref b), (1, .ref (ad 0)), (2, .ref a_g), (3, .ref a_k), (5, .int (r_22_ga 0)), (6, .int x6_68), (9, .int r_696), (10, .int x10_746), (11, .int x11_746), (12, .int (r_759 >>> (x11_746 &&& 31))), (13, .int r_770), (14, .int v14_853), (15, .int r_828)] → W p l e room_1 s m #[Value.ref b] below meth c H locs 29 472 (lw_Z below #[Value.ref b] s) (F0 m 853 ls []) := by
            intro w H locs ls hI hP hD hS hl
            refine lv_iload hx hb dL_law_853 (lv_at hl 10 rfl) ?_
            refine lv_iconst (v := 1) hx hb dL_law_855 (by decide) ?_
            obtain ⟨v15_874, i_874, h2⟩ := ob1_inv h2
            have after_874 : ∀ (w : va_W) (H : Heap) (locs : List Loc) (ls : Array Slot), gI cI cS ad SS_746 w → va_P (dC, dI) vwCl ((a_g, .inl (cI, 38, .inl ga_746)) :: (a_k, .inl (cI, 38, .inl ka_718e)) :: w) H → va_D (fun q : Nat => s.heap.size ≤ q) ((a_g, .inl (cI, 38, .inl ga_746)) :: (a_k, .inl (cI, 38, .inl ka_718e)) :: w) → va_S (fun q : Nat => s.heap.size ≤ q) s.heap H locs → lv_has ls 19 [(0, .ref b), (1, .ref (ad 0)), (2, .ref a_g), (3, .ref a_k), (5, .int (r_22_ga 0)), (6, .int x6_68), (9, .int r_696), (10, .int x10_746), (11, .int x11_746), (12, .int (r_759 >>> (x11_746 &&& 31))), (13, .int r_770), (14, .int v14_853), (15, .int v15_874)] → W p l e room_1 s m #[Value.ref b] below meth c H locs 29 472 (lw_Z below #[Value.ref b] s) (F0 m 874 ls []) := by
              intro w H locs ls hI hP hD hS hl
              refine lv_iconst (v := 0) hx hb dL_law_874 (by decide) ?_
              refine lv_istore (lv' := [(16, .int (0 : Int32)), (0, .ref b), (1, .ref (ad 0)), (2, .ref a_g), (3, .ref a_k), (5, .int (r_22_ga 0)), (6, .int x6_68), (9, .int r_696), (10, .int x10_746), (11, .int x11_746), (12, .int (r_759 >>> (x11_746 &&& 31))), (13, .int r_770), (14, .int v14_853), (15, .int v15_874)]) hx hb dL_law_875 hl (by decide) rfl (fun ls hl => ?_)
              obtain ⟨y13_877, y15_877, i_877, h2⟩ := ob2_inv h2
              have after_877 : ∀ (w : va_W) (H : Heap) (locs : List Loc) (ls : Array Slot), gI cI cS ad SS_746 w → va_P (dC, dI) vwCl ((a_g, .inl (cI, 38, .inl ga_746)) :: (a_k, .inl (cI, 38, .inl ka_718e)) :: w) H → va_D (fun q : Nat => s.heap.size ≤ q) ((a_g, .inl (cI, 38, .inl ga_746)) :: (a_k, .inl (cI, 38, .inl ka_718e)) :: w) → va_S (fun q : Nat => s.heap.size ≤ q) s.heap H locs → lv_has ls 19 [(0, .ref b), (1, .ref (ad 0)), (2, .ref a_g), (3, .ref a_k), (5, .int (r_22_ga 0)), (6, .int x6_68), (9, .int r_696), (10, .int x10_746), (11, .int x11_746), (13, .int y13_877), (14, .int v14_853), (15, .int y15_877)] → W p l e room_1 s m #[Value.ref b] below meth c H locs 29 472 (lw_Z below #[Value.ref b] s) (F0 m 963 ls []) := by
                intro w H locs ls hI hP hD hS hl
                refine lv_aload_n hx hb dL_law_963 rfl (lv_at hl 1 rfl) ?_
                refine lv_iconst (v := 1) hx hb dL_law_964 (by decide) ?_
                refine lv_iconst (v := 4) hx hb dL_law_965 (by decide) ?_
                refine lv_iconst (v := 3) hx hb dL_law_966 (by decide) ?_
                refine lv_iload hx hb dL_law_967 (lv_at hl 8 rfl) ?_
                refine lv_imul hx hb dL_law_969 ?_
                refine lv_iadd hx hb dL_law_970 ?_
                refine lv_iload hx hb dL_law_971 (lv_at hl 9 rfl) ?_
                obtain ⟨r_973, r_973_S, e_973, h2⟩ := ob2_inv h2
                refine k_GVi (pre := [(a_g, .inl (cI, 38, .inl ga_746)), (a_k, .inl (cI, 38, .inl ka_718e))]) (rest := []) ⟨hx, hb, hml, hown, hts⟩ (A_X4_put l dC dI cI cS ad e_973) (cwV 3 hts gL_law_X4_put rfl rfl rfl khd_X4_put ⟨(Nat.le_of_ble_eq_true rfl), (Nat.le_of_ble_eq_true rfl)⟩) hK hN hI hP hD hS rfl hl.1 rfl (Nat.le_of_ble_eq_true rfl) dL_law_973 ⟨(Nat.le_of_ble_eq_true rfl), (Nat.le_of_ble_eq_true rfl)⟩ (fun H locs w hI hP hD hS => ?_)
                have hP : va_P (dC, dI) vwCl ((a_g, .inl (cI, 38, .inl ga_746)) :: (a_k, .inl (cI, 38, .inl ka_718e)) :: w) H := hP
                have hD : va_D (fun q : Nat => s.heap.size ≤ q) ((a_g, .inl (cI, 38, .inl ga_746)) :: (a_k, .inl (cI, 38, .inl ka_718e)) :: w) := hD
                refine lv_iconst (v := 1) hx hb dL_law_976 (by decide) ?_
                refine lv_icmp_ne (tgt := 1015) hx hb dL_law_977 (by decide) (fun c_977 => ?_) (fun c_977 => ?_)
                · have h2 := hp_neg c_977 h2
                  cases h2
                · have h2 := hp_pos c_977 h2
                  refine lv_aload_n hx hb dL_law_980 rfl (lv_at hl 1 rfl) ?_
                  refine lv_iconst (v := 1) hx hb dL_law_981 (by decide) ?_
                  refine lv_iconst (v := 5) hx hb dL_law_982 (by decide) ?_
                  refine lv_iconst (v := 3) hx hb dL_law_983 (by decide) ?_
                  refine lv_iload hx hb dL_law_984 (lv_at hl 8 rfl) ?_
                  refine lv_imul hx hb dL_law_986 ?_
                  refine lv_iadd hx hb dL_law_987 ?_
                  refine lv_iload hx hb dL_law_988 (lv_at hl 10 rfl) ?_
                  obtain ⟨r_990, r_990_S, e_990, h2⟩ := ob2_inv h2
                  refine k_GVi (pre := [(a_g, .inl (cI, 38, .inl ga_746)), (a_k, .inl (cI, 38, .inl ka_718e))]) (rest := []) ⟨hx, hb, hml, hown, hts⟩ (A_X4_put l dC dI cI cS ad e_990) (cwV 3 hts gL_law_X4_put rfl rfl rfl khd_X4_put ⟨(Nat.le_of_ble_eq_true rfl), (Nat.le_of_ble_eq_true rfl)⟩) hK hN hI hP hD hS rfl hl.1 rfl (Nat.le_of_ble_eq_true rfl) dL_law_990 ⟨(Nat.le_of_ble_eq_true rfl), (Nat.le_of_ble_eq_true rfl)⟩ (fun H locs w hI hP hD hS => ?_)
                  have hP : va_P (dC, dI) vwCl ((a_g, .inl (cI, 38, .inl ga_746)) :: (a_k, .inl (cI, 38, .inl ka_718e)) :: w) H := hP
                  have hD : va_D (fun q : Nat => s.heap.size ≤ q) ((a_g, .inl (cI, 38, .inl ga_746)) :: (a_k, .inl (cI, 38, .inl ka_718e)) :: w) := hD
                  refine lv_iconst (v := 1) hx hb dL_law_993 (by decide) ?_
                  refine lv_icmp_ne (tgt := 1015) hx hb dL_law_994 (by decide) (fun c_994 => ?_) (fun c_994 => ?_)
                  · have h2 := hp_neg c_994 h2
                    cases h2
                  · have h2 := hp_pos c_994 h2
                    refine lv_aload_n hx hb dL_law_997 rfl (lv_at hl 1 rfl) ?_
                    refine lv_iconst (v := 1) hx hb dL_law_998 (by decide) ?_
                    refine lv_bipush (v := 6) hx hb dL_law_999 (by decide) ?_
                    refine lv_iconst (v := 3) hx hb dL_law_1001 (by decide) ?_
                    refine lv_iload hx hb dL_law_1002 (lv_at hl 8 rfl) ?_
                    refine lv_imul hx hb dL_law_1004 ?_
                    refine lv_iadd hx hb dL_law_1005 ?_
                    refine lv_iload hx hb dL_law_1006 (lv_at hl 11 rfl) ?_
                    obtain ⟨r_1008, r_1008_S, e_1008, h2⟩ := ob2_inv h2
                    refine k_GVi (pre := [(a_g, .inl (cI, 38, .inl ga_746)), (a_k, .inl (cI, 38, .inl ka_718e))]) (rest := []) ⟨hx, hb, hml, hown, hts⟩ (A_X4_put l dC dI cI cS ad e_1008) (cwV 3 hts gL_law_X4_put rfl rfl rfl khd_X4_put ⟨(Nat.le_of_ble_eq_true rfl), (Nat.le_of_ble_eq_true rfl)⟩) hK hN hI hP hD hS rfl hl.1 rfl (Nat.le_of_ble_eq_true rfl) dL_law_1008 ⟨(Nat.le_of_ble_eq_true rfl), (Nat.le_of_ble_eq_true rfl)⟩ (fun H locs w hI hP hD hS => ?_)
                    have hP : va_P (dC, dI) vwCl ((a_g, .inl (cI, 38, .inl ga_746)) :: (a_k, .inl (cI, 38, .inl ka_718e)) :: w) H := hP
                    have hD : va_D (fun q : Nat => s.heap.size ≤ q) ((a_g, .inl (cI, 38, .inl ga_746)) :: (a_k, .inl (cI, 38, .inl ka_718e)) :: w) := hD
                    refine lv_iconst (v := 1) hx hb dL_law_1011 (by decide) ?_
                    refine lv_icmp_eq (tgt := 1017) hx hb dL_law_1012 (by decide) (fun c_1012 => ?_) (fun c_1012 => ?_)
                    · have h2 := hp_pos c_1012 h2
                      refine lv_iload hx hb dL_law_1017 (lv_at hl 7 rfl) ?_
                      obtain ⟨v10_1039, i_1039, h2⟩ := ob1_inv h2
                      have after_1039 : ∀ (w : va_W) (H : Heap) (locs : List Loc) (ls : Array Slot), gI cI cS ad r_1008_S w → va_P (dC, dI) vwCl ((a_g, .inl (cI, 38, .inl ga_746)) :: (a_k, .inl (cI, 38, .inl ka_718e)) :: w) H → va_D (fun q : Nat => s.heap.size ≤ q) ((a_g, .inl (cI, 38, .inl ga_746)) :: (a_k, .inl (cI, 38, .inl ka_718e)) :: w) → va_S (fun q : Nat => s.heap.size ≤ q) s.heap H locs → lv_has ls 19 [(0, .ref b), (1, .ref (ad 0)), (2, .ref a_g), (3, .ref a_k), (5, .int (r_22_ga 0)), (6, .int x6_68), (9, .int r_696), (10, .int v10_1039), (11, .int x11_746), (13, .int y13_877), (14, .int v14_853), (15, .int y15_877)] → W p l e room_1 s m #[Value.ref b] below meth c H locs 29 472 (lw_Z below #[Value.ref b] s) (F0 m 1039 ls []) := by
                        intro w H locs ls hI hP hD hS hl
                        refine lv_iload hx hb dL_law_1039 (lv_at hl 7 rfl) ?_
                        refine lv_if_lt (tgt := 1047) hx hb dL_law_1041 (by decide) (fun c_1041 => ?_) (fun c_1041 => ?_)
                        · have h2 := hp_pos c_1041 h2
                          refine lv_iload hx hb dL_law_1047 (lv_at hl 9 rfl) ?_
                          obtain ⟨ga_1061j, i_1061, h2⟩ := ob1_inv h2
                          have after_1061 : ∀ (w : va_W) (H : Heap) (locs : List Loc) (ls : Array Slot), gI cI cS ad r_1008_S w → va_P (dC, dI) vwCl ((a_g, .inl (cI, 38, .inl ga_1061j)) :: (a_k, .inl (cI, 38, .inl ka_718e)) :: w) H → va_D (fun q : Nat => s.heap.size ≤ q) ((a_g, .inl (cI, 38, .inl ga_1061j)) :: (a_k, .inl (cI, 38, .inl ka_718e)) :: w) → va_S (fun q : Nat => s.heap.size ≤ q) s.heap H locs → lv_has ls 19 [(0, .ref b), (1, .ref (ad 0)), (2, .ref a_g), (3, .ref a_k), (5, .int (r_22_ga 0)), (6, .int x6_68), (9, .int r_696), (10, .int v10_1039), (11, .int x11_746), (13, .int y13_877), (14, .int v14_853), (15, .int y15_877)] → W p l e room_1 s m #[Value.ref b] below meth c H locs 29 472 (lw_Z below #[Value.ref b] s) (F0 m 1061 ls []) := by
                            intro w H locs ls hI hP hD hS hl
                            refine lv_iload hx hb dL_law_1061 (lv_at hl 9 rfl) ?_
                            refine lv_iconst (v := 1) hx hb dL_law_1063 (by decide) ?_
                            obtain ⟨ga_1076j, i_1076, h2⟩ := ob1_inv h2
                            have after_1076 : ∀ (w : va_W) (H : Heap) (locs : List Loc) (ls : Array Slot), gI cI cS ad r_1008_S w → va_P (dC, dI) vwCl ((a_g, .inl (cI, 38, .inl ga_1076j)) :: (a_k, .inl (cI, 38, .inl ka_718e)) :: w) H → va_D (fun q : Nat => s.heap.size ≤ q) ((a_g, .inl (cI, 38, .inl ga_1076j)) :: (a_k, .inl (cI, 38, .inl ka_718e)) :: w) → va_S (fun q : Nat => s.heap.size ≤ q) s.heap H locs → lv_has ls 19 [(0, .ref b), (1, .ref (ad 0)), (2, .ref a_g), (3, .ref a_k), (5, .int (r_22_ga 0)), (6, .int x6_68), (9, .int r_696), (10, .int v10_1039), (11, .int x11_746), (13, .int y13_877), (14, .int v14_853), (15, .int y15_877)] → W p l e room_1 s m #[Value.ref b] below meth c H locs 29 472 (lw_Z below #[Value.ref b] s) (F0 m 1076 ls []) := by
                              intro w H locs ls hI hP hD hS hl
                              refine lv_iload hx hb dL_law_1076 (lv_at hl 9 rfl) ?_
                              refine lv_iconst (v := 2) hx hb dL_law_1078 (by decide) ?_
                              refine lv_icmp_ne (tgt := 1091) hx hb dL_law_1079 (by decide) (fun c_1079 => ?_) (fun c_1079 => ?_)
                              · have h2 := hp_neg c_1079 h2
                                refine lv_iinc (v := (x11_746 + (1 : Int32))) (lv' := [(11, .int (x11_746 + (1 : Int32))), (0, .ref b), (1, .ref (ad 0)), (2, .ref a_g), (3, .ref a_k), (5, .int (r_22_ga 0)), (6, .int x6_68), (9, .int r_696), (10, .int v10_1039), (13, .int y13_877), (14, .int v14_853), (15, .int y15_877)]) hx hb dL_law_1091 hl (k := 8) rfl rfl (by decide) rfl (fun ls hl => ?_)
                                refine lv_goto (tgt := 746) hx hb dL_law_1094 (by decide) ?_
                                cases h2
                                exact ih_746 _ _ _ _ k2 _ _ _ _ hI hP hD hS (lv_sub hl [1, 2, 3, 4, 5, 6, 7, 8, 0] rfl)
                              · have h2 := hp_pos c_1079 h2
                                refine lv_aload_n hx hb dL_law_1082 rfl (lv_at hl 2 rfl) ?_
                                refine lv_iload hx hb dL_law_1083 (lv_at hl 10 rfl) ?_
                                refine lv_iload hx hb dL_law_1085 (lv_at hl 11 rfl) ?_
                                obtain ⟨r_1087, r_1087_ga, e_1087, h2⟩ := ob2_inv h2
                                refine k_wSi (rest := []) (ws' := ((a_g, .inl (cI, 38, .inl r_1087_ga)) :: (a_k, .inl (cI, 38, .inl ka_718e)) :: w)) ⟨hx, hb, hml, hown, hts⟩ (c_L_hand l dC dI cI cS a_g e_1087) (va_cwS 3 hts gL_law_L_hand rfl rfl rfl khd_L_hand.2 ⟨(Nat.le_of_ble_eq_true rfl), (Nat.le_of_ble_eq_true rfl)⟩) hK hN hP hD hS [0] rfl rfl rfl hl.1 rfl (Nat.le_of_ble_eq_true rfl) dL_law_1087 ⟨(Nat.le_of_ble_eq_true rfl), (Nat.le_of_ble_eq_true rfl)⟩ rfl rfl (fun H locs hf_1087 hP hS => ?_)
                                have hP : va_P (dC, dI) vwCl ((a_g, .inl (cI, 38, .inl r_1087_ga)) :: (a_k, .inl (cI, 38, .inl ka_718e)) :: w) H := hP
                                have hD : va_D (fun q : Nat => s.heap.size ≤ q) ((a_g, .inl (cI, 38, .inl r_1087_ga)) :: (a_k, .inl (cI, 38, .inl ka_718e)) :: w) := va_D_fst hD rfl
                                refine lv_pop hx hb dL_law_1090 rfl ?_
                                refine lv_iinc (v := (x11_746 + (1 : Int32))) (lv' := [(11, .int (x11_746 + (1 : Int32))), (0, .ref b), (1, .ref (ad 0)), (2, .ref a_g), (3, .ref a_k), (5, .int (r_22_ga 0)), (6, .int x6_68), (9, .int r_696), (10, .int v10_1039), (13, .int y13_877), (14, .int v14_853), (15, .int y15_877)]) hx hb dL_law_1091 hl (k := 8) rfl rfl (by decide) rfl (fun ls hl => ?_)
                                refine lv_goto (tgt := 746) hx hb dL_law_1094 (by decide) ?_
                                cases h2
                                exact ih_746 _ _ _ _ k2 _ _ _ _ hI hP hD hS (lv_sub hl [1, 2, 3, 4, 5, 6, 7, 8, 0] rfl)
                            have h3 := i_1076
                            refine lv_icmp_ne (tgt := 1076) hx hb dL_law_1064 (by decide) (fun c_1064 => ?_) (fun c_1064 => ?_)
                            · have h3 := hp_neg c_1064 h3
                              obtain rfl := Option.some.inj h3
                              exact after_1076 _ _ _ _ hI hP hD hS (lv_sub hl [0, 1, 2, 3, 4, 5, 6, 7, 8, 9, 10, 11] rfl)
                            · have h3 := hp_pos c_1064 h3
                              refine lv_aload_n hx hb dL_law_1067 rfl (lv_at hl 2 rfl) ?_
                              refine lv_bipush (v := 8) hx hb dL_law_1068 (by decide) ?_
                              refine lv_iload hx hb dL_law_1070 (lv_at hl 10 rfl) ?_
                              refine lv_iadd hx hb dL_law_1072 ?_
                              refine lv_iload hx hb dL_law_1073 (lv_at hl 11 rfl) ?_
                              have g_1075 := hg_no h3
                              have h3 := hg_yes h3
                              refine va_iast (D := (dC, dI)) hx hb hK hP hD hS 0 0 rfl rfl g_1075 dL_law_1075 (fun H locs hP hD hS => ?_)
                              have hP : va_P (dC, dI) vwCl ((a_g, .inl (cI, 38, .inl (upd ga_1061j ((8 : Int32) + v14_853).toNatClampNeg y15_877))) :: (a_k, .inl (cI, 38, .inl ka_718e)) :: w) H := hP
                              have hD : va_D (fun q : Nat => s.heap.size ≤ q) ((a_g, .inl (cI, 38, .inl (upd ga_1061j ((8 : Int32) + v14_853).toNatClampNeg y15_877))) :: (a_k, .inl (cI, 38, .inl ka_718e)) :: w) := hD
                              obtain rfl := Option.some.inj h3
                              exact after_1076 _ _ _ _ hI hP hD hS (lv_sub hl [0, 1, 2, 3, 4, 5, 6, 7, 8, 9, 10, 11] rfl)
                          have h3 := i_1061
                          refine lv_if_ne (tgt := 1061) hx hb dL_law_1049 (by decide) (fun c_1049 => ?_) (fun c_1049 => ?_)
                          · have h3 := hp_neg c_1049 h3
                            obtain rfl := Option.some.inj h3
                            exact after_1061 _ _ _ _ hI hP hD hS (lv_sub hl [0, 1, 2, 3, 4, 5, 6, 7, 8, 9, 10, 11] rfl)
                          · have h3 := hp_pos c_1049 h3
                            refine lv_aload_n hx hb dL_law_1052 rfl (lv_at hl 2 rfl) ?_
                            refine lv_iload hx hb dL_law_1053 (lv_at hl 10 rfl) ?_
                            refine lv_iload hx hb dL_law_1055 (lv_at hl 11 rfl) ?_
                            obtain ⟨r_1057, r_1057_ga, e_1057, h3⟩ := ob2_inv h3
                            refine k_wSi (rest := []) (ws' := ((a_g, .inl (cI, 38, .inl r_1057_ga)) :: (a_k, .inl (cI, 38, .inl ka_718e)) :: w)) ⟨hx, hb, hml, hown, hts⟩ (c_L_refer l dC dI cI cS a_g e_1057) (va_cwS 3 hts gL_law_L_refer rfl rfl rfl khd_L_refer.2 ⟨(Nat.le_of_ble_eq_true rfl), (Nat.le_of_ble_eq_true rfl)⟩) hK hN hP hD hS [0] rfl rfl rfl hl.1 rfl (Nat.le_of_ble_eq_true rfl) dL_law_1057 ⟨(Nat.le_of_ble_eq_true rfl), (Nat.le_of_ble_eq_true rfl)⟩ rfl rfl (fun H locs hf_1057 hP hS => ?_)
                            have hP : va_P (dC, dI) vwCl ((a_g, .inl (cI, 38, .inl r_1057_ga)) :: (a_k, .inl (cI, 38, .inl ka_718e)) :: w) H := hP
                            have hD : va_D (fun q : Nat => s.heap.size ≤ q) ((a_g, .inl (cI, 38, .inl r_1057_ga)) :: (a_k, .inl (cI, 38, .inl ka_718e)) :: w) := va_D_fst hD rfl
                            refine lv_pop hx hb dL_law_1060 rfl ?_
                            obtain rfl := Option.some.inj h3
                            exact after_1061 _ _ _ _ hI hP hD hS (lv_sub hl [0, 1, 2, 3, 4, 5, 6, 7, 8, 9, 10, 11] rfl)
                        · have h2 := hp_neg c_1041 h2
                          refine lv_goto (tgt := 1091) hx hb dL_law_1044 (by decide) ?_
                          refine lv_iinc (v := (x11_746 + (1 : Int32))) (lv' := [(11, .int (x11_746 + (1 : Int32))), (0, .ref b), (1, .ref (ad 0)), (2, .ref a_g), (3, .ref a_k), (5, .int (r_22_ga 0)), (6, .int x6_68), (9, .int r_696), (10, .int v10_1039), (13, .int y13_877), (14, .int v14_853), (15, .int y15_877)]) hx hb dL_law_1091 hl (k := 8) rfl rfl (by decide) rfl (fun ls hl => ?_)
                          refine lv_goto (tgt := 746) hx hb dL_law_1094 (by decide) ?_
                          cases h2
                          exact ih_746 _ _ _ _ k2 _ _ _ _ hI hP hD hS (lv_sub hl [1, 2, 3, 4, 5, 6, 7, 8, 0] rfl)
                      have h3 := i_1039
                      refine lv_if_ge (tgt := 1039) hx hb dL_law_1019 (by decide) (fun c_1019 => ?_) (fun c_1019 => ?_)
                      · have h3 := hp_pos c_1019 h3
                        obtain rfl := Option.some.inj h3
                        exact after_1039 _ _ _ _ hI hP hD hS (lv_sub hl [0, 1, 2, 3, 4, 5, 6, 7, 8, 9, 10, 11] rfl)
                      · have h3 := hp_neg c_1019 h3
                        refine lv_aload_n hx hb dL_law_1022 rfl (lv_at hl 2 rfl) ?_
                        refine lv_iload hx hb dL_law_1023 (lv_at hl 9 rfl) ?_
                        refine lv_iload hx hb dL_law_1025 (lv_at hl 10 rfl) ?_
                        refine lv_iload hx hb dL_law_1027 (lv_at hl 11 rfl) ?_
                        obtain ⟨r_1029, e_1029, h3⟩ := ob1_inv h3
                        refine k_pSi (rest := []) ⟨hx, hb, hml, hown, hts⟩ (c_L_can l dC dI cI cS a_g e_1029) (va_cwS 4 hts gL_law_L_can rfl rfl rfl khd_L_can.2 ⟨(Nat.le_of_ble_eq_true rfl), (Nat.le_of_ble_eq_true rfl)⟩) hK hN hP hD hS [0] rfl rfl rfl hl.1 rfl (Nat.le_of_ble_eq_true rfl) dL_law_1029 ⟨(Nat.le_of_ble_eq_true rfl), (Nat.le_of_ble_eq_true rfl)⟩ (fun H locs hf_1029 hP hS => ?_)
                        have hP : va_P (dC, dI) vwCl ((a_g, .inl (cI, 38, .inl ga_746)) :: (a_k, .inl (cI, 38, .inl ka_718e)) :: w) H := hP
                        refine lv_if_ne (tgt := 1039) hx hb dL_law_1032 (by decide) (fun c_1032 => ?_) (fun c_1032 => ?_)
                        · have h3 := hp_neg c_1032 h3
                          obtain rfl := Option.some.inj h3
                          exact after_1039 _ _ _ _ hI hP hD hS (lv_sub hl [0, 1, 2, 3, 4, 5, 6, 7, 8, 9, 10, 11] rfl)
                        · have h3 := hp_pos c_1032 h3
                          refine lv_iload hx hb dL_law_1035 (lv_at hl 8 rfl) ?_
                          refine lv_istore (lv' := [(10, .int x11_746), (0, .ref b), (1, .ref (ad 0)), (2, .ref a_g), (3, .ref a_k), (5, .int (r_22_ga 0)), (6, .int x6_68), (9, .int r_696), (11, .int x11_746), (13, .int y13_877), (14, .int v14_853), (15, .int y15_877)]) hx hb dL_law_1037 hl (by decide) rfl (fun ls hl => ?_)
                          obtain rfl := Option.some.inj h3
                          exact after_1039 _ _ _ _ hI hP hD hS (lv_sub hl [1, 2, 3, 4, 5, 6, 7, 0, 8, 9, 10, 11] rfl)
                    · have h2 := hp_neg c_1012 h2
                      cases h2
              exact lq_877 C0 hK hN after_877 FUEL _ _ _ i_877 _ _ _ _ hI hP hD hS (lv_sub hl [1, 2, 3, 4, 5, 6, 7, 8, 9, 10, 11, 12, 13, 0] rfl)
            have h3 := i_874
            refine lv_icmp_ne (tgt := 874) hx hb dL_law_856 (by decide) (fun c_856 => ?_) (fun c_856 => ?_)
            · have h3 := hp_neg c_856 h3
              obtain rfl := Option.some.inj h3
              exact after_874 _ _ _ _ hI hP hD hS (lv_sub hl [0, 1, 2, 3, 4, 5, 6, 7, 8, 9, 10, 11, 12] rfl)
            · have h3 := hp_pos c_856 h3
              refine lv_iload hx hb dL_law_859 (lv_at hl 9 rfl) ?_
              refine lv_iconst (v := 5) hx hb dL_law_861 (by decide) ?_
              refine lv_ishr hx hb dL_law_862 ?_
              refine lv_iconst (v := 3) hx hb dL_law_863 (by decide) ?_
              obtain ⟨r_864, e_864, h3⟩ := ob1_inv h3
              refine k_pSi (rest := []) ⟨hx, hb, hml, hown, hts⟩ (c_L_some l dC dI cI cS e_864) (va_cwS 2 hts gL_law_L_some rfl rfl rfl khd_L_some.2 ⟨(Nat.le_of_ble_eq_true rfl), (Nat.le_of_ble_eq_true rfl)⟩) hK hN hP hD hS [] rfl rfl rfl hl.1 rfl (Nat.le_of_ble_eq_true rfl) dL_law_864 ⟨(Nat.le_of_ble_eq_true rfl), (Nat.le_of_ble_eq_true rfl)⟩ (fun H locs hf_864 hP hS => ?_)
              have hP : va_P (dC, dI) vwCl ((a_g, .inl (cI, 38, .inl ga_746)) :: (a_k, .inl (cI, 38, .inl ka_718e)) :: w) H := hP
              refine lv_if_ne (tgt := 874) hx hb dL_law_867 (by decide) (fun c_867 => ?_) (fun c_867 => ?_)
              · have h3 := hp_neg c_867 h3
                obtain rfl := Option.some.inj h3
                exact after_874 _ _ _ _ hI hP hD hS (lv_sub hl [0, 1, 2, 3, 4, 5, 6, 7, 8, 9, 10, 11, 12] rfl)
              · have h3 := hp_pos c_867 h3
                refine lv_bipush (v := 6) hx hb dL_law_870 (by decide) ?_
                refine lv_istore (lv' := [(15, .int (6 : Int32)), (0, .ref b), (1, .ref (ad 0)), (2, .ref a_g), (3, .ref a_k), (5, .int (r_22_ga 0)), (6, .int x6_68), (9, .int r_696), (10, .int x10_746), (11, .int x11_746), (12, .int (r_759 >>> (x11_746 &&& 31))), (13, .int r_770), (14, .int v14_853)]) hx hb dL_law_872 hl (by decide) rfl (fun ls hl => ?_)
                obtain rfl := Option.some.inj h3
                exact after_874 _ _ _ _ hI hP hD hS (lv_sub hl [1, 2, 3, 4, 5, 6, 7, 8, 9, 10, 11, 12, 0] rfl)
          have h3 := i_853
          refine lv_if_ne (tgt := 853) hx hb dL_law_835 (by decide) (fun c_835 => ?_) (fun c_835 => ?_)
          · have h3 := hp_neg c_835 h3
            obtain rfl := Option.some.inj h3
            exact after_853 _ _ _ _ hI hP hD hS (lv_sub hl [1, 2, 3, 4, 5, 6, 7, 8, 9, 10, 11, 12, 0] rfl)
          · have h3 := hp_pos c_835 h3
            refine lv_iload hx hb dL_law_838 (lv_at hl 10 rfl) ?_
            refine lv_iconst (v := 5) hx hb dL_law_840 (by decide) ?_
            refine lv_ishr hx hb dL_law_841 ?_
            refine lv_iconst (v := 3) hx hb dL_law_842 (by decide) ?_
            obtain ⟨r_843, e_843, h3⟩ := ob1_inv h3
            refine k_pSi (rest := []) ⟨hx, hb, hml, hown, hts⟩ (c_L_some l dC dI cI cS e_843) (va_cwS 2 hts gL_law_L_some rfl rfl rfl khd_L_some.2 ⟨(Nat.le_of_ble_eq_true rfl), (Nat.le_of_ble_eq_true rfl)⟩) hK hN hP hD hS [] rfl rfl rfl hl.1 rfl (Nat.le_of_ble_eq_true rfl) dL_law_843 ⟨(Nat.le_of_ble_eq_true rfl), (Nat.le_of_ble_eq_true rfl)⟩ (fun H locs hf_843 hP hS => ?_)
            have hP : va_P (dC, dI) vwCl ((a_g, .inl (cI, 38, .inl ga_746)) :: (a_k, .inl (cI, 38, .inl ka_718e)) :: w) H := hP
            refine lv_if_ne (tgt := 853) hx hb dL_law_846 (by decide) (fun c_846 => ?_) (fun c_846 => ?_)
            · have h3 := hp_neg c_846 h3
              obtain rfl := Option.some.inj h3
              exact after_853 _ _ _ _ hI hP hD hS (lv_sub hl [1, 2, 3, 4, 5, 6, 7, 8, 9, 10, 11, 12, 0] rfl)
            · have h3 := hp_pos c_846 h3
              refine lv_bipush (v := 6) hx hb dL_law_849 (by decide) ?_
              refine lv_istore (lv' := [(14, .int (6 : Int32)), (15, .int r_828), (0, .ref b), (1, .ref (ad 0)), (2, .ref a_g), (3, .ref a_k), (5, .int (r_22_ga 0)), (6, .int x6_68), (9, .int r_696), (10, .int x10_746), (11, .int x11_746), (12, .int (r_759 >>> (x11_746 &&& 31))), (13, .int r_770)]) hx hb dL_law_851 hl (by decide) rfl (fun ls hl => ?_)
              obtain rfl := Option.some.inj h3
              exact after_853 _ _ _ _ hI hP hD hS (lv_sub hl [2, 3, 4, 5, 6, 7, 8, 9, 10, 11, 12, 0, 1] rfl)
        have h3 := i_828
        refine lv_if_ne (tgt := 826) hx hb dL_law_818 (by decide) (fun c_818 => ?_) (fun c_818 => ?_)
        · have h3 := hp_neg c_818 h3
          refine lv_iload hx hb dL_law_826 (lv_at hl 5 rfl) ?_
          obtain rfl := Option.some.inj h3
          exact after_828 _ _ _ _ hI hP hD hS (lv_sub hl [1, 2, 3, 4, 5, 6, 7, 8, 9, 10, 11, 0] rfl)
        · have h3 := hp_pos c_818 h3
          refine lv_bipush (v := 8) hx hb dL_law_821 (by decide) ?_
          refine lv_goto (tgt := 828) hx hb dL_law_823 (by decide) ?_
          obtain rfl := Option.some.inj h3
          exact after_828 _ _ _ _ hI hP hD hS (lv_sub hl [1, 2, 3, 4, 5, 6, 7, 8, 9, 10, 11, 0] rfl)
      have h3 := i_799
      refine lv_if_ne (tgt := 797) hx hb dL_law_789 (by decide) (fun c_789 => ?_) (fun c_789 => ?_)
      · have h3 := hp_neg c_789 h3
        refine lv_iload hx hb dL_law_797 (lv_at hl 6 rfl) ?_
        obtain rfl := Option.some.inj h3
        exact after_799 _ _ _ _ hI hP hD hS (lv_sub hl [2, 3, 4, 5, 6, 7, 8, 9, 10, 1, 0] rfl)
      · have h3 := hp_pos c_789 h3
        refine lv_bipush (v := 8) hx hb dL_law_792 (by decide) ?_
        refine lv_goto (tgt := 799) hx hb dL_law_794 (by decide) ?_
        obtain rfl := Option.some.inj h3
        exact after_799 _ _ _ _ hI hP hD hS (lv_sub hl [2, 3, 4, 5, 6, 7, 8, 9, 10, 1, 0] rfl)
end LAWL
