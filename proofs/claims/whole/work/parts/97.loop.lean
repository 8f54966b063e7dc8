section LAW
variable {p : Program} {l : Launch} {e : Env} {s : State} {m : MethodId} {below : List Frame} {meth : Method} {c : Code} {dC : Nat → ClassId} {dI : Nat → Nat → Nat} {cI cS : ClassId} {b L : Nat} {xs : Nat → Int32} {a_o a_n a_t a_d a_o_sheets a_rd a_d_one a_d_other a_d_less a_n_kind a_n_owner a_n_from a_n_to a_n_away a_t_kind a_t_owner a_t_from a_t_to a_t_away a_m a_m_sorts a_m_sheetLong a_m_cells a_m_kind a_m_owner a_m_whose a_m_toWhich a_m_readKind a_m_readOwner a_m_readWhose a_m_readTo a_m_kept a_m_far a_m_readOne a_m_readOther a_m_readLess : Nat} {sa sca : Nat → Nat} {w : va_W} {H : Heap} {locs : List Loc} {ls : Array Slot} {i : Nat}
theorem idx6 {L i : Nat} (hL : L ≤ 3072) (hi : i ≤ L) (h : ¬ Int32.ofNat L - 6 < nI i) : i + 6 ≤ L := by
  apply Classical.byContradiction
  intro q
  apply h
  rw [Int32.lt_iff_toInt_lt, Int32.toInt_sub, nI_toInt (by omega)]
  have e1 : (Int32.ofNat L).toInt = L := nI_toInt (by omega)
  have e2 : (6 : Int32).toInt = 6 := by decide
  rw [e1, e2, Int.bmod_eq_of_le (by omega) (by omega)]
  omega
set_option maxHeartbeats 16000000 in
set_option maxRecDepth 100000 in
theorem law_loop (C0 : lw_At p s m meth c b L xs) (hL : L ≤ 3072) (hK : va_K (dC, dI) vwCl (tyW cI cS) s) (hN : Nst s) : ∀ (n i : Nat), i ≤ L → L + 1 ≤ i + n → ∀ (w : va_W) (H : Heap) (locs : List Loc) (ls : Array Slot), gI cI cS a_o a_n a_t a_d a_o_sheets a_rd a_d_one a_d_other a_d_less a_n_kind a_n_owner a_n_from a_n_to a_n_away a_t_kind a_t_owner a_t_from a_t_to a_t_away a_m a_m_sorts a_m_sheetLong a_m_cells a_m_kind a_m_owner a_m_whose a_m_toWhich a_m_readKind a_m_readOwner a_m_readWhose a_m_readTo a_m_kept a_m_far a_m_readOne a_m_readOther a_m_readLess sa sca w → va_P (dC, dI) vwCl w H → va_D (fun q : Nat => s.heap.size ≤ q) w → va_S (fun q : Nat => s.heap.size ≤ q) s.heap H locs → lv_has ls 4 [(0, .ref b), (1, .ref a_o), (2, .ref a_m), (3, .int (nI i))] → W p l e room_1 s m #[Value.ref b] below meth c H locs 44 802 (lw_Z below #[Value.ref b] s) (F0 m 18 ls []) := by
  obtain ⟨hx, hb, hr, hml, hown, hts, hX, hbl, hlocks, hgv⟩ := id C0
  have hbA : ¬ (fun q : Nat => s.heap.size ≤ q) b := Nat.not_le.mpr hbl
  intro n
  induction n with
  | zero =>
    intro i h1 h2
    exact absurd h2 (by omega)
  | succ n ih =>
    intro i hi hin w H locs ls hI hP hD hS hl
    refine lv_iload_n hx hb dL_law_18 rfl (lv_at hl 3 rfl) ?_
    refine lv_aload_n hx hb dL_law_19 rfl (lv_at hl 0 rfl) ?_
    refine va_slen hx hb hX hbl hbA hS dL_law_20 ?_
    refine lv_bipush (v := 6) hx hb dL_law_21 (by decide) ?_
    refine lv_isub hx hb dL_law_23 ?_
    refine lv_icmp_gt (tgt := 1055) hx hb dL_law_24 (by decide) (fun _ => ?_) (fun c_24 => ?_)
    · refine lv_iconst (v := 1) hx hb dL_law_1055 (by decide) ?_
      refine va_forget (fun q hq => hS.2.2 q hq) ?_
      refine W.widen (k := 600000) (n := 7302250) (Nat.le_of_ble_eq_true rfl) (Nat.le_of_ble_eq_true rfl) ?_
      exact lw_ret hx hb hr hlocks dL_law_1056
    · have h6 := idx6 hL hi c_24
      have h_0 : vp_in (nI i) L := vp_in_nI (by omega) (by omega)
      have kk : ∀ (w : va_W) (H : Heap) (locs : List Loc), gI cI cS a_o a_n a_t a_d a_o_sheets a_rd a_d_one a_d_other a_d_less a_n_kind a_n_owner a_n_from a_n_to a_n_away a_t_kind a_t_owner a_t_from a_t_to a_t_away a_m a_m_sorts a_m_sheetLong a_m_cells a_m_kind a_m_owner a_m_whose a_m_toWhich a_m_readKind a_m_readOwner a_m_readWhose a_m_readTo a_m_kept a_m_far a_m_readOne a_m_readOther a_m_readLess sa sca w → va_P (dC, dI) vwCl w H → va_D (fun q : Nat => s.heap.size ≤ q) w → va_S (fun q : Nat => s.heap.size ≤ q) s.heap H locs → W p l e room_1 s m #[Value.ref b] below meth c H locs 44 802 (lw_Z below #[Value.ref b] s) (F0 m 1049 ls []) := by
        intro w H locs hI hP hD hS
        refine lv_iinc (v := nI (i + 6)) (lv' := [(3, .int (nI (i + 6))), (0, .ref b), (1, .ref a_o), (2, .ref a_m)]) hx hb dL_law_1049 hl (k := 3) rfl (nI_ad i 6) (by decide) rfl (fun ls hl => ?_)
        refine lv_goto (tgt := 18) hx hb dL_law_1052 (by decide) ?_
        exact ih (i + 6) h6 (by omega) w H locs ls hI hP hD hS (lv_sub hl [1, 2, 3, 0] rfl)
      refine lv_aload_n hx hb dL_law_27 rfl (lv_at hl 0 rfl) ?_
      refine lv_iload_n hx hb dL_law_28 rfl (lv_at hl 3 rfl) ?_
      refine va_sld hx hb hX hbl hbA hS h_0 dL_law_29 ?_
      refine lv_bipush (v := 31) hx hb dL_law_30 (by decide) ?_
      refine lv_iand hx hb dL_law_32 ?_
      refine lv_topi (fun v ev => ?_)
      rcases pk_ix v (n := 27) (by decide) with hv | hv | ⟨j, hj, rfl⟩
      · refine lv_tableOut (tgt := 1049) hx hb dL_law_33 (Or.inl (by have := Int32.lt_iff_toInt_lt.mp hv; exact this)) (by decide) ?_
        exact kk w H locs hI hP hD hS
      · refine lv_tableOut (tgt := 1049) hx hb dL_law_33 (Or.inr (by have h27 := Int32.le_iff_toInt_le.mp hv; rw [nI_toInt (by decide)] at h27; omega)) (by decide) ?_
        exact kk w H locs hI hP hD hS
      · rcases (show j = 0 ∨ j = 1 ∨ j = 2 ∨ j = 3 ∨ j = 4 ∨ j = 5 ∨ j = 6 ∨ j = 7 ∨ j = 8 ∨ j = 9 ∨ j = 10 ∨ j = 11 ∨ j = 12 ∨ j = 13 ∨ j = 14 ∨ j = 15 ∨ j = 16 ∨ j = 17 ∨ j = 18 ∨ j = 19 ∨ j = 20 ∨ j = 21 ∨ j = 22 ∨ j = 23 ∨ j = 24 ∨ j = 25 ∨ j = 26 by omega) with rfl | rfl | rfl | rfl | rfl | rfl | rfl | rfl | rfl | rfl | rfl | rfl | rfl | rfl | rfl | rfl | rfl | rfl | rfl | rfl | rfl | rfl | rfl | rfl | rfl | rfl | rfl
        · refine lv_tableIn (off := 123) (tgt := 156) hx hb dL_law_33 (by decide) (by decide) (by decide) (by decide) ?_
          exact case_things C0 hL h6 hK hN hI hP hD hS hl kk
        · refine lv_tableIn (off := 176) (tgt := 209) hx hb dL_law_33 (by decide) (by decide) (by decide) (by decide) ?_
          exact case_ofThing C0 hL h6 hK hN hI hP hD hS hl kk
        · refine lv_tableIn (off := 209) (tgt := 242) hx hb dL_law_33 (by decide) (by decide) (by decide) (by decide) ?_
          exact case_refers C0 hL h6 hK hN hI hP hD hS hl kk
        · refine lv_tableIn (off := 242) (tgt := 275) hx hb dL_law_33 (by decide) (by decide) (by decide) (by decide) ?_
          exact case_place C0 hL h6 hK hN hI hP hD hS hl kk
        · refine lv_tableIn (off := 275) (tgt := 308) hx hb dL_law_33 (by decide) (by decide) (by decide) (by decide) ?_
          exact case_refer C0 hL h6 hK hN hI hP hD hS hl kk
        · refine lv_tableIn (off := 308) (tgt := 341) hx hb dL_law_33 (by decide) (by decide) (by decide) (by decide) ?_
          exact case_own C0 hL h6 hK hN hI hP hD hS hl kk
        · refine lv_tableIn (off := 341) (tgt := 374) hx hb dL_law_33 (by decide) (by decide) (by decide) (by decide) ?_
          exact case_hand C0 hL h6 hK hN hI hP hD hS hl kk
        · refine lv_tableIn (off := 374) (tgt := 407) hx hb dL_law_33 (by decide) (by decide) (by decide) (by decide) ?_
          exact case_day C0 hL h6 hK hN hI hP hD hS hl kk
        · refine lv_tableIn (off := 437) (tgt := 470) hx hb dL_law_33 (by decide) (by decide) (by decide) (by decide) ?_
          exact case_unlawful C0 hL h6 hK hN hI hP hD hS hl kk
        · refine lv_tableIn (off := 450) (tgt := 483) hx hb dL_law_33 (by decide) (by decide) (by decide) (by decide) ?_
          exact case_past C0 hL h6 hK hN hI hP hD hS hl kk
        · refine lv_tableIn (off := 483) (tgt := 516) hx hb dL_law_33 (by decide) (by decide) (by decide) (by decide) ?_
          exact case_locks C0 hL h6 hK hN hI hP hD hS hl kk
        · refine lv_tableIn (off := 536) (tgt := 569) hx hb dL_law_33 (by decide) (by decide) (by decide) (by decide) ?_
          exact case_reading C0 hL h6 hK hN hI hP hD hS hl kk
        · refine lv_tableIn (off := 579) (tgt := 612) hx hb dL_law_33 (by decide) (by decide) (by decide) (by decide) ?_
          exact case_back C0 hL h6 hK hN hI hP hD hS hl kk
        · refine lv_tableIn (off := 602) (tgt := 635) hx hb dL_law_33 (by decide) (by decide) (by decide) (by decide) ?_
          exact case_kinds C0 hL h6 hK hN hI hP hD hS hl kk
        · refine lv_tableIn (off := 625) (tgt := 658) hx hb dL_law_33 (by decide) (by decide) (by decide) (by decide) ?_
          exact case_owners C0 hL h6 hK hN hI hP hD hS hl kk
        · refine lv_tableIn (off := 648) (tgt := 681) hx hb dL_law_33 (by decide) (by decide) (by decide) (by decide) ?_
          exact case_odds C0 hL h6 hK hN hI hP hD hS hl kk
        · refine lv_tableIn (off := 672) (tgt := 705) hx hb dL_law_33 (by decide) (by decide) (by decide) (by decide) ?_
          exact case_sheet C0 hL h6 hK hN hI hP hD hS hl kk
        · refine lv_tableIn (off := 715) (tgt := 748) hx hb dL_law_33 (by decide) (by decide) (by decide) (by decide) ?_
          exact case_lose C0 hL h6 hK hN hI hP hD hS hl kk
        · refine lv_tableIn (off := 738) (tgt := 771) hx hb dL_law_33 (by decide) (by decide) (by decide) (by decide) ?_
          exact case_put C0 hL h6 hK hN hI hP hD hS hl kk
        · refine lv_tableIn (off := 781) (tgt := 814) hx hb dL_law_33 (by decide) (by decide) (by decide) (by decide) ?_
          exact case_cell C0 hL h6 hK hN hI hP hD hS hl kk
        · refine lv_tableIn (off := 825) (tgt := 858) hx hb dL_law_33 (by decide) (by decide) (by decide) (by decide) ?_
          exact case_copy C0 hL h6 hK hN hI hP hD hS hl kk
        · refine lv_tableIn (off := 888) (tgt := 921) hx hb dL_law_33 (by decide) (by decide) (by decide) (by decide) ?_
          exact case_tell C0 hL h6 hK hN hI hP hD hS hl kk
        · refine lv_tableIn (off := 911) (tgt := 944) hx hb dL_law_33 (by decide) (by decide) (by decide) (by decide) ?_
          exact case_hail C0 hL h6 hK hN hI hP hD hS hl kk
        · refine lv_tableIn (off := 934) (tgt := 967) hx hb dL_law_33 (by decide) (by decide) (by decide) (by decide) ?_
          exact case_as C0 hL h6 hK hN hI hP hD hS hl kk
        · refine lv_tableIn (off := 967) (tgt := 1000) hx hb dL_law_33 (by decide) (by decide) (by decide) (by decide) ?_
          exact case_trace C0 hL h6 hK hN hI hP hD hS hl kk
        · refine lv_tableIn (off := 980) (tgt := 1013) hx hb dL_law_33 (by decide) (by decide) (by decide) (by decide) ?_
          exact case_fault C0 hL h6 hK hN hI hP hD hS hl kk
        · refine lv_tableIn (off := 993) (tgt := 1026) hx hb dL_law_33 (by decide) (by decide) (by decide) (by decide) ?_
          exact case_many C0 hL h6 hK hN hI hP hD hS hl kk
end LAW
