section LAWL
variable {p : Program} {l : Launch} {e : Env} {s : State} {m : MethodId} {below : List Frame} {meth : Method} {c : Code} {dC : Nat → ClassId} {dI : Nat → Nat → Nat} {cI cS : ClassId} {b L : Nat} {xs : Nat → Int32} {ad : Nat → Nat} {a_g a_k : Nat}
set_option maxHeartbeats 32000000 in
set_option maxRecDepth 100000 in
theorem law_walk (C0 : lw_At p s m meth c b L xs) (hK : va_K (dC, dI) vwCl (tyW cI cS) s) (hN : Nst s) (hbg : b ≠ a_g ∧ b ∉ AL ad) {SS : SG} {ga ka : Nat → Int32} {r : Int32} (h : f_L_law L xs ga ka SS = some r) : ∀ (w : va_W) (H : Heap) (locs : List Loc) (ls : Array Slot), gI cI cS ad SS w → va_P (dC, dI) vwCl ((a_g, .inl (cI, 38, .inl ga)) :: (a_k, .inl (cI, 38, .inl ka)) :: w) H → va_D (fun q : Nat => s.heap.size ≤ q) ((a_g, .inl (cI, 38, .inl ga)) :: (a_k, .inl (cI, 38, .inl ka)) :: w) → va_S (fun q : Nat => s.heap.size ≤ q) s.heap H locs → lv_has ls 19 [(3, .ref a_k), (2, .ref a_g), (1, .ref (ad 0)), (0, .ref b)] → W p l e room_1 s m #[Value.ref b] below meth c H locs 29 472 (lw_Z below #[Value.ref b] s) (F0 m 18 ls []) := by
  obtain ⟨hx, hb, hr, hml, hown, hts0, hX, hbl, hlocks, hgv⟩ := id C0
  have hts : ∀ w ∈ wsL_law, w.before #[Value.ref b] s = true := fun w h => hts0 w (wsL_law_in w h)
  have hbA : ¬ (fun q : Nat => s.heap.size ≤ q) b := Nat.not_le.mpr hbl
  intro w H locs ls hI hP hD hS hl
  unfold f_L_law at h
  refine lv_aload_n hx hb dL_law_18 rfl (lv_at hl 2 rfl) ?_
  refine lv_aload_n hx hb dL_law_19 rfl (lv_at hl 3 rfl) ?_
  refine lv_iconst (v := 0) hx hb dL_law_20 (by decide) ?_
  refine lv_aload_n hx hb dL_law_21 rfl (lv_at hl 1 rfl) ?_
  obtain ⟨r_22, r_22_ga, r_22_SS, e_22, h⟩ := ob3_inv h
  refine k_GSi (pre := [(a_g, .inl (cI, 38, .inl ga)), (a_k, .inl (cI, 38, .inl ka))]) (pre' := [(a_g, .inl (cI, 38, .inl r_22_ga)), (a_k, .inl (cI, 38, .inl ka))]) (rest := []) ⟨hx, hb, hml, hown, hts⟩ (c_L_put l dC dI cI cS ad a_g hbg e_22) (va_cwS 4 hts gL_law_L_put rfl rfl rfl khd_L_put.2 ⟨(Nat.le_of_ble_eq_true rfl), (Nat.le_of_ble_eq_true rfl)⟩) hK hN hI hP hD hS [0] rfl rfl rfl rfl rfl xS_b (fun U hU hW => by show va_X b L xs U U.heap; rw [hU]; exact va_X.moved hW.alike (hX.kept (hS.2.1 b hbl hbA))) rfl hl.1 rfl (Nat.le_of_ble_eq_true rfl) dL_law_22 ⟨(Nat.le_of_ble_eq_true rfl), (Nat.le_of_ble_eq_true rfl)⟩ (fun H locs w hf_22 hI hP hD hS => ?_)
  have hP : va_P (dC, dI) vwCl ((a_g, .inl (cI, 38, .inl r_22_ga)) :: (a_k, .inl (cI, 38, .inl ka)) :: w) H := hP
  have hD : va_D (fun q : Nat => s.heap.size ≤ q) ((a_g, .inl (cI, 38, .inl r_22_ga)) :: (a_k, .inl (cI, 38, .inl ka)) :: w) := hD
  refine lv_istore (lv' := [(4, .int r_22), (3, .ref a_k), (2, .ref a_g), (1, .ref (ad 0)), (0, .ref b)]) hx hb dL_law_25 hl (by decide) rfl (fun ls hl => ?_)
  refine lv_aload_n hx hb dL_law_27 rfl (lv_at hl 2 rfl) ?_
  refine lv_iconst (v := 0) hx hb dL_law_28 (by decide) ?_
  refine va_iald (D := (dC, dI)) hx hb hK hP 0 0 rfl rfl (by unfold vp_in; decide) dL_law_29 ?_
  refine lv_istore (lv' := [(5, .int (r_22_ga 0)), (4, .int r_22), (3, .ref a_k), (2, .ref a_g), (1, .ref (ad 0)), (0, .ref b)]) hx hb dL_law_30 hl (by decide) rfl (fun ls hl => ?_)
  refine lv_iload hx hb dL_law_32 (lv_at hl 1 rfl) ?_
  refine lv_iconst (v := 4) hx hb dL_law_34 (by decide) ?_
  refine lv_icmp_lt (tgt := 63) hx hb dL_law_35 (by decide) (fun c_35 => ?_) (fun c_35 => ?_)
  · have h := hp_pos c_35 h
    cases h
  · have h := hp_neg c_35 h
    refine lv_aload_n hx hb dL_law_38 rfl (lv_at hl 4 rfl) ?_
    refine lv_iconst (v := 0) hx hb dL_law_39 (by decide) ?_
    refine lv_iconst (v := 0) hx hb dL_law_40 (by decide) ?_
    refine lv_iconst (v := 0) hx hb dL_law_41 (by decide) ?_
    refine lv_iload hx hb dL_law_42 (lv_at hl 1 rfl) ?_
    obtain ⟨r_44, r_44_S, e_44, h⟩ := ob2_inv h
    refine k_GVi (pre := [(a_g, .inl (cI, 38, .inl r_22_ga)), (a_k, .inl (cI, 38, .inl ka))]) (rest := []) ⟨hx, hb, hml, hown, hts⟩ (A_X4_things l dC dI cI cS ad e_44) (cwV 4 hts gL_law_X4_things rfl rfl rfl khd_X4_things ⟨(Nat.le_of_ble_eq_true rfl), (Nat.le_of_ble_eq_true rfl)⟩) hK hN hI hP hD hS rfl hl.1 rfl (Nat.le_of_ble_eq_true rfl) dL_law_44 ⟨(Nat.le_of_ble_eq_true rfl), (Nat.le_of_ble_eq_true rfl)⟩ (fun H locs w hI hP hD hS => ?_)
    have hP : va_P (dC, dI) vwCl ((a_g, .inl (cI, 38, .inl r_22_ga)) :: (a_k, .inl (cI, 38, .inl ka)) :: w) H := hP
    have hD : va_D (fun q : Nat => s.heap.size ≤ q) ((a_g, .inl (cI, 38, .inl r_22_ga)) :: (a_k, .inl (cI, 38, .inl ka)) :: w) := hD
    refine lv_iload hx hb dL_law_47 (lv_at hl 0 rfl) ?_
    refine lv_icmp_ne (tgt := 63) hx hb dL_law_49 (by decide) (fun c_49 => ?_) (fun c_49 => ?_)
    · have h := hp_neg c_49 h
      cases h
    · have h := hp_pos c_49 h
      refine lv_aload_n hx hb dL_law_52 rfl (lv_at hl 4 rfl) ?_
      refine lv_iconst (v := 1) hx hb dL_law_53 (by decide) ?_
      obtain ⟨r_54, e_54, h⟩ := ob1_inv h
      refine k_GVi (pre := [(a_g, .inl (cI, 38, .inl r_22_ga)), (a_k, .inl (cI, 38, .inl ka))]) (rest := []) ⟨hx, hb, hml, hown, hts⟩ (A_X4_many l dC dI cI cS ad e_54) (cwV 1 hts gL_law_X4_many rfl rfl rfl khd_X4_many ⟨(Nat.le_of_ble_eq_true rfl), (Nat.le_of_ble_eq_true rfl)⟩) hK hN hI hP hD hS rfl hl.1 rfl (Nat.le_of_ble_eq_true rfl) dL_law_54 ⟨(Nat.le_of_ble_eq_true rfl), (Nat.le_of_ble_eq_true rfl)⟩ (fun H locs w hI hP hD hS => ?_)
      have hP : va_P (dC, dI) vwCl ((a_g, .inl (cI, 38, .inl r_22_ga)) :: (a_k, .inl (cI, 38, .inl ka)) :: w) H := hP
      have hD : va_D (fun q : Nat => s.heap.size ≤ q) ((a_g, .inl (cI, 38, .inl r_22_ga)) :: (a_k, .inl (cI, 38, .inl ka)) :: w) := hD
      refine lv_aload_n hx hb dL_law_57 rfl (lv_at hl 3 rfl) ?_
      refine lv_iconst (v := 1) hx hb dL_law_58 (by decide) ?_
      refine va_iald (D := (dC, dI)) hx hb hK hP 0 0 rfl rfl (by unfold vp_in; decide) dL_law_59 ?_
      refine lv_icmp_eq (tgt := 65) hx hb dL_law_60 (by decide) (fun c_60 => ?_) (fun c_60 => ?_)
      · have h := hp_pos c_60 h
        refine lv_iconst (v := 0) hx hb dL_law_65 (by decide) ?_
        refine lv_istore (lv' := [(6, .int (0 : Int32)), (5, .int (r_22_ga 0)), (4, .int r_22), (3, .ref a_k), (2, .ref a_g), (1, .ref (ad 0)), (0, .ref b)]) hx hb dL_law_66 hl (by decide) rfl (fun ls hl => ?_)
        obtain ⟨ga_68e, ka_68e, SS_68e, i_68, h⟩ := ob3_inv h
        have after_68 : ∀ (w : va_W) (H : Heap) (locs : List Loc) (ls : Array Slot), gI cI cS ad SS_68e w → va_P (dC, dI) vwCl ((a_g, .inl (cI, 38, .inl ga_68e)) :: (a_k, .inl (cI, 38, .inl ka_68e)) :: w) H → va_D (fun q : Nat => s.heap.size ≤ q) ((a_g, .inl (cI, 38, .inl ga_68e)) :: (a_k, .inl (cI, 38, .inl ka_68e)) :: w) → va_S (fun q : Nat => s.heap.size ≤ q) s.heap H locs → lv_has ls 19 [(1, .ref (ad 0)), (2, .ref a_g), (5, .int (r_22_ga 0))] → W p l e room_1 s m #[Value.ref b] below meth c H locs 29 472 (lw_Z below #[Value.ref b] s) (F0 m 1411 ls []) := by
          intro w H locs ls hI hP hD hS hl
          refine lv_aload_n hx hb dL_law_1411 rfl (lv_at hl 0 rfl) ?_
          refine lv_iload hx hb dL_law_1412 (lv_at hl 2 rfl) ?_
          refine lv_iconst (v := 0) hx hb dL_law_1414 (by decide) ?_
          obtain ⟨r_1415, e_1415, h⟩ := ob1_inv h
          refine k_GVi (pre := [(a_g, .inl (cI, 38, .inl ga_68e)), (a_k, .inl (cI, 38, .inl ka_68e))]) (rest := []) ⟨hx, hb, hml, hown, hts⟩ (A_X4_ofThing l dC dI cI cS ad e_1415) (cwV 2 hts gL_law_X4_ofThing rfl rfl rfl khd_X4_ofThing ⟨(Nat.le_of_ble_eq_true rfl), (Nat.le_of_ble_eq_true rfl)⟩) hK hN hI hP hD hS rfl hl.1 rfl (Nat.le_of_ble_eq_true rfl) dL_law_1415 ⟨(Nat.le_of_ble_eq_true rfl), (Nat.le_of_ble_eq_true rfl)⟩ (fun H locs w hI hP hD hS => ?_)
          have hP : va_P (dC, dI) vwCl ((a_g, .inl (cI, 38, .inl ga_68e)) :: (a_k, .inl (cI, 38, .inl ka_68e)) :: w) H := hP
          have hD : va_D (fun q : Nat => s.heap.size ≤ q) ((a_g, .inl (cI, 38, .inl ga_68e)) :: (a_k, .inl (cI, 38, .inl ka_68e)) :: w) := hD
          refine lv_iconst (v := -1) hx hb dL_law_1418 (by decide) ?_
          refine lv_icmp_ne (tgt := 1585) hx hb dL_law_1419 (by decide) (fun c_1419 => ?_) (fun c_1419 => ?_)
          · have h := hp_neg c_1419 h
            cases h
          · have h := hp_pos c_1419 h
            refine lv_aload_n hx hb dL_law_1422 rfl (lv_at hl 0 rfl) ?_
            refine lv_iconst (v := 0) hx hb dL_law_1423 (by decide) ?_
            refine lv_bipush (v := 11) hx hb dL_law_1424 (by decide) ?_
            obtain ⟨r_1426, e_1426, h⟩ := ob1_inv h
            refine k_GVi (pre := [(a_g, .inl (cI, 38, .inl ga_68e)), (a_k, .inl (cI, 38, .inl ka_68e))]) (rest := []) ⟨hx, hb, hml, hown, hts⟩ (A_X4_ofThing l dC dI cI cS ad e_1426) (cwV 2 hts gL_law_X4_ofThing rfl rfl rfl khd_X4_ofThing ⟨(Nat.le_of_ble_eq_true rfl), (Nat.le_of_ble_eq_true rfl)⟩) hK hN hI hP hD hS rfl hl.1 rfl (Nat.le_of_ble_eq_true rfl) dL_law_1426 ⟨(Nat.le_of_ble_eq_true rfl), (Nat.le_of_ble_eq_true rfl)⟩ (fun H locs w hI hP hD hS => ?_)
            have hP : va_P (dC, dI) vwCl ((a_g, .inl (cI, 38, .inl ga_68e)) :: (a_k, .inl (cI, 38, .inl ka_68e)) :: w) H := hP
            have hD : va_D (fun q : Nat => s.heap.size ≤ q) ((a_g, .inl (cI, 38, .inl ga_68e)) :: (a_k, .inl (cI, 38, .inl ka_68e)) :: w) := hD
            refine lv_bipush (v := -2) hx hb dL_law_1429 (by decide) ?_
            refine lv_icmp_ne (tgt := 1585) hx hb dL_law_1431 (by decide) (fun c_1431 => ?_) (fun c_1431 => ?_)
            · have h := hp_neg c_1431 h
              cases h
            · have h := hp_pos c_1431 h
              refine lv_aload_n hx hb dL_law_1434 rfl (lv_at hl 0 rfl) ?_
              refine lv_bipush (v := 7) hx hb dL_law_1435 (by decide) ?_
              refine lv_iconst (v := 0) hx hb dL_law_1437 (by decide) ?_
              obtain ⟨r_1438, e_1438, h⟩ := ob1_inv h
              refine k_GVi (pre := [(a_g, .inl (cI, 38, .inl ga_68e)), (a_k, .inl (cI, 38, .inl ka_68e))]) (rest := []) ⟨hx, hb, hml, hown, hts⟩ (A_X4_refers l dC dI cI cS ad e_1438) (cwV 2 hts gL_law_X4_refers rfl rfl rfl khd_X4_refers ⟨(Nat.le_of_ble_eq_true rfl), (Nat.le_of_ble_eq_true rfl)⟩) hK hN hI hP hD hS rfl hl.1 rfl (Nat.le_of_ble_eq_true rfl) dL_law_1438 ⟨(Nat.le_of_ble_eq_true rfl), (Nat.le_of_ble_eq_true rfl)⟩ (fun H locs w hI hP hD hS => ?_)
              have hP : va_P (dC, dI) vwCl ((a_g, .inl (cI, 38, .inl ga_68e)) :: (a_k, .inl (cI, 38, .inl ka_68e)) :: w) H := hP
              have hD : va_D (fun q : Nat => s.heap.size ≤ q) ((a_g, .inl (cI, 38, .inl ga_68e)) :: (a_k, .inl (cI, 38, .inl ka_68e)) :: w) := hD
              refine lv_iconst (v := -1) hx hb dL_law_1441 (by decide) ?_
              refine lv_icmp_ne (tgt := 1585) hx hb dL_law_1442 (by decide) (fun c_1442 => ?_) (fun c_1442 => ?_)
              · have h := hp_neg c_1442 h
                cases h
              · have h := hp_pos c_1442 h
                refine lv_aload_n hx hb dL_law_1445 rfl (lv_at hl 0 rfl) ?_
                refine lv_iconst (v := 0) hx hb dL_law_1446 (by decide) ?_
                refine lv_iload hx hb dL_law_1447 (lv_at hl 2 rfl) ?_
                obtain ⟨r_1449, e_1449, h⟩ := ob1_inv h
                refine k_GVi (pre := [(a_g, .inl (cI, 38, .inl ga_68e)), (a_k, .inl (cI, 38, .inl ka_68e))]) (rest := []) ⟨hx, hb, hml, hown, hts⟩ (A_X4_refers l dC dI cI cS ad e_1449) (cwV 2 hts gL_law_X4_refers rfl rfl rfl khd_X4_refers ⟨(Nat.le_of_ble_eq_true rfl), (Nat.le_of_ble_eq_true rfl)⟩) hK hN hI hP hD hS rfl hl.1 rfl (Nat.le_of_ble_eq_true rfl) dL_law_1449 ⟨(Nat.le_of_ble_eq_true rfl), (Nat.le_of_ble_eq_true rfl)⟩ (fun H locs w hI hP hD hS => ?_)
                have hP : va_P (dC, dI) vwCl ((a_g, .inl (cI, 38, .inl ga_68e)) :: (a_k, .inl (cI, 38, .inl ka_68e)) :: w) H := hP
                have hD : va_D (fun q : Nat => s.heap.size ≤ q) ((a_g, .inl (cI, 38, .inl ga_68e)) :: (a_k, .inl (cI, 38, .inl ka_68e)) :: w) := hD
                refine lv_iconst (v := -1) hx hb dL_law_1452 (by decide) ?_
                refine lv_icmp_ne (tgt := 1585) hx hb dL_law_1453 (by decide) (fun c_1453 => ?_) (fun c_1453 => ?_)
                · have h := hp_neg c_1453 h
                  cases h
                · have h := hp_pos c_1453 h
                  refine lv_aload_n hx hb dL_law_1456 rfl (lv_at hl 0 rfl) ?_
                  refine lv_iconst (v := 0) hx hb dL_law_1457 (by decide) ?_
                  refine lv_bipush (v := 6) hx hb dL_law_1458 (by decide) ?_
                  obtain ⟨r_1460, e_1460, h⟩ := ob1_inv h
                  refine k_GVi (pre := [(a_g, .inl (cI, 38, .inl ga_68e)), (a_k, .inl (cI, 38, .inl ka_68e))]) (rest := []) ⟨hx, hb, hml, hown, hts⟩ (A_X4_refers l dC dI cI cS ad e_1460) (cwV 2 hts gL_law_X4_refers rfl rfl rfl khd_X4_refers ⟨(Nat.le_of_ble_eq_true rfl), (Nat.le_of_ble_eq_true rfl)⟩) hK hN hI hP hD hS rfl hl.1 rfl (Nat.le_of_ble_eq_true rfl) dL_law_1460 ⟨(Nat.le_of_ble_eq_true rfl), (Nat.le_of_ble_eq_true rfl)⟩ (fun H locs w hI hP hD hS => ?_)
                  have hP : va_P (dC, dI) vwCl ((a_g, .inl (cI, 38, .inl ga_68e)) :: (a_k, .inl (cI, 38, .inl ka_68e)) :: w) H := hP
                  have hD : va_D (fun q : Nat => s.heap.size ≤ q) ((a_g, .inl (cI, 38, .inl ga_68e)) :: (a_k, .inl (cI, 38, .inl ka_68e)) :: w) := hD
                  refine lv_iconst (v := -1) hx hb dL_law_1463 (by decide) ?_
                  refine lv_icmp_ne (tgt := 1585) hx hb dL_law_1464 (by decide) (fun c_1464 => ?_) (fun c_1464 => ?_)
                  · have h := hp_neg c_1464 h
                    cases h
                  · have h := hp_pos c_1464 h
                    refine lv_aload_n hx hb dL_law_1467 rfl (lv_at hl 0 rfl) ?_
                    refine lv_iconst (v := -1) hx hb dL_law_1468 (by decide) ?_
                    refine lv_iconst (v := 0) hx hb dL_law_1469 (by decide) ?_
                    obtain ⟨r_1470, e_1470, h⟩ := ob1_inv h
                    refine k_GVi (pre := [(a_g, .inl (cI, 38, .inl ga_68e)), (a_k, .inl (cI, 38, .inl ka_68e))]) (rest := []) ⟨hx, hb, hml, hown, hts⟩ (A_X4_place l dC dI cI cS ad e_1470) (cwV 2 hts gL_law_X4_place rfl rfl rfl khd_X4_place ⟨(Nat.le_of_ble_eq_true rfl), (Nat.le_of_ble_eq_true rfl)⟩) hK hN hI hP hD hS rfl hl.1 rfl (Nat.le_of_ble_eq_true rfl) dL_law_1470 ⟨(Nat.le_of_ble_eq_true rfl), (Nat.le_of_ble_eq_true rfl)⟩ (fun H locs w hI hP hD hS => ?_)
                    have hP : va_P (dC, dI) vwCl ((a_g, .inl (cI, 38, .inl ga_68e)) :: (a_k, .inl (cI, 38, .inl ka_68e)) :: w) H := hP
                    have hD : va_D (fun q : Nat => s.heap.size ≤ q) ((a_g, .inl (cI, 38, .inl ga_68e)) :: (a_k, .inl (cI, 38, .inl ka_68e)) :: w) := hD
                    refine lv_iconst (v := -1) hx hb dL_law_1473 (by decide) ?_
                    refine lv_icmp_ne (tgt := 1585) hx hb dL_law_1474 (by decide) (fun c_1474 => ?_) (fun c_1474 => ?_)
                    · have h := hp_neg c_1474 h
                      cases h
                    · have h := hp_pos c_1474 h
                      refine lv_aload_n hx hb dL_law_1477 rfl (lv_at hl 0 rfl) ?_
                      refine lv_iconst (v := 0) hx hb dL_law_1478 (by decide) ?_
                      refine lv_iconst (v := 0) hx hb dL_law_1479 (by decide) ?_
                      obtain ⟨r_1480, e_1480, h⟩ := ob1_inv h
                      refine k_GVi (pre := [(a_g, .inl (cI, 38, .inl ga_68e)), (a_k, .inl (cI, 38, .inl ka_68e))]) (rest := []) ⟨hx, hb, hml, hown, hts⟩ (A_X4_place l dC dI cI cS ad e_1480) (cwV 2 hts gL_law_X4_place rfl rfl rfl khd_X4_place ⟨(Nat.le_of_ble_eq_true rfl), (Nat.le_of_ble_eq_true rfl)⟩) hK hN hI hP hD hS rfl hl.1 rfl (Nat.le_of_ble_eq_true rfl) dL_law_1480 ⟨(Nat.le_of_ble_eq_true rfl), (Nat.le_of_ble_eq_true rfl)⟩ (fun H locs w hI hP hD hS => ?_)
                      have hP : va_P (dC, dI) vwCl ((a_g, .inl (cI, 38, .inl ga_68e)) :: (a_k, .inl (cI, 38, .inl ka_68e)) :: w) H := hP
                      have hD : va_D (fun q : Nat => s.heap.size ≤ q) ((a_g, .inl (cI, 38, .inl ga_68e)) :: (a_k, .inl (cI, 38, .inl ka_68e)) :: w) := hD
                      refine lv_bipush (v := -9) hx hb dL_law_1483 (by decide) ?_
                      refine lv_icmp_ne (tgt := 1585) hx hb dL_law_1485 (by decide) (fun c_1485 => ?_) (fun c_1485 => ?_)
                      · have h := hp_neg c_1485 h
                        cases h
                      · have h := hp_pos c_1485 h
                        refine lv_aload_n hx hb dL_law_1488 rfl (lv_at hl 0 rfl) ?_
                        refine lv_bipush (v := 7) hx hb dL_law_1489 (by decide) ?_
                        refine lv_iconst (v := 0) hx hb dL_law_1491 (by decide) ?_
                        obtain ⟨r_1492, r_1492_S, e_1492, h⟩ := ob2_inv h
                        refine k_GVi (pre := [(a_g, .inl (cI, 38, .inl ga_68e)), (a_k, .inl (cI, 38, .inl ka_68e))]) (rest := []) ⟨hx, hb, hml, hown, hts⟩ (A_X4_refer l dC dI cI cS ad e_1492) (cwV 2 hts gL_law_X4_refer rfl rfl rfl khd_X4_refer ⟨(Nat.le_of_ble_eq_true rfl), (Nat.le_of_ble_eq_true rfl)⟩) hK hN hI hP hD hS rfl hl.1 rfl (Nat.le_of_ble_eq_true rfl) dL_law_1492 ⟨(Nat.le_of_ble_eq_true rfl), (Nat.le_of_ble_eq_true rfl)⟩ (fun H locs w hI hP hD hS => ?_)
                        have hP : va_P (dC, dI) vwCl ((a_g, .inl (cI, 38, .inl ga_68e)) :: (a_k, .inl (cI, 38, .inl ka_68e)) :: w) H := hP
                        have hD : va_D (fun q : Nat => s.heap.size ≤ q) ((a_g, .inl (cI, 38, .inl ga_68e)) :: (a_k, .inl (cI, 38, .inl ka_68e)) :: w) := hD
                        refine lv_iconst (v := -1) hx hb dL_law_1495 (by decide) ?_
                        refine lv_icmp_ne (tgt := 1585) hx hb dL_law_1496 (by decide) (fun c_1496 => ?_) (fun c_1496 => ?_)
                        · have h := hp_neg c_1496 h
                          cases h
                        · have h := hp_pos c_1496 h
                          refine lv_aload_n hx hb dL_law_1499 rfl (lv_at hl 0 rfl) ?_
                          refine lv_bipush (v := 6) hx hb dL_law_1500 (by decide) ?_
                          refine lv_bipush (v := 6) hx hb dL_law_1502 (by decide) ?_
                          obtain ⟨r_1504, r_1504_S, e_1504, h⟩ := ob2_inv h
                          refine k_GVi (pre := [(a_g, .inl (cI, 38, .inl ga_68e)), (a_k, .inl (cI, 38, .inl ka_68e))]) (rest := []) ⟨hx, hb, hml, hown, hts⟩ (A_X4_refer l dC dI cI cS ad e_1504) (cwV 2 hts gL_law_X4_refer rfl rfl rfl khd_X4_refer ⟨(Nat.le_of_ble_eq_true rfl), (Nat.le_of_ble_eq_true rfl)⟩) hK hN hI hP hD hS rfl hl.1 rfl (Nat.le_of_ble_eq_true rfl) dL_law_1504 ⟨(Nat.le_of_ble_eq_true rfl), (Nat.le_of_ble_eq_true rfl)⟩ (fun H locs w hI hP hD hS => ?_)
                          have hP : va_P (dC, dI) vwCl ((a_g, .inl (cI, 38, .inl ga_68e)) :: (a_k, .inl (cI, 38, .inl ka_68e)) :: w) H := hP
                          have hD : va_D (fun q : Nat => s.heap.size ≤ q) ((a_g, .inl (cI, 38, .inl ga_68e)) :: (a_k, .inl (cI, 38, .inl ka_68e)) :: w) := hD
                          refine lv_iconst (v := -1) hx hb dL_law_1507 (by decide) ?_
                          refine lv_icmp_ne (tgt := 1585) hx hb dL_law_1508 (by decide) (fun c_1508 => ?_) (fun c_1508 => ?_)
                          · have h := hp_neg c_1508 h
                            cases h
                          · have h := hp_pos c_1508 h
                            refine lv_aload_n hx hb dL_law_1511 rfl (lv_at hl 0 rfl) ?_
                            refine lv_iconst (v := 0) hx hb dL_law_1512 (by decide) ?_
                            refine lv_iconst (v := 0) hx hb dL_law_1513 (by decide) ?_
                            obtain ⟨r_1514, r_1514_S, e_1514, h⟩ := ob2_inv h
                            refine k_GVi (pre := [(a_g, .inl (cI, 38, .inl ga_68e)), (a_k, .inl (cI, 38, .inl ka_68e))]) (rest := []) ⟨hx, hb, hml, hown, hts⟩ (A_X4_refer l dC dI cI cS ad e_1514) (cwV 2 hts gL_law_X4_refer rfl rfl rfl khd_X4_refer ⟨(Nat.le_of_ble_eq_true rfl), (Nat.le_of_ble_eq_true rfl)⟩) hK hN hI hP hD hS rfl hl.1 rfl (Nat.le_of_ble_eq_true rfl) dL_law_1514 ⟨(Nat.le_of_ble_eq_true rfl), (Nat.le_of_ble_eq_true rfl)⟩ (fun H locs w hI hP hD hS => ?_)
                            have hP : va_P (dC, dI) vwCl ((a_g, .inl (cI, 38, .inl ga_68e)) :: (a_k, .inl (cI, 38, .inl ka_68e)) :: w) H := hP
                            have hD : va_D (fun q : Nat => s.heap.size ≤ q) ((a_g, .inl (cI, 38, .inl ga_68e)) :: (a_k, .inl (cI, 38, .inl ka_68e)) :: w) := hD
                            refine lv_iconst (v := -1) hx hb dL_law_1517 (by decide) ?_
                            refine lv_icmp_ne (tgt := 1585) hx hb dL_law_1518 (by decide) (fun c_1518 => ?_) (fun c_1518 => ?_)
                            · have h := hp_neg c_1518 h
                              cases h
                            · have h := hp_pos c_1518 h
                              refine lv_aload_n hx hb dL_law_1521 rfl (lv_at hl 0 rfl) ?_
                              refine lv_bipush (v := 6) hx hb dL_law_1522 (by decide) ?_
                              refine lv_iconst (v := 0) hx hb dL_law_1524 (by decide) ?_
                              obtain ⟨r_1525, r_1525_S, e_1525, h⟩ := ob2_inv h
                              refine k_GVi (pre := [(a_g, .inl (cI, 38, .inl ga_68e)), (a_k, .inl (cI, 38, .inl ka_68e))]) (rest := []) ⟨hx, hb, hml, hown, hts⟩ (A_X4_own l dC dI cI cS ad e_1525) (cwV 2 hts gL_law_X4_own rfl rfl rfl khd_X4_own ⟨(Nat.le_of_ble_eq_true rfl), (Nat.le_of_ble_eq_true rfl)⟩) hK hN hI hP hD hS rfl hl.1 rfl (Nat.le_of_ble_eq_true rfl) dL_law_1525 ⟨(Nat.le_of_ble_eq_true rfl), (Nat.le_of_ble_eq_true rfl)⟩ (fun H locs w hI hP hD hS => ?_)
                              have hP : va_P (dC, dI) vwCl ((a_g, .inl (cI, 38, .inl ga_68e)) :: (a_k, .inl (cI, 38, .inl ka_68e)) :: w) H := hP
                              have hD : va_D (fun q : Nat => s.heap.size ≤ q) ((a_g, .inl (cI, 38, .inl ga_68e)) :: (a_k, .inl (cI, 38, .inl ka_68e)) :: w) := hD
                              refine lv_iconst (v := -1) hx hb dL_law_1528 (by decide) ?_
                              refine lv_icmp_ne (tgt := 1585) hx hb dL_law_1529 (by decide) (fun c_1529 => ?_) (fun c_1529 => ?_)
                              · have h := hp_neg c_1529 h
                                cases h
                              · have h := hp_pos c_1529 h
                                refine lv_aload_n hx hb dL_law_1532 rfl (lv_at hl 0 rfl) ?_
                                refine lv_iconst (v := 0) hx hb dL_law_1533 (by decide) ?_
                                refine lv_bipush (v := 7) hx hb dL_law_1534 (by decide) ?_
                                obtain ⟨r_1536, r_1536_S, e_1536, h⟩ := ob2_inv h
                                refine k_GVi (pre := [(a_g, .inl (cI, 38, .inl ga_68e)), (a_k, .inl (cI, 38, .inl ka_68e))]) (rest := []) ⟨hx, hb, hml, hown, hts⟩ (A_X4_own l dC dI cI cS ad e_1536) (cwV 2 hts gL_law_X4_own rfl rfl rfl khd_X4_own ⟨(Nat.le_of_ble_eq_true rfl), (Nat.le_of_ble_eq_true rfl)⟩) hK hN hI hP hD hS rfl hl.1 rfl (Nat.le_of_ble_eq_true rfl) dL_law_1536 ⟨(Nat.le_of_ble_eq_true rfl), (Nat.le_of_ble_eq_true rfl)⟩ (fun H locs w hI hP hD hS => ?_)
                                have hP : va_P (dC, dI) vwCl ((a_g, .inl (cI, 38, .inl ga_68e)) :: (a_k, .inl (cI, 38, .inl ka_68e)) :: w) H := hP
                                have hD : va_D (fun q : Nat => s.heap.size ≤ q) ((a_g, .inl (cI, 38, .inl ga_68e)) :: (a_k, .inl (cI, 38, .inl ka_68e)) :: w) := hD
                                refine lv_iconst (v := -1) hx hb dL_law_1539 (by decide) ?_
                                refine lv_icmp_ne (tgt := 1585) hx hb dL_law_1540 (by decide) (fun c_1540 => ?_) (fun c_1540 => ?_)
                                · have h := hp_neg c_1540 h
                                  cases h
                                · have h := hp_pos c_1540 h
                                  refine lv_aload_n hx hb dL_law_1543 rfl (lv_at hl 0 rfl) ?_
                                  refine lv_iconst (v := 0) hx hb dL_law_1544 (by decide) ?_
                                  refine lv_iconst (v := 0) hx hb dL_law_1545 (by decide) ?_
                                  obtain ⟨r_1546, r_1546_S, e_1546, h⟩ := ob2_inv h
                                  refine k_GVi (pre := [(a_g, .inl (cI, 38, .inl ga_68e)), (a_k, .inl (cI, 38, .inl ka_68e))]) (rest := []) ⟨hx, hb, hml, hown, hts⟩ (A_X4_own l dC dI cI cS ad e_1546) (cwV 2 hts gL_law_X4_own rfl rfl rfl khd_X4_own ⟨(Nat.le_of_ble_eq_true rfl), (Nat.le_of_ble_eq_true rfl)⟩) hK hN hI hP hD hS rfl hl.1 rfl (Nat.le_of_ble_eq_true rfl) dL_law_1546 ⟨(Nat.le_of_ble_eq_true rfl), (Nat.le_of_ble_eq_true rfl)⟩ (fun H locs w hI hP hD hS => ?_)
                                  have hP : va_P (dC, dI) vwCl ((a_g, .inl (cI, 38, .inl ga_68e)) :: (a_k, .inl (cI, 38, .inl ka_68e)) :: w) H := hP
                                  have hD : va_D (fun q : Nat => s.heap.size ≤ q) ((a_g, .inl (cI, 38, .inl ga_68e)) :: (a_k, .inl (cI, 38, .inl ka_68e)) :: w) := hD
                                  refine lv_iconst (v := -1) hx hb dL_law_1549 (by decide) ?_
                                  refine lv_icmp_ne (tgt := 1585) hx hb dL_law_1550 (by decide) (fun c_1550 => ?_) (fun c_1550 => ?_)
                                  · have h := hp_neg c_1550 h
                                    cases h
                                  · have h := hp_pos c_1550 h
                                    refine lv_aload_n hx hb dL_law_1553 rfl (lv_at hl 0 rfl) ?_
                                    refine lv_iconst (v := 0) hx hb dL_law_1554 (by decide) ?_
                                    refine lv_bipush (v := 6) hx hb dL_law_1555 (by decide) ?_
                                    obtain ⟨r_1557, r_1557_S, e_1557, h⟩ := ob2_inv h
                                    refine k_GVi (pre := [(a_g, .inl (cI, 38, .inl ga_68e)), (a_k, .inl (cI, 38, .inl ka_68e))]) (rest := []) ⟨hx, hb, hml, hown, hts⟩ (A_X4_hand l dC dI cI cS ad e_1557) (cwV 2 hts gL_law_X4_hand rfl rfl rfl khd_X4_hand ⟨(Nat.le_of_ble_eq_true rfl), (Nat.le_of_ble_eq_true rfl)⟩) hK hN hI hP hD hS rfl hl.1 rfl (Nat.le_of_ble_eq_true rfl) dL_law_1557 ⟨(Nat.le_of_ble_eq_true rfl), (Nat.le_of_ble_eq_true rfl)⟩ (fun H locs w hI hP hD hS => ?_)
                                    have hP : va_P (dC, dI) vwCl ((a_g, .inl (cI, 38, .inl ga_68e)) :: (a_k, .inl (cI, 38, .inl ka_68e)) :: w) H := hP
                                    have hD : va_D (fun q : Nat => s.heap.size ≤ q) ((a_g, .inl (cI, 38, .inl ga_68e)) :: (a_k, .inl (cI, 38, .inl ka_68e)) :: w) := hD
                                    refine lv_iconst (v := -1) hx hb dL_law_1560 (by decide) ?_
                                    refine lv_icmp_ne (tgt := 1585) hx hb dL_law_1561 (by decide) (fun c_1561 => ?_) (fun c_1561 => ?_)
                                    · have h := hp_neg c_1561 h
                                      cases h
                                    · have h := hp_pos c_1561 h
                                      refine lv_aload_n hx hb dL_law_1564 rfl (lv_at hl 0 rfl) ?_
                                      refine lv_iload hx hb dL_law_1565 (lv_at hl 2 rfl) ?_
                                      refine lv_iconst (v := 0) hx hb dL_law_1567 (by decide) ?_
                                      obtain ⟨r_1568, r_1568_S, e_1568, h⟩ := ob2_inv h
                                      refine k_GVi (pre := [(a_g, .inl (cI, 38, .inl ga_68e)), (a_k, .inl (cI, 38, .inl ka_68e))]) (rest := []) ⟨hx, hb, hml, hown, hts⟩ (A_X4_hand l dC dI cI cS ad e_1568) (cwV 2 hts gL_law_X4_hand rfl rfl rfl khd_X4_hand ⟨(Nat.le_of_ble_eq_true rfl), (Nat.le_of_ble_eq_true rfl)⟩) hK hN hI hP hD hS rfl hl.1 rfl (Nat.le_of_ble_eq_true rfl) dL_law_1568 ⟨(Nat.le_of_ble_eq_true rfl), (Nat.le_of_ble_eq_true rfl)⟩ (fun H locs w hI hP hD hS => ?_)
                                      have hP : va_P (dC, dI) vwCl ((a_g, .inl (cI, 38, .inl ga_68e)) :: (a_k, .inl (cI, 38, .inl ka_68e)) :: w) H := hP
                                      have hD : va_D (fun q : Nat => s.heap.size ≤ q) ((a_g, .inl (cI, 38, .inl ga_68e)) :: (a_k, .inl (cI, 38, .inl ka_68e)) :: w) := hD
                                      refine lv_iconst (v := -1) hx hb dL_law_1571 (by decide) ?_
                                      refine lv_icmp_ne (tgt := 1585) hx hb dL_law_1572 (by decide) (fun c_1572 => ?_) (fun c_1572 => ?_)
                                      · have h := hp_neg c_1572 h
                                        cases h
                                      · have h := hp_pos c_1572 h
                                        refine lv_aload_n hx hb dL_law_1575 rfl (lv_at hl 0 rfl) ?_
                                        refine lv_iconst (v := 0) hx hb dL_law_1576 (by decide) ?_
                                        refine lv_iconst (v := 0) hx hb dL_law_1577 (by decide) ?_
                                        obtain ⟨r_1578, r_1578_S, e_1578, h⟩ := ob2_inv h
                                        refine k_GVi (pre := [(a_g, .inl (cI, 38, .inl ga_68e)), (a_k, .inl (cI, 38, .inl ka_68e))]) (rest := []) ⟨hx, hb, hml, hown, hts⟩ (A_X4_hand l dC dI cI cS ad e_1578) (cwV 2 hts gL_law_X4_hand rfl rfl rfl khd_X4_hand ⟨(Nat.le_of_ble_eq_true rfl), (Nat.le_of_ble_eq_true rfl)⟩) hK hN hI hP hD hS rfl hl.1 rfl (Nat.le_of_ble_eq_true rfl) dL_law_1578 ⟨(Nat.le_of_ble_eq_true rfl), (Nat.le_of_ble_eq_true rfl)⟩ (fun H locs w hI hP hD hS => ?_)
                                        have hP : va_P (dC, dI) vwCl ((a_g, .inl (cI, 38, .inl ga_68e)) :: (a_k, .inl (cI, 38, .inl ka_68e)) :: w) H := hP
                                        have hD : va_D (fun q : Nat => s.heap.size ≤ q) ((a_g, .inl (cI, 38, .inl ga_68e)) :: (a_k, .inl (cI, 38, .inl ka_68e)) :: w) := hD
                                        refine lv_iconst (v := -1) hx hb dL_law_1581 (by decide) ?_
                                        refine lv_icmp_eq (tgt := 1587) hx hb dL_law_1582 (by decide) (fun c_1582 => ?_) (fun c_1582 => ?_)
                                        · have h := hp_pos c_1582 h
                                          refine lv_aload_n hx hb dL_law_1587 rfl (lv_at hl 0 rfl) ?_
                                          refine lv_iconst (v := 4) hx hb dL_law_1588 (by decide) ?_
                                          refine lv_iconst (v := 1) hx hb dL_law_1589 (by decide) ?_
                                          refine lv_iconst (v := 4) hx hb dL_law_1590 (by decide) ?_
                                          refine lv_iconst (v := 0) hx hb dL_law_1591 (by decide) ?_
                                          refine lv_iconst (v := 0) hx hb dL_law_1592 (by decide) ?_
                                          obtain ⟨r_1593, e_1593, h⟩ := ob1_inv h
                                          refine k_GVi (pre := [(a_g, .inl (cI, 38, .inl ga_68e)), (a_k, .inl (cI, 38, .inl ka_68e))]) (rest := []) ⟨hx, hb, hml, hown, hts⟩ (A_X4_day l dC dI cI cS ad e_1593) (cwV 5 hts gL_law_X4_day rfl rfl rfl khd_X4_day ⟨(Nat.le_of_ble_eq_true rfl), (Nat.le_of_ble_eq_true rfl)⟩) hK hN hI hP hD hS rfl hl.1 rfl (Nat.le_of_ble_eq_true rfl) dL_law_1593 ⟨(Nat.le_of_ble_eq_true rfl), (Nat.le_of_ble_eq_true rfl)⟩ (fun H locs w hI hP hD hS => ?_)
                                          have hP : va_P (dC, dI) vwCl ((a_g, .inl (cI, 38, .inl ga_68e)) :: (a_k, .inl (cI, 38, .inl ka_68e)) :: w) H := hP
                                          have hD : va_D (fun q : Nat => s.heap.size ≤ q) ((a_g, .inl (cI, 38, .inl ga_68e)) :: (a_k, .inl (cI, 38, .inl ka_68e)) :: w) := hD
                                          refine lv_iconst (v := -1) hx hb dL_law_1596 (by decide) ?_
                                          refine lv_icmp_ne (tgt := 1780) hx hb dL_law_1597 (by decide) (fun c_1597 => ?_) (fun c_1597 => ?_)
                                          · have h := hp_neg c_1597 h
                                            cases h
                                          · have h := hp_pos c_1597 h
                                            refine lv_aload_n hx hb dL_law_1600 rfl (lv_at hl 0 rfl) ?_
                                            refine lv_iconst (v := 1) hx hb dL_law_1601 (by decide) ?_
                                            refine lv_iconst (v := 3) hx hb dL_law_1602 (by decide) ?_
                                            refine lv_iconst (v := 4) hx hb dL_law_1603 (by decide) ?_
                                            refine lv_iconst (v := 0) hx hb dL_law_1604 (by decide) ?_
                                            refine lv_iconst (v := 0) hx hb dL_law_1605 (by decide) ?_
                                            obtain ⟨r_1606, e_1606, h⟩ := ob1_inv h
                                            refine k_GVi (pre := [(a_g, .inl (cI, 38, .inl ga_68e)), (a_k, .inl (cI, 38, .inl ka_68e))]) (rest := []) ⟨hx, hb, hml, hown, hts⟩ (A_X4_day l dC dI cI cS ad e_1606) (cwV 5 hts gL_law_X4_day rfl rfl rfl khd_X4_day ⟨(Nat.le_of_ble_eq_true rfl), (Nat.le_of_ble_eq_true rfl)⟩) hK hN hI hP hD hS rfl hl.1 rfl (Nat.le_of_ble_eq_true rfl) dL_law_1606 ⟨(Nat.le_of_ble_eq_true rfl), (Nat.le_of_ble_eq_true rfl)⟩ (fun H locs w hI hP hD hS => ?_)
                                            have hP : va_P (dC, dI) vwCl ((a_g, .inl (cI, 38, .inl ga_68e)) :: (a_k, .inl (cI, 38, .inl ka_68e)) :: w) H := hP
                                            have hD : va_D (fun q : Nat => s.heap.size ≤ q) ((a_g, .inl (cI, 38, .inl ga_68e)) :: (a_k, .inl (cI, 38, .inl ka_68e)) :: w) := hD
                                            refine lv_bipush (v := -2) hx hb dL_law_1609 (by decide) ?_
                                            refine lv_icmp_ne (tgt := 1780) hx hb dL_law_1611 (by decide) (fun c_1611 => ?_) (fun c_1611 => ?_)
                                            · have h := hp_neg c_1611 h
                                              cases h
                                            · have h := hp_pos c_1611 h
                                              refine lv_aload_n hx hb dL_law_1614 rfl (lv_at hl 0 rfl) ?_
                                              refine lv_iconst (v := 1) hx hb dL_law_1615 (by decide) ?_
                                              refine lv_iconst (v := 1) hx hb dL_law_1616 (by decide) ?_
                                              refine lv_iconst (v := 4) hx hb dL_law_1617 (by decide) ?_
                                              refine lv_bipush (v := 21) hx hb dL_law_1618 (by decide) ?_
                                              refine lv_iconst (v := 0) hx hb dL_law_1620 (by decide) ?_
                                              obtain ⟨r_1621, e_1621, h⟩ := ob1_inv h
                                              refine k_GVi (pre := [(a_g, .inl (cI, 38, .inl ga_68e)), (a_k, .inl (cI, 38, .inl ka_68e))]) (rest := []) ⟨hx, hb, hml, hown, hts⟩ (A_X4_day l dC dI cI cS ad e_1621) (cwV 5 hts gL_law_X4_day rfl rfl rfl khd_X4_day ⟨(Nat.le_of_ble_eq_true rfl), (Nat.le_of_ble_eq_true rfl)⟩) hK hN hI hP hD hS rfl hl.1 rfl (Nat.le_of_ble_eq_true rfl) dL_law_1621 ⟨(Nat.le_of_ble_eq_true rfl), (Nat.le_of_ble_eq_true rfl)⟩ (fun H locs w hI hP hD hS => ?_)
                                              have hP : va_P (dC, dI) vwCl ((a_g, .inl (cI, 38, .inl ga_68e)) :: (a_k, .inl (cI, 38, .inl ka_68e)) :: w) H := hP
                                              have hD : va_D (fun q : Nat => s.heap.size ≤ q) ((a_g, .inl (cI, 38, .inl ga_68e)) :: (a_k, .inl (cI, 38, .inl ka_68e)) :: w) := hD
                                              refine lv_bipush (v := -2) hx hb dL_law_1624 (by decide) ?_
                                              refine lv_icmp_ne (tgt := 1780) hx hb dL_law_1626 (by decide) (fun c_1626 => ?_) (fun c_1626 => ?_)
                                              · have h := hp_neg c_1626 h
                                                cases h
                                              · have h := hp_pos c_1626 h
                                                refine lv_aload_n hx hb dL_law_1629 rfl (lv_at hl 0 rfl) ?_
                                                refine lv_iconst (v := 1) hx hb dL_law_1630 (by decide) ?_
                                                refine lv_iconst (v := 1) hx hb dL_law_1631 (by decide) ?_
                                                refine lv_iconst (v := 4) hx hb dL_law_1632 (by decide) ?_
                                                refine lv_iconst (v := -1) hx hb dL_law_1633 (by decide) ?_
                                                refine lv_iconst (v := 0) hx hb dL_law_1634 (by decide) ?_
                                                obtain ⟨r_1635, e_1635, h⟩ := ob1_inv h
                                                refine k_GVi (pre := [(a_g, .inl (cI, 38, .inl ga_68e)), (a_k, .inl (cI, 38, .inl ka_68e))]) (rest := []) ⟨hx, hb, hml, hown, hts⟩ (A_X4_day l dC dI cI cS ad e_1635) (cwV 5 hts gL_law_X4_day rfl rfl rfl khd_X4_day ⟨(Nat.le_of_ble_eq_true rfl), (Nat.le_of_ble_eq_true rfl)⟩) hK hN hI hP hD hS rfl hl.1 rfl (Nat.le_of_ble_eq_true rfl) dL_law_1635 ⟨(Nat.le_of_ble_eq_true rfl), (Nat.le_of_ble_eq_true rfl)⟩ (fun H locs w hI hP hD hS => ?_)
                                                have hP : va_P (dC, dI) vwCl ((a_g, .inl (cI, 38, .inl ga_68e)) :: (a_k, .inl (cI, 38, .inl ka_68e)) :: w) H := hP
                                                have hD : va_D (fun q : Nat => s.heap.size ≤ q) ((a_g, .inl (cI, 38, .inl ga_68e)) :: (a_k, .inl (cI, 38, .inl ka_68e)) :: w) := hD
                                                refine lv_bipush (v := -2) hx hb dL_law_1638 (by decide) ?_
                                                refine lv_icmp_ne (tgt := 1780) hx hb dL_law_1640 (by decide) (fun c_1640 => ?_) (fun c_1640 => ?_)
                                                · have h := hp_neg c_1640 h
                                                  cases h
                                                · have h := hp_pos c_1640 h
                                                  refine lv_aload_n hx hb dL_law_1643 rfl (lv_at hl 0 rfl) ?_
                                                  refine lv_iconst (v := 1) hx hb dL_law_1644 (by decide) ?_
                                                  refine lv_iconst (v := 1) hx hb dL_law_1645 (by decide) ?_
                                                  refine lv_iconst (v := 4) hx hb dL_law_1646 (by decide) ?_
                                                  refine lv_iconst (v := 0) hx hb dL_law_1647 (by decide) ?_
                                                  refine lv_iconst (v := 5) hx hb dL_law_1648 (by decide) ?_
                                                  obtain ⟨r_1649, e_1649, h⟩ := ob1_inv h
                                                  refine k_GVi (pre := [(a_g, .inl (cI, 38, .inl ga_68e)), (a_k, .inl (cI, 38, .inl ka_68e))]) (rest := []) ⟨hx, hb, hml, hown, hts⟩ (A_X4_day l dC dI cI cS ad e_1649) (cwV 5 hts gL_law_X4_day rfl rfl rfl khd_X4_day ⟨(Nat.le_of_ble_eq_true rfl), (Nat.le_of_ble_eq_true rfl)⟩) hK hN hI hP hD hS rfl hl.1 rfl (Nat.le_of_ble_eq_true rfl) dL_law_1649 ⟨(Nat.le_of_ble_eq_true rfl), (Nat.le_of_ble_eq_true rfl)⟩ (fun H locs w hI hP hD hS => ?_)
                                                  have hP : va_P (dC, dI) vwCl ((a_g, .inl (cI, 38, .inl ga_68e)) :: (a_k, .inl (cI, 38, .inl ka_68e)) :: w) H := hP
                                                  have hD : va_D (fun q : Nat => s.heap.size ≤ q) ((a_g, .inl (cI, 38, .inl ga_68e)) :: (a_k, .inl (cI, 38, .inl ka_68e)) :: w) := hD
                                                  refine lv_bipush (v := -2) hx hb dL_law_1652 (by decide) ?_
                                                  refine lv_icmp_ne (tgt := 1780) hx hb dL_law_1654 (by decide) (fun c_1654 => ?_) (fun c_1654 => ?_)
                                                  · have h := hp_neg c_1654 h
                                                    cases h
                                                  · have h := hp_pos c_1654 h
                                                    refine lv_aload_n hx hb dL_law_1657 rfl (lv_at hl 0 rfl) ?_
                                                    refine lv_iconst (v := 1) hx hb dL_law_1658 (by decide) ?_
                                                    refine lv_iconst (v := 1) hx hb dL_law_1659 (by decide) ?_
                                                    refine lv_iconst (v := 4) hx hb dL_law_1660 (by decide) ?_
                                                    refine lv_iconst (v := 0) hx hb dL_law_1661 (by decide) ?_
                                                    refine lv_bipush (v := 16) hx hb dL_law_1662 (by decide) ?_
                                                    obtain ⟨r_1664, e_1664, h⟩ := ob1_inv h
                                                    refine k_GVi (pre := [(a_g, .inl (cI, 38, .inl ga_68e)), (a_k, .inl (cI, 38, .inl ka_68e))]) (rest := []) ⟨hx, hb, hml, hown, hts⟩ (A_X4_day l dC dI cI cS ad e_1664) (cwV 5 hts gL_law_X4_day rfl rfl rfl khd_X4_day ⟨(Nat.le_of_ble_eq_true rfl), (Nat.le_of_ble_eq_true rfl)⟩) hK hN hI hP hD hS rfl hl.1 rfl (Nat.le_of_ble_eq_true rfl) dL_law_1664 ⟨(Nat.le_of_ble_eq_true rfl), (Nat.le_of_ble_eq_true rfl)⟩ (fun H locs w hI hP hD hS => ?_)
                                                    have hP : va_P (dC, dI) vwCl ((a_g, .inl (cI, 38, .inl ga_68e)) :: (a_k, .inl (cI, 38, .inl ka_68e)) :: w) H := hP
                                                    have hD : va_D (fun q : Nat => s.heap.size ≤ q) ((a_g, .inl (cI, 38, .inl ga_68e)) :: (a_k, .inl (cI, 38, .inl ka_68e)) :: w) := hD
                                                    refine lv_bipush (v := -2) hx hb dL_law_1667 (by decide) ?_
                                                    refine lv_icmp_ne (tgt := 1780) hx hb dL_law_1669 (by decide) (fun c_1669 => ?_) (fun c_1669 => ?_)
                                                    · have h := hp_neg c_1669 h
                                                      cases h
                                                    · have h := hp_pos c_1669 h
                                                      refine lv_aload_n hx hb dL_law_1672 rfl (lv_at hl 0 rfl) ?_
                                                      refine lv_iconst (v := 1) hx hb dL_law_1673 (by decide) ?_
                                                      refine lv_iconst (v := 2) hx hb dL_law_1674 (by decide) ?_
                                                      refine lv_iconst (v := 4) hx hb dL_law_1675 (by decide) ?_
                                                      refine lv_iconst (v := 0) hx hb dL_law_1676 (by decide) ?_
                                                      refine lv_iconst (v := 0) hx hb dL_law_1677 (by decide) ?_
                                                      obtain ⟨r_1678, e_1678, h⟩ := ob1_inv h
                                                      refine k_GVi (pre := [(a_g, .inl (cI, 38, .inl ga_68e)), (a_k, .inl (cI, 38, .inl ka_68e))]) (rest := []) ⟨hx, hb, hml, hown, hts⟩ (A_X4_day l dC dI cI cS ad e_1678) (cwV 5 hts gL_law_X4_day rfl rfl rfl khd_X4_day ⟨(Nat.le_of_ble_eq_true rfl), (Nat.le_of_ble_eq_true rfl)⟩) hK hN hI hP hD hS rfl hl.1 rfl (Nat.le_of_ble_eq_true rfl) dL_law_1678 ⟨(Nat.le_of_ble_eq_true rfl), (Nat.le_of_ble_eq_true rfl)⟩ (fun H locs w hI hP hD hS => ?_)
                                                      have hP : va_P (dC, dI) vwCl ((a_g, .inl (cI, 38, .inl ga_68e)) :: (a_k, .inl (cI, 38, .inl ka_68e)) :: w) H := hP
                                                      have hD : va_D (fun q : Nat => s.heap.size ≤ q) ((a_g, .inl (cI, 38, .inl ga_68e)) :: (a_k, .inl (cI, 38, .inl ka_68e)) :: w) := hD
                                                      refine lv_bipush (v := -12) hx hb dL_law_1681 (by decide) ?_
                                                      refine lv_icmp_ne (tgt := 1780) hx hb dL_law_1683 (by decide) (fun c_1683 => ?_) (fun c_1683 => ?_)
                                                      · have h := hp_neg c_1683 h
                                                        cases h
                                                      · have h := hp_pos c_1683 h
                                                        refine lv_aload_n hx hb dL_law_1686 rfl (lv_at hl 0 rfl) ?_
                                                        refine lv_iconst (v := 2) hx hb dL_law_1687 (by decide) ?_
                                                        refine lv_iconst (v := 2) hx hb dL_law_1688 (by decide) ?_
                                                        refine lv_iconst (v := 4) hx hb dL_law_1689 (by decide) ?_
                                                        refine lv_iconst (v := 0) hx hb dL_law_1690 (by decide) ?_
                                                        refine lv_iconst (v := 0) hx hb dL_law_1691 (by decide) ?_
                                                        obtain ⟨r_1692, e_1692, h⟩ := ob1_inv h
                                                        refine k_GVi (pre := [(a_g, .inl (cI, 38, .inl ga_68e)), (a_k, .inl (cI, 38, .inl ka_68e))]) (rest := []) ⟨hx, hb, hml, hown, hts⟩ (A_X4_day l dC dI cI cS ad e_1692) (cwV 5 hts gL_law_X4_day rfl rfl rfl khd_X4_day ⟨(Nat.le_of_ble_eq_true rfl), (Nat.le_of_ble_eq_true rfl)⟩) hK hN hI hP hD hS rfl hl.1 rfl (Nat.le_of_ble_eq_true rfl) dL_law_1692 ⟨(Nat.le_of_ble_eq_true rfl), (Nat.le_of_ble_eq_true rfl)⟩ (fun H locs w hI hP hD hS => ?_)
                                                        have hP : va_P (dC, dI) vwCl ((a_g, .inl (cI, 38, .inl ga_68e)) :: (a_k, .inl (cI, 38, .inl ka_68e)) :: w) H := hP
                                                        have hD : va_D (fun q : Nat => s.heap.size ≤ q) ((a_g, .inl (cI, 38, .inl ga_68e)) :: (a_k, .inl (cI, 38, .inl ka_68e)) :: w) := hD
                                                        refine lv_bipush (v := -11) hx hb dL_law_1695 (by decide) ?_
                                                        refine lv_icmp_ne (tgt := 1780) hx hb dL_law_1697 (by decide) (fun c_1697 => ?_) (fun c_1697 => ?_)
                                                        · have h := hp_neg c_1697 h
                                                          cases h
                                                        · have h := hp_pos c_1697 h
                                                          refine lv_aload_n hx hb dL_law_1700 rfl (lv_at hl 0 rfl) ?_
                                                          refine lv_iconst (v := 1) hx hb dL_law_1701 (by decide) ?_
                                                          refine lv_iconst (v := 1) hx hb dL_law_1702 (by decide) ?_
                                                          refine lv_iconst (v := 2) hx hb dL_law_1703 (by decide) ?_
                                                          refine lv_bipush (v := 18) hx hb dL_law_1704 (by decide) ?_
                                                          refine lv_iconst (v := 0) hx hb dL_law_1706 (by decide) ?_
                                                          obtain ⟨r_1707, e_1707, h⟩ := ob1_inv h
                                                          refine k_GVi (pre := [(a_g, .inl (cI, 38, .inl ga_68e)), (a_k, .inl (cI, 38, .inl ka_68e))]) (rest := []) ⟨hx, hb, hml, hown, hts⟩ (A_X4_day l dC dI cI cS ad e_1707) (cwV 5 hts gL_law_X4_day rfl rfl rfl khd_X4_day ⟨(Nat.le_of_ble_eq_true rfl), (Nat.le_of_ble_eq_true rfl)⟩) hK hN hI hP hD hS rfl hl.1 rfl (Nat.le_of_ble_eq_true rfl) dL_law_1707 ⟨(Nat.le_of_ble_eq_true rfl), (Nat.le_of_ble_eq_true rfl)⟩ (fun H locs w hI hP hD hS => ?_)
                                                          have hP : va_P (dC, dI) vwCl ((a_g, .inl (cI, 38, .inl ga_68e)) :: (a_k, .inl (cI, 38, .inl ka_68e)) :: w) H := hP
                                                          have hD : va_D (fun q : Nat => s.heap.size ≤ q) ((a_g, .inl (cI, 38, .inl ga_68e)) :: (a_k, .inl (cI, 38, .inl ka_68e)) :: w) := hD
                                                          refine lv_bipush (v := -13) hx hb dL_law_1710 (by decide) ?_
                                                          refine lv_icmp_ne (tgt := 1780) hx hb dL_law_1712 (by decide) (fun c_1712 => ?_) (fun c_1712 => ?_)
                                                          · have h := hp_neg c_1712 h
                                                            cases h
                                                          · have h := hp_pos c_1712 h
                                                            refine lv_aload_n hx hb dL_law_1715 rfl (lv_at hl 0 rfl) ?_
                                                            refine lv_iconst (v := 1) hx hb dL_law_1716 (by decide) ?_
                                                            refine lv_iconst (v := 1) hx hb dL_law_1717 (by decide) ?_
                                                            refine lv_iconst (v := 4) hx hb dL_law_1718 (by decide) ?_
                                                            refine lv_iconst (v := 0) hx hb dL_law_1719 (by decide) ?_
                                                            refine lv_iconst (v := 0) hx hb dL_law_1720 (by decide) ?_
                                                            obtain ⟨r_1721, e_1721, h⟩ := ob1_inv h
                                                            refine k_GVi (pre := [(a_g, .inl (cI, 38, .inl ga_68e)), (a_k, .inl (cI, 38, .inl ka_68e))]) (rest := []) ⟨hx, hb, hml, hown, hts⟩ (A_X4_day l dC dI cI cS ad e_1721) (cwV 5 hts gL_law_X4_day rfl rfl rfl khd_X4_day ⟨(Nat.le_of_ble_eq_true rfl), (Nat.le_of_ble_eq_true rfl)⟩) hK hN hI hP hD hS rfl hl.1 rfl (Nat.le_of_ble_eq_true rfl) dL_law_1721 ⟨(Nat.le_of_ble_eq_true rfl), (Nat.le_of_ble_eq_true rfl)⟩ (fun H locs w hI hP hD hS => ?_)
                                                            have hP : va_P (dC, dI) vwCl ((a_g, .inl (cI, 38, .inl ga_68e)) :: (a_k, .inl (cI, 38, .inl ka_68e)) :: w) H := hP
                                                            have hD : va_D (fun q : Nat => s.heap.size ≤ q) ((a_g, .inl (cI, 38, .inl ga_68e)) :: (a_k, .inl (cI, 38, .inl ka_68e)) :: w) := hD
                                                            refine lv_aload_n hx hb dL_law_1724 rfl (lv_at hl 1 rfl) ?_
                                                            refine lv_iconst (v := 1) hx hb dL_law_1725 (by decide) ?_
                                                            refine va_iald (D := (dC, dI)) hx hb hK hP 0 0 rfl rfl (by unfold vp_in; decide) dL_law_1726 ?_
                                                            refine lv_icmp_ne (tgt := 1780) hx hb dL_law_1727 (by decide) (fun c_1727 => ?_) (fun c_1727 => ?_)
                                                            · have h := hp_neg c_1727 h
                                                              cases h
                                                            · have h := hp_pos c_1727 h
                                                              refine lv_aload_n hx hb dL_law_1730 rfl (lv_at hl 0 rfl) ?_
                                                              refine lv_iconst (v := 1) hx hb dL_law_1731 (by decide) ?_
                                                              refine lv_iconst (v := 4) hx hb dL_law_1732 (by decide) ?_
                                                              refine lv_iconst (v := 3) hx hb dL_law_1733 (by decide) ?_
                                                              obtain ⟨r_1734, r_1734_S, e_1734, h⟩ := ob2_inv h
                                                              refine k_GVi (pre := [(a_g, .inl (cI, 38, .inl ga_68e)), (a_k, .inl (cI, 38, .inl ka_68e))]) (rest := []) ⟨hx, hb, hml, hown, hts⟩ (A_X4_put l dC dI cI cS ad e_1734) (cwV 3 hts gL_law_X4_put rfl rfl rfl khd_X4_put ⟨(Nat.le_of_ble_eq_true rfl), (Nat.le_of_ble_eq_true rfl)⟩) hK hN hI hP hD hS rfl hl.1 rfl (Nat.le_of_ble_eq_true rfl) dL_law_1734 ⟨(Nat.le_of_ble_eq_true rfl), (Nat.le_of_ble_eq_true rfl)⟩ (fun H locs w hI hP hD hS => ?_)
                                                              have hP : va_P (dC, dI) vwCl ((a_g, .inl (cI, 38, .inl ga_68e)) :: (a_k, .inl (cI, 38, .inl ka_68e)) :: w) H := hP
                                                              have hD : va_D (fun q : Nat => s.heap.size ≤ q) ((a_g, .inl (cI, 38, .inl ga_68e)) :: (a_k, .inl (cI, 38, .inl ka_68e)) :: w) := hD
                                                              refine lv_iconst (v := 1) hx hb dL_law_1737 (by decide) ?_
                                                              refine lv_icmp_ne (tgt := 1780) hx hb dL_law_1738 (by decide) (fun c_1738 => ?_) (fun c_1738 => ?_)
                                                              · have h := hp_neg c_1738 h
                                                                cases h
                                                              · have h := hp_pos c_1738 h
                                                                refine lv_aload_n hx hb dL_law_1741 rfl (lv_at hl 0 rfl) ?_
                                                                refine lv_iconst (v := 1) hx hb dL_law_1742 (by decide) ?_
                                                                refine lv_iconst (v := 1) hx hb dL_law_1743 (by decide) ?_
                                                                refine lv_iconst (v := 4) hx hb dL_law_1744 (by decide) ?_
                                                                refine lv_iconst (v := 1) hx hb dL_law_1745 (by decide) ?_
                                                                refine lv_iconst (v := 1) hx hb dL_law_1746 (by decide) ?_
                                                                obtain ⟨r_1747, e_1747, h⟩ := ob1_inv h
                                                                refine k_GVi (pre := [(a_g, .inl (cI, 38, .inl ga_68e)), (a_k, .inl (cI, 38, .inl ka_68e))]) (rest := []) ⟨hx, hb, hml, hown, hts⟩ (A_X4_day l dC dI cI cS ad e_1747) (cwV 5 hts gL_law_X4_day rfl rfl rfl khd_X4_day ⟨(Nat.le_of_ble_eq_true rfl), (Nat.le_of_ble_eq_true rfl)⟩) hK hN hI hP hD hS rfl hl.1 rfl (Nat.le_of_ble_eq_true rfl) dL_law_1747 ⟨(Nat.le_of_ble_eq_true rfl), (Nat.le_of_ble_eq_true rfl)⟩ (fun H locs w hI hP hD hS => ?_)
                                                                have hP : va_P (dC, dI) vwCl ((a_g, .inl (cI, 38, .inl ga_68e)) :: (a_k, .inl (cI, 38, .inl ka_68e)) :: w) H := hP
                                                                have hD : va_D (fun q : Nat => s.heap.size ≤ q) ((a_g, .inl (cI, 38, .inl ga_68e)) :: (a_k, .inl (cI, 38, .inl ka_68e)) :: w) := hD
                                                                refine lv_bipush (v := -2) hx hb dL_law_1750 (by decide) ?_
                                                                refine lv_icmp_ne (tgt := 1780) hx hb dL_law_1752 (by decide) (fun c_1752 => ?_) (fun c_1752 => ?_)
                                                                · have h := hp_neg c_1752 h
                                                                  cases h
                                                                · have h := hp_pos c_1752 h
                                                                  refine lv_aload_n hx hb dL_law_1755 rfl (lv_at hl 0 rfl) ?_
                                                                  refine lv_iconst (v := 1) hx hb dL_law_1756 (by decide) ?_
                                                                  refine lv_iconst (v := 4) hx hb dL_law_1757 (by decide) ?_
                                                                  refine lv_iconst (v := -1) hx hb dL_law_1758 (by decide) ?_
                                                                  obtain ⟨r_1759, r_1759_S, e_1759, h⟩ := ob2_inv h
                                                                  refine k_GVi (pre := [(a_g, .inl (cI, 38, .inl ga_68e)), (a_k, .inl (cI, 38, .inl ka_68e))]) (rest := []) ⟨hx, hb, hml, hown, hts⟩ (A_X4_put l dC dI cI cS ad e_1759) (cwV 3 hts gL_law_X4_put rfl rfl rfl khd_X4_put ⟨(Nat.le_of_ble_eq_true rfl), (Nat.le_of_ble_eq_true rfl)⟩) hK hN hI hP hD hS rfl hl.1 rfl (Nat.le_of_ble_eq_true rfl) dL_law_1759 ⟨(Nat.le_of_ble_eq_true rfl), (Nat.le_of_ble_eq_true rfl)⟩ (fun H locs w hI hP hD hS => ?_)
                                                                  have hP : va_P (dC, dI) vwCl ((a_g, .inl (cI, 38, .inl ga_68e)) :: (a_k, .inl (cI, 38, .inl ka_68e)) :: w) H := hP
                                                                  have hD : va_D (fun q : Nat => s.heap.size ≤ q) ((a_g, .inl (cI, 38, .inl ga_68e)) :: (a_k, .inl (cI, 38, .inl ka_68e)) :: w) := hD
                                                                  refine lv_iconst (v := 1) hx hb dL_law_1762 (by decide) ?_
                                                                  refine lv_icmp_ne (tgt := 1780) hx hb dL_law_1763 (by decide) (fun c_1763 => ?_) (fun c_1763 => ?_)
                                                                  · have h := hp_neg c_1763 h
                                                                    cases h
                                                                  · have h := hp_pos c_1763 h
                                                                    refine lv_aload_n hx hb dL_law_1766 rfl (lv_at hl 0 rfl) ?_
                                                                    refine lv_iconst (v := 1) hx hb dL_law_1767 (by decide) ?_
                                                                    refine lv_iconst (v := 1) hx hb dL_law_1768 (by decide) ?_
                                                                    refine lv_iconst (v := 4) hx hb dL_law_1769 (by decide) ?_
                                                                    refine lv_iconst (v := 1) hx hb dL_law_1770 (by decide) ?_
                                                                    refine lv_iconst (v := 1) hx hb dL_law_1771 (by decide) ?_
                                                                    obtain ⟨r_1772, e_1772, h⟩ := ob1_inv h
                                                                    refine k_GVi (pre := [(a_g, .inl (cI, 38, .inl ga_68e)), (a_k, .inl (cI, 38, .inl ka_68e))]) (rest := []) ⟨hx, hb, hml, hown, hts⟩ (A_X4_day l dC dI cI cS ad e_1772) (cwV 5 hts gL_law_X4_day rfl rfl rfl khd_X4_day ⟨(Nat.le_of_ble_eq_true rfl), (Nat.le_of_ble_eq_true rfl)⟩) hK hN hI hP hD hS rfl hl.1 rfl (Nat.le_of_ble_eq_true rfl) dL_law_1772 ⟨(Nat.le_of_ble_eq_true rfl), (Nat.le_of_ble_eq_true rfl)⟩ (fun H locs w hI hP hD hS => ?_)
                                                                    have hP : va_P (dC, dI) vwCl ((a_g, .inl (cI, 38, .inl ga_68e)) :: (a_k, .inl (cI, 38, .inl ka_68e)) :: w) H := hP
                                                                    have hD : va_D (fun q : Nat => s.heap.size ≤ q) ((a_g, .inl (cI, 38, .inl ga_68e)) :: (a_k, .inl (cI, 38, .inl ka_68e)) :: w) := hD
                                                                    refine lv_bipush (v := -2) hx hb dL_law_1775 (by decide) ?_
                                                                    refine lv_icmp_eq (tgt := 1782) hx hb dL_law_1777 (by decide) (fun c_1777 => ?_) (fun c_1777 => ?_)
                                                                    · have h := hp_pos c_1777 h
                                                                      refine lv_aload_n hx hb dL_law_1782 rfl (lv_at hl 1 rfl) ?_
                                                                      refine lv_iconst (v := 1) hx hb dL_law_1783 (by decide) ?_
                                                                      refine va_iald (D := (dC, dI)) hx hb hK hP 0 0 rfl rfl (by unfold vp_in; decide) dL_law_1784 ?_
                                                                      refine lv_iconst (v := 1) hx hb dL_law_1785 (by decide) ?_
                                                                      refine lv_isub hx hb dL_law_1786 ?_
                                                                      refine lv_istore (lv' := [(6, .int ((ga_68e 1) - (1 : Int32))), (1, .ref (ad 0)), (2, .ref a_g), (5, .int (r_22_ga 0))]) hx hb dL_law_1787 hl (by decide) rfl (fun ls hl => ?_)
                                                                      obtain ⟨SS_1789e, i_1789, h⟩ := ob1_inv h
                                                                      have after_1789 : ∀ (w : va_W) (H : Heap) (locs : List Loc) (ls : Array Slot), gI cI cS ad SS_1789e w → va_P (dC, dI) vwCl ((a_g, .inl (cI, 38, .inl ga_68e)) :: (a_k, .inl (cI, 38, .inl ka_68e)) :: w) H → va_D (fun q : Nat => s.heap.size ≤ q) ((a_g, .inl (cI, 38, .inl ga_68e)) :: (a_k, .inl (cI, 38, .inl ka_68e)) :: w) → va_S (fun q : Nat => s.heap.size ≤ q) s.heap H locs → lv_has ls 19 [(1, .ref (ad 0)), (2, .ref a_g), (5, .int (r_22_ga 0))] → W p l e room_1 s m #[Value.ref b] below meth c H locs 29 472 (lw_Z below #[Value.ref b] s) (F0 m 1825 ls []) := by
                                                                        intro w H locs ls hI hP hD hS hl
                                                                        refine lv_aload_n hx hb dL_law_1825 rfl (lv_at hl 0 rfl) ?_
                                                                        refine lv_iconst (v := 1) hx hb dL_law_1826 (by decide) ?_
                                                                        obtain ⟨r_1827, e_1827, h⟩ := ob1_inv h
                                                                        refine k_GVi (pre := [(a_g, .inl (cI, 38, .inl ga_68e)), (a_k, .inl (cI, 38, .inl ka_68e))]) (rest := []) ⟨hx, hb, hml, hown, hts⟩ (A_X4_many l dC dI cI cS ad e_1827) (cwV 1 hts gL_law_X4_many rfl rfl rfl khd_X4_many ⟨(Nat.le_of_ble_eq_true rfl), (Nat.le_of_ble_eq_true rfl)⟩) hK hN hI hP hD hS rfl hl.1 rfl (Nat.le_of_ble_eq_true rfl) dL_law_1827 ⟨(Nat.le_of_ble_eq_true rfl), (Nat.le_of_ble_eq_true rfl)⟩ (fun H locs w hI hP hD hS => ?_)
                                                                        have hP : va_P (dC, dI) vwCl ((a_g, .inl (cI, 38, .inl ga_68e)) :: (a_k, .inl (cI, 38, .inl ka_68e)) :: w) H := hP
                                                                        have hD : va_D (fun q : Nat => s.heap.size ≤ q) ((a_g, .inl (cI, 38, .inl ga_68e)) :: (a_k, .inl (cI, 38, .inl ka_68e)) :: w) := hD
                                                                        refine lv_if_ne (tgt := 1860) hx hb dL_law_1830 (by decide) (fun c_1830 => ?_) (fun c_1830 => ?_)
                                                                        · have h := hp_neg c_1830 h
                                                                          cases h
                                                                        · have h := hp_pos c_1830 h
                                                                          refine lv_aload_n hx hb dL_law_1833 rfl (lv_at hl 0 rfl) ?_
                                                                          refine lv_iconst (v := 2) hx hb dL_law_1834 (by decide) ?_
                                                                          obtain ⟨r_1835, e_1835, h⟩ := ob1_inv h
                                                                          refine k_GVi (pre := [(a_g, .inl (cI, 38, .inl ga_68e)), (a_k, .inl (cI, 38, .inl ka_68e))]) (rest := []) ⟨hx, hb, hml, hown, hts⟩ (A_X4_many l dC dI cI cS ad e_1835) (cwV 1 hts gL_law_X4_many rfl rfl rfl khd_X4_many ⟨(Nat.le_of_ble_eq_true rfl), (Nat.le_of_ble_eq_true rfl)⟩) hK hN hI hP hD hS rfl hl.1 rfl (Nat.le_of_ble_eq_true rfl) dL_law_1835 ⟨(Nat.le_of_ble_eq_true rfl), (Nat.le_of_ble_eq_true rfl)⟩ (fun H locs w hI hP hD hS => ?_)
                                                                          have hP : va_P (dC, dI) vwCl ((a_g, .inl (cI, 38, .inl ga_68e)) :: (a_k, .inl (cI, 38, .inl ka_68e)) :: w) H := hP
                                                                          have hD : va_D (fun q : Nat => s.heap.size ≤ q) ((a_g, .inl (cI, 38, .inl ga_68e)) :: (a_k, .inl (cI, 38, .inl ka_68e)) :: w) := hD
                                                                          refine lv_if_ne (tgt := 1860) hx hb dL_law_1838 (by decide) (fun c_1838 => ?_) (fun c_1838 => ?_)
                                                                          · have h := hp_neg c_1838 h
                                                                            cases h
                                                                          · have h := hp_pos c_1838 h
                                                                            refine lv_aload_n hx hb dL_law_1841 rfl (lv_at hl 0 rfl) ?_
                                                                            obtain ⟨r_1842, e_1842, h⟩ := ob1_inv h
                                                                            refine k_GVi (pre := [(a_g, .inl (cI, 38, .inl ga_68e)), (a_k, .inl (cI, 38, .inl ka_68e))]) (rest := []) ⟨hx, hb, hml, hown, hts⟩ (A_X4_unlawful l dC dI cI cS ad e_1842) (cwV 0 hts gL_law_X4_unlawful rfl rfl rfl khd_X4_unlawful ⟨(Nat.le_of_ble_eq_true rfl), (Nat.le_of_ble_eq_true rfl)⟩) hK hN hI hP hD hS rfl hl.1 rfl (Nat.le_of_ble_eq_true rfl) dL_law_1842 ⟨(Nat.le_of_ble_eq_true rfl), (Nat.le_of_ble_eq_true rfl)⟩ (fun H locs w hI hP hD hS => ?_)
                                                                            have hP : va_P (dC, dI) vwCl ((a_g, .inl (cI, 38, .inl ga_68e)) :: (a_k, .inl (cI, 38, .inl ka_68e)) :: w) H := hP
                                                                            have hD : va_D (fun q : Nat => s.heap.size ≤ q) ((a_g, .inl (cI, 38, .inl ga_68e)) :: (a_k, .inl (cI, 38, .inl ka_68e)) :: w) := hD
                                                                            refine lv_if_ne (tgt := 1860) hx hb dL_law_1845 (by decide) (fun c_1845 => ?_) (fun c_1845 => ?_)
                                                                            · have h := hp_neg c_1845 h
                                                                              cases h
                                                                            · have h := hp_pos c_1845 h
                                                                              refine lv_aload_n hx hb dL_law_1848 rfl (lv_at hl 0 rfl) ?_
                                                                              refine lv_iconst (v := 0) hx hb dL_law_1849 (by decide) ?_
                                                                              obtain ⟨r_1850, e_1850, h⟩ := ob1_inv h
                                                                              refine k_GVl (pre := [(a_g, .inl (cI, 38, .inl ga_68e)), (a_k, .inl (cI, 38, .inl ka_68e))]) (rest := []) ⟨hx, hb, hml, hown, hts⟩ (A_X4_odds l dC dI cI cS ad e_1850) (cwV 1 hts gL_law_X4_odds rfl rfl rfl khd_X4_odds ⟨(Nat.le_of_ble_eq_true rfl), (Nat.le_of_ble_eq_true rfl)⟩) hK hN hI hP hD hS rfl hl.1 rfl (Nat.le_of_ble_eq_true rfl) dL_law_1850 ⟨(Nat.le_of_ble_eq_true rfl), (Nat.le_of_ble_eq_true rfl)⟩ (fun H locs w hI hP hD hS => ?_)
                                                                              have hP : va_P (dC, dI) vwCl ((a_g, .inl (cI, 38, .inl ga_68e)) :: (a_k, .inl (cI, 38, .inl ka_68e)) :: w) H := hP
                                                                              have hD : va_D (fun q : Nat => s.heap.size ≤ q) ((a_g, .inl (cI, 38, .inl ga_68e)) :: (a_k, .inl (cI, 38, .inl ka_68e)) :: w) := hD
                                                                              refine lv_ldc2 (v := (-9223372036854775808)) hx hb hown (hts0 (.constantLong RL 111 (-9223372036854775808)) (List.mem_append_right _ (List.mem_of_getElem? (i := 524) (by decide +kernel)))) dL_law_1853 ?_
                                                                              refine W.lcmp hx hb dL_law_1856 ?_
                                                                              refine lv_if_eq (tgt := 1862) hx hb dL_law_1857 (by decide) (fun c_1857 => ?_) (fun c_1857 => ?_)
                                                                              · have h := hp_pos c_1857 h
                                                                                refine lv_iconst (v := 0) hx hb dL_law_1862 (by decide) ?_
                                                                                refine lv_istore (lv' := [(6, .int (0 : Int32)), (1, .ref (ad 0)), (2, .ref a_g), (5, .int (r_22_ga 0))]) hx hb dL_law_1863 hl (by decide) rfl (fun ls hl => ?_)
                                                                                obtain ⟨SS_1865e, i_1865, h⟩ := ob1_inv h
                                                                                have after_1865 : ∀ (w : va_W) (H : Heap) (locs : List Loc) (ls : Array Slot), gI cI cS ad SS_1865e w → va_P (dC, dI) vwCl ((a_g, .inl (cI, 38, .inl ga_68e)) :: (a_k, .inl (cI, 38, .inl ka_68e)) :: w) H → va_D (fun q : Nat => s.heap.size ≤ q) ((a_g, .inl (cI, 38, .inl ga_68e)) :: (a_k, .inl (cI, 38, .inl ka_68e)) :: w) → va_S (fun q : Nat => s.heap.size ≤ q) s.heap H locs → lv_has ls 19 [(1, .ref (ad 0)), (5, .int (r_22_ga 0))] → W p l e room_1 s m #[Value.ref b] below meth c H locs 29 472 (lw_Z below #[Value.ref b] s) (F0 m 1909 ls []) := by
                                                                                  intro w H locs ls hI hP hD hS hl
                                                                                  refine lv_iconst (v := 0) hx hb dL_law_1909 (by decide) ?_
                                                                                  refine lv_istore (lv' := [(6, .int (0 : Int32)), (1, .ref (ad 0)), (5, .int (r_22_ga 0))]) hx hb dL_law_1910 hl (by decide) rfl (fun ls hl => ?_)
                                                                                  refine lv_iconst (v := 0) hx hb dL_law_1912 (by decide) ?_
                                                                                  refine lv_istore (lv' := [(7, .int (0 : Int32)), (6, .int (0 : Int32)), (1, .ref (ad 0)), (5, .int (r_22_ga 0))]) hx hb dL_law_1913 hl (by decide) rfl (fun ls hl => ?_)
                                                                                  obtain ⟨y6_1915, SS_1915e, i_1915, h⟩ := ob2_inv h
                                                                                  have after_1915 : ∀ (w : va_W) (H : Heap) (locs : List Loc) (ls : Array Slot), gI cI cS ad SS_1915e w → va_P (dC, dI) vwCl ((a_g, .inl (cI, 38, .inl ga_68e)) :: (a_k, .inl (cI, 38, .inl ka_68e)) :: w) H → va_D (fun q : Nat => s.heap.size ≤ q) ((a_g, .inl (cI, 38, .inl ga_68e)) :: (a_k, .inl (cI, 38, .inl ka_68e)) :: w) → va_S (fun q : Nat => s.heap.size ≤ q) s.heap H locs → lv_has ls 19 [(1, .ref (ad 0)), (5, .int (r_22_ga 0)), (6, .int y6_1915)] → W p l e room_1 s m #[Value.ref b] below meth c H locs 29 472 (lw_Z below #[Value.ref b] s) (F0 m 1946 ls []) := by
                                                                                    intro w H locs ls hI hP hD hS hl
                                                                                    refine lv_iconst (v := 1) hx hb dL_law_1946 (by decide) ?_
                                                                                    refine lv_istore (lv' := [(7, .int (1 : Int32)), (1, .ref (ad 0)), (5, .int (r_22_ga 0)), (6, .int y6_1915)]) hx hb dL_law_1947 hl (by decide) rfl (fun ls hl => ?_)
                                                                                    obtain ⟨y6_1949, SS_1949e, i_1949, h⟩ := ob2_inv h
                                                                                    have after_1949 : ∀ (w : va_W) (H : Heap) (locs : List Loc) (ls : Array Slot), gI cI cS ad SS_1949e w → va_P (dC, dI) vwCl ((a_g, .inl (cI, 38, .inl ga_68e)) :: (a_k, .inl (cI, 38, .inl ka_68e)) :: w) H → va_D (fun q : Nat => s.heap.size ≤ q) ((a_g, .inl (cI, 38, .inl ga_68e)) :: (a_k, .inl (cI, 38, .inl ka_68e)) :: w) → va_S (fun q : Nat => s.heap.size ≤ q) s.heap H locs → lv_has ls 19 [(1, .ref (ad 0)), (5, .int (r_22_ga 0)), (6, .int y6_1949)] → W p l e room_1 s m #[Value.ref b] below meth c H locs 29 472 (lw_Z below #[Value.ref b] s) (F0 m 2014 ls []) := by
                                                                                      intro w H locs ls hI hP hD hS hl
                                                                                      refine lv_aload_n hx hb dL_law_2014 rfl (lv_at hl 0 rfl) ?_
                                                                                      refine lv_iconst (v := 2) hx hb dL_law_2015 (by decide) ?_
                                                                                      obtain ⟨r_2016, e_2016, h⟩ := ob1_inv h
                                                                                      refine k_GVi (pre := [(a_g, .inl (cI, 38, .inl ga_68e)), (a_k, .inl (cI, 38, .inl ka_68e))]) (rest := []) ⟨hx, hb, hml, hown, hts⟩ (A_X4_many l dC dI cI cS ad e_2016) (cwV 1 hts gL_law_X4_many rfl rfl rfl khd_X4_many ⟨(Nat.le_of_ble_eq_true rfl), (Nat.le_of_ble_eq_true rfl)⟩) hK hN hI hP hD hS rfl hl.1 rfl (Nat.le_of_ble_eq_true rfl) dL_law_2016 ⟨(Nat.le_of_ble_eq_true rfl), (Nat.le_of_ble_eq_true rfl)⟩ (fun H locs w hI hP hD hS => ?_)
                                                                                      have hP : va_P (dC, dI) vwCl ((a_g, .inl (cI, 38, .inl ga_68e)) :: (a_k, .inl (cI, 38, .inl ka_68e)) :: w) H := hP
                                                                                      have hD : va_D (fun q : Nat => s.heap.size ≤ q) ((a_g, .inl (cI, 38, .inl ga_68e)) :: (a_k, .inl (cI, 38, .inl ka_68e)) :: w) := hD
                                                                                      refine lv_iload hx hb dL_law_2019 (lv_at hl 1 rfl) ?_
                                                                                      refine lv_icmp_ne (tgt := 2100) hx hb dL_law_2021 (by decide) (fun c_2021 => ?_) (fun c_2021 => ?_)
                                                                                      · have h := hp_neg c_2021 h
                                                                                        cases h
                                                                                      · have h := hp_pos c_2021 h
                                                                                        refine lv_aload_n hx hb dL_law_2024 rfl (lv_at hl 0 rfl) ?_
                                                                                        obtain ⟨r_2025, e_2025, h⟩ := ob1_inv h
                                                                                        refine k_GVi (pre := [(a_g, .inl (cI, 38, .inl ga_68e)), (a_k, .inl (cI, 38, .inl ka_68e))]) (rest := []) ⟨hx, hb, hml, hown, hts⟩ (A_X4_unlawful l dC dI cI cS ad e_2025) (cwV 0 hts gL_law_X4_unlawful rfl rfl rfl khd_X4_unlawful ⟨(Nat.le_of_ble_eq_true rfl), (Nat.le_of_ble_eq_true rfl)⟩) hK hN hI hP hD hS rfl hl.1 rfl (Nat.le_of_ble_eq_true rfl) dL_law_2025 ⟨(Nat.le_of_ble_eq_true rfl), (Nat.le_of_ble_eq_true rfl)⟩ (fun H locs w hI hP hD hS => ?_)
                                                                                        have hP : va_P (dC, dI) vwCl ((a_g, .inl (cI, 38, .inl ga_68e)) :: (a_k, .inl (cI, 38, .inl ka_68e)) :: w) H := hP
                                                                                        have hD : va_D (fun q : Nat => s.heap.size ≤ q) ((a_g, .inl (cI, 38, .inl ga_68e)) :: (a_k, .inl (cI, 38, .inl ka_68e)) :: w) := hD
                                                                                        refine lv_if_ne (tgt := 2100) hx hb dL_law_2028 (by decide) (fun c_2028 => ?_) (fun c_2028 => ?_)
                                                                                        · have h := hp_neg c_2028 h
                                                                                          cases h
                                                                                        · have h := hp_pos c_2028 h
                                                                                          refine lv_aload_n hx hb dL_law_2031 rfl (lv_at hl 0 rfl) ?_
                                                                                          refine lv_iconst (v := 1) hx hb dL_law_2032 (by decide) ?_
                                                                                          obtain ⟨r_2033, e_2033, h⟩ := ob1_inv h
                                                                                          refine k_GVi (pre := [(a_g, .inl (cI, 38, .inl ga_68e)), (a_k, .inl (cI, 38, .inl ka_68e))]) (rest := []) ⟨hx, hb, hml, hown, hts⟩ (A_X4_many l dC dI cI cS ad e_2033) (cwV 1 hts gL_law_X4_many rfl rfl rfl khd_X4_many ⟨(Nat.le_of_ble_eq_true rfl), (Nat.le_of_ble_eq_true rfl)⟩) hK hN hI hP hD hS rfl hl.1 rfl (Nat.le_of_ble_eq_true rfl) dL_law_2033 ⟨(Nat.le_of_ble_eq_true rfl), (Nat.le_of_ble_eq_true rfl)⟩ (fun H locs w hI hP hD hS => ?_)
                                                                                          have hP : va_P (dC, dI) vwCl ((a_g, .inl (cI, 38, .inl ga_68e)) :: (a_k, .inl (cI, 38, .inl ka_68e)) :: w) H := hP
                                                                                          have hD : va_D (fun q : Nat => s.heap.size ≤ q) ((a_g, .inl (cI, 38, .inl ga_68e)) :: (a_k, .inl (cI, 38, .inl ka_68e)) :: w) := hD
                                                                                          refine lv_iload hx hb dL_law_2036 (lv_at hl 2 rfl) ?_
                                                                                          refine lv_icmp_ne (tgt := 2100) hx hb dL_law_2038 (by decide) (fun c_2038 => ?_) (fun c_2038 => ?_)
                                                                                          · have h := hp_neg c_2038 h
                                                                                            cases h
                                                                                          · have h := hp_pos c_2038 h
                                                                                            refine lv_iload hx hb dL_law_2041 (lv_at hl 1 rfl) ?_
                                                                                            refine lv_iconst (v := 2) hx hb dL_law_2043 (by decide) ?_
                                                                                            refine lv_icmp_lt (tgt := 2096) hx hb dL_law_2044 (by decide) (fun c_2044 => ?_) (fun c_2044 => ?_)
                                                                                            · have h := hp_pos c_2044 h
                                                                                              refine lv_iconst (v := 1) hx hb dL_law_2096 (by decide) ?_
                                                                                              refine lv_goto (tgt := 2101) hx hb dL_law_2097 (by decide) ?_
                                                                                              refine va_forget (fun q hq => hS.2.2 q hq) ?_
                                                                                              refine W.widen (k := 600000) (n := 7302250) (Nat.le_of_ble_eq_true rfl) (Nat.le_of_ble_eq_true rfl) ?_
                                                                                              exact lw_ret hx hb hr hlocks dL_law_2101
                                                                                            · have h := hp_neg c_2044 h
                                                                                              refine lv_aload_n hx hb dL_law_2047 rfl (lv_at hl 0 rfl) ?_
                                                                                              refine lv_iconst (v := 1) hx hb dL_law_2048 (by decide) ?_
                                                                                              refine lv_iconst (v := 0) hx hb dL_law_2049 (by decide) ?_
                                                                                              obtain ⟨r_2050, r_2050_S, e_2050, h⟩ := ob2_inv h
                                                                                              refine k_GVi (pre := [(a_g, .inl (cI, 38, .inl ga_68e)), (a_k, .inl (cI, 38, .inl ka_68e))]) (rest := []) ⟨hx, hb, hml, hown, hts⟩ (A_X4_own l dC dI cI cS ad e_2050) (cwV 2 hts gL_law_X4_own rfl rfl rfl khd_X4_own ⟨(Nat.le_of_ble_eq_true rfl), (Nat.le_of_ble_eq_true rfl)⟩) hK hN hI hP hD hS rfl hl.1 rfl (Nat.le_of_ble_eq_true rfl) dL_law_2050 ⟨(Nat.le_of_ble_eq_true rfl), (Nat.le_of_ble_eq_true rfl)⟩ (fun H locs w hI hP hD hS => ?_)
                                                                                              have hP : va_P (dC, dI) vwCl ((a_g, .inl (cI, 38, .inl ga_68e)) :: (a_k, .inl (cI, 38, .inl ka_68e)) :: w) H := hP
                                                                                              have hD : va_D (fun q : Nat => s.heap.size ≤ q) ((a_g, .inl (cI, 38, .inl ga_68e)) :: (a_k, .inl (cI, 38, .inl ka_68e)) :: w) := hD
                                                                                              refine lv_bipush (v := 6) hx hb dL_law_2053 (by decide) ?_
                                                                                              refine lv_icmp_ne (tgt := 2100) hx hb dL_law_2055 (by decide) (fun c_2055 => ?_) (fun c_2055 => ?_)
                                                                                              · have h := hp_neg c_2055 h
                                                                                                cases h
                                                                                              · have h := hp_pos c_2055 h
                                                                                                refine lv_aload_n hx hb dL_law_2058 rfl (lv_at hl 0 rfl) ?_
                                                                                                obtain ⟨r_2059, e_2059, h⟩ := ob1_inv h
                                                                                                refine k_GVi (pre := [(a_g, .inl (cI, 38, .inl ga_68e)), (a_k, .inl (cI, 38, .inl ka_68e))]) (rest := []) ⟨hx, hb, hml, hown, hts⟩ (A_X4_unlawful l dC dI cI cS ad e_2059) (cwV 0 hts gL_law_X4_unlawful rfl rfl rfl khd_X4_unlawful ⟨(Nat.le_of_ble_eq_true rfl), (Nat.le_of_ble_eq_true rfl)⟩) hK hN hI hP hD hS rfl hl.1 rfl (Nat.le_of_ble_eq_true rfl) dL_law_2059 ⟨(Nat.le_of_ble_eq_true rfl), (Nat.le_of_ble_eq_true rfl)⟩ (fun H locs w hI hP hD hS => ?_)
                                                                                                have hP : va_P (dC, dI) vwCl ((a_g, .inl (cI, 38, .inl ga_68e)) :: (a_k, .inl (cI, 38, .inl ka_68e)) :: w) H := hP
                                                                                                have hD : va_D (fun q : Nat => s.heap.size ≤ q) ((a_g, .inl (cI, 38, .inl ga_68e)) :: (a_k, .inl (cI, 38, .inl ka_68e)) :: w) := hD
                                                                                                refine lv_iconst (v := 2) hx hb dL_law_2062 (by decide) ?_
                                                                                                refine lv_icmp_ne (tgt := 2100) hx hb dL_law_2063 (by decide) (fun c_2063 => ?_) (fun c_2063 => ?_)
                                                                                                · have h := hp_neg c_2063 h
                                                                                                  cases h
                                                                                                · have h := hp_pos c_2063 h
                                                                                                  refine lv_aload_n hx hb dL_law_2066 rfl (lv_at hl 0 rfl) ?_
                                                                                                  refine lv_iconst (v := 1) hx hb dL_law_2067 (by decide) ?_
                                                                                                  refine lv_iconst (v := -1) hx hb dL_law_2068 (by decide) ?_
                                                                                                  obtain ⟨r_2069, e_2069, h⟩ := ob1_inv h
                                                                                                  refine k_GVi (pre := [(a_g, .inl (cI, 38, .inl ga_68e)), (a_k, .inl (cI, 38, .inl ka_68e))]) (rest := []) ⟨hx, hb, hml, hown, hts⟩ (A_X4_past l dC dI cI cS ad e_2069) (cwV 2 hts gL_law_X4_past rfl rfl rfl khd_X4_past ⟨(Nat.le_of_ble_eq_true rfl), (Nat.le_of_ble_eq_true rfl)⟩) hK hN hI hP hD hS rfl hl.1 rfl (Nat.le_of_ble_eq_true rfl) dL_law_2069 ⟨(Nat.le_of_ble_eq_true rfl), (Nat.le_of_ble_eq_true rfl)⟩ (fun H locs w hI hP hD hS => ?_)
                                                                                                  have hP : va_P (dC, dI) vwCl ((a_g, .inl (cI, 38, .inl ga_68e)) :: (a_k, .inl (cI, 38, .inl ka_68e)) :: w) H := hP
                                                                                                  have hD : va_D (fun q : Nat => s.heap.size ≤ q) ((a_g, .inl (cI, 38, .inl ga_68e)) :: (a_k, .inl (cI, 38, .inl ka_68e)) :: w) := hD
                                                                                                  refine lv_iconst (v := 1) hx hb dL_law_2072 (by decide) ?_
                                                                                                  refine lv_icmp_ne (tgt := 2100) hx hb dL_law_2073 (by decide) (fun c_2073 => ?_) (fun c_2073 => ?_)
                                                                                                  · have h := hp_neg c_2073 h
                                                                                                    cases h
                                                                                                  · have h := hp_pos c_2073 h
                                                                                                    refine lv_aload_n hx hb dL_law_2076 rfl (lv_at hl 0 rfl) ?_
                                                                                                    refine lv_iconst (v := 1) hx hb dL_law_2077 (by decide) ?_
                                                                                                    refine lv_iconst (v := 0) hx hb dL_law_2078 (by decide) ?_
                                                                                                    obtain ⟨r_2079, e_2079, h⟩ := ob1_inv h
                                                                                                    refine k_GVi (pre := [(a_g, .inl (cI, 38, .inl ga_68e)), (a_k, .inl (cI, 38, .inl ka_68e))]) (rest := []) ⟨hx, hb, hml, hown, hts⟩ (A_X4_past l dC dI cI cS ad e_2079) (cwV 2 hts gL_law_X4_past rfl rfl rfl khd_X4_past ⟨(Nat.le_of_ble_eq_true rfl), (Nat.le_of_ble_eq_true rfl)⟩) hK hN hI hP hD hS rfl hl.1 rfl (Nat.le_of_ble_eq_true rfl) dL_law_2079 ⟨(Nat.le_of_ble_eq_true rfl), (Nat.le_of_ble_eq_true rfl)⟩ (fun H locs w hI hP hD hS => ?_)
                                                                                                    have hP : va_P (dC, dI) vwCl ((a_g, .inl (cI, 38, .inl ga_68e)) :: (a_k, .inl (cI, 38, .inl ka_68e)) :: w) H := hP
                                                                                                    have hD : va_D (fun q : Nat => s.heap.size ≤ q) ((a_g, .inl (cI, 38, .inl ga_68e)) :: (a_k, .inl (cI, 38, .inl ka_68e)) :: w) := hD
                                                                                                    refine lv_iconst (v := 1) hx hb dL_law_2082 (by decide) ?_
                                                                                                    refine lv_icmp_ne (tgt := 2100) hx hb dL_law_2083 (by decide) (fun c_2083 => ?_) (fun c_2083 => ?_)
                                                                                                    · have h := hp_neg c_2083 h
                                                                                                      cases h
                                                                                                    · have h := hp_pos c_2083 h
                                                                                                      refine lv_aload_n hx hb dL_law_2086 rfl (lv_at hl 0 rfl) ?_
                                                                                                      refine lv_iconst (v := 1) hx hb dL_law_2087 (by decide) ?_
                                                                                                      refine lv_bipush (v := 6) hx hb dL_law_2088 (by decide) ?_
                                                                                                      obtain ⟨r_2090, r_2090_S, e_2090, h⟩ := ob2_inv h
                                                                                                      refine k_GVi (pre := [(a_g, .inl (cI, 38, .inl ga_68e)), (a_k, .inl (cI, 38, .inl ka_68e))]) (rest := []) ⟨hx, hb, hml, hown, hts⟩ (A_X4_own l dC dI cI cS ad e_2090) (cwV 2 hts gL_law_X4_own rfl rfl rfl khd_X4_own ⟨(Nat.le_of_ble_eq_true rfl), (Nat.le_of_ble_eq_true rfl)⟩) hK hN hI hP hD hS rfl hl.1 rfl (Nat.le_of_ble_eq_true rfl) dL_law_2090 ⟨(Nat.le_of_ble_eq_true rfl), (Nat.le_of_ble_eq_true rfl)⟩ (fun H locs w hI hP hD hS => ?_)
                                                                                                      have hP : va_P (dC, dI) vwCl ((a_g, .inl (cI, 38, .inl ga_68e)) :: (a_k, .inl (cI, 38, .inl ka_68e)) :: w) H := hP
                                                                                                      have hD : va_D (fun q : Nat => s.heap.size ≤ q) ((a_g, .inl (cI, 38, .inl ga_68e)) :: (a_k, .inl (cI, 38, .inl ka_68e)) :: w) := hD
                                                                                                      refine lv_if_ne (tgt := 2100) hx hb dL_law_2093 (by decide) (fun c_2093 => ?_) (fun c_2093 => ?_)
                                                                                                      · have h := hp_neg c_2093 h
                                                                                                        cases h
                                                                                                      · have h := hp_pos c_2093 h
                                                                                                        refine lv_iconst (v := 1) hx hb dL_law_2096 (by decide) ?_
                                                                                                        refine lv_goto (tgt := 2101) hx hb dL_law_2097 (by decide) ?_
                                                                                                        refine va_forget (fun q hq => hS.2.2 q hq) ?_
                                                                                                        refine W.widen (k := 600000) (n := 7302250) (Nat.le_of_ble_eq_true rfl) (Nat.le_of_ble_eq_true rfl) ?_
                                                                                                        exact lw_ret hx hb hr hlocks dL_law_2101
                                                                                    exact lq_1949 C0 hK hN after_1949 FUEL _ _ _ i_1949 _ _ _ _ hI hP hD hS (lv_sub hl [1, 2, 3, 0] rfl)
                                                                                  exact lq_1915 C0 hK hN after_1915 FUEL _ _ _ i_1915 _ _ _ _ hI hP hD hS (lv_sub hl [2, 3, 1, 0] rfl)
                                                                                exact lq_1865 C0 hK hN after_1865 FUEL _ _ i_1865 _ _ _ _ hI hP hD hS (lv_sub hl [1, 2, 3, 0] rfl)
                                                                              · have h := hp_neg c_1857 h
                                                                                cases h
                                                                      exact lq_1789 C0 hK hN after_1789 FUEL _ _ i_1789 _ _ _ _ hI hP hD hS (lv_sub hl [1, 2, 3, 0] rfl)
                                                                    · have h := hp_neg c_1777 h
                                                                      cases h
                                        · have h := hp_neg c_1582 h
                                          cases h
        exact lq_68 C0 hK hN after_68 FUEL _ _ _ _ i_68 _ _ _ _ hI hP hD hS (lv_sub hl [6, 5, 4, 3, 1, 0] rfl)
      · have h := hp_neg c_60 h
        cases h
end LAWL
