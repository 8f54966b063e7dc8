theorem kin_X0_size_X0 : ∀ w ∈ wsX00, w ∈ wsX0_size := fun _ h => List.mem_cons_of_mem _ (List.mem_append_right _ h)
theorem khd_X0_size : yX0_size.cls = RX0 ∧ yX0_size.cls ≠ "java/lang/invoke/MethodHandle" ∧ yX0_size.cls ≠ "java/lang/invoke/VarHandle" ∧ (parseMethodDescriptor yX0_size.desc).map (fun d => d.parameters.length) = some 0 := by decide +kernel
set_option maxHeartbeats 8000000 in
set_option maxRecDepth 100000 in
theorem c_X0_size (l : Launch) (dC : Nat → ClassId) (dI : Nat → Nat → Nat) (cI cS : ClassId) (a_d : Nat) (a_d_one : Nat) (a_d_other : Nat) (a_d_less : Nat) (d_count : Int32) (r : Int32) (h : f_X0_size d_count = some r) : Mk l yX0_size wsX0_size ({ frames := 0, cells := 0, slots := 0, locals := 0 } : Room) (dC, dI) cI cS [(a_d, .inr (0, [.int d_count, .ref a_d_one, .ref a_d_other, .ref a_d_less]))] [.ref a_d] (some (.int r)) True (fun _ => True) noA := by
  refine Met.ofW (cc := cX0_size) (maxL := 1) (ret := (some .int)) (by decide) rfl ?_
  intro p e s m args below meth c s₁ B hml hv
  obtain ⟨rfl, hP, hK, hN, hD⟩ := hv
  have hx := B.exec
  have hb := B.bytes
  have hr := B.returns
  have hts := atoms_spec (ws := wsX0_size) B.pre
  have hown : s.vm.findClass RX0 = some m.cls := findClass_of_methodNamed B.named
  have hlocks := B.notSynchronized
  have hS : va_S noA s.heap s.heap [] := va_S.rf
  have hP : va_P (dC, dI) vwCl [(a_d, .inr (0, [.int d_count, .ref a_d_one, .ref a_d_other, .ref a_d_less]))] s.heap := hP
  have hl := lv_entry ([.ref a_d]) (n := 1) (Nat.le_of_ble_eq_true rfl)
  rw [lg_entry_eq]
  generalize (lg_sl ([.ref a_d]) ++ List.replicate (1 - (lg_sl ([.ref a_d])).length) Slot.unset).toArray = ls at hl ⊢
  have hl : lv_has ls 1 [(0, .ref a_d)] := hl
  unfold f_X0_size at h
  refine lv_aload_n hx hb dX0_size_0 rfl (lv_at hl 0 rfl) ?_
  refine va_get (D := (dC, dI)) (ci := 0) (v := .int d_count) (C := RX0) (T := TX0) (N := 4) hx hb hts kin_X0_size_X0 hown hK hP 0 rfl rfl 0 (Nat.le_of_ble_eq_true rfl) (hts (.fieldLink RX0 9 "OwnedThings$Readings" "count" "I") (List.mem_of_getElem? (i := 1) rfl)) (fun _ h9 => h9) rfl dX0_size_1 ?_
  obtain rfl := Option.some.inj h
  exact W.iret hx hb hr (fun t ht _ => kQ.mk ht trivial trivial (hS.F ht)) hS.2.2 dX0_size_4
theorem kin_X0_dropLast_X0 : ∀ w ∈ wsX00, w ∈ wsX0_dropLast := fun _ h => List.mem_cons_of_mem _ (List.mem_append_right _ h)
theorem khd_X0_dropLast : yX0_dropLast.cls = RX0 ∧ yX0_dropLast.cls ≠ "java/lang/invoke/MethodHandle" ∧ yX0_dropLast.cls ≠ "java/lang/invoke/VarHandle" ∧ (parseMethodDescriptor yX0_dropLast.desc).map (fun d => d.parameters.length) = some 1 := by decide +kernel
set_option maxHeartbeats 8000000 in
set_option maxRecDepth 100000 in
theorem c_X0_dropLast (l : Launch) (dC : Nat → ClassId) (dI : Nat → Nat → Nat) (cI cS : ClassId) (a_d : Nat) (a_d_one : Nat) (a_d_other : Nat) (a_d_less : Nat) (d_count : Int32) (x1 : Int32) (z_d_count : Int32) (h : f_X0_dropLast d_count x1 = some z_d_count) : Mk l yX0_dropLast wsX0_dropLast ({ frames := 0, cells := 0, slots := 0, locals := 0 } : Room) (dC, dI) cI cS [(a_d, .inr (0, [.int d_count, .ref a_d_one, .ref a_d_other, .ref a_d_less]))] [.ref a_d, .int x1] none True (fun H => va_P (dC, dI) vwCl [(a_d, .inr (0, [.int z_d_count, .ref a_d_one, .ref a_d_other, .ref a_d_less]))] H) (inA (List.map Prod.fst ([(a_d, .inr (0, [.int d_count, .ref a_d_one, .ref a_d_other, .ref a_d_less]))] : va_W))) := by
  refine Met.ofW (cc := cX0_dropLast) (maxL := 2) (ret := none) (by decide) rfl ?_
  intro p e s m args below meth c s₁ B hml hv
  obtain ⟨rfl, hP, hK, hN, hD⟩ := hv
  have hx := B.exec
  have hb := B.bytes
  have hr := B.returns
  have hts := atoms_spec (ws := wsX0_dropLast) B.pre
  have hown : s.vm.findClass RX0 = some m.cls := findClass_of_methodNamed B.named
  have hlocks := B.notSynchronized
  have hS : va_S (inA [a_d]) s.heap s.heap [] := va_S.rf
  have hP : va_P (dC, dI) vwCl [(a_d, .inr (0, [.int d_count, .ref a_d_one, .ref a_d_other, .ref a_d_less]))] s.heap := hP
  have hD : va_D (inA [a_d]) [(a_d, .inr (0, [.int d_count, .ref a_d_one, .ref a_d_other, .ref a_d_less]))] := va_D_in hD rfl
  have hl := lv_entry ([.ref a_d, .int x1]) (n := 2) (Nat.le_of_ble_eq_true rfl)
  rw [lg_entry_eq]
  generalize (lg_sl ([.ref a_d, .int x1]) ++ List.replicate (2 - (lg_sl ([.ref a_d, .int x1])).length) Slot.unset).toArray = ls at hl ⊢
  have hl : lv_has ls 2 [(0, .ref a_d), (1, .int x1)] := hl
  unfold f_X0_dropLast at h
  refine lv_iload_n hx hb dX0_dropLast_0 rfl (lv_at hl 1 rfl) ?_
  refine lv_if_lt (tgt := 22) hx hb dX0_dropLast_1 (by decide) (fun c_1 => ?_) (fun c_1 => ?_)
  · have h := hp_pos c_1 h
    obtain rfl := Option.some.inj h
    exact W.vret hx hb hr (fun t ht _ => kQ.mk ht hP trivial (hS.F ht)) hS.2.2 dX0_dropLast_22
  · have h := hp_neg c_1 h
    refine lv_iload_n hx hb dX0_dropLast_4 rfl (lv_at hl 1 rfl) ?_
    refine lv_aload_n hx hb dX0_dropLast_5 rfl (lv_at hl 0 rfl) ?_
    refine va_get (D := (dC, dI)) (ci := 0) (v := .int d_count) (C := RX0) (T := TX0) (N := 4) hx hb hts kin_X0_dropLast_X0 hown hK hP 0 rfl rfl 0 (Nat.le_of_ble_eq_true rfl) (hts (.fieldLink RX0 9 "OwnedThings$Readings" "count" "I") (List.mem_of_getElem? (i := 1) rfl)) (fun _ h9 => h9) rfl dX0_dropLast_6 ?_
    refine lv_icmp_gt (tgt := 22) hx hb dX0_dropLast_9 (by decide) (fun c_9 => ?_) (fun c_9 => ?_)
    · have h := hp_pos c_9 h
      obtain rfl := Option.some.inj h
      exact W.vret hx hb hr (fun t ht _ => kQ.mk ht hP trivial (hS.F ht)) hS.2.2 dX0_dropLast_22
    · have h := hp_neg c_9 h
      refine lv_aload_n hx hb dX0_dropLast_12 rfl (lv_at hl 0 rfl) ?_
      refine lv_dup hx hb dX0_dropLast_13 rfl ?_
      refine va_get (D := (dC, dI)) (ci := 0) (v := .int d_count) (C := RX0) (T := TX0) (N := 4) hx hb hts kin_X0_dropLast_X0 hown hK hP 0 rfl rfl 0 (Nat.le_of_ble_eq_true rfl) (hts (.fieldLink RX0 9 "OwnedThings$Readings" "count" "I") (List.mem_of_getElem? (i := 1) rfl)) (fun _ h9 => h9) rfl dX0_dropLast_14 ?_
      refine lv_iload_n hx hb dX0_dropLast_17 rfl (lv_at hl 1 rfl) ?_
      refine lv_isub hx hb dX0_dropLast_18 ?_
      refine va_put (D := (dC, dI)) (ci := 0) (v := .int (d_count - x1)) (C := RX0) (T := TX0) (N := 4) hx hb hts kin_X0_dropLast_X0 tyX0 tyX0_ok nmX0 hown hK hP (va_D_fst hD rfl) hS 0 rfl rfl 0 (Nat.le_of_ble_eq_true rfl) (hts (.fieldLink RX0 9 "OwnedThings$Readings" "count" "I") (List.mem_of_getElem? (i := 1) rfl)) (fun _ h9 => h9) rfl (tyX0_ok 0 (Nat.le_of_ble_eq_true rfl)) rfl rfl (Nat.le_of_ble_eq_true rfl) dX0_dropLast_19 (fun H locs hP _ hS => ?_)
      have hP : va_P (dC, dI) vwCl [(a_d, .inr (0, [.int (d_count - x1), .ref a_d_one, .ref a_d_other, .ref a_d_less]))] H := hP
      obtain rfl := Option.some.inj h
      exact W.vret hx hb hr (fun t ht _ => kQ.mk ht hP trivial (hS.F ht)) hS.2.2 dX0_dropLast_22
theorem kin_X1_renew_X1 : ∀ w ∈ wsX10, w ∈ wsX1_renew := fun _ h => List.mem_cons_of_mem _ (List.mem_append_right _ h)
theorem khd_X1_renew : yX1_renew.cls = RX1 ∧ yX1_renew.cls ≠ "java/lang/invoke/MethodHandle" ∧ yX1_renew.cls ≠ "java/lang/invoke/VarHandle" ∧ (parseMethodDescriptor yX1_renew.desc).map (fun d => d.parameters.length) = some 2 := by decide +kernel
set_option maxHeartbeats 8000000 in
set_option maxRecDepth 100000 in
theorem c_X1_renew (l : Launch) (dC : Nat → ClassId) (dI : Nat → Nat → Nat) (cI cS : ClassId) (a_h : Nat) (a_h_cells : Nat) (h_lane : Int32) (h_length : Int32) (h_cells : Nat → Int32) (x1 : Int32) (x2 : Int32) (z_h_lane : Int32) (z_h_length : Int32) (z_h_cells : Nat → Int32) (h : f_X1_renew h_lane h_length h_cells x1 x2 = some (z_h_lane, z_h_length, z_h_cells)) : Mk l yX1_renew wsX1_renew ({ frames := 0, cells := 0, slots := 0, locals := 0 } : Room) (dC, dI) cI cS [(a_h, .inr (1, [.int h_lane, .int h_length, .ref a_h_cells])), (a_h_cells, .inl (cI, 60, .inl h_cells))] [.ref a_h, .int x1, .int x2] none True (fun H => va_P (dC, dI) vwCl [(a_h, .inr (1, [.int z_h_lane, .int z_h_length, .ref a_h_cells])), (a_h_cells, .inl (cI, 60, .inl z_h_cells))] H) (inA (List.map Prod.fst ([(a_h, .inr (1, [.int h_lane, .int h_length, .ref a_h_cells])), (a_h_cells, .inl (cI, 60, .inl h_cells))] : va_W))) := by
  refine Met.ofW (cc := cX1_renew) (maxL := 4) (ret := none) (by decide) rfl ?_
  intro p e s m args below meth c s₁ B hml hv
  obtain ⟨rfl, hP, hK, hN, hD⟩ := hv
  have hx := B.exec
  have hb := B.bytes
  have hr := B.returns
  have hts := atoms_spec (ws := wsX1_renew) B.pre
  have hown : s.vm.findClass RX1 = some m.cls := findClass_of_methodNamed B.named
  have hlocks := B.notSynchronized
  have hS : va_S (inA [a_h, a_h_cells]) s.heap s.heap [] := va_S.rf
  have hP : va_P (dC, dI) vwCl [(a_h, .inr (1, [.int h_lane, .int h_length, .ref a_h_cells])), (a_h_cells, .inl (cI, 60, .inl h_cells))] s.heap := hP
  have hD : va_D (inA [a_h, a_h_cells]) [(a_h, .inr (1, [.int h_lane, .int h_length, .ref a_h_cells])), (a_h_cells, .inl (cI, 60, .inl h_cells))] := va_D_in hD rfl
  have hl := lv_entry ([.ref a_h, .int x1, .int x2]) (n := 4) (Nat.le_of_ble_eq_true rfl)
  rw [lg_entry_eq]
  generalize (lg_sl ([.ref a_h, .int x1, .int x2]) ++ List.replicate (4 - (lg_sl ([.ref a_h, .int x1, .int x2])).length) Slot.unset).toArray = ls at hl ⊢
  have hl : lv_has ls 4 [(0, .ref a_h), (1, .int x1), (2, .int x2)] := hl
  unfold f_X1_renew at h
  refine lv_iload_n hx hb dX1_renew_0 rfl (lv_at hl 2 rfl) ?_
  refine lv_if_lt (tgt := 10) hx hb dX1_renew_1 (by decide) (fun c_1 => ?_) (fun c_1 => ?_)
  · have h := hp_pos c_1 h
    obtain ⟨rfl, rfl, rfl⟩ := pj3 (Option.some.inj h)
    exact W.vret hx hb hr (fun t ht _ => kQ.mk ht hP trivial (hS.F ht)) hS.2.2 dX1_renew_10
  · have h := hp_neg c_1 h
    refine lv_iload_n hx hb dX1_renew_4 rfl (lv_at hl 2 rfl) ?_
    refine lv_bipush (v := 60) hx hb dX1_renew_5 (by decide) ?_
    refine lv_icmp_le (tgt := 11) hx hb dX1_renew_7 (by decide) (fun c_7 => ?_) (fun c_7 => ?_)
    · have h := hp_pos c_7 h
      refine lv_aload_n hx hb dX1_renew_11 rfl (lv_at hl 0 rfl) ?_
      refine lv_iload_n hx hb dX1_renew_12 rfl (lv_at hl 1 rfl) ?_
      refine va_put (D := (dC, dI)) (ci := 1) (v := .int x1) (C := RX1) (T := TX1) (N := 3) hx hb hts kin_X1_renew_X1 tyX1 tyX1_ok nmX1 hown hK hP (va_D_fst hD rfl) hS 0 rfl rfl 0 (Nat.le_of_ble_eq_true rfl) (hts (.fieldLink RX1 9 "OwnedThings$Sheet" "lane" "I") (List.mem_of_getElem? (i := 1) rfl)) (fun _ h9 => h9) rfl (tyX1_ok 0 (Nat.le_of_ble_eq_true rfl)) rfl rfl (Nat.le_of_ble_eq_true rfl) dX1_renew_13 (fun H locs hP _ hS => ?_)
      have hP : va_P (dC, dI) vwCl [(a_h, .inr (1, [.int x1, .int h_length, .ref a_h_cells])), (a_h_cells, .inl (cI, 60, .inl h_cells))] H := hP
      refine lv_aload_n hx hb dX1_renew_16 rfl (lv_at hl 0 rfl) ?_
      refine lv_iload_n hx hb dX1_renew_17 rfl (lv_at hl 2 rfl) ?_
      refine va_put (D := (dC, dI)) (ci := 1) (v := .int x2) (C := RX1) (T := TX1) (N := 3) hx hb hts kin_X1_renew_X1 tyX1 tyX1_ok nmX1 hown hK hP (va_D_fst hD rfl) hS 0 rfl rfl 1 (Nat.le_of_ble_eq_true rfl) (hts (.fieldLink RX1 15 "OwnedThings$Sheet" "length" "I") (List.mem_of_getElem? (i := 2) rfl)) (fun _ h9 => h9) rfl (tyX1_ok 1 (Nat.le_of_ble_eq_true rfl)) rfl rfl (Nat.le_of_ble_eq_true rfl) dX1_renew_18 (fun H locs hP _ hS => ?_)
      have hP : va_P (dC, dI) vwCl [(a_h, .inr (1, [.int x1, .int x2, .ref a_h_cells])), (a_h_cells, .inl (cI, 60, .inl h_cells))] H := hP
      refine lv_iconst (v := 0) hx hb dX1_renew_21 (by decide) ?_
      refine lv_istore_n (lv' := [(3, .int (0 : Int32)), (0, .ref a_h), (1, .int x1), (2, .int x2)]) hx hb dX1_renew_22 rfl hl (by decide) rfl (fun ls hl => ?_)
      obtain ⟨h_cells_23e, i_23, h⟩ := ob1_inv h
      have after_23 : ∀ (H : Heap) (locs : List Loc) (ls : Array Slot), va_P (dC, dI) vwCl [(a_h, .inr (1, [.int x1, .int x2, .ref a_h_cells])), (a_h_cells, .inl (cI, 60, .inl h_cells_23e))] H → va_S (inA [a_h, a_h_cells]) s.heap H locs → lv_has ls 4 [] → W p l e (headSpec wsX1_renew ({ frames := 0, cells := 0, slots := 0, locals := 0 } : Room)).room s m ([.ref a_h, .int x1, .int x2] : List Value).toArray below meth c H locs 0 0 (MQ below (kQ none True (fun H => va_P (dC, dI) vwCl [(a_h, .inr (1, [.int z_h_lane, .int z_h_length, .ref a_h_cells])), (a_h_cells, .inl (cI, 60, .inl z_h_cells))] H) (inA (List.map Prod.fst ([(a_h, .inr (1, [.int h_lane, .int h_length, .ref a_h_cells])), (a_h_cells, .inl (cI, 60, .inl h_cells))] : va_W)))) ([.ref a_h, .int x1, .int x2] : List Value).toArray s 0 0 (inA (List.map Prod.fst ([(a_h, .inr (1, [.int h_lane, .int h_length, .ref a_h_cells])), (a_h_cells, .inl (cI, 60, .inl h_cells))] : va_W)))) (F0 m 41 ls []) := by
        intro H locs ls hP hS hl
        obtain ⟨rfl, rfl, rfl⟩ := pj3 (Option.some.inj h)
        exact W.vret hx hb hr (fun t ht _ => kQ.mk ht hP trivial (hS.F ht)) hS.2.2 dX1_renew_41
      have lp_23 : ∀ (n : Nat) (x3_23 : Int32) (h_cells_23 : Nat → Int32) (H : Heap) (locs : List Loc) (ls : Array Slot), it (u2 (L_X1_renew_23 x2)) n (x3_23, h_cells_23) = some h_cells_23e → va_P (dC, dI) vwCl [(a_h, .inr (1, [.int x1, .int x2, .ref a_h_cells])), (a_h_cells, .inl (cI, 60, .inl h_cells_23))] H → va_S (inA [a_h, a_h_cells]) s.heap H locs → lv_has ls 4 [(0, .ref a_h), (2, .int x2), (3, .int x3_23)] → W p l e (headSpec wsX1_renew ({ frames := 0, cells := 0, slots := 0, locals := 0 } : Room)).room s m ([.ref a_h, .int x1, .int x2] : List Value).toArray below meth c H locs 0 0 (MQ below (kQ none True (fun H => va_P (dC, dI) vwCl [(a_h, .inr (1, [.int z_h_lane, .int z_h_length, .ref a_h_cells])), (a_h_cells, .inl (cI, 60, .inl z_h_cells))] H) (inA (List.map Prod.fst ([(a_h, .inr (1, [.int h_lane, .int h_length, .ref a_h_cells])), (a_h_cells, .inl (cI, 60, .inl h_cells))] : va_W)))) ([.ref a_h, .int x1, .int x2] : List Value).toArray s 0 0 (inA (List.map Prod.fst ([(a_h, .inr (1, [.int h_lane, .int h_length, .ref a_h_cells])), (a_h_cells, .inl (cI, 60, .inl h_cells))] : va_W)))) (F0 m 23 ls []) := by
        intro n
        induction n with
        | zero => intro x3_23 h_cells_23 H locs ls h1; exact (it_0 h1).elim
        | succ n ih_23 =>
          intro x3_23 h_cells_23 H locs ls h1 hP hS hl
          obtain ⟨t_23, h1, k1⟩ := it2_inv h1
          unfold L_X1_renew_23 at h1
          refine lv_iload_n hx hb dX1_renew_23 rfl (lv_at hl 2 rfl) ?_
          refine lv_iload_n hx hb dX1_renew_24 rfl (lv_at hl 1 rfl) ?_
          refine lv_icmp_ge (tgt := 41) hx hb dX1_renew_25 (by decide) (fun c_25 => ?_) (fun c_25 => ?_)
          · have h1 := hp_pos c_25 h1
            cases h1
            obtain rfl := pj1 k1
            exact after_23 _ _ _ hP hS (lv_sub hl [] rfl)
          · have h1 := hp_neg c_25 h1
            refine lv_aload_n hx hb dX1_renew_28 rfl (lv_at hl 0 rfl) ?_
            refine va_get (D := (dC, dI)) (ci := 1) (v := .ref a_h_cells) (C := RX1) (T := TX1) (N := 3) hx hb hts kin_X1_renew_X1 hown hK hP 0 rfl rfl 2 (Nat.le_of_ble_eq_true rfl) (hts (.fieldLink RX1 18 "OwnedThings$Sheet" "cells" "[I") (List.mem_of_getElem? (i := 3) rfl)) (fun _ h9 => h9) rfl dX1_renew_29 ?_
            refine lv_iload_n hx hb dX1_renew_32 rfl (lv_at hl 2 rfl) ?_
            refine lv_iconst (v := 0) hx hb dX1_renew_33 (by decide) ?_
            have g_34 := hg_no h1
            have h1 := hg_yes h1
            refine va_iast (D := (dC, dI)) hx hb hK hP (va_D_fst hD rfl) hS 1 0 rfl rfl g_34 dX1_renew_34 (fun H locs hP _ hS => ?_)
            have hP : va_P (dC, dI) vwCl [(a_h, .inr (1, [.int x1, .int x2, .ref a_h_cells])), (a_h_cells, .inl (cI, 60, .inl (upd h_cells_23 x3_23.toNatClampNeg (0 : Int32))))] H := hP
            refine lv_iinc (v := (x3_23 + (1 : Int32))) (lv' := [(3, .int (x3_23 + (1 : Int32))), (0, .ref a_h), (2, .int x2)]) hx hb dX1_renew_35 hl (k := 2) rfl rfl (by decide) rfl (fun ls hl => ?_)
            refine lv_goto (tgt := 23) hx hb dX1_renew_38 (by decide) ?_
            cases h1
            exact ih_23 _ _ _ _ _ k1 hP hS (lv_sub hl [1, 2, 0] rfl)
      exact lp_23 FUEL _ _ _ _ _ i_23 hP hS (lv_sub hl [1, 3, 0] rfl)
    · have h := hp_neg c_7 h
      obtain ⟨rfl, rfl, rfl⟩ := pj3 (Option.some.inj h)
      exact W.vret hx hb hr (fun t ht _ => kQ.mk ht hP trivial (hS.F ht)) hS.2.2 dX1_renew_10
theorem kin_X1_hasRow_X1 : ∀ w ∈ wsX10, w ∈ wsX1_hasRow := fun _ h => List.mem_cons_of_mem _ (List.mem_append_right _ h)
theorem khd_X1_hasRow : yX1_hasRow.cls = RX1 ∧ yX1_hasRow.cls ≠ "java/lang/invoke/MethodHandle" ∧ yX1_hasRow.cls ≠ "java/lang/invoke/VarHandle" ∧ (parseMethodDescriptor yX1_hasRow.desc).map (fun d => d.parameters.length) = some 0 := by decide +kernel
set_option maxHeartbeats 8000000 in
set_option maxRecDepth 100000 in
theorem c_X1_hasRow (l : Launch) (dC : Nat → ClassId) (dI : Nat → Nat → Nat) (cI cS : ClassId) (a_h : Nat) (a_h_cells : Nat) (h_lane : Int32) (h_length : Int32) (r : Int32) (h : f_X1_hasRow h_length = some r) : Mk l yX1_hasRow wsX1_hasRow ({ frames := 0, cells := 0, slots := 0, locals := 0 } : Room) (dC, dI) cI cS [(a_h, .inr (1, [.int h_lane, .int h_length, .ref a_h_cells]))] [.ref a_h] (some (.int r)) (r = 0 ∨ r = 1) (fun _ => True) noA := by
  refine Met.ofW (cc := cX1_hasRow) (maxL := 1) (ret := (some .boolean)) (by decide) rfl ?_
  intro p e s m args below meth c s₁ B hml hv
  obtain ⟨rfl, hP, hK, hN, hD⟩ := hv
  have hx := B.exec
  have hb := B.bytes
  have hr := B.returns
  have hts := atoms_spec (ws := wsX1_hasRow) B.pre
  have hown : s.vm.findClass RX1 = some m.cls := findClass_of_methodNamed B.named
  have hlocks := B.notSynchronized
  have hS : va_S noA s.heap s.heap [] := va_S.rf
  have hP : va_P (dC, dI) vwCl [(a_h, .inr (1, [.int h_lane, .int h_length, .ref a_h_cells]))] s.heap := hP
  have hl := lv_entry ([.ref a_h]) (n := 1) (Nat.le_of_ble_eq_true rfl)
  rw [lg_entry_eq]
  generalize (lg_sl ([.ref a_h]) ++ List.replicate (1 - (lg_sl ([.ref a_h])).length) Slot.unset).toArray = ls at hl ⊢
  have hl : lv_has ls 1 [(0, .ref a_h)] := hl
  unfold f_X1_hasRow at h
  refine lv_aload_n hx hb dX1_hasRow_0 rfl (lv_at hl 0 rfl) ?_
  refine va_get (D := (dC, dI)) (ci := 1) (v := .int h_length) (C := RX1) (T := TX1) (N := 3) hx hb hts kin_X1_hasRow_X1 hown hK hP 0 rfl rfl 1 (Nat.le_of_ble_eq_true rfl) (hts (.fieldLink RX1 15 "OwnedThings$Sheet" "length" "I") (List.mem_of_getElem? (i := 1) rfl)) (fun _ h9 => h9) rfl dX1_hasRow_1 ?_
  refine lv_iconst (v := -1) hx hb dX1_hasRow_4 (by decide) ?_
  refine lv_icmp_eq (tgt := 12) hx hb dX1_hasRow_5 (by decide) (fun c_5 => ?_) (fun c_5 => ?_)
  · have h := hp_pos c_5 h
    refine lv_iconst (v := 0) hx hb dX1_hasRow_12 (by decide) ?_
    obtain rfl := Option.some.inj h
    exact W.zret hx hb hr (nb01 (Or.inl rfl)) (fun t ht _ => kQ.mk ht trivial (Or.inl rfl) (hS.F ht)) hS.2.2 dX1_hasRow_13
  · have h := hp_neg c_5 h
    refine lv_iconst (v := 1) hx hb dX1_hasRow_8 (by decide) ?_
    refine lv_goto (tgt := 13) hx hb dX1_hasRow_9 (by decide) ?_
    obtain rfl := Option.some.inj h
    exact W.zret hx hb hr (nb01 (Or.inr rfl)) (fun t ht _ => kQ.mk ht trivial (Or.inr rfl) (hS.F ht)) hS.2.2 dX1_hasRow_13
theorem kin_X1_laneOf_X1 : ∀ w ∈ wsX10, w ∈ wsX1_laneOf := fun _ h => List.mem_cons_of_mem _ (List.mem_append_right _ h)
theorem khd_X1_laneOf : yX1_laneOf.cls = RX1 ∧ yX1_laneOf.cls ≠ "java/lang/invoke/MethodHandle" ∧ yX1_laneOf.cls ≠ "java/lang/invoke/VarHandle" ∧ (parseMethodDescriptor yX1_laneOf.desc).map (fun d => d.parameters.length) = some 0 := by decide +kernel
set_option maxHeartbeats 8000000 in
set_option maxRecDepth 100000 in
theorem c_X1_laneOf (l : Launch) (dC : Nat → ClassId) (dI : Nat → Nat → Nat) (cI cS : ClassId) (a_h : Nat) (a_h_cells : Nat) (h_lane : Int32) (h_length : Int32) (r : Int32) (h : f_X1_laneOf h_lane = some r) : Mk l yX1_laneOf wsX1_laneOf ({ frames := 0, cells := 0, slots := 0, locals := 0 } : Room) (dC, dI) cI cS [(a_h, .inr (1, [.int h_lane, .int h_length, .ref a_h_cells]))] [.ref a_h] (some (.int r)) True (fun _ => True) noA := by
  refine Met.ofW (cc := cX1_laneOf) (maxL := 1) (ret := (some .int)) (by decide) rfl ?_
  intro p e s m args below meth c s₁ B hml hv
  obtain ⟨rfl, hP, hK, hN, hD⟩ := hv
  have hx := B.exec
  have hb := B.bytes
  have hr := B.returns
  have hts := atoms_spec (ws := wsX1_laneOf) B.pre
  have hown : s.vm.findClass RX1 = some m.cls := findClass_of_methodNamed B.named
  have hlocks := B.notSynchronized
  have hS : va_S noA s.heap s.heap [] := va_S.rf
  have hP : va_P (dC, dI) vwCl [(a_h, .inr (1, [.int h_lane, .int h_length, .ref a_h_cells]))] s.heap := hP
  have hl := lv_entry ([.ref a_h]) (n := 1) (Nat.le_of_ble_eq_true rfl)
  rw [lg_entry_eq]
  generalize (lg_sl ([.ref a_h]) ++ List.replicate (1 - (lg_sl ([.ref a_h])).length) Slot.unset).toArray = ls at hl ⊢
  have hl : lv_has ls 1 [(0, .ref a_h)] := hl
  unfold f_X1_laneOf at h
  refine lv_aload_n hx hb dX1_laneOf_0 rfl (lv_at hl 0 rfl) ?_
  refine va_get (D := (dC, dI)) (ci := 1) (v := .int h_lane) (C := RX1) (T := TX1) (N := 3) hx hb hts kin_X1_laneOf_X1 hown hK hP 0 rfl rfl 0 (Nat.le_of_ble_eq_true rfl) (hts (.fieldLink RX1 9 "OwnedThings$Sheet" "lane" "I") (List.mem_of_getElem? (i := 1) rfl)) (fun _ h9 => h9) rfl dX1_laneOf_1 ?_
  obtain rfl := Option.some.inj h
  exact W.iret hx hb hr (fun t ht _ => kQ.mk ht trivial trivial (hS.F ht)) hS.2.2 dX1_laneOf_4
theorem kin_X1_hasCells_X1 : ∀ w ∈ wsX10, w ∈ wsX1_hasCells := fun _ h => List.mem_cons_of_mem _ (List.mem_append_right _ h)
theorem khd_X1_hasCells : yX1_hasCells.cls = RX1 ∧ yX1_hasCells.cls ≠ "java/lang/invoke/MethodHandle" ∧ yX1_hasCells.cls ≠ "java/lang/invoke/VarHandle" ∧ (parseMethodDescriptor yX1_hasCells.desc).map (fun d => d.parameters.length) = some 2 := by decide +kernel
set_option maxHeartbeats 8000000 in
set_option maxRecDepth 100000 in
theorem c_X1_hasCells (l : Launch) (dC : Nat → ClassId) (dI : Nat → Nat → Nat) (cI cS : ClassId) (a_h : Nat) (a_h_cells : Nat) (h_lane : Int32) (h_length : Int32) (x1 : Int32) (x2 : Int32) (r : Int32) (h : f_X1_hasCells h_length x1 x2 = some r) : Mk l yX1_hasCells wsX1_hasCells ({ frames := 0, cells := 0, slots := 0, locals := 0 } : Room) (dC, dI) cI cS [(a_h, .inr (1, [.int h_lane, .int h_length, .ref a_h_cells]))] [.ref a_h, .int x1, .int x2] (some (.int r)) (r = 0 ∨ r = 1) (fun _ => True) noA := by
  refine Met.ofW (cc := cX1_hasCells) (maxL := 3) (ret := (some .boolean)) (by decide) rfl ?_
  intro p e s m args below meth c s₁ B hml hv
  obtain ⟨rfl, hP, hK, hN, hD⟩ := hv
  have hx := B.exec
  have hb := B.bytes
  have hr := B.returns
  have hts := atoms_spec (ws := wsX1_hasCells) B.pre
  have hown : s.vm.findClass RX1 = some m.cls := findClass_of_methodNamed B.named
  have hlocks := B.notSynchronized
  have hS : va_S noA s.heap s.heap [] := va_S.rf
  have hP : va_P (dC, dI) vwCl [(a_h, .inr (1, [.int h_lane, .int h_length, .ref a_h_cells]))] s.heap := hP
  have hl := lv_entry ([.ref a_h, .int x1, .int x2]) (n := 3) (Nat.le_of_ble_eq_true rfl)
  rw [lg_entry_eq]
  generalize (lg_sl ([.ref a_h, .int x1, .int x2]) ++ List.replicate (3 - (lg_sl ([.ref a_h, .int x1, .int x2])).length) Slot.unset).toArray = ls at hl ⊢
  have hl : lv_has ls 3 [(0, .ref a_h), (1, .int x1), (2, .int x2)] := hl
  unfold f_X1_hasCells at h
  refine lv_iload_n hx hb dX1_hasCells_0 rfl (lv_at hl 1 rfl) ?_
  refine lv_if_lt (tgt := 30) hx hb dX1_hasCells_1 (by decide) (fun c_1 => ?_) (fun c_1 => ?_)
  · have h := hp_pos c_1 h
    refine lv_iconst (v := 0) hx hb dX1_hasCells_30 (by decide) ?_
    obtain rfl := Option.some.inj h
    exact W.zret hx hb hr (nb01 (Or.inl rfl)) (fun t ht _ => kQ.mk ht trivial (Or.inl rfl) (hS.F ht)) hS.2.2 dX1_hasCells_31
  · have h := hp_neg c_1 h
    refine lv_iload_n hx hb dX1_hasCells_4 rfl (lv_at hl 1 rfl) ?_
    refine lv_aload_n hx hb dX1_hasCells_5 rfl (lv_at hl 0 rfl) ?_
    refine va_get (D := (dC, dI)) (ci := 1) (v := .int h_length) (C := RX1) (T := TX1) (N := 3) hx hb hts kin_X1_hasCells_X1 hown hK hP 0 rfl rfl 1 (Nat.le_of_ble_eq_true rfl) (hts (.fieldLink RX1 15 "OwnedThings$Sheet" "length" "I") (List.mem_of_getElem? (i := 1) rfl)) (fun _ h9 => h9) rfl dX1_hasCells_6 ?_
    refine lv_icmp_gt (tgt := 30) hx hb dX1_hasCells_9 (by decide) (fun c_9 => ?_) (fun c_9 => ?_)
    · have h := hp_pos c_9 h
      refine lv_iconst (v := 0) hx hb dX1_hasCells_30 (by decide) ?_
      obtain rfl := Option.some.inj h
      exact W.zret hx hb hr (nb01 (Or.inl rfl)) (fun t ht _ => kQ.mk ht trivial (Or.inl rfl) (hS.F ht)) hS.2.2 dX1_hasCells_31
    · have h := hp_neg c_9 h
      refine lv_iload_n hx hb dX1_hasCells_12 rfl (lv_at hl 2 rfl) ?_
      refine lv_if_lt (tgt := 30) hx hb dX1_hasCells_13 (by decide) (fun c_13 => ?_) (fun c_13 => ?_)
      · have h := hp_pos c_13 h
        refine lv_iconst (v := 0) hx hb dX1_hasCells_30 (by decide) ?_
        obtain rfl := Option.some.inj h
        exact W.zret hx hb hr (nb01 (Or.inl rfl)) (fun t ht _ => kQ.mk ht trivial (Or.inl rfl) (hS.F ht)) hS.2.2 dX1_hasCells_31
      · have h := hp_neg c_13 h
        refine lv_iload_n hx hb dX1_hasCells_16 rfl (lv_at hl 2 rfl) ?_
        refine lv_aload_n hx hb dX1_hasCells_17 rfl (lv_at hl 0 rfl) ?_
        refine va_get (D := (dC, dI)) (ci := 1) (v := .int h_length) (C := RX1) (T := TX1) (N := 3) hx hb hts kin_X1_hasCells_X1 hown hK hP 0 rfl rfl 1 (Nat.le_of_ble_eq_true rfl) (hts (.fieldLink RX1 15 "OwnedThings$Sheet" "length" "I") (List.mem_of_getElem? (i := 1) rfl)) (fun _ h9 => h9) rfl dX1_hasCells_18 ?_
        refine lv_iload_n hx hb dX1_hasCells_21 rfl (lv_at hl 1 rfl) ?_
        refine lv_isub hx hb dX1_hasCells_22 ?_
        refine lv_icmp_gt (tgt := 30) hx hb dX1_hasCells_23 (by decide) (fun c_23 => ?_) (fun c_23 => ?_)
        · have h := hp_pos c_23 h
          refine lv_iconst (v := 0) hx hb dX1_hasCells_30 (by decide) ?_
          obtain rfl := Option.some.inj h
          exact W.zret hx hb hr (nb01 (Or.inl rfl)) (fun t ht _ => kQ.mk ht trivial (Or.inl rfl) (hS.F ht)) hS.2.2 dX1_hasCells_31
        · have h := hp_neg c_23 h
          refine lv_iconst (v := 1) hx hb dX1_hasCells_26 (by decide) ?_
          refine lv_goto (tgt := 31) hx hb dX1_hasCells_27 (by decide) ?_
          obtain rfl := Option.some.inj h
          exact W.zret hx hb hr (nb01 (Or.inr rfl)) (fun t ht _ => kQ.mk ht trivial (Or.inr rfl) (hS.F ht)) hS.2.2 dX1_hasCells_31
theorem kin_X1_rowFault_X1 : ∀ w ∈ wsX10, w ∈ wsX1_rowFault := fun _ h => List.mem_cons_of_mem _ (List.mem_append_right _ h)
theorem khd_X1_rowFault : yX1_rowFault.cls = RX1 ∧ yX1_rowFault.cls ≠ "java/lang/invoke/MethodHandle" ∧ yX1_rowFault.cls ≠ "java/lang/invoke/VarHandle" ∧ (parseMethodDescriptor yX1_rowFault.desc).map (fun d => d.parameters.length) = some 3 := by decide +kernel
set_option maxHeartbeats 8000000 in
set_option maxRecDepth 100000 in
theorem c_X1_rowFault (l : Launch) (dC : Nat → ClassId) (dI : Nat → Nat → Nat) (cI cS : ClassId) (a_h : Nat) (a_h_cells : Nat) (h_lane : Int32) (h_length : Int32) (x1 : Int32) (x2 : Int32) (x3 : Int32) (r : Int32) (h : f_X1_rowFault h_lane h_length x1 x2 x3 = some r) : Mk l yX1_rowFault wsX1_rowFault ({ frames := 1, cells := 0, slots := 0, locals := 22 } : Room) (dC, dI) cI cS [(a_h, .inr (1, [.int h_lane, .int h_length, .ref a_h_cells]))] [.ref a_h, .int x1, .int x2, .int x3] (some (.int r)) True (fun _ => True) noA := by
  refine Met.ofW (cc := cX1_rowFault) (maxL := 4) (ret := (some .int)) (by decide) rfl ?_
  intro p e s m args below meth c s₁ B hml hv
  obtain ⟨rfl, hP, hK, hN, hD⟩ := hv
  have hx := B.exec
  have hb := B.bytes
  have hr := B.returns
  have hts := atoms_spec (ws := wsX1_rowFault) B.pre
  have hown : s.vm.findClass RX1 = some m.cls := findClass_of_methodNamed B.named
  have hlocks := B.notSynchronized
  have hS : va_S noA s.heap s.heap [] := va_S.rf
  have hP : va_P (dC, dI) vwCl [(a_h, .inr (1, [.int h_lane, .int h_length, .ref a_h_cells]))] s.heap := hP
  have hl := lv_entry ([.ref a_h, .int x1, .int x2, .int x3]) (n := 4) (Nat.le_of_ble_eq_true rfl)
  rw [lg_entry_eq]
  generalize (lg_sl ([.ref a_h, .int x1, .int x2, .int x3]) ++ List.replicate (4 - (lg_sl ([.ref a_h, .int x1, .int x2, .int x3])).length) Slot.unset).toArray = ls at hl ⊢
  have hl : lv_has ls 4 [(0, .ref a_h), (1, .int x1), (2, .int x2), (3, .int x3)] := hl
  unfold f_X1_rowFault at h
  refine lv_aload_n hx hb dX1_rowFault_0 rfl (lv_at hl 0 rfl) ?_
  obtain ⟨r_1, e_1, h⟩ := ob1_inv h
  refine k_pVi (i0 := 0) (rest := []) ⟨hx, hb, hml, hown, hts⟩ (c_X1_hasRow l dC dI cI cS a_h a_h_cells h_lane h_length r_1 e_1) (cwV 0 hts gX1_rowFault_X1_hasRow rfl rfl rfl khd_X1_hasRow ⟨Nat.le_of_ble_eq_true rfl, Nat.le_of_ble_eq_true rfl⟩) hK hN hP (va_D_fst hD rfl) hS [0] rfl rfl rfl rfl rfl rfl hl.1 rfl (Nat.le_of_ble_eq_true rfl) dX1_rowFault_1 ⟨Nat.zero_le _, Nat.zero_le _⟩ (fun H locs hf_1 hP hS => ?_)
  refine lv_if_ne (tgt := 9) hx hb dX1_rowFault_4 (by decide) (fun c_4 => ?_) (fun c_4 => ?_)
  · have h := hp_neg c_4 h
    refine lv_aload_n hx hb dX1_rowFault_9 rfl (lv_at hl 0 rfl) ?_
    refine va_get (D := (dC, dI)) (ci := 1) (v := .int h_lane) (C := RX1) (T := TX1) (N := 3) hx hb hts kin_X1_rowFault_X1 hown hK hP 0 rfl rfl 0 (Nat.le_of_ble_eq_true rfl) (hts (.fieldLink RX1 9 "OwnedThings$Sheet" "lane" "I") (List.mem_of_getElem? (i := 1) rfl)) (fun _ h9 => h9) rfl dX1_rowFault_10 ?_
    refine lv_iload_n hx hb dX1_rowFault_13 rfl (lv_at hl 1 rfl) ?_
    refine lv_icmp_eq (tgt := 19) hx hb dX1_rowFault_14 (by decide) (fun c_14 => ?_) (fun c_14 => ?_)
    · have h := hp_pos c_14 h
      refine lv_iload_n hx hb dX1_rowFault_19 rfl (lv_at hl 3 rfl) ?_
      refine lv_if_ge (tgt := 25) hx hb dX1_rowFault_20 (by decide) (fun c_20 => ?_) (fun c_20 => ?_)
      · have h := hp_pos c_20 h
        refine lv_aload_n hx hb dX1_rowFault_25 rfl (lv_at hl 0 rfl) ?_
        refine lv_iload_n hx hb dX1_rowFault_26 rfl (lv_at hl 2 rfl) ?_
        refine lv_iload_n hx hb dX1_rowFault_27 rfl (lv_at hl 3 rfl) ?_
        obtain ⟨r_28, e_28, h⟩ := ob1_inv h
        refine k_pVi (i0 := 0) (rest := []) ⟨hx, hb, hml, hown, hts⟩ (c_X1_hasCells l dC dI cI cS a_h a_h_cells h_lane h_length x2 x3 r_28 e_28) (cwV 2 hts gX1_rowFault_X1_hasCells rfl rfl rfl khd_X1_hasCells ⟨Nat.le_of_ble_eq_true rfl, Nat.le_of_ble_eq_true rfl⟩) hK hN hP (va_D_fst hD rfl) hS [0] rfl rfl rfl rfl rfl rfl hl.1 rfl (Nat.le_of_ble_eq_true rfl) dX1_rowFault_28 ⟨Nat.zero_le _, Nat.zero_le _⟩ (fun H locs hf_28 hP hS => ?_)
        refine lv_if_eq (tgt := 38) hx hb dX1_rowFault_31 (by decide) (fun c_31 => ?_) (fun c_31 => ?_)
        · have h := hp_pos c_31 h
          refine lv_iconst (v := 3) hx hb dX1_rowFault_38 (by decide) ?_
          obtain rfl := Option.some.inj h
          exact W.iret hx hb hr (fun t ht _ => kQ.mk ht trivial trivial (hS.F ht)) hS.2.2 dX1_rowFault_39
        · have h := hp_neg c_31 h
          refine lv_iconst (v := 0) hx hb dX1_rowFault_34 (by decide) ?_
          refine lv_goto (tgt := 39) hx hb dX1_rowFault_35 (by decide) ?_
          obtain rfl := Option.some.inj h
          exact W.iret hx hb hr (fun t ht _ => kQ.mk ht trivial trivial (hS.F ht)) hS.2.2 dX1_rowFault_39
      · have h := hp_neg c_20 h
        refine lv_iconst (v := 4) hx hb dX1_rowFault_23 (by decide) ?_
        obtain rfl := Option.some.inj h
        exact W.iret hx hb hr (fun t ht _ => kQ.mk ht trivial trivial (hS.F ht)) hS.2.2 dX1_rowFault_24
    · have h := hp_neg c_14 h
      refine lv_iconst (v := 2) hx hb dX1_rowFault_17 (by decide) ?_
      obtain rfl := Option.some.inj h
      exact W.iret hx hb hr (fun t ht _ => kQ.mk ht trivial trivial (hS.F ht)) hS.2.2 dX1_rowFault_18
  · have h := hp_pos c_4 h
    refine lv_iconst (v := 1) hx hb dX1_rowFault_7 (by decide) ?_
    obtain rfl := Option.some.inj h
    exact W.iret hx hb hr (fun t ht _ => kQ.mk ht trivial trivial (hS.F ht)) hS.2.2 dX1_rowFault_8
theorem kin_X1_valueAt_X1 : ∀ w ∈ wsX10, w ∈ wsX1_valueAt := fun _ h => List.mem_cons_of_mem _ (List.mem_append_right _ h)
theorem khd_X1_valueAt : yX1_valueAt.cls = RX1 ∧ yX1_valueAt.cls ≠ "java/lang/invoke/MethodHandle" ∧ yX1_valueAt.cls ≠ "java/lang/invoke/VarHandle" ∧ (parseMethodDescriptor yX1_valueAt.desc).map (fun d => d.parameters.length) = some 1 := by decide +kernel
set_option maxHeartbeats 8000000 in
set_option maxRecDepth 100000 in
theorem c_X1_valueAt (l : Launch) (dC : Nat → ClassId) (dI : Nat → Nat → Nat) (cI cS : ClassId) (a_h : Nat) (a_h_cells : Nat) (h_lane : Int32) (h_length : Int32) (h_cells : Nat → Int32) (x1 : Int32) (r : Int32) (h : f_X1_valueAt h_length h_cells x1 = some r) : Mk l yX1_valueAt wsX1_valueAt ({ frames := 0, cells := 0, slots := 0, locals := 0 } : Room) (dC, dI) cI cS [(a_h, .inr (1, [.int h_lane, .int h_length, .ref a_h_cells])), (a_h_cells, .inl (cI, 60, .inl h_cells))] [.ref a_h, .int x1] (some (.int r)) True (fun _ => True) noA := by
  refine Met.ofW (cc := cX1_valueAt) (maxL := 2) (ret := (some .int)) (by decide) rfl ?_
  intro p e s m args below meth c s₁ B hml hv
  obtain ⟨rfl, hP, hK, hN, hD⟩ := hv
  have hx := B.exec
  have hb := B.bytes
  have hr := B.returns
  have hts := atoms_spec (ws := wsX1_valueAt) B.pre
  have hown : s.vm.findClass RX1 = some m.cls := findClass_of_methodNamed B.named
  have hlocks := B.notSynchronized
  have hS : va_S noA s.heap s.heap [] := va_S.rf
  have hP : va_P (dC, dI) vwCl [(a_h, .inr (1, [.int h_lane, .int h_length, .ref a_h_cells])), (a_h_cells, .inl (cI, 60, .inl h_cells))] s.heap := hP
  have hl := lv_entry ([.ref a_h, .int x1]) (n := 2) (Nat.le_of_ble_eq_true rfl)
  rw [lg_entry_eq]
  generalize (lg_sl ([.ref a_h, .int x1]) ++ List.replicate (2 - (lg_sl ([.ref a_h, .int x1])).length) Slot.unset).toArray = ls at hl ⊢
  have hl : lv_has ls 2 [(0, .ref a_h), (1, .int x1)] := hl
  unfold f_X1_valueAt at h
  refine lv_iload_n hx hb dX1_valueAt_0 rfl (lv_at hl 1 rfl) ?_
  refine lv_if_lt (tgt := 21) hx hb dX1_valueAt_1 (by decide) (fun c_1 => ?_) (fun c_1 => ?_)
  · have h := hp_pos c_1 h
    refine lv_iconst (v := 0) hx hb dX1_valueAt_21 (by decide) ?_
    obtain rfl := Option.some.inj h
    exact W.iret hx hb hr (fun t ht _ => kQ.mk ht trivial trivial (hS.F ht)) hS.2.2 dX1_valueAt_22
  · have h := hp_neg c_1 h
    refine lv_iload_n hx hb dX1_valueAt_4 rfl (lv_at hl 1 rfl) ?_
    refine lv_aload_n hx hb dX1_valueAt_5 rfl (lv_at hl 0 rfl) ?_
    refine va_get (D := (dC, dI)) (ci := 1) (v := .int h_length) (C := RX1) (T := TX1) (N := 3) hx hb hts kin_X1_valueAt_X1 hown hK hP 0 rfl rfl 1 (Nat.le_of_ble_eq_true rfl) (hts (.fieldLink RX1 15 "OwnedThings$Sheet" "length" "I") (List.mem_of_getElem? (i := 1) rfl)) (fun _ h9 => h9) rfl dX1_valueAt_6 ?_
    refine lv_icmp_ge (tgt := 21) hx hb dX1_valueAt_9 (by decide) (fun c_9 => ?_) (fun c_9 => ?_)
    · have h := hp_pos c_9 h
      refine lv_iconst (v := 0) hx hb dX1_valueAt_21 (by decide) ?_
      obtain rfl := Option.some.inj h
      exact W.iret hx hb hr (fun t ht _ => kQ.mk ht trivial trivial (hS.F ht)) hS.2.2 dX1_valueAt_22
    · have h := hp_neg c_9 h
      refine lv_aload_n hx hb dX1_valueAt_12 rfl (lv_at hl 0 rfl) ?_
      refine va_get (D := (dC, dI)) (ci := 1) (v := .ref a_h_cells) (C := RX1) (T := TX1) (N := 3) hx hb hts kin_X1_valueAt_X1 hown hK hP 0 rfl rfl 2 (Nat.le_of_ble_eq_true rfl) (hts (.fieldLink RX1 18 "OwnedThings$Sheet" "cells" "[I") (List.mem_of_getElem? (i := 2) rfl)) (fun _ h9 => h9) rfl dX1_valueAt_13 ?_
      refine lv_iload_n hx hb dX1_valueAt_16 rfl (lv_at hl 1 rfl) ?_
      have g_17 := hg_no h
      have h := hg_yes h
      refine va_iald (D := (dC, dI)) hx hb hK hP 1 0 rfl rfl g_17 dX1_valueAt_17 ?_
      refine lv_goto (tgt := 22) hx hb dX1_valueAt_18 (by decide) ?_
      obtain rfl := Option.some.inj h
      exact W.iret hx hb hr (fun t ht _ => kQ.mk ht trivial trivial (hS.F ht)) hS.2.2 dX1_valueAt_22
theorem kin_X1_cutToLane_X1 : ∀ w ∈ wsX10, w ∈ wsX1_cutToLane := fun _ h => List.mem_cons_of_mem _ (List.mem_append_right _ h)
theorem khd_X1_cutToLane : yX1_cutToLane.cls = RX1 ∧ yX1_cutToLane.cls ≠ "java/lang/invoke/MethodHandle" ∧ yX1_cutToLane.cls ≠ "java/lang/invoke/VarHandle" ∧ (parseMethodDescriptor yX1_cutToLane.desc).map (fun d => d.parameters.length) = some 1 := by decide +kernel
set_option maxHeartbeats 8000000 in
set_option maxRecDepth 100000 in
theorem c_X1_cutToLane (l : Launch) (dC : Nat → ClassId) (dI : Nat → Nat → Nat) (cI cS : ClassId) (a_h : Nat) (a_h_cells : Nat) (h_lane : Int32) (h_length : Int32) (x1 : Int32) (r : Int32) (h : f_X1_cutToLane h_lane x1 = some r) : Mk l yX1_cutToLane wsX1_cutToLane ({ frames := 0, cells := 0, slots := 0, locals := 0 } : Room) (dC, dI) cI cS [(a_h, .inr (1, [.int h_lane, .int h_length, .ref a_h_cells]))] [.ref a_h, .int x1] (some (.int r)) True (fun _ => True) noA := by
  refine Met.ofW (cc := cX1_cutToLane) (maxL := 2) (ret := (some .int)) (by decide) rfl ?_
  intro p e s m args below meth c s₁ B hml hv
  obtain ⟨rfl, hP, hK, hN, hD⟩ := hv
  have hx := B.exec
  have hb := B.bytes
  have hr := B.returns
  have hts := atoms_spec (ws := wsX1_cutToLane) B.pre
  have hown : s.vm.findClass RX1 = some m.cls := findClass_of_methodNamed B.named
  have hlocks := B.notSynchronized
  have hS : va_S noA s.heap s.heap [] := va_S.rf
  have hP : va_P (dC, dI) vwCl [(a_h, .inr (1, [.int h_lane, .int h_length, .ref a_h_cells]))] s.heap := hP
  have hl := lv_entry ([.ref a_h, .int x1]) (n := 2) (Nat.le_of_ble_eq_true rfl)
  rw [lg_entry_eq]
  generalize (lg_sl ([.ref a_h, .int x1]) ++ List.replicate (2 - (lg_sl ([.ref a_h, .int x1])).length) Slot.unset).toArray = ls at hl ⊢
  have hl : lv_has ls 2 [(0, .ref a_h), (1, .int x1)] := hl
  unfold f_X1_cutToLane at h
  refine lv_aload_n hx hb dX1_cutToLane_0 rfl (lv_at hl 0 rfl) ?_
  refine va_get (D := (dC, dI)) (ci := 1) (v := .int h_lane) (C := RX1) (T := TX1) (N := 3) hx hb hts kin_X1_cutToLane_X1 hown hK hP 0 rfl rfl 0 (Nat.le_of_ble_eq_true rfl) (hts (.fieldLink RX1 9 "OwnedThings$Sheet" "lane" "I") (List.mem_of_getElem? (i := 1) rfl)) (fun _ h9 => h9) rfl dX1_cutToLane_1 ?_
  by_cases s_4_0 : h_lane = (0 : Int32)
  · have h := hp_pos s_4_0 h
    refine lv_lookup (off := 28) (tgt := 32) hx hb dX1_cutToLane_4 (by decide) (by rw [s_4_0]; rfl) (by decide) ?_
    refine lv_iload_n hx hb dX1_cutToLane_32 rfl (lv_at hl 1 rfl) ?_
    refine lv_i2b (v := x1.toInt8.toInt32) hx hb dX1_cutToLane_33 rfl ?_
    obtain rfl := Option.some.inj h
    exact W.iret hx hb hr (fun t ht _ => kQ.mk ht trivial trivial (hS.F ht)) hS.2.2 dX1_cutToLane_34
  have h := hp_neg s_4_0 h
  by_cases s_4_1 : h_lane = (1 : Int32)
  · have h := hp_pos s_4_1 h
    refine lv_lookup (off := 31) (tgt := 35) hx hb dX1_cutToLane_4 (by decide) (by rw [s_4_1]; rfl) (by decide) ?_
    refine lv_iload_n hx hb dX1_cutToLane_35 rfl (lv_at hl 1 rfl) ?_
    refine lv_i2s (v := x1.toInt16.toInt32) hx hb dX1_cutToLane_36 rfl ?_
    obtain rfl := Option.some.inj h
    exact W.iret hx hb hr (fun t ht _ => kQ.mk ht trivial trivial (hS.F ht)) hS.2.2 dX1_cutToLane_37
  have h := hp_neg s_4_1 h
  refine lv_lookup (off := 34) (tgt := 38) hx hb dX1_cutToLane_4 (by decide) (by have q0 := ti_ne (z := 0) (by decide) s_4_0; have q1 := ti_ne (z := 1) (by decide) s_4_1; simp [Op.lookupswitch.offset, q0, Ne.symm q0, q1, Ne.symm q1]) (by decide) ?_
  refine lv_iload_n hx hb dX1_cutToLane_38 rfl (lv_at hl 1 rfl) ?_
  obtain rfl := Option.some.inj h
  exact W.iret hx hb hr (fun t ht _ => kQ.mk ht trivial trivial (hS.F ht)) hS.2.2 dX1_cutToLane_39
theorem kin_X1_setAt_X1 : ∀ w ∈ wsX10, w ∈ wsX1_setAt := fun _ h => List.mem_cons_of_mem _ (List.mem_append_right _ h)
theorem khd_X1_setAt : yX1_setAt.cls = RX1 ∧ yX1_setAt.cls ≠ "java/lang/invoke/MethodHandle" ∧ yX1_setAt.cls ≠ "java/lang/invoke/VarHandle" ∧ (parseMethodDescriptor yX1_setAt.desc).map (fun d => d.parameters.length) = some 2 := by decide +kernel
set_option maxHeartbeats 8000000 in
set_option maxRecDepth 100000 in
theorem c_X1_setAt (l : Launch) (dC : Nat → ClassId) (dI : Nat → Nat → Nat) (cI cS : ClassId) (a_h : Nat) (a_h_cells : Nat) (h_lane : Int32) (h_length : Int32) (h_cells : Nat → Int32) (x1 : Int32) (x2 : Int32) (z_h_cells : Nat → Int32) (h : f_X1_setAt h_lane h_length h_cells x1 x2 = some z_h_cells) : Mk l yX1_setAt wsX1_setAt ({ frames := 1, cells := 0, slots := 0, locals := 21 } : Room) (dC, dI) cI cS [(a_h, .inr (1, [.int h_lane, .int h_length, .ref a_h_cells])), (a_h_cells, .inl (cI, 60, .inl h_cells))] [.ref a_h, .int x1, .int x2] none True (fun H => va_P (dC, dI) vwCl [(a_h, .inr (1, [.int h_lane, .int h_length, .ref a_h_cells])), (a_h_cells, .inl (cI, 60, .inl z_h_cells))] H) (inA (List.map Prod.fst ([(a_h, .inr (1, [.int h_lane, .int h_length, .ref a_h_cells])), (a_h_cells, .inl (cI, 60, .inl h_cells))] : va_W))) := by
  refine Met.ofW (cc := cX1_setAt) (maxL := 3) (ret := none) (by decide) rfl ?_
  intro p e s m args below meth c s₁ B hml hv
  obtain ⟨rfl, hP, hK, hN, hD⟩ := hv
  have hx := B.exec
  have hb := B.bytes
  have hr := B.returns
  have hts := atoms_spec (ws := wsX1_setAt) B.pre
  have hown : s.vm.findClass RX1 = some m.cls := findClass_of_methodNamed B.named
  have hlocks := B.notSynchronized
  have hS : va_S (inA [a_h, a_h_cells]) s.heap s.heap [] := va_S.rf
  have hP : va_P (dC, dI) vwCl [(a_h, .inr (1, [.int h_lane, .int h_length, .ref a_h_cells])), (a_h_cells, .inl (cI, 60, .inl h_cells))] s.heap := hP
  have hD : va_D (inA [a_h, a_h_cells]) [(a_h, .inr (1, [.int h_lane, .int h_length, .ref a_h_cells])), (a_h_cells, .inl (cI, 60, .inl h_cells))] := va_D_in hD rfl
  have hl := lv_entry ([.ref a_h, .int x1, .int x2]) (n := 3) (Nat.le_of_ble_eq_true rfl)
  rw [lg_entry_eq]
  generalize (lg_sl ([.ref a_h, .int x1, .int x2]) ++ List.replicate (3 - (lg_sl ([.ref a_h, .int x1, .int x2])).length) Slot.unset).toArray = ls at hl ⊢
  have hl : lv_has ls 3 [(0, .ref a_h), (1, .int x1), (2, .int x2)] := hl
  unfold f_X1_setAt at h
  refine lv_iload_n hx hb dX1_setAt_0 rfl (lv_at hl 1 rfl) ?_
  refine lv_if_lt (tgt := 23) hx hb dX1_setAt_1 (by decide) (fun c_1 => ?_) (fun c_1 => ?_)
  · have h := hp_pos c_1 h
    obtain rfl := Option.some.inj h
    exact W.vret hx hb hr (fun t ht _ => kQ.mk ht hP trivial (hS.F ht)) hS.2.2 dX1_setAt_23
  · have h := hp_neg c_1 h
    refine lv_iload_n hx hb dX1_setAt_4 rfl (lv_at hl 1 rfl) ?_
    refine lv_aload_n hx hb dX1_setAt_5 rfl (lv_at hl 0 rfl) ?_
    refine va_get (D := (dC, dI)) (ci := 1) (v := .int h_length) (C := RX1) (T := TX1) (N := 3) hx hb hts kin_X1_setAt_X1 hown hK hP 0 rfl rfl 1 (Nat.le_of_ble_eq_true rfl) (hts (.fieldLink RX1 15 "OwnedThings$Sheet" "length" "I") (List.mem_of_getElem? (i := 1) rfl)) (fun _ h9 => h9) rfl dX1_setAt_6 ?_
    refine lv_icmp_ge (tgt := 23) hx hb dX1_setAt_9 (by decide) (fun c_9 => ?_) (fun c_9 => ?_)
    · have h := hp_pos c_9 h
      obtain rfl := Option.some.inj h
      exact W.vret hx hb hr (fun t ht _ => kQ.mk ht hP trivial (hS.F ht)) hS.2.2 dX1_setAt_23
    · have h := hp_neg c_9 h
      refine lv_aload_n hx hb dX1_setAt_12 rfl (lv_at hl 0 rfl) ?_
      refine va_get (D := (dC, dI)) (ci := 1) (v := .ref a_h_cells) (C := RX1) (T := TX1) (N := 3) hx hb hts kin_X1_setAt_X1 hown hK hP 0 rfl rfl 2 (Nat.le_of_ble_eq_true rfl) (hts (.fieldLink RX1 18 "OwnedThings$Sheet" "cells" "[I") (List.mem_of_getElem? (i := 2) rfl)) (fun _ h9 => h9) rfl dX1_setAt_13 ?_
      refine lv_iload_n hx hb dX1_setAt_16 rfl (lv_at hl 1 rfl) ?_
      refine lv_aload_n hx hb dX1_setAt_17 rfl (lv_at hl 0 rfl) ?_
      refine lv_iload_n hx hb dX1_setAt_18 rfl (lv_at hl 2 rfl) ?_
      obtain ⟨r_19, e_19, h⟩ := ob1_inv h
      refine k_pVi (i0 := 0) (rest := [.int x1, .ref a_h_cells]) ⟨hx, hb, hml, hown, hts⟩ (c_X1_cutToLane l dC dI cI cS a_h a_h_cells h_lane h_length x2 r_19 e_19) (cwV 1 hts gX1_setAt_X1_cutToLane rfl rfl rfl khd_X1_cutToLane ⟨Nat.le_of_ble_eq_true rfl, Nat.le_of_ble_eq_true rfl⟩) hK hN hP (va_D_fst hD rfl) hS [0] rfl rfl rfl rfl rfl rfl hl.1 rfl (Nat.le_of_ble_eq_true rfl) dX1_setAt_19 ⟨Nat.zero_le _, Nat.zero_le _⟩ (fun H locs hf_19 hP hS => ?_)
      have g_22 := hg_no h
      have h := hg_yes h
      refine va_iast (D := (dC, dI)) hx hb hK hP (va_D_fst hD rfl) hS 1 0 rfl rfl g_22 dX1_setAt_22 (fun H locs hP _ hS => ?_)
      have hP : va_P (dC, dI) vwCl [(a_h, .inr (1, [.int h_lane, .int h_length, .ref a_h_cells])), (a_h_cells, .inl (cI, 60, .inl (upd h_cells x1.toNatClampNeg r_19)))] H := hP
      obtain rfl := Option.some.inj h
      exact W.vret hx hb hr (fun t ht _ => kQ.mk ht hP trivial (hS.F ht)) hS.2.2 dX1_setAt_23
theorem kin_X2_codeHere_X2 : ∀ w ∈ wsX20, w ∈ wsX2_codeHere := fun _ h => List.mem_cons_of_mem _ (List.mem_append_left _ (List.mem_append_right _ h))
theorem kin_X2_codeHere_X1 : ∀ w ∈ wsX10, w ∈ wsX2_codeHere := fun _ h => List.mem_cons_of_mem _ (List.mem_append_right _ h)
theorem khd_X2_codeHere : yX2_codeHere.cls = RX2 ∧ yX2_codeHere.cls ≠ "java/lang/invoke/MethodHandle" ∧ yX2_codeHere.cls ≠ "java/lang/invoke/VarHandle" ∧ (parseMethodDescriptor yX2_codeHere.desc).map (fun d => d.parameters.length) = some 0 := by decide +kernel
set_option maxHeartbeats 8000000 in
set_option maxRecDepth 100000 in
theorem c_X2_codeHere (l : Launch) (dC : Nat → ClassId) (dI : Nat → Nat → Nat) (cI cS : ClassId) (a_rd : Nat) (a_h : Nat) (a_w : Nat) (a_h_cells : Nat) (rd_start : Int32) (rd_length : Int32) (rd_at : Int32) (h_lane : Int32) (h_length : Int32) (h_cells : Nat → Int32) (r : Int32) (h : f_X2_codeHere rd_start rd_length rd_at h_length h_cells = some r) : Mk l yX2_codeHere wsX2_codeHere ({ frames := 1, cells := 0, slots := 0, locals := 21 } : Room) (dC, dI) cI cS [(a_rd, .inr (2, [.ref a_h, .int rd_start, .int rd_length, .int rd_at, .ref a_w])), (a_h, .inr (1, [.int h_lane, .int h_length, .ref a_h_cells])), (a_h_cells, .inl (cI, 60, .inl h_cells))] [.ref a_rd] (some (.int r)) True (fun _ => True) noA := by
  refine Met.ofW (cc := cX2_codeHere) (maxL := 1) (ret := (some .int)) (by decide) rfl ?_
  intro p e s m args below meth c s₁ B hml hv
  obtain ⟨rfl, hP, hK, hN, hD⟩ := hv
  have hx := B.exec
  have hb := B.bytes
  have hr := B.returns
  have hts := atoms_spec (ws := wsX2_codeHere) B.pre
  have hown : s.vm.findClass RX2 = some m.cls := findClass_of_methodNamed B.named
  have hlocks := B.notSynchronized
  have hS : va_S noA s.heap s.heap [] := va_S.rf
  have hP : va_P (dC, dI) vwCl [(a_rd, .inr (2, [.ref a_h, .int rd_start, .int rd_length, .int rd_at, .ref a_w])), (a_h, .inr (1, [.int h_lane, .int h_length, .ref a_h_cells])), (a_h_cells, .inl (cI, 60, .inl h_cells))] s.heap := hP
  have hl := lv_entry ([.ref a_rd]) (n := 1) (Nat.le_of_ble_eq_true rfl)
  rw [lg_entry_eq]
  generalize (lg_sl ([.ref a_rd]) ++ List.replicate (1 - (lg_sl ([.ref a_rd])).length) Slot.unset).toArray = ls at hl ⊢
  have hl : lv_has ls 1 [(0, .ref a_rd)] := hl
  unfold f_X2_codeHere at h
  refine lv_aload_n hx hb dX2_codeHere_0 rfl (lv_at hl 0 rfl) ?_
  refine va_get (D := (dC, dI)) (ci := 2) (v := .int rd_at) (C := RX2) (T := TX2) (N := 5) hx hb hts kin_X2_codeHere_X2 hown hK hP 0 rfl rfl 3 (Nat.le_of_ble_eq_true rfl) (hts (.fieldLink RX2 22 "OwnedThings$TextReader" "at" "I") (List.mem_of_getElem? (i := 1) rfl)) (fun _ h9 => h9) rfl dX2_codeHere_1 ?_
  refine lv_aload_n hx hb dX2_codeHere_4 rfl (lv_at hl 0 rfl) ?_
  refine va_get (D := (dC, dI)) (ci := 2) (v := .int rd_length) (C := RX2) (T := TX2) (N := 5) hx hb hts kin_X2_codeHere_X2 hown hK hP 0 rfl rfl 2 (Nat.le_of_ble_eq_true rfl) (hts (.fieldLink RX2 19 "OwnedThings$TextReader" "length" "I") (List.mem_of_getElem? (i := 2) rfl)) (fun _ h9 => h9) rfl dX2_codeHere_5 ?_
  refine lv_icmp_ge (tgt := 30) hx hb dX2_codeHere_8 (by decide) (fun c_8 => ?_) (fun c_8 => ?_)
  · have h := hp_pos c_8 h
    refine lv_iconst (v := -1) hx hb dX2_codeHere_30 (by decide) ?_
    obtain rfl := Option.some.inj h
    exact W.iret hx hb hr (fun t ht _ => kQ.mk ht trivial trivial (hS.F ht)) hS.2.2 dX2_codeHere_31
  · have h := hp_neg c_8 h
    refine lv_aload_n hx hb dX2_codeHere_11 rfl (lv_at hl 0 rfl) ?_
    refine va_get (D := (dC, dI)) (ci := 2) (v := .ref a_h) (C := RX2) (T := TX2) (N := 5) hx hb hts kin_X2_codeHere_X2 hown hK hP 0 rfl rfl 0 (Nat.le_of_ble_eq_true rfl) (hts (.fieldLink RX2 9 "OwnedThings$TextReader" "row" "LOwnedThings$Sheet;") (List.mem_of_getElem? (i := 3) rfl)) (fun _ h9 => h9) rfl dX2_codeHere_12 ?_
    refine lv_aload_n hx hb dX2_codeHere_15 rfl (lv_at hl 0 rfl) ?_
    refine va_get (D := (dC, dI)) (ci := 2) (v := .int rd_start) (C := RX2) (T := TX2) (N := 5) hx hb hts kin_X2_codeHere_X2 hown hK hP 0 rfl rfl 1 (Nat.le_of_ble_eq_true rfl) (hts (.fieldLink RX2 15 "OwnedThings$TextReader" "start" "I") (List.mem_of_getElem? (i := 4) rfl)) (fun _ h9 => h9) rfl dX2_codeHere_16 ?_
    refine lv_aload_n hx hb dX2_codeHere_19 rfl (lv_at hl 0 rfl) ?_
    refine va_get (D := (dC, dI)) (ci := 2) (v := .int rd_at) (C := RX2) (T := TX2) (N := 5) hx hb hts kin_X2_codeHere_X2 hown hK hP 0 rfl rfl 3 (Nat.le_of_ble_eq_true rfl) (hts (.fieldLink RX2 22 "OwnedThings$TextReader" "at" "I") (List.mem_of_getElem? (i := 1) rfl)) (fun _ h9 => h9) rfl dX2_codeHere_20 ?_
    refine lv_iadd hx hb dX2_codeHere_23 ?_
    obtain ⟨r_24, e_24, h⟩ := ob1_inv h
    refine k_pVi (i0 := 1) (rest := []) ⟨hx, hb, hml, hown, hts⟩ (c_X1_valueAt l dC dI cI cS a_h a_h_cells h_lane h_length h_cells (rd_start + rd_at) r_24 e_24) (cwV 1 hts gX2_codeHere_X1_valueAt rfl rfl rfl khd_X1_valueAt ⟨Nat.le_of_ble_eq_true rfl, Nat.le_of_ble_eq_true rfl⟩) hK hN hP (va_D_fst hD rfl) hS [1, 2] rfl rfl rfl rfl rfl rfl hl.1 rfl (Nat.le_of_ble_eq_true rfl) dX2_codeHere_24 ⟨Nat.zero_le _, Nat.zero_le _⟩ (fun H locs hf_24 hP hS => ?_)
    refine lv_goto (tgt := 31) hx hb dX2_codeHere_27 (by decide) ?_
    obtain rfl := Option.some.inj h
    exact W.iret hx hb hr (fun t ht _ => kQ.mk ht trivial trivial (hS.F ht)) hS.2.2 dX2_codeHere_31
theorem kin_X2_isTaken_X2 : ∀ w ∈ wsX20, w ∈ wsX2_isTaken := fun _ h => List.mem_cons_of_mem _ (List.mem_append_left _ (List.mem_append_right _ h))
theorem kin_X2_isTaken_X1 : ∀ w ∈ wsX10, w ∈ wsX2_isTaken := fun _ h => List.mem_cons_of_mem _ (List.mem_append_right _ h)
theorem khd_X2_isTaken : yX2_isTaken.cls = RX2 ∧ yX2_isTaken.cls ≠ "java/lang/invoke/MethodHandle" ∧ yX2_isTaken.cls ≠ "java/lang/invoke/VarHandle" ∧ (parseMethodDescriptor yX2_isTaken.desc).map (fun d => d.parameters.length) = some 1 := by decide +kernel
set_option maxHeartbeats 8000000 in
set_option maxRecDepth 100000 in
theorem c_X2_isTaken (l : Launch) (dC : Nat → ClassId) (dI : Nat → Nat → Nat) (cI cS : ClassId) (a_rd : Nat) (a_h : Nat) (a_w : Nat) (a_h_cells : Nat) (rd_start : Int32) (rd_length : Int32) (rd_at : Int32) (h_lane : Int32) (h_length : Int32) (h_cells : Nat → Int32) (x1 : Int32) (r : Int32) (z_rd_at : Int32) (h : f_X2_isTaken rd_start rd_length rd_at h_length h_cells x1 = some (r, z_rd_at)) : Mk l yX2_isTaken wsX2_isTaken ({ frames := 2, cells := 0, slots := 0, locals := 41 } : Room) (dC, dI) cI cS [(a_rd, .inr (2, [.ref a_h, .int rd_start, .int rd_length, .int rd_at, .ref a_w])), (a_h, .inr (1, [.int h_lane, .int h_length, .ref a_h_cells])), (a_h_cells, .inl (cI, 60, .inl h_cells))] [.ref a_rd, .int x1] (some (.int r)) (r = 0 ∨ r = 1) (fun H => va_P (dC, dI) vwCl [(a_rd, .inr (2, [.ref a_h, .int rd_start, .int rd_length, .int z_rd_at, .ref a_w])), (a_h, .inr (1, [.int h_lane, .int h_length, .ref a_h_cells])), (a_h_cells, .inl (cI, 60, .inl h_cells))] H) (inA (List.map Prod.fst ([(a_rd, .inr (2, [.ref a_h, .int rd_start, .int rd_length, .int rd_at, .ref a_w])), (a_h, .inr (1, [.int h_lane, .int h_length, .ref a_h_cells])), (a_h_cells, .inl (cI, 60, .inl h_cells))] : va_W))) := by
  refine Met.ofW (cc := cX2_isTaken) (maxL := 2) (ret := (some .boolean)) (by decide) rfl ?_
  intro p e s m args below meth c s₁ B hml hv
  obtain ⟨rfl, hP, hK, hN, hD⟩ := hv
  have hx := B.exec
  have hb := B.bytes
  have hr := B.returns
  have hts := atoms_spec (ws := wsX2_isTaken) B.pre
  have hown : s.vm.findClass RX2 = some m.cls := findClass_of_methodNamed B.named
  have hlocks := B.notSynchronized
  have hS : va_S (inA [a_rd, a_h, a_h_cells]) s.heap s.heap [] := va_S.rf
  have hP : va_P (dC, dI) vwCl [(a_rd, .inr (2, [.ref a_h, .int rd_start, .int rd_length, .int rd_at, .ref a_w])), (a_h, .inr (1, [.int h_lane, .int h_length, .ref a_h_cells])), (a_h_cells, .inl (cI, 60, .inl h_cells))] s.heap := hP
  have hD : va_D (inA [a_rd, a_h, a_h_cells]) [(a_rd, .inr (2, [.ref a_h, .int rd_start, .int rd_length, .int rd_at, .ref a_w])), (a_h, .inr (1, [.int h_lane, .int h_length, .ref a_h_cells])), (a_h_cells, .inl (cI, 60, .inl h_cells))] := va_D_in hD rfl
  have hl := lv_entry ([.ref a_rd, .int x1]) (n := 2) (Nat.le_of_ble_eq_true rfl)
  rw [lg_entry_eq]
  generalize (lg_sl ([.ref a_rd, .int x1]) ++ List.replicate (2 - (lg_sl ([.ref a_rd, .int x1])).length) Slot.unset).toArray = ls at hl ⊢
  have hl : lv_has ls 2 [(0, .ref a_rd), (1, .int x1)] := hl
  unfold f_X2_isTaken at h
  refine lv_aload_n hx hb dX2_isTaken_0 rfl (lv_at hl 0 rfl) ?_
  obtain ⟨r_1, e_1, h⟩ := ob1_inv h
  refine k_pVi (i0 := 0) (rest := []) ⟨hx, hb, hml, hown, hts⟩ (c_X2_codeHere l dC dI cI cS a_rd a_h a_w a_h_cells rd_start rd_length rd_at h_lane h_length h_cells r_1 e_1) (cwV 0 hts gX2_isTaken_X2_codeHere rfl rfl rfl khd_X2_codeHere ⟨Nat.le_of_ble_eq_true rfl, Nat.le_of_ble_eq_true rfl⟩) hK hN hP (va_D_fst hD rfl) hS [0, 1, 2] rfl rfl rfl rfl rfl rfl hl.1 rfl (Nat.le_of_ble_eq_true rfl) dX2_isTaken_1 ⟨Nat.zero_le _, Nat.zero_le _⟩ (fun H locs hf_1 hP hS => ?_)
  refine lv_iload_n hx hb dX2_isTaken_4 rfl (lv_at hl 1 rfl) ?_
  refine lv_icmp_eq (tgt := 10) hx hb dX2_isTaken_5 (by decide) (fun c_5 => ?_) (fun c_5 => ?_)
  · have h := hp_pos c_5 h
    refine lv_aload_n hx hb dX2_isTaken_10 rfl (lv_at hl 0 rfl) ?_
    refine lv_dup hx hb dX2_isTaken_11 rfl ?_
    refine va_get (D := (dC, dI)) (ci := 2) (v := .int rd_at) (C := RX2) (T := TX2) (N := 5) hx hb hts kin_X2_isTaken_X2 hown hK hP 0 rfl rfl 3 (Nat.le_of_ble_eq_true rfl) (hts (.fieldLink RX2 22 "OwnedThings$TextReader" "at" "I") (List.mem_of_getElem? (i := 1) rfl)) (fun _ h9 => h9) rfl dX2_isTaken_12 ?_
    refine lv_iconst (v := 1) hx hb dX2_isTaken_15 (by decide) ?_
    refine lv_iadd hx hb dX2_isTaken_16 ?_
    refine va_put (D := (dC, dI)) (ci := 2) (v := .int (rd_at + (1 : Int32))) (C := RX2) (T := TX2) (N := 5) hx hb hts kin_X2_isTaken_X2 tyX2 tyX2_ok nmX2 hown hK hP (va_D_fst hD rfl) hS 0 rfl rfl 3 (Nat.le_of_ble_eq_true rfl) (hts (.fieldLink RX2 22 "OwnedThings$TextReader" "at" "I") (List.mem_of_getElem? (i := 1) rfl)) (fun _ h9 => h9) rfl (tyX2_ok 3 (Nat.le_of_ble_eq_true rfl)) rfl rfl (Nat.le_of_ble_eq_true rfl) dX2_isTaken_17 (fun H locs hP _ hS => ?_)
    have hP : va_P (dC, dI) vwCl [(a_rd, .inr (2, [.ref a_h, .int rd_start, .int rd_length, .int (rd_at + (1 : Int32)), .ref a_w])), (a_h, .inr (1, [.int h_lane, .int h_length, .ref a_h_cells])), (a_h_cells, .inl (cI, 60, .inl h_cells))] H := hP
    refine lv_iconst (v := 1) hx hb dX2_isTaken_20 (by decide) ?_
    obtain ⟨rfl, rfl⟩ := pj2 (Option.some.inj h)
    exact W.zret hx hb hr (nb01 (Or.inr rfl)) (fun t ht _ => kQ.mk ht hP (Or.inr rfl) (hS.F ht)) hS.2.2 dX2_isTaken_21
  · have h := hp_neg c_5 h
    refine lv_iconst (v := 0) hx hb dX2_isTaken_8 (by decide) ?_
    obtain ⟨rfl, rfl⟩ := pj2 (Option.some.inj h)
    exact W.zret hx hb hr (nb01 (Or.inl rfl)) (fun t ht _ => kQ.mk ht hP (Or.inl rfl) (hS.F ht)) hS.2.2 dX2_isTaken_9
theorem kin_X2_ownerHere_X2 : ∀ w ∈ wsX20, w ∈ wsX2_ownerHere := fun _ h => List.mem_cons_of_mem _ (List.mem_append_left _ (List.mem_append_left _ (List.mem_append_right _ h)))
theorem kin_X2_ownerHere_X1 : ∀ w ∈ wsX10, w ∈ wsX2_ownerHere := fun _ h => List.mem_cons_of_mem _ (List.mem_append_left _ (List.mem_append_right _ h))
theorem kin_X2_ownerHere_X3 : ∀ w ∈ wsX30, w ∈ wsX2_ownerHere := fun _ h => List.mem_cons_of_mem _ (List.mem_append_right _ h)
theorem khd_X2_ownerHere : yX2_ownerHere.cls = RX2 ∧ yX2_ownerHere.cls ≠ "java/lang/invoke/MethodHandle" ∧ yX2_ownerHere.cls ≠ "java/lang/invoke/VarHandle" ∧ (parseMethodDescriptor yX2_ownerHere.desc).map (fun d => d.parameters.length) = some 0 := by decide +kernel
set_option maxHeartbeats 8000000 in
set_option maxRecDepth 100000 in
theorem c_X2_ownerHere (l : Launch) (dC : Nat → ClassId) (dI : Nat → Nat → Nat) (cI cS : ClassId) (a_rd : Nat) (a_h : Nat) (a_w : Nat) (a_h_cells : Nat) (a_w_kind : Nat) (a_w_owner : Nat) (a_w_from : Nat) (a_w_to : Nat) (a_w_away : Nat) (rd_start : Int32) (rd_length : Int32) (rd_at : Int32) (h_lane : Int32) (h_length : Int32) (h_cells : Nat → Int32) (w_count : Int32) (w_references : Int32) (r : Int32) (h : f_X2_ownerHere rd_start rd_length rd_at h_length h_cells w_count = some r) : Mk l yX2_ownerHere wsX2_ownerHere ({ frames := 2, cells := 0, slots := 0, locals := 41 } : Room) (dC, dI) cI cS [(a_rd, .inr (2, [.ref a_h, .int rd_start, .int rd_length, .int rd_at, .ref a_w])), (a_h, .inr (1, [.int h_lane, .int h_length, .ref a_h_cells])), (a_h_cells, .inl (cI, 60, .inl h_cells)), (a_w, .inr (3, [.int w_count, .int w_references, .ref a_w_kind, .ref a_w_owner, .ref a_w_from, .ref a_w_to, .ref a_w_away]))] [.ref a_rd] (some (.int r)) True (fun _ => True) noA := by
  refine Met.ofW (cc := cX2_ownerHere) (maxL := 2) (ret := (some .int)) (by decide) rfl ?_
  intro p e s m args below meth c s₁ B hml hv
  obtain ⟨rfl, hP, hK, hN, hD⟩ := hv
  have hx := B.exec
  have hb := B.bytes
  have hr := B.returns
  have hts := atoms_spec (ws := wsX2_ownerHere) B.pre
  have hown : s.vm.findClass RX2 = some m.cls := findClass_of_methodNamed B.named
  have hlocks := B.notSynchronized
  have hS : va_S noA s.heap s.heap [] := va_S.rf
  have hP : va_P (dC, dI) vwCl [(a_rd, .inr (2, [.ref a_h, .int rd_start, .int rd_length, .int rd_at, .ref a_w])), (a_h, .inr (1, [.int h_lane, .int h_length, .ref a_h_cells])), (a_h_cells, .inl (cI, 60, .inl h_cells)), (a_w, .inr (3, [.int w_count, .int w_references, .ref a_w_kind, .ref a_w_owner, .ref a_w_from, .ref a_w_to, .ref a_w_away]))] s.heap := hP
  have hl := lv_entry ([.ref a_rd]) (n := 2) (Nat.le_of_ble_eq_true rfl)
  rw [lg_entry_eq]
  generalize (lg_sl ([.ref a_rd]) ++ List.replicate (2 - (lg_sl ([.ref a_rd])).length) Slot.unset).toArray = ls at hl ⊢
  have hl : lv_has ls 2 [(0, .ref a_rd)] := hl
  unfold f_X2_ownerHere at h
  refine lv_aload_n hx hb dX2_ownerHere_0 rfl (lv_at hl 0 rfl) ?_
  obtain ⟨r_1, e_1, h⟩ := ob1_inv h
  refine k_pVi (i0 := 0) (rest := []) ⟨hx, hb, hml, hown, hts⟩ (c_X2_codeHere l dC dI cI cS a_rd a_h a_w a_h_cells rd_start rd_length rd_at h_lane h_length h_cells r_1 e_1) (cwV 0 hts gX2_ownerHere_X2_codeHere rfl rfl rfl khd_X2_codeHere ⟨Nat.le_of_ble_eq_true rfl, Nat.le_of_ble_eq_true rfl⟩) hK hN hP (va_D_fst hD rfl) hS [0, 1, 2] rfl rfl rfl rfl rfl rfl hl.1 rfl (Nat.le_of_ble_eq_true rfl) dX2_ownerHere_1 ⟨Nat.zero_le _, Nat.zero_le _⟩ (fun H locs hf_1 hP hS => ?_)
  refine lv_istore_n (lv' := [(1, .int r_1), (0, .ref a_rd)]) hx hb dX2_ownerHere_4 rfl hl (by decide) rfl (fun ls hl => ?_)
  refine lv_iload_n hx hb dX2_ownerHere_5 rfl (lv_at hl 0 rfl) ?_
  refine lv_bipush (v := 119) hx hb dX2_ownerHere_6 (by decide) ?_
  refine lv_icmp_ne (tgt := 14) hx hb dX2_ownerHere_8 (by decide) (fun c_8 => ?_) (fun c_8 => ?_)
  · have h := hp_neg c_8 h
    refine lv_aload_n hx hb dX2_ownerHere_14 rfl (lv_at hl 1 rfl) ?_
    refine va_get (D := (dC, dI)) (ci := 2) (v := .ref a_w) (C := RX2) (T := TX2) (N := 5) hx hb hts kin_X2_ownerHere_X2 hown hK hP 0 rfl rfl 4 (Nat.le_of_ble_eq_true rfl) (hts (.fieldLink RX2 25 "OwnedThings$TextReader" "web" "LOwnedThings$Web;") (List.mem_of_getElem? (i := 1) rfl)) (fun _ h9 => h9) rfl dX2_ownerHere_15 ?_
    refine lv_iload_n hx hb dX2_ownerHere_18 rfl (lv_at hl 0 rfl) ?_
    refine lv_bipush (v := 48) hx hb dX2_ownerHere_19 (by decide) ?_
    refine lv_isub hx hb dX2_ownerHere_21 ?_
    obtain ⟨r_22, e_22, h⟩ := ob1_inv h
    refine k_pVi (i0 := 3) (rest := []) ⟨hx, hb, hml, hown, hts⟩ (c_X3_isThing l dC dI cI cS a_w a_w_kind a_w_owner a_w_from a_w_to a_w_away w_count w_references (r_1 - (48 : Int32)) r_22 e_22) (cwV 1 hts gX2_ownerHere_X3_isThing rfl rfl rfl khd_X3_isThing ⟨Nat.le_of_ble_eq_true rfl, Nat.le_of_ble_eq_true rfl⟩) hK hN hP (va_D_fst hD rfl) hS [3] rfl rfl rfl rfl rfl rfl hl.1 rfl (Nat.le_of_ble_eq_true rfl) dX2_ownerHere_22 ⟨Nat.zero_le _, Nat.zero_le _⟩ (fun H locs hf_22 hP hS => ?_)
    refine lv_if_eq (tgt := 35) hx hb dX2_ownerHere_25 (by decide) (fun c_25 => ?_) (fun c_25 => ?_)
    · have h := hp_pos c_25 h
      refine lv_bipush (v := -9) hx hb dX2_ownerHere_35 (by decide) ?_
      obtain rfl := Option.some.inj h
      exact W.iret hx hb hr (fun t ht _ => kQ.mk ht trivial trivial (hS.F ht)) hS.2.2 dX2_ownerHere_37
    · have h := hp_neg c_25 h
      refine lv_iload_n hx hb dX2_ownerHere_28 rfl (lv_at hl 0 rfl) ?_
      refine lv_bipush (v := 48) hx hb dX2_ownerHere_29 (by decide) ?_
      refine lv_isub hx hb dX2_ownerHere_31 ?_
      refine lv_goto (tgt := 37) hx hb dX2_ownerHere_32 (by decide) ?_
      obtain rfl := Option.some.inj h
      exact W.iret hx hb hr (fun t ht _ => kQ.mk ht trivial trivial (hS.F ht)) hS.2.2 dX2_ownerHere_37
  · have h := hp_pos c_8 h
    refine lv_bipush (v := 6) hx hb dX2_ownerHere_11 (by decide) ?_
    obtain rfl := Option.some.inj h
    exact W.iret hx hb hr (fun t ht _ => kQ.mk ht trivial trivial (hS.F ht)) hS.2.2 dX2_ownerHere_13
theorem kin_X2_isReferenceRead_X2 : ∀ w ∈ wsX20, w ∈ wsX2_isReferenceRead := fun _ h => List.mem_cons_of_mem _ (List.mem_append_left _ (List.mem_append_left _ (List.mem_append_right _ h)))
theorem kin_X2_isReferenceRead_X1 : ∀ w ∈ wsX10, w ∈ wsX2_isReferenceRead := fun _ h => List.mem_cons_of_mem _ (List.mem_append_left _ (List.mem_append_right _ h))
theorem kin_X2_isReferenceRead_X3 : ∀ w ∈ wsX30, w ∈ wsX2_isReferenceRead := fun _ h => List.mem_cons_of_mem _ (List.mem_append_right _ h)
theorem khd_X2_isReferenceRead : yX2_isReferenceRead.cls = RX2 ∧ yX2_isReferenceRead.cls ≠ "java/lang/invoke/MethodHandle" ∧ yX2_isReferenceRead.cls ≠ "java/lang/invoke/VarHandle" ∧ (parseMethodDescriptor yX2_isReferenceRead.desc).map (fun d => d.parameters.length) = some 0 := by decide +kernel
set_option maxHeartbeats 8000000 in
set_option maxRecDepth 100000 in
theorem c_X2_isReferenceRead (l : Launch) (dC : Nat → ClassId) (dI : Nat → Nat → Nat) (cI cS : ClassId) (a_rd : Nat) (a_h : Nat) (a_w : Nat) (a_h_cells : Nat) (a_w_kind : Nat) (a_w_owner : Nat) (a_w_from : Nat) (a_w_to : Nat) (a_w_away : Nat) (rd_start : Int32) (rd_length : Int32) (rd_at : Int32) (h_lane : Int32) (h_length : Int32) (h_cells : Nat → Int32) (w_count : Int32) (w_references : Int32) (w_from : Nat → Int32) (w_to : Nat → Int32) (r : Int32) (z_rd_at : Int32) (z_w_references : Int32) (z_w_from : Nat → Int32) (z_w_to : Nat → Int32) (h : f_X2_isReferenceRead rd_start rd_length rd_at h_length h_cells w_count w_references w_from w_to = some (r, z_rd_at, z_w_references, z_w_from, z_w_to)) : Mk l yX2_isReferenceRead wsX2_isReferenceRead ({ frames := 3, cells := 0, slots := 0, locals := 62 } : Room) (dC, dI) cI cS [(a_rd, .inr (2, [.ref a_h, .int rd_start, .int rd_length, .int rd_at, .ref a_w])), (a_h, .inr (1, [.int h_lane, .int h_length, .ref a_h_cells])), (a_h_cells, .inl (cI, 60, .inl h_cells)), (a_w, .inr (3, [.int w_count, .int w_references, .ref a_w_kind, .ref a_w_owner, .ref a_w_from, .ref a_w_to, .ref a_w_away])), (a_w_from, .inl (cI, 12, .inl w_from)), (a_w_to, .inl (cI, 12, .inl w_to))] [.ref a_rd] (some (.int r)) (r = 0 ∨ r = 1) (fun H => va_P (dC, dI) vwCl [(a_rd, .inr (2, [.ref a_h, .int rd_start, .int rd_length, .int z_rd_at, .ref a_w])), (a_h, .inr (1, [.int h_lane, .int h_length, .ref a_h_cells])), (a_h_cells, .inl (cI, 60, .inl h_cells)), (a_w, .inr (3, [.int w_count, .int z_w_references, .ref a_w_kind, .ref a_w_owner, .ref a_w_from, .ref a_w_to, .ref a_w_away])), (a_w_from, .inl (cI, 12, .inl z_w_from)), (a_w_to, .inl (cI, 12, .inl z_w_to))] H) (inA (List.map Prod.fst ([(a_rd, .inr (2, [.ref a_h, .int rd_start, .int rd_length, .int rd_at, .ref a_w])), (a_h, .inr (1, [.int h_lane, .int h_length, .ref a_h_cells])), (a_h_cells, .inl (cI, 60, .inl h_cells)), (a_w, .inr (3, [.int w_count, .int w_references, .ref a_w_kind, .ref a_w_owner, .ref a_w_from, .ref a_w_to, .ref a_w_away])), (a_w_from, .inl (cI, 12, .inl w_from)), (a_w_to, .inl (cI, 12, .inl w_to))] : va_W))) := by
  refine Met.ofW (cc := cX2_isReferenceRead) (maxL := 3) (ret := (some .boolean)) (by decide) rfl ?_
  intro p e s m args below meth c s₁ B hml hv
  obtain ⟨rfl, hP, hK, hN, hD⟩ := hv
  have hx := B.exec
  have hb := B.bytes
  have hr := B.returns
  have hts := atoms_spec (ws := wsX2_isReferenceRead) B.pre
  have hown : s.vm.findClass RX2 = some m.cls := findClass_of_methodNamed B.named
  have hlocks := B.notSynchronized
  have hS : va_S (inA [a_rd, a_h, a_h_cells, a_w, a_w_from, a_w_to]) s.heap s.heap [] := va_S.rf
  have hP : va_P (dC, dI) vwCl [(a_rd, .inr (2, [.ref a_h, .int rd_start, .int rd_length, .int rd_at, .ref a_w])), (a_h, .inr (1, [.int h_lane, .int h_length, .ref a_h_cells])), (a_h_cells, .inl (cI, 60, .inl h_cells)), (a_w, .inr (3, [.int w_count, .int w_references, .ref a_w_kind, .ref a_w_owner, .ref a_w_from, .ref a_w_to, .ref a_w_away])), (a_w_from, .inl (cI, 12, .inl w_from)), (a_w_to, .inl (cI, 12, .inl w_to))] s.heap := hP
  have hD : va_D (inA [a_rd, a_h, a_h_cells, a_w, a_w_from, a_w_to]) [(a_rd, .inr (2, [.ref a_h, .int rd_start, .int rd_length, .int rd_at, .ref a_w])), (a_h, .inr (1, [.int h_lane, .int h_length, .ref a_h_cells])), (a_h_cells, .inl (cI, 60, .inl h_cells)), (a_w, .inr (3, [.int w_count, .int w_references, .ref a_w_kind, .ref a_w_owner, .ref a_w_from, .ref a_w_to, .ref a_w_away])), (a_w_from, .inl (cI, 12, .inl w_from)), (a_w_to, .inl (cI, 12, .inl w_to))] := va_D_in hD rfl
  have hl := lv_entry ([.ref a_rd]) (n := 3) (Nat.le_of_ble_eq_true rfl)
  rw [lg_entry_eq]
  generalize (lg_sl ([.ref a_rd]) ++ List.replicate (3 - (lg_sl ([.ref a_rd])).length) Slot.unset).toArray = ls at hl ⊢
  have hl : lv_has ls 3 [(0, .ref a_rd)] := hl
  unfold f_X2_isReferenceRead at h
  refine lv_aload_n hx hb dX2_isReferenceRead_0 rfl (lv_at hl 0 rfl) ?_
  refine lv_bipush (v := 44) hx hb dX2_isReferenceRead_1 (by decide) ?_
  obtain ⟨r_3, r_3_at, e_3, h⟩ := ob2_inv h
  refine k_wVi (i0 := 0) (rest := []) (ws' := [(a_rd, .inr (2, [.ref a_h, .int rd_start, .int rd_length, .int r_3_at, .ref a_w])), (a_h, .inr (1, [.int h_lane, .int h_length, .ref a_h_cells])), (a_h_cells, .inl (cI, 60, .inl h_cells)), (a_w, .inr (3, [.int w_count, .int w_references, .ref a_w_kind, .ref a_w_owner, .ref a_w_from, .ref a_w_to, .ref a_w_away])), (a_w_from, .inl (cI, 12, .inl w_from)), (a_w_to, .inl (cI, 12, .inl w_to))]) ⟨hx, hb, hml, hown, hts⟩ (c_X2_isTaken l dC dI cI cS a_rd a_h a_w a_h_cells rd_start rd_length rd_at h_lane h_length h_cells (44 : Int32) r_3 r_3_at e_3) (cwV 1 hts gX2_isReferenceRead_X2_isTaken rfl rfl rfl khd_X2_isTaken ⟨Nat.le_of_ble_eq_true rfl, Nat.le_of_ble_eq_true rfl⟩) hK hN hP (va_D_fst hD rfl) hS [0, 1, 2] rfl rfl rfl rfl rfl rfl hl.1 rfl (Nat.le_of_ble_eq_true rfl) dX2_isReferenceRead_3 ⟨Nat.zero_le _, Nat.zero_le _⟩ rfl rfl (fun H locs hf_3 hP hS => ?_)
  refine lv_if_ne (tgt := 11) hx hb dX2_isReferenceRead_6 (by decide) (fun c_6 => ?_) (fun c_6 => ?_)
  · have h := hp_neg c_6 h
    refine lv_aload_n hx hb dX2_isReferenceRead_11 rfl (lv_at hl 0 rfl) ?_
    obtain ⟨r_12, e_12, h⟩ := ob1_inv h
    refine k_pVi (i0 := 0) (rest := []) ⟨hx, hb, hml, hown, hts⟩ (c_X2_ownerHere l dC dI cI cS a_rd a_h a_w a_h_cells a_w_kind a_w_owner a_w_from a_w_to a_w_away rd_start rd_length r_3_at h_lane h_length h_cells w_count w_references r_12 e_12) (cwV 0 hts gX2_isReferenceRead_X2_ownerHere rfl rfl rfl khd_X2_ownerHere ⟨Nat.le_of_ble_eq_true rfl, Nat.le_of_ble_eq_true rfl⟩) hK hN hP (va_D_fst hD rfl) hS [0, 1, 2, 3] rfl rfl rfl rfl rfl rfl hl.1 rfl (Nat.le_of_ble_eq_true rfl) dX2_isReferenceRead_12 ⟨Nat.zero_le _, Nat.zero_le _⟩ (fun H locs hf_12 hP hS => ?_)
    refine lv_istore_n (lv' := [(1, .int r_12), (0, .ref a_rd)]) hx hb dX2_isReferenceRead_15 rfl hl (by decide) rfl (fun ls hl => ?_)
    refine lv_iload_n hx hb dX2_isReferenceRead_16 rfl (lv_at hl 0 rfl) ?_
    refine lv_bipush (v := -9) hx hb dX2_isReferenceRead_17 (by decide) ?_
    refine lv_icmp_ne (tgt := 24) hx hb dX2_isReferenceRead_19 (by decide) (fun c_19 => ?_) (fun c_19 => ?_)
    · have h := hp_neg c_19 h
      refine lv_aload_n hx hb dX2_isReferenceRead_24 rfl (lv_at hl 1 rfl) ?_
      refine lv_dup hx hb dX2_isReferenceRead_25 rfl ?_
      refine va_get (D := (dC, dI)) (ci := 2) (v := .int r_3_at) (C := RX2) (T := TX2) (N := 5) hx hb hts kin_X2_isReferenceRead_X2 hown hK hP 0 rfl rfl 3 (Nat.le_of_ble_eq_true rfl) (hts (.fieldLink RX2 22 "OwnedThings$TextReader" "at" "I") (List.mem_of_getElem? (i := 1) rfl)) (fun _ h9 => h9) rfl dX2_isReferenceRead_26 ?_
      refine lv_iconst (v := 1) hx hb dX2_isReferenceRead_29 (by decide) ?_
      refine lv_iadd hx hb dX2_isReferenceRead_30 ?_
      refine va_put (D := (dC, dI)) (ci := 2) (v := .int (r_3_at + (1 : Int32))) (C := RX2) (T := TX2) (N := 5) hx hb hts kin_X2_isReferenceRead_X2 tyX2 tyX2_ok nmX2 hown hK hP (va_D_fst hD rfl) hS 0 rfl rfl 3 (Nat.le_of_ble_eq_true rfl) (hts (.fieldLink RX2 22 "OwnedThings$TextReader" "at" "I") (List.mem_of_getElem? (i := 1) rfl)) (fun _ h9 => h9) rfl (tyX2_ok 3 (Nat.le_of_ble_eq_true rfl)) rfl rfl (Nat.le_of_ble_eq_true rfl) dX2_isReferenceRead_31 (fun H locs hP _ hS => ?_)
      have hP : va_P (dC, dI) vwCl [(a_rd, .inr (2, [.ref a_h, .int rd_start, .int rd_length, .int (r_3_at + (1 : Int32)), .ref a_w])), (a_h, .inr (1, [.int h_lane, .int h_length, .ref a_h_cells])), (a_h_cells, .inl (cI, 60, .inl h_cells)), (a_w, .inr (3, [.int w_count, .int w_references, .ref a_w_kind, .ref a_w_owner, .ref a_w_from, .ref a_w_to, .ref a_w_away])), (a_w_from, .inl (cI, 12, .inl w_from)), (a_w_to, .inl (cI, 12, .inl w_to))] H := hP
      refine lv_aload_n hx hb dX2_isReferenceRead_34 rfl (lv_at hl 1 rfl) ?_
      obtain ⟨r_35, e_35, h⟩ := ob1_inv h
      refine k_pVi (i0 := 0) (rest := []) ⟨hx, hb, hml, hown, hts⟩ (c_X2_codeHere l dC dI cI cS a_rd a_h a_w a_h_cells rd_start rd_length (r_3_at + (1 : Int32)) h_lane h_length h_cells r_35 e_35) (cwV 0 hts gX2_isReferenceRead_X2_codeHere rfl rfl rfl khd_X2_codeHere ⟨Nat.le_of_ble_eq_true rfl, Nat.le_of_ble_eq_true rfl⟩) hK hN hP (va_D_fst hD rfl) hS [0, 1, 2] rfl rfl rfl rfl rfl rfl hl.1 rfl (Nat.le_of_ble_eq_true rfl) dX2_isReferenceRead_35 ⟨Nat.zero_le _, Nat.zero_le _⟩ (fun H locs hf_35 hP hS => ?_)
      refine lv_bipush (v := 48) hx hb dX2_isReferenceRead_38 (by decide) ?_
      refine lv_isub hx hb dX2_isReferenceRead_40 ?_
      refine lv_istore_n (lv' := [(2, .int (r_35 - (48 : Int32))), (1, .int r_12), (0, .ref a_rd)]) hx hb dX2_isReferenceRead_41 rfl hl (by decide) rfl (fun ls hl => ?_)
      refine lv_aload_n hx hb dX2_isReferenceRead_42 rfl (lv_at hl 2 rfl) ?_
      refine va_get (D := (dC, dI)) (ci := 2) (v := .ref a_w) (C := RX2) (T := TX2) (N := 5) hx hb hts kin_X2_isReferenceRead_X2 hown hK hP 0 rfl rfl 4 (Nat.le_of_ble_eq_true rfl) (hts (.fieldLink RX2 25 "OwnedThings$TextReader" "web" "LOwnedThings$Web;") (List.mem_of_getElem? (i := 2) rfl)) (fun _ h9 => h9) rfl dX2_isReferenceRead_43 ?_
      refine lv_iload_n hx hb dX2_isReferenceRead_46 rfl (lv_at hl 0 rfl) ?_
      obtain ⟨r_47, e_47, h⟩ := ob1_inv h
      refine k_pVi (i0 := 3) (rest := []) ⟨hx, hb, hml, hown, hts⟩ (c_X3_isThing l dC dI cI cS a_w a_w_kind a_w_owner a_w_from a_w_to a_w_away w_count w_references (r_35 - (48 : Int32)) r_47 e_47) (cwV 1 hts gX2_isReferenceRead_X3_isThing rfl rfl rfl khd_X3_isThing ⟨Nat.le_of_ble_eq_true rfl, Nat.le_of_ble_eq_true rfl⟩) hK hN hP (va_D_fst hD rfl) hS [3] rfl rfl rfl rfl rfl rfl hl.1 rfl (Nat.le_of_ble_eq_true rfl) dX2_isReferenceRead_47 ⟨Nat.zero_le _, Nat.zero_le _⟩ (fun H locs hf_47 hP hS => ?_)
      refine lv_if_eq (tgt := 72) hx hb dX2_isReferenceRead_50 (by decide) (fun c_50 => ?_) (fun c_50 => ?_)
      · have h := hp_pos c_50 h
        refine lv_iconst (v := 0) hx hb dX2_isReferenceRead_72 (by decide) ?_
        obtain ⟨rfl, rfl, rfl, rfl, rfl⟩ := pj5 (Option.some.inj h)
        exact W.zret hx hb hr (nb01 (Or.inl rfl)) (fun t ht _ => kQ.mk ht hP (Or.inl rfl) (hS.F ht)) hS.2.2 dX2_isReferenceRead_73
      · have h := hp_neg c_50 h
        refine lv_iload_n hx hb dX2_isReferenceRead_53 rfl (lv_at hl 0 rfl) ?_
        refine lv_iload_n hx hb dX2_isReferenceRead_54 rfl (lv_at hl 1 rfl) ?_
        refine lv_icmp_eq (tgt := 72) hx hb dX2_isReferenceRead_55 (by decide) (fun c_55 => ?_) (fun c_55 => ?_)
        · have h := hp_pos c_55 h
          refine lv_iconst (v := 0) hx hb dX2_isReferenceRead_72 (by decide) ?_
          obtain ⟨rfl, rfl, rfl, rfl, rfl⟩ := pj5 (Option.some.inj h)
          exact W.zret hx hb hr (nb01 (Or.inl rfl)) (fun t ht _ => kQ.mk ht hP (Or.inl rfl) (hS.F ht)) hS.2.2 dX2_isReferenceRead_73
        · have h := hp_neg c_55 h
          refine lv_aload_n hx hb dX2_isReferenceRead_58 rfl (lv_at hl 2 rfl) ?_
          refine va_get (D := (dC, dI)) (ci := 2) (v := .ref a_w) (C := RX2) (T := TX2) (N := 5) hx hb hts kin_X2_isReferenceRead_X2 hown hK hP 0 rfl rfl 4 (Nat.le_of_ble_eq_true rfl) (hts (.fieldLink RX2 25 "OwnedThings$TextReader" "web" "LOwnedThings$Web;") (List.mem_of_getElem? (i := 2) rfl)) (fun _ h9 => h9) rfl dX2_isReferenceRead_59 ?_
          refine lv_iload_n hx hb dX2_isReferenceRead_62 rfl (lv_at hl 1 rfl) ?_
          refine lv_iload_n hx hb dX2_isReferenceRead_63 rfl (lv_at hl 0 rfl) ?_
          obtain ⟨r_64, e_64, h⟩ := ob1_inv h
          refine k_pVi (i0 := 3) (rest := []) ⟨hx, hb, hml, hown, hts⟩ (c_X3_find l dC dI cI cS a_w a_w_kind a_w_owner a_w_from a_w_to a_w_away w_count w_references w_from w_to r_12 (r_35 - (48 : Int32)) r_64 e_64) (cwV 2 hts gX2_isReferenceRead_X3_find rfl rfl rfl khd_X3_find ⟨Nat.le_of_ble_eq_true rfl, Nat.le_of_ble_eq_true rfl⟩) hK hN hP (va_D_fst hD rfl) hS [3, 4, 5] rfl rfl rfl rfl rfl rfl hl.1 rfl (Nat.le_of_ble_eq_true rfl) dX2_isReferenceRead_64 ⟨Nat.zero_le _, Nat.zero_le _⟩ (fun H locs hf_64 hP hS => ?_)
          refine lv_bipush (v := -9) hx hb dX2_isReferenceRead_67 (by decide) ?_
          refine lv_icmp_eq (tgt := 74) hx hb dX2_isReferenceRead_69 (by decide) (fun c_69 => ?_) (fun c_69 => ?_)
          · have h := hp_pos c_69 h
            refine lv_aload_n hx hb dX2_isReferenceRead_74 rfl (lv_at hl 2 rfl) ?_
            refine lv_dup hx hb dX2_isReferenceRead_75 rfl ?_
            refine va_get (D := (dC, dI)) (ci := 2) (v := .int (r_3_at + (1 : Int32))) (C := RX2) (T := TX2) (N := 5) hx hb hts kin_X2_isReferenceRead_X2 hown hK hP 0 rfl rfl 3 (Nat.le_of_ble_eq_true rfl) (hts (.fieldLink RX2 22 "OwnedThings$TextReader" "at" "I") (List.mem_of_getElem? (i := 1) rfl)) (fun _ h9 => h9) rfl dX2_isReferenceRead_76 ?_
            refine lv_iconst (v := 1) hx hb dX2_isReferenceRead_79 (by decide) ?_
            refine lv_iadd hx hb dX2_isReferenceRead_80 ?_
            refine va_put (D := (dC, dI)) (ci := 2) (v := .int ((r_3_at + (1 : Int32)) + (1 : Int32))) (C := RX2) (T := TX2) (N := 5) hx hb hts kin_X2_isReferenceRead_X2 tyX2 tyX2_ok nmX2 hown hK hP (va_D_fst hD rfl) hS 0 rfl rfl 3 (Nat.le_of_ble_eq_true rfl) (hts (.fieldLink RX2 22 "OwnedThings$TextReader" "at" "I") (List.mem_of_getElem? (i := 1) rfl)) (fun _ h9 => h9) rfl (tyX2_ok 3 (Nat.le_of_ble_eq_true rfl)) rfl rfl (Nat.le_of_ble_eq_true rfl) dX2_isReferenceRead_81 (fun H locs hP _ hS => ?_)
            have hP : va_P (dC, dI) vwCl [(a_rd, .inr (2, [.ref a_h, .int rd_start, .int rd_length, .int ((r_3_at + (1 : Int32)) + (1 : Int32)), .ref a_w])), (a_h, .inr (1, [.int h_lane, .int h_length, .ref a_h_cells])), (a_h_cells, .inl (cI, 60, .inl h_cells)), (a_w, .inr (3, [.int w_count, .int w_references, .ref a_w_kind, .ref a_w_owner, .ref a_w_from, .ref a_w_to, .ref a_w_away])), (a_w_from, .inl (cI, 12, .inl w_from)), (a_w_to, .inl (cI, 12, .inl w_to))] H := hP
            refine lv_aload_n hx hb dX2_isReferenceRead_84 rfl (lv_at hl 2 rfl) ?_
            refine va_get (D := (dC, dI)) (ci := 2) (v := .ref a_w) (C := RX2) (T := TX2) (N := 5) hx hb hts kin_X2_isReferenceRead_X2 hown hK hP 0 rfl rfl 4 (Nat.le_of_ble_eq_true rfl) (hts (.fieldLink RX2 25 "OwnedThings$TextReader" "web" "LOwnedThings$Web;") (List.mem_of_getElem? (i := 2) rfl)) (fun _ h9 => h9) rfl dX2_isReferenceRead_85 ?_
            refine lv_iload_n hx hb dX2_isReferenceRead_88 rfl (lv_at hl 1 rfl) ?_
            refine lv_iload_n hx hb dX2_isReferenceRead_89 rfl (lv_at hl 0 rfl) ?_
            obtain ⟨r_90_references, r_90_from, r_90_to, e_90, h⟩ := ob3_inv h
            refine k_wVv (i0 := 3) (rest := []) (ws' := [(a_rd, .inr (2, [.ref a_h, .int rd_start, .int rd_length, .int ((r_3_at + (1 : Int32)) + (1 : Int32)), .ref a_w])), (a_h, .inr (1, [.int h_lane, .int h_length, .ref a_h_cells])), (a_h_cells, .inl (cI, 60, .inl h_cells)), (a_w, .inr (3, [.int w_count, .int r_90_references, .ref a_w_kind, .ref a_w_owner, .ref a_w_from, .ref a_w_to, .ref a_w_away])), (a_w_from, .inl (cI, 12, .inl r_90_from)), (a_w_to, .inl (cI, 12, .inl r_90_to))]) ⟨hx, hb, hml, hown, hts⟩ (c_X3_addReference l dC dI cI cS a_w a_w_kind a_w_owner a_w_from a_w_to a_w_away w_count w_references w_from w_to r_12 (r_35 - (48 : Int32)) r_90_references r_90_from r_90_to e_90) (cwV 2 hts gX2_isReferenceRead_X3_addReference rfl rfl rfl khd_X3_addReference ⟨Nat.le_of_ble_eq_true rfl, Nat.le_of_ble_eq_true rfl⟩) hK hN hP (va_D_fst hD rfl) hS [3, 4, 5] rfl rfl rfl rfl rfl rfl hl.1 rfl (Nat.le_of_ble_eq_true rfl) dX2_isReferenceRead_90 ⟨Nat.zero_le _, Nat.zero_le _⟩ rfl rfl (fun H locs hf_90 hP hS => ?_)
            refine lv_iconst (v := 1) hx hb dX2_isReferenceRead_93 (by decide) ?_
            obtain ⟨rfl, rfl, rfl, rfl, rfl⟩ := pj5 (Option.some.inj h)
            exact W.zret hx hb hr (nb01 (Or.inr rfl)) (fun t ht _ => kQ.mk ht hP (Or.inr rfl) (hS.F ht)) hS.2.2 dX2_isReferenceRead_94
          · have h := hp_neg c_69 h
            refine lv_iconst (v := 0) hx hb dX2_isReferenceRead_72 (by decide) ?_
            obtain ⟨rfl, rfl, rfl, rfl, rfl⟩ := pj5 (Option.some.inj h)
            exact W.zret hx hb hr (nb01 (Or.inl rfl)) (fun t ht _ => kQ.mk ht hP (Or.inl rfl) (hS.F ht)) hS.2.2 dX2_isReferenceRead_73
    · have h := hp_pos c_19 h
      refine lv_iconst (v := 0) hx hb dX2_isReferenceRead_22 (by decide) ?_
      obtain ⟨rfl, rfl, rfl, rfl, rfl⟩ := pj5 (Option.some.inj h)
      exact W.zret hx hb hr (nb01 (Or.inl rfl)) (fun t ht _ => kQ.mk ht hP (Or.inl rfl) (hS.F ht)) hS.2.2 dX2_isReferenceRead_23
  · have h := hp_pos c_6 h
    refine lv_iconst (v := 0) hx hb dX2_isReferenceRead_9 (by decide) ?_
    obtain ⟨rfl, rfl, rfl, rfl, rfl⟩ := pj5 (Option.some.inj h)
    exact W.zret hx hb hr (nb01 (Or.inl rfl)) (fun t ht _ => kQ.mk ht hP (Or.inl rfl) (hS.F ht)) hS.2.2 dX2_isReferenceRead_10
theorem kin_X2_areReferencesRead_X2 : ∀ w ∈ wsX20, w ∈ wsX2_areReferencesRead := fun _ h => List.mem_cons_of_mem _ (List.mem_append_left _ (List.mem_append_left _ (List.mem_append_right _ h)))
theorem kin_X2_areReferencesRead_X1 : ∀ w ∈ wsX10, w ∈ wsX2_areReferencesRead := fun _ h => List.mem_cons_of_mem _ (List.mem_append_left _ (List.mem_append_right _ h))
theorem kin_X2_areReferencesRead_X3 : ∀ w ∈ wsX30, w ∈ wsX2_areReferencesRead := fun _ h => List.mem_cons_of_mem _ (List.mem_append_right _ h)
theorem khd_X2_areReferencesRead : yX2_areReferencesRead.cls = RX2 ∧ yX2_areReferencesRead.cls ≠ "java/lang/invoke/MethodHandle" ∧ yX2_areReferencesRead.cls ≠ "java/lang/invoke/VarHandle" ∧ (parseMethodDescriptor yX2_areReferencesRead.desc).map (fun d => d.parameters.length) = some 0 := by decide +kernel
set_option maxHeartbeats 8000000 in
set_option maxRecDepth 100000 in
theorem c_X2_areReferencesRead (l : Launch) (dC : Nat → ClassId) (dI : Nat → Nat → Nat) (cI cS : ClassId) (a_rd : Nat) (a_h : Nat) (a_w : Nat) (a_h_cells : Nat) (a_w_kind : Nat) (a_w_owner : Nat) (a_w_from : Nat) (a_w_to : Nat) (a_w_away : Nat) (rd_start : Int32) (rd_length : Int32) (rd_at : Int32) (h_lane : Int32) (h_length : Int32) (h_cells : Nat → Int32) (w_count : Int32) (w_references : Int32) (w_from : Nat → Int32) (w_to : Nat → Int32) (r : Int32) (z_rd_at : Int32) (z_w_references : Int32) (z_w_from : Nat → Int32) (z_w_to : Nat → Int32) (h : f_X2_areReferencesRead rd_start rd_length rd_at h_length h_cells w_count w_references w_from w_to = some (r, z_rd_at, z_w_references, z_w_from, z_w_to)) : Mk l yX2_areReferencesRead wsX2_areReferencesRead ({ frames := 4, cells := 0, slots := 0, locals := 84 } : Room) (dC, dI) cI cS [(a_rd, .inr (2, [.ref a_h, .int rd_start, .int rd_length, .int rd_at, .ref a_w])), (a_h, .inr (1, [.int h_lane, .int h_length, .ref a_h_cells])), (a_h_cells, .inl (cI, 60, .inl h_cells)), (a_w, .inr (3, [.int w_count, .int w_references, .ref a_w_kind, .ref a_w_owner, .ref a_w_from, .ref a_w_to, .ref a_w_away])), (a_w_from, .inl (cI, 12, .inl w_from)), (a_w_to, .inl (cI, 12, .inl w_to))] [.ref a_rd] (some (.int r)) (r = 0 ∨ r = 1) (fun H => va_P (dC, dI) vwCl [(a_rd, .inr (2, [.ref a_h, .int rd_start, .int rd_length, .int z_rd_at, .ref a_w])), (a_h, .inr (1, [.int h_lane, .int h_length, .ref a_h_cells])), (a_h_cells, .inl (cI, 60, .inl h_cells)), (a_w, .inr (3, [.int w_count, .int z_w_references, .ref a_w_kind, .ref a_w_owner, .ref a_w_from, .ref a_w_to, .ref a_w_away])), (a_w_from, .inl (cI, 12, .inl z_w_from)), (a_w_to, .inl (cI, 12, .inl z_w_to))] H) (inA (List.map Prod.fst ([(a_rd, .inr (2, [.ref a_h, .int rd_start, .int rd_length, .int rd_at, .ref a_w])), (a_h, .inr (1, [.int h_lane, .int h_length, .ref a_h_cells])), (a_h_cells, .inl (cI, 60, .inl h_cells)), (a_w, .inr (3, [.int w_count, .int w_references, .ref a_w_kind, .ref a_w_owner, .ref a_w_from, .ref a_w_to, .ref a_w_away])), (a_w_from, .inl (cI, 12, .inl w_from)), (a_w_to, .inl (cI, 12, .inl w_to))] : va_W))) := by
  refine Met.ofW (cc := cX2_areReferencesRead) (maxL := 2) (ret := (some .boolean)) (by decide) rfl ?_
  intro p e s m args below meth c s₁ B hml hv
  obtain ⟨rfl, hP, hK, hN, hD⟩ := hv
  have hx := B.exec
  have hb := B.bytes
  have hr := B.returns
  have hts := atoms_spec (ws := wsX2_areReferencesRead) B.pre
  have hown : s.vm.findClass RX2 = some m.cls := findClass_of_methodNamed B.named
  have hlocks := B.notSynchronized
  have hS : va_S (inA [a_rd, a_h, a_h_cells, a_w, a_w_from, a_w_to]) s.heap s.heap [] := va_S.rf
  have hP : va_P (dC, dI) vwCl [(a_rd, .inr (2, [.ref a_h, .int rd_start, .int rd_length, .int rd_at, .ref a_w])), (a_h, .inr (1, [.int h_lane, .int h_length, .ref a_h_cells])), (a_h_cells, .inl (cI, 60, .inl h_cells)), (a_w, .inr (3, [.int w_count, .int w_references, .ref a_w_kind, .ref a_w_owner, .ref a_w_from, .ref a_w_to, .ref a_w_away])), (a_w_from, .inl (cI, 12, .inl w_from)), (a_w_to, .inl (cI, 12, .inl w_to))] s.heap := hP
  have hD : va_D (inA [a_rd, a_h, a_h_cells, a_w, a_w_from, a_w_to]) [(a_rd, .inr (2, [.ref a_h, .int rd_start, .int rd_length, .int rd_at, .ref a_w])), (a_h, .inr (1, [.int h_lane, .int h_length, .ref a_h_cells])), (a_h_cells, .inl (cI, 60, .inl h_cells)), (a_w, .inr (3, [.int w_count, .int w_references, .ref a_w_kind, .ref a_w_owner, .ref a_w_from, .ref a_w_to, .ref a_w_away])), (a_w_from, .inl (cI, 12, .inl w_from)), (a_w_to, .inl (cI, 12, .inl w_to))] := va_D_in hD rfl
  have hl := lv_entry ([.ref a_rd]) (n := 2) (Nat.le_of_ble_eq_true rfl)
  rw [lg_entry_eq]
  generalize (lg_sl ([.ref a_rd]) ++ List.replicate (2 - (lg_sl ([.ref a_rd])).length) Slot.unset).toArray = ls at hl ⊢
  have hl : lv_has ls 2 [(0, .ref a_rd)] := hl
  unfold f_X2_areReferencesRead at h
  refine lv_iconst (v := 0) hx hb dX2_areReferencesRead_0 (by decide) ?_
  refine lv_istore_n (lv' := [(1, .int (0 : Int32)), (0, .ref a_rd)]) hx hb dX2_areReferencesRead_1 rfl hl (by decide) rfl (fun ls hl => ?_)
  obtain ⟨o_2, K_2, i_2, hk_2, h⟩ := os4_inv h
  have after_2 : ∀ (rd_at_2e : Int32) (w_references_2e : Int32) (w_from_2e : Nat → Int32) (w_to_2e : Nat → Int32) (_ : K_2 rd_at_2e w_references_2e w_from_2e w_to_2e) (H : Heap) (locs : List Loc) (ls : Array Slot), va_P (dC, dI) vwCl [(a_rd, .inr (2, [.ref a_h, .int rd_start, .int rd_length, .int rd_at_2e, .ref a_w])), (a_h, .inr (1, [.int h_lane, .int h_length, .ref a_h_cells])), (a_h_cells, .inl (cI, 60, .inl h_cells)), (a_w, .inr (3, [.int w_count, .int w_references_2e, .ref a_w_kind, .ref a_w_owner, .ref a_w_from, .ref a_w_to, .ref a_w_away])), (a_w_from, .inl (cI, 12, .inl w_from_2e)), (a_w_to, .inl (cI, 12, .inl w_to_2e))] H → va_S (inA [a_rd, a_h, a_h_cells, a_w, a_w_from, a_w_to]) s.heap H locs → lv_has ls 2 [] → W p l e (headSpec wsX2_areReferencesRead ({ frames := 4, cells := 0, slots := 0, locals := 84 } : Room)).room s m ([.ref a_rd] : List Value).toArray below meth c H locs 0 0 (MQ below (kQ (some (.int r)) (r = 0 ∨ r = 1) (fun H => va_P (dC, dI) vwCl [(a_rd, .inr (2, [.ref a_h, .int rd_start, .int rd_length, .int z_rd_at, .ref a_w])), (a_h, .inr (1, [.int h_lane, .int h_length, .ref a_h_cells])), (a_h_cells, .inl (cI, 60, .inl h_cells)), (a_w, .inr (3, [.int w_count, .int z_w_references, .ref a_w_kind, .ref a_w_owner, .ref a_w_from, .ref a_w_to, .ref a_w_away])), (a_w_from, .inl (cI, 12, .inl z_w_from)), (a_w_to, .inl (cI, 12, .inl z_w_to))] H) (inA (List.map Prod.fst ([(a_rd, .inr (2, [.ref a_h, .int rd_start, .int rd_length, .int rd_at, .ref a_w])), (a_h, .inr (1, [.int h_lane, .int h_length, .ref a_h_cells])), (a_h_cells, .inl (cI, 60, .inl h_cells)), (a_w, .inr (3, [.int w_count, .int w_references, .ref a_w_kind, .ref a_w_owner, .ref a_w_from, .ref a_w_to, .ref a_w_away])), (a_w_from, .inl (cI, 12, .inl w_from)), (a_w_to, .inl (cI, 12, .inl w_to))] : va_W)))) ([.ref a_rd] : List Value).toArray s 0 0 (inA (List.map Prod.fst ([(a_rd, .inr (2, [.ref a_h, .int rd_start, .int rd_length, .int rd_at, .ref a_w])), (a_h, .inr (1, [.int h_lane, .int h_length, .ref a_h_cells])), (a_h_cells, .inl (cI, 60, .inl h_cells)), (a_w, .inr (3, [.int w_count, .int w_references, .ref a_w_kind, .ref a_w_owner, .ref a_w_from, .ref a_w_to, .ref a_w_away])), (a_w_from, .inl (cI, 12, .inl w_from)), (a_w_to, .inl (cI, 12, .inl w_to))] : va_W)))) (F0 m 34 ls []) := by
    intro rd_at_2e w_references_2e w_from_2e w_to_2e ha H locs ls hP hS hl
    have h := hk_2 _ _ _ _ ha
    refine lv_iconst (v := 1) hx hb dX2_areReferencesRead_34 (by decide) ?_
    obtain ⟨rfl, rfl, rfl, rfl, rfl⟩ := pj5 (Option.some.inj h)
    exact W.zret hx hb hr (nb01 (Or.inr rfl)) (fun t ht _ => kQ.mk ht hP (Or.inr rfl) (hS.F ht)) hS.2.2 dX2_areReferencesRead_35
  have lp_2 : ∀ (n : Nat) (x1_2 : Int32) (rd_at_2 : Int32) (w_references_2 : Int32) (w_from_2 : Nat → Int32) (w_to_2 : Nat → Int32) (H : Heap) (locs : List Loc) (ls : Array Slot), it (u5 (L_X2_areReferencesRead_2 rd_start rd_length h_length h_cells w_count)) n (x1_2, rd_at_2, w_references_2, w_from_2, w_to_2) = some o_2 → va_P (dC, dI) vwCl [(a_rd, .inr (2, [.ref a_h, .int rd_start, .int rd_length, .int rd_at_2, .ref a_w])), (a_h, .inr (1, [.int h_lane, .int h_length, .ref a_h_cells])), (a_h_cells, .inl (cI, 60, .inl h_cells)), (a_w, .inr (3, [.int w_count, .int w_references_2, .ref a_w_kind, .ref a_w_owner, .ref a_w_from, .ref a_w_to, .ref a_w_away])), (a_w_from, .inl (cI, 12, .inl w_from_2)), (a_w_to, .inl (cI, 12, .inl w_to_2))] H → va_S (inA [a_rd, a_h, a_h_cells, a_w, a_w_from, a_w_to]) s.heap H locs → lv_has ls 2 [(0, .ref a_rd), (1, .int x1_2)] → W p l e (headSpec wsX2_areReferencesRead ({ frames := 4, cells := 0, slots := 0, locals := 84 } : Room)).room s m ([.ref a_rd] : List Value).toArray below meth c H locs 0 0 (MQ below (kQ (some (.int r)) (r = 0 ∨ r = 1) (fun H => va_P (dC, dI) vwCl [(a_rd, .inr (2, [.ref a_h, .int rd_start, .int rd_length, .int z_rd_at, .ref a_w])), (a_h, .inr (1, [.int h_lane, .int h_length, .ref a_h_cells])), (a_h_cells, .inl (cI, 60, .inl h_cells)), (a_w, .inr (3, [.int w_count, .int z_w_references, .ref a_w_kind, .ref a_w_owner, .ref a_w_from, .ref a_w_to, .ref a_w_away])), (a_w_from, .inl (cI, 12, .inl z_w_from)), (a_w_to, .inl (cI, 12, .inl z_w_to))] H) (inA (List.map Prod.fst ([(a_rd, .inr (2, [.ref a_h, .int rd_start, .int rd_length, .int rd_at, .ref a_w])), (a_h, .inr (1, [.int h_lane, .int h_length, .ref a_h_cells])), (a_h_cells, .inl (cI, 60, .inl h_cells)), (a_w, .inr (3, [.int w_count, .int w_references, .ref a_w_kind, .ref a_w_owner, .ref a_w_from, .ref a_w_to, .ref a_w_away])), (a_w_from, .inl (cI, 12, .inl w_from)), (a_w_to, .inl (cI, 12, .inl w_to))] : va_W)))) ([.ref a_rd] : List Value).toArray s 0 0 (inA (List.map Prod.fst ([(a_rd, .inr (2, [.ref a_h, .int rd_start, .int rd_length, .int rd_at, .ref a_w])), (a_h, .inr (1, [.int h_lane, .int h_length, .ref a_h_cells])), (a_h_cells, .inl (cI, 60, .inl h_cells)), (a_w, .inr (3, [.int w_count, .int w_references, .ref a_w_kind, .ref a_w_owner, .ref a_w_from, .ref a_w_to, .ref a_w_away])), (a_w_from, .inl (cI, 12, .inl w_from)), (a_w_to, .inl (cI, 12, .inl w_to))] : va_W)))) (F0 m 2 ls []) := by
    intro n
    induction n with
    | zero => intro x1_2 rd_at_2 w_references_2 w_from_2 w_to_2 H locs ls h1; exact (it_0 h1).elim
    | succ n ih_2 =>
      intro x1_2 rd_at_2 w_references_2 w_from_2 w_to_2 H locs ls h1 hP hS hl
      obtain ⟨t_2, h1, k1⟩ := it5_inv h1
      unfold L_X2_areReferencesRead_2 at h1
      refine lv_iload_n hx hb dX2_areReferencesRead_2 rfl (lv_at hl 1 rfl) ?_
      refine lv_bipush (v := 12) hx hb dX2_areReferencesRead_3 (by decide) ?_
      refine lv_icmp_ge (tgt := 34) hx hb dX2_areReferencesRead_5 (by decide) (fun c_5 => ?_) (fun c_5 => ?_)
      · have h1 := hp_pos c_5 h1
        cases h1
        obtain rfl := pj1 k1
        exact after_2 _ _ _ _ h _ _ _ hP hS (lv_sub hl [] rfl)
      · have h1 := hp_neg c_5 h1
        refine lv_aload_n hx hb dX2_areReferencesRead_8 rfl (lv_at hl 0 rfl) ?_
        refine va_get (D := (dC, dI)) (ci := 2) (v := .int rd_at_2) (C := RX2) (T := TX2) (N := 5) hx hb hts kin_X2_areReferencesRead_X2 hown hK hP 0 rfl rfl 3 (Nat.le_of_ble_eq_true rfl) (hts (.fieldLink RX2 22 "OwnedThings$TextReader" "at" "I") (List.mem_of_getElem? (i := 1) rfl)) (fun _ h9 => h9) rfl dX2_areReferencesRead_9 ?_
        refine lv_aload_n hx hb dX2_areReferencesRead_12 rfl (lv_at hl 0 rfl) ?_
        refine va_get (D := (dC, dI)) (ci := 2) (v := .int rd_length) (C := RX2) (T := TX2) (N := 5) hx hb hts kin_X2_areReferencesRead_X2 hown hK hP 0 rfl rfl 2 (Nat.le_of_ble_eq_true rfl) (hts (.fieldLink RX2 19 "OwnedThings$TextReader" "length" "I") (List.mem_of_getElem? (i := 2) rfl)) (fun _ h9 => h9) rfl dX2_areReferencesRead_13 ?_
        refine lv_icmp_ge (tgt := 34) hx hb dX2_areReferencesRead_16 (by decide) (fun c_16 => ?_) (fun c_16 => ?_)
        · have h1 := hp_pos c_16 h1
          cases h1
          obtain rfl := pj1 k1
          exact after_2 _ _ _ _ h _ _ _ hP hS (lv_sub hl [] rfl)
        · have h1 := hp_neg c_16 h1
          refine lv_aload_n hx hb dX2_areReferencesRead_19 rfl (lv_at hl 0 rfl) ?_
          obtain ⟨r_20, r_20_at, r_20_references, r_20_from, r_20_to, e_20, h1⟩ := ob5_inv h1
          refine k_wVi (i0 := 0) (rest := []) (ws' := [(a_rd, .inr (2, [.ref a_h, .int rd_start, .int rd_length, .int r_20_at, .ref a_w])), (a_h, .inr (1, [.int h_lane, .int h_length, .ref a_h_cells])), (a_h_cells, .inl (cI, 60, .inl h_cells)), (a_w, .inr (3, [.int w_count, .int r_20_references, .ref a_w_kind, .ref a_w_owner, .ref a_w_from, .ref a_w_to, .ref a_w_away])), (a_w_from, .inl (cI, 12, .inl r_20_from)), (a_w_to, .inl (cI, 12, .inl r_20_to))]) ⟨hx, hb, hml, hown, hts⟩ (c_X2_isReferenceRead l dC dI cI cS a_rd a_h a_w a_h_cells a_w_kind a_w_owner a_w_from a_w_to a_w_away rd_start rd_length rd_at_2 h_lane h_length h_cells w_count w_references_2 w_from_2 w_to_2 r_20 r_20_at r_20_references r_20_from r_20_to e_20) (cwV 0 hts gX2_areReferencesRead_X2_isReferenceRead rfl rfl rfl khd_X2_isReferenceRead ⟨Nat.le_of_ble_eq_true rfl, Nat.le_of_ble_eq_true rfl⟩) hK hN hP (va_D_fst hD rfl) hS [0, 1, 2, 3, 4, 5] rfl rfl rfl rfl rfl rfl hl.1 rfl (Nat.le_of_ble_eq_true rfl) dX2_areReferencesRead_20 ⟨Nat.zero_le _, Nat.zero_le _⟩ rfl rfl (fun H locs hf_20 hP hS => ?_)
          refine lv_if_ne (tgt := 28) hx hb dX2_areReferencesRead_23 (by decide) (fun c_23 => ?_) (fun c_23 => ?_)
          · have h1 := hp_neg c_23 h1
            refine lv_iinc (v := (x1_2 + (1 : Int32))) (lv' := [(1, .int (x1_2 + (1 : Int32))), (0, .ref a_rd)]) hx hb dX2_areReferencesRead_28 hl (k := 1) rfl rfl (by decide) rfl (fun ls hl => ?_)
            refine lv_goto (tgt := 2) hx hb dX2_areReferencesRead_31 (by decide) ?_
            cases h1
            exact ih_2 _ _ _ _ _ _ _ _ k1 hP hS (lv_sub hl [1, 0] rfl)
          · have h1 := hp_pos c_23 h1
            refine lv_iconst (v := 0) hx hb dX2_areReferencesRead_26 (by decide) ?_
            cases h1
            obtain rfl := pj1 k1
            have h := congrArg some h
            obtain ⟨rfl, rfl, rfl, rfl, rfl⟩ := pj5 (Option.some.inj h)
            exact W.zret hx hb hr (nb01 (Or.inl rfl)) (fun t ht _ => kQ.mk ht hP (Or.inl rfl) (hS.F ht)) hS.2.2 dX2_areReferencesRead_27
  exact lp_2 FUEL _ _ _ _ _ _ _ _ i_2 hP hS (lv_sub hl [1, 0] rfl)
theorem kin_X2_kindHere_X2 : ∀ w ∈ wsX20, w ∈ wsX2_kindHere := fun _ h => List.mem_cons_of_mem _ (List.mem_append_left _ (List.mem_append_right _ h))
theorem kin_X2_kindHere_X1 : ∀ w ∈ wsX10, w ∈ wsX2_kindHere := fun _ h => List.mem_cons_of_mem _ (List.mem_append_right _ h)
theorem khd_X2_kindHere : yX2_kindHere.cls = RX2 ∧ yX2_kindHere.cls ≠ "java/lang/invoke/MethodHandle" ∧ yX2_kindHere.cls ≠ "java/lang/invoke/VarHandle" ∧ (parseMethodDescriptor yX2_kindHere.desc).map (fun d => d.parameters.length) = some 0 := by decide +kernel
set_option maxHeartbeats 8000000 in
set_option maxRecDepth 100000 in
theorem c_X2_kindHere (l : Launch) (dC : Nat → ClassId) (dI : Nat → Nat → Nat) (cI cS : ClassId) (a_rd : Nat) (a_h : Nat) (a_w : Nat) (a_h_cells : Nat) (rd_start : Int32) (rd_length : Int32) (rd_at : Int32) (h_lane : Int32) (h_length : Int32) (h_cells : Nat → Int32) (r : Int32) (h : f_X2_kindHere rd_start rd_length rd_at h_length h_cells = some r) : Mk l yX2_kindHere wsX2_kindHere ({ frames := 2, cells := 0, slots := 0, locals := 41 } : Room) (dC, dI) cI cS [(a_rd, .inr (2, [.ref a_h, .int rd_start, .int rd_length, .int rd_at, .ref a_w])), (a_h, .inr (1, [.int h_lane, .int h_length, .ref a_h_cells])), (a_h_cells, .inl (cI, 60, .inl h_cells))] [.ref a_rd] (some (.int r)) True (fun _ => True) noA := by
  refine Met.ofW (cc := cX2_kindHere) (maxL := 1) (ret := (some .int)) (by decide) rfl ?_
  intro p e s m args below meth c s₁ B hml hv
  obtain ⟨rfl, hP, hK, hN, hD⟩ := hv
  have hx := B.exec
  have hb := B.bytes
  have hr := B.returns
  have hts := atoms_spec (ws := wsX2_kindHere) B.pre
  have hown : s.vm.findClass RX2 = some m.cls := findClass_of_methodNamed B.named
  have hlocks := B.notSynchronized
  have hS : va_S noA s.heap s.heap [] := va_S.rf
  have hP : va_P (dC, dI) vwCl [(a_rd, .inr (2, [.ref a_h, .int rd_start, .int rd_length, .int rd_at, .ref a_w])), (a_h, .inr (1, [.int h_lane, .int h_length, .ref a_h_cells])), (a_h_cells, .inl (cI, 60, .inl h_cells))] s.heap := hP
  have hl := lv_entry ([.ref a_rd]) (n := 1) (Nat.le_of_ble_eq_true rfl)
  rw [lg_entry_eq]
  generalize (lg_sl ([.ref a_rd]) ++ List.replicate (1 - (lg_sl ([.ref a_rd])).length) Slot.unset).toArray = ls at hl ⊢
  have hl : lv_has ls 1 [(0, .ref a_rd)] := hl
  unfold f_X2_kindHere at h
  refine lv_aload_n hx hb dX2_kindHere_0 rfl (lv_at hl 0 rfl) ?_
  obtain ⟨r_1, e_1, h⟩ := ob1_inv h
  refine k_pVi (i0 := 0) (rest := []) ⟨hx, hb, hml, hown, hts⟩ (c_X2_codeHere l dC dI cI cS a_rd a_h a_w a_h_cells rd_start rd_length rd_at h_lane h_length h_cells r_1 e_1) (cwV 0 hts gX2_kindHere_X2_codeHere rfl rfl rfl khd_X2_codeHere ⟨Nat.le_of_ble_eq_true rfl, Nat.le_of_ble_eq_true rfl⟩) hK hN hP (va_D_fst hD rfl) hS [0, 1, 2] rfl rfl rfl rfl rfl rfl hl.1 rfl (Nat.le_of_ble_eq_true rfl) dX2_kindHere_1 ⟨Nat.zero_le _, Nat.zero_le _⟩ (fun H locs hf_1 hP hS => ?_)
  by_cases s_4_100 : r_1 = (100 : Int32)
  · have h := hp_pos s_4_100 h
    refine lv_lookup (off := 40) (tgt := 44) hx hb dX2_kindHere_4 (by decide) (by rw [s_4_100]; rfl) (by decide) ?_
    refine lv_iconst (v := 2) hx hb dX2_kindHere_44 (by decide) ?_
    obtain rfl := Option.some.inj h
    exact W.iret hx hb hr (fun t ht _ => kQ.mk ht trivial trivial (hS.F ht)) hS.2.2 dX2_kindHere_45
  have h := hp_neg s_4_100 h
  by_cases s_4_103 : r_1 = (103 : Int32)
  · have h := hp_pos s_4_103 h
    refine lv_lookup (off := 38) (tgt := 42) hx hb dX2_kindHere_4 (by decide) (by rw [s_4_103]; rfl) (by decide) ?_
    refine lv_iconst (v := 1) hx hb dX2_kindHere_42 (by decide) ?_
    obtain rfl := Option.some.inj h
    exact W.iret hx hb hr (fun t ht _ => kQ.mk ht trivial trivial (hS.F ht)) hS.2.2 dX2_kindHere_43
  have h := hp_neg s_4_103 h
  by_cases s_4_112 : r_1 = (112 : Int32)
  · have h := hp_pos s_4_112 h
    refine lv_lookup (off := 36) (tgt := 40) hx hb dX2_kindHere_4 (by decide) (by rw [s_4_112]; rfl) (by decide) ?_
    refine lv_iconst (v := 0) hx hb dX2_kindHere_40 (by decide) ?_
    obtain rfl := Option.some.inj h
    exact W.iret hx hb hr (fun t ht _ => kQ.mk ht trivial trivial (hS.F ht)) hS.2.2 dX2_kindHere_41
  have h := hp_neg s_4_112 h
  refine lv_lookup (off := 42) (tgt := 46) hx hb dX2_kindHere_4 (by decide) (by have q0 := ti_ne (z := 100) (by decide) s_4_100; have q1 := ti_ne (z := 103) (by decide) s_4_103; have q2 := ti_ne (z := 112) (by decide) s_4_112; simp [Op.lookupswitch.offset, q0, Ne.symm q0, q1, Ne.symm q1, q2, Ne.symm q2]) (by decide) ?_
  refine lv_bipush (v := -9) hx hb dX2_kindHere_46 (by decide) ?_
  obtain rfl := Option.some.inj h
  exact W.iret hx hb hr (fun t ht _ => kQ.mk ht trivial trivial (hS.F ht)) hS.2.2 dX2_kindHere_48
theorem kin_X2_isThingRead_X2 : ∀ w ∈ wsX20, w ∈ wsX2_isThingRead := fun _ h => List.mem_cons_of_mem _ (List.mem_append_left _ (List.mem_append_left _ (List.mem_append_right _ h)))
theorem kin_X2_isThingRead_X1 : ∀ w ∈ wsX10, w ∈ wsX2_isThingRead := fun _ h => List.mem_cons_of_mem _ (List.mem_append_left _ (List.mem_append_right _ h))
theorem kin_X2_isThingRead_X3 : ∀ w ∈ wsX30, w ∈ wsX2_isThingRead := fun _ h => List.mem_cons_of_mem _ (List.mem_append_right _ h)
theorem khd_X2_isThingRead : yX2_isThingRead.cls = RX2 ∧ yX2_isThingRead.cls ≠ "java/lang/invoke/MethodHandle" ∧ yX2_isThingRead.cls ≠ "java/lang/invoke/VarHandle" ∧ (parseMethodDescriptor yX2_isThingRead.desc).map (fun d => d.parameters.length) = some 0 := by decide +kernel
set_option maxHeartbeats 8000000 in
set_option maxRecDepth 100000 in
theorem c_X2_isThingRead (l : Launch) (dC : Nat → ClassId) (dI : Nat → Nat → Nat) (cI cS : ClassId) (a_rd : Nat) (a_h : Nat) (a_w : Nat) (a_h_cells : Nat) (a_w_kind : Nat) (a_w_owner : Nat) (a_w_from : Nat) (a_w_to : Nat) (a_w_away : Nat) (rd_start : Int32) (rd_length : Int32) (rd_at : Int32) (h_lane : Int32) (h_length : Int32) (h_cells : Nat → Int32) (w_count : Int32) (w_references : Int32) (w_kind : Nat → Int32) (w_owner : Nat → Int32) (r : Int32) (z_rd_at : Int32) (z_w_count : Int32) (z_w_kind : Nat → Int32) (z_w_owner : Nat → Int32) (h : f_X2_isThingRead rd_start rd_length rd_at h_length h_cells w_count w_kind w_owner = some (r, z_rd_at, z_w_count, z_w_kind, z_w_owner)) : Mk l yX2_isThingRead wsX2_isThingRead ({ frames := 3, cells := 0, slots := 0, locals := 62 } : Room) (dC, dI) cI cS [(a_rd, .inr (2, [.ref a_h, .int rd_start, .int rd_length, .int rd_at, .ref a_w])), (a_h, .inr (1, [.int h_lane, .int h_length, .ref a_h_cells])), (a_h_cells, .inl (cI, 60, .inl h_cells)), (a_w, .inr (3, [.int w_count, .int w_references, .ref a_w_kind, .ref a_w_owner, .ref a_w_from, .ref a_w_to, .ref a_w_away])), (a_w_kind, .inl (cI, 6, .inl w_kind)), (a_w_owner, .inl (cI, 6, .inl w_owner))] [.ref a_rd] (some (.int r)) (r = 0 ∨ r = 1) (fun H => va_P (dC, dI) vwCl [(a_rd, .inr (2, [.ref a_h, .int rd_start, .int rd_length, .int z_rd_at, .ref a_w])), (a_h, .inr (1, [.int h_lane, .int h_length, .ref a_h_cells])), (a_h_cells, .inl (cI, 60, .inl h_cells)), (a_w, .inr (3, [.int z_w_count, .int w_references, .ref a_w_kind, .ref a_w_owner, .ref a_w_from, .ref a_w_to, .ref a_w_away])), (a_w_kind, .inl (cI, 6, .inl z_w_kind)), (a_w_owner, .inl (cI, 6, .inl z_w_owner))] H) (inA (List.map Prod.fst ([(a_rd, .inr (2, [.ref a_h, .int rd_start, .int rd_length, .int rd_at, .ref a_w])), (a_h, .inr (1, [.int h_lane, .int h_length, .ref a_h_cells])), (a_h_cells, .inl (cI, 60, .inl h_cells)), (a_w, .inr (3, [.int w_count, .int w_references, .ref a_w_kind, .ref a_w_owner, .ref a_w_from, .ref a_w_to, .ref a_w_away])), (a_w_kind, .inl (cI, 6, .inl w_kind)), (a_w_owner, .inl (cI, 6, .inl w_owner))] : va_W))) := by
  refine Met.ofW (cc := cX2_isThingRead) (maxL := 3) (ret := (some .boolean)) (by decide) rfl ?_
  intro p e s m args below meth c s₁ B hml hv
  obtain ⟨rfl, hP, hK, hN, hD⟩ := hv
  have hx := B.exec
  have hb := B.bytes
  have hr := B.returns
  have hts := atoms_spec (ws := wsX2_isThingRead) B.pre
  have hown : s.vm.findClass RX2 = some m.cls := findClass_of_methodNamed B.named
  have hlocks := B.notSynchronized
  have hS : va_S (inA [a_rd, a_h, a_h_cells, a_w, a_w_kind, a_w_owner]) s.heap s.heap [] := va_S.rf
  have hP : va_P (dC, dI) vwCl [(a_rd, .inr (2, [.ref a_h, .int rd_start, .int rd_length, .int rd_at, .ref a_w])), (a_h, .inr (1, [.int h_lane, .int h_length, .ref a_h_cells])), (a_h_cells, .inl (cI, 60, .inl h_cells)), (a_w, .inr (3, [.int w_count, .int w_references, .ref a_w_kind, .ref a_w_owner, .ref a_w_from, .ref a_w_to, .ref a_w_away])), (a_w_kind, .inl (cI, 6, .inl w_kind)), (a_w_owner, .inl (cI, 6, .inl w_owner))] s.heap := hP
  have hD : va_D (inA [a_rd, a_h, a_h_cells, a_w, a_w_kind, a_w_owner]) [(a_rd, .inr (2, [.ref a_h, .int rd_start, .int rd_length, .int rd_at, .ref a_w])), (a_h, .inr (1, [.int h_lane, .int h_length, .ref a_h_cells])), (a_h_cells, .inl (cI, 60, .inl h_cells)), (a_w, .inr (3, [.int w_count, .int w_references, .ref a_w_kind, .ref a_w_owner, .ref a_w_from, .ref a_w_to, .ref a_w_away])), (a_w_kind, .inl (cI, 6, .inl w_kind)), (a_w_owner, .inl (cI, 6, .inl w_owner))] := va_D_in hD rfl
  have hl := lv_entry ([.ref a_rd]) (n := 3) (Nat.le_of_ble_eq_true rfl)
  rw [lg_entry_eq]
  generalize (lg_sl ([.ref a_rd]) ++ List.replicate (3 - (lg_sl ([.ref a_rd])).length) Slot.unset).toArray = ls at hl ⊢
  have hl : lv_has ls 3 [(0, .ref a_rd)] := hl
  unfold f_X2_isThingRead at h
  refine lv_aload_n hx hb dX2_isThingRead_0 rfl (lv_at hl 0 rfl) ?_
  refine lv_bipush (v := 59) hx hb dX2_isThingRead_1 (by decide) ?_
  obtain ⟨r_3, r_3_at, e_3, h⟩ := ob2_inv h
  refine k_wVi (i0 := 0) (rest := []) (ws' := [(a_rd, .inr (2, [.ref a_h, .int rd_start, .int rd_length, .int r_3_at, .ref a_w])), (a_h, .inr (1, [.int h_lane, .int h_length, .ref a_h_cells])), (a_h_cells, .inl (cI, 60, .inl h_cells)), (a_w, .inr (3, [.int w_count, .int w_references, .ref a_w_kind, .ref a_w_owner, .ref a_w_from, .ref a_w_to, .ref a_w_away])), (a_w_kind, .inl (cI, 6, .inl w_kind)), (a_w_owner, .inl (cI, 6, .inl w_owner))]) ⟨hx, hb, hml, hown, hts⟩ (c_X2_isTaken l dC dI cI cS a_rd a_h a_w a_h_cells rd_start rd_length rd_at h_lane h_length h_cells (59 : Int32) r_3 r_3_at e_3) (cwV 1 hts gX2_isThingRead_X2_isTaken rfl rfl rfl khd_X2_isTaken ⟨Nat.le_of_ble_eq_true rfl, Nat.le_of_ble_eq_true rfl⟩) hK hN hP (va_D_fst hD rfl) hS [0, 1, 2] rfl rfl rfl rfl rfl rfl hl.1 rfl (Nat.le_of_ble_eq_true rfl) dX2_isThingRead_3 ⟨Nat.zero_le _, Nat.zero_le _⟩ rfl rfl (fun H locs hf_3 hP hS => ?_)
  refine lv_if_ne (tgt := 11) hx hb dX2_isThingRead_6 (by decide) (fun c_6 => ?_) (fun c_6 => ?_)
  · have h := hp_neg c_6 h
    refine lv_aload_n hx hb dX2_isThingRead_11 rfl (lv_at hl 0 rfl) ?_
    obtain ⟨r_12, e_12, h⟩ := ob1_inv h
    refine k_pVi (i0 := 0) (rest := []) ⟨hx, hb, hml, hown, hts⟩ (c_X2_kindHere l dC dI cI cS a_rd a_h a_w a_h_cells rd_start rd_length r_3_at h_lane h_length h_cells r_12 e_12) (cwV 0 hts gX2_isThingRead_X2_kindHere rfl rfl rfl khd_X2_kindHere ⟨Nat.le_of_ble_eq_true rfl, Nat.le_of_ble_eq_true rfl⟩) hK hN hP (va_D_fst hD rfl) hS [0, 1, 2] rfl rfl rfl rfl rfl rfl hl.1 rfl (Nat.le_of_ble_eq_true rfl) dX2_isThingRead_12 ⟨Nat.zero_le _, Nat.zero_le _⟩ (fun H locs hf_12 hP hS => ?_)
    refine lv_istore_n (lv' := [(1, .int r_12), (0, .ref a_rd)]) hx hb dX2_isThingRead_15 rfl hl (by decide) rfl (fun ls hl => ?_)
    refine lv_iload_n hx hb dX2_isThingRead_16 rfl (lv_at hl 0 rfl) ?_
    refine lv_bipush (v := -9) hx hb dX2_isThingRead_17 (by decide) ?_
    refine lv_icmp_ne (tgt := 24) hx hb dX2_isThingRead_19 (by decide) (fun c_19 => ?_) (fun c_19 => ?_)
    · have h := hp_neg c_19 h
      refine lv_aload_n hx hb dX2_isThingRead_24 rfl (lv_at hl 1 rfl) ?_
      refine lv_dup hx hb dX2_isThingRead_25 rfl ?_
      refine va_get (D := (dC, dI)) (ci := 2) (v := .int r_3_at) (C := RX2) (T := TX2) (N := 5) hx hb hts kin_X2_isThingRead_X2 hown hK hP 0 rfl rfl 3 (Nat.le_of_ble_eq_true rfl) (hts (.fieldLink RX2 22 "OwnedThings$TextReader" "at" "I") (List.mem_of_getElem? (i := 1) rfl)) (fun _ h9 => h9) rfl dX2_isThingRead_26 ?_
      refine lv_iconst (v := 1) hx hb dX2_isThingRead_29 (by decide) ?_
      refine lv_iadd hx hb dX2_isThingRead_30 ?_
      refine va_put (D := (dC, dI)) (ci := 2) (v := .int (r_3_at + (1 : Int32))) (C := RX2) (T := TX2) (N := 5) hx hb hts kin_X2_isThingRead_X2 tyX2 tyX2_ok nmX2 hown hK hP (va_D_fst hD rfl) hS 0 rfl rfl 3 (Nat.le_of_ble_eq_true rfl) (hts (.fieldLink RX2 22 "OwnedThings$TextReader" "at" "I") (List.mem_of_getElem? (i := 1) rfl)) (fun _ h9 => h9) rfl (tyX2_ok 3 (Nat.le_of_ble_eq_true rfl)) rfl rfl (Nat.le_of_ble_eq_true rfl) dX2_isThingRead_31 (fun H locs hP _ hS => ?_)
      have hP : va_P (dC, dI) vwCl [(a_rd, .inr (2, [.ref a_h, .int rd_start, .int rd_length, .int (r_3_at + (1 : Int32)), .ref a_w])), (a_h, .inr (1, [.int h_lane, .int h_length, .ref a_h_cells])), (a_h_cells, .inl (cI, 60, .inl h_cells)), (a_w, .inr (3, [.int w_count, .int w_references, .ref a_w_kind, .ref a_w_owner, .ref a_w_from, .ref a_w_to, .ref a_w_away])), (a_w_kind, .inl (cI, 6, .inl w_kind)), (a_w_owner, .inl (cI, 6, .inl w_owner))] H := hP
      refine lv_aload_n hx hb dX2_isThingRead_34 rfl (lv_at hl 1 rfl) ?_
      obtain ⟨r_35, e_35, h⟩ := ob1_inv h
      refine k_pVi (i0 := 0) (rest := []) ⟨hx, hb, hml, hown, hts⟩ (c_X2_ownerHere l dC dI cI cS a_rd a_h a_w a_h_cells a_w_kind a_w_owner a_w_from a_w_to a_w_away rd_start rd_length (r_3_at + (1 : Int32)) h_lane h_length h_cells w_count w_references r_35 e_35) (cwV 0 hts gX2_isThingRead_X2_ownerHere rfl rfl rfl khd_X2_ownerHere ⟨Nat.le_of_ble_eq_true rfl, Nat.le_of_ble_eq_true rfl⟩) hK hN hP (va_D_fst hD rfl) hS [0, 1, 2, 3] rfl rfl rfl rfl rfl rfl hl.1 rfl (Nat.le_of_ble_eq_true rfl) dX2_isThingRead_35 ⟨Nat.zero_le _, Nat.zero_le _⟩ (fun H locs hf_35 hP hS => ?_)
      refine lv_istore_n (lv' := [(2, .int r_35), (1, .int r_12), (0, .ref a_rd)]) hx hb dX2_isThingRead_38 rfl hl (by decide) rfl (fun ls hl => ?_)
      refine lv_iload_n hx hb dX2_isThingRead_39 rfl (lv_at hl 0 rfl) ?_
      refine lv_bipush (v := -9) hx hb dX2_isThingRead_40 (by decide) ?_
      refine lv_icmp_ne (tgt := 47) hx hb dX2_isThingRead_42 (by decide) (fun c_42 => ?_) (fun c_42 => ?_)
      · have h := hp_neg c_42 h
        refine lv_aload_n hx hb dX2_isThingRead_47 rfl (lv_at hl 2 rfl) ?_
        refine lv_dup hx hb dX2_isThingRead_48 rfl ?_
        refine va_get (D := (dC, dI)) (ci := 2) (v := .int (r_3_at + (1 : Int32))) (C := RX2) (T := TX2) (N := 5) hx hb hts kin_X2_isThingRead_X2 hown hK hP 0 rfl rfl 3 (Nat.le_of_ble_eq_true rfl) (hts (.fieldLink RX2 22 "OwnedThings$TextReader" "at" "I") (List.mem_of_getElem? (i := 1) rfl)) (fun _ h9 => h9) rfl dX2_isThingRead_49 ?_
        refine lv_iconst (v := 1) hx hb dX2_isThingRead_52 (by decide) ?_
        refine lv_iadd hx hb dX2_isThingRead_53 ?_
        refine va_put (D := (dC, dI)) (ci := 2) (v := .int ((r_3_at + (1 : Int32)) + (1 : Int32))) (C := RX2) (T := TX2) (N := 5) hx hb hts kin_X2_isThingRead_X2 tyX2 tyX2_ok nmX2 hown hK hP (va_D_fst hD rfl) hS 0 rfl rfl 3 (Nat.le_of_ble_eq_true rfl) (hts (.fieldLink RX2 22 "OwnedThings$TextReader" "at" "I") (List.mem_of_getElem? (i := 1) rfl)) (fun _ h9 => h9) rfl (tyX2_ok 3 (Nat.le_of_ble_eq_true rfl)) rfl rfl (Nat.le_of_ble_eq_true rfl) dX2_isThingRead_54 (fun H locs hP _ hS => ?_)
        have hP : va_P (dC, dI) vwCl [(a_rd, .inr (2, [.ref a_h, .int rd_start, .int rd_length, .int ((r_3_at + (1 : Int32)) + (1 : Int32)), .ref a_w])), (a_h, .inr (1, [.int h_lane, .int h_length, .ref a_h_cells])), (a_h_cells, .inl (cI, 60, .inl h_cells)), (a_w, .inr (3, [.int w_count, .int w_references, .ref a_w_kind, .ref a_w_owner, .ref a_w_from, .ref a_w_to, .ref a_w_away])), (a_w_kind, .inl (cI, 6, .inl w_kind)), (a_w_owner, .inl (cI, 6, .inl w_owner))] H := hP
        refine lv_aload_n hx hb dX2_isThingRead_57 rfl (lv_at hl 2 rfl) ?_
        refine va_get (D := (dC, dI)) (ci := 2) (v := .ref a_w) (C := RX2) (T := TX2) (N := 5) hx hb hts kin_X2_isThingRead_X2 hown hK hP 0 rfl rfl 4 (Nat.le_of_ble_eq_true rfl) (hts (.fieldLink RX2 25 "OwnedThings$TextReader" "web" "LOwnedThings$Web;") (List.mem_of_getElem? (i := 2) rfl)) (fun _ h9 => h9) rfl dX2_isThingRead_58 ?_
        refine lv_iload_n hx hb dX2_isThingRead_61 rfl (lv_at hl 1 rfl) ?_
        refine lv_iload_n hx hb dX2_isThingRead_62 rfl (lv_at hl 0 rfl) ?_
        obtain ⟨r_63_count, r_63_kind, r_63_owner, e_63, h⟩ := ob3_inv h
        refine k_wVv (i0 := 3) (rest := []) (ws' := [(a_rd, .inr (2, [.ref a_h, .int rd_start, .int rd_length, .int ((r_3_at + (1 : Int32)) + (1 : Int32)), .ref a_w])), (a_h, .inr (1, [.int h_lane, .int h_length, .ref a_h_cells])), (a_h_cells, .inl (cI, 60, .inl h_cells)), (a_w, .inr (3, [.int r_63_count, .int w_references, .ref a_w_kind, .ref a_w_owner, .ref a_w_from, .ref a_w_to, .ref a_w_away])), (a_w_kind, .inl (cI, 6, .inl r_63_kind)), (a_w_owner, .inl (cI, 6, .inl r_63_owner))]) ⟨hx, hb, hml, hown, hts⟩ (c_X3_addThing l dC dI cI cS a_w a_w_kind a_w_owner a_w_from a_w_to a_w_away w_count w_references w_kind w_owner r_12 r_35 r_63_count r_63_kind r_63_owner e_63) (cwV 2 hts gX2_isThingRead_X3_addThing rfl rfl rfl khd_X3_addThing ⟨Nat.le_of_ble_eq_true rfl, Nat.le_of_ble_eq_true rfl⟩) hK hN hP (va_D_fst hD rfl) hS [3, 4, 5] rfl rfl rfl rfl rfl rfl hl.1 rfl (Nat.le_of_ble_eq_true rfl) dX2_isThingRead_63 ⟨Nat.zero_le _, Nat.zero_le _⟩ rfl rfl (fun H locs hf_63 hP hS => ?_)
        refine lv_iconst (v := 1) hx hb dX2_isThingRead_66 (by decide) ?_
        obtain ⟨rfl, rfl, rfl, rfl, rfl⟩ := pj5 (Option.some.inj h)
        exact W.zret hx hb hr (nb01 (Or.inr rfl)) (fun t ht _ => kQ.mk ht hP (Or.inr rfl) (hS.F ht)) hS.2.2 dX2_isThingRead_67
      · have h := hp_pos c_42 h
        refine lv_iconst (v := 0) hx hb dX2_isThingRead_45 (by decide) ?_
        obtain ⟨rfl, rfl, rfl, rfl, rfl⟩ := pj5 (Option.some.inj h)
        exact W.zret hx hb hr (nb01 (Or.inl rfl)) (fun t ht _ => kQ.mk ht hP (Or.inl rfl) (hS.F ht)) hS.2.2 dX2_isThingRead_46
    · have h := hp_pos c_19 h
      refine lv_iconst (v := 0) hx hb dX2_isThingRead_22 (by decide) ?_
      obtain ⟨rfl, rfl, rfl, rfl, rfl⟩ := pj5 (Option.some.inj h)
      exact W.zret hx hb hr (nb01 (Or.inl rfl)) (fun t ht _ => kQ.mk ht hP (Or.inl rfl) (hS.F ht)) hS.2.2 dX2_isThingRead_23
  · have h := hp_pos c_6 h
    refine lv_iconst (v := 0) hx hb dX2_isThingRead_9 (by decide) ?_
    obtain ⟨rfl, rfl, rfl, rfl, rfl⟩ := pj5 (Option.some.inj h)
    exact W.zret hx hb hr (nb01 (Or.inl rfl)) (fun t ht _ => kQ.mk ht hP (Or.inl rfl) (hS.F ht)) hS.2.2 dX2_isThingRead_10
theorem kin_X2_areThingsRead_X2 : ∀ w ∈ wsX20, w ∈ wsX2_areThingsRead := fun _ h => List.mem_cons_of_mem _ (List.mem_append_left _ (List.mem_append_left _ (List.mem_append_right _ h)))
theorem kin_X2_areThingsRead_X1 : ∀ w ∈ wsX10, w ∈ wsX2_areThingsRead := fun _ h => List.mem_cons_of_mem _ (List.mem_append_left _ (List.mem_append_right _ h))
theorem kin_X2_areThingsRead_X3 : ∀ w ∈ wsX30, w ∈ wsX2_areThingsRead := fun _ h => List.mem_cons_of_mem _ (List.mem_append_right _ h)
theorem khd_X2_areThingsRead : yX2_areThingsRead.cls = RX2 ∧ yX2_areThingsRead.cls ≠ "java/lang/invoke/MethodHandle" ∧ yX2_areThingsRead.cls ≠ "java/lang/invoke/VarHandle" ∧ (parseMethodDescriptor yX2_areThingsRead.desc).map (fun d => d.parameters.length) = some 0 := by decide +kernel
set_option maxHeartbeats 8000000 in
set_option maxRecDepth 100000 in
theorem c_X2_areThingsRead (l : Launch) (dC : Nat → ClassId) (dI : Nat → Nat → Nat) (cI cS : ClassId) (a_rd : Nat) (a_h : Nat) (a_w : Nat) (a_h_cells : Nat) (a_w_kind : Nat) (a_w_owner : Nat) (a_w_from : Nat) (a_w_to : Nat) (a_w_away : Nat) (rd_start : Int32) (rd_length : Int32) (rd_at : Int32) (h_lane : Int32) (h_length : Int32) (h_cells : Nat → Int32) (w_count : Int32) (w_references : Int32) (w_kind : Nat → Int32) (w_owner : Nat → Int32) (r : Int32) (z_rd_at : Int32) (z_w_count : Int32) (z_w_kind : Nat → Int32) (z_w_owner : Nat → Int32) (h : f_X2_areThingsRead rd_start rd_length rd_at h_length h_cells w_count w_kind w_owner = some (r, z_rd_at, z_w_count, z_w_kind, z_w_owner)) : Mk l yX2_areThingsRead wsX2_areThingsRead ({ frames := 4, cells := 0, slots := 0, locals := 84 } : Room) (dC, dI) cI cS [(a_rd, .inr (2, [.ref a_h, .int rd_start, .int rd_length, .int rd_at, .ref a_w])), (a_h, .inr (1, [.int h_lane, .int h_length, .ref a_h_cells])), (a_h_cells, .inl (cI, 60, .inl h_cells)), (a_w, .inr (3, [.int w_count, .int w_references, .ref a_w_kind, .ref a_w_owner, .ref a_w_from, .ref a_w_to, .ref a_w_away])), (a_w_kind, .inl (cI, 6, .inl w_kind)), (a_w_owner, .inl (cI, 6, .inl w_owner))] [.ref a_rd] (some (.int r)) (r = 0 ∨ r = 1) (fun H => va_P (dC, dI) vwCl [(a_rd, .inr (2, [.ref a_h, .int rd_start, .int rd_length, .int z_rd_at, .ref a_w])), (a_h, .inr (1, [.int h_lane, .int h_length, .ref a_h_cells])), (a_h_cells, .inl (cI, 60, .inl h_cells)), (a_w, .inr (3, [.int z_w_count, .int w_references, .ref a_w_kind, .ref a_w_owner, .ref a_w_from, .ref a_w_to, .ref a_w_away])), (a_w_kind, .inl (cI, 6, .inl z_w_kind)), (a_w_owner, .inl (cI, 6, .inl z_w_owner))] H) (inA (List.map Prod.fst ([(a_rd, .inr (2, [.ref a_h, .int rd_start, .int rd_length, .int rd_at, .ref a_w])), (a_h, .inr (1, [.int h_lane, .int h_length, .ref a_h_cells])), (a_h_cells, .inl (cI, 60, .inl h_cells)), (a_w, .inr (3, [.int w_count, .int w_references, .ref a_w_kind, .ref a_w_owner, .ref a_w_from, .ref a_w_to, .ref a_w_away])), (a_w_kind, .inl (cI, 6, .inl w_kind)), (a_w_owner, .inl (cI, 6, .inl w_owner))] : va_W))) := by
  refine Met.ofW (cc := cX2_areThingsRead) (maxL := 2) (ret := (some .boolean)) (by decide) rfl ?_
  intro p e s m args below meth c s₁ B hml hv
  obtain ⟨rfl, hP, hK, hN, hD⟩ := hv
  have hx := B.exec
  have hb := B.bytes
  have hr := B.returns
  have hts := atoms_spec (ws := wsX2_areThingsRead) B.pre
  have hown : s.vm.findClass RX2 = some m.cls := findClass_of_methodNamed B.named
  have hlocks := B.notSynchronized
  have hS : va_S (inA [a_rd, a_h, a_h_cells, a_w, a_w_kind, a_w_owner]) s.heap s.heap [] := va_S.rf
  have hP : va_P (dC, dI) vwCl [(a_rd, .inr (2, [.ref a_h, .int rd_start, .int rd_length, .int rd_at, .ref a_w])), (a_h, .inr (1, [.int h_lane, .int h_length, .ref a_h_cells])), (a_h_cells, .inl (cI, 60, .inl h_cells)), (a_w, .inr (3, [.int w_count, .int w_references, .ref a_w_kind, .ref a_w_owner, .ref a_w_from, .ref a_w_to, .ref a_w_away])), (a_w_kind, .inl (cI, 6, .inl w_kind)), (a_w_owner, .inl (cI, 6, .inl w_owner))] s.heap := hP
  have hD : va_D (inA [a_rd, a_h, a_h_cells, a_w, a_w_kind, a_w_owner]) [(a_rd, .inr (2, [.ref a_h, .int rd_start, .int rd_length, .int rd_at, .ref a_w])), (a_h, .inr (1, [.int h_lane, .int h_length, .ref a_h_cells])), (a_h_cells, .inl (cI, 60, .inl h_cells)), (a_w, .inr (3, [.int w_count, .int w_references, .ref a_w_kind, .ref a_w_owner, .ref a_w_from, .ref a_w_to, .ref a_w_away])), (a_w_kind, .inl (cI, 6, .inl w_kind)), (a_w_owner, .inl (cI, 6, .inl w_owner))] := va_D_in hD rfl
  have hl := lv_entry ([.ref a_rd]) (n := 2) (Nat.le_of_ble_eq_true rfl)
  rw [lg_entry_eq]
  generalize (lg_sl ([.ref a_rd]) ++ List.replicate (2 - (lg_sl ([.ref a_rd])).length) Slot.unset).toArray = ls at hl ⊢
  have hl : lv_has ls 2 [(0, .ref a_rd)] := hl
  unfold f_X2_areThingsRead at h
  refine lv_iconst (v := 0) hx hb dX2_areThingsRead_0 (by decide) ?_
  refine lv_istore_n (lv' := [(1, .int (0 : Int32)), (0, .ref a_rd)]) hx hb dX2_areThingsRead_1 rfl hl (by decide) rfl (fun ls hl => ?_)
  obtain ⟨o_2, K_2, i_2, hk_2, h⟩ := os4_inv h
  have after_2 : ∀ (rd_at_2e : Int32) (w_count_2e : Int32) (w_kind_2e : Nat → Int32) (w_owner_2e : Nat → Int32) (_ : K_2 rd_at_2e w_count_2e w_kind_2e w_owner_2e) (H : Heap) (locs : List Loc) (ls : Array Slot), va_P (dC, dI) vwCl [(a_rd, .inr (2, [.ref a_h, .int rd_start, .int rd_length, .int rd_at_2e, .ref a_w])), (a_h, .inr (1, [.int h_lane, .int h_length, .ref a_h_cells])), (a_h_cells, .inl (cI, 60, .inl h_cells)), (a_w, .inr (3, [.int w_count_2e, .int w_references, .ref a_w_kind, .ref a_w_owner, .ref a_w_from, .ref a_w_to, .ref a_w_away])), (a_w_kind, .inl (cI, 6, .inl w_kind_2e)), (a_w_owner, .inl (cI, 6, .inl w_owner_2e))] H → va_S (inA [a_rd, a_h, a_h_cells, a_w, a_w_kind, a_w_owner]) s.heap H locs → lv_has ls 2 [] → W p l e (headSpec wsX2_areThingsRead ({ frames := 4, cells := 0, slots := 0, locals := 84 } : Room)).room s m ([.ref a_rd] : List Value).toArray below meth c H locs 0 0 (MQ below (kQ (some (.int r)) (r = 0 ∨ r = 1) (fun H => va_P (dC, dI) vwCl [(a_rd, .inr (2, [.ref a_h, .int rd_start, .int rd_length, .int z_rd_at, .ref a_w])), (a_h, .inr (1, [.int h_lane, .int h_length, .ref a_h_cells])), (a_h_cells, .inl (cI, 60, .inl h_cells)), (a_w, .inr (3, [.int z_w_count, .int w_references, .ref a_w_kind, .ref a_w_owner, .ref a_w_from, .ref a_w_to, .ref a_w_away])), (a_w_kind, .inl (cI, 6, .inl z_w_kind)), (a_w_owner, .inl (cI, 6, .inl z_w_owner))] H) (inA (List.map Prod.fst ([(a_rd, .inr (2, [.ref a_h, .int rd_start, .int rd_length, .int rd_at, .ref a_w])), (a_h, .inr (1, [.int h_lane, .int h_length, .ref a_h_cells])), (a_h_cells, .inl (cI, 60, .inl h_cells)), (a_w, .inr (3, [.int w_count, .int w_references, .ref a_w_kind, .ref a_w_owner, .ref a_w_from, .ref a_w_to, .ref a_w_away])), (a_w_kind, .inl (cI, 6, .inl w_kind)), (a_w_owner, .inl (cI, 6, .inl w_owner))] : va_W)))) ([.ref a_rd] : List Value).toArray s 0 0 (inA (List.map Prod.fst ([(a_rd, .inr (2, [.ref a_h, .int rd_start, .int rd_length, .int rd_at, .ref a_w])), (a_h, .inr (1, [.int h_lane, .int h_length, .ref a_h_cells])), (a_h_cells, .inl (cI, 60, .inl h_cells)), (a_w, .inr (3, [.int w_count, .int w_references, .ref a_w_kind, .ref a_w_owner, .ref a_w_from, .ref a_w_to, .ref a_w_away])), (a_w_kind, .inl (cI, 6, .inl w_kind)), (a_w_owner, .inl (cI, 6, .inl w_owner))] : va_W)))) (F0 m 38 ls []) := by
    intro rd_at_2e w_count_2e w_kind_2e w_owner_2e ha H locs ls hP hS hl
    have h := hk_2 _ _ _ _ ha
    refine lv_iconst (v := 1) hx hb dX2_areThingsRead_38 (by decide) ?_
    obtain ⟨rfl, rfl, rfl, rfl, rfl⟩ := pj5 (Option.some.inj h)
    exact W.zret hx hb hr (nb01 (Or.inr rfl)) (fun t ht _ => kQ.mk ht hP (Or.inr rfl) (hS.F ht)) hS.2.2 dX2_areThingsRead_39
  have lp_2 : ∀ (n : Nat) (x1_2 : Int32) (rd_at_2 : Int32) (w_count_2 : Int32) (w_kind_2 : Nat → Int32) (w_owner_2 : Nat → Int32) (H : Heap) (locs : List Loc) (ls : Array Slot), it (u5 (L_X2_areThingsRead_2 rd_start rd_length h_length h_cells)) n (x1_2, rd_at_2, w_count_2, w_kind_2, w_owner_2) = some o_2 → va_P (dC, dI) vwCl [(a_rd, .inr (2, [.ref a_h, .int rd_start, .int rd_length, .int rd_at_2, .ref a_w])), (a_h, .inr (1, [.int h_lane, .int h_length, .ref a_h_cells])), (a_h_cells, .inl (cI, 60, .inl h_cells)), (a_w, .inr (3, [.int w_count_2, .int w_references, .ref a_w_kind, .ref a_w_owner, .ref a_w_from, .ref a_w_to, .ref a_w_away])), (a_w_kind, .inl (cI, 6, .inl w_kind_2)), (a_w_owner, .inl (cI, 6, .inl w_owner_2))] H → va_S (inA [a_rd, a_h, a_h_cells, a_w, a_w_kind, a_w_owner]) s.heap H locs → lv_has ls 2 [(0, .ref a_rd), (1, .int x1_2)] → W p l e (headSpec wsX2_areThingsRead ({ frames := 4, cells := 0, slots := 0, locals := 84 } : Room)).room s m ([.ref a_rd] : List Value).toArray below meth c H locs 0 0 (MQ below (kQ (some (.int r)) (r = 0 ∨ r = 1) (fun H => va_P (dC, dI) vwCl [(a_rd, .inr (2, [.ref a_h, .int rd_start, .int rd_length, .int z_rd_at, .ref a_w])), (a_h, .inr (1, [.int h_lane, .int h_length, .ref a_h_cells])), (a_h_cells, .inl (cI, 60, .inl h_cells)), (a_w, .inr (3, [.int z_w_count, .int w_references, .ref a_w_kind, .ref a_w_owner, .ref a_w_from, .ref a_w_to, .ref a_w_away])), (a_w_kind, .inl (cI, 6, .inl z_w_kind)), (a_w_owner, .inl (cI, 6, .inl z_w_owner))] H) (inA (List.map Prod.fst ([(a_rd, .inr (2, [.ref a_h, .int rd_start, .int rd_length, .int rd_at, .ref a_w])), (a_h, .inr (1, [.int h_lane, .int h_length, .ref a_h_cells])), (a_h_cells, .inl (cI, 60, .inl h_cells)), (a_w, .inr (3, [.int w_count, .int w_references, .ref a_w_kind, .ref a_w_owner, .ref a_w_from, .ref a_w_to, .ref a_w_away])), (a_w_kind, .inl (cI, 6, .inl w_kind)), (a_w_owner, .inl (cI, 6, .inl w_owner))] : va_W)))) ([.ref a_rd] : List Value).toArray s 0 0 (inA (List.map Prod.fst ([(a_rd, .inr (2, [.ref a_h, .int rd_start, .int rd_length, .int rd_at, .ref a_w])), (a_h, .inr (1, [.int h_lane, .int h_length, .ref a_h_cells])), (a_h_cells, .inl (cI, 60, .inl h_cells)), (a_w, .inr (3, [.int w_count, .int w_references, .ref a_w_kind, .ref a_w_owner, .ref a_w_from, .ref a_w_to, .ref a_w_away])), (a_w_kind, .inl (cI, 6, .inl w_kind)), (a_w_owner, .inl (cI, 6, .inl w_owner))] : va_W)))) (F0 m 2 ls []) := by
    intro n
    induction n with
    | zero => intro x1_2 rd_at_2 w_count_2 w_kind_2 w_owner_2 H locs ls h1; exact (it_0 h1).elim
    | succ n ih_2 =>
      intro x1_2 rd_at_2 w_count_2 w_kind_2 w_owner_2 H locs ls h1 hP hS hl
      obtain ⟨t_2, h1, k1⟩ := it5_inv h1
      unfold L_X2_areThingsRead_2 at h1
      refine lv_iload_n hx hb dX2_areThingsRead_2 rfl (lv_at hl 1 rfl) ?_
      refine lv_bipush (v := 6) hx hb dX2_areThingsRead_3 (by decide) ?_
      refine lv_icmp_ge (tgt := 38) hx hb dX2_areThingsRead_5 (by decide) (fun c_5 => ?_) (fun c_5 => ?_)
      · have h1 := hp_pos c_5 h1
        cases h1
        obtain rfl := pj1 k1
        exact after_2 _ _ _ _ h _ _ _ hP hS (lv_sub hl [] rfl)
      · have h1 := hp_neg c_5 h1
        refine lv_iload_n hx hb dX2_areThingsRead_8 rfl (lv_at hl 1 rfl) ?_
        refine lv_if_le (tgt := 23) hx hb dX2_areThingsRead_9 (by decide) (fun c_9 => ?_) (fun c_9 => ?_)
        · have h1 := hp_pos c_9 h1
          refine lv_aload_n hx hb dX2_areThingsRead_23 rfl (lv_at hl 0 rfl) ?_
          obtain ⟨r_24, r_24_at, r_24_count, r_24_kind, r_24_owner, e_24, h1⟩ := ob5_inv h1
          refine k_wVi (i0 := 0) (rest := []) (ws' := [(a_rd, .inr (2, [.ref a_h, .int rd_start, .int rd_length, .int r_24_at, .ref a_w])), (a_h, .inr (1, [.int h_lane, .int h_length, .ref a_h_cells])), (a_h_cells, .inl (cI, 60, .inl h_cells)), (a_w, .inr (3, [.int r_24_count, .int w_references, .ref a_w_kind, .ref a_w_owner, .ref a_w_from, .ref a_w_to, .ref a_w_away])), (a_w_kind, .inl (cI, 6, .inl r_24_kind)), (a_w_owner, .inl (cI, 6, .inl r_24_owner))]) ⟨hx, hb, hml, hown, hts⟩ (c_X2_isThingRead l dC dI cI cS a_rd a_h a_w a_h_cells a_w_kind a_w_owner a_w_from a_w_to a_w_away rd_start rd_length rd_at_2 h_lane h_length h_cells w_count_2 w_references w_kind_2 w_owner_2 r_24 r_24_at r_24_count r_24_kind r_24_owner e_24) (cwV 0 hts gX2_areThingsRead_X2_isThingRead rfl rfl rfl khd_X2_isThingRead ⟨Nat.le_of_ble_eq_true rfl, Nat.le_of_ble_eq_true rfl⟩) hK hN hP (va_D_fst hD rfl) hS [0, 1, 2, 3, 4, 5] rfl rfl rfl rfl rfl rfl hl.1 rfl (Nat.le_of_ble_eq_true rfl) dX2_areThingsRead_24 ⟨Nat.zero_le _, Nat.zero_le _⟩ rfl rfl (fun H locs hf_24 hP hS => ?_)
          refine lv_if_ne (tgt := 32) hx hb dX2_areThingsRead_27 (by decide) (fun c_27 => ?_) (fun c_27 => ?_)
          · have h1 := hp_neg c_27 h1
            refine lv_iinc (v := (x1_2 + (1 : Int32))) (lv' := [(1, .int (x1_2 + (1 : Int32))), (0, .ref a_rd)]) hx hb dX2_areThingsRead_32 hl (k := 1) rfl rfl (by decide) rfl (fun ls hl => ?_)
            refine lv_goto (tgt := 2) hx hb dX2_areThingsRead_35 (by decide) ?_
            cases h1
            exact ih_2 _ _ _ _ _ _ _ _ k1 hP hS (lv_sub hl [1, 0] rfl)
          · have h1 := hp_pos c_27 h1
            refine lv_iconst (v := 0) hx hb dX2_areThingsRead_30 (by decide) ?_
            cases h1
            obtain rfl := pj1 k1
            have h := congrArg some h
            obtain ⟨rfl, rfl, rfl, rfl, rfl⟩ := pj5 (Option.some.inj h)
            exact W.zret hx hb hr (nb01 (Or.inl rfl)) (fun t ht _ => kQ.mk ht hP (Or.inl rfl) (hS.F ht)) hS.2.2 dX2_areThingsRead_31
        · have h1 := hp_neg c_9 h1
          refine lv_aload_n hx hb dX2_areThingsRead_12 rfl (lv_at hl 0 rfl) ?_
          obtain ⟨r_13, e_13, h1⟩ := ob1_inv h1
          refine k_pVi (i0 := 0) (rest := []) ⟨hx, hb, hml, hown, hts⟩ (c_X2_codeHere l dC dI cI cS a_rd a_h a_w a_h_cells rd_start rd_length rd_at_2 h_lane h_length h_cells r_13 e_13) (cwV 0 hts gX2_areThingsRead_X2_codeHere rfl rfl rfl khd_X2_codeHere ⟨Nat.le_of_ble_eq_true rfl, Nat.le_of_ble_eq_true rfl⟩) hK hN hP (va_D_fst hD rfl) hS [0, 1, 2] rfl rfl rfl rfl rfl rfl hl.1 rfl (Nat.le_of_ble_eq_true rfl) dX2_areThingsRead_13 ⟨Nat.zero_le _, Nat.zero_le _⟩ (fun H locs hf_13 hP hS => ?_)
          refine lv_bipush (v := 59) hx hb dX2_areThingsRead_16 (by decide) ?_
          refine lv_icmp_eq (tgt := 23) hx hb dX2_areThingsRead_18 (by decide) (fun c_18 => ?_) (fun c_18 => ?_)
          · have h1 := hp_pos c_18 h1
            refine lv_aload_n hx hb dX2_areThingsRead_23 rfl (lv_at hl 0 rfl) ?_
            obtain ⟨r_24, r_24_at, r_24_count, r_24_kind, r_24_owner, e_24, h1⟩ := ob5_inv h1
            refine k_wVi (i0 := 0) (rest := []) (ws' := [(a_rd, .inr (2, [.ref a_h, .int rd_start, .int rd_length, .int r_24_at, .ref a_w])), (a_h, .inr (1, [.int h_lane, .int h_length, .ref a_h_cells])), (a_h_cells, .inl (cI, 60, .inl h_cells)), (a_w, .inr (3, [.int r_24_count, .int w_references, .ref a_w_kind, .ref a_w_owner, .ref a_w_from, .ref a_w_to, .ref a_w_away])), (a_w_kind, .inl (cI, 6, .inl r_24_kind)), (a_w_owner, .inl (cI, 6, .inl r_24_owner))]) ⟨hx, hb, hml, hown, hts⟩ (c_X2_isThingRead l dC dI cI cS a_rd a_h a_w a_h_cells a_w_kind a_w_owner a_w_from a_w_to a_w_away rd_start rd_length rd_at_2 h_lane h_length h_cells w_count_2 w_references w_kind_2 w_owner_2 r_24 r_24_at r_24_count r_24_kind r_24_owner e_24) (cwV 0 hts gX2_areThingsRead_X2_isThingRead rfl rfl rfl khd_X2_isThingRead ⟨Nat.le_of_ble_eq_true rfl, Nat.le_of_ble_eq_true rfl⟩) hK hN hP (va_D_fst hD rfl) hS [0, 1, 2, 3, 4, 5] rfl rfl rfl rfl rfl rfl hl.1 rfl (Nat.le_of_ble_eq_true rfl) dX2_areThingsRead_24 ⟨Nat.zero_le _, Nat.zero_le _⟩ rfl rfl (fun H locs hf_24 hP hS => ?_)
            refine lv_if_ne (tgt := 32) hx hb dX2_areThingsRead_27 (by decide) (fun c_27 => ?_) (fun c_27 => ?_)
            · have h1 := hp_neg c_27 h1
              refine lv_iinc (v := (x1_2 + (1 : Int32))) (lv' := [(1, .int (x1_2 + (1 : Int32))), (0, .ref a_rd)]) hx hb dX2_areThingsRead_32 hl (k := 1) rfl rfl (by decide) rfl (fun ls hl => ?_)
              refine lv_goto (tgt := 2) hx hb dX2_areThingsRead_35 (by decide) ?_
              cases h1
              exact ih_2 _ _ _ _ _ _ _ _ k1 hP hS (lv_sub hl [1, 0] rfl)
            · have h1 := hp_pos c_27 h1
              refine lv_iconst (v := 0) hx hb dX2_areThingsRead_30 (by decide) ?_
              cases h1
              obtain rfl := pj1 k1
              have h := congrArg some h
              obtain ⟨rfl, rfl, rfl, rfl, rfl⟩ := pj5 (Option.some.inj h)
              exact W.zret hx hb hr (nb01 (Or.inl rfl)) (fun t ht _ => kQ.mk ht hP (Or.inl rfl) (hS.F ht)) hS.2.2 dX2_areThingsRead_31
          · have h1 := hp_neg c_18 h1
            refine lv_iconst (v := 1) hx hb dX2_areThingsRead_21 (by decide) ?_
            cases h1
            obtain rfl := pj1 k1
            have h := congrArg some h
            obtain ⟨rfl, rfl, rfl, rfl, rfl⟩ := pj5 (Option.some.inj h)
            exact W.zret hx hb hr (nb01 (Or.inr rfl)) (fun t ht _ => kQ.mk ht hP (Or.inr rfl) (hS.F ht)) hS.2.2 dX2_areThingsRead_22
  exact lp_2 FUEL _ _ _ _ _ _ _ _ i_2 hP hS (lv_sub hl [1, 0] rfl)
theorem kin_X2_firstFault_X2 : ∀ w ∈ wsX20, w ∈ wsX2_firstFault := fun _ h => List.mem_cons_of_mem _ (List.mem_append_left _ (List.mem_append_left _ (List.mem_append_right _ h)))
theorem kin_X2_firstFault_X3 : ∀ w ∈ wsX30, w ∈ wsX2_firstFault := fun _ h => List.mem_cons_of_mem _ (List.mem_append_left _ (List.mem_append_right _ h))
theorem kin_X2_firstFault_X1 : ∀ w ∈ wsX10, w ∈ wsX2_firstFault := fun _ h => List.mem_cons_of_mem _ (List.mem_append_right _ h)
theorem khd_X2_firstFault : yX2_firstFault.cls = RX2 ∧ yX2_firstFault.cls ≠ "java/lang/invoke/MethodHandle" ∧ yX2_firstFault.cls ≠ "java/lang/invoke/VarHandle" ∧ (parseMethodDescriptor yX2_firstFault.desc).map (fun d => d.parameters.length) = some 3 := by decide +kernel
set_option maxHeartbeats 8000000 in
set_option maxRecDepth 100000 in
theorem c_X2_firstFault (l : Launch) (dC : Nat → ClassId) (dI : Nat → Nat → Nat) (cI cS : ClassId) (a_rd : Nat) (q_row : Nat) (a_w : Nat) (a_h : Nat) (a_h_cells : Nat) (a_w_kind : Nat) (a_w_owner : Nat) (a_w_from : Nat) (a_w_to : Nat) (a_w_away : Nat) (rd_start : Int32) (rd_length : Int32) (rd_at : Int32) (h_lane : Int32) (h_length : Int32) (h_cells : Nat → Int32) (w_count : Int32) (w_references : Int32) (w_kind : Nat → Int32) (w_owner : Nat → Int32) (w_from : Nat → Int32) (w_to : Nat → Int32) (x2 : Int32) (x3 : Int32) (r : Int32) (z_rd_start : Int32) (z_rd_length : Int32) (z_rd_at : Int32) (z_w_count : Int32) (z_w_references : Int32) (z_w_kind : Nat → Int32) (z_w_owner : Nat → Int32) (z_w_from : Nat → Int32) (z_w_to : Nat → Int32) (h : f_X2_firstFault h_length h_cells w_kind w_owner w_from w_to x2 x3 = some (r, z_rd_start, z_rd_length, z_rd_at, z_w_count, z_w_references, z_w_kind, z_w_owner, z_w_from, z_w_to)) : Mk l yX2_firstFault wsX2_firstFault ({ frames := 5, cells := 0, slots := 0, locals := 105 } : Room) (dC, dI) cI cS [(a_rd, .inr (2, [.ref q_row, .int rd_start, .int rd_length, .int rd_at, .ref a_w])), (a_h, .inr (1, [.int h_lane, .int h_length, .ref a_h_cells])), (a_h_cells, .inl (cI, 60, .inl h_cells)), (a_w, .inr (3, [.int w_count, .int w_references, .ref a_w_kind, .ref a_w_owner, .ref a_w_from, .ref a_w_to, .ref a_w_away])), (a_w_kind, .inl (cI, 6, .inl w_kind)), (a_w_owner, .inl (cI, 6, .inl w_owner)), (a_w_from, .inl (cI, 12, .inl w_from)), (a_w_to, .inl (cI, 12, .inl w_to))] [.ref a_rd, .ref a_h, .int x2, .int x3] (some (.int r)) True (fun H => va_P (dC, dI) vwCl [(a_rd, .inr (2, [.ref a_h, .int z_rd_start, .int z_rd_length, .int z_rd_at, .ref a_w])), (a_h, .inr (1, [.int h_lane, .int h_length, .ref a_h_cells])), (a_h_cells, .inl (cI, 60, .inl h_cells)), (a_w, .inr (3, [.int z_w_count, .int z_w_references, .ref a_w_kind, .ref a_w_owner, .ref a_w_from, .ref a_w_to, .ref a_w_away])), (a_w_kind, .inl (cI, 6, .inl z_w_kind)), (a_w_owner, .inl (cI, 6, .inl z_w_owner)), (a_w_from, .inl (cI, 12, .inl z_w_from)), (a_w_to, .inl (cI, 12, .inl z_w_to))] H) (inA (List.map Prod.fst ([(a_rd, .inr (2, [.ref q_row, .int rd_start, .int rd_length, .int rd_at, .ref a_w])), (a_h, .inr (1, [.int h_lane, .int h_length, .ref a_h_cells])), (a_h_cells, .inl (cI, 60, .inl h_cells)), (a_w, .inr (3, [.int w_count, .int w_references, .ref a_w_kind, .ref a_w_owner, .ref a_w_from, .ref a_w_to, .ref a_w_away])), (a_w_kind, .inl (cI, 6, .inl w_kind)), (a_w_owner, .inl (cI, 6, .inl w_owner)), (a_w_from, .inl (cI, 12, .inl w_from)), (a_w_to, .inl (cI, 12, .inl w_to))] : va_W))) := by
  refine Met.ofW (cc := cX2_firstFault) (maxL := 5) (ret := (some .int)) (by decide) rfl ?_
  intro p e s m args below meth c s₁ B hml hv
  obtain ⟨rfl, hP, hK, hN, hD⟩ := hv
  have hx := B.exec
  have hb := B.bytes
  have hr := B.returns
  have hts := atoms_spec (ws := wsX2_firstFault) B.pre
  have hown : s.vm.findClass RX2 = some m.cls := findClass_of_methodNamed B.named
  have hlocks := B.notSynchronized
  have hS : va_S (inA [a_rd, a_h, a_h_cells, a_w, a_w_kind, a_w_owner, a_w_from, a_w_to]) s.heap s.heap [] := va_S.rf
  have hP : va_P (dC, dI) vwCl [(a_rd, .inr (2, [.ref q_row, .int rd_start, .int rd_length, .int rd_at, .ref a_w])), (a_h, .inr (1, [.int h_lane, .int h_length, .ref a_h_cells])), (a_h_cells, .inl (cI, 60, .inl h_cells)), (a_w, .inr (3, [.int w_count, .int w_references, .ref a_w_kind, .ref a_w_owner, .ref a_w_from, .ref a_w_to, .ref a_w_away])), (a_w_kind, .inl (cI, 6, .inl w_kind)), (a_w_owner, .inl (cI, 6, .inl w_owner)), (a_w_from, .inl (cI, 12, .inl w_from)), (a_w_to, .inl (cI, 12, .inl w_to))] s.heap := hP
  have hD : va_D (inA [a_rd, a_h, a_h_cells, a_w, a_w_kind, a_w_owner, a_w_from, a_w_to]) [(a_rd, .inr (2, [.ref q_row, .int rd_start, .int rd_length, .int rd_at, .ref a_w])), (a_h, .inr (1, [.int h_lane, .int h_length, .ref a_h_cells])), (a_h_cells, .inl (cI, 60, .inl h_cells)), (a_w, .inr (3, [.int w_count, .int w_references, .ref a_w_kind, .ref a_w_owner, .ref a_w_from, .ref a_w_to, .ref a_w_away])), (a_w_kind, .inl (cI, 6, .inl w_kind)), (a_w_owner, .inl (cI, 6, .inl w_owner)), (a_w_from, .inl (cI, 12, .inl w_from)), (a_w_to, .inl (cI, 12, .inl w_to))] := va_D_in hD rfl
  have hl := lv_entry ([.ref a_rd, .ref a_h, .int x2, .int x3]) (n := 5) (Nat.le_of_ble_eq_true rfl)
  rw [lg_entry_eq]
  generalize (lg_sl ([.ref a_rd, .ref a_h, .int x2, .int x3]) ++ List.replicate (5 - (lg_sl ([.ref a_rd, .ref a_h, .int x2, .int x3])).length) Slot.unset).toArray = ls at hl ⊢
  have hl : lv_has ls 5 [(0, .ref a_rd), (1, .ref a_h), (2, .int x2), (3, .int x3)] := hl
  unfold f_X2_firstFault at h
  refine lv_aload_n hx hb dX2_firstFault_0 rfl (lv_at hl 0 rfl) ?_
  refine lv_aload_n hx hb dX2_firstFault_1 rfl (lv_at hl 1 rfl) ?_
  refine va_put (D := (dC, dI)) (ci := 2) (v := .ref a_h) (C := RX2) (T := TX2) (N := 5) hx hb hts kin_X2_firstFault_X2 tyX2 tyX2_ok nmX2 hown hK hP (va_D_fst hD rfl) hS 0 rfl rfl 0 (Nat.le_of_ble_eq_true rfl) (hts (.fieldLink RX2 9 "OwnedThings$TextReader" "row" "LOwnedThings$Sheet;") (List.mem_of_getElem? (i := 1) rfl)) (fun _ h9 => h9) rfl (tyX2_ok 0 (Nat.le_of_ble_eq_true rfl)) rfl rfl (Nat.le_of_ble_eq_true rfl) dX2_firstFault_2 (fun H locs hP _ hS => ?_)
  have hP : va_P (dC, dI) vwCl [(a_rd, .inr (2, [.ref a_h, .int rd_start, .int rd_length, .int rd_at, .ref a_w])), (a_h, .inr (1, [.int h_lane, .int h_length, .ref a_h_cells])), (a_h_cells, .inl (cI, 60, .inl h_cells)), (a_w, .inr (3, [.int w_count, .int w_references, .ref a_w_kind, .ref a_w_owner, .ref a_w_from, .ref a_w_to, .ref a_w_away])), (a_w_kind, .inl (cI, 6, .inl w_kind)), (a_w_owner, .inl (cI, 6, .inl w_owner)), (a_w_from, .inl (cI, 12, .inl w_from)), (a_w_to, .inl (cI, 12, .inl w_to))] H := hP
  refine lv_aload_n hx hb dX2_firstFault_5 rfl (lv_at hl 0 rfl) ?_
  refine lv_iload_n hx hb dX2_firstFault_6 rfl (lv_at hl 2 rfl) ?_
  refine va_put (D := (dC, dI)) (ci := 2) (v := .int x2) (C := RX2) (T := TX2) (N := 5) hx hb hts kin_X2_firstFault_X2 tyX2 tyX2_ok nmX2 hown hK hP (va_D_fst hD rfl) hS 0 rfl rfl 1 (Nat.le_of_ble_eq_true rfl) (hts (.fieldLink RX2 15 "OwnedThings$TextReader" "start" "I") (List.mem_of_getElem? (i := 2) rfl)) (fun _ h9 => h9) rfl (tyX2_ok 1 (Nat.le_of_ble_eq_true rfl)) rfl rfl (Nat.le_of_ble_eq_true rfl) dX2_firstFault_7 (fun H locs hP _ hS => ?_)
  have hP : va_P (dC, dI) vwCl [(a_rd, .inr (2, [.ref a_h, .int x2, .int rd_length, .int rd_at, .ref a_w])), (a_h, .inr (1, [.int h_lane, .int h_length, .ref a_h_cells])), (a_h_cells, .inl (cI, 60, .inl h_cells)), (a_w, .inr (3, [.int w_count, .int w_references, .ref a_w_kind, .ref a_w_owner, .ref a_w_from, .ref a_w_to, .ref a_w_away])), (a_w_kind, .inl (cI, 6, .inl w_kind)), (a_w_owner, .inl (cI, 6, .inl w_owner)), (a_w_from, .inl (cI, 12, .inl w_from)), (a_w_to, .inl (cI, 12, .inl w_to))] H := hP
  refine lv_aload_n hx hb dX2_firstFault_10 rfl (lv_at hl 0 rfl) ?_
  refine lv_iload_n hx hb dX2_firstFault_11 rfl (lv_at hl 3 rfl) ?_
  refine va_put (D := (dC, dI)) (ci := 2) (v := .int x3) (C := RX2) (T := TX2) (N := 5) hx hb hts kin_X2_firstFault_X2 tyX2 tyX2_ok nmX2 hown hK hP (va_D_fst hD rfl) hS 0 rfl rfl 2 (Nat.le_of_ble_eq_true rfl) (hts (.fieldLink RX2 19 "OwnedThings$TextReader" "length" "I") (List.mem_of_getElem? (i := 3) rfl)) (fun _ h9 => h9) rfl (tyX2_ok 2 (Nat.le_of_ble_eq_true rfl)) rfl rfl (Nat.le_of_ble_eq_true rfl) dX2_firstFault_12 (fun H locs hP _ hS => ?_)
  have hP : va_P (dC, dI) vwCl [(a_rd, .inr (2, [.ref a_h, .int x2, .int x3, .int rd_at, .ref a_w])), (a_h, .inr (1, [.int h_lane, .int h_length, .ref a_h_cells])), (a_h_cells, .inl (cI, 60, .inl h_cells)), (a_w, .inr (3, [.int w_count, .int w_references, .ref a_w_kind, .ref a_w_owner, .ref a_w_from, .ref a_w_to, .ref a_w_away])), (a_w_kind, .inl (cI, 6, .inl w_kind)), (a_w_owner, .inl (cI, 6, .inl w_owner)), (a_w_from, .inl (cI, 12, .inl w_from)), (a_w_to, .inl (cI, 12, .inl w_to))] H := hP
  refine lv_aload_n hx hb dX2_firstFault_15 rfl (lv_at hl 0 rfl) ?_
  refine lv_iconst (v := 0) hx hb dX2_firstFault_16 (by decide) ?_
  refine va_put (D := (dC, dI)) (ci := 2) (v := .int (0 : Int32)) (C := RX2) (T := TX2) (N := 5) hx hb hts kin_X2_firstFault_X2 tyX2 tyX2_ok nmX2 hown hK hP (va_D_fst hD rfl) hS 0 rfl rfl 3 (Nat.le_of_ble_eq_true rfl) (hts (.fieldLink RX2 22 "OwnedThings$TextReader" "at" "I") (List.mem_of_getElem? (i := 4) rfl)) (fun _ h9 => h9) rfl (tyX2_ok 3 (Nat.le_of_ble_eq_true rfl)) rfl rfl (Nat.le_of_ble_eq_true rfl) dX2_firstFault_17 (fun H locs hP _ hS => ?_)
  have hP : va_P (dC, dI) vwCl [(a_rd, .inr (2, [.ref a_h, .int x2, .int x3, .int (0 : Int32), .ref a_w])), (a_h, .inr (1, [.int h_lane, .int h_length, .ref a_h_cells])), (a_h_cells, .inl (cI, 60, .inl h_cells)), (a_w, .inr (3, [.int w_count, .int w_references, .ref a_w_kind, .ref a_w_owner, .ref a_w_from, .ref a_w_to, .ref a_w_away])), (a_w_kind, .inl (cI, 6, .inl w_kind)), (a_w_owner, .inl (cI, 6, .inl w_owner)), (a_w_from, .inl (cI, 12, .inl w_from)), (a_w_to, .inl (cI, 12, .inl w_to))] H := hP
  refine lv_aload_n hx hb dX2_firstFault_20 rfl (lv_at hl 0 rfl) ?_
  refine va_get (D := (dC, dI)) (ci := 2) (v := .ref a_w) (C := RX2) (T := TX2) (N := 5) hx hb hts kin_X2_firstFault_X2 hown hK hP 0 rfl rfl 4 (Nat.le_of_ble_eq_true rfl) (hts (.fieldLink RX2 25 "OwnedThings$TextReader" "web" "LOwnedThings$Web;") (List.mem_of_getElem? (i := 5) rfl)) (fun _ h9 => h9) rfl dX2_firstFault_21 ?_
  obtain ⟨r_24_count, r_24_references, e_24, h⟩ := ob2_inv h
  refine k_wVv (i0 := 3) (rest := []) (ws' := [(a_rd, .inr (2, [.ref a_h, .int x2, .int x3, .int (0 : Int32), .ref a_w])), (a_h, .inr (1, [.int h_lane, .int h_length, .ref a_h_cells])), (a_h_cells, .inl (cI, 60, .inl h_cells)), (a_w, .inr (3, [.int r_24_count, .int r_24_references, .ref a_w_kind, .ref a_w_owner, .ref a_w_from, .ref a_w_to, .ref a_w_away])), (a_w_kind, .inl (cI, 6, .inl w_kind)), (a_w_owner, .inl (cI, 6, .inl w_owner)), (a_w_from, .inl (cI, 12, .inl w_from)), (a_w_to, .inl (cI, 12, .inl w_to))]) ⟨hx, hb, hml, hown, hts⟩ (c_X3_clear l dC dI cI cS a_w a_w_kind a_w_owner a_w_from a_w_to a_w_away w_count w_references r_24_count r_24_references e_24) (cwV 0 hts gX2_firstFault_X3_clear rfl rfl rfl khd_X3_clear ⟨Nat.le_of_ble_eq_true rfl, Nat.le_of_ble_eq_true rfl⟩) hK hN hP (va_D_fst hD rfl) hS [3] rfl rfl rfl rfl rfl rfl hl.1 rfl (Nat.le_of_ble_eq_true rfl) dX2_firstFault_24 ⟨Nat.zero_le _, Nat.zero_le _⟩ rfl rfl (fun H locs hf_24 hP hS => ?_)
  refine lv_aload_n hx hb dX2_firstFault_27 rfl (lv_at hl 0 rfl) ?_
  refine lv_bipush (v := 111) hx hb dX2_firstFault_28 (by decide) ?_
  obtain ⟨r_30, r_30_at, e_30, h⟩ := ob2_inv h
  refine k_wVi (i0 := 0) (rest := []) (ws' := [(a_rd, .inr (2, [.ref a_h, .int x2, .int x3, .int r_30_at, .ref a_w])), (a_h, .inr (1, [.int h_lane, .int h_length, .ref a_h_cells])), (a_h_cells, .inl (cI, 60, .inl h_cells)), (a_w, .inr (3, [.int r_24_count, .int r_24_references, .ref a_w_kind, .ref a_w_owner, .ref a_w_from, .ref a_w_to, .ref a_w_away])), (a_w_kind, .inl (cI, 6, .inl w_kind)), (a_w_owner, .inl (cI, 6, .inl w_owner)), (a_w_from, .inl (cI, 12, .inl w_from)), (a_w_to, .inl (cI, 12, .inl w_to))]) ⟨hx, hb, hml, hown, hts⟩ (c_X2_isTaken l dC dI cI cS a_rd a_h a_w a_h_cells x2 x3 (0 : Int32) h_lane h_length h_cells (111 : Int32) r_30 r_30_at e_30) (cwV 1 hts gX2_firstFault_X2_isTaken rfl rfl rfl khd_X2_isTaken ⟨Nat.le_of_ble_eq_true rfl, Nat.le_of_ble_eq_true rfl⟩) hK hN hP (va_D_fst hD rfl) hS [0, 1, 2] rfl rfl rfl rfl rfl rfl hl.1 rfl (Nat.le_of_ble_eq_true rfl) dX2_firstFault_30 ⟨Nat.zero_le _, Nat.zero_le _⟩ rfl rfl (fun H locs hf_30 hP hS => ?_)
  refine lv_if_eq (tgt := 65) hx hb dX2_firstFault_33 (by decide) (fun c_33 => ?_) (fun c_33 => ?_)
  · have h := hp_pos c_33 h
    refine lv_iconst (v := 0) hx hb dX2_firstFault_65 (by decide) ?_
    refine lv_istore (lv' := [(4, .int (0 : Int32)), (0, .ref a_rd), (1, .ref a_h), (2, .int x2), (3, .int x3)]) hx hb dX2_firstFault_66 hl (by decide) rfl (fun ls hl => ?_)
    refine lv_iload hx hb dX2_firstFault_68 (lv_at hl 0 rfl) ?_
    refine lv_if_eq (tgt := 77) hx hb dX2_firstFault_70 (by decide) (fun c_70 => ?_) (fun c_70 => absurd c_70 (by decide))
    refine lv_aload_n hx hb dX2_firstFault_77 rfl (lv_at hl 1 rfl) ?_
    refine va_get (D := (dC, dI)) (ci := 2) (v := .int r_30_at) (C := RX2) (T := TX2) (N := 5) hx hb hts kin_X2_firstFault_X2 hown hK hP 0 rfl rfl 3 (Nat.le_of_ble_eq_true rfl) (hts (.fieldLink RX2 22 "OwnedThings$TextReader" "at" "I") (List.mem_of_getElem? (i := 4) rfl)) (fun _ h9 => h9) rfl dX2_firstFault_78 ?_
    obtain ⟨rfl, rfl, rfl, rfl, rfl, rfl, rfl, rfl, rfl, rfl⟩ := pj10 (Option.some.inj h)
    exact W.iret hx hb hr (fun t ht _ => kQ.mk ht hP trivial (hS.F ht)) hS.2.2 dX2_firstFault_81
  · have h := hp_neg c_33 h
    refine lv_aload_n hx hb dX2_firstFault_36 rfl (lv_at hl 0 rfl) ?_
    obtain ⟨r_37, r_37_at, r_37_count, r_37_kind, r_37_owner, e_37, h⟩ := ob5_inv h
    refine k_wVi (i0 := 0) (rest := []) (ws' := [(a_rd, .inr (2, [.ref a_h, .int x2, .int x3, .int r_37_at, .ref a_w])), (a_h, .inr (1, [.int h_lane, .int h_length, .ref a_h_cells])), (a_h_cells, .inl (cI, 60, .inl h_cells)), (a_w, .inr (3, [.int r_37_count, .int r_24_references, .ref a_w_kind, .ref a_w_owner, .ref a_w_from, .ref a_w_to, .ref a_w_away])), (a_w_kind, .inl (cI, 6, .inl r_37_kind)), (a_w_owner, .inl (cI, 6, .inl r_37_owner)), (a_w_from, .inl (cI, 12, .inl w_from)), (a_w_to, .inl (cI, 12, .inl w_to))]) ⟨hx, hb, hml, hown, hts⟩ (c_X2_areThingsRead l dC dI cI cS a_rd a_h a_w a_h_cells a_w_kind a_w_owner a_w_from a_w_to a_w_away x2 x3 r_30_at h_lane h_length h_cells r_24_count r_24_references w_kind w_owner r_37 r_37_at r_37_count r_37_kind r_37_owner e_37) (cwV 0 hts gX2_firstFault_X2_areThingsRead rfl rfl rfl khd_X2_areThingsRead ⟨Nat.le_of_ble_eq_true rfl, Nat.le_of_ble_eq_true rfl⟩) hK hN hP (va_D_fst hD rfl) hS [0, 1, 2, 3, 4, 5] rfl rfl rfl rfl rfl rfl hl.1 rfl (Nat.le_of_ble_eq_true rfl) dX2_firstFault_37 ⟨Nat.zero_le _, Nat.zero_le _⟩ rfl rfl (fun H locs hf_37 hP hS => ?_)
    refine lv_if_eq (tgt := 65) hx hb dX2_firstFault_40 (by decide) (fun c_40 => ?_) (fun c_40 => ?_)
    · have h := hp_pos c_40 h
      refine lv_iconst (v := 0) hx hb dX2_firstFault_65 (by decide) ?_
      refine lv_istore (lv' := [(4, .int (0 : Int32)), (0, .ref a_rd), (1, .ref a_h), (2, .int x2), (3, .int x3)]) hx hb dX2_firstFault_66 hl (by decide) rfl (fun ls hl => ?_)
      refine lv_iload hx hb dX2_firstFault_68 (lv_at hl 0 rfl) ?_
      refine lv_if_eq (tgt := 77) hx hb dX2_firstFault_70 (by decide) (fun c_70 => ?_) (fun c_70 => absurd c_70 (by decide))
      refine lv_aload_n hx hb dX2_firstFault_77 rfl (lv_at hl 1 rfl) ?_
      refine va_get (D := (dC, dI)) (ci := 2) (v := .int r_37_at) (C := RX2) (T := TX2) (N := 5) hx hb hts kin_X2_firstFault_X2 hown hK hP 0 rfl rfl 3 (Nat.le_of_ble_eq_true rfl) (hts (.fieldLink RX2 22 "OwnedThings$TextReader" "at" "I") (List.mem_of_getElem? (i := 4) rfl)) (fun _ h9 => h9) rfl dX2_firstFault_78 ?_
      obtain ⟨rfl, rfl, rfl, rfl, rfl, rfl, rfl, rfl, rfl, rfl⟩ := pj10 (Option.some.inj h)
      exact W.iret hx hb hr (fun t ht _ => kQ.mk ht hP trivial (hS.F ht)) hS.2.2 dX2_firstFault_81
    · have h := hp_neg c_40 h
      refine lv_aload_n hx hb dX2_firstFault_43 rfl (lv_at hl 0 rfl) ?_
      obtain ⟨r_44, r_44_at, r_44_references, r_44_from, r_44_to, e_44, h⟩ := ob5_inv h
      refine k_wVi (i0 := 0) (rest := []) (ws' := [(a_rd, .inr (2, [.ref a_h, .int x2, .int x3, .int r_44_at, .ref a_w])), (a_h, .inr (1, [.int h_lane, .int h_length, .ref a_h_cells])), (a_h_cells, .inl (cI, 60, .inl h_cells)), (a_w, .inr (3, [.int r_37_count, .int r_44_references, .ref a_w_kind, .ref a_w_owner, .ref a_w_from, .ref a_w_to, .ref a_w_away])), (a_w_kind, .inl (cI, 6, .inl r_37_kind)), (a_w_owner, .inl (cI, 6, .inl r_37_owner)), (a_w_from, .inl (cI, 12, .inl r_44_from)), (a_w_to, .inl (cI, 12, .inl r_44_to))]) ⟨hx, hb, hml, hown, hts⟩ (c_X2_areReferencesRead l dC dI cI cS a_rd a_h a_w a_h_cells a_w_kind a_w_owner a_w_from a_w_to a_w_away x2 x3 r_37_at h_lane h_length h_cells r_37_count r_24_references w_from w_to r_44 r_44_at r_44_references r_44_from r_44_to e_44) (cwV 0 hts gX2_firstFault_X2_areReferencesRead rfl rfl rfl khd_X2_areReferencesRead ⟨Nat.le_of_ble_eq_true rfl, Nat.le_of_ble_eq_true rfl⟩) hK hN hP (va_D_fst hD rfl) hS [0, 1, 2, 3, 6, 7] rfl rfl rfl rfl rfl rfl hl.1 rfl (Nat.le_of_ble_eq_true rfl) dX2_firstFault_44 ⟨Nat.zero_le _, Nat.zero_le _⟩ rfl rfl (fun H locs hf_44 hP hS => ?_)
      refine lv_if_eq (tgt := 65) hx hb dX2_firstFault_47 (by decide) (fun c_47 => ?_) (fun c_47 => ?_)
      · have h := hp_pos c_47 h
        refine lv_iconst (v := 0) hx hb dX2_firstFault_65 (by decide) ?_
        refine lv_istore (lv' := [(4, .int (0 : Int32)), (0, .ref a_rd), (1, .ref a_h), (2, .int x2), (3, .int x3)]) hx hb dX2_firstFault_66 hl (by decide) rfl (fun ls hl => ?_)
        refine lv_iload hx hb dX2_firstFault_68 (lv_at hl 0 rfl) ?_
        refine lv_if_eq (tgt := 77) hx hb dX2_firstFault_70 (by decide) (fun c_70 => ?_) (fun c_70 => absurd c_70 (by decide))
        refine lv_aload_n hx hb dX2_firstFault_77 rfl (lv_at hl 1 rfl) ?_
        refine va_get (D := (dC, dI)) (ci := 2) (v := .int r_44_at) (C := RX2) (T := TX2) (N := 5) hx hb hts kin_X2_firstFault_X2 hown hK hP 0 rfl rfl 3 (Nat.le_of_ble_eq_true rfl) (hts (.fieldLink RX2 22 "OwnedThings$TextReader" "at" "I") (List.mem_of_getElem? (i := 4) rfl)) (fun _ h9 => h9) rfl dX2_firstFault_78 ?_
        obtain ⟨rfl, rfl, rfl, rfl, rfl, rfl, rfl, rfl, rfl, rfl⟩ := pj10 (Option.some.inj h)
        exact W.iret hx hb hr (fun t ht _ => kQ.mk ht hP trivial (hS.F ht)) hS.2.2 dX2_firstFault_81
      · have h := hp_neg c_47 h
        refine lv_aload_n hx hb dX2_firstFault_50 rfl (lv_at hl 0 rfl) ?_
        refine va_get (D := (dC, dI)) (ci := 2) (v := .int r_44_at) (C := RX2) (T := TX2) (N := 5) hx hb hts kin_X2_firstFault_X2 hown hK hP 0 rfl rfl 3 (Nat.le_of_ble_eq_true rfl) (hts (.fieldLink RX2 22 "OwnedThings$TextReader" "at" "I") (List.mem_of_getElem? (i := 4) rfl)) (fun _ h9 => h9) rfl dX2_firstFault_51 ?_
        refine lv_aload_n hx hb dX2_firstFault_54 rfl (lv_at hl 0 rfl) ?_
        refine va_get (D := (dC, dI)) (ci := 2) (v := .int x3) (C := RX2) (T := TX2) (N := 5) hx hb hts kin_X2_firstFault_X2 hown hK hP 0 rfl rfl 2 (Nat.le_of_ble_eq_true rfl) (hts (.fieldLink RX2 19 "OwnedThings$TextReader" "length" "I") (List.mem_of_getElem? (i := 3) rfl)) (fun _ h9 => h9) rfl dX2_firstFault_55 ?_
        refine lv_icmp_ne (tgt := 65) hx hb dX2_firstFault_58 (by decide) (fun c_58 => ?_) (fun c_58 => ?_)
        · have h := hp_neg c_58 h
          refine lv_iconst (v := 0) hx hb dX2_firstFault_65 (by decide) ?_
          refine lv_istore (lv' := [(4, .int (0 : Int32)), (0, .ref a_rd), (1, .ref a_h), (2, .int x2), (3, .int x3)]) hx hb dX2_firstFault_66 hl (by decide) rfl (fun ls hl => ?_)
          refine lv_iload hx hb dX2_firstFault_68 (lv_at hl 0 rfl) ?_
          refine lv_if_eq (tgt := 77) hx hb dX2_firstFault_70 (by decide) (fun c_70 => ?_) (fun c_70 => absurd c_70 (by decide))
          refine lv_aload_n hx hb dX2_firstFault_77 rfl (lv_at hl 1 rfl) ?_
          refine va_get (D := (dC, dI)) (ci := 2) (v := .int r_44_at) (C := RX2) (T := TX2) (N := 5) hx hb hts kin_X2_firstFault_X2 hown hK hP 0 rfl rfl 3 (Nat.le_of_ble_eq_true rfl) (hts (.fieldLink RX2 22 "OwnedThings$TextReader" "at" "I") (List.mem_of_getElem? (i := 4) rfl)) (fun _ h9 => h9) rfl dX2_firstFault_78 ?_
          obtain ⟨rfl, rfl, rfl, rfl, rfl, rfl, rfl, rfl, rfl, rfl⟩ := pj10 (Option.some.inj h)
          exact W.iret hx hb hr (fun t ht _ => kQ.mk ht hP trivial (hS.F ht)) hS.2.2 dX2_firstFault_81
        · have h := hp_pos c_58 h
          refine lv_iconst (v := 1) hx hb dX2_firstFault_61 (by decide) ?_
          refine lv_goto (tgt := 66) hx hb dX2_firstFault_62 (by decide) ?_
          refine lv_istore (lv' := [(4, .int (1 : Int32)), (0, .ref a_rd), (1, .ref a_h), (2, .int x2), (3, .int x3)]) hx hb dX2_firstFault_66 hl (by decide) rfl (fun ls hl => ?_)
          refine lv_iload hx hb dX2_firstFault_68 (lv_at hl 0 rfl) ?_
          refine lv_if_eq (tgt := 77) hx hb dX2_firstFault_70 (by decide) (fun c_70 => absurd c_70 (by decide)) (fun c_70 => ?_)
          refine lv_iconst (v := -1) hx hb dX2_firstFault_73 (by decide) ?_
          refine lv_goto (tgt := 81) hx hb dX2_firstFault_74 (by decide) ?_
          obtain ⟨rfl, rfl, rfl, rfl, rfl, rfl, rfl, rfl, rfl, rfl⟩ := pj10 (Option.some.inj h)
          exact W.iret hx hb hr (fun t ht _ => kQ.mk ht hP trivial (hS.F ht)) hS.2.2 dX2_firstFault_81
