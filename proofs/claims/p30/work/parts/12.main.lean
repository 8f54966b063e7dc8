theorem kin_X4_failed_X4 : ∀ w ∈ wsX40, w ∈ wsX4_failed := fun _ h => List.mem_cons_of_mem _ (List.mem_append_right _ h)
theorem khd_X4_failed : yX4_failed.cls = RX4 ∧ yX4_failed.cls ≠ "java/lang/invoke/MethodHandle" ∧ yX4_failed.cls ≠ "java/lang/invoke/VarHandle" ∧ (parseMethodDescriptor yX4_failed.desc).map (fun d => d.parameters.length) = some 1 := by decide +kernel
set_option maxHeartbeats 8000000 in
set_option maxRecDepth 100000 in
theorem c_X4_failed (l : Launch) (dC : Nat → ClassId) (dI : Nat → Nat → Nat) (cI cS : ClassId) (a_o : Nat) (a_n : Nat) (a_t : Nat) (a_d : Nat) (a_o_sheets : Nat) (a_rd : Nat) (o_traced : Int32) (o_lastFault : Int32) (x1 : Int32) (r : Int32) (z_o_lastFault : Int32) (h : f_X4_failed x1 = some (r, z_o_lastFault)) : Mk l yX4_failed wsX4_failed ({ frames := 0, cells := 0, slots := 0, locals := 0 } : Room) (dC, dI) cI cS [(a_o, .inr (4, [.ref a_n, .ref a_t, .ref a_d, .ref a_o_sheets, .ref a_rd, .int o_traced, .int o_lastFault]))] [.ref a_o, .int x1] (some (.int r)) True (fun H => va_P (dC, dI) vwCl [(a_o, .inr (4, [.ref a_n, .ref a_t, .ref a_d, .ref a_o_sheets, .ref a_rd, .int o_traced, .int z_o_lastFault]))] H) (inA (List.map Prod.fst ([(a_o, .inr (4, [.ref a_n, .ref a_t, .ref a_d, .ref a_o_sheets, .ref a_rd, .int o_traced, .int o_lastFault]))] : va_W))) := by
  refine Met.ofW (cc := cX4_failed) (maxL := 2) (ret := (some .int)) (by decide) rfl ?_
  intro p e s m args below meth c s₁ B hml hv
  obtain ⟨rfl, hP, hK, hN, hD⟩ := hv
  have hx := B.exec
  have hb := B.bytes
  have hr := B.returns
  have hts := atoms_spec (ws := wsX4_failed) B.pre
  have hown : s.vm.findClass RX4 = some m.cls := findClass_of_methodNamed B.named
  have hlocks := B.notSynchronized
  have hS : va_S (inA [a_o]) s.heap s.heap [] := va_S.rf
  have hP : va_P (dC, dI) vwCl [(a_o, .inr (4, [.ref a_n, .ref a_t, .ref a_d, .ref a_o_sheets, .ref a_rd, .int o_traced, .int o_lastFault]))] s.heap := hP
  have hD : va_D (inA [a_o]) [(a_o, .inr (4, [.ref a_n, .ref a_t, .ref a_d, .ref a_o_sheets, .ref a_rd, .int o_traced, .int o_lastFault]))] := va_D_in hD rfl
  have hl := lv_entry ([.ref a_o, .int x1]) (n := 2) (Nat.le_of_ble_eq_true rfl)
  rw [lg_entry_eq]
  generalize (lg_sl ([.ref a_o, .int x1]) ++ List.replicate (2 - (lg_sl ([.ref a_o, .int x1])).length) Slot.unset).toArray = ls at hl ⊢
  have hl : lv_has ls 2 [(0, .ref a_o), (1, .int x1)] := hl
  unfold f_X4_failed at h
  refine lv_aload_n hx hb dX4_failed_0 rfl (lv_at hl 0 rfl) ?_
  refine lv_iload_n hx hb dX4_failed_1 rfl (lv_at hl 1 rfl) ?_
  refine va_put (D := (dC, dI)) (ci := 4) (v := .int x1) (C := RX4) (T := TX4) (N := 7) hx hb hts kin_X4_failed_X4 tyX4 tyX4_ok nmX4 hown hK hP (va_D_fst hD rfl) hS 0 rfl rfl 6 (Nat.le_of_ble_eq_true rfl) (hts (.fieldLink RX4 48 "OwnedThings" "lastFault" "I") (List.mem_of_getElem? (i := 1) rfl)) (fun _ h9 => h9) rfl (tyX4_ok 6 (Nat.le_of_ble_eq_true rfl)) rfl rfl (Nat.le_of_ble_eq_true rfl) dX4_failed_2 (fun H locs hP _ hS => ?_)
  have hP : va_P (dC, dI) vwCl [(a_o, .inr (4, [.ref a_n, .ref a_t, .ref a_d, .ref a_o_sheets, .ref a_rd, .int o_traced, .int x1]))] H := hP
  refine lv_bipush (v := -10) hx hb dX4_failed_5 (by decide) ?_
  refine lv_iload_n hx hb dX4_failed_7 rfl (lv_at hl 1 rfl) ?_
  refine lv_isub hx hb dX4_failed_8 ?_
  obtain ⟨rfl, rfl⟩ := pj2 (Option.some.inj h)
  exact W.iret hx hb hr (fun t ht _ => kQ.mk ht hP trivial (hS.F ht)) hS.2.2 dX4_failed_9
theorem kin_X4_things_X4 : ∀ w ∈ wsX40, w ∈ wsX4_things := fun _ h => List.mem_cons_of_mem _ (List.mem_append_left _ (List.mem_append_left _ (List.mem_append_left _ (List.mem_append_left _ (List.mem_append_right _ h)))))
theorem kin_X4_things_X1 : ∀ w ∈ wsX10, w ∈ wsX4_things := fun _ h => List.mem_cons_of_mem _ (List.mem_append_left _ (List.mem_append_left _ (List.mem_append_left _ (List.mem_append_right _ h))))
theorem kin_X4_things_X2 : ∀ w ∈ wsX20, w ∈ wsX4_things := fun _ h => List.mem_cons_of_mem _ (List.mem_append_left _ (List.mem_append_left _ (List.mem_append_right _ h)))
theorem kin_X4_things_X3 : ∀ w ∈ wsX30, w ∈ wsX4_things := fun _ h => List.mem_cons_of_mem _ (List.mem_append_left _ (List.mem_append_right _ h))
theorem kin_X4_things_X0 : ∀ w ∈ wsX00, w ∈ wsX4_things := fun _ h => List.mem_cons_of_mem _ (List.mem_append_right _ h)
theorem khd_X4_things : yX4_things.cls = RX4 ∧ yX4_things.cls ≠ "java/lang/invoke/MethodHandle" ∧ yX4_things.cls ≠ "java/lang/invoke/VarHandle" ∧ (parseMethodDescriptor yX4_things.desc).map (fun d => d.parameters.length) = some 4 := by decide +kernel
set_option maxHeartbeats 8000000 in
set_option maxRecDepth 100000 in
theorem c_X4_things (l : Launch) (dC : Nat → ClassId) (dI : Nat → Nat → Nat) (cI cS : ClassId) (a_o : Nat) (a_n : Nat) (a_t : Nat) (a_d : Nat) (a_o_sheets : Nat) (a_rd : Nat) (a_d_one : Nat) (a_d_other : Nat) (a_d_less : Nat) (q_row : Nat) (a_n_kind : Nat) (a_n_owner : Nat) (a_n_from : Nat) (a_n_to : Nat) (a_n_away : Nat) (a_t_kind : Nat) (a_t_owner : Nat) (a_t_from : Nat) (a_t_to : Nat) (a_t_away : Nat) (sa : Nat → Nat) (sca : Nat → Nat) (o_traced : Int32) (o_lastFault : Int32) (d_count : Int32) (rd_start : Int32) (rd_length : Int32) (rd_at : Int32) (n_count : Int32) (n_references : Int32) (n_kind : Nat → Int32) (n_owner : Nat → Int32) (n_from : Nat → Int32) (n_to : Nat → Int32) (t_count : Int32) (t_references : Int32) (t_kind : Nat → Int32) (t_owner : Nat → Int32) (t_from : Nat → Int32) (t_to : Nat → Int32) (sl : Nat → Int32) (sn : Nat → Int32) (sc : Nat → Nat → Int32) (x1 : Int32) (x2 : Int32) (x3 : Int32) (x4 : Int32) (r : Int32) (z_o_lastFault : Int32) (z_d_count : Int32) (z_rd_start : Int32) (z_rd_length : Int32) (z_rd_at : Int32) (z_n_count : Int32) (z_n_references : Int32) (z_n_kind : Nat → Int32) (z_n_owner : Nat → Int32) (z_n_from : Nat → Int32) (z_n_to : Nat → Int32) (z_t_count : Int32) (z_t_references : Int32) (z_t_kind : Nat → Int32) (z_t_owner : Nat → Int32) (z_t_from : Nat → Int32) (z_t_to : Nat → Int32) (h : f_X4_things d_count rd_start rd_length rd_at n_count n_references n_kind n_owner n_from n_to t_count t_references t_kind t_owner t_from t_to sl sn sc x1 x2 x3 x4 = some (r, z_o_lastFault, z_d_count, z_rd_start, z_rd_length, z_rd_at, z_n_count, z_n_references, z_n_kind, z_n_owner, z_n_from, z_n_to, z_t_count, z_t_references, z_t_kind, z_t_owner, z_t_from, z_t_to)) : Mk l yX4_things wsX4_things ({ frames := 6, cells := 0, slots := 0, locals := 129 } : Room) (dC, dI) cI cS [(a_o, .inr (4, [.ref a_n, .ref a_t, .ref a_d, .ref a_o_sheets, .ref a_rd, .int o_traced, .int o_lastFault])), (a_o_sheets, .inl (cS, 4, .inr (.inr (.inr (.inr (fun j => some (sa j))))))), (a_d, .inr (0, [.int d_count, .ref a_d_one, .ref a_d_other, .ref a_d_less])), (a_rd, .inr (2, [.ref q_row, .int rd_start, .int rd_length, .int rd_at, .ref a_t])), (a_n, .inr (3, [.int n_count, .int n_references, .ref a_n_kind, .ref a_n_owner, .ref a_n_from, .ref a_n_to, .ref a_n_away])), (a_n_kind, .inl (cI, 6, .inl n_kind)), (a_n_owner, .inl (cI, 6, .inl n_owner)), (a_n_from, .inl (cI, 12, .inl n_from)), (a_n_to, .inl (cI, 12, .inl n_to)), (a_t, .inr (3, [.int t_count, .int t_references, .ref a_t_kind, .ref a_t_owner, .ref a_t_from, .ref a_t_to, .ref a_t_away])), (a_t_kind, .inl (cI, 6, .inl t_kind)), (a_t_owner, .inl (cI, 6, .inl t_owner)), (a_t_from, .inl (cI, 12, .inl t_from)), (a_t_to, .inl (cI, 12, .inl t_to)), ((sa 0), .inr (1, [.int (sl 0), .int (sn 0), .ref (sca 0)])), ((sca 0), .inl (cI, 60, .inl (sc 0))), ((sa 1), .inr (1, [.int (sl 1), .int (sn 1), .ref (sca 1)])), ((sca 1), .inl (cI, 60, .inl (sc 1))), ((sa 2), .inr (1, [.int (sl 2), .int (sn 2), .ref (sca 2)])), ((sca 2), .inl (cI, 60, .inl (sc 2))), ((sa 3), .inr (1, [.int (sl 3), .int (sn 3), .ref (sca 3)])), ((sca 3), .inl (cI, 60, .inl (sc 3)))] [.ref a_o, .int x1, .int x2, .int x3, .int x4] (some (.int r)) True (fun H => ∃ q2_row : Nat, va_P (dC, dI) vwCl [(a_o, .inr (4, [.ref a_n, .ref a_t, .ref a_d, .ref a_o_sheets, .ref a_rd, .int o_traced, .int z_o_lastFault])), (a_o_sheets, .inl (cS, 4, .inr (.inr (.inr (.inr (fun j => some (sa j))))))), (a_d, .inr (0, [.int z_d_count, .ref a_d_one, .ref a_d_other, .ref a_d_less])), (a_rd, .inr (2, [.ref q2_row, .int z_rd_start, .int z_rd_length, .int z_rd_at, .ref a_t])), (a_n, .inr (3, [.int z_n_count, .int z_n_references, .ref a_n_kind, .ref a_n_owner, .ref a_n_from, .ref a_n_to, .ref a_n_away])), (a_n_kind, .inl (cI, 6, .inl z_n_kind)), (a_n_owner, .inl (cI, 6, .inl z_n_owner)), (a_n_from, .inl (cI, 12, .inl z_n_from)), (a_n_to, .inl (cI, 12, .inl z_n_to)), (a_t, .inr (3, [.int z_t_count, .int z_t_references, .ref a_t_kind, .ref a_t_owner, .ref a_t_from, .ref a_t_to, .ref a_t_away])), (a_t_kind, .inl (cI, 6, .inl z_t_kind)), (a_t_owner, .inl (cI, 6, .inl z_t_owner)), (a_t_from, .inl (cI, 12, .inl z_t_from)), (a_t_to, .inl (cI, 12, .inl z_t_to)), ((sa 0), .inr (1, [.int (sl 0), .int (sn 0), .ref (sca 0)])), ((sca 0), .inl (cI, 60, .inl (sc 0))), ((sa 1), .inr (1, [.int (sl 1), .int (sn 1), .ref (sca 1)])), ((sca 1), .inl (cI, 60, .inl (sc 1))), ((sa 2), .inr (1, [.int (sl 2), .int (sn 2), .ref (sca 2)])), ((sca 2), .inl (cI, 60, .inl (sc 2))), ((sa 3), .inr (1, [.int (sl 3), .int (sn 3), .ref (sca 3)])), ((sca 3), .inl (cI, 60, .inl (sc 3)))] H) (inA (List.map Prod.fst ([(a_o, .inr (4, [.ref a_n, .ref a_t, .ref a_d, .ref a_o_sheets, .ref a_rd, .int o_traced, .int o_lastFault])), (a_o_sheets, .inl (cS, 4, .inr (.inr (.inr (.inr (fun j => some (sa j))))))), (a_d, .inr (0, [.int d_count, .ref a_d_one, .ref a_d_other, .ref a_d_less])), (a_rd, .inr (2, [.ref q_row, .int rd_start, .int rd_length, .int rd_at, .ref a_t])), (a_n, .inr (3, [.int n_count, .int n_references, .ref a_n_kind, .ref a_n_owner, .ref a_n_from, .ref a_n_to, .ref a_n_away])), (a_n_kind, .inl (cI, 6, .inl n_kind)), (a_n_owner, .inl (cI, 6, .inl n_owner)), (a_n_from, .inl (cI, 12, .inl n_from)), (a_n_to, .inl (cI, 12, .inl n_to)), (a_t, .inr (3, [.int t_count, .int t_references, .ref a_t_kind, .ref a_t_owner, .ref a_t_from, .ref a_t_to, .ref a_t_away])), (a_t_kind, .inl (cI, 6, .inl t_kind)), (a_t_owner, .inl (cI, 6, .inl t_owner)), (a_t_from, .inl (cI, 12, .inl t_from)), (a_t_to, .inl (cI, 12, .inl t_to)), ((sa 0), .inr (1, [.int (sl 0), .int (sn 0), .ref (sca 0)])), ((sca 0), .inl (cI, 60, .inl (sc 0))), ((sa 1), .inr (1, [.int (sl 1), .int (sn 1), .ref (sca 1)])), ((sca 1), .inl (cI, 60, .inl (sc 1))), ((sa 2), .inr (1, [.int (sl 2), .int (sn 2), .ref (sca 2)])), ((sca 2), .inl (cI, 60, .inl (sc 2))), ((sa 3), .inr (1, [.int (sl 3), .int (sn 3), .ref (sca 3)])), ((sca 3), .inl (cI, 60, .inl (sc 3)))] : va_W))) := by
  refine Met.ofW (cc := cX4_things) (maxL := 7) (ret := (some .int)) (by decide) rfl ?_
  intro p e s m args below meth c s₁ B hml hv
  obtain ⟨rfl, hP, hK, hN, hD⟩ := hv
  have hx := B.exec
  have hb := B.bytes
  have hr := B.returns
  have hts := atoms_spec (ws := wsX4_things) B.pre
  have hown : s.vm.findClass RX4 = some m.cls := findClass_of_methodNamed B.named
  have hlocks := B.notSynchronized
  have hS : va_S (inA [a_o, a_o_sheets, a_d, a_rd, a_n, a_n_kind, a_n_owner, a_n_from, a_n_to, a_t, a_t_kind, a_t_owner, a_t_from, a_t_to, (sa 0), (sca 0), (sa 1), (sca 1), (sa 2), (sca 2), (sa 3), (sca 3)]) s.heap s.heap [] := va_S.rf
  have hP : va_P (dC, dI) vwCl [(a_o, .inr (4, [.ref a_n, .ref a_t, .ref a_d, .ref a_o_sheets, .ref a_rd, .int o_traced, .int o_lastFault])), (a_o_sheets, .inl (cS, 4, .inr (.inr (.inr (.inr (fun j => some (sa j))))))), (a_d, .inr (0, [.int d_count, .ref a_d_one, .ref a_d_other, .ref a_d_less])), (a_rd, .inr (2, [.ref q_row, .int rd_start, .int rd_length, .int rd_at, .ref a_t])), (a_n, .inr (3, [.int n_count, .int n_references, .ref a_n_kind, .ref a_n_owner, .ref a_n_from, .ref a_n_to, .ref a_n_away])), (a_n_kind, .inl (cI, 6, .inl n_kind)), (a_n_owner, .inl (cI, 6, .inl n_owner)), (a_n_from, .inl (cI, 12, .inl n_from)), (a_n_to, .inl (cI, 12, .inl n_to)), (a_t, .inr (3, [.int t_count, .int t_references, .ref a_t_kind, .ref a_t_owner, .ref a_t_from, .ref a_t_to, .ref a_t_away])), (a_t_kind, .inl (cI, 6, .inl t_kind)), (a_t_owner, .inl (cI, 6, .inl t_owner)), (a_t_from, .inl (cI, 12, .inl t_from)), (a_t_to, .inl (cI, 12, .inl t_to)), ((sa 0), .inr (1, [.int (sl 0), .int (sn 0), .ref (sca 0)])), ((sca 0), .inl (cI, 60, .inl (sc 0))), ((sa 1), .inr (1, [.int (sl 1), .int (sn 1), .ref (sca 1)])), ((sca 1), .inl (cI, 60, .inl (sc 1))), ((sa 2), .inr (1, [.int (sl 2), .int (sn 2), .ref (sca 2)])), ((sca 2), .inl (cI, 60, .inl (sc 2))), ((sa 3), .inr (1, [.int (sl 3), .int (sn 3), .ref (sca 3)])), ((sca 3), .inl (cI, 60, .inl (sc 3)))] s.heap := hP
  have hD : va_D (inA [a_o, a_o_sheets, a_d, a_rd, a_n, a_n_kind, a_n_owner, a_n_from, a_n_to, a_t, a_t_kind, a_t_owner, a_t_from, a_t_to, (sa 0), (sca 0), (sa 1), (sca 1), (sa 2), (sca 2), (sa 3), (sca 3)]) [(a_o, .inr (4, [.ref a_n, .ref a_t, .ref a_d, .ref a_o_sheets, .ref a_rd, .int o_traced, .int o_lastFault])), (a_o_sheets, .inl (cS, 4, .inr (.inr (.inr (.inr (fun j => some (sa j))))))), (a_d, .inr (0, [.int d_count, .ref a_d_one, .ref a_d_other, .ref a_d_less])), (a_rd, .inr (2, [.ref q_row, .int rd_start, .int rd_length, .int rd_at, .ref a_t])), (a_n, .inr (3, [.int n_count, .int n_references, .ref a_n_kind, .ref a_n_owner, .ref a_n_from, .ref a_n_to, .ref a_n_away])), (a_n_kind, .inl (cI, 6, .inl n_kind)), (a_n_owner, .inl (cI, 6, .inl n_owner)), (a_n_from, .inl (cI, 12, .inl n_from)), (a_n_to, .inl (cI, 12, .inl n_to)), (a_t, .inr (3, [.int t_count, .int t_references, .ref a_t_kind, .ref a_t_owner, .ref a_t_from, .ref a_t_to, .ref a_t_away])), (a_t_kind, .inl (cI, 6, .inl t_kind)), (a_t_owner, .inl (cI, 6, .inl t_owner)), (a_t_from, .inl (cI, 12, .inl t_from)), (a_t_to, .inl (cI, 12, .inl t_to)), ((sa 0), .inr (1, [.int (sl 0), .int (sn 0), .ref (sca 0)])), ((sca 0), .inl (cI, 60, .inl (sc 0))), ((sa 1), .inr (1, [.int (sl 1), .int (sn 1), .ref (sca 1)])), ((sca 1), .inl (cI, 60, .inl (sc 1))), ((sa 2), .inr (1, [.int (sl 2), .int (sn 2), .ref (sca 2)])), ((sca 2), .inl (cI, 60, .inl (sc 2))), ((sa 3), .inr (1, [.int (sl 3), .int (sn 3), .ref (sca 3)])), ((sca 3), .inl (cI, 60, .inl (sc 3)))] := va_D_in hD rfl
  have hl := lv_entry ([.ref a_o, .int x1, .int x2, .int x3, .int x4]) (n := 7) (Nat.le_of_ble_eq_true rfl)
  rw [lg_entry_eq]
  generalize (lg_sl ([.ref a_o, .int x1, .int x2, .int x3, .int x4]) ++ List.replicate (7 - (lg_sl ([.ref a_o, .int x1, .int x2, .int x3, .int x4])).length) Slot.unset).toArray = ls at hl ⊢
  have hl : lv_has ls 7 [(0, .ref a_o), (1, .int x1), (2, .int x2), (3, .int x3), (4, .int x4)] := hl
  unfold f_X4_things at h
  refine lv_aload_n hx hb dX4_things_0 rfl (lv_at hl 0 rfl) ?_
  refine lv_iconst (v := 0) hx hb dX4_things_1 (by decide) ?_
  refine va_put (D := (dC, dI)) (ci := 4) (v := .int (0 : Int32)) (C := RX4) (T := TX4) (N := 7) hx hb hts kin_X4_things_X4 tyX4 tyX4_ok nmX4 hown hK hP (va_D_fst hD rfl) hS 0 rfl rfl 6 (Nat.le_of_ble_eq_true rfl) (hts (.fieldLink RX4 48 "OwnedThings" "lastFault" "I") (List.mem_of_getElem? (i := 1) rfl)) (fun _ h9 => h9) rfl (tyX4_ok 6 (Nat.le_of_ble_eq_true rfl)) rfl rfl (Nat.le_of_ble_eq_true rfl) dX4_things_2 (fun H locs hP _ hS => ?_)
  have hP : va_P (dC, dI) vwCl [(a_o, .inr (4, [.ref a_n, .ref a_t, .ref a_d, .ref a_o_sheets, .ref a_rd, .int o_traced, .int (0 : Int32)])), (a_o_sheets, .inl (cS, 4, .inr (.inr (.inr (.inr (fun j => some (sa j))))))), (a_d, .inr (0, [.int d_count, .ref a_d_one, .ref a_d_other, .ref a_d_less])), (a_rd, .inr (2, [.ref q_row, .int rd_start, .int rd_length, .int rd_at, .ref a_t])), (a_n, .inr (3, [.int n_count, .int n_references, .ref a_n_kind, .ref a_n_owner, .ref a_n_from, .ref a_n_to, .ref a_n_away])), (a_n_kind, .inl (cI, 6, .inl n_kind)), (a_n_owner, .inl (cI, 6, .inl n_owner)), (a_n_from, .inl (cI, 12, .inl n_from)), (a_n_to, .inl (cI, 12, .inl n_to)), (a_t, .inr (3, [.int t_count, .int t_references, .ref a_t_kind, .ref a_t_owner, .ref a_t_from, .ref a_t_to, .ref a_t_away])), (a_t_kind, .inl (cI, 6, .inl t_kind)), (a_t_owner, .inl (cI, 6, .inl t_owner)), (a_t_from, .inl (cI, 12, .inl t_from)), (a_t_to, .inl (cI, 12, .inl t_to)), ((sa 0), .inr (1, [.int (sl 0), .int (sn 0), .ref (sca 0)])), ((sca 0), .inl (cI, 60, .inl (sc 0))), ((sa 1), .inr (1, [.int (sl 1), .int (sn 1), .ref (sca 1)])), ((sca 1), .inl (cI, 60, .inl (sc 1))), ((sa 2), .inr (1, [.int (sl 2), .int (sn 2), .ref (sca 2)])), ((sca 2), .inl (cI, 60, .inl (sc 2))), ((sa 3), .inr (1, [.int (sl 3), .int (sn 3), .ref (sca 3)])), ((sca 3), .inl (cI, 60, .inl (sc 3)))] H := hP
  refine lv_iload_n hx hb dX4_things_5 rfl (lv_at hl 1 rfl) ?_
  obtain ⟨r_6, e_6, h⟩ := ob1_inv h
  refine k_pSi (rest := []) ⟨hx, hb, hml, hown, hts⟩ (c_X4_isSheet l dC dI cI cS x1 r_6 e_6) (cwS 1 hts gX4_things_X4_isSheet rfl rfl rfl khd_X4_isSheet ⟨Nat.le_of_ble_eq_true rfl, Nat.le_of_ble_eq_true rfl⟩) hK hN hP (va_D_fst hD rfl) hS [] rfl rfl rfl hl.1 rfl (Nat.le_of_ble_eq_true rfl) dX4_things_6 ⟨Nat.zero_le _, Nat.zero_le _⟩ (fun H locs hf_6 hP hS => ?_)
  refine lv_if_ne (tgt := 14) hx hb dX4_things_9 (by decide) (fun c_9 => ?_) (fun c_9 => ?_)
  · have h := hp_neg c_9 h
    refine lv_iload_n hx hb dX4_things_14 rfl (lv_at hl 2 rfl) ?_
    obtain ⟨r_15, e_15, h⟩ := ob1_inv h
    refine k_pSi (rest := []) ⟨hx, hb, hml, hown, hts⟩ (c_X4_isLane l dC dI cI cS x2 r_15 e_15) (cwS 1 hts gX4_things_X4_isLane rfl rfl rfl khd_X4_isLane ⟨Nat.le_of_ble_eq_true rfl, Nat.le_of_ble_eq_true rfl⟩) hK hN hP (va_D_fst hD rfl) hS [] rfl rfl rfl hl.1 rfl (Nat.le_of_ble_eq_true rfl) dX4_things_15 ⟨Nat.zero_le _, Nat.zero_le _⟩ (fun H locs hf_15 hP hS => ?_)
    refine lv_if_ne (tgt := 24) hx hb dX4_things_18 (by decide) (fun c_18 => ?_) (fun c_18 => ?_)
    · have h := hp_neg c_18 h
      refine lv_aload_n hx hb dX4_things_24 rfl (lv_at hl 0 rfl) ?_
      refine va_get (D := (dC, dI)) (ci := 4) (v := .ref a_o_sheets) (C := RX4) (T := TX4) (N := 7) hx hb hts kin_X4_things_X4 hown hK hP 0 rfl rfl 3 (Nat.le_of_ble_eq_true rfl) (hts (.fieldLink RX4 30 "OwnedThings" "sheets" "[LOwnedThings$Sheet;") (List.mem_of_getElem? (i := 2) rfl)) (fun _ h9 => h9) rfl dX4_things_25 ?_
      refine lv_iload_n hx hb dX4_things_28 rfl (lv_at hl 1 rfl) ?_
      have g_29 := hg_no h
      have h := hg_yes h
      refine va_aldq (D := (dC, dI)) hx hb hK hP 1 1 rfl rfl g_29 dX4_things_29 ?_
      rcases lt4_cases g_29 with k_29 | k_29 | k_29 | k_29
      · rw [k_29] at h
        refine lv_sa k_29 ?_
        refine lv_iload_n hx hb dX4_things_30 rfl (lv_at hl 2 rfl) ?_
        refine lv_iload_n hx hb dX4_things_31 rfl (lv_at hl 3 rfl) ?_
        refine lv_iload hx hb dX4_things_32 (lv_at hl 4 rfl) ?_
        obtain ⟨r_34, e_34, h⟩ := ob1_inv h
        refine k_pVi (i0 := 14) (rest := []) ⟨hx, hb, hml, hown, hts⟩ (c_X1_rowFault l dC dI cI cS (sa 0) (sca 0) (sl 0) (sn 0) x2 x3 x4 r_34 e_34) (cwV 3 hts gX4_things_X1_rowFault rfl rfl rfl khd_X1_rowFault ⟨Nat.le_of_ble_eq_true rfl, Nat.le_of_ble_eq_true rfl⟩) hK hN hP (va_D_fst hD rfl) hS [14] rfl rfl rfl rfl rfl rfl hl.1 rfl (Nat.le_of_ble_eq_true rfl) dX4_things_34 ⟨Nat.zero_le _, Nat.zero_le _⟩ (fun H locs hf_34 hP hS => ?_)
        refine lv_istore (lv' := [(5, .int r_34), (0, .ref a_o), (1, .int x1), (2, .int x2), (3, .int x3), (4, .int x4)]) hx hb dX4_things_37 hl (by decide) rfl (fun ls hl => ?_)
        refine lv_iload hx hb dX4_things_39 (lv_at hl 0 rfl) ?_
        refine lv_if_eq (tgt := 51) hx hb dX4_things_41 (by decide) (fun c_41 => ?_) (fun c_41 => ?_)
        · have h := hp_pos c_41 h
          refine lv_aload_n hx hb dX4_things_51 rfl (lv_at hl 1 rfl) ?_
          refine va_get (D := (dC, dI)) (ci := 4) (v := .ref a_rd) (C := RX4) (T := TX4) (N := 7) hx hb hts kin_X4_things_X4 hown hK hP 0 rfl rfl 4 (Nat.le_of_ble_eq_true rfl) (hts (.fieldLink RX4 40 "OwnedThings" "reader" "LOwnedThings$TextReader;") (List.mem_of_getElem? (i := 3) rfl)) (fun _ h9 => h9) rfl dX4_things_52 ?_
          refine lv_aload_n hx hb dX4_things_55 rfl (lv_at hl 1 rfl) ?_
          refine va_get (D := (dC, dI)) (ci := 4) (v := .ref a_o_sheets) (C := RX4) (T := TX4) (N := 7) hx hb hts kin_X4_things_X4 hown hK hP 0 rfl rfl 3 (Nat.le_of_ble_eq_true rfl) (hts (.fieldLink RX4 30 "OwnedThings" "sheets" "[LOwnedThings$Sheet;") (List.mem_of_getElem? (i := 2) rfl)) (fun _ h9 => h9) rfl dX4_things_56 ?_
          refine lv_iload_n hx hb dX4_things_59 rfl (lv_at hl 2 rfl) ?_
          have h := hg_yes h
          refine va_aldq (D := (dC, dI)) hx hb hK hP 1 1 rfl rfl g_29 dX4_things_60 ?_
          refine lv_sa k_29 ?_
          refine lv_iload_n hx hb dX4_things_61 rfl (lv_at hl 4 rfl) ?_
          refine lv_iload hx hb dX4_things_62 (lv_at hl 5 rfl) ?_
          obtain ⟨r_64, r_64_start, r_64_length, r_64_at, r_64_count, r_64_references, r_64_kind, r_64_owner, r_64_from, r_64_to, e_64, h⟩ := ob10_inv h
          refine k_wVi (i0 := 3) (rest := []) (ws' := [(a_o, .inr (4, [.ref a_n, .ref a_t, .ref a_d, .ref a_o_sheets, .ref a_rd, .int o_traced, .int (0 : Int32)])), (a_o_sheets, .inl (cS, 4, .inr (.inr (.inr (.inr (fun j => some (sa j))))))), (a_d, .inr (0, [.int d_count, .ref a_d_one, .ref a_d_other, .ref a_d_less])), (a_rd, .inr (2, [.ref (sa 0), .int r_64_start, .int r_64_length, .int r_64_at, .ref a_t])), (a_n, .inr (3, [.int n_count, .int n_references, .ref a_n_kind, .ref a_n_owner, .ref a_n_from, .ref a_n_to, .ref a_n_away])), (a_n_kind, .inl (cI, 6, .inl n_kind)), (a_n_owner, .inl (cI, 6, .inl n_owner)), (a_n_from, .inl (cI, 12, .inl n_from)), (a_n_to, .inl (cI, 12, .inl n_to)), (a_t, .inr (3, [.int r_64_count, .int r_64_references, .ref a_t_kind, .ref a_t_owner, .ref a_t_from, .ref a_t_to, .ref a_t_away])), (a_t_kind, .inl (cI, 6, .inl r_64_kind)), (a_t_owner, .inl (cI, 6, .inl r_64_owner)), (a_t_from, .inl (cI, 12, .inl r_64_from)), (a_t_to, .inl (cI, 12, .inl r_64_to)), ((sa 0), .inr (1, [.int (sl 0), .int (sn 0), .ref (sca 0)])), ((sca 0), .inl (cI, 60, .inl (sc 0))), ((sa 1), .inr (1, [.int (sl 1), .int (sn 1), .ref (sca 1)])), ((sca 1), .inl (cI, 60, .inl (sc 1))), ((sa 2), .inr (1, [.int (sl 2), .int (sn 2), .ref (sca 2)])), ((sca 2), .inl (cI, 60, .inl (sc 2))), ((sa 3), .inr (1, [.int (sl 3), .int (sn 3), .ref (sca 3)])), ((sca 3), .inl (cI, 60, .inl (sc 3)))]) ⟨hx, hb, hml, hown, hts⟩ (c_X2_firstFault l dC dI cI cS a_rd q_row a_t (sa 0) (sca 0) a_t_kind a_t_owner a_t_from a_t_to a_t_away rd_start rd_length rd_at (sl 0) (sn 0) (sc 0) t_count t_references t_kind t_owner t_from t_to x3 x4 r_64 r_64_start r_64_length r_64_at r_64_count r_64_references r_64_kind r_64_owner r_64_from r_64_to e_64) (cwV 3 hts gX4_things_X2_firstFault rfl rfl rfl khd_X2_firstFault ⟨Nat.le_of_ble_eq_true rfl, Nat.le_of_ble_eq_true rfl⟩) hK hN hP (va_D_fst hD rfl) hS [3, 14, 15, 9, 10, 11, 12, 13] rfl rfl rfl rfl rfl rfl hl.1 rfl (Nat.le_of_ble_eq_true rfl) dX4_things_64 ⟨Nat.zero_le _, Nat.zero_le _⟩ rfl rfl (fun H locs hf_64 hP hS => ?_)
          refine lv_istore (lv' := [(6, .int r_64), (5, .int r_34), (0, .ref a_o), (1, .int x1), (2, .int x2), (3, .int x3), (4, .int x4)]) hx hb dX4_things_67 hl (by decide) rfl (fun ls hl => ?_)
          refine lv_iload hx hb dX4_things_69 (lv_at hl 0 rfl) ?_
          refine lv_iconst (v := -1) hx hb dX4_things_71 (by decide) ?_
          refine lv_icmp_eq (tgt := 81) hx hb dX4_things_72 (by decide) (fun c_72 => ?_) (fun c_72 => ?_)
          · have h := hp_pos c_72 h
            refine lv_aload_n hx hb dX4_things_81 rfl (lv_at hl 2 rfl) ?_
            refine va_get (D := (dC, dI)) (ci := 4) (v := .ref a_n) (C := RX4) (T := TX4) (N := 7) hx hb hts kin_X4_things_X4 hown hK hP 0 rfl rfl 0 (Nat.le_of_ble_eq_true rfl) (hts (.fieldLink RX4 12 "OwnedThings" "now" "LOwnedThings$Web;") (List.mem_of_getElem? (i := 4) rfl)) (fun _ h9 => h9) rfl dX4_things_82 ?_
            refine lv_aload_n hx hb dX4_things_85 rfl (lv_at hl 2 rfl) ?_
            refine va_get (D := (dC, dI)) (ci := 4) (v := .ref a_t) (C := RX4) (T := TX4) (N := 7) hx hb hts kin_X4_things_X4 hown hK hP 0 rfl rfl 1 (Nat.le_of_ble_eq_true rfl) (hts (.fieldLink RX4 18 "OwnedThings" "trial" "LOwnedThings$Web;") (List.mem_of_getElem? (i := 5) rfl)) (fun _ h9 => h9) rfl dX4_things_86 ?_
            obtain ⟨r_89_count, r_89_references, r_89_kind, r_89_owner, r_89_from, r_89_to, e_89, h⟩ := ob6_inv h
            refine k_wVv (i0 := 4) (rest := []) (ws' := [(a_o, .inr (4, [.ref a_n, .ref a_t, .ref a_d, .ref a_o_sheets, .ref a_rd, .int o_traced, .int (0 : Int32)])), (a_o_sheets, .inl (cS, 4, .inr (.inr (.inr (.inr (fun j => some (sa j))))))), (a_d, .inr (0, [.int d_count, .ref a_d_one, .ref a_d_other, .ref a_d_less])), (a_rd, .inr (2, [.ref (sa 0), .int r_64_start, .int r_64_length, .int r_64_at, .ref a_t])), (a_n, .inr (3, [.int r_89_count, .int r_89_references, .ref a_n_kind, .ref a_n_owner, .ref a_n_from, .ref a_n_to, .ref a_n_away])), (a_n_kind, .inl (cI, 6, .inl r_89_kind)), (a_n_owner, .inl (cI, 6, .inl r_89_owner)), (a_n_from, .inl (cI, 12, .inl r_89_from)), (a_n_to, .inl (cI, 12, .inl r_89_to)), (a_t, .inr (3, [.int r_64_count, .int r_64_references, .ref a_t_kind, .ref a_t_owner, .ref a_t_from, .ref a_t_to, .ref a_t_away])), (a_t_kind, .inl (cI, 6, .inl r_64_kind)), (a_t_owner, .inl (cI, 6, .inl r_64_owner)), (a_t_from, .inl (cI, 12, .inl r_64_from)), (a_t_to, .inl (cI, 12, .inl r_64_to)), ((sa 0), .inr (1, [.int (sl 0), .int (sn 0), .ref (sca 0)])), ((sca 0), .inl (cI, 60, .inl (sc 0))), ((sa 1), .inr (1, [.int (sl 1), .int (sn 1), .ref (sca 1)])), ((sca 1), .inl (cI, 60, .inl (sc 1))), ((sa 2), .inr (1, [.int (sl 2), .int (sn 2), .ref (sca 2)])), ((sca 2), .inl (cI, 60, .inl (sc 2))), ((sa 3), .inr (1, [.int (sl 3), .int (sn 3), .ref (sca 3)])), ((sca 3), .inl (cI, 60, .inl (sc 3)))]) ⟨hx, hb, hml, hown, hts⟩ (c_X3_become l dC dI cI cS a_n a_n_kind a_n_owner a_n_from a_n_to a_n_away a_t a_t_kind a_t_owner a_t_from a_t_to a_t_away n_count n_references n_kind n_owner n_from n_to r_64_count r_64_references r_64_kind r_64_owner r_64_from r_64_to r_89_count r_89_references r_89_kind r_89_owner r_89_from r_89_to e_89) (cwV 1 hts gX4_things_X3_become rfl rfl rfl khd_X3_become ⟨Nat.le_of_ble_eq_true rfl, Nat.le_of_ble_eq_true rfl⟩) hK hN hP (va_D_fst hD rfl) hS [4, 5, 6, 7, 8, 9, 10, 11, 12, 13] rfl rfl rfl rfl rfl rfl hl.1 rfl (Nat.le_of_ble_eq_true rfl) dX4_things_89 ⟨Nat.zero_le _, Nat.zero_le _⟩ rfl rfl (fun H locs hf_89 hP hS => ?_)
            refine lv_aload_n hx hb dX4_things_92 rfl (lv_at hl 2 rfl) ?_
            refine va_get (D := (dC, dI)) (ci := 4) (v := .ref a_d) (C := RX4) (T := TX4) (N := 7) hx hb hts kin_X4_things_X4 hown hK hP 0 rfl rfl 2 (Nat.le_of_ble_eq_true rfl) (hts (.fieldLink RX4 24 "OwnedThings" "told" "LOwnedThings$Readings;") (List.mem_of_getElem? (i := 6) rfl)) (fun _ h9 => h9) rfl dX4_things_93 ?_
            refine lv_aload_n hx hb dX4_things_96 rfl (lv_at hl 2 rfl) ?_
            refine va_get (D := (dC, dI)) (ci := 4) (v := .ref a_d) (C := RX4) (T := TX4) (N := 7) hx hb hts kin_X4_things_X4 hown hK hP 0 rfl rfl 2 (Nat.le_of_ble_eq_true rfl) (hts (.fieldLink RX4 24 "OwnedThings" "told" "LOwnedThings$Readings;") (List.mem_of_getElem? (i := 6) rfl)) (fun _ h9 => h9) rfl dX4_things_97 ?_
            obtain ⟨r_100, e_100, h⟩ := ob1_inv h
            refine k_pVi (i0 := 2) (rest := [.ref a_d]) ⟨hx, hb, hml, hown, hts⟩ (c_X0_size l dC dI cI cS a_d a_d_one a_d_other a_d_less d_count r_100 e_100) (cwV 0 hts gX4_things_X0_size rfl rfl rfl khd_X0_size ⟨Nat.le_of_ble_eq_true rfl, Nat.le_of_ble_eq_true rfl⟩) hK hN hP (va_D_fst hD rfl) hS [2] rfl rfl rfl rfl rfl rfl hl.1 rfl (Nat.le_of_ble_eq_true rfl) dX4_things_100 ⟨Nat.zero_le _, Nat.zero_le _⟩ (fun H locs hf_100 hP hS => ?_)
            obtain ⟨r_103_count, e_103, h⟩ := ob1_inv h
            refine k_wVv (i0 := 2) (rest := []) (ws' := [(a_o, .inr (4, [.ref a_n, .ref a_t, .ref a_d, .ref a_o_sheets, .ref a_rd, .int o_traced, .int (0 : Int32)])), (a_o_sheets, .inl (cS, 4, .inr (.inr (.inr (.inr (fun j => some (sa j))))))), (a_d, .inr (0, [.int r_103_count, .ref a_d_one, .ref a_d_other, .ref a_d_less])), (a_rd, .inr (2, [.ref (sa 0), .int r_64_start, .int r_64_length, .int r_64_at, .ref a_t])), (a_n, .inr (3, [.int r_89_count, .int r_89_references, .ref a_n_kind, .ref a_n_owner, .ref a_n_from, .ref a_n_to, .ref a_n_away])), (a_n_kind, .inl (cI, 6, .inl r_89_kind)), (a_n_owner, .inl (cI, 6, .inl r_89_owner)), (a_n_from, .inl (cI, 12, .inl r_89_from)), (a_n_to, .inl (cI, 12, .inl r_89_to)), (a_t, .inr (3, [.int r_64_count, .int r_64_references, .ref a_t_kind, .ref a_t_owner, .ref a_t_from, .ref a_t_to, .ref a_t_away])), (a_t_kind, .inl (cI, 6, .inl r_64_kind)), (a_t_owner, .inl (cI, 6, .inl r_64_owner)), (a_t_from, .inl (cI, 12, .inl r_64_from)), (a_t_to, .inl (cI, 12, .inl r_64_to)), ((sa 0), .inr (1, [.int (sl 0), .int (sn 0), .ref (sca 0)])), ((sca 0), .inl (cI, 60, .inl (sc 0))), ((sa 1), .inr (1, [.int (sl 1), .int (sn 1), .ref (sca 1)])), ((sca 1), .inl (cI, 60, .inl (sc 1))), ((sa 2), .inr (1, [.int (sl 2), .int (sn 2), .ref (sca 2)])), ((sca 2), .inl (cI, 60, .inl (sc 2))), ((sa 3), .inr (1, [.int (sl 3), .int (sn 3), .ref (sca 3)])), ((sca 3), .inl (cI, 60, .inl (sc 3)))]) ⟨hx, hb, hml, hown, hts⟩ (c_X0_dropLast l dC dI cI cS a_d a_d_one a_d_other a_d_less d_count r_100 r_103_count e_103) (cwV 1 hts gX4_things_X0_dropLast rfl rfl rfl khd_X0_dropLast ⟨Nat.le_of_ble_eq_true rfl, Nat.le_of_ble_eq_true rfl⟩) hK hN hP (va_D_fst hD rfl) hS [2] rfl rfl rfl rfl rfl rfl hl.1 rfl (Nat.le_of_ble_eq_true rfl) dX4_things_103 ⟨Nat.zero_le _, Nat.zero_le _⟩ rfl rfl (fun H locs hf_103 hP hS => ?_)
            refine lv_aload_n hx hb dX4_things_106 rfl (lv_at hl 2 rfl) ?_
            refine va_get (D := (dC, dI)) (ci := 4) (v := .ref a_n) (C := RX4) (T := TX4) (N := 7) hx hb hts kin_X4_things_X4 hown hK hP 0 rfl rfl 0 (Nat.le_of_ble_eq_true rfl) (hts (.fieldLink RX4 12 "OwnedThings" "now" "LOwnedThings$Web;") (List.mem_of_getElem? (i := 4) rfl)) (fun _ h9 => h9) rfl dX4_things_107 ?_
            obtain ⟨r_110, e_110, h⟩ := ob1_inv h
            refine k_pVi (i0 := 4) (rest := []) ⟨hx, hb, hml, hown, hts⟩ (c_X3_size l dC dI cI cS a_n a_n_kind a_n_owner a_n_from a_n_to a_n_away r_89_count r_89_references r_110 e_110) (cwV 0 hts gX4_things_X3_size rfl rfl rfl khd_X3_size ⟨Nat.le_of_ble_eq_true rfl, Nat.le_of_ble_eq_true rfl⟩) hK hN hP (va_D_fst hD rfl) hS [4] rfl rfl rfl rfl rfl rfl hl.1 rfl (Nat.le_of_ble_eq_true rfl) dX4_things_110 ⟨Nat.zero_le _, Nat.zero_le _⟩ (fun H locs hf_110 hP hS => ?_)
            obtain ⟨rfl, rfl, rfl, rfl, rfl, rfl, rfl, rfl, rfl, rfl, rfl, rfl, rfl, rfl, rfl, rfl, rfl, rfl⟩ := pj18 (Option.some.inj h)
            exact W.iret hx hb hr (fun t ht _ => kQ.mk ht ⟨_, hP⟩ trivial (hS.F ht)) hS.2.2 dX4_things_113
          · have h := hp_neg c_72 h
            refine lv_bipush (v := -100) hx hb dX4_things_75 (by decide) ?_
            refine lv_iload hx hb dX4_things_77 (lv_at hl 0 rfl) ?_
            refine lv_isub hx hb dX4_things_79 ?_
            obtain ⟨rfl, rfl, rfl, rfl, rfl, rfl, rfl, rfl, rfl, rfl, rfl, rfl, rfl, rfl, rfl, rfl, rfl, rfl⟩ := pj18 (Option.some.inj h)
            exact W.iret hx hb hr (fun t ht _ => kQ.mk ht ⟨_, hP⟩ trivial (hS.F ht)) hS.2.2 dX4_things_80
        · have h := hp_neg c_41 h
          refine lv_aload_n hx hb dX4_things_44 rfl (lv_at hl 1 rfl) ?_
          refine lv_iload hx hb dX4_things_45 (lv_at hl 0 rfl) ?_
          obtain ⟨r_47, r_47_lastFault, e_47, h⟩ := ob2_inv h
          refine k_wVi (i0 := 0) (rest := []) (ws' := [(a_o, .inr (4, [.ref a_n, .ref a_t, .ref a_d, .ref a_o_sheets, .ref a_rd, .int o_traced, .int r_47_lastFault])), (a_o_sheets, .inl (cS, 4, .inr (.inr (.inr (.inr (fun j => some (sa j))))))), (a_d, .inr (0, [.int d_count, .ref a_d_one, .ref a_d_other, .ref a_d_less])), (a_rd, .inr (2, [.ref q_row, .int rd_start, .int rd_length, .int rd_at, .ref a_t])), (a_n, .inr (3, [.int n_count, .int n_references, .ref a_n_kind, .ref a_n_owner, .ref a_n_from, .ref a_n_to, .ref a_n_away])), (a_n_kind, .inl (cI, 6, .inl n_kind)), (a_n_owner, .inl (cI, 6, .inl n_owner)), (a_n_from, .inl (cI, 12, .inl n_from)), (a_n_to, .inl (cI, 12, .inl n_to)), (a_t, .inr (3, [.int t_count, .int t_references, .ref a_t_kind, .ref a_t_owner, .ref a_t_from, .ref a_t_to, .ref a_t_away])), (a_t_kind, .inl (cI, 6, .inl t_kind)), (a_t_owner, .inl (cI, 6, .inl t_owner)), (a_t_from, .inl (cI, 12, .inl t_from)), (a_t_to, .inl (cI, 12, .inl t_to)), ((sa 0), .inr (1, [.int (sl 0), .int (sn 0), .ref (sca 0)])), ((sca 0), .inl (cI, 60, .inl (sc 0))), ((sa 1), .inr (1, [.int (sl 1), .int (sn 1), .ref (sca 1)])), ((sca 1), .inl (cI, 60, .inl (sc 1))), ((sa 2), .inr (1, [.int (sl 2), .int (sn 2), .ref (sca 2)])), ((sca 2), .inl (cI, 60, .inl (sc 2))), ((sa 3), .inr (1, [.int (sl 3), .int (sn 3), .ref (sca 3)])), ((sca 3), .inl (cI, 60, .inl (sc 3)))]) ⟨hx, hb, hml, hown, hts⟩ (c_X4_failed l dC dI cI cS a_o a_n a_t a_d a_o_sheets a_rd o_traced (0 : Int32) r_34 r_47 r_47_lastFault e_47) (cwV 1 hts gX4_things_X4_failed rfl rfl rfl khd_X4_failed ⟨Nat.le_of_ble_eq_true rfl, Nat.le_of_ble_eq_true rfl⟩) hK hN hP (va_D_fst hD rfl) hS [0] rfl rfl rfl rfl rfl rfl hl.1 rfl (Nat.le_of_ble_eq_true rfl) dX4_things_47 ⟨Nat.zero_le _, Nat.zero_le _⟩ rfl rfl (fun H locs hf_47 hP hS => ?_)
          obtain ⟨rfl, rfl, rfl, rfl, rfl, rfl, rfl, rfl, rfl, rfl, rfl, rfl, rfl, rfl, rfl, rfl, rfl, rfl⟩ := pj18 (Option.some.inj h)
          exact W.iret hx hb hr (fun t ht _ => kQ.mk ht ⟨_, hP⟩ trivial (hS.F ht)) hS.2.2 dX4_things_50
      · rw [k_29] at h
        refine lv_sa k_29 ?_
        refine lv_iload_n hx hb dX4_things_30 rfl (lv_at hl 2 rfl) ?_
        refine lv_iload_n hx hb dX4_things_31 rfl (lv_at hl 3 rfl) ?_
        refine lv_iload hx hb dX4_things_32 (lv_at hl 4 rfl) ?_
        obtain ⟨r_34, e_34, h⟩ := ob1_inv h
        refine k_pVi (i0 := 16) (rest := []) ⟨hx, hb, hml, hown, hts⟩ (c_X1_rowFault l dC dI cI cS (sa 1) (sca 1) (sl 1) (sn 1) x2 x3 x4 r_34 e_34) (cwV 3 hts gX4_things_X1_rowFault rfl rfl rfl khd_X1_rowFault ⟨Nat.le_of_ble_eq_true rfl, Nat.le_of_ble_eq_true rfl⟩) hK hN hP (va_D_fst hD rfl) hS [16] rfl rfl rfl rfl rfl rfl hl.1 rfl (Nat.le_of_ble_eq_true rfl) dX4_things_34 ⟨Nat.zero_le _, Nat.zero_le _⟩ (fun H locs hf_34 hP hS => ?_)
        refine lv_istore (lv' := [(5, .int r_34), (0, .ref a_o), (1, .int x1), (2, .int x2), (3, .int x3), (4, .int x4)]) hx hb dX4_things_37 hl (by decide) rfl (fun ls hl => ?_)
        refine lv_iload hx hb dX4_things_39 (lv_at hl 0 rfl) ?_
        refine lv_if_eq (tgt := 51) hx hb dX4_things_41 (by decide) (fun c_41 => ?_) (fun c_41 => ?_)
        · have h := hp_pos c_41 h
          refine lv_aload_n hx hb dX4_things_51 rfl (lv_at hl 1 rfl) ?_
          refine va_get (D := (dC, dI)) (ci := 4) (v := .ref a_rd) (C := RX4) (T := TX4) (N := 7) hx hb hts kin_X4_things_X4 hown hK hP 0 rfl rfl 4 (Nat.le_of_ble_eq_true rfl) (hts (.fieldLink RX4 40 "OwnedThings" "reader" "LOwnedThings$TextReader;") (List.mem_of_getElem? (i := 3) rfl)) (fun _ h9 => h9) rfl dX4_things_52 ?_
          refine lv_aload_n hx hb dX4_things_55 rfl (lv_at hl 1 rfl) ?_
          refine va_get (D := (dC, dI)) (ci := 4) (v := .ref a_o_sheets) (C := RX4) (T := TX4) (N := 7) hx hb hts kin_X4_things_X4 hown hK hP 0 rfl rfl 3 (Nat.le_of_ble_eq_true rfl) (hts (.fieldLink RX4 30 "OwnedThings" "sheets" "[LOwnedThings$Sheet;") (List.mem_of_getElem? (i := 2) rfl)) (fun _ h9 => h9) rfl dX4_things_56 ?_
          refine lv_iload_n hx hb dX4_things_59 rfl (lv_at hl 2 rfl) ?_
          have h := hg_yes h
          refine va_aldq (D := (dC, dI)) hx hb hK hP 1 1 rfl rfl g_29 dX4_things_60 ?_
          refine lv_sa k_29 ?_
          refine lv_iload_n hx hb dX4_things_61 rfl (lv_at hl 4 rfl) ?_
          refine lv_iload hx hb dX4_things_62 (lv_at hl 5 rfl) ?_
          obtain ⟨r_64, r_64_start, r_64_length, r_64_at, r_64_count, r_64_references, r_64_kind, r_64_owner, r_64_from, r_64_to, e_64, h⟩ := ob10_inv h
          refine k_wVi (i0 := 3) (rest := []) (ws' := [(a_o, .inr (4, [.ref a_n, .ref a_t, .ref a_d, .ref a_o_sheets, .ref a_rd, .int o_traced, .int (0 : Int32)])), (a_o_sheets, .inl (cS, 4, .inr (.inr (.inr (.inr (fun j => some (sa j))))))), (a_d, .inr (0, [.int d_count, .ref a_d_one, .ref a_d_other, .ref a_d_less])), (a_rd, .inr (2, [.ref (sa 1), .int r_64_start, .int r_64_length, .int r_64_at, .ref a_t])), (a_n, .inr (3, [.int n_count, .int n_references, .ref a_n_kind, .ref a_n_owner, .ref a_n_from, .ref a_n_to, .ref a_n_away])), (a_n_kind, .inl (cI, 6, .inl n_kind)), (a_n_owner, .inl (cI, 6, .inl n_owner)), (a_n_from, .inl (cI, 12, .inl n_from)), (a_n_to, .inl (cI, 12, .inl n_to)), (a_t, .inr (3, [.int r_64_count, .int r_64_references, .ref a_t_kind, .ref a_t_owner, .ref a_t_from, .ref a_t_to, .ref a_t_away])), (a_t_kind, .inl (cI, 6, .inl r_64_kind)), (a_t_owner, .inl (cI, 6, .inl r_64_owner)), (a_t_from, .inl (cI, 12, .inl r_64_from)), (a_t_to, .inl (cI, 12, .inl r_64_to)), ((sa 0), .inr (1, [.int (sl 0), .int (sn 0), .ref (sca 0)])), ((sca 0), .inl (cI, 60, .inl (sc 0))), ((sa 1), .inr (1, [.int (sl 1), .int (sn 1), .ref (sca 1)])), ((sca 1), .inl (cI, 60, .inl (sc 1))), ((sa 2), .inr (1, [.int (sl 2), .int (sn 2), .ref (sca 2)])), ((sca 2), .inl (cI, 60, .inl (sc 2))), ((sa 3), .inr (1, [.int (sl 3), .int (sn 3), .ref (sca 3)])), ((sca 3), .inl (cI, 60, .inl (sc 3)))]) ⟨hx, hb, hml, hown, hts⟩ (c_X2_firstFault l dC dI cI cS a_rd q_row a_t (sa 1) (sca 1) a_t_kind a_t_owner a_t_from a_t_to a_t_away rd_start rd_length rd_at (sl 1) (sn 1) (sc 1) t_count t_references t_kind t_owner t_from t_to x3 x4 r_64 r_64_start r_64_length r_64_at r_64_count r_64_references r_64_kind r_64_owner r_64_from r_64_to e_64) (cwV 3 hts gX4_things_X2_firstFault rfl rfl rfl khd_X2_firstFault ⟨Nat.le_of_ble_eq_true rfl, Nat.le_of_ble_eq_true rfl⟩) hK hN hP (va_D_fst hD rfl) hS [3, 16, 17, 9, 10, 11, 12, 13] rfl rfl rfl rfl rfl rfl hl.1 rfl (Nat.le_of_ble_eq_true rfl) dX4_things_64 ⟨Nat.zero_le _, Nat.zero_le _⟩ rfl rfl (fun H locs hf_64 hP hS => ?_)
          refine lv_istore (lv' := [(6, .int r_64), (5, .int r_34), (0, .ref a_o), (1, .int x1), (2, .int x2), (3, .int x3), (4, .int x4)]) hx hb dX4_things_67 hl (by decide) rfl (fun ls hl => ?_)
          refine lv_iload hx hb dX4_things_69 (lv_at hl 0 rfl) ?_
          refine lv_iconst (v := -1) hx hb dX4_things_71 (by decide) ?_
          refine lv_icmp_eq (tgt := 81) hx hb dX4_things_72 (by decide) (fun c_72 => ?_) (fun c_72 => ?_)
          · have h := hp_pos c_72 h
            refine lv_aload_n hx hb dX4_things_81 rfl (lv_at hl 2 rfl) ?_
            refine va_get (D := (dC, dI)) (ci := 4) (v := .ref a_n) (C := RX4) (T := TX4) (N := 7) hx hb hts kin_X4_things_X4 hown hK hP 0 rfl rfl 0 (Nat.le_of_ble_eq_true rfl) (hts (.fieldLink RX4 12 "OwnedThings" "now" "LOwnedThings$Web;") (List.mem_of_getElem? (i := 4) rfl)) (fun _ h9 => h9) rfl dX4_things_82 ?_
            refine lv_aload_n hx hb dX4_things_85 rfl (lv_at hl 2 rfl) ?_
            refine va_get (D := (dC, dI)) (ci := 4) (v := .ref a_t) (C := RX4) (T := TX4) (N := 7) hx hb hts kin_X4_things_X4 hown hK hP 0 rfl rfl 1 (Nat.le_of_ble_eq_true rfl) (hts (.fieldLink RX4 18 "OwnedThings" "trial" "LOwnedThings$Web;") (List.mem_of_getElem? (i := 5) rfl)) (fun _ h9 => h9) rfl dX4_things_86 ?_
            obtain ⟨r_89_count, r_89_references, r_89_kind, r_89_owner, r_89_from, r_89_to, e_89, h⟩ := ob6_inv h
            refine k_wVv (i0 := 4) (rest := []) (ws' := [(a_o, .inr (4, [.ref a_n, .ref a_t, .ref a_d, .ref a_o_sheets, .ref a_rd, .int o_traced, .int (0 : Int32)])), (a_o_sheets, .inl (cS, 4, .inr (.inr (.inr (.inr (fun j => some (sa j))))))), (a_d, .inr (0, [.int d_count, .ref a_d_one, .ref a_d_other, .ref a_d_less])), (a_rd, .inr (2, [.ref (sa 1), .int r_64_start, .int r_64_length, .int r_64_at, .ref a_t])), (a_n, .inr (3, [.int r_89_count, .int r_89_references, .ref a_n_kind, .ref a_n_owner, .ref a_n_from, .ref a_n_to, .ref a_n_away])), (a_n_kind, .inl (cI, 6, .inl r_89_kind)), (a_n_owner, .inl (cI, 6, .inl r_89_owner)), (a_n_from, .inl (cI, 12, .inl r_89_from)), (a_n_to, .inl (cI, 12, .inl r_89_to)), (a_t, .inr (3, [.int r_64_count, .int r_64_references, .ref a_t_kind, .ref a_t_owner, .ref a_t_from, .ref a_t_to, .ref a_t_away])), (a_t_kind, .inl (cI, 6, .inl r_64_kind)), (a_t_owner, .inl (cI, 6, .inl r_64_owner)), (a_t_from, .inl (cI, 12, .inl r_64_from)), (a_t_to, .inl (cI, 12, .inl r_64_to)), ((sa 0), .inr (1, [.int (sl 0), .int (sn 0), .ref (sca 0)])), ((sca 0), .inl (cI, 60, .inl (sc 0))), ((sa 1), .inr (1, [.int (sl 1), .int (sn 1), .ref (sca 1)])), ((sca 1), .inl (cI, 60, .inl (sc 1))), ((sa 2), .inr (1, [.int (sl 2), .int (sn 2), .ref (sca 2)])), ((sca 2), .inl (cI, 60, .inl (sc 2))), ((sa 3), .inr (1, [.int (sl 3), .int (sn 3), .ref (sca 3)])), ((sca 3), .inl (cI, 60, .inl (sc 3)))]) ⟨hx, hb, hml, hown, hts⟩ (c_X3_become l dC dI cI cS a_n a_n_kind a_n_owner a_n_from a_n_to a_n_away a_t a_t_kind a_t_owner a_t_from a_t_to a_t_away n_count n_references n_kind n_owner n_from n_to r_64_count r_64_references r_64_kind r_64_owner r_64_from r_64_to r_89_count r_89_references r_89_kind r_89_owner r_89_from r_89_to e_89) (cwV 1 hts gX4_things_X3_become rfl rfl rfl khd_X3_become ⟨Nat.le_of_ble_eq_true rfl, Nat.le_of_ble_eq_true rfl⟩) hK hN hP (va_D_fst hD rfl) hS [4, 5, 6, 7, 8, 9, 10, 11, 12, 13] rfl rfl rfl rfl rfl rfl hl.1 rfl (Nat.le_of_ble_eq_true rfl) dX4_things_89 ⟨Nat.zero_le _, Nat.zero_le _⟩ rfl rfl (fun H locs hf_89 hP hS => ?_)
            refine lv_aload_n hx hb dX4_things_92 rfl (lv_at hl 2 rfl) ?_
            refine va_get (D := (dC, dI)) (ci := 4) (v := .ref a_d) (C := RX4) (T := TX4) (N := 7) hx hb hts kin_X4_things_X4 hown hK hP 0 rfl rfl 2 (Nat.le_of_ble_eq_true rfl) (hts (.fieldLink RX4 24 "OwnedThings" "told" "LOwnedThings$Readings;") (List.mem_of_getElem? (i := 6) rfl)) (fun _ h9 => h9) rfl dX4_things_93 ?_
            refine lv_aload_n hx hb dX4_things_96 rfl (lv_at hl 2 rfl) ?_
            refine va_get (D := (dC, dI)) (ci := 4) (v := .ref a_d) (C := RX4) (T := TX4) (N := 7) hx hb hts kin_X4_things_X4 hown hK hP 0 rfl rfl 2 (Nat.le_of_ble_eq_true rfl) (hts (.fieldLink RX4 24 "OwnedThings" "told" "LOwnedThings$Readings;") (List.mem_of_getElem? (i := 6) rfl)) (fun _ h9 => h9) rfl dX4_things_97 ?_
            obtain ⟨r_100, e_100, h⟩ := ob1_inv h
            refine k_pVi (i0 := 2) (rest := [.ref a_d]) ⟨hx, hb, hml, hown, hts⟩ (c_X0_size l dC dI cI cS a_d a_d_one a_d_other a_d_less d_count r_100 e_100) (cwV 0 hts gX4_things_X0_size rfl rfl rfl khd_X0_size ⟨Nat.le_of_ble_eq_true rfl, Nat.le_of_ble_eq_true rfl⟩) hK hN hP (va_D_fst hD rfl) hS [2] rfl rfl rfl rfl rfl rfl hl.1 rfl (Nat.le_of_ble_eq_true rfl) dX4_things_100 ⟨Nat.zero_le _, Nat.zero_le _⟩ (fun H locs hf_100 hP hS => ?_)
            obtain ⟨r_103_count, e_103, h⟩ := ob1_inv h
            refine k_wVv (i0 := 2) (rest := []) (ws' := [(a_o, .inr (4, [.ref a_n, .ref a_t, .ref a_d, .ref a_o_sheets, .ref a_rd, .int o_traced, .int (0 : Int32)])), (a_o_sheets, .inl (cS, 4, .inr (.inr (.inr (.inr (fun j => some (sa j))))))), (a_d, .inr (0, [.int r_103_count, .ref a_d_one, .ref a_d_other, .ref a_d_less])), (a_rd, .inr (2, [.ref (sa 1), .int r_64_start, .int r_64_length, .int r_64_at, .ref a_t])), (a_n, .inr (3, [.int r_89_count, .int r_89_references, .ref a_n_kind, .ref a_n_owner, .ref a_n_from, .ref a_n_to, .ref a_n_away])), (a_n_kind, .inl (cI, 6, .inl r_89_kind)), (a_n_owner, .inl (cI, 6, .inl r_89_owner)), (a_n_from, .inl (cI, 12, .inl r_89_from)), (a_n_to, .inl (cI, 12, .inl r_89_to)), (a_t, .inr (3, [.int r_64_count, .int r_64_references, .ref a_t_kind, .ref a_t_owner, .ref a_t_from, .ref a_t_to, .ref a_t_away])), (a_t_kind, .inl (cI, 6, .inl r_64_kind)), (a_t_owner, .inl (cI, 6, .inl r_64_owner)), (a_t_from, .inl (cI, 12, .inl r_64_from)), (a_t_to, .inl (cI, 12, .inl r_64_to)), ((sa 0), .inr (1, [.int (sl 0), .int (sn 0), .ref (sca 0)])), ((sca 0), .inl (cI, 60, .inl (sc 0))), ((sa 1), .inr (1, [.int (sl 1), .int (sn 1), .ref (sca 1)])), ((sca 1), .inl (cI, 60, .inl (sc 1))), ((sa 2), .inr (1, [.int (sl 2), .int (sn 2), .ref (sca 2)])), ((sca 2), .inl (cI, 60, .inl (sc 2))), ((sa 3), .inr (1, [.int (sl 3), .int (sn 3), .ref (sca 3)])), ((sca 3), .inl (cI, 60, .inl (sc 3)))]) ⟨hx, hb, hml, hown, hts⟩ (c_X0_dropLast l dC dI cI cS a_d a_d_one a_d_other a_d_less d_count r_100 r_103_count e_103) (cwV 1 hts gX4_things_X0_dropLast rfl rfl rfl khd_X0_dropLast ⟨Nat.le_of_ble_eq_true rfl, Nat.le_of_ble_eq_true rfl⟩) hK hN hP (va_D_fst hD rfl) hS [2] rfl rfl rfl rfl rfl rfl hl.1 rfl (Nat.le_of_ble_eq_true rfl) dX4_things_103 ⟨Nat.zero_le _, Nat.zero_le _⟩ rfl rfl (fun H locs hf_103 hP hS => ?_)
            refine lv_aload_n hx hb dX4_things_106 rfl (lv_at hl 2 rfl) ?_
            refine va_get (D := (dC, dI)) (ci := 4) (v := .ref a_n) (C := RX4) (T := TX4) (N := 7) hx hb hts kin_X4_things_X4 hown hK hP 0 rfl rfl 0 (Nat.le_of_ble_eq_true rfl) (hts (.fieldLink RX4 12 "OwnedThings" "now" "LOwnedThings$Web;") (List.mem_of_getElem? (i := 4) rfl)) (fun _ h9 => h9) rfl dX4_things_107 ?_
            obtain ⟨r_110, e_110, h⟩ := ob1_inv h
            refine k_pVi (i0 := 4) (rest := []) ⟨hx, hb, hml, hown, hts⟩ (c_X3_size l dC dI cI cS a_n a_n_kind a_n_owner a_n_from a_n_to a_n_away r_89_count r_89_references r_110 e_110) (cwV 0 hts gX4_things_X3_size rfl rfl rfl khd_X3_size ⟨Nat.le_of_ble_eq_true rfl, Nat.le_of_ble_eq_true rfl⟩) hK hN hP (va_D_fst hD rfl) hS [4] rfl rfl rfl rfl rfl rfl hl.1 rfl (Nat.le_of_ble_eq_true rfl) dX4_things_110 ⟨Nat.zero_le _, Nat.zero_le _⟩ (fun H locs hf_110 hP hS => ?_)
            obtain ⟨rfl, rfl, rfl, rfl, rfl, rfl, rfl, rfl, rfl, rfl, rfl, rfl, rfl, rfl, rfl, rfl, rfl, rfl⟩ := pj18 (Option.some.inj h)
            exact W.iret hx hb hr (fun t ht _ => kQ.mk ht ⟨_, hP⟩ trivial (hS.F ht)) hS.2.2 dX4_things_113
          · have h := hp_neg c_72 h
            refine lv_bipush (v := -100) hx hb dX4_things_75 (by decide) ?_
            refine lv_iload hx hb dX4_things_77 (lv_at hl 0 rfl) ?_
            refine lv_isub hx hb dX4_things_79 ?_
            obtain ⟨rfl, rfl, rfl, rfl, rfl, rfl, rfl, rfl, rfl, rfl, rfl, rfl, rfl, rfl, rfl, rfl, rfl, rfl⟩ := pj18 (Option.some.inj h)
            exact W.iret hx hb hr (fun t ht _ => kQ.mk ht ⟨_, hP⟩ trivial (hS.F ht)) hS.2.2 dX4_things_80
        · have h := hp_neg c_41 h
          refine lv_aload_n hx hb dX4_things_44 rfl (lv_at hl 1 rfl) ?_
          refine lv_iload hx hb dX4_things_45 (lv_at hl 0 rfl) ?_
          obtain ⟨r_47, r_47_lastFault, e_47, h⟩ := ob2_inv h
          refine k_wVi (i0 := 0) (rest := []) (ws' := [(a_o, .inr (4, [.ref a_n, .ref a_t, .ref a_d, .ref a_o_sheets, .ref a_rd, .int o_traced, .int r_47_lastFault])), (a_o_sheets, .inl (cS, 4, .inr (.inr (.inr (.inr (fun j => some (sa j))))))), (a_d, .inr (0, [.int d_count, .ref a_d_one, .ref a_d_other, .ref a_d_less])), (a_rd, .inr (2, [.ref q_row, .int rd_start, .int rd_length, .int rd_at, .ref a_t])), (a_n, .inr (3, [.int n_count, .int n_references, .ref a_n_kind, .ref a_n_owner, .ref a_n_from, .ref a_n_to, .ref a_n_away])), (a_n_kind, .inl (cI, 6, .inl n_kind)), (a_n_owner, .inl (cI, 6, .inl n_owner)), (a_n_from, .inl (cI, 12, .inl n_from)), (a_n_to, .inl (cI, 12, .inl n_to)), (a_t, .inr (3, [.int t_count, .int t_references, .ref a_t_kind, .ref a_t_owner, .ref a_t_from, .ref a_t_to, .ref a_t_away])), (a_t_kind, .inl (cI, 6, .inl t_kind)), (a_t_owner, .inl (cI, 6, .inl t_owner)), (a_t_from, .inl (cI, 12, .inl t_from)), (a_t_to, .inl (cI, 12, .inl t_to)), ((sa 0), .inr (1, [.int (sl 0), .int (sn 0), .ref (sca 0)])), ((sca 0), .inl (cI, 60, .inl (sc 0))), ((sa 1), .inr (1, [.int (sl 1), .int (sn 1), .ref (sca 1)])), ((sca 1), .inl (cI, 60, .inl (sc 1))), ((sa 2), .inr (1, [.int (sl 2), .int (sn 2), .ref (sca 2)])), ((sca 2), .inl (cI, 60, .inl (sc 2))), ((sa 3), .inr (1, [.int (sl 3), .int (sn 3), .ref (sca 3)])), ((sca 3), .inl (cI, 60, .inl (sc 3)))]) ⟨hx, hb, hml, hown, hts⟩ (c_X4_failed l dC dI cI cS a_o a_n a_t a_d a_o_sheets a_rd o_traced (0 : Int32) r_34 r_47 r_47_lastFault e_47) (cwV 1 hts gX4_things_X4_failed rfl rfl rfl khd_X4_failed ⟨Nat.le_of_ble_eq_true rfl, Nat.le_of_ble_eq_true rfl⟩) hK hN hP (va_D_fst hD rfl) hS [0] rfl rfl rfl rfl rfl rfl hl.1 rfl (Nat.le_of_ble_eq_true rfl) dX4_things_47 ⟨Nat.zero_le _, Nat.zero_le _⟩ rfl rfl (fun H locs hf_47 hP hS => ?_)
          obtain ⟨rfl, rfl, rfl, rfl, rfl, rfl, rfl, rfl, rfl, rfl, rfl, rfl, rfl, rfl, rfl, rfl, rfl, rfl⟩ := pj18 (Option.some.inj h)
          exact W.iret hx hb hr (fun t ht _ => kQ.mk ht ⟨_, hP⟩ trivial (hS.F ht)) hS.2.2 dX4_things_50
      · rw [k_29] at h
        refine lv_sa k_29 ?_
        refine lv_iload_n hx hb dX4_things_30 rfl (lv_at hl 2 rfl) ?_
        refine lv_iload_n hx hb dX4_things_31 rfl (lv_at hl 3 rfl) ?_
        refine lv_iload hx hb dX4_things_32 (lv_at hl 4 rfl) ?_
        obtain ⟨r_34, e_34, h⟩ := ob1_inv h
        refine k_pVi (i0 := 18) (rest := []) ⟨hx, hb, hml, hown, hts⟩ (c_X1_rowFault l dC dI cI cS (sa 2) (sca 2) (sl 2) (sn 2) x2 x3 x4 r_34 e_34) (cwV 3 hts gX4_things_X1_rowFault rfl rfl rfl khd_X1_rowFault ⟨Nat.le_of_ble_eq_true rfl, Nat.le_of_ble_eq_true rfl⟩) hK hN hP (va_D_fst hD rfl) hS [18] rfl rfl rfl rfl rfl rfl hl.1 rfl (Nat.le_of_ble_eq_true rfl) dX4_things_34 ⟨Nat.zero_le _, Nat.zero_le _⟩ (fun H locs hf_34 hP hS => ?_)
        refine lv_istore (lv' := [(5, .int r_34), (0, .ref a_o), (1, .int x1), (2, .int x2), (3, .int x3), (4, .int x4)]) hx hb dX4_things_37 hl (by decide) rfl (fun ls hl => ?_)
        refine lv_iload hx hb dX4_things_39 (lv_at hl 0 rfl) ?_
        refine lv_if_eq (tgt := 51) hx hb dX4_things_41 (by decide) (fun c_41 => ?_) (fun c_41 => ?_)
        · have h := hp_pos c_41 h
          refine lv_aload_n hx hb dX4_things_51 rfl (lv_at hl 1 rfl) ?_
          refine va_get (D := (dC, dI)) (ci := 4) (v := .ref a_rd) (C := RX4) (T := TX4) (N := 7) hx hb hts kin_X4_things_X4 hown hK hP 0 rfl rfl 4 (Nat.le_of_ble_eq_true rfl) (hts (.fieldLink RX4 40 "OwnedThings" "reader" "LOwnedThings$TextReader;") (List.mem_of_getElem? (i := 3) rfl)) (fun _ h9 => h9) rfl dX4_things_52 ?_
          refine lv_aload_n hx hb dX4_things_55 rfl (lv_at hl 1 rfl) ?_
          refine va_get (D := (dC, dI)) (ci := 4) (v := .ref a_o_sheets) (C := RX4) (T := TX4) (N := 7) hx hb hts kin_X4_things_X4 hown hK hP 0 rfl rfl 3 (Nat.le_of_ble_eq_true rfl) (hts (.fieldLink RX4 30 "OwnedThings" "sheets" "[LOwnedThings$Sheet;") (List.mem_of_getElem? (i := 2) rfl)) (fun _ h9 => h9) rfl dX4_things_56 ?_
          refine lv_iload_n hx hb dX4_things_59 rfl (lv_at hl 2 rfl) ?_
          have h := hg_yes h
          refine va_aldq (D := (dC, dI)) hx hb hK hP 1 1 rfl rfl g_29 dX4_things_60 ?_
          refine lv_sa k_29 ?_
          refine lv_iload_n hx hb dX4_things_61 rfl (lv_at hl 4 rfl) ?_
          refine lv_iload hx hb dX4_things_62 (lv_at hl 5 rfl) ?_
          obtain ⟨r_64, r_64_start, r_64_length, r_64_at, r_64_count, r_64_references, r_64_kind, r_64_owner, r_64_from, r_64_to, e_64, h⟩ := ob10_inv h
          refine k_wVi (i0 := 3) (rest := []) (ws' := [(a_o, .inr (4, [.ref a_n, .ref a_t, .ref a_d, .ref a_o_sheets, .ref a_rd, .int o_traced, .int (0 : Int32)])), (a_o_sheets, .inl (cS, 4, .inr (.inr (.inr (.inr (fun j => some (sa j))))))), (a_d, .inr (0, [.int d_count, .ref a_d_one, .ref a_d_other, .ref a_d_less])), (a_rd, .inr (2, [.ref (sa 2), .int r_64_start, .int r_64_length, .int r_64_at, .ref a_t])), (a_n, .inr (3, [.int n_count, .int n_references, .ref a_n_kind, .ref a_n_owner, .ref a_n_from, .ref a_n_to, .ref a_n_away])), (a_n_kind, .inl (cI, 6, .inl n_kind)), (a_n_owner, .inl (cI, 6, .inl n_owner)), (a_n_from, .inl (cI, 12, .inl n_from)), (a_n_to, .inl (cI, 12, .inl n_to)), (a_t, .inr (3, [.int r_64_count, .int r_64_references, .ref a_t_kind, .ref a_t_owner, .ref a_t_from, .ref a_t_to, .ref a_t_away])), (a_t_kind, .inl (cI, 6, .inl r_64_kind)), (a_t_owner, .inl (cI, 6, .inl r_64_owner)), (a_t_from, .inl (cI, 12, .inl r_64_from)), (a_t_to, .inl (cI, 12, .inl r_64_to)), ((sa 0), .inr (1, [.int (sl 0), .int (sn 0), .ref (sca 0)])), ((sca 0), .inl (cI, 60, .inl (sc 0))), ((sa 1), .inr (1, [.int (sl 1), .int (sn 1), .ref (sca 1)])), ((sca 1), .inl (cI, 60, .inl (sc 1))), ((sa 2), .inr (1, [.int (sl 2), .int (sn 2), .ref (sca 2)])), ((sca 2), .inl (cI, 60, .inl (sc 2))), ((sa 3), .inr (1, [.int (sl 3), .int (sn 3), .ref (sca 3)])), ((sca 3), .inl (cI, 60, .inl (sc 3)))]) ⟨hx, hb, hml, hown, hts⟩ (c_X2_firstFault l dC dI cI cS a_rd q_row a_t (sa 2) (sca 2) a_t_kind a_t_owner a_t_from a_t_to a_t_away rd_start rd_length rd_at (sl 2) (sn 2) (sc 2) t_count t_references t_kind t_owner t_from t_to x3 x4 r_64 r_64_start r_64_length r_64_at r_64_count r_64_references r_64_kind r_64_owner r_64_from r_64_to e_64) (cwV 3 hts gX4_things_X2_firstFault rfl rfl rfl khd_X2_firstFault ⟨Nat.le_of_ble_eq_true rfl, Nat.le_of_ble_eq_true rfl⟩) hK hN hP (va_D_fst hD rfl) hS [3, 18, 19, 9, 10, 11, 12, 13] rfl rfl rfl rfl rfl rfl hl.1 rfl (Nat.le_of_ble_eq_true rfl) dX4_things_64 ⟨Nat.zero_le _, Nat.zero_le _⟩ rfl rfl (fun H locs hf_64 hP hS => ?_)
          refine lv_istore (lv' := [(6, .int r_64), (5, .int r_34), (0, .ref a_o), (1, .int x1), (2, .int x2), (3, .int x3), (4, .int x4)]) hx hb dX4_things_67 hl (by decide) rfl (fun ls hl => ?_)
          refine lv_iload hx hb dX4_things_69 (lv_at hl 0 rfl) ?_
          refine lv_iconst (v := -1) hx hb dX4_things_71 (by decide) ?_
          refine lv_icmp_eq (tgt := 81) hx hb dX4_things_72 (by decide) (fun c_72 => ?_) (fun c_72 => ?_)
          · have h := hp_pos c_72 h
            refine lv_aload_n hx hb dX4_things_81 rfl (lv_at hl 2 rfl) ?_
            refine va_get (D := (dC, dI)) (ci := 4) (v := .ref a_n) (C := RX4) (T := TX4) (N := 7) hx hb hts kin_X4_things_X4 hown hK hP 0 rfl rfl 0 (Nat.le_of_ble_eq_true rfl) (hts (.fieldLink RX4 12 "OwnedThings" "now" "LOwnedThings$Web;") (List.mem_of_getElem? (i := 4) rfl)) (fun _ h9 => h9) rfl dX4_things_82 ?_
            refine lv_aload_n hx hb dX4_things_85 rfl (lv_at hl 2 rfl) ?_
            refine va_get (D := (dC, dI)) (ci := 4) (v := .ref a_t) (C := RX4) (T := TX4) (N := 7) hx hb hts kin_X4_things_X4 hown hK hP 0 rfl rfl 1 (Nat.le_of_ble_eq_true rfl) (hts (.fieldLink RX4 18 "OwnedThings" "trial" "LOwnedThings$Web;") (List.mem_of_getElem? (i := 5) rfl)) (fun _ h9 => h9) rfl dX4_things_86 ?_
            obtain ⟨r_89_count, r_89_references, r_89_kind, r_89_owner, r_89_from, r_89_to, e_89, h⟩ := ob6_inv h
            refine k_wVv (i0 := 4) (rest := []) (ws' := [(a_o, .inr (4, [.ref a_n, .ref a_t, .ref a_d, .ref a_o_sheets, .ref a_rd, .int o_traced, .int (0 : Int32)])), (a_o_sheets, .inl (cS, 4, .inr (.inr (.inr (.inr (fun j => some (sa j))))))), (a_d, .inr (0, [.int d_count, .ref a_d_one, .ref a_d_other, .ref a_d_less])), (a_rd, .inr (2, [.ref (sa 2), .int r_64_start, .int r_64_length, .int r_64_at, .ref a_t])), (a_n, .inr (3, [.int r_89_count, .int r_89_references, .ref a_n_kind, .ref a_n_owner, .ref a_n_from, .ref a_n_to, .ref a_n_away])), (a_n_kind, .inl (cI, 6, .inl r_89_kind)), (a_n_owner, .inl (cI, 6, .inl r_89_owner)), (a_n_from, .inl (cI, 12, .inl r_89_from)), (a_n_to, .inl (cI, 12, .inl r_89_to)), (a_t, .inr (3, [.int r_64_count, .int r_64_references, .ref a_t_kind, .ref a_t_owner, .ref a_t_from, .ref a_t_to, .ref a_t_away])), (a_t_kind, .inl (cI, 6, .inl r_64_kind)), (a_t_owner, .inl (cI, 6, .inl r_64_owner)), (a_t_from, .inl (cI, 12, .inl r_64_from)), (a_t_to, .inl (cI, 12, .inl r_64_to)), ((sa 0), .inr (1, [.int (sl 0), .int (sn 0), .ref (sca 0)])), ((sca 0), .inl (cI, 60, .inl (sc 0))), ((sa 1), .inr (1, [.int (sl 1), .int (sn 1), .ref (sca 1)])), ((sca 1), .inl (cI, 60, .inl (sc 1))), ((sa 2), .inr (1, [.int (sl 2), .int (sn 2), .ref (sca 2)])), ((sca 2), .inl (cI, 60, .inl (sc 2))), ((sa 3), .inr (1, [.int (sl 3), .int (sn 3), .ref (sca 3)])), ((sca 3), .inl (cI, 60, .inl (sc 3)))]) ⟨hx, hb, hml, hown, hts⟩ (c_X3_become l dC dI cI cS a_n a_n_kind a_n_owner a_n_from a_n_to a_n_away a_t a_t_kind a_t_owner a_t_from a_t_to a_t_away n_count n_references n_kind n_owner n_from n_to r_64_count r_64_references r_64_kind r_64_owner r_64_from r_64_to r_89_count r_89_references r_89_kind r_89_owner r_89_from r_89_to e_89) (cwV 1 hts gX4_things_X3_become rfl rfl rfl khd_X3_become ⟨Nat.le_of_ble_eq_true rfl, Nat.le_of_ble_eq_true rfl⟩) hK hN hP (va_D_fst hD rfl) hS [4, 5, 6, 7, 8, 9, 10, 11, 12, 13] rfl rfl rfl rfl rfl rfl hl.1 rfl (Nat.le_of_ble_eq_true rfl) dX4_things_89 ⟨Nat.zero_le _, Nat.zero_le _⟩ rfl rfl (fun H locs hf_89 hP hS => ?_)
            refine lv_aload_n hx hb dX4_things_92 rfl (lv_at hl 2 rfl) ?_
            refine va_get (D := (dC, dI)) (ci := 4) (v := .ref a_d) (C := RX4) (T := TX4) (N := 7) hx hb hts kin_X4_things_X4 hown hK hP 0 rfl rfl 2 (Nat.le_of_ble_eq_true rfl) (hts (.fieldLink RX4 24 "OwnedThings" "told" "LOwnedThings$Readings;") (List.mem_of_getElem? (i := 6) rfl)) (fun _ h9 => h9) rfl dX4_things_93 ?_
            refine lv_aload_n hx hb dX4_things_96 rfl (lv_at hl 2 rfl) ?_
            refine va_get (D := (dC, dI)) (ci := 4) (v := .ref a_d) (C := RX4) (T := TX4) (N := 7) hx hb hts kin_X4_things_X4 hown hK hP 0 rfl rfl 2 (Nat.le_of_ble_eq_true rfl) (hts (.fieldLink RX4 24 "OwnedThings" "told" "LOwnedThings$Readings;") (List.mem_of_getElem? (i := 6) rfl)) (fun _ h9 => h9) rfl dX4_things_97 ?_
            obtain ⟨r_100, e_100, h⟩ := ob1_inv h
            refine k_pVi (i0 := 2) (rest := [.ref a_d]) ⟨hx, hb, hml, hown, hts⟩ (c_X0_size l dC dI cI cS a_d a_d_one a_d_other a_d_less d_count r_100 e_100) (cwV 0 hts gX4_things_X0_size rfl rfl rfl khd_X0_size ⟨Nat.le_of_ble_eq_true rfl, Nat.le_of_ble_eq_true rfl⟩) hK hN hP (va_D_fst hD rfl) hS [2] rfl rfl rfl rfl rfl rfl hl.1 rfl (Nat.le_of_ble_eq_true rfl) dX4_things_100 ⟨Nat.zero_le _, Nat.zero_le _⟩ (fun H locs hf_100 hP hS => ?_)
            obtain ⟨r_103_count, e_103, h⟩ := ob1_inv h
            refine k_wVv (i0 := 2) (rest := []) (ws' := [(a_o, .inr (4, [.ref a_n, .ref a_t, .ref a_d, .ref a_o_sheets, .ref a_rd, .int o_traced, .int (0 : Int32)])), (a_o_sheets, .inl (cS, 4, .inr (.inr (.inr (.inr (fun j => some (sa j))))))), (a_d, .inr (0, [.int r_103_count, .ref a_d_one, .ref a_d_other, .ref a_d_less])), (a_rd, .inr (2, [.ref (sa 2), .int r_64_start, .int r_64_length, .int r_64_at, .ref a_t])), (a_n, .inr (3, [.int r_89_count, .int r_89_references, .ref a_n_kind, .ref a_n_owner, .ref a_n_from, .ref a_n_to, .ref a_n_away])), (a_n_kind, .inl (cI, 6, .inl r_89_kind)), (a_n_owner, .inl (cI, 6, .inl r_89_owner)), (a_n_from, .inl (cI, 12, .inl r_89_from)), (a_n_to, .inl (cI, 12, .inl r_89_to)), (a_t, .inr (3, [.int r_64_count, .int r_64_references, .ref a_t_kind, .ref a_t_owner, .ref a_t_from, .ref a_t_to, .ref a_t_away])), (a_t_kind, .inl (cI, 6, .inl r_64_kind)), (a_t_owner, .inl (cI, 6, .inl r_64_owner)), (a_t_from, .inl (cI, 12, .inl r_64_from)), (a_t_to, .inl (cI, 12, .inl r_64_to)), ((sa 0), .inr (1, [.int (sl 0), .int (sn 0), .ref (sca 0)])), ((sca 0), .inl (cI, 60, .inl (sc 0))), ((sa 1), .inr (1, [.int (sl 1), .int (sn 1), .ref (sca 1)])), ((sca 1), .inl (cI, 60, .inl (sc 1))), ((sa 2), .inr (1, [.int (sl 2), .int (sn 2), .ref (sca 2)])), ((sca 2), .inl (cI, 60, .inl (sc 2))), ((sa 3), .inr (1, [.int (sl 3), .int (sn 3), .ref (sca 3)])), ((sca 3), .inl (cI, 60, .inl (sc 3)))]) ⟨hx, hb, hml, hown, hts⟩ (c_X0_dropLast l dC dI cI cS a_d a_d_one a_d_other a_d_less d_count r_100 r_103_count e_103) (cwV 1 hts gX4_things_X0_dropLast rfl rfl rfl khd_X0_dropLast ⟨Nat.le_of_ble_eq_true rfl, Nat.le_of_ble_eq_true rfl⟩) hK hN hP (va_D_fst hD rfl) hS [2] rfl rfl rfl rfl rfl rfl hl.1 rfl (Nat.le_of_ble_eq_true rfl) dX4_things_103 ⟨Nat.zero_le _, Nat.zero_le _⟩ rfl rfl (fun H locs hf_103 hP hS => ?_)
            refine lv_aload_n hx hb dX4_things_106 rfl (lv_at hl 2 rfl) ?_
            refine va_get (D := (dC, dI)) (ci := 4) (v := .ref a_n) (C := RX4) (T := TX4) (N := 7) hx hb hts kin_X4_things_X4 hown hK hP 0 rfl rfl 0 (Nat.le_of_ble_eq_true rfl) (hts (.fieldLink RX4 12 "OwnedThings" "now" "LOwnedThings$Web;") (List.mem_of_getElem? (i := 4) rfl)) (fun _ h9 => h9) rfl dX4_things_107 ?_
            obtain ⟨r_110, e_110, h⟩ := ob1_inv h
            refine k_pVi (i0 := 4) (rest := []) ⟨hx, hb, hml, hown, hts⟩ (c_X3_size l dC dI cI cS a_n a_n_kind a_n_owner a_n_from a_n_to a_n_away r_89_count r_89_references r_110 e_110) (cwV 0 hts gX4_things_X3_size rfl rfl rfl khd_X3_size ⟨Nat.le_of_ble_eq_true rfl, Nat.le_of_ble_eq_true rfl⟩) hK hN hP (va_D_fst hD rfl) hS [4] rfl rfl rfl rfl rfl rfl hl.1 rfl (Nat.le_of_ble_eq_true rfl) dX4_things_110 ⟨Nat.zero_le _, Nat.zero_le _⟩ (fun H locs hf_110 hP hS => ?_)
            obtain ⟨rfl, rfl, rfl, rfl, rfl, rfl, rfl, rfl, rfl, rfl, rfl, rfl, rfl, rfl, rfl, rfl, rfl, rfl⟩ := pj18 (Option.some.inj h)
            exact W.iret hx hb hr (fun t ht _ => kQ.mk ht ⟨_, hP⟩ trivial (hS.F ht)) hS.2.2 dX4_things_113
          · have h := hp_neg c_72 h
            refine lv_bipush (v := -100) hx hb dX4_things_75 (by decide) ?_
            refine lv_iload hx hb dX4_things_77 (lv_at hl 0 rfl) ?_
            refine lv_isub hx hb dX4_things_79 ?_
            obtain ⟨rfl, rfl, rfl, rfl, rfl, rfl, rfl, rfl, rfl, rfl, rfl, rfl, rfl, rfl, rfl, rfl, rfl, rfl⟩ := pj18 (Option.some.inj h)
            exact W.iret hx hb hr (fun t ht _ => kQ.mk ht ⟨_, hP⟩ trivial (hS.F ht)) hS.2.2 dX4_things_80
        · have h := hp_neg c_41 h
          refine lv_aload_n hx hb dX4_things_44 rfl (lv_at hl 1 rfl) ?_
          refine lv_iload hx hb dX4_things_45 (lv_at hl 0 rfl) ?_
          obtain ⟨r_47, r_47_lastFault, e_47, h⟩ := ob2_inv h
          refine k_wVi (i0 := 0) (rest := []) (ws' := [(a_o, .inr (4, [.ref a_n, .ref a_t, .ref a_d, .ref a_o_sheets, .ref a_rd, .int o_traced, .int r_47_lastFault])), (a_o_sheets, .inl (cS, 4, .inr (.inr (.inr (.inr (fun j => some (sa j))))))), (a_d, .inr (0, [.int d_count, .ref a_d_one, .ref a_d_other, .ref a_d_less])), (a_rd, .inr (2, [.ref q_row, .int rd_start, .int rd_length, .int rd_at, .ref a_t])), (a_n, .inr (3, [.int n_count, .int n_references, .ref a_n_kind, .ref a_n_owner, .ref a_n_from, .ref a_n_to, .ref a_n_away])), (a_n_kind, .inl (cI, 6, .inl n_kind)), (a_n_owner, .inl (cI, 6, .inl n_owner)), (a_n_from, .inl (cI, 12, .inl n_from)), (a_n_to, .inl (cI, 12, .inl n_to)), (a_t, .inr (3, [.int t_count, .int t_references, .ref a_t_kind, .ref a_t_owner, .ref a_t_from, .ref a_t_to, .ref a_t_away])), (a_t_kind, .inl (cI, 6, .inl t_kind)), (a_t_owner, .inl (cI, 6, .inl t_owner)), (a_t_from, .inl (cI, 12, .inl t_from)), (a_t_to, .inl (cI, 12, .inl t_to)), ((sa 0), .inr (1, [.int (sl 0), .int (sn 0), .ref (sca 0)])), ((sca 0), .inl (cI, 60, .inl (sc 0))), ((sa 1), .inr (1, [.int (sl 1), .int (sn 1), .ref (sca 1)])), ((sca 1), .inl (cI, 60, .inl (sc 1))), ((sa 2), .inr (1, [.int (sl 2), .int (sn 2), .ref (sca 2)])), ((sca 2), .inl (cI, 60, .inl (sc 2))), ((sa 3), .inr (1, [.int (sl 3), .int (sn 3), .ref (sca 3)])), ((sca 3), .inl (cI, 60, .inl (sc 3)))]) ⟨hx, hb, hml, hown, hts⟩ (c_X4_failed l dC dI cI cS a_o a_n a_t a_d a_o_sheets a_rd o_traced (0 : Int32) r_34 r_47 r_47_lastFault e_47) (cwV 1 hts gX4_things_X4_failed rfl rfl rfl khd_X4_failed ⟨Nat.le_of_ble_eq_true rfl, Nat.le_of_ble_eq_true rfl⟩) hK hN hP (va_D_fst hD rfl) hS [0] rfl rfl rfl rfl rfl rfl hl.1 rfl (Nat.le_of_ble_eq_true rfl) dX4_things_47 ⟨Nat.zero_le _, Nat.zero_le _⟩ rfl rfl (fun H locs hf_47 hP hS => ?_)
          obtain ⟨rfl, rfl, rfl, rfl, rfl, rfl, rfl, rfl, rfl, rfl, rfl, rfl, rfl, rfl, rfl, rfl, rfl, rfl⟩ := pj18 (Option.some.inj h)
          exact W.iret hx hb hr (fun t ht _ => kQ.mk ht ⟨_, hP⟩ trivial (hS.F ht)) hS.2.2 dX4_things_50
      · rw [k_29] at h
        refine lv_sa k_29 ?_
        refine lv_iload_n hx hb dX4_things_30 rfl (lv_at hl 2 rfl) ?_
        refine lv_iload_n hx hb dX4_things_31 rfl (lv_at hl 3 rfl) ?_
        refine lv_iload hx hb dX4_things_32 (lv_at hl 4 rfl) ?_
        obtain ⟨r_34, e_34, h⟩ := ob1_inv h
        refine k_pVi (i0 := 20) (rest := []) ⟨hx, hb, hml, hown, hts⟩ (c_X1_rowFault l dC dI cI cS (sa 3) (sca 3) (sl 3) (sn 3) x2 x3 x4 r_34 e_34) (cwV 3 hts gX4_things_X1_rowFault rfl rfl rfl khd_X1_rowFault ⟨Nat.le_of_ble_eq_true rfl, Nat.le_of_ble_eq_true rfl⟩) hK hN hP (va_D_fst hD rfl) hS [20] rfl rfl rfl rfl rfl rfl hl.1 rfl (Nat.le_of_ble_eq_true rfl) dX4_things_34 ⟨Nat.zero_le _, Nat.zero_le _⟩ (fun H locs hf_34 hP hS => ?_)
        refine lv_istore (lv' := [(5, .int r_34), (0, .ref a_o), (1, .int x1), (2, .int x2), (3, .int x3), (4, .int x4)]) hx hb dX4_things_37 hl (by decide) rfl (fun ls hl => ?_)
        refine lv_iload hx hb dX4_things_39 (lv_at hl 0 rfl) ?_
        refine lv_if_eq (tgt := 51) hx hb dX4_things_41 (by decide) (fun c_41 => ?_) (fun c_41 => ?_)
        · have h := hp_pos c_41 h
          refine lv_aload_n hx hb dX4_things_51 rfl (lv_at hl 1 rfl) ?_
          refine va_get (D := (dC, dI)) (ci := 4) (v := .ref a_rd) (C := RX4) (T := TX4) (N := 7) hx hb hts kin_X4_things_X4 hown hK hP 0 rfl rfl 4 (Nat.le_of_ble_eq_true rfl) (hts (.fieldLink RX4 40 "OwnedThings" "reader" "LOwnedThings$TextReader;") (List.mem_of_getElem? (i := 3) rfl)) (fun _ h9 => h9) rfl dX4_things_52 ?_
          refine lv_aload_n hx hb dX4_things_55 rfl (lv_at hl 1 rfl) ?_
          refine va_get (D := (dC, dI)) (ci := 4) (v := .ref a_o_sheets) (C := RX4) (T := TX4) (N := 7) hx hb hts kin_X4_things_X4 hown hK hP 0 rfl rfl 3 (Nat.le_of_ble_eq_true rfl) (hts (.fieldLink RX4 30 "OwnedThings" "sheets" "[LOwnedThings$Sheet;") (List.mem_of_getElem? (i := 2) rfl)) (fun _ h9 => h9) rfl dX4_things_56 ?_
          refine lv_iload_n hx hb dX4_things_59 rfl (lv_at hl 2 rfl) ?_
          have h := hg_yes h
          refine va_aldq (D := (dC, dI)) hx hb hK hP 1 1 rfl rfl g_29 dX4_things_60 ?_
          refine lv_sa k_29 ?_
          refine lv_iload_n hx hb dX4_things_61 rfl (lv_at hl 4 rfl) ?_
          refine lv_iload hx hb dX4_things_62 (lv_at hl 5 rfl) ?_
          obtain ⟨r_64, r_64_start, r_64_length, r_64_at, r_64_count, r_64_references, r_64_kind, r_64_owner, r_64_from, r_64_to, e_64, h⟩ := ob10_inv h
          refine k_wVi (i0 := 3) (rest := []) (ws' := [(a_o, .inr (4, [.ref a_n, .ref a_t, .ref a_d, .ref a_o_sheets, .ref a_rd, .int o_traced, .int (0 : Int32)])), (a_o_sheets, .inl (cS, 4, .inr (.inr (.inr (.inr (fun j => some (sa j))))))), (a_d, .inr (0, [.int d_count, .ref a_d_one, .ref a_d_other, .ref a_d_less])), (a_rd, .inr (2, [.ref (sa 3), .int r_64_start, .int r_64_length, .int r_64_at, .ref a_t])), (a_n, .inr (3, [.int n_count, .int n_references, .ref a_n_kind, .ref a_n_owner, .ref a_n_from, .ref a_n_to, .ref a_n_away])), (a_n_kind, .inl (cI, 6, .inl n_kind)), (a_n_owner, .inl (cI, 6, .inl n_owner)), (a_n_from, .inl (cI, 12, .inl n_from)), (a_n_to, .inl (cI, 12, .inl n_to)), (a_t, .inr (3, [.int r_64_count, .int r_64_references, .ref a_t_kind, .ref a_t_owner, .ref a_t_from, .ref a_t_to, .ref a_t_away])), (a_t_kind, .inl (cI, 6, .inl r_64_kind)), (a_t_owner, .inl (cI, 6, .inl r_64_owner)), (a_t_from, .inl (cI, 12, .inl r_64_from)), (a_t_to, .inl (cI, 12, .inl r_64_to)), ((sa 0), .inr (1, [.int (sl 0), .int (sn 0), .ref (sca 0)])), ((sca 0), .inl (cI, 60, .inl (sc 0))), ((sa 1), .inr (1, [.int (sl 1), .int (sn 1), .ref (sca 1)])), ((sca 1), .inl (cI, 60, .inl (sc 1))), ((sa 2), .inr (1, [.int (sl 2), .int (sn 2), .ref (sca 2)])), ((sca 2), .inl (cI, 60, .inl (sc 2))), ((sa 3), .inr (1, [.int (sl 3), .int (sn 3), .ref (sca 3)])), ((sca 3), .inl (cI, 60, .inl (sc 3)))]) ⟨hx, hb, hml, hown, hts⟩ (c_X2_firstFault l dC dI cI cS a_rd q_row a_t (sa 3) (sca 3) a_t_kind a_t_owner a_t_from a_t_to a_t_away rd_start rd_length rd_at (sl 3) (sn 3) (sc 3) t_count t_references t_kind t_owner t_from t_to x3 x4 r_64 r_64_start r_64_length r_64_at r_64_count r_64_references r_64_kind r_64_owner r_64_from r_64_to e_64) (cwV 3 hts gX4_things_X2_firstFault rfl rfl rfl khd_X2_firstFault ⟨Nat.le_of_ble_eq_true rfl, Nat.le_of_ble_eq_true rfl⟩) hK hN hP (va_D_fst hD rfl) hS [3, 20, 21, 9, 10, 11, 12, 13] rfl rfl rfl rfl rfl rfl hl.1 rfl (Nat.le_of_ble_eq_true rfl) dX4_things_64 ⟨Nat.zero_le _, Nat.zero_le _⟩ rfl rfl (fun H locs hf_64 hP hS => ?_)
          refine lv_istore (lv' := [(6, .int r_64), (5, .int r_34), (0, .ref a_o), (1, .int x1), (2, .int x2), (3, .int x3), (4, .int x4)]) hx hb dX4_things_67 hl (by decide) rfl (fun ls hl => ?_)
          refine lv_iload hx hb dX4_things_69 (lv_at hl 0 rfl) ?_
          refine lv_iconst (v := -1) hx hb dX4_things_71 (by decide) ?_
          refine lv_icmp_eq (tgt := 81) hx hb dX4_things_72 (by decide) (fun c_72 => ?_) (fun c_72 => ?_)
          · have h := hp_pos c_72 h
            refine lv_aload_n hx hb dX4_things_81 rfl (lv_at hl 2 rfl) ?_
            refine va_get (D := (dC, dI)) (ci := 4) (v := .ref a_n) (C := RX4) (T := TX4) (N := 7) hx hb hts kin_X4_things_X4 hown hK hP 0 rfl rfl 0 (Nat.le_of_ble_eq_true rfl) (hts (.fieldLink RX4 12 "OwnedThings" "now" "LOwnedThings$Web;") (List.mem_of_getElem? (i := 4) rfl)) (fun _ h9 => h9) rfl dX4_things_82 ?_
            refine lv_aload_n hx hb dX4_things_85 rfl (lv_at hl 2 rfl) ?_
            refine va_get (D := (dC, dI)) (ci := 4) (v := .ref a_t) (C := RX4) (T := TX4) (N := 7) hx hb hts kin_X4_things_X4 hown hK hP 0 rfl rfl 1 (Nat.le_of_ble_eq_true rfl) (hts (.fieldLink RX4 18 "OwnedThings" "trial" "LOwnedThings$Web;") (List.mem_of_getElem? (i := 5) rfl)) (fun _ h9 => h9) rfl dX4_things_86 ?_
            obtain ⟨r_89_count, r_89_references, r_89_kind, r_89_owner, r_89_from, r_89_to, e_89, h⟩ := ob6_inv h
            refine k_wVv (i0 := 4) (rest := []) (ws' := [(a_o, .inr (4, [.ref a_n, .ref a_t, .ref a_d, .ref a_o_sheets, .ref a_rd, .int o_traced, .int (0 : Int32)])), (a_o_sheets, .inl (cS, 4, .inr (.inr (.inr (.inr (fun j => some (sa j))))))), (a_d, .inr (0, [.int d_count, .ref a_d_one, .ref a_d_other, .ref a_d_less])), (a_rd, .inr (2, [.ref (sa 3), .int r_64_start, .int r_64_length, .int r_64_at, .ref a_t])), (a_n, .inr (3, [.int r_89_count, .int r_89_references, .ref a_n_kind, .ref a_n_owner, .ref a_n_from, .ref a_n_to, .ref a_n_away])), (a_n_kind, .inl (cI, 6, .inl r_89_kind)), (a_n_owner, .inl (cI, 6, .inl r_89_owner)), (a_n_from, .inl (cI, 12, .inl r_89_from)), (a_n_to, .inl (cI, 12, .inl r_89_to)), (a_t, .inr (3, [.int r_64_count, .int r_64_references, .ref a_t_kind, .ref a_t_owner, .ref a_t_from, .ref a_t_to, .ref a_t_away])), (a_t_kind, .inl (cI, 6, .inl r_64_kind)), (a_t_owner, .inl (cI, 6, .inl r_64_owner)), (a_t_from, .inl (cI, 12, .inl r_64_from)), (a_t_to, .inl (cI, 12, .inl r_64_to)), ((sa 0), .inr (1, [.int (sl 0), .int (sn 0), .ref (sca 0)])), ((sca 0), .inl (cI, 60, .inl (sc 0))), ((sa 1), .inr (1, [.int (sl 1), .int (sn 1), .ref (sca 1)])), ((sca 1), .inl (cI, 60, .inl (sc 1))), ((sa 2), .inr (1, [.int (sl 2), .int (sn 2), .ref (sca 2)])), ((sca 2), .inl (cI, 60, .inl (sc 2))), ((sa 3), .inr (1, [.int (sl 3), .int (sn 3), .ref (sca 3)])), ((sca 3), .inl (cI, 60, .inl (sc 3)))]) ⟨hx, hb, hml, hown, hts⟩ (c_X3_become l dC dI cI cS a_n a_n_kind a_n_owner a_n_from a_n_to a_n_away a_t a_t_kind a_t_owner a_t_from a_t_to a_t_away n_count n_references n_kind n_owner n_from n_to r_64_count r_64_references r_64_kind r_64_owner r_64_from r_64_to r_89_count r_89_references r_89_kind r_89_owner r_89_from r_89_to e_89) (cwV 1 hts gX4_things_X3_become rfl rfl rfl khd_X3_become ⟨Nat.le_of_ble_eq_true rfl, Nat.le_of_ble_eq_true rfl⟩) hK hN hP (va_D_fst hD rfl) hS [4, 5, 6, 7, 8, 9, 10, 11, 12, 13] rfl rfl rfl rfl rfl rfl hl.1 rfl (Nat.le_of_ble_eq_true rfl) dX4_things_89 ⟨Nat.zero_le _, Nat.zero_le _⟩ rfl rfl (fun H locs hf_89 hP hS => ?_)
            refine lv_aload_n hx hb dX4_things_92 rfl (lv_at hl 2 rfl) ?_
            refine va_get (D := (dC, dI)) (ci := 4) (v := .ref a_d) (C := RX4) (T := TX4) (N := 7) hx hb hts kin_X4_things_X4 hown hK hP 0 rfl rfl 2 (Nat.le_of_ble_eq_true rfl) (hts (.fieldLink RX4 24 "OwnedThings" "told" "LOwnedThings$Readings;") (List.mem_of_getElem? (i := 6) rfl)) (fun _ h9 => h9) rfl dX4_things_93 ?_
            refine lv_aload_n hx hb dX4_things_96 rfl (lv_at hl 2 rfl) ?_
            refine va_get (D := (dC, dI)) (ci := 4) (v := .ref a_d) (C := RX4) (T := TX4) (N := 7) hx hb hts kin_X4_things_X4 hown hK hP 0 rfl rfl 2 (Nat.le_of_ble_eq_true rfl) (hts (.fieldLink RX4 24 "OwnedThings" "told" "LOwnedThings$Readings;") (List.mem_of_getElem? (i := 6) rfl)) (fun _ h9 => h9) rfl dX4_things_97 ?_
            obtain ⟨r_100, e_100, h⟩ := ob1_inv h
            refine k_pVi (i0 := 2) (rest := [.ref a_d]) ⟨hx, hb, hml, hown, hts⟩ (c_X0_size l dC dI cI cS a_d a_d_one a_d_other a_d_less d_count r_100 e_100) (cwV 0 hts gX4_things_X0_size rfl rfl rfl khd_X0_size ⟨Nat.le_of_ble_eq_true rfl, Nat.le_of_ble_eq_true rfl⟩) hK hN hP (va_D_fst hD rfl) hS [2] rfl rfl rfl rfl rfl rfl hl.1 rfl (Nat.le_of_ble_eq_true rfl) dX4_things_100 ⟨Nat.zero_le _, Nat.zero_le _⟩ (fun H locs hf_100 hP hS => ?_)
            obtain ⟨r_103_count, e_103, h⟩ := ob1_inv h
            refine k_wVv (i0 := 2) (rest := []) (ws' := [(a_o, .inr (4, [.ref a_n, .ref a_t, .ref a_d, .ref a_o_sheets, .ref a_rd, .int o_traced, .int (0 : Int32)])), (a_o_sheets, .inl (cS, 4, .inr (.inr (.inr (.inr (fun j => some (sa j))))))), (a_d, .inr (0, [.int r_103_count, .ref a_d_one, .ref a_d_other, .ref a_d_less])), (a_rd, .inr (2, [.ref (sa 3), .int r_64_start, .int r_64_length, .int r_64_at, .ref a_t])), (a_n, .inr (3, [.int r_89_count, .int r_89_references, .ref a_n_kind, .ref a_n_owner, .ref a_n_from, .ref a_n_to, .ref a_n_away])), (a_n_kind, .inl (cI, 6, .inl r_89_kind)), (a_n_owner, .inl (cI, 6, .inl r_89_owner)), (a_n_from, .inl (cI, 12, .inl r_89_from)), (a_n_to, .inl (cI, 12, .inl r_89_to)), (a_t, .inr (3, [.int r_64_count, .int r_64_references, .ref a_t_kind, .ref a_t_owner, .ref a_t_from, .ref a_t_to, .ref a_t_away])), (a_t_kind, .inl (cI, 6, .inl r_64_kind)), (a_t_owner, .inl (cI, 6, .inl r_64_owner)), (a_t_from, .inl (cI, 12, .inl r_64_from)), (a_t_to, .inl (cI, 12, .inl r_64_to)), ((sa 0), .inr (1, [.int (sl 0), .int (sn 0), .ref (sca 0)])), ((sca 0), .inl (cI, 60, .inl (sc 0))), ((sa 1), .inr (1, [.int (sl 1), .int (sn 1), .ref (sca 1)])), ((sca 1), .inl (cI, 60, .inl (sc 1))), ((sa 2), .inr (1, [.int (sl 2), .int (sn 2), .ref (sca 2)])), ((sca 2), .inl (cI, 60, .inl (sc 2))), ((sa 3), .inr (1, [.int (sl 3), .int (sn 3), .ref (sca 3)])), ((sca 3), .inl (cI, 60, .inl (sc 3)))]) ⟨hx, hb, hml, hown, hts⟩ (c_X0_dropLast l dC dI cI cS a_d a_d_one a_d_other a_d_less d_count r_100 r_103_count e_103) (cwV 1 hts gX4_things_X0_dropLast rfl rfl rfl khd_X0_dropLast ⟨Nat.le_of_ble_eq_true rfl, Nat.le_of_ble_eq_true rfl⟩) hK hN hP (va_D_fst hD rfl) hS [2] rfl rfl rfl rfl rfl rfl hl.1 rfl (Nat.le_of_ble_eq_true rfl) dX4_things_103 ⟨Nat.zero_le _, Nat.zero_le _⟩ rfl rfl (fun H locs hf_103 hP hS => ?_)
            refine lv_aload_n hx hb dX4_things_106 rfl (lv_at hl 2 rfl) ?_
            refine va_get (D := (dC, dI)) (ci := 4) (v := .ref a_n) (C := RX4) (T := TX4) (N := 7) hx hb hts kin_X4_things_X4 hown hK hP 0 rfl rfl 0 (Nat.le_of_ble_eq_true rfl) (hts (.fieldLink RX4 12 "OwnedThings" "now" "LOwnedThings$Web;") (List.mem_of_getElem? (i := 4) rfl)) (fun _ h9 => h9) rfl dX4_things_107 ?_
            obtain ⟨r_110, e_110, h⟩ := ob1_inv h
            refine k_pVi (i0 := 4) (rest := []) ⟨hx, hb, hml, hown, hts⟩ (c_X3_size l dC dI cI cS a_n a_n_kind a_n_owner a_n_from a_n_to a_n_away r_89_count r_89_references r_110 e_110) (cwV 0 hts gX4_things_X3_size rfl rfl rfl khd_X3_size ⟨Nat.le_of_ble_eq_true rfl, Nat.le_of_ble_eq_true rfl⟩) hK hN hP (va_D_fst hD rfl) hS [4] rfl rfl rfl rfl rfl rfl hl.1 rfl (Nat.le_of_ble_eq_true rfl) dX4_things_110 ⟨Nat.zero_le _, Nat.zero_le _⟩ (fun H locs hf_110 hP hS => ?_)
            obtain ⟨rfl, rfl, rfl, rfl, rfl, rfl, rfl, rfl, rfl, rfl, rfl, rfl, rfl, rfl, rfl, rfl, rfl, rfl⟩ := pj18 (Option.some.inj h)
            exact W.iret hx hb hr (fun t ht _ => kQ.mk ht ⟨_, hP⟩ trivial (hS.F ht)) hS.2.2 dX4_things_113
          · have h := hp_neg c_72 h
            refine lv_bipush (v := -100) hx hb dX4_things_75 (by decide) ?_
            refine lv_iload hx hb dX4_things_77 (lv_at hl 0 rfl) ?_
            refine lv_isub hx hb dX4_things_79 ?_
            obtain ⟨rfl, rfl, rfl, rfl, rfl, rfl, rfl, rfl, rfl, rfl, rfl, rfl, rfl, rfl, rfl, rfl, rfl, rfl⟩ := pj18 (Option.some.inj h)
            exact W.iret hx hb hr (fun t ht _ => kQ.mk ht ⟨_, hP⟩ trivial (hS.F ht)) hS.2.2 dX4_things_80
        · have h := hp_neg c_41 h
          refine lv_aload_n hx hb dX4_things_44 rfl (lv_at hl 1 rfl) ?_
          refine lv_iload hx hb dX4_things_45 (lv_at hl 0 rfl) ?_
          obtain ⟨r_47, r_47_lastFault, e_47, h⟩ := ob2_inv h
          refine k_wVi (i0 := 0) (rest := []) (ws' := [(a_o, .inr (4, [.ref a_n, .ref a_t, .ref a_d, .ref a_o_sheets, .ref a_rd, .int o_traced, .int r_47_lastFault])), (a_o_sheets, .inl (cS, 4, .inr (.inr (.inr (.inr (fun j => some (sa j))))))), (a_d, .inr (0, [.int d_count, .ref a_d_one, .ref a_d_other, .ref a_d_less])), (a_rd, .inr (2, [.ref q_row, .int rd_start, .int rd_length, .int rd_at, .ref a_t])), (a_n, .inr (3, [.int n_count, .int n_references, .ref a_n_kind, .ref a_n_owner, .ref a_n_from, .ref a_n_to, .ref a_n_away])), (a_n_kind, .inl (cI, 6, .inl n_kind)), (a_n_owner, .inl (cI, 6, .inl n_owner)), (a_n_from, .inl (cI, 12, .inl n_from)), (a_n_to, .inl (cI, 12, .inl n_to)), (a_t, .inr (3, [.int t_count, .int t_references, .ref a_t_kind, .ref a_t_owner, .ref a_t_from, .ref a_t_to, .ref a_t_away])), (a_t_kind, .inl (cI, 6, .inl t_kind)), (a_t_owner, .inl (cI, 6, .inl t_owner)), (a_t_from, .inl (cI, 12, .inl t_from)), (a_t_to, .inl (cI, 12, .inl t_to)), ((sa 0), .inr (1, [.int (sl 0), .int (sn 0), .ref (sca 0)])), ((sca 0), .inl (cI, 60, .inl (sc 0))), ((sa 1), .inr (1, [.int (sl 1), .int (sn 1), .ref (sca 1)])), ((sca 1), .inl (cI, 60, .inl (sc 1))), ((sa 2), .inr (1, [.int (sl 2), .int (sn 2), .ref (sca 2)])), ((sca 2), .inl (cI, 60, .inl (sc 2))), ((sa 3), .inr (1, [.int (sl 3), .int (sn 3), .ref (sca 3)])), ((sca 3), .inl (cI, 60, .inl (sc 3)))]) ⟨hx, hb, hml, hown, hts⟩ (c_X4_failed l dC dI cI cS a_o a_n a_t a_d a_o_sheets a_rd o_traced (0 : Int32) r_34 r_47 r_47_lastFault e_47) (cwV 1 hts gX4_things_X4_failed rfl rfl rfl khd_X4_failed ⟨Nat.le_of_ble_eq_true rfl, Nat.le_of_ble_eq_true rfl⟩) hK hN hP (va_D_fst hD rfl) hS [0] rfl rfl rfl rfl rfl rfl hl.1 rfl (Nat.le_of_ble_eq_true rfl) dX4_things_47 ⟨Nat.zero_le _, Nat.zero_le _⟩ rfl rfl (fun H locs hf_47 hP hS => ?_)
          obtain ⟨rfl, rfl, rfl, rfl, rfl, rfl, rfl, rfl, rfl, rfl, rfl, rfl, rfl, rfl, rfl, rfl, rfl, rfl⟩ := pj18 (Option.some.inj h)
          exact W.iret hx hb hr (fun t ht _ => kQ.mk ht ⟨_, hP⟩ trivial (hS.F ht)) hS.2.2 dX4_things_50
    · have h := hp_pos c_18 h
      refine lv_bipush (v := -2) hx hb dX4_things_21 (by decide) ?_
      obtain ⟨rfl, rfl, rfl, rfl, rfl, rfl, rfl, rfl, rfl, rfl, rfl, rfl, rfl, rfl, rfl, rfl, rfl, rfl⟩ := pj18 (Option.some.inj h)
      exact W.iret hx hb hr (fun t ht _ => kQ.mk ht ⟨_, hP⟩ trivial (hS.F ht)) hS.2.2 dX4_things_23
  · have h := hp_pos c_9 h
    refine lv_iconst (v := -1) hx hb dX4_things_12 (by decide) ?_
    obtain ⟨rfl, rfl, rfl, rfl, rfl, rfl, rfl, rfl, rfl, rfl, rfl, rfl, rfl, rfl, rfl, rfl, rfl, rfl⟩ := pj18 (Option.some.inj h)
    exact W.iret hx hb hr (fun t ht _ => kQ.mk ht ⟨_, hP⟩ trivial (hS.F ht)) hS.2.2 dX4_things_13
theorem kin_X4_ofThing_X4 : ∀ w ∈ wsX40, w ∈ wsX4_ofThing := fun _ h => List.mem_cons_of_mem _ (List.mem_append_left _ (List.mem_append_right _ h))
theorem kin_X4_ofThing_X3 : ∀ w ∈ wsX30, w ∈ wsX4_ofThing := fun _ h => List.mem_cons_of_mem _ (List.mem_append_right _ h)
theorem khd_X4_ofThing : yX4_ofThing.cls = RX4 ∧ yX4_ofThing.cls ≠ "java/lang/invoke/MethodHandle" ∧ yX4_ofThing.cls ≠ "java/lang/invoke/VarHandle" ∧ (parseMethodDescriptor yX4_ofThing.desc).map (fun d => d.parameters.length) = some 2 := by decide +kernel
set_option maxHeartbeats 8000000 in
set_option maxRecDepth 100000 in
theorem c_X4_ofThing (l : Launch) (dC : Nat → ClassId) (dI : Nat → Nat → Nat) (cI cS : ClassId) (a_o : Nat) (a_n : Nat) (a_t : Nat) (a_d : Nat) (a_o_sheets : Nat) (a_rd : Nat) (a_n_kind : Nat) (a_n_owner : Nat) (a_n_from : Nat) (a_n_to : Nat) (a_n_away : Nat) (o_traced : Int32) (o_lastFault : Int32) (n_count : Int32) (n_references : Int32) (n_kind : Nat → Int32) (n_owner : Nat → Int32) (n_from : Nat → Int32) (n_to : Nat → Int32) (x1 : Int32) (x2 : Int32) (r : Int32) (h : f_X4_ofThing n_count n_references n_kind n_owner n_from n_to x1 x2 = some r) : Mk l yX4_ofThing wsX4_ofThing ({ frames := 6, cells := 0, slots := 0, locals := 138 } : Room) (dC, dI) cI cS [(a_o, .inr (4, [.ref a_n, .ref a_t, .ref a_d, .ref a_o_sheets, .ref a_rd, .int o_traced, .int o_lastFault])), (a_n, .inr (3, [.int n_count, .int n_references, .ref a_n_kind, .ref a_n_owner, .ref a_n_from, .ref a_n_to, .ref a_n_away])), (a_n_kind, .inl (cI, 6, .inl n_kind)), (a_n_owner, .inl (cI, 6, .inl n_owner)), (a_n_from, .inl (cI, 12, .inl n_from)), (a_n_to, .inl (cI, 12, .inl n_to))] [.ref a_o, .int x1, .int x2] (some (.int r)) True (fun _ => True) noA := by
  refine Met.ofW (cc := cX4_ofThing) (maxL := 3) (ret := (some .int)) (by decide) rfl ?_
  intro p e s m args below meth c s₁ B hml hv
  obtain ⟨rfl, hP, hK, hN, hD⟩ := hv
  have hx := B.exec
  have hb := B.bytes
  have hr := B.returns
  have hts := atoms_spec (ws := wsX4_ofThing) B.pre
  have hown : s.vm.findClass RX4 = some m.cls := findClass_of_methodNamed B.named
  have hlocks := B.notSynchronized
  have hS : va_S noA s.heap s.heap [] := va_S.rf
  have hP : va_P (dC, dI) vwCl [(a_o, .inr (4, [.ref a_n, .ref a_t, .ref a_d, .ref a_o_sheets, .ref a_rd, .int o_traced, .int o_lastFault])), (a_n, .inr (3, [.int n_count, .int n_references, .ref a_n_kind, .ref a_n_owner, .ref a_n_from, .ref a_n_to, .ref a_n_away])), (a_n_kind, .inl (cI, 6, .inl n_kind)), (a_n_owner, .inl (cI, 6, .inl n_owner)), (a_n_from, .inl (cI, 12, .inl n_from)), (a_n_to, .inl (cI, 12, .inl n_to))] s.heap := hP
  have hl := lv_entry ([.ref a_o, .int x1, .int x2]) (n := 3) (Nat.le_of_ble_eq_true rfl)
  rw [lg_entry_eq]
  generalize (lg_sl ([.ref a_o, .int x1, .int x2]) ++ List.replicate (3 - (lg_sl ([.ref a_o, .int x1, .int x2])).length) Slot.unset).toArray = ls at hl ⊢
  have hl : lv_has ls 3 [(0, .ref a_o), (1, .int x1), (2, .int x2)] := hl
  unfold f_X4_ofThing at h
  refine lv_aload_n hx hb dX4_ofThing_0 rfl (lv_at hl 0 rfl) ?_
  refine va_get (D := (dC, dI)) (ci := 4) (v := .ref a_n) (C := RX4) (T := TX4) (N := 7) hx hb hts kin_X4_ofThing_X4 hown hK hP 0 rfl rfl 0 (Nat.le_of_ble_eq_true rfl) (hts (.fieldLink RX4 12 "OwnedThings" "now" "LOwnedThings$Web;") (List.mem_of_getElem? (i := 1) rfl)) (fun _ h9 => h9) rfl dX4_ofThing_1 ?_
  refine lv_iload_n hx hb dX4_ofThing_4 rfl (lv_at hl 1 rfl) ?_
  obtain ⟨r_5, e_5, h⟩ := ob1_inv h
  refine k_pVi (i0 := 1) (rest := []) ⟨hx, hb, hml, hown, hts⟩ (c_X3_isThing l dC dI cI cS a_n a_n_kind a_n_owner a_n_from a_n_to a_n_away n_count n_references x1 r_5 e_5) (cwV 1 hts gX4_ofThing_X3_isThing rfl rfl rfl khd_X3_isThing ⟨Nat.le_of_ble_eq_true rfl, Nat.le_of_ble_eq_true rfl⟩) hK hN hP (va_D_fst hD rfl) hS [1] rfl rfl rfl rfl rfl rfl hl.1 rfl (Nat.le_of_ble_eq_true rfl) dX4_ofThing_5 ⟨Nat.zero_le _, Nat.zero_le _⟩ (fun H locs hf_5 hP hS => ?_)
  refine lv_if_ne (tgt := 13) hx hb dX4_ofThing_8 (by decide) (fun c_8 => ?_) (fun c_8 => ?_)
  · have h := hp_neg c_8 h
    refine lv_iload_n hx hb dX4_ofThing_13 rfl (lv_at hl 2 rfl) ?_
    by_cases s_14_0 : x2 = (0 : Int32)
    · have h := hp_pos s_14_0 h
      refine lv_tableIn (off := 58) (tgt := 72) hx hb dX4_ofThing_14 (by rw [s_14_0]; decide) (by rw [s_14_0]; decide) (by rw [s_14_0]; rfl) (by decide) ?_
      refine lv_aload_n hx hb dX4_ofThing_72 rfl (lv_at hl 0 rfl) ?_
      refine va_get (D := (dC, dI)) (ci := 4) (v := .ref a_n) (C := RX4) (T := TX4) (N := 7) hx hb hts kin_X4_ofThing_X4 hown hK hP 0 rfl rfl 0 (Nat.le_of_ble_eq_true rfl) (hts (.fieldLink RX4 12 "OwnedThings" "now" "LOwnedThings$Web;") (List.mem_of_getElem? (i := 1) rfl)) (fun _ h9 => h9) rfl dX4_ofThing_73 ?_
      refine lv_iload_n hx hb dX4_ofThing_76 rfl (lv_at hl 1 rfl) ?_
      obtain ⟨r_77, e_77, h⟩ := ob1_inv h
      refine k_pVi (i0 := 1) (rest := []) ⟨hx, hb, hml, hown, hts⟩ (c_X3_kindOf l dC dI cI cS a_n a_n_kind a_n_owner a_n_from a_n_to a_n_away n_count n_references n_kind x1 r_77 e_77) (cwV 1 hts gX4_ofThing_X3_kindOf rfl rfl rfl khd_X3_kindOf ⟨Nat.le_of_ble_eq_true rfl, Nat.le_of_ble_eq_true rfl⟩) hK hN hP (va_D_fst hD rfl) hS [1, 2] rfl rfl rfl rfl rfl rfl hl.1 rfl (Nat.le_of_ble_eq_true rfl) dX4_ofThing_77 ⟨Nat.zero_le _, Nat.zero_le _⟩ (fun H locs hf_77 hP hS => ?_)
      obtain rfl := Option.some.inj h
      exact W.iret hx hb hr (fun t ht _ => kQ.mk ht trivial trivial (hS.F ht)) hS.2.2 dX4_ofThing_80
    have h := hp_neg s_14_0 h
    by_cases s_14_1 : x2 = (1 : Int32)
    · have h := hp_pos s_14_1 h
      refine lv_tableIn (off := 67) (tgt := 81) hx hb dX4_ofThing_14 (by rw [s_14_1]; decide) (by rw [s_14_1]; decide) (by rw [s_14_1]; rfl) (by decide) ?_
      refine lv_aload_n hx hb dX4_ofThing_81 rfl (lv_at hl 0 rfl) ?_
      refine va_get (D := (dC, dI)) (ci := 4) (v := .ref a_n) (C := RX4) (T := TX4) (N := 7) hx hb hts kin_X4_ofThing_X4 hown hK hP 0 rfl rfl 0 (Nat.le_of_ble_eq_true rfl) (hts (.fieldLink RX4 12 "OwnedThings" "now" "LOwnedThings$Web;") (List.mem_of_getElem? (i := 1) rfl)) (fun _ h9 => h9) rfl dX4_ofThing_82 ?_
      refine lv_iload_n hx hb dX4_ofThing_85 rfl (lv_at hl 1 rfl) ?_
      obtain ⟨r_86, e_86, h⟩ := ob1_inv h
      refine k_pVi (i0 := 1) (rest := []) ⟨hx, hb, hml, hown, hts⟩ (c_X3_ownerOf l dC dI cI cS a_n a_n_kind a_n_owner a_n_from a_n_to a_n_away n_count n_references n_owner x1 r_86 e_86) (cwV 1 hts gX4_ofThing_X3_ownerOf rfl rfl rfl khd_X3_ownerOf ⟨Nat.le_of_ble_eq_true rfl, Nat.le_of_ble_eq_true rfl⟩) hK hN hP (va_D_fst hD rfl) hS [1, 3] rfl rfl rfl rfl rfl rfl hl.1 rfl (Nat.le_of_ble_eq_true rfl) dX4_ofThing_86 ⟨Nat.zero_le _, Nat.zero_le _⟩ (fun H locs hf_86 hP hS => ?_)
      obtain rfl := Option.some.inj h
      exact W.iret hx hb hr (fun t ht _ => kQ.mk ht trivial trivial (hS.F ht)) hS.2.2 dX4_ofThing_89
    have h := hp_neg s_14_1 h
    by_cases s_14_2 : x2 = (2 : Int32)
    · have h := hp_pos s_14_2 h
      refine lv_tableIn (off := 76) (tgt := 90) hx hb dX4_ofThing_14 (by rw [s_14_2]; decide) (by rw [s_14_2]; decide) (by rw [s_14_2]; rfl) (by decide) ?_
      refine lv_aload_n hx hb dX4_ofThing_90 rfl (lv_at hl 0 rfl) ?_
      refine va_get (D := (dC, dI)) (ci := 4) (v := .ref a_n) (C := RX4) (T := TX4) (N := 7) hx hb hts kin_X4_ofThing_X4 hown hK hP 0 rfl rfl 0 (Nat.le_of_ble_eq_true rfl) (hts (.fieldLink RX4 12 "OwnedThings" "now" "LOwnedThings$Web;") (List.mem_of_getElem? (i := 1) rfl)) (fun _ h9 => h9) rfl dX4_ofThing_91 ?_
      refine lv_iload_n hx hb dX4_ofThing_94 rfl (lv_at hl 1 rfl) ?_
      obtain ⟨r_95, e_95, h⟩ := ob1_inv h
      refine k_pVi (i0 := 1) (rest := []) ⟨hx, hb, hml, hown, hts⟩ (c_X3_levelOf l dC dI cI cS a_n a_n_kind a_n_owner a_n_from a_n_to a_n_away n_count n_references n_owner x1 r_95 e_95) (cwV 1 hts gX4_ofThing_X3_levelOf rfl rfl rfl khd_X3_levelOf ⟨Nat.le_of_ble_eq_true rfl, Nat.le_of_ble_eq_true rfl⟩) hK hN hP (va_D_fst hD rfl) hS [1, 3] rfl rfl rfl rfl rfl rfl hl.1 rfl (Nat.le_of_ble_eq_true rfl) dX4_ofThing_95 ⟨Nat.zero_le _, Nat.zero_le _⟩ (fun H locs hf_95 hP hS => ?_)
      obtain rfl := Option.some.inj h
      exact W.iret hx hb hr (fun t ht _ => kQ.mk ht trivial trivial (hS.F ht)) hS.2.2 dX4_ofThing_98
    have h := hp_neg s_14_2 h
    by_cases s_14_3 : x2 = (3 : Int32)
    · have h := hp_pos s_14_3 h
      refine lv_tableIn (off := 85) (tgt := 99) hx hb dX4_ofThing_14 (by rw [s_14_3]; decide) (by rw [s_14_3]; decide) (by rw [s_14_3]; rfl) (by decide) ?_
      refine lv_aload_n hx hb dX4_ofThing_99 rfl (lv_at hl 0 rfl) ?_
      refine va_get (D := (dC, dI)) (ci := 4) (v := .ref a_n) (C := RX4) (T := TX4) (N := 7) hx hb hts kin_X4_ofThing_X4 hown hK hP 0 rfl rfl 0 (Nat.le_of_ble_eq_true rfl) (hts (.fieldLink RX4 12 "OwnedThings" "now" "LOwnedThings$Web;") (List.mem_of_getElem? (i := 1) rfl)) (fun _ h9 => h9) rfl dX4_ofThing_100 ?_
      refine lv_iload_n hx hb dX4_ofThing_103 rfl (lv_at hl 1 rfl) ?_
      obtain ⟨r_104, e_104, h⟩ := ob1_inv h
      refine k_pVi (i0 := 1) (rest := []) ⟨hx, hb, hml, hown, hts⟩ (c_X3_lockOf l dC dI cI cS a_n a_n_kind a_n_owner a_n_from a_n_to a_n_away n_count n_references n_kind n_owner x1 r_104 e_104) (cwV 1 hts gX4_ofThing_X3_lockOf rfl rfl rfl khd_X3_lockOf ⟨Nat.le_of_ble_eq_true rfl, Nat.le_of_ble_eq_true rfl⟩) hK hN hP (va_D_fst hD rfl) hS [1, 2, 3] rfl rfl rfl rfl rfl rfl hl.1 rfl (Nat.le_of_ble_eq_true rfl) dX4_ofThing_104 ⟨Nat.zero_le _, Nat.zero_le _⟩ (fun H locs hf_104 hP hS => ?_)
      obtain rfl := Option.some.inj h
      exact W.iret hx hb hr (fun t ht _ => kQ.mk ht trivial trivial (hS.F ht)) hS.2.2 dX4_ofThing_107
    have h := hp_neg s_14_3 h
    by_cases s_14_4 : x2 = (4 : Int32)
    · have h := hp_pos s_14_4 h
      refine lv_tableIn (off := 94) (tgt := 108) hx hb dX4_ofThing_14 (by rw [s_14_4]; decide) (by rw [s_14_4]; decide) (by rw [s_14_4]; rfl) (by decide) ?_
      refine lv_aload_n hx hb dX4_ofThing_108 rfl (lv_at hl 0 rfl) ?_
      refine va_get (D := (dC, dI)) (ci := 4) (v := .ref a_n) (C := RX4) (T := TX4) (N := 7) hx hb hts kin_X4_ofThing_X4 hown hK hP 0 rfl rfl 0 (Nat.le_of_ble_eq_true rfl) (hts (.fieldLink RX4 12 "OwnedThings" "now" "LOwnedThings$Web;") (List.mem_of_getElem? (i := 1) rfl)) (fun _ h9 => h9) rfl dX4_ofThing_109 ?_
      refine lv_iload_n hx hb dX4_ofThing_112 rfl (lv_at hl 1 rfl) ?_
      obtain ⟨r_113, e_113, h⟩ := ob1_inv h
      refine k_pVi (i0 := 1) (rest := []) ⟨hx, hb, hml, hown, hts⟩ (c_X3_targetsOf l dC dI cI cS a_n a_n_kind a_n_owner a_n_from a_n_to a_n_away n_count n_references n_from n_to x1 r_113 e_113) (cwV 1 hts gX4_ofThing_X3_targetsOf rfl rfl rfl khd_X3_targetsOf ⟨Nat.le_of_ble_eq_true rfl, Nat.le_of_ble_eq_true rfl⟩) hK hN hP (va_D_fst hD rfl) hS [1, 4, 5] rfl rfl rfl rfl rfl rfl hl.1 rfl (Nat.le_of_ble_eq_true rfl) dX4_ofThing_113 ⟨Nat.zero_le _, Nat.zero_le _⟩ (fun H locs hf_113 hP hS => ?_)
      obtain rfl := Option.some.inj h
      exact W.iret hx hb hr (fun t ht _ => kQ.mk ht trivial trivial (hS.F ht)) hS.2.2 dX4_ofThing_116
    have h := hp_neg s_14_4 h
    by_cases s_14_5 : x2 = (5 : Int32)
    · have h := hp_pos s_14_5 h
      refine lv_tableIn (off := 103) (tgt := 117) hx hb dX4_ofThing_14 (by rw [s_14_5]; decide) (by rw [s_14_5]; decide) (by rw [s_14_5]; rfl) (by decide) ?_
      refine lv_aload_n hx hb dX4_ofThing_117 rfl (lv_at hl 0 rfl) ?_
      refine va_get (D := (dC, dI)) (ci := 4) (v := .ref a_n) (C := RX4) (T := TX4) (N := 7) hx hb hts kin_X4_ofThing_X4 hown hK hP 0 rfl rfl 0 (Nat.le_of_ble_eq_true rfl) (hts (.fieldLink RX4 12 "OwnedThings" "now" "LOwnedThings$Web;") (List.mem_of_getElem? (i := 1) rfl)) (fun _ h9 => h9) rfl dX4_ofThing_118 ?_
      obtain ⟨r_121, e_121, h⟩ := ob1_inv h
      refine k_pVi (i0 := 1) (rest := []) ⟨hx, hb, hml, hown, hts⟩ (c_X3_reached l dC dI cI cS a_n a_n_kind a_n_owner a_n_from a_n_to a_n_away n_count n_references n_from n_to r_121 e_121) (cwV 0 hts gX4_ofThing_X3_reached rfl rfl rfl khd_X3_reached ⟨Nat.le_of_ble_eq_true rfl, Nat.le_of_ble_eq_true rfl⟩) hK hN hP (va_D_fst hD rfl) hS [1, 4, 5] rfl rfl rfl rfl rfl rfl hl.1 rfl (Nat.le_of_ble_eq_true rfl) dX4_ofThing_121 ⟨Nat.zero_le _, Nat.zero_le _⟩ (fun H locs hf_121 hP hS => ?_)
      refine lv_iload_n hx hb dX4_ofThing_124 rfl (lv_at hl 1 rfl) ?_
      obtain ⟨r_125, e_125, h⟩ := ob1_inv h
      refine k_pSi (rest := []) ⟨hx, hb, hml, hown, hts⟩ (c_X4_holds l dC dI cI cS r_121 x1 r_125 e_125) (cwS 2 hts gX4_ofThing_X4_holds rfl rfl rfl khd_X4_holds ⟨Nat.le_of_ble_eq_true rfl, Nat.le_of_ble_eq_true rfl⟩) hK hN hP (va_D_fst hD rfl) hS [] rfl rfl rfl hl.1 rfl (Nat.le_of_ble_eq_true rfl) dX4_ofThing_125 ⟨Nat.zero_le _, Nat.zero_le _⟩ (fun H locs hf_125 hP hS => ?_)
      obtain ⟨r_128, e_128, h⟩ := ob1_inv h
      refine k_pSi (rest := []) ⟨hx, hb, hml, hown, hts⟩ (c_X4_oneIf l dC dI cI cS r_125 r_128 e_128) (cwS 1 hts gX4_ofThing_X4_oneIf rfl rfl rfl khd_X4_oneIf ⟨Nat.le_of_ble_eq_true rfl, Nat.le_of_ble_eq_true rfl⟩) hK hN hP (va_D_fst hD rfl) hS [] rfl rfl rfl hl.1 rfl (Nat.le_of_ble_eq_true rfl) dX4_ofThing_128 ⟨Nat.zero_le _, Nat.zero_le _⟩ (fun H locs hf_128 hP hS => ?_)
      obtain rfl := Option.some.inj h
      exact W.iret hx hb hr (fun t ht _ => kQ.mk ht trivial trivial (hS.F ht)) hS.2.2 dX4_ofThing_131
    have h := hp_neg s_14_5 h
    by_cases s_14_6 : x2 = (6 : Int32)
    · have h := hp_pos s_14_6 h
      refine lv_tableIn (off := 118) (tgt := 132) hx hb dX4_ofThing_14 (by rw [s_14_6]; decide) (by rw [s_14_6]; decide) (by rw [s_14_6]; rfl) (by decide) ?_
      refine lv_aload_n hx hb dX4_ofThing_132 rfl (lv_at hl 0 rfl) ?_
      refine va_get (D := (dC, dI)) (ci := 4) (v := .ref a_n) (C := RX4) (T := TX4) (N := 7) hx hb hts kin_X4_ofThing_X4 hown hK hP 0 rfl rfl 0 (Nat.le_of_ble_eq_true rfl) (hts (.fieldLink RX4 12 "OwnedThings" "now" "LOwnedThings$Web;") (List.mem_of_getElem? (i := 1) rfl)) (fun _ h9 => h9) rfl dX4_ofThing_133 ?_
      refine lv_iload_n hx hb dX4_ofThing_136 rfl (lv_at hl 1 rfl) ?_
      obtain ⟨r_137, e_137, h⟩ := ob1_inv h
      refine k_pVi (i0 := 1) (rest := []) ⟨hx, hb, hml, hown, hts⟩ (c_X3_standBefore l dC dI cI cS a_n a_n_kind a_n_owner a_n_from a_n_to a_n_away n_count n_references n_from n_to x1 r_137 e_137) (cwV 1 hts gX4_ofThing_X3_standBefore rfl rfl rfl khd_X3_standBefore ⟨Nat.le_of_ble_eq_true rfl, Nat.le_of_ble_eq_true rfl⟩) hK hN hP (va_D_fst hD rfl) hS [1, 4, 5] rfl rfl rfl rfl rfl rfl hl.1 rfl (Nat.le_of_ble_eq_true rfl) dX4_ofThing_137 ⟨Nat.zero_le _, Nat.zero_le _⟩ (fun H locs hf_137 hP hS => ?_)
      obtain rfl := Option.some.inj h
      exact W.iret hx hb hr (fun t ht _ => kQ.mk ht trivial trivial (hS.F ht)) hS.2.2 dX4_ofThing_140
    have h := hp_neg s_14_6 h
    by_cases s_14_7 : x2 = (7 : Int32)
    · have h := hp_pos s_14_7 h
      refine lv_tableIn (off := 127) (tgt := 141) hx hb dX4_ofThing_14 (by rw [s_14_7]; decide) (by rw [s_14_7]; decide) (by rw [s_14_7]; rfl) (by decide) ?_
      refine lv_aload_n hx hb dX4_ofThing_141 rfl (lv_at hl 0 rfl) ?_
      refine va_get (D := (dC, dI)) (ci := 4) (v := .ref a_n) (C := RX4) (T := TX4) (N := 7) hx hb hts kin_X4_ofThing_X4 hown hK hP 0 rfl rfl 0 (Nat.le_of_ble_eq_true rfl) (hts (.fieldLink RX4 12 "OwnedThings" "now" "LOwnedThings$Web;") (List.mem_of_getElem? (i := 1) rfl)) (fun _ h9 => h9) rfl dX4_ofThing_142 ?_
      refine lv_iload_n hx hb dX4_ofThing_145 rfl (lv_at hl 1 rfl) ?_
      obtain ⟨r_146, e_146, h⟩ := ob1_inv h
      refine k_pVi (i0 := 1) (rest := []) ⟨hx, hb, hml, hown, hts⟩ (c_X3_isLawful l dC dI cI cS a_n a_n_kind a_n_owner a_n_from a_n_to a_n_away n_count n_references n_owner n_from n_to x1 r_146 e_146) (cwV 1 hts gX4_ofThing_X3_isLawful rfl rfl rfl khd_X3_isLawful ⟨Nat.le_of_ble_eq_true rfl, Nat.le_of_ble_eq_true rfl⟩) hK hN hP (va_D_fst hD rfl) hS [1, 3, 4, 5] rfl rfl rfl rfl rfl rfl hl.1 rfl (Nat.le_of_ble_eq_true rfl) dX4_ofThing_146 ⟨Nat.zero_le _, Nat.zero_le _⟩ (fun H locs hf_146 hP hS => ?_)
      obtain ⟨r_149, e_149, h⟩ := ob1_inv h
      refine k_pSi (rest := []) ⟨hx, hb, hml, hown, hts⟩ (c_X4_oneIf l dC dI cI cS r_146 r_149 e_149) (cwS 1 hts gX4_ofThing_X4_oneIf rfl rfl rfl khd_X4_oneIf ⟨Nat.le_of_ble_eq_true rfl, Nat.le_of_ble_eq_true rfl⟩) hK hN hP (va_D_fst hD rfl) hS [] rfl rfl rfl hl.1 rfl (Nat.le_of_ble_eq_true rfl) dX4_ofThing_149 ⟨Nat.zero_le _, Nat.zero_le _⟩ (fun H locs hf_149 hP hS => ?_)
      obtain rfl := Option.some.inj h
      exact W.iret hx hb hr (fun t ht _ => kQ.mk ht trivial trivial (hS.F ht)) hS.2.2 dX4_ofThing_152
    have h := hp_neg s_14_7 h
    by_cases s_14_8 : x2 = (8 : Int32)
    · have h := hp_pos s_14_8 h
      refine lv_tableIn (off := 139) (tgt := 153) hx hb dX4_ofThing_14 (by rw [s_14_8]; decide) (by rw [s_14_8]; decide) (by rw [s_14_8]; rfl) (by decide) ?_
      refine lv_aload_n hx hb dX4_ofThing_153 rfl (lv_at hl 0 rfl) ?_
      refine va_get (D := (dC, dI)) (ci := 4) (v := .ref a_n) (C := RX4) (T := TX4) (N := 7) hx hb hts kin_X4_ofThing_X4 hown hK hP 0 rfl rfl 0 (Nat.le_of_ble_eq_true rfl) (hts (.fieldLink RX4 12 "OwnedThings" "now" "LOwnedThings$Web;") (List.mem_of_getElem? (i := 1) rfl)) (fun _ h9 => h9) rfl dX4_ofThing_154 ?_
      refine lv_iload_n hx hb dX4_ofThing_157 rfl (lv_at hl 1 rfl) ?_
      obtain ⟨r_158, e_158, h⟩ := ob1_inv h
      refine k_pVi (i0 := 1) (rest := []) ⟨hx, hb, hml, hown, hts⟩ (c_X3_nearestOf l dC dI cI cS a_n a_n_kind a_n_owner a_n_from a_n_to a_n_away n_count n_references n_from n_to x1 r_158 e_158) (cwV 1 hts gX4_ofThing_X3_nearestOf rfl rfl rfl khd_X3_nearestOf ⟨Nat.le_of_ble_eq_true rfl, Nat.le_of_ble_eq_true rfl⟩) hK hN hP (va_D_fst hD rfl) hS [1, 4, 5] rfl rfl rfl rfl rfl rfl hl.1 rfl (Nat.le_of_ble_eq_true rfl) dX4_ofThing_158 ⟨Nat.zero_le _, Nat.zero_le _⟩ (fun H locs hf_158 hP hS => ?_)
      obtain rfl := Option.some.inj h
      exact W.iret hx hb hr (fun t ht _ => kQ.mk ht trivial trivial (hS.F ht)) hS.2.2 dX4_ofThing_161
    have h := hp_neg s_14_8 h
    by_cases s_14_9 : x2 = (9 : Int32)
    · have h := hp_pos s_14_9 h
      refine lv_tableIn (off := 148) (tgt := 162) hx hb dX4_ofThing_14 (by rw [s_14_9]; decide) (by rw [s_14_9]; decide) (by rw [s_14_9]; rfl) (by decide) ?_
      refine lv_aload_n hx hb dX4_ofThing_162 rfl (lv_at hl 0 rfl) ?_
      refine va_get (D := (dC, dI)) (ci := 4) (v := .ref a_n) (C := RX4) (T := TX4) (N := 7) hx hb hts kin_X4_ofThing_X4 hown hK hP 0 rfl rfl 0 (Nat.le_of_ble_eq_true rfl) (hts (.fieldLink RX4 12 "OwnedThings" "now" "LOwnedThings$Web;") (List.mem_of_getElem? (i := 1) rfl)) (fun _ h9 => h9) rfl dX4_ofThing_163 ?_
      refine lv_iload_n hx hb dX4_ofThing_166 rfl (lv_at hl 1 rfl) ?_
      obtain ⟨r_167, e_167, h⟩ := ob1_inv h
      refine k_pVi (i0 := 1) (rest := []) ⟨hx, hb, hml, hown, hts⟩ (c_X3_tailOf l dC dI cI cS a_n a_n_kind a_n_owner a_n_from a_n_to a_n_away n_count n_references n_from n_to x1 r_167 e_167) (cwV 1 hts gX4_ofThing_X3_tailOf rfl rfl rfl khd_X3_tailOf ⟨Nat.le_of_ble_eq_true rfl, Nat.le_of_ble_eq_true rfl⟩) hK hN hP (va_D_fst hD rfl) hS [1, 4, 5] rfl rfl rfl rfl rfl rfl hl.1 rfl (Nat.le_of_ble_eq_true rfl) dX4_ofThing_167 ⟨Nat.zero_le _, Nat.zero_le _⟩ (fun H locs hf_167 hP hS => ?_)
      obtain rfl := Option.some.inj h
      exact W.iret hx hb hr (fun t ht _ => kQ.mk ht trivial trivial (hS.F ht)) hS.2.2 dX4_ofThing_170
    have h := hp_neg s_14_9 h
    by_cases s_14_10 : x2 = (10 : Int32)
    · have h := hp_pos s_14_10 h
      refine lv_tableIn (off := 157) (tgt := 171) hx hb dX4_ofThing_14 (by rw [s_14_10]; decide) (by rw [s_14_10]; decide) (by rw [s_14_10]; rfl) (by decide) ?_
      refine lv_aload_n hx hb dX4_ofThing_171 rfl (lv_at hl 0 rfl) ?_
      refine va_get (D := (dC, dI)) (ci := 4) (v := .ref a_n) (C := RX4) (T := TX4) (N := 7) hx hb hts kin_X4_ofThing_X4 hown hK hP 0 rfl rfl 0 (Nat.le_of_ble_eq_true rfl) (hts (.fieldLink RX4 12 "OwnedThings" "now" "LOwnedThings$Web;") (List.mem_of_getElem? (i := 1) rfl)) (fun _ h9 => h9) rfl dX4_ofThing_172 ?_
      refine lv_iload_n hx hb dX4_ofThing_175 rfl (lv_at hl 1 rfl) ?_
      obtain ⟨r_176, e_176, h⟩ := ob1_inv h
      refine k_pVi (i0 := 1) (rest := []) ⟨hx, hb, hml, hown, hts⟩ (c_X3_isClosed l dC dI cI cS a_n a_n_kind a_n_owner a_n_from a_n_to a_n_away n_count n_references n_from n_to x1 r_176 e_176) (cwV 1 hts gX4_ofThing_X3_isClosed rfl rfl rfl khd_X3_isClosed ⟨Nat.le_of_ble_eq_true rfl, Nat.le_of_ble_eq_true rfl⟩) hK hN hP (va_D_fst hD rfl) hS [1, 4, 5] rfl rfl rfl rfl rfl rfl hl.1 rfl (Nat.le_of_ble_eq_true rfl) dX4_ofThing_176 ⟨Nat.zero_le _, Nat.zero_le _⟩ (fun H locs hf_176 hP hS => ?_)
      obtain ⟨r_179, e_179, h⟩ := ob1_inv h
      refine k_pSi (rest := []) ⟨hx, hb, hml, hown, hts⟩ (c_X4_oneIf l dC dI cI cS r_176 r_179 e_179) (cwS 1 hts gX4_ofThing_X4_oneIf rfl rfl rfl khd_X4_oneIf ⟨Nat.le_of_ble_eq_true rfl, Nat.le_of_ble_eq_true rfl⟩) hK hN hP (va_D_fst hD rfl) hS [] rfl rfl rfl hl.1 rfl (Nat.le_of_ble_eq_true rfl) dX4_ofThing_179 ⟨Nat.zero_le _, Nat.zero_le _⟩ (fun H locs hf_179 hP hS => ?_)
      obtain rfl := Option.some.inj h
      exact W.iret hx hb hr (fun t ht _ => kQ.mk ht trivial trivial (hS.F ht)) hS.2.2 dX4_ofThing_182
    have h := hp_neg s_14_10 h
    refine lv_tableOut (tgt := 183) hx hb dX4_ofThing_14 (by have q0 := ti_ne (z := 0) (by decide) s_14_0; have q1 := ti_ne (z := 1) (by decide) s_14_1; have q2 := ti_ne (z := 2) (by decide) s_14_2; have q3 := ti_ne (z := 3) (by decide) s_14_3; have q4 := ti_ne (z := 4) (by decide) s_14_4; have q5 := ti_ne (z := 5) (by decide) s_14_5; have q6 := ti_ne (z := 6) (by decide) s_14_6; have q7 := ti_ne (z := 7) (by decide) s_14_7; have q8 := ti_ne (z := 8) (by decide) s_14_8; have q9 := ti_ne (z := 9) (by decide) s_14_9; have q10 := ti_ne (z := 10) (by decide) s_14_10; omega) (by decide) ?_
    refine lv_bipush (v := -2) hx hb dX4_ofThing_183 (by decide) ?_
    obtain rfl := Option.some.inj h
    exact W.iret hx hb hr (fun t ht _ => kQ.mk ht trivial trivial (hS.F ht)) hS.2.2 dX4_ofThing_185
  · have h := hp_pos c_8 h
    refine lv_iconst (v := -1) hx hb dX4_ofThing_11 (by decide) ?_
    obtain rfl := Option.some.inj h
    exact W.iret hx hb hr (fun t ht _ => kQ.mk ht trivial trivial (hS.F ht)) hS.2.2 dX4_ofThing_12
theorem kin_X4_refers_X4 : ∀ w ∈ wsX40, w ∈ wsX4_refers := fun _ h => List.mem_cons_of_mem _ (List.mem_append_left _ (List.mem_append_right _ h))
theorem kin_X4_refers_X3 : ∀ w ∈ wsX30, w ∈ wsX4_refers := fun _ h => List.mem_cons_of_mem _ (List.mem_append_right _ h)
theorem khd_X4_refers : yX4_refers.cls = RX4 ∧ yX4_refers.cls ≠ "java/lang/invoke/MethodHandle" ∧ yX4_refers.cls ≠ "java/lang/invoke/VarHandle" ∧ (parseMethodDescriptor yX4_refers.desc).map (fun d => d.parameters.length) = some 2 := by decide +kernel
set_option maxHeartbeats 8000000 in
set_option maxRecDepth 100000 in
theorem c_X4_refers (l : Launch) (dC : Nat → ClassId) (dI : Nat → Nat → Nat) (cI cS : ClassId) (a_o : Nat) (a_n : Nat) (a_t : Nat) (a_d : Nat) (a_o_sheets : Nat) (a_rd : Nat) (a_n_kind : Nat) (a_n_owner : Nat) (a_n_from : Nat) (a_n_to : Nat) (a_n_away : Nat) (o_traced : Int32) (o_lastFault : Int32) (n_count : Int32) (n_references : Int32) (n_from : Nat → Int32) (n_to : Nat → Int32) (x1 : Int32) (x2 : Int32) (r : Int32) (h : f_X4_refers n_count n_references n_from n_to x1 x2 = some r) : Mk l yX4_refers wsX4_refers ({ frames := 2, cells := 0, slots := 0, locals := 42 } : Room) (dC, dI) cI cS [(a_o, .inr (4, [.ref a_n, .ref a_t, .ref a_d, .ref a_o_sheets, .ref a_rd, .int o_traced, .int o_lastFault])), (a_n, .inr (3, [.int n_count, .int n_references, .ref a_n_kind, .ref a_n_owner, .ref a_n_from, .ref a_n_to, .ref a_n_away])), (a_n_from, .inl (cI, 12, .inl n_from)), (a_n_to, .inl (cI, 12, .inl n_to))] [.ref a_o, .int x1, .int x2] (some (.int r)) True (fun _ => True) noA := by
  refine Met.ofW (cc := cX4_refers) (maxL := 3) (ret := (some .int)) (by decide) rfl ?_
  intro p e s m args below meth c s₁ B hml hv
  obtain ⟨rfl, hP, hK, hN, hD⟩ := hv
  have hx := B.exec
  have hb := B.bytes
  have hr := B.returns
  have hts := atoms_spec (ws := wsX4_refers) B.pre
  have hown : s.vm.findClass RX4 = some m.cls := findClass_of_methodNamed B.named
  have hlocks := B.notSynchronized
  have hS : va_S noA s.heap s.heap [] := va_S.rf
  have hP : va_P (dC, dI) vwCl [(a_o, .inr (4, [.ref a_n, .ref a_t, .ref a_d, .ref a_o_sheets, .ref a_rd, .int o_traced, .int o_lastFault])), (a_n, .inr (3, [.int n_count, .int n_references, .ref a_n_kind, .ref a_n_owner, .ref a_n_from, .ref a_n_to, .ref a_n_away])), (a_n_from, .inl (cI, 12, .inl n_from)), (a_n_to, .inl (cI, 12, .inl n_to))] s.heap := hP
  have hl := lv_entry ([.ref a_o, .int x1, .int x2]) (n := 3) (Nat.le_of_ble_eq_true rfl)
  rw [lg_entry_eq]
  generalize (lg_sl ([.ref a_o, .int x1, .int x2]) ++ List.replicate (3 - (lg_sl ([.ref a_o, .int x1, .int x2])).length) Slot.unset).toArray = ls at hl ⊢
  have hl : lv_has ls 3 [(0, .ref a_o), (1, .int x1), (2, .int x2)] := hl
  unfold f_X4_refers at h
  refine lv_aload_n hx hb dX4_refers_0 rfl (lv_at hl 0 rfl) ?_
  refine va_get (D := (dC, dI)) (ci := 4) (v := .ref a_n) (C := RX4) (T := TX4) (N := 7) hx hb hts kin_X4_refers_X4 hown hK hP 0 rfl rfl 0 (Nat.le_of_ble_eq_true rfl) (hts (.fieldLink RX4 12 "OwnedThings" "now" "LOwnedThings$Web;") (List.mem_of_getElem? (i := 1) rfl)) (fun _ h9 => h9) rfl dX4_refers_1 ?_
  refine lv_iload_n hx hb dX4_refers_4 rfl (lv_at hl 1 rfl) ?_
  obtain ⟨r_5, e_5, h⟩ := ob1_inv h
  refine k_pVi (i0 := 1) (rest := []) ⟨hx, hb, hml, hown, hts⟩ (c_X3_mayOwn l dC dI cI cS a_n a_n_kind a_n_owner a_n_from a_n_to a_n_away n_count n_references x1 r_5 e_5) (cwV 1 hts gX4_refers_X3_mayOwn rfl rfl rfl khd_X3_mayOwn ⟨Nat.le_of_ble_eq_true rfl, Nat.le_of_ble_eq_true rfl⟩) hK hN hP (va_D_fst hD rfl) hS [1] rfl rfl rfl rfl rfl rfl hl.1 rfl (Nat.le_of_ble_eq_true rfl) dX4_refers_5 ⟨Nat.zero_le _, Nat.zero_le _⟩ (fun H locs hf_5 hP hS => ?_)
  refine lv_if_eq (tgt := 22) hx hb dX4_refers_8 (by decide) (fun c_8 => ?_) (fun c_8 => ?_)
  · have h := hp_pos c_8 h
    refine lv_iconst (v := -1) hx hb dX4_refers_22 (by decide) ?_
    obtain rfl := Option.some.inj h
    exact W.iret hx hb hr (fun t ht _ => kQ.mk ht trivial trivial (hS.F ht)) hS.2.2 dX4_refers_23
  · have h := hp_neg c_8 h
    refine lv_aload_n hx hb dX4_refers_11 rfl (lv_at hl 0 rfl) ?_
    refine va_get (D := (dC, dI)) (ci := 4) (v := .ref a_n) (C := RX4) (T := TX4) (N := 7) hx hb hts kin_X4_refers_X4 hown hK hP 0 rfl rfl 0 (Nat.le_of_ble_eq_true rfl) (hts (.fieldLink RX4 12 "OwnedThings" "now" "LOwnedThings$Web;") (List.mem_of_getElem? (i := 1) rfl)) (fun _ h9 => h9) rfl dX4_refers_12 ?_
    refine lv_iload_n hx hb dX4_refers_15 rfl (lv_at hl 2 rfl) ?_
    obtain ⟨r_16, e_16, h⟩ := ob1_inv h
    refine k_pVi (i0 := 1) (rest := []) ⟨hx, hb, hml, hown, hts⟩ (c_X3_isThing l dC dI cI cS a_n a_n_kind a_n_owner a_n_from a_n_to a_n_away n_count n_references x2 r_16 e_16) (cwV 1 hts gX4_refers_X3_isThing rfl rfl rfl khd_X3_isThing ⟨Nat.le_of_ble_eq_true rfl, Nat.le_of_ble_eq_true rfl⟩) hK hN hP (va_D_fst hD rfl) hS [1] rfl rfl rfl rfl rfl rfl hl.1 rfl (Nat.le_of_ble_eq_true rfl) dX4_refers_16 ⟨Nat.zero_le _, Nat.zero_le _⟩ (fun H locs hf_16 hP hS => ?_)
    refine lv_if_ne (tgt := 24) hx hb dX4_refers_19 (by decide) (fun c_19 => ?_) (fun c_19 => ?_)
    · have h := hp_neg c_19 h
      refine lv_aload_n hx hb dX4_refers_24 rfl (lv_at hl 0 rfl) ?_
      refine va_get (D := (dC, dI)) (ci := 4) (v := .ref a_n) (C := RX4) (T := TX4) (N := 7) hx hb hts kin_X4_refers_X4 hown hK hP 0 rfl rfl 0 (Nat.le_of_ble_eq_true rfl) (hts (.fieldLink RX4 12 "OwnedThings" "now" "LOwnedThings$Web;") (List.mem_of_getElem? (i := 1) rfl)) (fun _ h9 => h9) rfl dX4_refers_25 ?_
      refine lv_iload_n hx hb dX4_refers_28 rfl (lv_at hl 1 rfl) ?_
      refine lv_iload_n hx hb dX4_refers_29 rfl (lv_at hl 2 rfl) ?_
      obtain ⟨r_30, e_30, h⟩ := ob1_inv h
      refine k_pVi (i0 := 1) (rest := []) ⟨hx, hb, hml, hown, hts⟩ (c_X3_find l dC dI cI cS a_n a_n_kind a_n_owner a_n_from a_n_to a_n_away n_count n_references n_from n_to x1 x2 r_30 e_30) (cwV 2 hts gX4_refers_X3_find rfl rfl rfl khd_X3_find ⟨Nat.le_of_ble_eq_true rfl, Nat.le_of_ble_eq_true rfl⟩) hK hN hP (va_D_fst hD rfl) hS [1, 2, 3] rfl rfl rfl rfl rfl rfl hl.1 rfl (Nat.le_of_ble_eq_true rfl) dX4_refers_30 ⟨Nat.zero_le _, Nat.zero_le _⟩ (fun H locs hf_30 hP hS => ?_)
      refine lv_bipush (v := -9) hx hb dX4_refers_33 (by decide) ?_
      refine lv_icmp_eq (tgt := 42) hx hb dX4_refers_35 (by decide) (fun c_35 => ?_) (fun c_35 => ?_)
      · have h := hp_pos c_35 h
        refine lv_iconst (v := 0) hx hb dX4_refers_42 (by decide) ?_
        obtain ⟨r_43, e_43, h⟩ := ob1_inv h
        refine k_pSi (rest := []) ⟨hx, hb, hml, hown, hts⟩ (c_X4_oneIf l dC dI cI cS (0 : Int32) r_43 e_43) (cwS 1 hts gX4_refers_X4_oneIf rfl rfl rfl khd_X4_oneIf ⟨Nat.le_of_ble_eq_true rfl, Nat.le_of_ble_eq_true rfl⟩) hK hN hP (va_D_fst hD rfl) hS [] rfl rfl rfl hl.1 rfl (Nat.le_of_ble_eq_true rfl) dX4_refers_43 ⟨Nat.zero_le _, Nat.zero_le _⟩ (fun H locs hf_43 hP hS => ?_)
        obtain rfl := Option.some.inj h
        exact W.iret hx hb hr (fun t ht _ => kQ.mk ht trivial trivial (hS.F ht)) hS.2.2 dX4_refers_46
      · have h := hp_neg c_35 h
        refine lv_iconst (v := 1) hx hb dX4_refers_38 (by decide) ?_
        refine lv_goto (tgt := 43) hx hb dX4_refers_39 (by decide) ?_
        obtain ⟨r_43, e_43, h⟩ := ob1_inv h
        refine k_pSi (rest := []) ⟨hx, hb, hml, hown, hts⟩ (c_X4_oneIf l dC dI cI cS (1 : Int32) r_43 e_43) (cwS 1 hts gX4_refers_X4_oneIf rfl rfl rfl khd_X4_oneIf ⟨Nat.le_of_ble_eq_true rfl, Nat.le_of_ble_eq_true rfl⟩) hK hN hP (va_D_fst hD rfl) hS [] rfl rfl rfl hl.1 rfl (Nat.le_of_ble_eq_true rfl) dX4_refers_43 ⟨Nat.zero_le _, Nat.zero_le _⟩ (fun H locs hf_43 hP hS => ?_)
        obtain rfl := Option.some.inj h
        exact W.iret hx hb hr (fun t ht _ => kQ.mk ht trivial trivial (hS.F ht)) hS.2.2 dX4_refers_46
    · have h := hp_pos c_19 h
      refine lv_iconst (v := -1) hx hb dX4_refers_22 (by decide) ?_
      obtain rfl := Option.some.inj h
      exact W.iret hx hb hr (fun t ht _ => kQ.mk ht trivial trivial (hS.F ht)) hS.2.2 dX4_refers_23
theorem kin_X4_place_X4 : ∀ w ∈ wsX40, w ∈ wsX4_place := fun _ h => List.mem_cons_of_mem _ (List.mem_append_left _ (List.mem_append_right _ h))
theorem kin_X4_place_X3 : ∀ w ∈ wsX30, w ∈ wsX4_place := fun _ h => List.mem_cons_of_mem _ (List.mem_append_right _ h)
theorem khd_X4_place : yX4_place.cls = RX4 ∧ yX4_place.cls ≠ "java/lang/invoke/MethodHandle" ∧ yX4_place.cls ≠ "java/lang/invoke/VarHandle" ∧ (parseMethodDescriptor yX4_place.desc).map (fun d => d.parameters.length) = some 2 := by decide +kernel
set_option maxHeartbeats 8000000 in
set_option maxRecDepth 100000 in
theorem c_X4_place (l : Launch) (dC : Nat → ClassId) (dI : Nat → Nat → Nat) (cI cS : ClassId) (a_o : Nat) (a_n : Nat) (a_t : Nat) (a_d : Nat) (a_o_sheets : Nat) (a_rd : Nat) (a_n_kind : Nat) (a_n_owner : Nat) (a_n_from : Nat) (a_n_to : Nat) (a_n_away : Nat) (o_traced : Int32) (o_lastFault : Int32) (n_count : Int32) (n_references : Int32) (n_from : Nat → Int32) (n_to : Nat → Int32) (x1 : Int32) (x2 : Int32) (r : Int32) (h : f_X4_place n_count n_references n_from n_to x1 x2 = some r) : Mk l yX4_place wsX4_place ({ frames := 2, cells := 0, slots := 0, locals := 42 } : Room) (dC, dI) cI cS [(a_o, .inr (4, [.ref a_n, .ref a_t, .ref a_d, .ref a_o_sheets, .ref a_rd, .int o_traced, .int o_lastFault])), (a_n, .inr (3, [.int n_count, .int n_references, .ref a_n_kind, .ref a_n_owner, .ref a_n_from, .ref a_n_to, .ref a_n_away])), (a_n_from, .inl (cI, 12, .inl n_from)), (a_n_to, .inl (cI, 12, .inl n_to))] [.ref a_o, .int x1, .int x2] (some (.int r)) True (fun _ => True) noA := by
  refine Met.ofW (cc := cX4_place) (maxL := 3) (ret := (some .int)) (by decide) rfl ?_
  intro p e s m args below meth c s₁ B hml hv
  obtain ⟨rfl, hP, hK, hN, hD⟩ := hv
  have hx := B.exec
  have hb := B.bytes
  have hr := B.returns
  have hts := atoms_spec (ws := wsX4_place) B.pre
  have hown : s.vm.findClass RX4 = some m.cls := findClass_of_methodNamed B.named
  have hlocks := B.notSynchronized
  have hS : va_S noA s.heap s.heap [] := va_S.rf
  have hP : va_P (dC, dI) vwCl [(a_o, .inr (4, [.ref a_n, .ref a_t, .ref a_d, .ref a_o_sheets, .ref a_rd, .int o_traced, .int o_lastFault])), (a_n, .inr (3, [.int n_count, .int n_references, .ref a_n_kind, .ref a_n_owner, .ref a_n_from, .ref a_n_to, .ref a_n_away])), (a_n_from, .inl (cI, 12, .inl n_from)), (a_n_to, .inl (cI, 12, .inl n_to))] s.heap := hP
  have hl := lv_entry ([.ref a_o, .int x1, .int x2]) (n := 3) (Nat.le_of_ble_eq_true rfl)
  rw [lg_entry_eq]
  generalize (lg_sl ([.ref a_o, .int x1, .int x2]) ++ List.replicate (3 - (lg_sl ([.ref a_o, .int x1, .int x2])).length) Slot.unset).toArray = ls at hl ⊢
  have hl : lv_has ls 3 [(0, .ref a_o), (1, .int x1), (2, .int x2)] := hl
  unfold f_X4_place at h
  refine lv_aload_n hx hb dX4_place_0 rfl (lv_at hl 0 rfl) ?_
  refine va_get (D := (dC, dI)) (ci := 4) (v := .ref a_n) (C := RX4) (T := TX4) (N := 7) hx hb hts kin_X4_place_X4 hown hK hP 0 rfl rfl 0 (Nat.le_of_ble_eq_true rfl) (hts (.fieldLink RX4 12 "OwnedThings" "now" "LOwnedThings$Web;") (List.mem_of_getElem? (i := 1) rfl)) (fun _ h9 => h9) rfl dX4_place_1 ?_
  refine lv_iload_n hx hb dX4_place_4 rfl (lv_at hl 1 rfl) ?_
  obtain ⟨r_5, e_5, h⟩ := ob1_inv h
  refine k_pVi (i0 := 1) (rest := []) ⟨hx, hb, hml, hown, hts⟩ (c_X3_mayOwn l dC dI cI cS a_n a_n_kind a_n_owner a_n_from a_n_to a_n_away n_count n_references x1 r_5 e_5) (cwV 1 hts gX4_place_X3_mayOwn rfl rfl rfl khd_X3_mayOwn ⟨Nat.le_of_ble_eq_true rfl, Nat.le_of_ble_eq_true rfl⟩) hK hN hP (va_D_fst hD rfl) hS [1] rfl rfl rfl rfl rfl rfl hl.1 rfl (Nat.le_of_ble_eq_true rfl) dX4_place_5 ⟨Nat.zero_le _, Nat.zero_le _⟩ (fun H locs hf_5 hP hS => ?_)
  refine lv_if_eq (tgt := 22) hx hb dX4_place_8 (by decide) (fun c_8 => ?_) (fun c_8 => ?_)
  · have h := hp_pos c_8 h
    refine lv_iconst (v := -1) hx hb dX4_place_22 (by decide) ?_
    obtain rfl := Option.some.inj h
    exact W.iret hx hb hr (fun t ht _ => kQ.mk ht trivial trivial (hS.F ht)) hS.2.2 dX4_place_23
  · have h := hp_neg c_8 h
    refine lv_aload_n hx hb dX4_place_11 rfl (lv_at hl 0 rfl) ?_
    refine va_get (D := (dC, dI)) (ci := 4) (v := .ref a_n) (C := RX4) (T := TX4) (N := 7) hx hb hts kin_X4_place_X4 hown hK hP 0 rfl rfl 0 (Nat.le_of_ble_eq_true rfl) (hts (.fieldLink RX4 12 "OwnedThings" "now" "LOwnedThings$Web;") (List.mem_of_getElem? (i := 1) rfl)) (fun _ h9 => h9) rfl dX4_place_12 ?_
    refine lv_iload_n hx hb dX4_place_15 rfl (lv_at hl 2 rfl) ?_
    obtain ⟨r_16, e_16, h⟩ := ob1_inv h
    refine k_pVi (i0 := 1) (rest := []) ⟨hx, hb, hml, hown, hts⟩ (c_X3_isThing l dC dI cI cS a_n a_n_kind a_n_owner a_n_from a_n_to a_n_away n_count n_references x2 r_16 e_16) (cwV 1 hts gX4_place_X3_isThing rfl rfl rfl khd_X3_isThing ⟨Nat.le_of_ble_eq_true rfl, Nat.le_of_ble_eq_true rfl⟩) hK hN hP (va_D_fst hD rfl) hS [1] rfl rfl rfl rfl rfl rfl hl.1 rfl (Nat.le_of_ble_eq_true rfl) dX4_place_16 ⟨Nat.zero_le _, Nat.zero_le _⟩ (fun H locs hf_16 hP hS => ?_)
    refine lv_if_ne (tgt := 24) hx hb dX4_place_19 (by decide) (fun c_19 => ?_) (fun c_19 => ?_)
    · have h := hp_neg c_19 h
      refine lv_aload_n hx hb dX4_place_24 rfl (lv_at hl 0 rfl) ?_
      refine va_get (D := (dC, dI)) (ci := 4) (v := .ref a_n) (C := RX4) (T := TX4) (N := 7) hx hb hts kin_X4_place_X4 hown hK hP 0 rfl rfl 0 (Nat.le_of_ble_eq_true rfl) (hts (.fieldLink RX4 12 "OwnedThings" "now" "LOwnedThings$Web;") (List.mem_of_getElem? (i := 1) rfl)) (fun _ h9 => h9) rfl dX4_place_25 ?_
      refine lv_iload_n hx hb dX4_place_28 rfl (lv_at hl 1 rfl) ?_
      refine lv_iload_n hx hb dX4_place_29 rfl (lv_at hl 2 rfl) ?_
      obtain ⟨r_30, e_30, h⟩ := ob1_inv h
      refine k_pVi (i0 := 1) (rest := []) ⟨hx, hb, hml, hown, hts⟩ (c_X3_find l dC dI cI cS a_n a_n_kind a_n_owner a_n_from a_n_to a_n_away n_count n_references n_from n_to x1 x2 r_30 e_30) (cwV 2 hts gX4_place_X3_find rfl rfl rfl khd_X3_find ⟨Nat.le_of_ble_eq_true rfl, Nat.le_of_ble_eq_true rfl⟩) hK hN hP (va_D_fst hD rfl) hS [1, 2, 3] rfl rfl rfl rfl rfl rfl hl.1 rfl (Nat.le_of_ble_eq_true rfl) dX4_place_30 ⟨Nat.zero_le _, Nat.zero_le _⟩ (fun H locs hf_30 hP hS => ?_)
      obtain rfl := Option.some.inj h
      exact W.iret hx hb hr (fun t ht _ => kQ.mk ht trivial trivial (hS.F ht)) hS.2.2 dX4_place_33
    · have h := hp_pos c_19 h
      refine lv_iconst (v := -1) hx hb dX4_place_22 (by decide) ?_
      obtain rfl := Option.some.inj h
      exact W.iret hx hb hr (fun t ht _ => kQ.mk ht trivial trivial (hS.F ht)) hS.2.2 dX4_place_23
theorem kin_X4_refer_X4 : ∀ w ∈ wsX40, w ∈ wsX4_refer := fun _ h => List.mem_cons_of_mem _ (List.mem_append_left _ (List.mem_append_right _ h))
theorem kin_X4_refer_X3 : ∀ w ∈ wsX30, w ∈ wsX4_refer := fun _ h => List.mem_cons_of_mem _ (List.mem_append_right _ h)
theorem khd_X4_refer : yX4_refer.cls = RX4 ∧ yX4_refer.cls ≠ "java/lang/invoke/MethodHandle" ∧ yX4_refer.cls ≠ "java/lang/invoke/VarHandle" ∧ (parseMethodDescriptor yX4_refer.desc).map (fun d => d.parameters.length) = some 2 := by decide +kernel
set_option maxHeartbeats 8000000 in
set_option maxRecDepth 100000 in
theorem c_X4_refer (l : Launch) (dC : Nat → ClassId) (dI : Nat → Nat → Nat) (cI cS : ClassId) (a_o : Nat) (a_n : Nat) (a_t : Nat) (a_d : Nat) (a_o_sheets : Nat) (a_rd : Nat) (a_n_kind : Nat) (a_n_owner : Nat) (a_n_from : Nat) (a_n_to : Nat) (a_n_away : Nat) (o_traced : Int32) (o_lastFault : Int32) (n_count : Int32) (n_references : Int32) (n_from : Nat → Int32) (n_to : Nat → Int32) (x1 : Int32) (x2 : Int32) (r : Int32) (z_n_references : Int32) (z_n_from : Nat → Int32) (z_n_to : Nat → Int32) (h : f_X4_refer n_count n_references n_from n_to x1 x2 = some (r, z_n_references, z_n_from, z_n_to)) : Mk l yX4_refer wsX4_refer ({ frames := 3, cells := 0, slots := 0, locals := 65 } : Room) (dC, dI) cI cS [(a_o, .inr (4, [.ref a_n, .ref a_t, .ref a_d, .ref a_o_sheets, .ref a_rd, .int o_traced, .int o_lastFault])), (a_n, .inr (3, [.int n_count, .int n_references, .ref a_n_kind, .ref a_n_owner, .ref a_n_from, .ref a_n_to, .ref a_n_away])), (a_n_from, .inl (cI, 12, .inl n_from)), (a_n_to, .inl (cI, 12, .inl n_to))] [.ref a_o, .int x1, .int x2] (some (.int r)) True (fun H => va_P (dC, dI) vwCl [(a_o, .inr (4, [.ref a_n, .ref a_t, .ref a_d, .ref a_o_sheets, .ref a_rd, .int o_traced, .int o_lastFault])), (a_n, .inr (3, [.int n_count, .int z_n_references, .ref a_n_kind, .ref a_n_owner, .ref a_n_from, .ref a_n_to, .ref a_n_away])), (a_n_from, .inl (cI, 12, .inl z_n_from)), (a_n_to, .inl (cI, 12, .inl z_n_to))] H) (inA (List.map Prod.fst ([(a_o, .inr (4, [.ref a_n, .ref a_t, .ref a_d, .ref a_o_sheets, .ref a_rd, .int o_traced, .int o_lastFault])), (a_n, .inr (3, [.int n_count, .int n_references, .ref a_n_kind, .ref a_n_owner, .ref a_n_from, .ref a_n_to, .ref a_n_away])), (a_n_from, .inl (cI, 12, .inl n_from)), (a_n_to, .inl (cI, 12, .inl n_to))] : va_W))) := by
  refine Met.ofW (cc := cX4_refer) (maxL := 3) (ret := (some .int)) (by decide) rfl ?_
  intro p e s m args below meth c s₁ B hml hv
  obtain ⟨rfl, hP, hK, hN, hD⟩ := hv
  have hx := B.exec
  have hb := B.bytes
  have hr := B.returns
  have hts := atoms_spec (ws := wsX4_refer) B.pre
  have hown : s.vm.findClass RX4 = some m.cls := findClass_of_methodNamed B.named
  have hlocks := B.notSynchronized
  have hS : va_S (inA [a_o, a_n, a_n_from, a_n_to]) s.heap s.heap [] := va_S.rf
  have hP : va_P (dC, dI) vwCl [(a_o, .inr (4, [.ref a_n, .ref a_t, .ref a_d, .ref a_o_sheets, .ref a_rd, .int o_traced, .int o_lastFault])), (a_n, .inr (3, [.int n_count, .int n_references, .ref a_n_kind, .ref a_n_owner, .ref a_n_from, .ref a_n_to, .ref a_n_away])), (a_n_from, .inl (cI, 12, .inl n_from)), (a_n_to, .inl (cI, 12, .inl n_to))] s.heap := hP
  have hD : va_D (inA [a_o, a_n, a_n_from, a_n_to]) [(a_o, .inr (4, [.ref a_n, .ref a_t, .ref a_d, .ref a_o_sheets, .ref a_rd, .int o_traced, .int o_lastFault])), (a_n, .inr (3, [.int n_count, .int n_references, .ref a_n_kind, .ref a_n_owner, .ref a_n_from, .ref a_n_to, .ref a_n_away])), (a_n_from, .inl (cI, 12, .inl n_from)), (a_n_to, .inl (cI, 12, .inl n_to))] := va_D_in hD rfl
  have hl := lv_entry ([.ref a_o, .int x1, .int x2]) (n := 3) (Nat.le_of_ble_eq_true rfl)
  rw [lg_entry_eq]
  generalize (lg_sl ([.ref a_o, .int x1, .int x2]) ++ List.replicate (3 - (lg_sl ([.ref a_o, .int x1, .int x2])).length) Slot.unset).toArray = ls at hl ⊢
  have hl : lv_has ls 3 [(0, .ref a_o), (1, .int x1), (2, .int x2)] := hl
  unfold f_X4_refer at h
  refine lv_aload_n hx hb dX4_refer_0 rfl (lv_at hl 0 rfl) ?_
  refine va_get (D := (dC, dI)) (ci := 4) (v := .ref a_n) (C := RX4) (T := TX4) (N := 7) hx hb hts kin_X4_refer_X4 hown hK hP 0 rfl rfl 0 (Nat.le_of_ble_eq_true rfl) (hts (.fieldLink RX4 12 "OwnedThings" "now" "LOwnedThings$Web;") (List.mem_of_getElem? (i := 1) rfl)) (fun _ h9 => h9) rfl dX4_refer_1 ?_
  refine lv_iload_n hx hb dX4_refer_4 rfl (lv_at hl 1 rfl) ?_
  refine lv_iload_n hx hb dX4_refer_5 rfl (lv_at hl 2 rfl) ?_
  obtain ⟨r_6, r_6_references, r_6_from, r_6_to, e_6, h⟩ := ob4_inv h
  refine k_wVi (i0 := 1) (rest := []) (ws' := [(a_o, .inr (4, [.ref a_n, .ref a_t, .ref a_d, .ref a_o_sheets, .ref a_rd, .int o_traced, .int o_lastFault])), (a_n, .inr (3, [.int n_count, .int r_6_references, .ref a_n_kind, .ref a_n_owner, .ref a_n_from, .ref a_n_to, .ref a_n_away])), (a_n_from, .inl (cI, 12, .inl r_6_from)), (a_n_to, .inl (cI, 12, .inl r_6_to))]) ⟨hx, hb, hml, hown, hts⟩ (c_X3_makeOrCut l dC dI cI cS a_n a_n_kind a_n_owner a_n_from a_n_to a_n_away n_count n_references n_from n_to x1 x2 r_6 r_6_references r_6_from r_6_to e_6) (cwV 2 hts gX4_refer_X3_makeOrCut rfl rfl rfl khd_X3_makeOrCut ⟨Nat.le_of_ble_eq_true rfl, Nat.le_of_ble_eq_true rfl⟩) hK hN hP (va_D_fst hD rfl) hS [1, 2, 3] rfl rfl rfl rfl rfl rfl hl.1 rfl (Nat.le_of_ble_eq_true rfl) dX4_refer_6 ⟨Nat.zero_le _, Nat.zero_le _⟩ rfl rfl (fun H locs hf_6 hP hS => ?_)
  obtain ⟨rfl, rfl, rfl, rfl⟩ := pj4 (Option.some.inj h)
  exact W.iret hx hb hr (fun t ht _ => kQ.mk ht hP trivial (hS.F ht)) hS.2.2 dX4_refer_9
theorem kin_X4_own_X4 : ∀ w ∈ wsX40, w ∈ wsX4_own := fun _ h => List.mem_cons_of_mem _ (List.mem_append_left _ (List.mem_append_right _ h))
theorem kin_X4_own_X3 : ∀ w ∈ wsX30, w ∈ wsX4_own := fun _ h => List.mem_cons_of_mem _ (List.mem_append_right _ h)
theorem khd_X4_own : yX4_own.cls = RX4 ∧ yX4_own.cls ≠ "java/lang/invoke/MethodHandle" ∧ yX4_own.cls ≠ "java/lang/invoke/VarHandle" ∧ (parseMethodDescriptor yX4_own.desc).map (fun d => d.parameters.length) = some 2 := by decide +kernel
set_option maxHeartbeats 8000000 in
set_option maxRecDepth 100000 in
theorem c_X4_own (l : Launch) (dC : Nat → ClassId) (dI : Nat → Nat → Nat) (cI cS : ClassId) (a_o : Nat) (a_n : Nat) (a_t : Nat) (a_d : Nat) (a_o_sheets : Nat) (a_rd : Nat) (a_n_kind : Nat) (a_n_owner : Nat) (a_n_from : Nat) (a_n_to : Nat) (a_n_away : Nat) (o_traced : Int32) (o_lastFault : Int32) (n_count : Int32) (n_references : Int32) (n_owner : Nat → Int32) (x1 : Int32) (x2 : Int32) (r : Int32) (z_n_owner : Nat → Int32) (h : f_X4_own n_count n_owner x1 x2 = some (r, z_n_owner)) : Mk l yX4_own wsX4_own ({ frames := 3, cells := 0, slots := 0, locals := 68 } : Room) (dC, dI) cI cS [(a_o, .inr (4, [.ref a_n, .ref a_t, .ref a_d, .ref a_o_sheets, .ref a_rd, .int o_traced, .int o_lastFault])), (a_n, .inr (3, [.int n_count, .int n_references, .ref a_n_kind, .ref a_n_owner, .ref a_n_from, .ref a_n_to, .ref a_n_away])), (a_n_owner, .inl (cI, 6, .inl n_owner))] [.ref a_o, .int x1, .int x2] (some (.int r)) True (fun H => va_P (dC, dI) vwCl [(a_o, .inr (4, [.ref a_n, .ref a_t, .ref a_d, .ref a_o_sheets, .ref a_rd, .int o_traced, .int o_lastFault])), (a_n, .inr (3, [.int n_count, .int n_references, .ref a_n_kind, .ref a_n_owner, .ref a_n_from, .ref a_n_to, .ref a_n_away])), (a_n_owner, .inl (cI, 6, .inl z_n_owner))] H) (inA (List.map Prod.fst ([(a_o, .inr (4, [.ref a_n, .ref a_t, .ref a_d, .ref a_o_sheets, .ref a_rd, .int o_traced, .int o_lastFault])), (a_n, .inr (3, [.int n_count, .int n_references, .ref a_n_kind, .ref a_n_owner, .ref a_n_from, .ref a_n_to, .ref a_n_away])), (a_n_owner, .inl (cI, 6, .inl n_owner))] : va_W))) := by
  refine Met.ofW (cc := cX4_own) (maxL := 3) (ret := (some .int)) (by decide) rfl ?_
  intro p e s m args below meth c s₁ B hml hv
  obtain ⟨rfl, hP, hK, hN, hD⟩ := hv
  have hx := B.exec
  have hb := B.bytes
  have hr := B.returns
  have hts := atoms_spec (ws := wsX4_own) B.pre
  have hown : s.vm.findClass RX4 = some m.cls := findClass_of_methodNamed B.named
  have hlocks := B.notSynchronized
  have hS : va_S (inA [a_o, a_n, a_n_owner]) s.heap s.heap [] := va_S.rf
  have hP : va_P (dC, dI) vwCl [(a_o, .inr (4, [.ref a_n, .ref a_t, .ref a_d, .ref a_o_sheets, .ref a_rd, .int o_traced, .int o_lastFault])), (a_n, .inr (3, [.int n_count, .int n_references, .ref a_n_kind, .ref a_n_owner, .ref a_n_from, .ref a_n_to, .ref a_n_away])), (a_n_owner, .inl (cI, 6, .inl n_owner))] s.heap := hP
  have hD : va_D (inA [a_o, a_n, a_n_owner]) [(a_o, .inr (4, [.ref a_n, .ref a_t, .ref a_d, .ref a_o_sheets, .ref a_rd, .int o_traced, .int o_lastFault])), (a_n, .inr (3, [.int n_count, .int n_references, .ref a_n_kind, .ref a_n_owner, .ref a_n_from, .ref a_n_to, .ref a_n_away])), (a_n_owner, .inl (cI, 6, .inl n_owner))] := va_D_in hD rfl
  have hl := lv_entry ([.ref a_o, .int x1, .int x2]) (n := 3) (Nat.le_of_ble_eq_true rfl)
  rw [lg_entry_eq]
  generalize (lg_sl ([.ref a_o, .int x1, .int x2]) ++ List.replicate (3 - (lg_sl ([.ref a_o, .int x1, .int x2])).length) Slot.unset).toArray = ls at hl ⊢
  have hl : lv_has ls 3 [(0, .ref a_o), (1, .int x1), (2, .int x2)] := hl
  unfold f_X4_own at h
  refine lv_aload_n hx hb dX4_own_0 rfl (lv_at hl 0 rfl) ?_
  refine va_get (D := (dC, dI)) (ci := 4) (v := .ref a_n) (C := RX4) (T := TX4) (N := 7) hx hb hts kin_X4_own_X4 hown hK hP 0 rfl rfl 0 (Nat.le_of_ble_eq_true rfl) (hts (.fieldLink RX4 12 "OwnedThings" "now" "LOwnedThings$Web;") (List.mem_of_getElem? (i := 1) rfl)) (fun _ h9 => h9) rfl dX4_own_1 ?_
  refine lv_iload_n hx hb dX4_own_4 rfl (lv_at hl 1 rfl) ?_
  refine lv_iload_n hx hb dX4_own_5 rfl (lv_at hl 2 rfl) ?_
  obtain ⟨r_6, r_6_owner, e_6, h⟩ := ob2_inv h
  refine k_wVi (i0 := 1) (rest := []) (ws' := [(a_o, .inr (4, [.ref a_n, .ref a_t, .ref a_d, .ref a_o_sheets, .ref a_rd, .int o_traced, .int o_lastFault])), (a_n, .inr (3, [.int n_count, .int n_references, .ref a_n_kind, .ref a_n_owner, .ref a_n_from, .ref a_n_to, .ref a_n_away])), (a_n_owner, .inl (cI, 6, .inl r_6_owner))]) ⟨hx, hb, hml, hown, hts⟩ (c_X3_changeOwner l dC dI cI cS a_n a_n_kind a_n_owner a_n_from a_n_to a_n_away n_count n_references n_owner x1 x2 r_6 r_6_owner e_6) (cwV 2 hts gX4_own_X3_changeOwner rfl rfl rfl khd_X3_changeOwner ⟨Nat.le_of_ble_eq_true rfl, Nat.le_of_ble_eq_true rfl⟩) hK hN hP (va_D_fst hD rfl) hS [1, 2] rfl rfl rfl rfl rfl rfl hl.1 rfl (Nat.le_of_ble_eq_true rfl) dX4_own_6 ⟨Nat.zero_le _, Nat.zero_le _⟩ rfl rfl (fun H locs hf_6 hP hS => ?_)
  obtain ⟨rfl, rfl⟩ := pj2 (Option.some.inj h)
  exact W.iret hx hb hr (fun t ht _ => kQ.mk ht hP trivial (hS.F ht)) hS.2.2 dX4_own_9
theorem kin_X4_hand_X4 : ∀ w ∈ wsX40, w ∈ wsX4_hand := fun _ h => List.mem_cons_of_mem _ (List.mem_append_left _ (List.mem_append_right _ h))
theorem kin_X4_hand_X3 : ∀ w ∈ wsX30, w ∈ wsX4_hand := fun _ h => List.mem_cons_of_mem _ (List.mem_append_right _ h)
theorem khd_X4_hand : yX4_hand.cls = RX4 ∧ yX4_hand.cls ≠ "java/lang/invoke/MethodHandle" ∧ yX4_hand.cls ≠ "java/lang/invoke/VarHandle" ∧ (parseMethodDescriptor yX4_hand.desc).map (fun d => d.parameters.length) = some 2 := by decide +kernel
set_option maxHeartbeats 8000000 in
set_option maxRecDepth 100000 in
theorem c_X4_hand (l : Launch) (dC : Nat → ClassId) (dI : Nat → Nat → Nat) (cI cS : ClassId) (a_o : Nat) (a_n : Nat) (a_t : Nat) (a_d : Nat) (a_o_sheets : Nat) (a_rd : Nat) (a_n_kind : Nat) (a_n_owner : Nat) (a_n_from : Nat) (a_n_to : Nat) (a_n_away : Nat) (o_traced : Int32) (o_lastFault : Int32) (n_count : Int32) (n_references : Int32) (n_owner : Nat → Int32) (n_from : Nat → Int32) (n_to : Nat → Int32) (x1 : Int32) (x2 : Int32) (r : Int32) (z_n_owner : Nat → Int32) (z_n_from : Nat → Int32) (h : f_X4_hand n_count n_references n_owner n_from n_to x1 x2 = some (r, z_n_owner, z_n_from)) : Mk l yX4_hand wsX4_hand ({ frames := 3, cells := 0, slots := 0, locals := 69 } : Room) (dC, dI) cI cS [(a_o, .inr (4, [.ref a_n, .ref a_t, .ref a_d, .ref a_o_sheets, .ref a_rd, .int o_traced, .int o_lastFault])), (a_n, .inr (3, [.int n_count, .int n_references, .ref a_n_kind, .ref a_n_owner, .ref a_n_from, .ref a_n_to, .ref a_n_away])), (a_n_owner, .inl (cI, 6, .inl n_owner)), (a_n_from, .inl (cI, 12, .inl n_from)), (a_n_to, .inl (cI, 12, .inl n_to))] [.ref a_o, .int x1, .int x2] (some (.int r)) True (fun H => va_P (dC, dI) vwCl [(a_o, .inr (4, [.ref a_n, .ref a_t, .ref a_d, .ref a_o_sheets, .ref a_rd, .int o_traced, .int o_lastFault])), (a_n, .inr (3, [.int n_count, .int n_references, .ref a_n_kind, .ref a_n_owner, .ref a_n_from, .ref a_n_to, .ref a_n_away])), (a_n_owner, .inl (cI, 6, .inl z_n_owner)), (a_n_from, .inl (cI, 12, .inl z_n_from)), (a_n_to, .inl (cI, 12, .inl n_to))] H) (inA (List.map Prod.fst ([(a_o, .inr (4, [.ref a_n, .ref a_t, .ref a_d, .ref a_o_sheets, .ref a_rd, .int o_traced, .int o_lastFault])), (a_n, .inr (3, [.int n_count, .int n_references, .ref a_n_kind, .ref a_n_owner, .ref a_n_from, .ref a_n_to, .ref a_n_away])), (a_n_owner, .inl (cI, 6, .inl n_owner)), (a_n_from, .inl (cI, 12, .inl n_from)), (a_n_to, .inl (cI, 12, .inl n_to))] : va_W))) := by
  refine Met.ofW (cc := cX4_hand) (maxL := 3) (ret := (some .int)) (by decide) rfl ?_
  intro p e s m args below meth c s₁ B hml hv
  obtain ⟨rfl, hP, hK, hN, hD⟩ := hv
  have hx := B.exec
  have hb := B.bytes
  have hr := B.returns
  have hts := atoms_spec (ws := wsX4_hand) B.pre
  have hown : s.vm.findClass RX4 = some m.cls := findClass_of_methodNamed B.named
  have hlocks := B.notSynchronized
  have hS : va_S (inA [a_o, a_n, a_n_owner, a_n_from, a_n_to]) s.heap s.heap [] := va_S.rf
  have hP : va_P (dC, dI) vwCl [(a_o, .inr (4, [.ref a_n, .ref a_t, .ref a_d, .ref a_o_sheets, .ref a_rd, .int o_traced, .int o_lastFault])), (a_n, .inr (3, [.int n_count, .int n_references, .ref a_n_kind, .ref a_n_owner, .ref a_n_from, .ref a_n_to, .ref a_n_away])), (a_n_owner, .inl (cI, 6, .inl n_owner)), (a_n_from, .inl (cI, 12, .inl n_from)), (a_n_to, .inl (cI, 12, .inl n_to))] s.heap := hP
  have hD : va_D (inA [a_o, a_n, a_n_owner, a_n_from, a_n_to]) [(a_o, .inr (4, [.ref a_n, .ref a_t, .ref a_d, .ref a_o_sheets, .ref a_rd, .int o_traced, .int o_lastFault])), (a_n, .inr (3, [.int n_count, .int n_references, .ref a_n_kind, .ref a_n_owner, .ref a_n_from, .ref a_n_to, .ref a_n_away])), (a_n_owner, .inl (cI, 6, .inl n_owner)), (a_n_from, .inl (cI, 12, .inl n_from)), (a_n_to, .inl (cI, 12, .inl n_to))] := va_D_in hD rfl
  have hl := lv_entry ([.ref a_o, .int x1, .int x2]) (n := 3) (Nat.le_of_ble_eq_true rfl)
  rw [lg_entry_eq]
  generalize (lg_sl ([.ref a_o, .int x1, .int x2]) ++ List.replicate (3 - (lg_sl ([.ref a_o, .int x1, .int x2])).length) Slot.unset).toArray = ls at hl ⊢
  have hl : lv_has ls 3 [(0, .ref a_o), (1, .int x1), (2, .int x2)] := hl
  unfold f_X4_hand at h
  refine lv_aload_n hx hb dX4_hand_0 rfl (lv_at hl 0 rfl) ?_
  refine va_get (D := (dC, dI)) (ci := 4) (v := .ref a_n) (C := RX4) (T := TX4) (N := 7) hx hb hts kin_X4_hand_X4 hown hK hP 0 rfl rfl 0 (Nat.le_of_ble_eq_true rfl) (hts (.fieldLink RX4 12 "OwnedThings" "now" "LOwnedThings$Web;") (List.mem_of_getElem? (i := 1) rfl)) (fun _ h9 => h9) rfl dX4_hand_1 ?_
  refine lv_iload_n hx hb dX4_hand_4 rfl (lv_at hl 1 rfl) ?_
  refine lv_iload_n hx hb dX4_hand_5 rfl (lv_at hl 2 rfl) ?_
  obtain ⟨r_6, r_6_owner, r_6_from, e_6, h⟩ := ob3_inv h
  refine k_wVi (i0 := 1) (rest := []) (ws' := [(a_o, .inr (4, [.ref a_n, .ref a_t, .ref a_d, .ref a_o_sheets, .ref a_rd, .int o_traced, .int o_lastFault])), (a_n, .inr (3, [.int n_count, .int n_references, .ref a_n_kind, .ref a_n_owner, .ref a_n_from, .ref a_n_to, .ref a_n_away])), (a_n_owner, .inl (cI, 6, .inl r_6_owner)), (a_n_from, .inl (cI, 12, .inl r_6_from)), (a_n_to, .inl (cI, 12, .inl n_to))]) ⟨hx, hb, hml, hown, hts⟩ (c_X3_handOn l dC dI cI cS a_n a_n_kind a_n_owner a_n_from a_n_to a_n_away n_count n_references n_owner n_from n_to x1 x2 r_6 r_6_owner r_6_from e_6) (cwV 2 hts gX4_hand_X3_handOn rfl rfl rfl khd_X3_handOn ⟨Nat.le_of_ble_eq_true rfl, Nat.le_of_ble_eq_true rfl⟩) hK hN hP (va_D_fst hD rfl) hS [1, 2, 3, 4] rfl rfl rfl rfl rfl rfl hl.1 rfl (Nat.le_of_ble_eq_true rfl) dX4_hand_6 ⟨Nat.zero_le _, Nat.zero_le _⟩ rfl rfl (fun H locs hf_6 hP hS => ?_)
  obtain ⟨rfl, rfl, rfl⟩ := pj3 (Option.some.inj h)
  exact W.iret hx hb hr (fun t ht _ => kQ.mk ht hP trivial (hS.F ht)) hS.2.2 dX4_hand_9
theorem kin_X4_afterDay_X4 : ∀ w ∈ wsX40, w ∈ wsX4_afterDay := fun _ h => List.mem_cons_of_mem _ (List.mem_append_left _ (List.mem_append_right _ h))
theorem kin_X4_afterDay_X3 : ∀ w ∈ wsX30, w ∈ wsX4_afterDay := fun _ h => List.mem_cons_of_mem _ (List.mem_append_right _ h)
theorem khd_X4_afterDay : yX4_afterDay.cls = RX4 ∧ yX4_afterDay.cls ≠ "java/lang/invoke/MethodHandle" ∧ yX4_afterDay.cls ≠ "java/lang/invoke/VarHandle" ∧ (parseMethodDescriptor yX4_afterDay.desc).map (fun d => d.parameters.length) = some 1 := by decide +kernel
set_option maxHeartbeats 8000000 in
set_option maxRecDepth 100000 in
theorem c_X4_afterDay (l : Launch) (dC : Nat → ClassId) (dI : Nat → Nat → Nat) (cI cS : ClassId) (a_o : Nat) (a_n : Nat) (a_t : Nat) (a_d : Nat) (a_o_sheets : Nat) (a_rd : Nat) (a_t_kind : Nat) (a_t_owner : Nat) (a_t_from : Nat) (a_t_to : Nat) (a_t_away : Nat) (o_traced : Int32) (o_lastFault : Int32) (t_count : Int32) (t_references : Int32) (t_kind : Nat → Int32) (t_owner : Nat → Int32) (t_from : Nat → Int32) (t_to : Nat → Int32) (x1 : Int32) (r : Int32) (h : f_X4_afterDay t_count t_references t_kind t_owner t_from t_to x1 = some r) : Mk l yX4_afterDay wsX4_afterDay ({ frames := 5, cells := 0, slots := 0, locals := 112 } : Room) (dC, dI) cI cS [(a_o, .inr (4, [.ref a_n, .ref a_t, .ref a_d, .ref a_o_sheets, .ref a_rd, .int o_traced, .int o_lastFault])), (a_t, .inr (3, [.int t_count, .int t_references, .ref a_t_kind, .ref a_t_owner, .ref a_t_from, .ref a_t_to, .ref a_t_away])), (a_t_kind, .inl (cI, 6, .inl t_kind)), (a_t_owner, .inl (cI, 6, .inl t_owner)), (a_t_from, .inl (cI, 12, .inl t_from)), (a_t_to, .inl (cI, 12, .inl t_to))] [.ref a_o, .int x1] (some (.int r)) True (fun _ => True) noA := by
  refine Met.ofW (cc := cX4_afterDay) (maxL := 2) (ret := (some .int)) (by decide) rfl ?_
  intro p e s m args below meth c s₁ B hml hv
  obtain ⟨rfl, hP, hK, hN, hD⟩ := hv
  have hx := B.exec
  have hb := B.bytes
  have hr := B.returns
  have hts := atoms_spec (ws := wsX4_afterDay) B.pre
  have hown : s.vm.findClass RX4 = some m.cls := findClass_of_methodNamed B.named
  have hlocks := B.notSynchronized
  have hS : va_S noA s.heap s.heap [] := va_S.rf
  have hP : va_P (dC, dI) vwCl [(a_o, .inr (4, [.ref a_n, .ref a_t, .ref a_d, .ref a_o_sheets, .ref a_rd, .int o_traced, .int o_lastFault])), (a_t, .inr (3, [.int t_count, .int t_references, .ref a_t_kind, .ref a_t_owner, .ref a_t_from, .ref a_t_to, .ref a_t_away])), (a_t_kind, .inl (cI, 6, .inl t_kind)), (a_t_owner, .inl (cI, 6, .inl t_owner)), (a_t_from, .inl (cI, 12, .inl t_from)), (a_t_to, .inl (cI, 12, .inl t_to))] s.heap := hP
  have hl := lv_entry ([.ref a_o, .int x1]) (n := 2) (Nat.le_of_ble_eq_true rfl)
  rw [lg_entry_eq]
  generalize (lg_sl ([.ref a_o, .int x1]) ++ List.replicate (2 - (lg_sl ([.ref a_o, .int x1])).length) Slot.unset).toArray = ls at hl ⊢
  have hl : lv_has ls 2 [(0, .ref a_o), (1, .int x1)] := hl
  unfold f_X4_afterDay at h
  refine lv_iload_n hx hb dX4_afterDay_0 rfl (lv_at hl 1 rfl) ?_
  by_cases s_1_0 : x1 = (0 : Int32)
  · have h := hp_pos s_1_0 h
    refine lv_tableIn (off := 35) (tgt := 36) hx hb dX4_afterDay_1 (by rw [s_1_0]; decide) (by rw [s_1_0]; decide) (by rw [s_1_0]; rfl) (by decide) ?_
    refine lv_aload_n hx hb dX4_afterDay_36 rfl (lv_at hl 0 rfl) ?_
    refine va_get (D := (dC, dI)) (ci := 4) (v := .ref a_t) (C := RX4) (T := TX4) (N := 7) hx hb hts kin_X4_afterDay_X4 hown hK hP 0 rfl rfl 1 (Nat.le_of_ble_eq_true rfl) (hts (.fieldLink RX4 18 "OwnedThings" "trial" "LOwnedThings$Web;") (List.mem_of_getElem? (i := 1) rfl)) (fun _ h9 => h9) rfl dX4_afterDay_37 ?_
    obtain ⟨r_40, e_40, h⟩ := ob1_inv h
    refine k_pVi (i0 := 1) (rest := []) ⟨hx, hb, hml, hown, hts⟩ (c_X3_howManyReferences l dC dI cI cS a_t a_t_kind a_t_owner a_t_from a_t_to a_t_away t_count t_references r_40 e_40) (cwV 0 hts gX4_afterDay_X3_howManyReferences rfl rfl rfl khd_X3_howManyReferences ⟨Nat.le_of_ble_eq_true rfl, Nat.le_of_ble_eq_true rfl⟩) hK hN hP (va_D_fst hD rfl) hS [1] rfl rfl rfl rfl rfl rfl hl.1 rfl (Nat.le_of_ble_eq_true rfl) dX4_afterDay_40 ⟨Nat.zero_le _, Nat.zero_le _⟩ (fun H locs hf_40 hP hS => ?_)
    obtain rfl := Option.some.inj h
    exact W.iret hx hb hr (fun t ht _ => kQ.mk ht trivial trivial (hS.F ht)) hS.2.2 dX4_afterDay_43
  have h := hp_neg s_1_0 h
  by_cases s_1_1 : x1 = (1 : Int32)
  · have h := hp_pos s_1_1 h
    refine lv_tableIn (off := 67) (tgt := 68) hx hb dX4_afterDay_1 (by rw [s_1_1]; decide) (by rw [s_1_1]; decide) (by rw [s_1_1]; rfl) (by decide) ?_
    refine lv_aload_n hx hb dX4_afterDay_68 rfl (lv_at hl 0 rfl) ?_
    refine va_get (D := (dC, dI)) (ci := 4) (v := .ref a_t) (C := RX4) (T := TX4) (N := 7) hx hb hts kin_X4_afterDay_X4 hown hK hP 0 rfl rfl 1 (Nat.le_of_ble_eq_true rfl) (hts (.fieldLink RX4 18 "OwnedThings" "trial" "LOwnedThings$Web;") (List.mem_of_getElem? (i := 1) rfl)) (fun _ h9 => h9) rfl dX4_afterDay_69 ?_
    refine lv_iload_n hx hb dX4_afterDay_72 rfl (lv_at hl 1 rfl) ?_
    refine lv_bipush (v := 10) hx hb dX4_afterDay_73 (by decide) ?_
    refine lv_isub hx hb dX4_afterDay_75 ?_
    obtain ⟨r_76, e_76, h⟩ := ob1_inv h
    refine k_pVi (i0 := 1) (rest := []) ⟨hx, hb, hml, hown, hts⟩ (c_X3_isThing l dC dI cI cS a_t a_t_kind a_t_owner a_t_from a_t_to a_t_away t_count t_references (x1 - (10 : Int32)) r_76 e_76) (cwV 1 hts gX4_afterDay_X3_isThing rfl rfl rfl khd_X3_isThing ⟨Nat.le_of_ble_eq_true rfl, Nat.le_of_ble_eq_true rfl⟩) hK hN hP (va_D_fst hD rfl) hS [1] rfl rfl rfl rfl rfl rfl hl.1 rfl (Nat.le_of_ble_eq_true rfl) dX4_afterDay_76 ⟨Nat.zero_le _, Nat.zero_le _⟩ (fun H locs hf_76 hP hS => ?_)
    refine lv_if_eq (tgt := 96) hx hb dX4_afterDay_79 (by decide) (fun c_79 => ?_) (fun c_79 => ?_)
    · have h := hp_pos c_79 h
      refine lv_bipush (v := -9) hx hb dX4_afterDay_96 (by decide) ?_
      obtain rfl := Option.some.inj h
      exact W.iret hx hb hr (fun t ht _ => kQ.mk ht trivial trivial (hS.F ht)) hS.2.2 dX4_afterDay_98
    · have h := hp_neg c_79 h
      refine lv_aload_n hx hb dX4_afterDay_82 rfl (lv_at hl 0 rfl) ?_
      refine va_get (D := (dC, dI)) (ci := 4) (v := .ref a_t) (C := RX4) (T := TX4) (N := 7) hx hb hts kin_X4_afterDay_X4 hown hK hP 0 rfl rfl 1 (Nat.le_of_ble_eq_true rfl) (hts (.fieldLink RX4 18 "OwnedThings" "trial" "LOwnedThings$Web;") (List.mem_of_getElem? (i := 1) rfl)) (fun _ h9 => h9) rfl dX4_afterDay_83 ?_
      refine lv_iload_n hx hb dX4_afterDay_86 rfl (lv_at hl 1 rfl) ?_
      refine lv_bipush (v := 10) hx hb dX4_afterDay_87 (by decide) ?_
      refine lv_isub hx hb dX4_afterDay_89 ?_
      obtain ⟨r_90, e_90, h⟩ := ob1_inv h
      refine k_pVi (i0 := 1) (rest := []) ⟨hx, hb, hml, hown, hts⟩ (c_X3_ownerOf l dC dI cI cS a_t a_t_kind a_t_owner a_t_from a_t_to a_t_away t_count t_references t_owner (x1 - (10 : Int32)) r_90 e_90) (cwV 1 hts gX4_afterDay_X3_ownerOf rfl rfl rfl khd_X3_ownerOf ⟨Nat.le_of_ble_eq_true rfl, Nat.le_of_ble_eq_true rfl⟩) hK hN hP (va_D_fst hD rfl) hS [1, 3] rfl rfl rfl rfl rfl rfl hl.1 rfl (Nat.le_of_ble_eq_true rfl) dX4_afterDay_90 ⟨Nat.zero_le _, Nat.zero_le _⟩ (fun H locs hf_90 hP hS => ?_)
      refine lv_goto (tgt := 98) hx hb dX4_afterDay_93 (by decide) ?_
      obtain rfl := Option.some.inj h
      exact W.iret hx hb hr (fun t ht _ => kQ.mk ht trivial trivial (hS.F ht)) hS.2.2 dX4_afterDay_98
  have h := hp_neg s_1_1 h
  by_cases s_1_2 : x1 = (2 : Int32)
  · have h := hp_pos s_1_2 h
    refine lv_tableIn (off := 43) (tgt := 44) hx hb dX4_afterDay_1 (by rw [s_1_2]; decide) (by rw [s_1_2]; decide) (by rw [s_1_2]; rfl) (by decide) ?_
    refine lv_aload_n hx hb dX4_afterDay_44 rfl (lv_at hl 0 rfl) ?_
    refine va_get (D := (dC, dI)) (ci := 4) (v := .ref a_t) (C := RX4) (T := TX4) (N := 7) hx hb hts kin_X4_afterDay_X4 hown hK hP 0 rfl rfl 1 (Nat.le_of_ble_eq_true rfl) (hts (.fieldLink RX4 18 "OwnedThings" "trial" "LOwnedThings$Web;") (List.mem_of_getElem? (i := 1) rfl)) (fun _ h9 => h9) rfl dX4_afterDay_45 ?_
    obtain ⟨r_48, e_48, h⟩ := ob1_inv h
    refine k_pVi (i0 := 1) (rest := []) ⟨hx, hb, hml, hown, hts⟩ (c_X3_notLawful l dC dI cI cS a_t a_t_kind a_t_owner a_t_from a_t_to a_t_away t_count t_references t_owner t_from t_to r_48 e_48) (cwV 0 hts gX4_afterDay_X3_notLawful rfl rfl rfl khd_X3_notLawful ⟨Nat.le_of_ble_eq_true rfl, Nat.le_of_ble_eq_true rfl⟩) hK hN hP (va_D_fst hD rfl) hS [1, 3, 4, 5] rfl rfl rfl rfl rfl rfl hl.1 rfl (Nat.le_of_ble_eq_true rfl) dX4_afterDay_48 ⟨Nat.zero_le _, Nat.zero_le _⟩ (fun H locs hf_48 hP hS => ?_)
    obtain rfl := Option.some.inj h
    exact W.iret hx hb hr (fun t ht _ => kQ.mk ht trivial trivial (hS.F ht)) hS.2.2 dX4_afterDay_51
  have h := hp_neg s_1_2 h
  by_cases s_1_3 : x1 = (3 : Int32)
  · have h := hp_pos s_1_3 h
    refine lv_tableIn (off := 51) (tgt := 52) hx hb dX4_afterDay_1 (by rw [s_1_3]; decide) (by rw [s_1_3]; decide) (by rw [s_1_3]; rfl) (by decide) ?_
    refine lv_aload_n hx hb dX4_afterDay_52 rfl (lv_at hl 0 rfl) ?_
    refine va_get (D := (dC, dI)) (ci := 4) (v := .ref a_t) (C := RX4) (T := TX4) (N := 7) hx hb hts kin_X4_afterDay_X4 hown hK hP 0 rfl rfl 1 (Nat.le_of_ble_eq_true rfl) (hts (.fieldLink RX4 18 "OwnedThings" "trial" "LOwnedThings$Web;") (List.mem_of_getElem? (i := 1) rfl)) (fun _ h9 => h9) rfl dX4_afterDay_53 ?_
    obtain ⟨r_56, e_56, h⟩ := ob1_inv h
    refine k_pVi (i0 := 1) (rest := []) ⟨hx, hb, hml, hown, hts⟩ (c_X3_reached l dC dI cI cS a_t a_t_kind a_t_owner a_t_from a_t_to a_t_away t_count t_references t_from t_to r_56 e_56) (cwV 0 hts gX4_afterDay_X3_reached rfl rfl rfl khd_X3_reached ⟨Nat.le_of_ble_eq_true rfl, Nat.le_of_ble_eq_true rfl⟩) hK hN hP (va_D_fst hD rfl) hS [1, 4, 5] rfl rfl rfl rfl rfl rfl hl.1 rfl (Nat.le_of_ble_eq_true rfl) dX4_afterDay_56 ⟨Nat.zero_le _, Nat.zero_le _⟩ (fun H locs hf_56 hP hS => ?_)
    obtain rfl := Option.some.inj h
    exact W.iret hx hb hr (fun t ht _ => kQ.mk ht trivial trivial (hS.F ht)) hS.2.2 dX4_afterDay_59
  have h := hp_neg s_1_3 h
  by_cases s_1_4 : x1 = (4 : Int32)
  · have h := hp_pos s_1_4 h
    refine lv_tableIn (off := 59) (tgt := 60) hx hb dX4_afterDay_1 (by rw [s_1_4]; decide) (by rw [s_1_4]; decide) (by rw [s_1_4]; rfl) (by decide) ?_
    refine lv_aload_n hx hb dX4_afterDay_60 rfl (lv_at hl 0 rfl) ?_
    refine va_get (D := (dC, dI)) (ci := 4) (v := .ref a_t) (C := RX4) (T := TX4) (N := 7) hx hb hts kin_X4_afterDay_X4 hown hK hP 0 rfl rfl 1 (Nat.le_of_ble_eq_true rfl) (hts (.fieldLink RX4 18 "OwnedThings" "trial" "LOwnedThings$Web;") (List.mem_of_getElem? (i := 1) rfl)) (fun _ h9 => h9) rfl dX4_afterDay_61 ?_
    obtain ⟨r_64, e_64, h⟩ := ob1_inv h
    refine k_pVi (i0 := 1) (rest := []) ⟨hx, hb, hml, hown, hts⟩ (c_X3_greatestLock l dC dI cI cS a_t a_t_kind a_t_owner a_t_from a_t_to a_t_away t_count t_references t_kind t_owner r_64 e_64) (cwV 0 hts gX4_afterDay_X3_greatestLock rfl rfl rfl khd_X3_greatestLock ⟨Nat.le_of_ble_eq_true rfl, Nat.le_of_ble_eq_true rfl⟩) hK hN hP (va_D_fst hD rfl) hS [1, 2, 3] rfl rfl rfl rfl rfl rfl hl.1 rfl (Nat.le_of_ble_eq_true rfl) dX4_afterDay_64 ⟨Nat.zero_le _, Nat.zero_le _⟩ (fun H locs hf_64 hP hS => ?_)
    obtain rfl := Option.some.inj h
    exact W.iret hx hb hr (fun t ht _ => kQ.mk ht trivial trivial (hS.F ht)) hS.2.2 dX4_afterDay_67
  have h := hp_neg s_1_4 h
  refine lv_tableOut (tgt := 68) hx hb dX4_afterDay_1 (by have q0 := ti_ne (z := 0) (by decide) s_1_0; have q1 := ti_ne (z := 1) (by decide) s_1_1; have q2 := ti_ne (z := 2) (by decide) s_1_2; have q3 := ti_ne (z := 3) (by decide) s_1_3; have q4 := ti_ne (z := 4) (by decide) s_1_4; omega) (by decide) ?_
  refine lv_aload_n hx hb dX4_afterDay_68 rfl (lv_at hl 0 rfl) ?_
  refine va_get (D := (dC, dI)) (ci := 4) (v := .ref a_t) (C := RX4) (T := TX4) (N := 7) hx hb hts kin_X4_afterDay_X4 hown hK hP 0 rfl rfl 1 (Nat.le_of_ble_eq_true rfl) (hts (.fieldLink RX4 18 "OwnedThings" "trial" "LOwnedThings$Web;") (List.mem_of_getElem? (i := 1) rfl)) (fun _ h9 => h9) rfl dX4_afterDay_69 ?_
  refine lv_iload_n hx hb dX4_afterDay_72 rfl (lv_at hl 1 rfl) ?_
  refine lv_bipush (v := 10) hx hb dX4_afterDay_73 (by decide) ?_
  refine lv_isub hx hb dX4_afterDay_75 ?_
  obtain ⟨r_76, e_76, h⟩ := ob1_inv h
  refine k_pVi (i0 := 1) (rest := []) ⟨hx, hb, hml, hown, hts⟩ (c_X3_isThing l dC dI cI cS a_t a_t_kind a_t_owner a_t_from a_t_to a_t_away t_count t_references (x1 - (10 : Int32)) r_76 e_76) (cwV 1 hts gX4_afterDay_X3_isThing rfl rfl rfl khd_X3_isThing ⟨Nat.le_of_ble_eq_true rfl, Nat.le_of_ble_eq_true rfl⟩) hK hN hP (va_D_fst hD rfl) hS [1] rfl rfl rfl rfl rfl rfl hl.1 rfl (Nat.le_of_ble_eq_true rfl) dX4_afterDay_76 ⟨Nat.zero_le _, Nat.zero_le _⟩ (fun H locs hf_76 hP hS => ?_)
  refine lv_if_eq (tgt := 96) hx hb dX4_afterDay_79 (by decide) (fun c_79 => ?_) (fun c_79 => ?_)
  · have h := hp_pos c_79 h
    refine lv_bipush (v := -9) hx hb dX4_afterDay_96 (by decide) ?_
    obtain rfl := Option.some.inj h
    exact W.iret hx hb hr (fun t ht _ => kQ.mk ht trivial trivial (hS.F ht)) hS.2.2 dX4_afterDay_98
  · have h := hp_neg c_79 h
    refine lv_aload_n hx hb dX4_afterDay_82 rfl (lv_at hl 0 rfl) ?_
    refine va_get (D := (dC, dI)) (ci := 4) (v := .ref a_t) (C := RX4) (T := TX4) (N := 7) hx hb hts kin_X4_afterDay_X4 hown hK hP 0 rfl rfl 1 (Nat.le_of_ble_eq_true rfl) (hts (.fieldLink RX4 18 "OwnedThings" "trial" "LOwnedThings$Web;") (List.mem_of_getElem? (i := 1) rfl)) (fun _ h9 => h9) rfl dX4_afterDay_83 ?_
    refine lv_iload_n hx hb dX4_afterDay_86 rfl (lv_at hl 1 rfl) ?_
    refine lv_bipush (v := 10) hx hb dX4_afterDay_87 (by decide) ?_
    refine lv_isub hx hb dX4_afterDay_89 ?_
    obtain ⟨r_90, e_90, h⟩ := ob1_inv h
    refine k_pVi (i0 := 1) (rest := []) ⟨hx, hb, hml, hown, hts⟩ (c_X3_ownerOf l dC dI cI cS a_t a_t_kind a_t_owner a_t_from a_t_to a_t_away t_count t_references t_owner (x1 - (10 : Int32)) r_90 e_90) (cwV 1 hts gX4_afterDay_X3_ownerOf rfl rfl rfl khd_X3_ownerOf ⟨Nat.le_of_ble_eq_true rfl, Nat.le_of_ble_eq_true rfl⟩) hK hN hP (va_D_fst hD rfl) hS [1, 3] rfl rfl rfl rfl rfl rfl hl.1 rfl (Nat.le_of_ble_eq_true rfl) dX4_afterDay_90 ⟨Nat.zero_le _, Nat.zero_le _⟩ (fun H locs hf_90 hP hS => ?_)
    refine lv_goto (tgt := 98) hx hb dX4_afterDay_93 (by decide) ?_
    obtain rfl := Option.some.inj h
    exact W.iret hx hb hr (fun t ht _ => kQ.mk ht trivial trivial (hS.F ht)) hS.2.2 dX4_afterDay_98
theorem kin_X4_areSortsKnown_X1 : ∀ w ∈ wsX10, w ∈ wsX4_areSortsKnown := fun _ h => List.mem_cons_of_mem _ (List.mem_append_right _ h)
theorem khd_X4_areSortsKnown : yX4_areSortsKnown.cls = RX4 ∧ yX4_areSortsKnown.cls ≠ "java/lang/invoke/MethodHandle" ∧ yX4_areSortsKnown.cls ≠ "java/lang/invoke/VarHandle" ∧ (parseMethodDescriptor yX4_areSortsKnown.desc).map (fun d => d.parameters.length) = some 3 := by decide +kernel
set_option maxHeartbeats 8000000 in
set_option maxRecDepth 100000 in
theorem c_X4_areSortsKnown (l : Launch) (dC : Nat → ClassId) (dI : Nat → Nat → Nat) (cI cS : ClassId) (a_h : Nat) (a_h_cells : Nat) (h_lane : Int32) (h_length : Int32) (h_cells : Nat → Int32) (x1 : Int32) (x2 : Int32) (r : Int32) (h : f_X4_areSortsKnown h_length h_cells x1 x2 = some r) : Mk l yX4_areSortsKnown wsX4_areSortsKnown ({ frames := 1, cells := 0, slots := 0, locals := 22 } : Room) (dC, dI) cI cS [(a_h, .inr (1, [.int h_lane, .int h_length, .ref a_h_cells])), (a_h_cells, .inl (cI, 60, .inl h_cells))] [.ref a_h, .int x1, .int x2] (some (.int r)) (r = 0 ∨ r = 1) (fun _ => True) noA := by
  refine Met.ofW (cc := cX4_areSortsKnown) (maxL := 4) (ret := (some .boolean)) (by decide) rfl ?_
  intro p e s m args below meth c s₁ B hml hv
  obtain ⟨rfl, hP, hK, hN, hD⟩ := hv
  have hx := B.exec
  have hb := B.bytes
  have hr := B.returns
  have hts := atoms_spec (ws := wsX4_areSortsKnown) B.pre
  have hown : s.vm.findClass RX4 = some m.cls := findClass_of_methodNamed B.named
  have hlocks := B.notSynchronized
  have hS : va_S noA s.heap s.heap [] := va_S.rf
  have hP : va_P (dC, dI) vwCl [(a_h, .inr (1, [.int h_lane, .int h_length, .ref a_h_cells])), (a_h_cells, .inl (cI, 60, .inl h_cells))] s.heap := hP
  have hl := lv_entry ([.ref a_h, .int x1, .int x2]) (n := 4) (Nat.le_of_ble_eq_true rfl)
  rw [lg_entry_eq]
  generalize (lg_sl ([.ref a_h, .int x1, .int x2]) ++ List.replicate (4 - (lg_sl ([.ref a_h, .int x1, .int x2])).length) Slot.unset).toArray = ls at hl ⊢
  have hl : lv_has ls 4 [(0, .ref a_h), (1, .int x1), (2, .int x2)] := hl
  unfold f_X4_areSortsKnown at h
  refine lv_iconst (v := 0) hx hb dX4_areSortsKnown_0 (by decide) ?_
  refine lv_istore_n (lv' := [(3, .int (0 : Int32)), (0, .ref a_h), (1, .int x1), (2, .int x2)]) hx hb dX4_areSortsKnown_1 rfl hl (by decide) rfl (fun ls hl => ?_)
  obtain ⟨o_2, K_2, i_2, hk_2, h⟩ := os0_inv h
  have after_2 : ∀ (_ : K_2) (H : Heap) (locs : List Loc) (ls : Array Slot), va_P (dC, dI) vwCl [(a_h, .inr (1, [.int h_lane, .int h_length, .ref a_h_cells])), (a_h_cells, .inl (cI, 60, .inl h_cells))] H → va_S noA s.heap H locs → lv_has ls 4 [] → W p l e (headSpec wsX4_areSortsKnown ({ frames := 1, cells := 0, slots := 0, locals := 22 } : Room)).room s m ([.ref a_h, .int x1, .int x2] : List Value).toArray below meth c H locs 0 0 (MQ below (kQ (some (.int r)) (r = 0 ∨ r = 1) (fun _ => True) noA) ([.ref a_h, .int x1, .int x2] : List Value).toArray s 0 0 noA) (F0 m 32 ls []) := by
    intro  ha H locs ls hP hS hl
    have h := hk_2  ha
    refine lv_iconst (v := 1) hx hb dX4_areSortsKnown_32 (by decide) ?_
    obtain rfl := Option.some.inj h
    exact W.zret hx hb hr (nb01 (Or.inr rfl)) (fun t ht _ => kQ.mk ht trivial (Or.inr rfl) (hS.F ht)) hS.2.2 dX4_areSortsKnown_33
  have lp_2 : ∀ (n : Nat) (x3_2 : Int32) (H : Heap) (locs : List Loc) (ls : Array Slot), it (u1 (L_X4_areSortsKnown_2 h_length h_cells x1 x2)) n x3_2 = some o_2 → va_P (dC, dI) vwCl [(a_h, .inr (1, [.int h_lane, .int h_length, .ref a_h_cells])), (a_h_cells, .inl (cI, 60, .inl h_cells))] H → va_S noA s.heap H locs → lv_has ls 4 [(0, .ref a_h), (1, .int x1), (2, .int x2), (3, .int x3_2)] → W p l e (headSpec wsX4_areSortsKnown ({ frames := 1, cells := 0, slots := 0, locals := 22 } : Room)).room s m ([.ref a_h, .int x1, .int x2] : List Value).toArray below meth c H locs 0 0 (MQ below (kQ (some (.int r)) (r = 0 ∨ r = 1) (fun _ => True) noA) ([.ref a_h, .int x1, .int x2] : List Value).toArray s 0 0 noA) (F0 m 2 ls []) := by
    intro n
    induction n with
    | zero => intro x3_2 H locs ls h1; exact (it_0 h1).elim
    | succ n ih_2 =>
      intro x3_2 H locs ls h1 hP hS hl
      obtain ⟨t_2, h1, k1⟩ := it1_inv h1
      unfold L_X4_areSortsKnown_2 at h1
      refine lv_iload_n hx hb dX4_areSortsKnown_2 rfl (lv_at hl 3 rfl) ?_
      refine lv_iload_n hx hb dX4_areSortsKnown_3 rfl (lv_at hl 2 rfl) ?_
      refine lv_icmp_ge (tgt := 32) hx hb dX4_areSortsKnown_4 (by decide) (fun c_4 => ?_) (fun c_4 => ?_)
      · have h1 := hp_pos c_4 h1
        cases h1
        obtain rfl := pj1 k1
        exact after_2  h _ _ _ hP hS (lv_sub hl [] rfl)
      · have h1 := hp_neg c_4 h1
        refine lv_aload_n hx hb dX4_areSortsKnown_7 rfl (lv_at hl 0 rfl) ?_
        refine lv_iload_n hx hb dX4_areSortsKnown_8 rfl (lv_at hl 1 rfl) ?_
        refine lv_iconst (v := 3) hx hb dX4_areSortsKnown_9 (by decide) ?_
        refine lv_iload_n hx hb dX4_areSortsKnown_10 rfl (lv_at hl 3 rfl) ?_
        refine lv_imul hx hb dX4_areSortsKnown_11 ?_
        refine lv_iadd hx hb dX4_areSortsKnown_12 ?_
        obtain ⟨r_13, e_13, h1⟩ := ob1_inv h1
        refine k_pVi (i0 := 0) (rest := []) ⟨hx, hb, hml, hown, hts⟩ (c_X1_valueAt l dC dI cI cS a_h a_h_cells h_lane h_length h_cells (x1 + ((3 : Int32) * x3_2)) r_13 e_13) (cwV 1 hts gX4_areSortsKnown_X1_valueAt rfl rfl rfl khd_X1_valueAt ⟨Nat.le_of_ble_eq_true rfl, Nat.le_of_ble_eq_true rfl⟩) hK hN hP (va_D_fst hD rfl) hS [0, 1] rfl rfl rfl rfl rfl rfl hl.1 rfl (Nat.le_of_ble_eq_true rfl) dX4_areSortsKnown_13 ⟨Nat.zero_le _, Nat.zero_le _⟩ (fun H locs hf_13 hP hS => ?_)
        refine lv_iconst (v := 0) hx hb dX4_areSortsKnown_16 (by decide) ?_
        refine lv_iconst (v := 2) hx hb dX4_areSortsKnown_17 (by decide) ?_
        obtain ⟨r_18, e_18, h1⟩ := ob1_inv h1
        refine k_pSi (rest := []) ⟨hx, hb, hml, hown, hts⟩ (c_X4_isBetween l dC dI cI cS r_13 (0 : Int32) (2 : Int32) r_18 e_18) (cwS 3 hts gX4_areSortsKnown_X4_isBetween rfl rfl rfl khd_X4_isBetween ⟨Nat.le_of_ble_eq_true rfl, Nat.le_of_ble_eq_true rfl⟩) hK hN hP (va_D_fst hD rfl) hS [] rfl rfl rfl hl.1 rfl (Nat.le_of_ble_eq_true rfl) dX4_areSortsKnown_18 ⟨Nat.zero_le _, Nat.zero_le _⟩ (fun H locs hf_18 hP hS => ?_)
        refine lv_if_ne (tgt := 26) hx hb dX4_areSortsKnown_21 (by decide) (fun c_21 => ?_) (fun c_21 => ?_)
        · have h1 := hp_neg c_21 h1
          refine lv_iinc (v := (x3_2 + (1 : Int32))) (lv' := [(3, .int (x3_2 + (1 : Int32))), (0, .ref a_h), (1, .int x1), (2, .int x2)]) hx hb dX4_areSortsKnown_26 hl (k := 3) rfl rfl (by decide) rfl (fun ls hl => ?_)
          refine lv_goto (tgt := 2) hx hb dX4_areSortsKnown_29 (by decide) ?_
          cases h1
          exact ih_2 _ _ _ _ k1 hP hS (lv_sub hl [1, 2, 3, 0] rfl)
        · have h1 := hp_pos c_21 h1
          refine lv_iconst (v := 0) hx hb dX4_areSortsKnown_24 (by decide) ?_
          cases h1
          obtain rfl := pj1 k1
          have h := congrArg some h
          obtain rfl := Option.some.inj h
          exact W.zret hx hb hr (nb01 (Or.inl rfl)) (fun t ht _ => kQ.mk ht trivial (Or.inl rfl) (hS.F ht)) hS.2.2 dX4_areSortsKnown_25
  exact lp_2 FUEL _ _ _ _ i_2 hP hS (lv_sub hl [1, 2, 3, 0] rfl)
theorem kin_X4_isActDone_X4 : ∀ w ∈ wsX40, w ∈ wsX4_isActDone := fun _ h => List.mem_cons_of_mem _ (List.mem_append_left _ (List.mem_append_right _ h))
theorem kin_X4_isActDone_X3 : ∀ w ∈ wsX30, w ∈ wsX4_isActDone := fun _ h => List.mem_cons_of_mem _ (List.mem_append_right _ h)
theorem khd_X4_isActDone : yX4_isActDone.cls = RX4 ∧ yX4_isActDone.cls ≠ "java/lang/invoke/MethodHandle" ∧ yX4_isActDone.cls ≠ "java/lang/invoke/VarHandle" ∧ (parseMethodDescriptor yX4_isActDone.desc).map (fun d => d.parameters.length) = some 3 := by decide +kernel
set_option maxHeartbeats 8000000 in
set_option maxRecDepth 100000 in
theorem c_X4_isActDone (l : Launch) (dC : Nat → ClassId) (dI : Nat → Nat → Nat) (cI cS : ClassId) (a_o : Nat) (a_n : Nat) (a_t : Nat) (a_d : Nat) (a_o_sheets : Nat) (a_rd : Nat) (a_t_kind : Nat) (a_t_owner : Nat) (a_t_from : Nat) (a_t_to : Nat) (a_t_away : Nat) (o_traced : Int32) (o_lastFault : Int32) (t_count : Int32) (t_references : Int32) (t_owner : Nat → Int32) (t_from : Nat → Int32) (t_to : Nat → Int32) (x1 : Int32) (x2 : Int32) (x3 : Int32) (r : Int32) (z_t_references : Int32) (z_t_owner : Nat → Int32) (z_t_from : Nat → Int32) (z_t_to : Nat → Int32) (h : f_X4_isActDone t_count t_references t_owner t_from t_to x1 x2 x3 = some (r, z_t_references, z_t_owner, z_t_from, z_t_to)) : Mk l yX4_isActDone wsX4_isActDone ({ frames := 3, cells := 0, slots := 0, locals := 69 } : Room) (dC, dI) cI cS [(a_o, .inr (4, [.ref a_n, .ref a_t, .ref a_d, .ref a_o_sheets, .ref a_rd, .int o_traced, .int o_lastFault])), (a_t, .inr (3, [.int t_count, .int t_references, .ref a_t_kind, .ref a_t_owner, .ref a_t_from, .ref a_t_to, .ref a_t_away])), (a_t_owner, .inl (cI, 6, .inl t_owner)), (a_t_from, .inl (cI, 12, .inl t_from)), (a_t_to, .inl (cI, 12, .inl t_to))] [.ref a_o, .int x1, .int x2, .int x3] (some (.int r)) (r = 0 ∨ r = 1) (fun H => va_P (dC, dI) vwCl [(a_o, .inr (4, [.ref a_n, .ref a_t, .ref a_d, .ref a_o_sheets, .ref a_rd, .int o_traced, .int o_lastFault])), (a_t, .inr (3, [.int t_count, .int z_t_references, .ref a_t_kind, .ref a_t_owner, .ref a_t_from, .ref a_t_to, .ref a_t_away])), (a_t_owner, .inl (cI, 6, .inl z_t_owner)), (a_t_from, .inl (cI, 12, .inl z_t_from)), (a_t_to, .inl (cI, 12, .inl z_t_to))] H) (inA (List.map Prod.fst ([(a_o, .inr (4, [.ref a_n, .ref a_t, .ref a_d, .ref a_o_sheets, .ref a_rd, .int o_traced, .int o_lastFault])), (a_t, .inr (3, [.int t_count, .int t_references, .ref a_t_kind, .ref a_t_owner, .ref a_t_from, .ref a_t_to, .ref a_t_away])), (a_t_owner, .inl (cI, 6, .inl t_owner)), (a_t_from, .inl (cI, 12, .inl t_from)), (a_t_to, .inl (cI, 12, .inl t_to))] : va_W))) := by
  refine Met.ofW (cc := cX4_isActDone) (maxL := 4) (ret := (some .boolean)) (by decide) rfl ?_
  intro p e s m args below meth c s₁ B hml hv
  obtain ⟨rfl, hP, hK, hN, hD⟩ := hv
  have hx := B.exec
  have hb := B.bytes
  have hr := B.returns
  have hts := atoms_spec (ws := wsX4_isActDone) B.pre
  have hown : s.vm.findClass RX4 = some m.cls := findClass_of_methodNamed B.named
  have hlocks := B.notSynchronized
  have hS : va_S (inA [a_o, a_t, a_t_owner, a_t_from, a_t_to]) s.heap s.heap [] := va_S.rf
  have hP : va_P (dC, dI) vwCl [(a_o, .inr (4, [.ref a_n, .ref a_t, .ref a_d, .ref a_o_sheets, .ref a_rd, .int o_traced, .int o_lastFault])), (a_t, .inr (3, [.int t_count, .int t_references, .ref a_t_kind, .ref a_t_owner, .ref a_t_from, .ref a_t_to, .ref a_t_away])), (a_t_owner, .inl (cI, 6, .inl t_owner)), (a_t_from, .inl (cI, 12, .inl t_from)), (a_t_to, .inl (cI, 12, .inl t_to))] s.heap := hP
  have hD : va_D (inA [a_o, a_t, a_t_owner, a_t_from, a_t_to]) [(a_o, .inr (4, [.ref a_n, .ref a_t, .ref a_d, .ref a_o_sheets, .ref a_rd, .int o_traced, .int o_lastFault])), (a_t, .inr (3, [.int t_count, .int t_references, .ref a_t_kind, .ref a_t_owner, .ref a_t_from, .ref a_t_to, .ref a_t_away])), (a_t_owner, .inl (cI, 6, .inl t_owner)), (a_t_from, .inl (cI, 12, .inl t_from)), (a_t_to, .inl (cI, 12, .inl t_to))] := va_D_in hD rfl
  have hl := lv_entry ([.ref a_o, .int x1, .int x2, .int x3]) (n := 4) (Nat.le_of_ble_eq_true rfl)
  rw [lg_entry_eq]
  generalize (lg_sl ([.ref a_o, .int x1, .int x2, .int x3]) ++ List.replicate (4 - (lg_sl ([.ref a_o, .int x1, .int x2, .int x3])).length) Slot.unset).toArray = ls at hl ⊢
  have hl : lv_has ls 4 [(0, .ref a_o), (1, .int x1), (2, .int x2), (3, .int x3)] := hl
  unfold f_X4_isActDone at h
  refine lv_iload_n hx hb dX4_isActDone_0 rfl (lv_at hl 1 rfl) ?_
  by_cases s_1_0 : x1 = (0 : Int32)
  · have h := hp_pos s_1_0 h
    refine lv_tableIn (off := 27) (tgt := 28) hx hb dX4_isActDone_1 (by rw [s_1_0]; decide) (by rw [s_1_0]; decide) (by rw [s_1_0]; rfl) (by decide) ?_
    refine lv_aload_n hx hb dX4_isActDone_28 rfl (lv_at hl 0 rfl) ?_
    refine va_get (D := (dC, dI)) (ci := 4) (v := .ref a_t) (C := RX4) (T := TX4) (N := 7) hx hb hts kin_X4_isActDone_X4 hown hK hP 0 rfl rfl 1 (Nat.le_of_ble_eq_true rfl) (hts (.fieldLink RX4 18 "OwnedThings" "trial" "LOwnedThings$Web;") (List.mem_of_getElem? (i := 1) rfl)) (fun _ h9 => h9) rfl dX4_isActDone_29 ?_
    refine lv_iload_n hx hb dX4_isActDone_32 rfl (lv_at hl 2 rfl) ?_
    refine lv_iload_n hx hb dX4_isActDone_33 rfl (lv_at hl 3 rfl) ?_
    obtain ⟨r_34, r_34_references, r_34_from, r_34_to, e_34, h⟩ := ob4_inv h
    refine k_wVi (i0 := 1) (rest := []) (ws' := [(a_o, .inr (4, [.ref a_n, .ref a_t, .ref a_d, .ref a_o_sheets, .ref a_rd, .int o_traced, .int o_lastFault])), (a_t, .inr (3, [.int t_count, .int r_34_references, .ref a_t_kind, .ref a_t_owner, .ref a_t_from, .ref a_t_to, .ref a_t_away])), (a_t_owner, .inl (cI, 6, .inl t_owner)), (a_t_from, .inl (cI, 12, .inl r_34_from)), (a_t_to, .inl (cI, 12, .inl r_34_to))]) ⟨hx, hb, hml, hown, hts⟩ (c_X3_makeOrCut l dC dI cI cS a_t a_t_kind a_t_owner a_t_from a_t_to a_t_away t_count t_references t_from t_to x2 x3 r_34 r_34_references r_34_from r_34_to e_34) (cwV 2 hts gX4_isActDone_X3_makeOrCut rfl rfl rfl khd_X3_makeOrCut ⟨Nat.le_of_ble_eq_true rfl, Nat.le_of_ble_eq_true rfl⟩) hK hN hP (va_D_fst hD rfl) hS [1, 3, 4] rfl rfl rfl rfl rfl rfl hl.1 rfl (Nat.le_of_ble_eq_true rfl) dX4_isActDone_34 ⟨Nat.zero_le _, Nat.zero_le _⟩ rfl rfl (fun H locs hf_34 hP hS => ?_)
    refine lv_if_lt (tgt := 44) hx hb dX4_isActDone_37 (by decide) (fun c_37 => ?_) (fun c_37 => ?_)
    · have h := hp_pos c_37 h
      refine lv_iconst (v := 0) hx hb dX4_isActDone_44 (by decide) ?_
      obtain ⟨rfl, rfl, rfl, rfl, rfl⟩ := pj5 (Option.some.inj h)
      exact W.zret hx hb hr (nb01 (Or.inl rfl)) (fun t ht _ => kQ.mk ht hP (Or.inl rfl) (hS.F ht)) hS.2.2 dX4_isActDone_45
    · have h := hp_neg c_37 h
      refine lv_iconst (v := 1) hx hb dX4_isActDone_40 (by decide) ?_
      refine lv_goto (tgt := 45) hx hb dX4_isActDone_41 (by decide) ?_
      obtain ⟨rfl, rfl, rfl, rfl, rfl⟩ := pj5 (Option.some.inj h)
      exact W.zret hx hb hr (nb01 (Or.inr rfl)) (fun t ht _ => kQ.mk ht hP (Or.inr rfl) (hS.F ht)) hS.2.2 dX4_isActDone_45
  have h := hp_neg s_1_0 h
  by_cases s_1_1 : x1 = (1 : Int32)
  · have h := hp_pos s_1_1 h
    refine lv_tableIn (off := 45) (tgt := 46) hx hb dX4_isActDone_1 (by rw [s_1_1]; decide) (by rw [s_1_1]; decide) (by rw [s_1_1]; rfl) (by decide) ?_
    refine lv_aload_n hx hb dX4_isActDone_46 rfl (lv_at hl 0 rfl) ?_
    refine va_get (D := (dC, dI)) (ci := 4) (v := .ref a_t) (C := RX4) (T := TX4) (N := 7) hx hb hts kin_X4_isActDone_X4 hown hK hP 0 rfl rfl 1 (Nat.le_of_ble_eq_true rfl) (hts (.fieldLink RX4 18 "OwnedThings" "trial" "LOwnedThings$Web;") (List.mem_of_getElem? (i := 1) rfl)) (fun _ h9 => h9) rfl dX4_isActDone_47 ?_
    refine lv_iload_n hx hb dX4_isActDone_50 rfl (lv_at hl 2 rfl) ?_
    refine lv_iload_n hx hb dX4_isActDone_51 rfl (lv_at hl 3 rfl) ?_
    obtain ⟨r_52, r_52_owner, e_52, h⟩ := ob2_inv h
    refine k_wVi (i0 := 1) (rest := []) (ws' := [(a_o, .inr (4, [.ref a_n, .ref a_t, .ref a_d, .ref a_o_sheets, .ref a_rd, .int o_traced, .int o_lastFault])), (a_t, .inr (3, [.int t_count, .int t_references, .ref a_t_kind, .ref a_t_owner, .ref a_t_from, .ref a_t_to, .ref a_t_away])), (a_t_owner, .inl (cI, 6, .inl r_52_owner)), (a_t_from, .inl (cI, 12, .inl t_from)), (a_t_to, .inl (cI, 12, .inl t_to))]) ⟨hx, hb, hml, hown, hts⟩ (c_X3_changeOwner l dC dI cI cS a_t a_t_kind a_t_owner a_t_from a_t_to a_t_away t_count t_references t_owner x2 x3 r_52 r_52_owner e_52) (cwV 2 hts gX4_isActDone_X3_changeOwner rfl rfl rfl khd_X3_changeOwner ⟨Nat.le_of_ble_eq_true rfl, Nat.le_of_ble_eq_true rfl⟩) hK hN hP (va_D_fst hD rfl) hS [1, 2] rfl rfl rfl rfl rfl rfl hl.1 rfl (Nat.le_of_ble_eq_true rfl) dX4_isActDone_52 ⟨Nat.zero_le _, Nat.zero_le _⟩ rfl rfl (fun H locs hf_52 hP hS => ?_)
    refine lv_if_lt (tgt := 62) hx hb dX4_isActDone_55 (by decide) (fun c_55 => ?_) (fun c_55 => ?_)
    · have h := hp_pos c_55 h
      refine lv_iconst (v := 0) hx hb dX4_isActDone_62 (by decide) ?_
      obtain ⟨rfl, rfl, rfl, rfl, rfl⟩ := pj5 (Option.some.inj h)
      exact W.zret hx hb hr (nb01 (Or.inl rfl)) (fun t ht _ => kQ.mk ht hP (Or.inl rfl) (hS.F ht)) hS.2.2 dX4_isActDone_63
    · have h := hp_neg c_55 h
      refine lv_iconst (v := 1) hx hb dX4_isActDone_58 (by decide) ?_
      refine lv_goto (tgt := 63) hx hb dX4_isActDone_59 (by decide) ?_
      obtain ⟨rfl, rfl, rfl, rfl, rfl⟩ := pj5 (Option.some.inj h)
      exact W.zret hx hb hr (nb01 (Or.inr rfl)) (fun t ht _ => kQ.mk ht hP (Or.inr rfl) (hS.F ht)) hS.2.2 dX4_isActDone_63
  have h := hp_neg s_1_1 h
  by_cases s_1_2 : x1 = (2 : Int32)
  · have h := hp_pos s_1_2 h
    refine lv_tableIn (off := 63) (tgt := 64) hx hb dX4_isActDone_1 (by rw [s_1_2]; decide) (by rw [s_1_2]; decide) (by rw [s_1_2]; rfl) (by decide) ?_
    refine lv_aload_n hx hb dX4_isActDone_64 rfl (lv_at hl 0 rfl) ?_
    refine va_get (D := (dC, dI)) (ci := 4) (v := .ref a_t) (C := RX4) (T := TX4) (N := 7) hx hb hts kin_X4_isActDone_X4 hown hK hP 0 rfl rfl 1 (Nat.le_of_ble_eq_true rfl) (hts (.fieldLink RX4 18 "OwnedThings" "trial" "LOwnedThings$Web;") (List.mem_of_getElem? (i := 1) rfl)) (fun _ h9 => h9) rfl dX4_isActDone_65 ?_
    refine lv_iload_n hx hb dX4_isActDone_68 rfl (lv_at hl 2 rfl) ?_
    refine lv_iload_n hx hb dX4_isActDone_69 rfl (lv_at hl 3 rfl) ?_
    obtain ⟨r_70, r_70_owner, r_70_from, e_70, h⟩ := ob3_inv h
    refine k_wVi (i0 := 1) (rest := []) (ws' := [(a_o, .inr (4, [.ref a_n, .ref a_t, .ref a_d, .ref a_o_sheets, .ref a_rd, .int o_traced, .int o_lastFault])), (a_t, .inr (3, [.int t_count, .int t_references, .ref a_t_kind, .ref a_t_owner, .ref a_t_from, .ref a_t_to, .ref a_t_away])), (a_t_owner, .inl (cI, 6, .inl r_70_owner)), (a_t_from, .inl (cI, 12, .inl r_70_from)), (a_t_to, .inl (cI, 12, .inl t_to))]) ⟨hx, hb, hml, hown, hts⟩ (c_X3_handOn l dC dI cI cS a_t a_t_kind a_t_owner a_t_from a_t_to a_t_away t_count t_references t_owner t_from t_to x2 x3 r_70 r_70_owner r_70_from e_70) (cwV 2 hts gX4_isActDone_X3_handOn rfl rfl rfl khd_X3_handOn ⟨Nat.le_of_ble_eq_true rfl, Nat.le_of_ble_eq_true rfl⟩) hK hN hP (va_D_fst hD rfl) hS [1, 2, 3, 4] rfl rfl rfl rfl rfl rfl hl.1 rfl (Nat.le_of_ble_eq_true rfl) dX4_isActDone_70 ⟨Nat.zero_le _, Nat.zero_le _⟩ rfl rfl (fun H locs hf_70 hP hS => ?_)
    refine lv_if_lt (tgt := 80) hx hb dX4_isActDone_73 (by decide) (fun c_73 => ?_) (fun c_73 => ?_)
    · have h := hp_pos c_73 h
      refine lv_iconst (v := 0) hx hb dX4_isActDone_80 (by decide) ?_
      obtain ⟨rfl, rfl, rfl, rfl, rfl⟩ := pj5 (Option.some.inj h)
      exact W.zret hx hb hr (nb01 (Or.inl rfl)) (fun t ht _ => kQ.mk ht hP (Or.inl rfl) (hS.F ht)) hS.2.2 dX4_isActDone_81
    · have h := hp_neg c_73 h
      refine lv_iconst (v := 1) hx hb dX4_isActDone_76 (by decide) ?_
      refine lv_goto (tgt := 81) hx hb dX4_isActDone_77 (by decide) ?_
      obtain ⟨rfl, rfl, rfl, rfl, rfl⟩ := pj5 (Option.some.inj h)
      exact W.zret hx hb hr (nb01 (Or.inr rfl)) (fun t ht _ => kQ.mk ht hP (Or.inr rfl) (hS.F ht)) hS.2.2 dX4_isActDone_81
  have h := hp_neg s_1_2 h
  refine lv_tableOut (tgt := 82) hx hb dX4_isActDone_1 (by have q0 := ti_ne (z := 0) (by decide) s_1_0; have q1 := ti_ne (z := 1) (by decide) s_1_1; have q2 := ti_ne (z := 2) (by decide) s_1_2; omega) (by decide) ?_
  refine lv_iconst (v := 0) hx hb dX4_isActDone_82 (by decide) ?_
  obtain ⟨rfl, rfl, rfl, rfl, rfl⟩ := pj5 (Option.some.inj h)
  exact W.zret hx hb hr (nb01 (Or.inl rfl)) (fun t ht _ => kQ.mk ht hP (Or.inl rfl) (hS.F ht)) hS.2.2 dX4_isActDone_83
theorem kin_X4_firstWrong_X1 : ∀ w ∈ wsX10, w ∈ wsX4_firstWrong := fun _ h => List.mem_cons_of_mem _ (List.mem_append_left _ (List.mem_append_left _ (List.mem_append_right _ h)))
theorem kin_X4_firstWrong_X4 : ∀ w ∈ wsX40, w ∈ wsX4_firstWrong := fun _ h => List.mem_cons_of_mem _ (List.mem_append_left _ (List.mem_append_right _ h))
theorem kin_X4_firstWrong_X3 : ∀ w ∈ wsX30, w ∈ wsX4_firstWrong := fun _ h => List.mem_cons_of_mem _ (List.mem_append_right _ h)
theorem khd_X4_firstWrong : yX4_firstWrong.cls = RX4 ∧ yX4_firstWrong.cls ≠ "java/lang/invoke/MethodHandle" ∧ yX4_firstWrong.cls ≠ "java/lang/invoke/VarHandle" ∧ (parseMethodDescriptor yX4_firstWrong.desc).map (fun d => d.parameters.length) = some 3 := by decide +kernel
set_option maxHeartbeats 8000000 in
set_option maxRecDepth 100000 in
theorem c_X4_firstWrong (l : Launch) (dC : Nat → ClassId) (dI : Nat → Nat → Nat) (cI cS : ClassId) (a_o : Nat) (a_n : Nat) (a_t : Nat) (a_d : Nat) (a_o_sheets : Nat) (a_rd : Nat) (a_h : Nat) (a_h_cells : Nat) (a_t_kind : Nat) (a_t_owner : Nat) (a_t_from : Nat) (a_t_to : Nat) (a_t_away : Nat) (o_traced : Int32) (o_lastFault : Int32) (h_lane : Int32) (h_length : Int32) (h_cells : Nat → Int32) (t_count : Int32) (t_references : Int32) (t_owner : Nat → Int32) (t_from : Nat → Int32) (t_to : Nat → Int32) (x2 : Int32) (x3 : Int32) (r : Int32) (z_t_references : Int32) (z_t_owner : Nat → Int32) (z_t_from : Nat → Int32) (z_t_to : Nat → Int32) (h : f_X4_firstWrong h_length h_cells t_count t_references t_owner t_from t_to x2 x3 = some (r, z_t_references, z_t_owner, z_t_from, z_t_to)) : Mk l yX4_firstWrong wsX4_firstWrong ({ frames := 4, cells := 0, slots := 0, locals := 92 } : Room) (dC, dI) cI cS [(a_o, .inr (4, [.ref a_n, .ref a_t, .ref a_d, .ref a_o_sheets, .ref a_rd, .int o_traced, .int o_lastFault])), (a_h, .inr (1, [.int h_lane, .int h_length, .ref a_h_cells])), (a_h_cells, .inl (cI, 60, .inl h_cells)), (a_t, .inr (3, [.int t_count, .int t_references, .ref a_t_kind, .ref a_t_owner, .ref a_t_from, .ref a_t_to, .ref a_t_away])), (a_t_owner, .inl (cI, 6, .inl t_owner)), (a_t_from, .inl (cI, 12, .inl t_from)), (a_t_to, .inl (cI, 12, .inl t_to))] [.ref a_o, .ref a_h, .int x2, .int x3] (some (.int r)) True (fun H => va_P (dC, dI) vwCl [(a_o, .inr (4, [.ref a_n, .ref a_t, .ref a_d, .ref a_o_sheets, .ref a_rd, .int o_traced, .int o_lastFault])), (a_h, .inr (1, [.int h_lane, .int h_length, .ref a_h_cells])), (a_h_cells, .inl (cI, 60, .inl h_cells)), (a_t, .inr (3, [.int t_count, .int z_t_references, .ref a_t_kind, .ref a_t_owner, .ref a_t_from, .ref a_t_to, .ref a_t_away])), (a_t_owner, .inl (cI, 6, .inl z_t_owner)), (a_t_from, .inl (cI, 12, .inl z_t_from)), (a_t_to, .inl (cI, 12, .inl z_t_to))] H) (inA (List.map Prod.fst ([(a_o, .inr (4, [.ref a_n, .ref a_t, .ref a_d, .ref a_o_sheets, .ref a_rd, .int o_traced, .int o_lastFault])), (a_h, .inr (1, [.int h_lane, .int h_length, .ref a_h_cells])), (a_h_cells, .inl (cI, 60, .inl h_cells)), (a_t, .inr (3, [.int t_count, .int t_references, .ref a_t_kind, .ref a_t_owner, .ref a_t_from, .ref a_t_to, .ref a_t_away])), (a_t_owner, .inl (cI, 6, .inl t_owner)), (a_t_from, .inl (cI, 12, .inl t_from)), (a_t_to, .inl (cI, 12, .inl t_to))] : va_W))) := by
  refine Met.ofW (cc := cX4_firstWrong) (maxL := 6) (ret := (some .int)) (by decide) rfl ?_
  intro p e s m args below meth c s₁ B hml hv
  obtain ⟨rfl, hP, hK, hN, hD⟩ := hv
  have hx := B.exec
  have hb := B.bytes
  have hr := B.returns
  have hts := atoms_spec (ws := wsX4_firstWrong) B.pre
  have hown : s.vm.findClass RX4 = some m.cls := findClass_of_methodNamed B.named
  have hlocks := B.notSynchronized
  have hS : va_S (inA [a_o, a_h, a_h_cells, a_t, a_t_owner, a_t_from, a_t_to]) s.heap s.heap [] := va_S.rf
  have hP : va_P (dC, dI) vwCl [(a_o, .inr (4, [.ref a_n, .ref a_t, .ref a_d, .ref a_o_sheets, .ref a_rd, .int o_traced, .int o_lastFault])), (a_h, .inr (1, [.int h_lane, .int h_length, .ref a_h_cells])), (a_h_cells, .inl (cI, 60, .inl h_cells)), (a_t, .inr (3, [.int t_count, .int t_references, .ref a_t_kind, .ref a_t_owner, .ref a_t_from, .ref a_t_to, .ref a_t_away])), (a_t_owner, .inl (cI, 6, .inl t_owner)), (a_t_from, .inl (cI, 12, .inl t_from)), (a_t_to, .inl (cI, 12, .inl t_to))] s.heap := hP
  have hD : va_D (inA [a_o, a_h, a_h_cells, a_t, a_t_owner, a_t_from, a_t_to]) [(a_o, .inr (4, [.ref a_n, .ref a_t, .ref a_d, .ref a_o_sheets, .ref a_rd, .int o_traced, .int o_lastFault])), (a_h, .inr (1, [.int h_lane, .int h_length, .ref a_h_cells])), (a_h_cells, .inl (cI, 60, .inl h_cells)), (a_t, .inr (3, [.int t_count, .int t_references, .ref a_t_kind, .ref a_t_owner, .ref a_t_from, .ref a_t_to, .ref a_t_away])), (a_t_owner, .inl (cI, 6, .inl t_owner)), (a_t_from, .inl (cI, 12, .inl t_from)), (a_t_to, .inl (cI, 12, .inl t_to))] := va_D_in hD rfl
  have hl := lv_entry ([.ref a_o, .ref a_h, .int x2, .int x3]) (n := 6) (Nat.le_of_ble_eq_true rfl)
  rw [lg_entry_eq]
  generalize (lg_sl ([.ref a_o, .ref a_h, .int x2, .int x3]) ++ List.replicate (6 - (lg_sl ([.ref a_o, .ref a_h, .int x2, .int x3])).length) Slot.unset).toArray = ls at hl ⊢
  have hl : lv_has ls 6 [(0, .ref a_o), (1, .ref a_h), (2, .int x2), (3, .int x3)] := hl
  unfold f_X4_firstWrong at h
  refine lv_iconst (v := 0) hx hb dX4_firstWrong_0 (by decide) ?_
  refine lv_istore (lv' := [(4, .int (0 : Int32)), (0, .ref a_o), (1, .ref a_h), (2, .int x2), (3, .int x3)]) hx hb dX4_firstWrong_1 hl (by decide) rfl (fun ls hl => ?_)
  obtain ⟨o_3, K_3, i_3, hk_3, h⟩ := os4_inv h
  have after_3 : ∀ (t_references_3e : Int32) (t_owner_3e : Nat → Int32) (t_from_3e : Nat → Int32) (t_to_3e : Nat → Int32) (_ : K_3 t_references_3e t_owner_3e t_from_3e t_to_3e) (H : Heap) (locs : List Loc) (ls : Array Slot), va_P (dC, dI) vwCl [(a_o, .inr (4, [.ref a_n, .ref a_t, .ref a_d, .ref a_o_sheets, .ref a_rd, .int o_traced, .int o_lastFault])), (a_h, .inr (1, [.int h_lane, .int h_length, .ref a_h_cells])), (a_h_cells, .inl (cI, 60, .inl h_cells)), (a_t, .inr (3, [.int t_count, .int t_references_3e, .ref a_t_kind, .ref a_t_owner, .ref a_t_from, .ref a_t_to, .ref a_t_away])), (a_t_owner, .inl (cI, 6, .inl t_owner_3e)), (a_t_from, .inl (cI, 12, .inl t_from_3e)), (a_t_to, .inl (cI, 12, .inl t_to_3e))] H → va_S (inA [a_o, a_h, a_h_cells, a_t, a_t_owner, a_t_from, a_t_to]) s.heap H locs → lv_has ls 6 [] → W p l e (headSpec wsX4_firstWrong ({ frames := 4, cells := 0, slots := 0, locals := 92 } : Room)).room s m ([.ref a_o, .ref a_h, .int x2, .int x3] : List Value).toArray below meth c H locs 0 0 (MQ below (kQ (some (.int r)) True (fun H => va_P (dC, dI) vwCl [(a_o, .inr (4, [.ref a_n, .ref a_t, .ref a_d, .ref a_o_sheets, .ref a_rd, .int o_traced, .int o_lastFault])), (a_h, .inr (1, [.int h_lane, .int h_length, .ref a_h_cells])), (a_h_cells, .inl (cI, 60, .inl h_cells)), (a_t, .inr (3, [.int t_count, .int z_t_references, .ref a_t_kind, .ref a_t_owner, .ref a_t_from, .ref a_t_to, .ref a_t_away])), (a_t_owner, .inl (cI, 6, .inl z_t_owner)), (a_t_from, .inl (cI, 12, .inl z_t_from)), (a_t_to, .inl (cI, 12, .inl z_t_to))] H) (inA (List.map Prod.fst ([(a_o, .inr (4, [.ref a_n, .ref a_t, .ref a_d, .ref a_o_sheets, .ref a_rd, .int o_traced, .int o_lastFault])), (a_h, .inr (1, [.int h_lane, .int h_length, .ref a_h_cells])), (a_h_cells, .inl (cI, 60, .inl h_cells)), (a_t, .inr (3, [.int t_count, .int t_references, .ref a_t_kind, .ref a_t_owner, .ref a_t_from, .ref a_t_to, .ref a_t_away])), (a_t_owner, .inl (cI, 6, .inl t_owner)), (a_t_from, .inl (cI, 12, .inl t_from)), (a_t_to, .inl (cI, 12, .inl t_to))] : va_W)))) ([.ref a_o, .ref a_h, .int x2, .int x3] : List Value).toArray s 0 0 (inA (List.map Prod.fst ([(a_o, .inr (4, [.ref a_n, .ref a_t, .ref a_d, .ref a_o_sheets, .ref a_rd, .int o_traced, .int o_lastFault])), (a_h, .inr (1, [.int h_lane, .int h_length, .ref a_h_cells])), (a_h_cells, .inl (cI, 60, .inl h_cells)), (a_t, .inr (3, [.int t_count, .int t_references, .ref a_t_kind, .ref a_t_owner, .ref a_t_from, .ref a_t_to, .ref a_t_away])), (a_t_owner, .inl (cI, 6, .inl t_owner)), (a_t_from, .inl (cI, 12, .inl t_from)), (a_t_to, .inl (cI, 12, .inl t_to))] : va_W)))) (F0 m 55 ls []) := by
    intro t_references_3e t_owner_3e t_from_3e t_to_3e ha H locs ls hP hS hl
    have h := hk_3 _ _ _ _ ha
    refine lv_bipush (v := -9) hx hb dX4_firstWrong_55 (by decide) ?_
    obtain ⟨rfl, rfl, rfl, rfl, rfl⟩ := pj5 (Option.some.inj h)
    exact W.iret hx hb hr (fun t ht _ => kQ.mk ht hP trivial (hS.F ht)) hS.2.2 dX4_firstWrong_57
  have lp_3 : ∀ (n : Nat) (x4_3 : Int32) (t_references_3 : Int32) (t_owner_3 : Nat → Int32) (t_from_3 : Nat → Int32) (t_to_3 : Nat → Int32) (H : Heap) (locs : List Loc) (ls : Array Slot), it (u5 (L_X4_firstWrong_3 h_length h_cells t_count x2 x3)) n (x4_3, t_references_3, t_owner_3, t_from_3, t_to_3) = some o_3 → va_P (dC, dI) vwCl [(a_o, .inr (4, [.ref a_n, .ref a_t, .ref a_d, .ref a_o_sheets, .ref a_rd, .int o_traced, .int o_lastFault])), (a_h, .inr (1, [.int h_lane, .int h_length, .ref a_h_cells])), (a_h_cells, .inl (cI, 60, .inl h_cells)), (a_t, .inr (3, [.int t_count, .int t_references_3, .ref a_t_kind, .ref a_t_owner, .ref a_t_from, .ref a_t_to, .ref a_t_away])), (a_t_owner, .inl (cI, 6, .inl t_owner_3)), (a_t_from, .inl (cI, 12, .inl t_from_3)), (a_t_to, .inl (cI, 12, .inl t_to_3))] H → va_S (inA [a_o, a_h, a_h_cells, a_t, a_t_owner, a_t_from, a_t_to]) s.heap H locs → lv_has ls 6 [(0, .ref a_o), (1, .ref a_h), (2, .int x2), (3, .int x3), (4, .int x4_3)] → W p l e (headSpec wsX4_firstWrong ({ frames := 4, cells := 0, slots := 0, locals := 92 } : Room)).room s m ([.ref a_o, .ref a_h, .int x2, .int x3] : List Value).toArray below meth c H locs 0 0 (MQ below (kQ (some (.int r)) True (fun H => va_P (dC, dI) vwCl [(a_o, .inr (4, [.ref a_n, .ref a_t, .ref a_d, .ref a_o_sheets, .ref a_rd, .int o_traced, .int o_lastFault])), (a_h, .inr (1, [.int h_lane, .int h_length, .ref a_h_cells])), (a_h_cells, .inl (cI, 60, .inl h_cells)), (a_t, .inr (3, [.int t_count, .int z_t_references, .ref a_t_kind, .ref a_t_owner, .ref a_t_from, .ref a_t_to, .ref a_t_away])), (a_t_owner, .inl (cI, 6, .inl z_t_owner)), (a_t_from, .inl (cI, 12, .inl z_t_from)), (a_t_to, .inl (cI, 12, .inl z_t_to))] H) (inA (List.map Prod.fst ([(a_o, .inr (4, [.ref a_n, .ref a_t, .ref a_d, .ref a_o_sheets, .ref a_rd, .int o_traced, .int o_lastFault])), (a_h, .inr (1, [.int h_lane, .int h_length, .ref a_h_cells])), (a_h_cells, .inl (cI, 60, .inl h_cells)), (a_t, .inr (3, [.int t_count, .int t_references, .ref a_t_kind, .ref a_t_owner, .ref a_t_from, .ref a_t_to, .ref a_t_away])), (a_t_owner, .inl (cI, 6, .inl t_owner)), (a_t_from, .inl (cI, 12, .inl t_from)), (a_t_to, .inl (cI, 12, .inl t_to))] : va_W)))) ([.ref a_o, .ref a_h, .int x2, .int x3] : List Value).toArray s 0 0 (inA (List.map Prod.fst ([(a_o, .inr (4, [.ref a_n, .ref a_t, .ref a_d, .ref a_o_sheets, .ref a_rd, .int o_traced, .int o_lastFault])), (a_h, .inr (1, [.int h_lane, .int h_length, .ref a_h_cells])), (a_h_cells, .inl (cI, 60, .inl h_cells)), (a_t, .inr (3, [.int t_count, .int t_references, .ref a_t_kind, .ref a_t_owner, .ref a_t_from, .ref a_t_to, .ref a_t_away])), (a_t_owner, .inl (cI, 6, .inl t_owner)), (a_t_from, .inl (cI, 12, .inl t_from)), (a_t_to, .inl (cI, 12, .inl t_to))] : va_W)))) (F0 m 3 ls []) := by
    intro n
    induction n with
    | zero => intro x4_3 t_references_3 t_owner_3 t_from_3 t_to_3 H locs ls h1; exact (it_0 h1).elim
    | succ n ih_3 =>
      intro x4_3 t_references_3 t_owner_3 t_from_3 t_to_3 H locs ls h1 hP hS hl
      obtain ⟨t_3, h1, k1⟩ := it5_inv h1
      unfold L_X4_firstWrong_3 at h1
      refine lv_iload hx hb dX4_firstWrong_3 (lv_at hl 4 rfl) ?_
      refine lv_iload_n hx hb dX4_firstWrong_5 rfl (lv_at hl 3 rfl) ?_
      refine lv_icmp_ge (tgt := 55) hx hb dX4_firstWrong_6 (by decide) (fun c_6 => ?_) (fun c_6 => ?_)
      · have h1 := hp_pos c_6 h1
        cases h1
        obtain rfl := pj1 k1
        exact after_3 _ _ _ _ h _ _ _ hP hS (lv_sub hl [] rfl)
      · have h1 := hp_neg c_6 h1
        refine lv_iload_n hx hb dX4_firstWrong_9 rfl (lv_at hl 2 rfl) ?_
        refine lv_iconst (v := 3) hx hb dX4_firstWrong_10 (by decide) ?_
        refine lv_iload hx hb dX4_firstWrong_11 (lv_at hl 4 rfl) ?_
        refine lv_imul hx hb dX4_firstWrong_13 ?_
        refine lv_iadd hx hb dX4_firstWrong_14 ?_
        refine lv_istore (lv' := [(5, .int (x2 + ((3 : Int32) * x4_3))), (0, .ref a_o), (1, .ref a_h), (2, .int x2), (3, .int x3), (4, .int x4_3)]) hx hb dX4_firstWrong_15 hl (by decide) rfl (fun ls hl => ?_)
        refine lv_aload_n hx hb dX4_firstWrong_17 rfl (lv_at hl 1 rfl) ?_
        refine lv_aload_n hx hb dX4_firstWrong_18 rfl (lv_at hl 2 rfl) ?_
        refine lv_iload hx hb dX4_firstWrong_19 (lv_at hl 0 rfl) ?_
        obtain ⟨r_21, e_21, h1⟩ := ob1_inv h1
        refine k_pVi (i0 := 1) (rest := [.ref a_o]) ⟨hx, hb, hml, hown, hts⟩ (c_X1_valueAt l dC dI cI cS a_h a_h_cells h_lane h_length h_cells (x2 + ((3 : Int32) * x4_3)) r_21 e_21) (cwV 1 hts gX4_firstWrong_X1_valueAt rfl rfl rfl khd_X1_valueAt ⟨Nat.le_of_ble_eq_true rfl, Nat.le_of_ble_eq_true rfl⟩) hK hN hP (va_D_fst hD rfl) hS [1, 2] rfl rfl rfl rfl rfl rfl hl.1 rfl (Nat.le_of_ble_eq_true rfl) dX4_firstWrong_21 ⟨Nat.zero_le _, Nat.zero_le _⟩ (fun H locs hf_21 hP hS => ?_)
        refine lv_aload_n hx hb dX4_firstWrong_24 rfl (lv_at hl 2 rfl) ?_
        refine lv_iload hx hb dX4_firstWrong_25 (lv_at hl 0 rfl) ?_
        refine lv_iconst (v := 1) hx hb dX4_firstWrong_27 (by decide) ?_
        refine lv_iadd hx hb dX4_firstWrong_28 ?_
        obtain ⟨r_29, e_29, h1⟩ := ob1_inv h1
        refine k_pVi (i0 := 1) (rest := [.int r_21, .ref a_o]) ⟨hx, hb, hml, hown, hts⟩ (c_X1_valueAt l dC dI cI cS a_h a_h_cells h_lane h_length h_cells ((x2 + ((3 : Int32) * x4_3)) + (1 : Int32)) r_29 e_29) (cwV 1 hts gX4_firstWrong_X1_valueAt rfl rfl rfl khd_X1_valueAt ⟨Nat.le_of_ble_eq_true rfl, Nat.le_of_ble_eq_true rfl⟩) hK hN hP (va_D_fst hD rfl) hS [1, 2] rfl rfl rfl rfl rfl rfl hl.1 rfl (Nat.le_of_ble_eq_true rfl) dX4_firstWrong_29 ⟨Nat.zero_le _, Nat.zero_le _⟩ (fun H locs hf_29 hP hS => ?_)
        refine lv_aload_n hx hb dX4_firstWrong_32 rfl (lv_at hl 2 rfl) ?_
        refine lv_iload hx hb dX4_firstWrong_33 (lv_at hl 0 rfl) ?_
        refine lv_iconst (v := 2) hx hb dX4_firstWrong_35 (by decide) ?_
        refine lv_iadd hx hb dX4_firstWrong_36 ?_
        obtain ⟨r_37, e_37, h1⟩ := ob1_inv h1
        refine k_pVi (i0 := 1) (rest := [.int r_29, .int r_21, .ref a_o]) ⟨hx, hb, hml, hown, hts⟩ (c_X1_valueAt l dC dI cI cS a_h a_h_cells h_lane h_length h_cells ((x2 + ((3 : Int32) * x4_3)) + (2 : Int32)) r_37 e_37) (cwV 1 hts gX4_firstWrong_X1_valueAt rfl rfl rfl khd_X1_valueAt ⟨Nat.le_of_ble_eq_true rfl, Nat.le_of_ble_eq_true rfl⟩) hK hN hP (va_D_fst hD rfl) hS [1, 2] rfl rfl rfl rfl rfl rfl hl.1 rfl (Nat.le_of_ble_eq_true rfl) dX4_firstWrong_37 ⟨Nat.zero_le _, Nat.zero_le _⟩ (fun H locs hf_37 hP hS => ?_)
        obtain ⟨r_40, r_40_references, r_40_owner, r_40_from, r_40_to, e_40, h1⟩ := ob5_inv h1
        refine k_wVi (i0 := 0) (rest := []) (ws' := [(a_o, .inr (4, [.ref a_n, .ref a_t, .ref a_d, .ref a_o_sheets, .ref a_rd, .int o_traced, .int o_lastFault])), (a_h, .inr (1, [.int h_lane, .int h_length, .ref a_h_cells])), (a_h_cells, .inl (cI, 60, .inl h_cells)), (a_t, .inr (3, [.int t_count, .int r_40_references, .ref a_t_kind, .ref a_t_owner, .ref a_t_from, .ref a_t_to, .ref a_t_away])), (a_t_owner, .inl (cI, 6, .inl r_40_owner)), (a_t_from, .inl (cI, 12, .inl r_40_from)), (a_t_to, .inl (cI, 12, .inl r_40_to))]) ⟨hx, hb, hml, hown, hts⟩ (c_X4_isActDone l dC dI cI cS a_o a_n a_t a_d a_o_sheets a_rd a_t_kind a_t_owner a_t_from a_t_to a_t_away o_traced o_lastFault t_count t_references_3 t_owner_3 t_from_3 t_to_3 r_21 r_29 r_37 r_40 r_40_references r_40_owner r_40_from r_40_to e_40) (cwV 3 hts gX4_firstWrong_X4_isActDone rfl rfl rfl khd_X4_isActDone ⟨Nat.le_of_ble_eq_true rfl, Nat.le_of_ble_eq_true rfl⟩) hK hN hP (va_D_fst hD rfl) hS [0, 3, 4, 5, 6] rfl rfl rfl rfl rfl rfl hl.1 rfl (Nat.le_of_ble_eq_true rfl) dX4_firstWrong_40 ⟨Nat.zero_le _, Nat.zero_le _⟩ rfl rfl (fun H locs hf_40 hP hS => ?_)
        refine lv_if_ne (tgt := 49) hx hb dX4_firstWrong_43 (by decide) (fun c_43 => ?_) (fun c_43 => ?_)
        · have h1 := hp_neg c_43 h1
          refine lv_iinc (v := (x4_3 + (1 : Int32))) (lv' := [(4, .int (x4_3 + (1 : Int32))), (5, .int (x2 + ((3 : Int32) * x4_3))), (0, .ref a_o), (1, .ref a_h), (2, .int x2), (3, .int x3)]) hx hb dX4_firstWrong_49 hl (k := 5) rfl rfl (by decide) rfl (fun ls hl => ?_)
          refine lv_goto (tgt := 3) hx hb dX4_firstWrong_52 (by decide) ?_
          cases h1
          exact ih_3 _ _ _ _ _ _ _ _ k1 hP hS (lv_sub hl [2, 3, 4, 5, 0] rfl)
        · have h1 := hp_pos c_43 h1
          refine lv_iload hx hb dX4_firstWrong_46 (lv_at hl 5 rfl) ?_
          cases h1
          obtain rfl := pj1 k1
          have h := congrArg some h
          obtain ⟨rfl, rfl, rfl, rfl, rfl⟩ := pj5 (Option.some.inj h)
          exact W.iret hx hb hr (fun t ht _ => kQ.mk ht hP trivial (hS.F ht)) hS.2.2 dX4_firstWrong_48
  exact lp_3 FUEL _ _ _ _ _ _ _ _ i_3 hP hS (lv_sub hl [1, 2, 3, 4, 0] rfl)
theorem khd_X4_isAskedOfDays : yX4_isAskedOfDays.cls = RX4 ∧ yX4_isAskedOfDays.cls ≠ "java/lang/invoke/MethodHandle" ∧ yX4_isAskedOfDays.cls ≠ "java/lang/invoke/VarHandle" ∧ (parseMethodDescriptor yX4_isAskedOfDays.desc).map (fun d => d.parameters.length) = some 1 := by decide +kernel
set_option maxHeartbeats 8000000 in
set_option maxRecDepth 100000 in
theorem c_X4_isAskedOfDays (l : Launch) (dC : Nat → ClassId) (dI : Nat → Nat → Nat) (cI cS : ClassId) (x0 : Int32) (r : Int32) (h : f_X4_isAskedOfDays x0 = some r) : Mk l yX4_isAskedOfDays wsX4_isAskedOfDays ({ frames := 1, cells := 0, slots := 0, locals := 22 } : Room) (dC, dI) cI cS [] [.int x0] (some (.int r)) (r = 0 ∨ r = 1) (fun _ => True) noA := by
  refine Met.ofW (cc := cX4_isAskedOfDays) (maxL := 1) (ret := (some .boolean)) (by decide) rfl ?_
  intro p e s m args below meth c s₁ B hml hv
  obtain ⟨rfl, hP, hK, hN, hD⟩ := hv
  have hx := B.exec
  have hb := B.bytes
  have hr := B.returns
  have hts := atoms_spec (ws := wsX4_isAskedOfDays) B.pre
  have hown : s.vm.findClass RX4 = some m.cls := findClass_of_methodNamed B.named
  have hlocks := B.notSynchronized
  have hS : va_S noA s.heap s.heap [] := va_S.rf
  have hP : va_P (dC, dI) vwCl [] s.heap := hP
  have hl := lv_entry ([.int x0]) (n := 1) (Nat.le_of_ble_eq_true rfl)
  rw [lg_entry_eq]
  generalize (lg_sl ([.int x0]) ++ List.replicate (1 - (lg_sl ([.int x0])).length) Slot.unset).toArray = ls at hl ⊢
  have hl : lv_has ls 1 [(0, .int x0)] := hl
  unfold f_X4_isAskedOfDays at h
  refine lv_iload_n hx hb dX4_isAskedOfDays_0 rfl (lv_at hl 0 rfl) ?_
  refine lv_iconst (v := 0) hx hb dX4_isAskedOfDays_1 (by decide) ?_
  refine lv_iconst (v := 4) hx hb dX4_isAskedOfDays_2 (by decide) ?_
  obtain ⟨r_3, e_3, h⟩ := ob1_inv h
  refine k_pSi (rest := []) ⟨hx, hb, hml, hown, hts⟩ (c_X4_isBetween l dC dI cI cS x0 (0 : Int32) (4 : Int32) r_3 e_3) (cwS 3 hts gX4_isAskedOfDays_X4_isBetween rfl rfl rfl khd_X4_isBetween ⟨Nat.le_of_ble_eq_true rfl, Nat.le_of_ble_eq_true rfl⟩) hK hN hP (va_D_fst hD rfl) hS [] rfl rfl rfl hl.1 rfl (Nat.le_of_ble_eq_true rfl) dX4_isAskedOfDays_3 ⟨Nat.zero_le _, Nat.zero_le _⟩ (fun H locs hf_3 hP hS => ?_)
  refine lv_if_ne (tgt := 20) hx hb dX4_isAskedOfDays_6 (by decide) (fun c_6 => ?_) (fun c_6 => ?_)
  · have h := hp_neg c_6 h
    refine lv_iconst (v := 1) hx hb dX4_isAskedOfDays_20 (by decide) ?_
    refine lv_goto (tgt := 25) hx hb dX4_isAskedOfDays_21 (by decide) ?_
    obtain rfl := Option.some.inj h
    exact W.zret hx hb hr (nb01 (Or.inr rfl)) (fun t ht _ => kQ.mk ht trivial (Or.inr rfl) (hS.F ht)) hS.2.2 dX4_isAskedOfDays_25
  · have h := hp_pos c_6 h
    refine lv_iload_n hx hb dX4_isAskedOfDays_9 rfl (lv_at hl 0 rfl) ?_
    refine lv_bipush (v := 10) hx hb dX4_isAskedOfDays_10 (by decide) ?_
    refine lv_bipush (v := 15) hx hb dX4_isAskedOfDays_12 (by decide) ?_
    obtain ⟨r_14, e_14, h⟩ := ob1_inv h
    refine k_pSi (rest := []) ⟨hx, hb, hml, hown, hts⟩ (c_X4_isBetween l dC dI cI cS x0 (10 : Int32) (15 : Int32) r_14 e_14) (cwS 3 hts gX4_isAskedOfDays_X4_isBetween rfl rfl rfl khd_X4_isBetween ⟨Nat.le_of_ble_eq_true rfl, Nat.le_of_ble_eq_true rfl⟩) hK hN hP (va_D_fst hD rfl) hS [] rfl rfl rfl hl.1 rfl (Nat.le_of_ble_eq_true rfl) dX4_isAskedOfDays_14 ⟨Nat.zero_le _, Nat.zero_le _⟩ (fun H locs hf_14 hP hS => ?_)
    refine lv_if_eq (tgt := 24) hx hb dX4_isAskedOfDays_17 (by decide) (fun c_17 => ?_) (fun c_17 => ?_)
    · have h := hp_pos c_17 h
      refine lv_iconst (v := 0) hx hb dX4_isAskedOfDays_24 (by decide) ?_
      obtain rfl := Option.some.inj h
      exact W.zret hx hb hr (nb01 (Or.inl rfl)) (fun t ht _ => kQ.mk ht trivial (Or.inl rfl) (hS.F ht)) hS.2.2 dX4_isAskedOfDays_25
    · have h := hp_neg c_17 h
      refine lv_iconst (v := 1) hx hb dX4_isAskedOfDays_20 (by decide) ?_
      refine lv_goto (tgt := 25) hx hb dX4_isAskedOfDays_21 (by decide) ?_
      obtain rfl := Option.some.inj h
      exact W.zret hx hb hr (nb01 (Or.inr rfl)) (fun t ht _ => kQ.mk ht trivial (Or.inr rfl) (hS.F ht)) hS.2.2 dX4_isAskedOfDays_25
theorem kin_X4_day_X4 : ∀ w ∈ wsX40, w ∈ wsX4_day := fun _ h => List.mem_cons_of_mem _ (List.mem_append_left _ (List.mem_append_left _ (List.mem_append_right _ h)))
theorem kin_X4_day_X1 : ∀ w ∈ wsX10, w ∈ wsX4_day := fun _ h => List.mem_cons_of_mem _ (List.mem_append_left _ (List.mem_append_right _ h))
theorem kin_X4_day_X3 : ∀ w ∈ wsX30, w ∈ wsX4_day := fun _ h => List.mem_cons_of_mem _ (List.mem_append_right _ h)
theorem khd_X4_day : yX4_day.cls = RX4 ∧ yX4_day.cls ≠ "java/lang/invoke/MethodHandle" ∧ yX4_day.cls ≠ "java/lang/invoke/VarHandle" ∧ (parseMethodDescriptor yX4_day.desc).map (fun d => d.parameters.length) = some 5 := by decide +kernel
set_option maxHeartbeats 8000000 in
set_option maxRecDepth 100000 in
theorem c_X4_day (l : Launch) (dC : Nat → ClassId) (dI : Nat → Nat → Nat) (cI cS : ClassId) (a_o : Nat) (a_n : Nat) (a_t : Nat) (a_d : Nat) (a_o_sheets : Nat) (a_rd : Nat) (a_n_kind : Nat) (a_n_owner : Nat) (a_n_from : Nat) (a_n_to : Nat) (a_n_away : Nat) (a_t_kind : Nat) (a_t_owner : Nat) (a_t_from : Nat) (a_t_to : Nat) (a_t_away : Nat) (sa : Nat → Nat) (sca : Nat → Nat) (o_traced : Int32) (o_lastFault : Int32) (n_count : Int32) (n_references : Int32) (n_kind : Nat → Int32) (n_owner : Nat → Int32) (n_from : Nat → Int32) (n_to : Nat → Int32) (t_count : Int32) (t_references : Int32) (t_kind : Nat → Int32) (t_owner : Nat → Int32) (t_from : Nat → Int32) (t_to : Nat → Int32) (sl : Nat → Int32) (sn : Nat → Int32) (sc : Nat → Nat → Int32) (x1 : Int32) (x2 : Int32) (x3 : Int32) (x4 : Int32) (x5 : Int32) (r : Int32) (z_o_lastFault : Int32) (z_t_count : Int32) (z_t_references : Int32) (z_t_kind : Nat → Int32) (z_t_owner : Nat → Int32) (z_t_from : Nat → Int32) (z_t_to : Nat → Int32) (h : f_X4_day n_count n_references n_kind n_owner n_from n_to t_count t_references t_kind t_owner t_from t_to sl sn sc x1 x2 x3 x4 x5 = some (r, z_o_lastFault, z_t_count, z_t_references, z_t_kind, z_t_owner, z_t_from, z_t_to)) : Mk l yX4_day wsX4_day ({ frames := 6, cells := 0, slots := 0, locals := 133 } : Room) (dC, dI) cI cS [(a_o, .inr (4, [.ref a_n, .ref a_t, .ref a_d, .ref a_o_sheets, .ref a_rd, .int o_traced, .int o_lastFault])), (a_o_sheets, .inl (cS, 4, .inr (.inr (.inr (.inr (fun j => some (sa j))))))), (a_n, .inr (3, [.int n_count, .int n_references, .ref a_n_kind, .ref a_n_owner, .ref a_n_from, .ref a_n_to, .ref a_n_away])), (a_n_kind, .inl (cI, 6, .inl n_kind)), (a_n_owner, .inl (cI, 6, .inl n_owner)), (a_n_from, .inl (cI, 12, .inl n_from)), (a_n_to, .inl (cI, 12, .inl n_to)), (a_t, .inr (3, [.int t_count, .int t_references, .ref a_t_kind, .ref a_t_owner, .ref a_t_from, .ref a_t_to, .ref a_t_away])), (a_t_kind, .inl (cI, 6, .inl t_kind)), (a_t_owner, .inl (cI, 6, .inl t_owner)), (a_t_from, .inl (cI, 12, .inl t_from)), (a_t_to, .inl (cI, 12, .inl t_to)), ((sa 0), .inr (1, [.int (sl 0), .int (sn 0), .ref (sca 0)])), ((sca 0), .inl (cI, 60, .inl (sc 0))), ((sa 1), .inr (1, [.int (sl 1), .int (sn 1), .ref (sca 1)])), ((sca 1), .inl (cI, 60, .inl (sc 1))), ((sa 2), .inr (1, [.int (sl 2), .int (sn 2), .ref (sca 2)])), ((sca 2), .inl (cI, 60, .inl (sc 2))), ((sa 3), .inr (1, [.int (sl 3), .int (sn 3), .ref (sca 3)])), ((sca 3), .inl (cI, 60, .inl (sc 3)))] [.ref a_o, .int x1, .int x2, .int x3, .int x4, .int x5] (some (.int r)) True (fun H => va_P (dC, dI) vwCl [(a_o, .inr (4, [.ref a_n, .ref a_t, .ref a_d, .ref a_o_sheets, .ref a_rd, .int o_traced, .int z_o_lastFault])), (a_o_sheets, .inl (cS, 4, .inr (.inr (.inr (.inr (fun j => some (sa j))))))), (a_n, .inr (3, [.int n_count, .int n_references, .ref a_n_kind, .ref a_n_owner, .ref a_n_from, .ref a_n_to, .ref a_n_away])), (a_n_kind, .inl (cI, 6, .inl n_kind)), (a_n_owner, .inl (cI, 6, .inl n_owner)), (a_n_from, .inl (cI, 12, .inl n_from)), (a_n_to, .inl (cI, 12, .inl n_to)), (a_t, .inr (3, [.int z_t_count, .int z_t_references, .ref a_t_kind, .ref a_t_owner, .ref a_t_from, .ref a_t_to, .ref a_t_away])), (a_t_kind, .inl (cI, 6, .inl z_t_kind)), (a_t_owner, .inl (cI, 6, .inl z_t_owner)), (a_t_from, .inl (cI, 12, .inl z_t_from)), (a_t_to, .inl (cI, 12, .inl z_t_to)), ((sa 0), .inr (1, [.int (sl 0), .int (sn 0), .ref (sca 0)])), ((sca 0), .inl (cI, 60, .inl (sc 0))), ((sa 1), .inr (1, [.int (sl 1), .int (sn 1), .ref (sca 1)])), ((sca 1), .inl (cI, 60, .inl (sc 1))), ((sa 2), .inr (1, [.int (sl 2), .int (sn 2), .ref (sca 2)])), ((sca 2), .inl (cI, 60, .inl (sc 2))), ((sa 3), .inr (1, [.int (sl 3), .int (sn 3), .ref (sca 3)])), ((sca 3), .inl (cI, 60, .inl (sc 3)))] H) (inA (List.map Prod.fst ([(a_o, .inr (4, [.ref a_n, .ref a_t, .ref a_d, .ref a_o_sheets, .ref a_rd, .int o_traced, .int o_lastFault])), (a_o_sheets, .inl (cS, 4, .inr (.inr (.inr (.inr (fun j => some (sa j))))))), (a_n, .inr (3, [.int n_count, .int n_references, .ref a_n_kind, .ref a_n_owner, .ref a_n_from, .ref a_n_to, .ref a_n_away])), (a_n_kind, .inl (cI, 6, .inl n_kind)), (a_n_owner, .inl (cI, 6, .inl n_owner)), (a_n_from, .inl (cI, 12, .inl n_from)), (a_n_to, .inl (cI, 12, .inl n_to)), (a_t, .inr (3, [.int t_count, .int t_references, .ref a_t_kind, .ref a_t_owner, .ref a_t_from, .ref a_t_to, .ref a_t_away])), (a_t_kind, .inl (cI, 6, .inl t_kind)), (a_t_owner, .inl (cI, 6, .inl t_owner)), (a_t_from, .inl (cI, 12, .inl t_from)), (a_t_to, .inl (cI, 12, .inl t_to)), ((sa 0), .inr (1, [.int (sl 0), .int (sn 0), .ref (sca 0)])), ((sca 0), .inl (cI, 60, .inl (sc 0))), ((sa 1), .inr (1, [.int (sl 1), .int (sn 1), .ref (sca 1)])), ((sca 1), .inl (cI, 60, .inl (sc 1))), ((sa 2), .inr (1, [.int (sl 2), .int (sn 2), .ref (sca 2)])), ((sca 2), .inl (cI, 60, .inl (sc 2))), ((sa 3), .inr (1, [.int (sl 3), .int (sn 3), .ref (sca 3)])), ((sca 3), .inl (cI, 60, .inl (sc 3)))] : va_W))) := by
  refine Met.ofW (cc := cX4_day) (maxL := 9) (ret := (some .int)) (by decide) rfl ?_
  intro p e s m args below meth c s₁ B hml hv
  obtain ⟨rfl, hP, hK, hN, hD⟩ := hv
  have hx := B.exec
  have hb := B.bytes
  have hr := B.returns
  have hts := atoms_spec (ws := wsX4_day) B.pre
  have hown : s.vm.findClass RX4 = some m.cls := findClass_of_methodNamed B.named
  have hlocks := B.notSynchronized
  have hS : va_S (inA [a_o, a_o_sheets, a_n, a_n_kind, a_n_owner, a_n_from, a_n_to, a_t, a_t_kind, a_t_owner, a_t_from, a_t_to, (sa 0), (sca 0), (sa 1), (sca 1), (sa 2), (sca 2), (sa 3), (sca 3)]) s.heap s.heap [] := va_S.rf
  have hP : va_P (dC, dI) vwCl [(a_o, .inr (4, [.ref a_n, .ref a_t, .ref a_d, .ref a_o_sheets, .ref a_rd, .int o_traced, .int o_lastFault])), (a_o_sheets, .inl (cS, 4, .inr (.inr (.inr (.inr (fun j => some (sa j))))))), (a_n, .inr (3, [.int n_count, .int n_references, .ref a_n_kind, .ref a_n_owner, .ref a_n_from, .ref a_n_to, .ref a_n_away])), (a_n_kind, .inl (cI, 6, .inl n_kind)), (a_n_owner, .inl (cI, 6, .inl n_owner)), (a_n_from, .inl (cI, 12, .inl n_from)), (a_n_to, .inl (cI, 12, .inl n_to)), (a_t, .inr (3, [.int t_count, .int t_references, .ref a_t_kind, .ref a_t_owner, .ref a_t_from, .ref a_t_to, .ref a_t_away])), (a_t_kind, .inl (cI, 6, .inl t_kind)), (a_t_owner, .inl (cI, 6, .inl t_owner)), (a_t_from, .inl (cI, 12, .inl t_from)), (a_t_to, .inl (cI, 12, .inl t_to)), ((sa 0), .inr (1, [.int (sl 0), .int (sn 0), .ref (sca 0)])), ((sca 0), .inl (cI, 60, .inl (sc 0))), ((sa 1), .inr (1, [.int (sl 1), .int (sn 1), .ref (sca 1)])), ((sca 1), .inl (cI, 60, .inl (sc 1))), ((sa 2), .inr (1, [.int (sl 2), .int (sn 2), .ref (sca 2)])), ((sca 2), .inl (cI, 60, .inl (sc 2))), ((sa 3), .inr (1, [.int (sl 3), .int (sn 3), .ref (sca 3)])), ((sca 3), .inl (cI, 60, .inl (sc 3)))] s.heap := hP
  have hD : va_D (inA [a_o, a_o_sheets, a_n, a_n_kind, a_n_owner, a_n_from, a_n_to, a_t, a_t_kind, a_t_owner, a_t_from, a_t_to, (sa 0), (sca 0), (sa 1), (sca 1), (sa 2), (sca 2), (sa 3), (sca 3)]) [(a_o, .inr (4, [.ref a_n, .ref a_t, .ref a_d, .ref a_o_sheets, .ref a_rd, .int o_traced, .int o_lastFault])), (a_o_sheets, .inl (cS, 4, .inr (.inr (.inr (.inr (fun j => some (sa j))))))), (a_n, .inr (3, [.int n_count, .int n_references, .ref a_n_kind, .ref a_n_owner, .ref a_n_from, .ref a_n_to, .ref a_n_away])), (a_n_kind, .inl (cI, 6, .inl n_kind)), (a_n_owner, .inl (cI, 6, .inl n_owner)), (a_n_from, .inl (cI, 12, .inl n_from)), (a_n_to, .inl (cI, 12, .inl n_to)), (a_t, .inr (3, [.int t_count, .int t_references, .ref a_t_kind, .ref a_t_owner, .ref a_t_from, .ref a_t_to, .ref a_t_away])), (a_t_kind, .inl (cI, 6, .inl t_kind)), (a_t_owner, .inl (cI, 6, .inl t_owner)), (a_t_from, .inl (cI, 12, .inl t_from)), (a_t_to, .inl (cI, 12, .inl t_to)), ((sa 0), .inr (1, [.int (sl 0), .int (sn 0), .ref (sca 0)])), ((sca 0), .inl (cI, 60, .inl (sc 0))), ((sa 1), .inr (1, [.int (sl 1), .int (sn 1), .ref (sca 1)])), ((sca 1), .inl (cI, 60, .inl (sc 1))), ((sa 2), .inr (1, [.int (sl 2), .int (sn 2), .ref (sca 2)])), ((sca 2), .inl (cI, 60, .inl (sc 2))), ((sa 3), .inr (1, [.int (sl 3), .int (sn 3), .ref (sca 3)])), ((sca 3), .inl (cI, 60, .inl (sc 3)))] := va_D_in hD rfl
  have hl := lv_entry ([.ref a_o, .int x1, .int x2, .int x3, .int x4, .int x5]) (n := 9) (Nat.le_of_ble_eq_true rfl)
  rw [lg_entry_eq]
  generalize (lg_sl ([.ref a_o, .int x1, .int x2, .int x3, .int x4, .int x5]) ++ List.replicate (9 - (lg_sl ([.ref a_o, .int x1, .int x2, .int x3, .int x4, .int x5])).length) Slot.unset).toArray = ls at hl ⊢
  have hl : lv_has ls 9 [(0, .ref a_o), (1, .int x1), (2, .int x2), (3, .int x3), (4, .int x4), (5, .int x5)] := hl
  unfold f_X4_day at h
  refine lv_aload_n hx hb dX4_day_0 rfl (lv_at hl 0 rfl) ?_
  refine lv_iconst (v := 0) hx hb dX4_day_1 (by decide) ?_
  refine va_put (D := (dC, dI)) (ci := 4) (v := .int (0 : Int32)) (C := RX4) (T := TX4) (N := 7) hx hb hts kin_X4_day_X4 tyX4 tyX4_ok nmX4 hown hK hP (va_D_fst hD rfl) hS 0 rfl rfl 6 (Nat.le_of_ble_eq_true rfl) (hts (.fieldLink RX4 48 "OwnedThings" "lastFault" "I") (List.mem_of_getElem? (i := 1) rfl)) (fun _ h9 => h9) rfl (tyX4_ok 6 (Nat.le_of_ble_eq_true rfl)) rfl rfl (Nat.le_of_ble_eq_true rfl) dX4_day_2 (fun H locs hP _ hS => ?_)
  have hP : va_P (dC, dI) vwCl [(a_o, .inr (4, [.ref a_n, .ref a_t, .ref a_d, .ref a_o_sheets, .ref a_rd, .int o_traced, .int (0 : Int32)])), (a_o_sheets, .inl (cS, 4, .inr (.inr (.inr (.inr (fun j => some (sa j))))))), (a_n, .inr (3, [.int n_count, .int n_references, .ref a_n_kind, .ref a_n_owner, .ref a_n_from, .ref a_n_to, .ref a_n_away])), (a_n_kind, .inl (cI, 6, .inl n_kind)), (a_n_owner, .inl (cI, 6, .inl n_owner)), (a_n_from, .inl (cI, 12, .inl n_from)), (a_n_to, .inl (cI, 12, .inl n_to)), (a_t, .inr (3, [.int t_count, .int t_references, .ref a_t_kind, .ref a_t_owner, .ref a_t_from, .ref a_t_to, .ref a_t_away])), (a_t_kind, .inl (cI, 6, .inl t_kind)), (a_t_owner, .inl (cI, 6, .inl t_owner)), (a_t_from, .inl (cI, 12, .inl t_from)), (a_t_to, .inl (cI, 12, .inl t_to)), ((sa 0), .inr (1, [.int (sl 0), .int (sn 0), .ref (sca 0)])), ((sca 0), .inl (cI, 60, .inl (sc 0))), ((sa 1), .inr (1, [.int (sl 1), .int (sn 1), .ref (sca 1)])), ((sca 1), .inl (cI, 60, .inl (sc 1))), ((sa 2), .inr (1, [.int (sl 2), .int (sn 2), .ref (sca 2)])), ((sca 2), .inl (cI, 60, .inl (sc 2))), ((sa 3), .inr (1, [.int (sl 3), .int (sn 3), .ref (sca 3)])), ((sca 3), .inl (cI, 60, .inl (sc 3)))] H := hP
  refine lv_iload_n hx hb dX4_day_5 rfl (lv_at hl 1 rfl) ?_
  obtain ⟨r_6, e_6, h⟩ := ob1_inv h
  refine k_pSi (rest := []) ⟨hx, hb, hml, hown, hts⟩ (c_X4_isSheet l dC dI cI cS x1 r_6 e_6) (cwS 1 hts gX4_day_X4_isSheet rfl rfl rfl khd_X4_isSheet ⟨Nat.le_of_ble_eq_true rfl, Nat.le_of_ble_eq_true rfl⟩) hK hN hP (va_D_fst hD rfl) hS [] rfl rfl rfl hl.1 rfl (Nat.le_of_ble_eq_true rfl) dX4_day_6 ⟨Nat.zero_le _, Nat.zero_le _⟩ (fun H locs hf_6 hP hS => ?_)
  refine lv_if_ne (tgt := 14) hx hb dX4_day_9 (by decide) (fun c_9 => ?_) (fun c_9 => ?_)
  · have h := hp_neg c_9 h
    refine lv_iload_n hx hb dX4_day_14 rfl (lv_at hl 2 rfl) ?_
    obtain ⟨r_15, e_15, h⟩ := ob1_inv h
    refine k_pSi (rest := []) ⟨hx, hb, hml, hown, hts⟩ (c_X4_isLane l dC dI cI cS x2 r_15 e_15) (cwS 1 hts gX4_day_X4_isLane rfl rfl rfl khd_X4_isLane ⟨Nat.le_of_ble_eq_true rfl, Nat.le_of_ble_eq_true rfl⟩) hK hN hP (va_D_fst hD rfl) hS [] rfl rfl rfl hl.1 rfl (Nat.le_of_ble_eq_true rfl) dX4_day_15 ⟨Nat.zero_le _, Nat.zero_le _⟩ (fun H locs hf_15 hP hS => ?_)
    refine lv_if_eq (tgt := 40) hx hb dX4_day_18 (by decide) (fun c_18 => ?_) (fun c_18 => ?_)
    · have h := hp_pos c_18 h
      refine lv_bipush (v := -2) hx hb dX4_day_40 (by decide) ?_
      obtain ⟨rfl, rfl, rfl, rfl, rfl, rfl, rfl, rfl⟩ := pj8 (Option.some.inj h)
      exact W.iret hx hb hr (fun t ht _ => kQ.mk ht hP trivial (hS.F ht)) hS.2.2 dX4_day_42
    · have h := hp_neg c_18 h
      refine lv_iload hx hb dX4_day_21 (lv_at hl 4 rfl) ?_
      refine lv_iconst (v := 0) hx hb dX4_day_23 (by decide) ?_
      refine lv_bipush (v := 20) hx hb dX4_day_24 (by decide) ?_
      obtain ⟨r_26, e_26, h⟩ := ob1_inv h
      refine k_pSi (rest := []) ⟨hx, hb, hml, hown, hts⟩ (c_X4_isBetween l dC dI cI cS x4 (0 : Int32) (20 : Int32) r_26 e_26) (cwS 3 hts gX4_day_X4_isBetween rfl rfl rfl khd_X4_isBetween ⟨Nat.le_of_ble_eq_true rfl, Nat.le_of_ble_eq_true rfl⟩) hK hN hP (va_D_fst hD rfl) hS [] rfl rfl rfl hl.1 rfl (Nat.le_of_ble_eq_true rfl) dX4_day_26 ⟨Nat.zero_le _, Nat.zero_le _⟩ (fun H locs hf_26 hP hS => ?_)
      refine lv_if_eq (tgt := 40) hx hb dX4_day_29 (by decide) (fun c_29 => ?_) (fun c_29 => ?_)
      · have h := hp_pos c_29 h
        refine lv_bipush (v := -2) hx hb dX4_day_40 (by decide) ?_
        obtain ⟨rfl, rfl, rfl, rfl, rfl, rfl, rfl, rfl⟩ := pj8 (Option.some.inj h)
        exact W.iret hx hb hr (fun t ht _ => kQ.mk ht hP trivial (hS.F ht)) hS.2.2 dX4_day_42
      · have h := hp_neg c_29 h
        refine lv_iload hx hb dX4_day_32 (lv_at hl 5 rfl) ?_
        obtain ⟨r_34, e_34, h⟩ := ob1_inv h
        refine k_pSi (rest := []) ⟨hx, hb, hml, hown, hts⟩ (c_X4_isAskedOfDays l dC dI cI cS x5 r_34 e_34) (cwS 1 hts gX4_day_X4_isAskedOfDays rfl rfl rfl khd_X4_isAskedOfDays ⟨Nat.le_of_ble_eq_true rfl, Nat.le_of_ble_eq_true rfl⟩) hK hN hP (va_D_fst hD rfl) hS [] rfl rfl rfl hl.1 rfl (Nat.le_of_ble_eq_true rfl) dX4_day_34 ⟨Nat.zero_le _, Nat.zero_le _⟩ (fun H locs hf_34 hP hS => ?_)
        refine lv_if_ne (tgt := 43) hx hb dX4_day_37 (by decide) (fun c_37 => ?_) (fun c_37 => ?_)
        · have h := hp_neg c_37 h
          refine lv_aload_n hx hb dX4_day_43 rfl (lv_at hl 0 rfl) ?_
          refine va_get (D := (dC, dI)) (ci := 4) (v := .ref a_o_sheets) (C := RX4) (T := TX4) (N := 7) hx hb hts kin_X4_day_X4 hown hK hP 0 rfl rfl 3 (Nat.le_of_ble_eq_true rfl) (hts (.fieldLink RX4 30 "OwnedThings" "sheets" "[LOwnedThings$Sheet;") (List.mem_of_getElem? (i := 2) rfl)) (fun _ h9 => h9) rfl dX4_day_44 ?_
          refine lv_iload_n hx hb dX4_day_47 rfl (lv_at hl 1 rfl) ?_
          have g_48 := hg_no h
          have h := hg_yes h
          refine va_aldq (D := (dC, dI)) hx hb hK hP 1 1 rfl rfl g_48 dX4_day_48 ?_
          rcases lt4_cases g_48 with k_48 | k_48 | k_48 | k_48
          · rw [k_48] at h
            refine lv_sa k_48 ?_
            refine lv_astore (lv' := [(6, .ref (sa 0)), (0, .ref a_o), (1, .int x1), (2, .int x2), (3, .int x3), (4, .int x4), (5, .int x5)]) hx hb dX4_day_49 hl (by decide) rfl (fun ls hl => ?_)
            refine lv_aload hx hb dX4_day_51 (lv_at hl 0 rfl) ?_
            refine lv_iload_n hx hb dX4_day_53 rfl (lv_at hl 3 rfl) ?_
            refine lv_iload_n hx hb dX4_day_54 rfl (lv_at hl 4 rfl) ?_
            refine lv_iconst (v := 3) hx hb dX4_day_55 (by decide) ?_
            refine lv_iload hx hb dX4_day_56 (lv_at hl 5 rfl) ?_
            refine lv_imul hx hb dX4_day_58 ?_
            obtain ⟨r_59, e_59, h⟩ := ob1_inv h
            refine k_pVi (i0 := 12) (rest := []) ⟨hx, hb, hml, hown, hts⟩ (c_X1_rowFault l dC dI cI cS (sa 0) (sca 0) (sl 0) (sn 0) x2 x3 ((3 : Int32) * x4) r_59 e_59) (cwV 3 hts gX4_day_X1_rowFault rfl rfl rfl khd_X1_rowFault ⟨Nat.le_of_ble_eq_true rfl, Nat.le_of_ble_eq_true rfl⟩) hK hN hP (va_D_fst hD rfl) hS [12] rfl rfl rfl rfl rfl rfl hl.1 rfl (Nat.le_of_ble_eq_true rfl) dX4_day_59 ⟨Nat.zero_le _, Nat.zero_le _⟩ (fun H locs hf_59 hP hS => ?_)
            refine lv_istore (lv' := [(7, .int r_59), (6, .ref (sa 0)), (0, .ref a_o), (1, .int x1), (2, .int x2), (3, .int x3), (4, .int x4), (5, .int x5)]) hx hb dX4_day_62 hl (by decide) rfl (fun ls hl => ?_)
            refine lv_iload hx hb dX4_day_64 (lv_at hl 0 rfl) ?_
            refine lv_if_eq (tgt := 76) hx hb dX4_day_66 (by decide) (fun c_66 => ?_) (fun c_66 => ?_)
            · have h := hp_pos c_66 h
              refine lv_aload_n hx hb dX4_day_76 rfl (lv_at hl 2 rfl) ?_
              refine va_get (D := (dC, dI)) (ci := 4) (v := .ref a_n) (C := RX4) (T := TX4) (N := 7) hx hb hts kin_X4_day_X4 hown hK hP 0 rfl rfl 0 (Nat.le_of_ble_eq_true rfl) (hts (.fieldLink RX4 12 "OwnedThings" "now" "LOwnedThings$Web;") (List.mem_of_getElem? (i := 3) rfl)) (fun _ h9 => h9) rfl dX4_day_77 ?_
              obtain ⟨r_80, e_80, h⟩ := ob1_inv h
              refine k_pVi (i0 := 2) (rest := []) ⟨hx, hb, hml, hown, hts⟩ (c_X3_size l dC dI cI cS a_n a_n_kind a_n_owner a_n_from a_n_to a_n_away n_count n_references r_80 e_80) (cwV 0 hts gX4_day_X3_size rfl rfl rfl khd_X3_size ⟨Nat.le_of_ble_eq_true rfl, Nat.le_of_ble_eq_true rfl⟩) hK hN hP (va_D_fst hD rfl) hS [2] rfl rfl rfl rfl rfl rfl hl.1 rfl (Nat.le_of_ble_eq_true rfl) dX4_day_80 ⟨Nat.zero_le _, Nat.zero_le _⟩ (fun H locs hf_80 hP hS => ?_)
              refine lv_if_ne (tgt := 89) hx hb dX4_day_83 (by decide) (fun c_83 => ?_) (fun c_83 => ?_)
              · have h := hp_neg c_83 h
                refine lv_aload hx hb dX4_day_89 (lv_at hl 1 rfl) ?_
                refine lv_iload_n hx hb dX4_day_91 rfl (lv_at hl 5 rfl) ?_
                refine lv_iload hx hb dX4_day_92 (lv_at hl 6 rfl) ?_
                obtain ⟨r_94, e_94, h⟩ := ob1_inv h
                refine k_pSi (rest := []) ⟨hx, hb, hml, hown, hts⟩ (c_X4_areSortsKnown l dC dI cI cS (sa 0) (sca 0) (sl 0) (sn 0) (sc 0) x3 x4 r_94 e_94) (cwS 3 hts gX4_day_X4_areSortsKnown rfl rfl rfl khd_X4_areSortsKnown ⟨Nat.le_of_ble_eq_true rfl, Nat.le_of_ble_eq_true rfl⟩) hK hN hP (va_D_fst hD rfl) hS [12, 13] rfl rfl rfl hl.1 rfl (Nat.le_of_ble_eq_true rfl) dX4_day_94 ⟨Nat.zero_le _, Nat.zero_le _⟩ (fun H locs hf_94 hP hS => ?_)
                refine lv_if_ne (tgt := 103) hx hb dX4_day_97 (by decide) (fun c_97 => ?_) (fun c_97 => ?_)
                · have h := hp_neg c_97 h
                  refine lv_aload_n hx hb dX4_day_103 rfl (lv_at hl 2 rfl) ?_
                  refine va_get (D := (dC, dI)) (ci := 4) (v := .ref a_t) (C := RX4) (T := TX4) (N := 7) hx hb hts kin_X4_day_X4 hown hK hP 0 rfl rfl 1 (Nat.le_of_ble_eq_true rfl) (hts (.fieldLink RX4 18 "OwnedThings" "trial" "LOwnedThings$Web;") (List.mem_of_getElem? (i := 4) rfl)) (fun _ h9 => h9) rfl dX4_day_104 ?_
                  refine lv_aload_n hx hb dX4_day_107 rfl (lv_at hl 2 rfl) ?_
                  refine va_get (D := (dC, dI)) (ci := 4) (v := .ref a_n) (C := RX4) (T := TX4) (N := 7) hx hb hts kin_X4_day_X4 hown hK hP 0 rfl rfl 0 (Nat.le_of_ble_eq_true rfl) (hts (.fieldLink RX4 12 "OwnedThings" "now" "LOwnedThings$Web;") (List.mem_of_getElem? (i := 3) rfl)) (fun _ h9 => h9) rfl dX4_day_108 ?_
                  obtain ⟨r_111_count, r_111_references, r_111_kind, r_111_owner, r_111_from, r_111_to, e_111, h⟩ := ob6_inv h
                  refine k_wVv (i0 := 7) (rest := []) (ws' := [(a_o, .inr (4, [.ref a_n, .ref a_t, .ref a_d, .ref a_o_sheets, .ref a_rd, .int o_traced, .int (0 : Int32)])), (a_o_sheets, .inl (cS, 4, .inr (.inr (.inr (.inr (fun j => some (sa j))))))), (a_n, .inr (3, [.int n_count, .int n_references, .ref a_n_kind, .ref a_n_owner, .ref a_n_from, .ref a_n_to, .ref a_n_away])), (a_n_kind, .inl (cI, 6, .inl n_kind)), (a_n_owner, .inl (cI, 6, .inl n_owner)), (a_n_from, .inl (cI, 12, .inl n_from)), (a_n_to, .inl (cI, 12, .inl n_to)), (a_t, .inr (3, [.int r_111_count, .int r_111_references, .ref a_t_kind, .ref a_t_owner, .ref a_t_from, .ref a_t_to, .ref a_t_away])), (a_t_kind, .inl (cI, 6, .inl r_111_kind)), (a_t_owner, .inl (cI, 6, .inl r_111_owner)), (a_t_from, .inl (cI, 12, .inl r_111_from)), (a_t_to, .inl (cI, 12, .inl r_111_to)), ((sa 0), .inr (1, [.int (sl 0), .int (sn 0), .ref (sca 0)])), ((sca 0), .inl (cI, 60, .inl (sc 0))), ((sa 1), .inr (1, [.int (sl 1), .int (sn 1), .ref (sca 1)])), ((sca 1), .inl (cI, 60, .inl (sc 1))), ((sa 2), .inr (1, [.int (sl 2), .int (sn 2), .ref (sca 2)])), ((sca 2), .inl (cI, 60, .inl (sc 2))), ((sa 3), .inr (1, [.int (sl 3), .int (sn 3), .ref (sca 3)])), ((sca 3), .inl (cI, 60, .inl (sc 3)))]) ⟨hx, hb, hml, hown, hts⟩ (c_X3_become l dC dI cI cS a_t a_t_kind a_t_owner a_t_from a_t_to a_t_away a_n a_n_kind a_n_owner a_n_from a_n_to a_n_away t_count t_references t_kind t_owner t_from t_to n_count n_references n_kind n_owner n_from n_to r_111_count r_111_references r_111_kind r_111_owner r_111_from r_111_to e_111) (cwV 1 hts gX4_day_X3_become rfl rfl rfl khd_X3_become ⟨Nat.le_of_ble_eq_true rfl, Nat.le_of_ble_eq_true rfl⟩) hK hN hP (va_D_fst hD rfl) hS [7, 8, 9, 10, 11, 2, 3, 4, 5, 6] rfl rfl rfl rfl rfl rfl hl.1 rfl (Nat.le_of_ble_eq_true rfl) dX4_day_111 ⟨Nat.zero_le _, Nat.zero_le _⟩ rfl rfl (fun H locs hf_111 hP hS => ?_)
                  refine lv_aload_n hx hb dX4_day_114 rfl (lv_at hl 2 rfl) ?_
                  refine lv_aload hx hb dX4_day_115 (lv_at hl 1 rfl) ?_
                  refine lv_iload_n hx hb dX4_day_117 rfl (lv_at hl 5 rfl) ?_
                  refine lv_iload hx hb dX4_day_118 (lv_at hl 6 rfl) ?_
                  obtain ⟨r_120, r_120_references, r_120_owner, r_120_from, r_120_to, e_120, h⟩ := ob5_inv h
                  refine k_wVi (i0 := 0) (rest := []) (ws' := [(a_o, .inr (4, [.ref a_n, .ref a_t, .ref a_d, .ref a_o_sheets, .ref a_rd, .int o_traced, .int (0 : Int32)])), (a_o_sheets, .inl (cS, 4, .inr (.inr (.inr (.inr (fun j => some (sa j))))))), (a_n, .inr (3, [.int n_count, .int n_references, .ref a_n_kind, .ref a_n_owner, .ref a_n_from, .ref a_n_to, .ref a_n_away])), (a_n_kind, .inl (cI, 6, .inl n_kind)), (a_n_owner, .inl (cI, 6, .inl n_owner)), (a_n_from, .inl (cI, 12, .inl n_from)), (a_n_to, .inl (cI, 12, .inl n_to)), (a_t, .inr (3, [.int r_111_count, .int r_120_references, .ref a_t_kind, .ref a_t_owner, .ref a_t_from, .ref a_t_to, .ref a_t_away])), (a_t_kind, .inl (cI, 6, .inl r_111_kind)), (a_t_owner, .inl (cI, 6, .inl r_120_owner)), (a_t_from, .inl (cI, 12, .inl r_120_from)), (a_t_to, .inl (cI, 12, .inl r_120_to)), ((sa 0), .inr (1, [.int (sl 0), .int (sn 0), .ref (sca 0)])), ((sca 0), .inl (cI, 60, .inl (sc 0))), ((sa 1), .inr (1, [.int (sl 1), .int (sn 1), .ref (sca 1)])), ((sca 1), .inl (cI, 60, .inl (sc 1))), ((sa 2), .inr (1, [.int (sl 2), .int (sn 2), .ref (sca 2)])), ((sca 2), .inl (cI, 60, .inl (sc 2))), ((sa 3), .inr (1, [.int (sl 3), .int (sn 3), .ref (sca 3)])), ((sca 3), .inl (cI, 60, .inl (sc 3)))]) ⟨hx, hb, hml, hown, hts⟩ (c_X4_firstWrong l dC dI cI cS a_o a_n a_t a_d a_o_sheets a_rd (sa 0) (sca 0) a_t_kind a_t_owner a_t_from a_t_to a_t_away o_traced (0 : Int32) (sl 0) (sn 0) (sc 0) r_111_count r_111_references r_111_owner r_111_from r_111_to x3 x4 r_120 r_120_references r_120_owner r_120_from r_120_to e_120) (cwV 3 hts gX4_day_X4_firstWrong rfl rfl rfl khd_X4_firstWrong ⟨Nat.le_of_ble_eq_true rfl, Nat.le_of_ble_eq_true rfl⟩) hK hN hP (va_D_fst hD rfl) hS [0, 12, 13, 7, 9, 10, 11] rfl rfl rfl rfl rfl rfl hl.1 rfl (Nat.le_of_ble_eq_true rfl) dX4_day_120 ⟨Nat.zero_le _, Nat.zero_le _⟩ rfl rfl (fun H locs hf_120 hP hS => ?_)
                  refine lv_istore (lv' := [(8, .int r_120), (7, .int r_59), (6, .ref (sa 0)), (0, .ref a_o), (1, .int x1), (2, .int x2), (3, .int x3), (4, .int x4), (5, .int x5)]) hx hb dX4_day_123 hl (by decide) rfl (fun ls hl => ?_)
                  refine lv_iload hx hb dX4_day_125 (lv_at hl 8 rfl) ?_
                  refine lv_iconst (v := 1) hx hb dX4_day_127 (by decide) ?_
                  refine lv_icmp_ne (tgt := 134) hx hb dX4_day_128 (by decide) (fun c_128 => ?_) (fun c_128 => ?_)
                  · have h := hp_neg c_128 h
                    refine lv_iload hx hb dX4_day_134 (lv_at hl 0 rfl) ?_
                    refine lv_bipush (v := -9) hx hb dX4_day_136 (by decide) ?_
                    refine lv_icmp_ne (tgt := 150) hx hb dX4_day_138 (by decide) (fun c_138 => ?_) (fun c_138 => ?_)
                    · have h := hp_neg c_138 h
                      refine lv_bipush (v := -100) hx hb dX4_day_150 (by decide) ?_
                      refine lv_iload hx hb dX4_day_152 (lv_at hl 0 rfl) ?_
                      refine lv_isub hx hb dX4_day_154 ?_
                      obtain ⟨rfl, rfl, rfl, rfl, rfl, rfl, rfl, rfl⟩ := pj8 (Option.some.inj h)
                      exact W.iret hx hb hr (fun t ht _ => kQ.mk ht hP trivial (hS.F ht)) hS.2.2 dX4_day_155
                    · have h := hp_pos c_138 h
                      refine lv_aload_n hx hb dX4_day_141 rfl (lv_at hl 3 rfl) ?_
                      refine lv_iload hx hb dX4_day_142 (lv_at hl 8 rfl) ?_
                      obtain ⟨r_144, e_144, h⟩ := ob1_inv h
                      refine k_pVi (i0 := 0) (rest := []) ⟨hx, hb, hml, hown, hts⟩ (c_X4_afterDay l dC dI cI cS a_o a_n a_t a_d a_o_sheets a_rd a_t_kind a_t_owner a_t_from a_t_to a_t_away o_traced (0 : Int32) r_111_count r_120_references r_111_kind r_120_owner r_120_from r_120_to x5 r_144 e_144) (cwV 1 hts gX4_day_X4_afterDay rfl rfl rfl khd_X4_afterDay ⟨Nat.le_of_ble_eq_true rfl, Nat.le_of_ble_eq_true rfl⟩) hK hN hP (va_D_fst hD rfl) hS [0, 7, 8, 9, 10, 11] rfl rfl rfl rfl rfl rfl hl.1 rfl (Nat.le_of_ble_eq_true rfl) dX4_day_144 ⟨Nat.zero_le _, Nat.zero_le _⟩ (fun H locs hf_144 hP hS => ?_)
                      refine lv_goto (tgt := 155) hx hb dX4_day_147 (by decide) ?_
                      obtain ⟨rfl, rfl, rfl, rfl, rfl, rfl, rfl, rfl⟩ := pj8 (Option.some.inj h)
                      exact W.iret hx hb hr (fun t ht _ => kQ.mk ht hP trivial (hS.F ht)) hS.2.2 dX4_day_155
                  · have h := hp_pos c_128 h
                    refine lv_iload hx hb dX4_day_131 (lv_at hl 0 rfl) ?_
                    obtain ⟨rfl, rfl, rfl, rfl, rfl, rfl, rfl, rfl⟩ := pj8 (Option.some.inj h)
                    exact W.iret hx hb hr (fun t ht _ => kQ.mk ht hP trivial (hS.F ht)) hS.2.2 dX4_day_133
                · have h := hp_pos c_97 h
                  refine lv_bipush (v := -2) hx hb dX4_day_100 (by decide) ?_
                  obtain ⟨rfl, rfl, rfl, rfl, rfl, rfl, rfl, rfl⟩ := pj8 (Option.some.inj h)
                  exact W.iret hx hb hr (fun t ht _ => kQ.mk ht hP trivial (hS.F ht)) hS.2.2 dX4_day_102
              · have h := hp_pos c_83 h
                refine lv_bipush (v := -3) hx hb dX4_day_86 (by decide) ?_
                obtain ⟨rfl, rfl, rfl, rfl, rfl, rfl, rfl, rfl⟩ := pj8 (Option.some.inj h)
                exact W.iret hx hb hr (fun t ht _ => kQ.mk ht hP trivial (hS.F ht)) hS.2.2 dX4_day_88
            · have h := hp_neg c_66 h
              refine lv_aload_n hx hb dX4_day_69 rfl (lv_at hl 2 rfl) ?_
              refine lv_iload hx hb dX4_day_70 (lv_at hl 0 rfl) ?_
              obtain ⟨r_72, r_72_lastFault, e_72, h⟩ := ob2_inv h
              refine k_wVi (i0 := 0) (rest := []) (ws' := [(a_o, .inr (4, [.ref a_n, .ref a_t, .ref a_d, .ref a_o_sheets, .ref a_rd, .int o_traced, .int r_72_lastFault])), (a_o_sheets, .inl (cS, 4, .inr (.inr (.inr (.inr (fun j => some (sa j))))))), (a_n, .inr (3, [.int n_count, .int n_references, .ref a_n_kind, .ref a_n_owner, .ref a_n_from, .ref a_n_to, .ref a_n_away])), (a_n_kind, .inl (cI, 6, .inl n_kind)), (a_n_owner, .inl (cI, 6, .inl n_owner)), (a_n_from, .inl (cI, 12, .inl n_from)), (a_n_to, .inl (cI, 12, .inl n_to)), (a_t, .inr (3, [.int t_count, .int t_references, .ref a_t_kind, .ref a_t_owner, .ref a_t_from, .ref a_t_to, .ref a_t_away])), (a_t_kind, .inl (cI, 6, .inl t_kind)), (a_t_owner, .inl (cI, 6, .inl t_owner)), (a_t_from, .inl (cI, 12, .inl t_from)), (a_t_to, .inl (cI, 12, .inl t_to)), ((sa 0), .inr (1, [.int (sl 0), .int (sn 0), .ref (sca 0)])), ((sca 0), .inl (cI, 60, .inl (sc 0))), ((sa 1), .inr (1, [.int (sl 1), .int (sn 1), .ref (sca 1)])), ((sca 1), .inl (cI, 60, .inl (sc 1))), ((sa 2), .inr (1, [.int (sl 2), .int (sn 2), .ref (sca 2)])), ((sca 2), .inl (cI, 60, .inl (sc 2))), ((sa 3), .inr (1, [.int (sl 3), .int (sn 3), .ref (sca 3)])), ((sca 3), .inl (cI, 60, .inl (sc 3)))]) ⟨hx, hb, hml, hown, hts⟩ (c_X4_failed l dC dI cI cS a_o a_n a_t a_d a_o_sheets a_rd o_traced (0 : Int32) r_59 r_72 r_72_lastFault e_72) (cwV 1 hts gX4_day_X4_failed rfl rfl rfl khd_X4_failed ⟨Nat.le_of_ble_eq_true rfl, Nat.le_of_ble_eq_true rfl⟩) hK hN hP (va_D_fst hD rfl) hS [0] rfl rfl rfl rfl rfl rfl hl.1 rfl (Nat.le_of_ble_eq_true rfl) dX4_day_72 ⟨Nat.zero_le _, Nat.zero_le _⟩ rfl rfl (fun H locs hf_72 hP hS => ?_)
              obtain ⟨rfl, rfl, rfl, rfl, rfl, rfl, rfl, rfl⟩ := pj8 (Option.some.inj h)
              exact W.iret hx hb hr (fun t ht _ => kQ.mk ht hP trivial (hS.F ht)) hS.2.2 dX4_day_75
          · rw [k_48] at h
            refine lv_sa k_48 ?_
            refine lv_astore (lv' := [(6, .ref (sa 1)), (0, .ref a_o), (1, .int x1), (2, .int x2), (3, .int x3), (4, .int x4), (5, .int x5)]) hx hb dX4_day_49 hl (by decide) rfl (fun ls hl => ?_)
            refine lv_aload hx hb dX4_day_51 (lv_at hl 0 rfl) ?_
            refine lv_iload_n hx hb dX4_day_53 rfl (lv_at hl 3 rfl) ?_
            refine lv_iload_n hx hb dX4_day_54 rfl (lv_at hl 4 rfl) ?_
            refine lv_iconst (v := 3) hx hb dX4_day_55 (by decide) ?_
            refine lv_iload hx hb dX4_day_56 (lv_at hl 5 rfl) ?_
            refine lv_imul hx hb dX4_day_58 ?_
            obtain ⟨r_59, e_59, h⟩ := ob1_inv h
            refine k_pVi (i0 := 14) (rest := []) ⟨hx, hb, hml, hown, hts⟩ (c_X1_rowFault l dC dI cI cS (sa 1) (sca 1) (sl 1) (sn 1) x2 x3 ((3 : Int32) * x4) r_59 e_59) (cwV 3 hts gX4_day_X1_rowFault rfl rfl rfl khd_X1_rowFault ⟨Nat.le_of_ble_eq_true rfl, Nat.le_of_ble_eq_true rfl⟩) hK hN hP (va_D_fst hD rfl) hS [14] rfl rfl rfl rfl rfl rfl hl.1 rfl (Nat.le_of_ble_eq_true rfl) dX4_day_59 ⟨Nat.zero_le _, Nat.zero_le _⟩ (fun H locs hf_59 hP hS => ?_)
            refine lv_istore (lv' := [(7, .int r_59), (6, .ref (sa 1)), (0, .ref a_o), (1, .int x1), (2, .int x2), (3, .int x3), (4, .int x4), (5, .int x5)]) hx hb dX4_day_62 hl (by decide) rfl (fun ls hl => ?_)
            refine lv_iload hx hb dX4_day_64 (lv_at hl 0 rfl) ?_
            refine lv_if_eq (tgt := 76) hx hb dX4_day_66 (by decide) (fun c_66 => ?_) (fun c_66 => ?_)
            · have h := hp_pos c_66 h
              refine lv_aload_n hx hb dX4_day_76 rfl (lv_at hl 2 rfl) ?_
              refine va_get (D := (dC, dI)) (ci := 4) (v := .ref a_n) (C := RX4) (T := TX4) (N := 7) hx hb hts kin_X4_day_X4 hown hK hP 0 rfl rfl 0 (Nat.le_of_ble_eq_true rfl) (hts (.fieldLink RX4 12 "OwnedThings" "now" "LOwnedThings$Web;") (List.mem_of_getElem? (i := 3) rfl)) (fun _ h9 => h9) rfl dX4_day_77 ?_
              obtain ⟨r_80, e_80, h⟩ := ob1_inv h
              refine k_pVi (i0 := 2) (rest := []) ⟨hx, hb, hml, hown, hts⟩ (c_X3_size l dC dI cI cS a_n a_n_kind a_n_owner a_n_from a_n_to a_n_away n_count n_references r_80 e_80) (cwV 0 hts gX4_day_X3_size rfl rfl rfl khd_X3_size ⟨Nat.le_of_ble_eq_true rfl, Nat.le_of_ble_eq_true rfl⟩) hK hN hP (va_D_fst hD rfl) hS [2] rfl rfl rfl rfl rfl rfl hl.1 rfl (Nat.le_of_ble_eq_true rfl) dX4_day_80 ⟨Nat.zero_le _, Nat.zero_le _⟩ (fun H locs hf_80 hP hS => ?_)
              refine lv_if_ne (tgt := 89) hx hb dX4_day_83 (by decide) (fun c_83 => ?_) (fun c_83 => ?_)
              · have h := hp_neg c_83 h
                refine lv_aload hx hb dX4_day_89 (lv_at hl 1 rfl) ?_
                refine lv_iload_n hx hb dX4_day_91 rfl (lv_at hl 5 rfl) ?_
                refine lv_iload hx hb dX4_day_92 (lv_at hl 6 rfl) ?_
                obtain ⟨r_94, e_94, h⟩ := ob1_inv h
                refine k_pSi (rest := []) ⟨hx, hb, hml, hown, hts⟩ (c_X4_areSortsKnown l dC dI cI cS (sa 1) (sca 1) (sl 1) (sn 1) (sc 1) x3 x4 r_94 e_94) (cwS 3 hts gX4_day_X4_areSortsKnown rfl rfl rfl khd_X4_areSortsKnown ⟨Nat.le_of_ble_eq_true rfl, Nat.le_of_ble_eq_true rfl⟩) hK hN hP (va_D_fst hD rfl) hS [14, 15] rfl rfl rfl hl.1 rfl (Nat.le_of_ble_eq_true rfl) dX4_day_94 ⟨Nat.zero_le _, Nat.zero_le _⟩ (fun H locs hf_94 hP hS => ?_)
                refine lv_if_ne (tgt := 103) hx hb dX4_day_97 (by decide) (fun c_97 => ?_) (fun c_97 => ?_)
                · have h := hp_neg c_97 h
                  refine lv_aload_n hx hb dX4_day_103 rfl (lv_at hl 2 rfl) ?_
                  refine va_get (D := (dC, dI)) (ci := 4) (v := .ref a_t) (C := RX4) (T := TX4) (N := 7) hx hb hts kin_X4_day_X4 hown hK hP 0 rfl rfl 1 (Nat.le_of_ble_eq_true rfl) (hts (.fieldLink RX4 18 "OwnedThings" "trial" "LOwnedThings$Web;") (List.mem_of_getElem? (i := 4) rfl)) (fun _ h9 => h9) rfl dX4_day_104 ?_
                  refine lv_aload_n hx hb dX4_day_107 rfl (lv_at hl 2 rfl) ?_
                  refine va_get (D := (dC, dI)) (ci := 4) (v := .ref a_n) (C := RX4) (T := TX4) (N := 7) hx hb hts kin_X4_day_X4 hown hK hP 0 rfl rfl 0 (Nat.le_of_ble_eq_true rfl) (hts (.fieldLink RX4 12 "OwnedThings" "now" "LOwnedThings$Web;") (List.mem_of_getElem? (i := 3) rfl)) (fun _ h9 => h9) rfl dX4_day_108 ?_
                  obtain ⟨r_111_count, r_111_references, r_111_kind, r_111_owner, r_111_from, r_111_to, e_111, h⟩ := ob6_inv h
                  refine k_wVv (i0 := 7) (rest := []) (ws' := [(a_o, .inr (4, [.ref a_n, .ref a_t, .ref a_d, .ref a_o_sheets, .ref a_rd, .int o_traced, .int (0 : Int32)])), (a_o_sheets, .inl (cS, 4, .inr (.inr (.inr (.inr (fun j => some (sa j))))))), (a_n, .inr (3, [.int n_count, .int n_references, .ref a_n_kind, .ref a_n_owner, .ref a_n_from, .ref a_n_to, .ref a_n_away])), (a_n_kind, .inl (cI, 6, .inl n_kind)), (a_n_owner, .inl (cI, 6, .inl n_owner)), (a_n_from, .inl (cI, 12, .inl n_from)), (a_n_to, .inl (cI, 12, .inl n_to)), (a_t, .inr (3, [.int r_111_count, .int r_111_references, .ref a_t_kind, .ref a_t_owner, .ref a_t_from, .ref a_t_to, .ref a_t_away])), (a_t_kind, .inl (cI, 6, .inl r_111_kind)), (a_t_owner, .inl (cI, 6, .inl r_111_owner)), (a_t_from, .inl (cI, 12, .inl r_111_from)), (a_t_to, .inl (cI, 12, .inl r_111_to)), ((sa 0), .inr (1, [.int (sl 0), .int (sn 0), .ref (sca 0)])), ((sca 0), .inl (cI, 60, .inl (sc 0))), ((sa 1), .inr (1, [.int (sl 1), .int (sn 1), .ref (sca 1)])), ((sca 1), .inl (cI, 60, .inl (sc 1))), ((sa 2), .inr (1, [.int (sl 2), .int (sn 2), .ref (sca 2)])), ((sca 2), .inl (cI, 60, .inl (sc 2))), ((sa 3), .inr (1, [.int (sl 3), .int (sn 3), .ref (sca 3)])), ((sca 3), .inl (cI, 60, .inl (sc 3)))]) ⟨hx, hb, hml, hown, hts⟩ (c_X3_become l dC dI cI cS a_t a_t_kind a_t_owner a_t_from a_t_to a_t_away a_n a_n_kind a_n_owner a_n_from a_n_to a_n_away t_count t_references t_kind t_owner t_from t_to n_count n_references n_kind n_owner n_from n_to r_111_count r_111_references r_111_kind r_111_owner r_111_from r_111_to e_111) (cwV 1 hts gX4_day_X3_become rfl rfl rfl khd_X3_become ⟨Nat.le_of_ble_eq_true rfl, Nat.le_of_ble_eq_true rfl⟩) hK hN hP (va_D_fst hD rfl) hS [7, 8, 9, 10, 11, 2, 3, 4, 5, 6] rfl rfl rfl rfl rfl rfl hl.1 rfl (Nat.le_of_ble_eq_true rfl) dX4_day_111 ⟨Nat.zero_le _, Nat.zero_le _⟩ rfl rfl (fun H locs hf_111 hP hS => ?_)
                  refine lv_aload_n hx hb dX4_day_114 rfl (lv_at hl 2 rfl) ?_
                  refine lv_aload hx hb dX4_day_115 (lv_at hl 1 rfl) ?_
                  refine lv_iload_n hx hb dX4_day_117 rfl (lv_at hl 5 rfl) ?_
                  refine lv_iload hx hb dX4_day_118 (lv_at hl 6 rfl) ?_
                  obtain ⟨r_120, r_120_references, r_120_owner, r_120_from, r_120_to, e_120, h⟩ := ob5_inv h
                  refine k_wVi (i0 := 0) (rest := []) (ws' := [(a_o, .inr (4, [.ref a_n, .ref a_t, .ref a_d, .ref a_o_sheets, .ref a_rd, .int o_traced, .int (0 : Int32)])), (a_o_sheets, .inl (cS, 4, .inr (.inr (.inr (.inr (fun j => some (sa j))))))), (a_n, .inr (3, [.int n_count, .int n_references, .ref a_n_kind, .ref a_n_owner, .ref a_n_from, .ref a_n_to, .ref a_n_away])), (a_n_kind, .inl (cI, 6, .inl n_kind)), (a_n_owner, .inl (cI, 6, .inl n_owner)), (a_n_from, .inl (cI, 12, .inl n_from)), (a_n_to, .inl (cI, 12, .inl n_to)), (a_t, .inr (3, [.int r_111_count, .int r_120_references, .ref a_t_kind, .ref a_t_owner, .ref a_t_from, .ref a_t_to, .ref a_t_away])), (a_t_kind, .inl (cI, 6, .inl r_111_kind)), (a_t_owner, .inl (cI, 6, .inl r_120_owner)), (a_t_from, .inl (cI, 12, .inl r_120_from)), (a_t_to, .inl (cI, 12, .inl r_120_to)), ((sa 0), .inr (1, [.int (sl 0), .int (sn 0), .ref (sca 0)])), ((sca 0), .inl (cI, 60, .inl (sc 0))), ((sa 1), .inr (1, [.int (sl 1), .int (sn 1), .ref (sca 1)])), ((sca 1), .inl (cI, 60, .inl (sc 1))), ((sa 2), .inr (1, [.int (sl 2), .int (sn 2), .ref (sca 2)])), ((sca 2), .inl (cI, 60, .inl (sc 2))), ((sa 3), .inr (1, [.int (sl 3), .int (sn 3), .ref (sca 3)])), ((sca 3), .inl (cI, 60, .inl (sc 3)))]) ⟨hx, hb, hml, hown, hts⟩ (c_X4_firstWrong l dC dI cI cS a_o a_n a_t a_d a_o_sheets a_rd (sa 1) (sca 1) a_t_kind a_t_owner a_t_from a_t_to a_t_away o_traced (0 : Int32) (sl 1) (sn 1) (sc 1) r_111_count r_111_references r_111_owner r_111_from r_111_to x3 x4 r_120 r_120_references r_120_owner r_120_from r_120_to e_120) (cwV 3 hts gX4_day_X4_firstWrong rfl rfl rfl khd_X4_firstWrong ⟨Nat.le_of_ble_eq_true rfl, Nat.le_of_ble_eq_true rfl⟩) hK hN hP (va_D_fst hD rfl) hS [0, 14, 15, 7, 9, 10, 11] rfl rfl rfl rfl rfl rfl hl.1 rfl (Nat.le_of_ble_eq_true rfl) dX4_day_120 ⟨Nat.zero_le _, Nat.zero_le _⟩ rfl rfl (fun H locs hf_120 hP hS => ?_)
                  refine lv_istore (lv' := [(8, .int r_120), (7, .int r_59), (6, .ref (sa 1)), (0, .ref a_o), (1, .int x1), (2, .int x2), (3, .int x3), (4, .int x4), (5, .int x5)]) hx hb dX4_day_123 hl (by decide) rfl (fun ls hl => ?_)
                  refine lv_iload hx hb dX4_day_125 (lv_at hl 8 rfl) ?_
                  refine lv_iconst (v := 1) hx hb dX4_day_127 (by decide) ?_
                  refine lv_icmp_ne (tgt := 134) hx hb dX4_day_128 (by decide) (fun c_128 => ?_) (fun c_128 => ?_)
                  · have h := hp_neg c_128 h
                    refine lv_iload hx hb dX4_day_134 (lv_at hl 0 rfl) ?_
                    refine lv_bipush (v := -9) hx hb dX4_day_136 (by decide) ?_
                    refine lv_icmp_ne (tgt := 150) hx hb dX4_day_138 (by decide) (fun c_138 => ?_) (fun c_138 => ?_)
                    · have h := hp_neg c_138 h
                      refine lv_bipush (v := -100) hx hb dX4_day_150 (by decide) ?_
                      refine lv_iload hx hb dX4_day_152 (lv_at hl 0 rfl) ?_
                      refine lv_isub hx hb dX4_day_154 ?_
                      obtain ⟨rfl, rfl, rfl, rfl, rfl, rfl, rfl, rfl⟩ := pj8 (Option.some.inj h)
                      exact W.iret hx hb hr (fun t ht _ => kQ.mk ht hP trivial (hS.F ht)) hS.2.2 dX4_day_155
                    · have h := hp_pos c_138 h
                      refine lv_aload_n hx hb dX4_day_141 rfl (lv_at hl 3 rfl) ?_
                      refine lv_iload hx hb dX4_day_142 (lv_at hl 8 rfl) ?_
                      obtain ⟨r_144, e_144, h⟩ := ob1_inv h
                      refine k_pVi (i0 := 0) (rest := []) ⟨hx, hb, hml, hown, hts⟩ (c_X4_afterDay l dC dI cI cS a_o a_n a_t a_d a_o_sheets a_rd a_t_kind a_t_owner a_t_from a_t_to a_t_away o_traced (0 : Int32) r_111_count r_120_references r_111_kind r_120_owner r_120_from r_120_to x5 r_144 e_144) (cwV 1 hts gX4_day_X4_afterDay rfl rfl rfl khd_X4_afterDay ⟨Nat.le_of_ble_eq_true rfl, Nat.le_of_ble_eq_true rfl⟩) hK hN hP (va_D_fst hD rfl) hS [0, 7, 8, 9, 10, 11] rfl rfl rfl rfl rfl rfl hl.1 rfl (Nat.le_of_ble_eq_true rfl) dX4_day_144 ⟨Nat.zero_le _, Nat.zero_le _⟩ (fun H locs hf_144 hP hS => ?_)
                      refine lv_goto (tgt := 155) hx hb dX4_day_147 (by decide) ?_
                      obtain ⟨rfl, rfl, rfl, rfl, rfl, rfl, rfl, rfl⟩ := pj8 (Option.some.inj h)
                      exact W.iret hx hb hr (fun t ht _ => kQ.mk ht hP trivial (hS.F ht)) hS.2.2 dX4_day_155
                  · have h := hp_pos c_128 h
                    refine lv_iload hx hb dX4_day_131 (lv_at hl 0 rfl) ?_
                    obtain ⟨rfl, rfl, rfl, rfl, rfl, rfl, rfl, rfl⟩ := pj8 (Option.some.inj h)
                    exact W.iret hx hb hr (fun t ht _ => kQ.mk ht hP trivial (hS.F ht)) hS.2.2 dX4_day_133
                · have h := hp_pos c_97 h
                  refine lv_bipush (v := -2) hx hb dX4_day_100 (by decide) ?_
                  obtain ⟨rfl, rfl, rfl, rfl, rfl, rfl, rfl, rfl⟩ := pj8 (Option.some.inj h)
                  exact W.iret hx hb hr (fun t ht _ => kQ.mk ht hP trivial (hS.F ht)) hS.2.2 dX4_day_102
              · have h := hp_pos c_83 h
                refine lv_bipush (v := -3) hx hb dX4_day_86 (by decide) ?_
                obtain ⟨rfl, rfl, rfl, rfl, rfl, rfl, rfl, rfl⟩ := pj8 (Option.some.inj h)
                exact W.iret hx hb hr (fun t ht _ => kQ.mk ht hP trivial (hS.F ht)) hS.2.2 dX4_day_88
            · have h := hp_neg c_66 h
              refine lv_aload_n hx hb dX4_day_69 rfl (lv_at hl 2 rfl) ?_
              refine lv_iload hx hb dX4_day_70 (lv_at hl 0 rfl) ?_
              obtain ⟨r_72, r_72_lastFault, e_72, h⟩ := ob2_inv h
              refine k_wVi (i0 := 0) (rest := []) (ws' := [(a_o, .inr (4, [.ref a_n, .ref a_t, .ref a_d, .ref a_o_sheets, .ref a_rd, .int o_traced, .int r_72_lastFault])), (a_o_sheets, .inl (cS, 4, .inr (.inr (.inr (.inr (fun j => some (sa j))))))), (a_n, .inr (3, [.int n_count, .int n_references, .ref a_n_kind, .ref a_n_owner, .ref a_n_from, .ref a_n_to, .ref a_n_away])), (a_n_kind, .inl (cI, 6, .inl n_kind)), (a_n_owner, .inl (cI, 6, .inl n_owner)), (a_n_from, .inl (cI, 12, .inl n_from)), (a_n_to, .inl (cI, 12, .inl n_to)), (a_t, .inr (3, [.int t_count, .int t_references, .ref a_t_kind, .ref a_t_owner, .ref a_t_from, .ref a_t_to, .ref a_t_away])), (a_t_kind, .inl (cI, 6, .inl t_kind)), (a_t_owner, .inl (cI, 6, .inl t_owner)), (a_t_from, .inl (cI, 12, .inl t_from)), (a_t_to, .inl (cI, 12, .inl t_to)), ((sa 0), .inr (1, [.int (sl 0), .int (sn 0), .ref (sca 0)])), ((sca 0), .inl (cI, 60, .inl (sc 0))), ((sa 1), .inr (1, [.int (sl 1), .int (sn 1), .ref (sca 1)])), ((sca 1), .inl (cI, 60, .inl (sc 1))), ((sa 2), .inr (1, [.int (sl 2), .int (sn 2), .ref (sca 2)])), ((sca 2), .inl (cI, 60, .inl (sc 2))), ((sa 3), .inr (1, [.int (sl 3), .int (sn 3), .ref (sca 3)])), ((sca 3), .inl (cI, 60, .inl (sc 3)))]) ⟨hx, hb, hml, hown, hts⟩ (c_X4_failed l dC dI cI cS a_o a_n a_t a_d a_o_sheets a_rd o_traced (0 : Int32) r_59 r_72 r_72_lastFault e_72) (cwV 1 hts gX4_day_X4_failed rfl rfl rfl khd_X4_failed ⟨Nat.le_of_ble_eq_true rfl, Nat.le_of_ble_eq_true rfl⟩) hK hN hP (va_D_fst hD rfl) hS [0] rfl rfl rfl rfl rfl rfl hl.1 rfl (Nat.le_of_ble_eq_true rfl) dX4_day_72 ⟨Nat.zero_le _, Nat.zero_le _⟩ rfl rfl (fun H locs hf_72 hP hS => ?_)
              obtain ⟨rfl, rfl, rfl, rfl, rfl, rfl, rfl, rfl⟩ := pj8 (Option.some.inj h)
              exact W.iret hx hb hr (fun t ht _ => kQ.mk ht hP trivial (hS.F ht)) hS.2.2 dX4_day_75
          · rw [k_48] at h
            refine lv_sa k_48 ?_
            refine lv_astore (lv' := [(6, .ref (sa 2)), (0, .ref a_o), (1, .int x1), (2, .int x2), (3, .int x3), (4, .int x4), (5, .int x5)]) hx hb dX4_day_49 hl (by decide) rfl (fun ls hl => ?_)
            refine lv_aload hx hb dX4_day_51 (lv_at hl 0 rfl) ?_
            refine lv_iload_n hx hb dX4_day_53 rfl (lv_at hl 3 rfl) ?_
            refine lv_iload_n hx hb dX4_day_54 rfl (lv_at hl 4 rfl) ?_
            refine lv_iconst (v := 3) hx hb dX4_day_55 (by decide) ?_
            refine lv_iload hx hb dX4_day_56 (lv_at hl 5 rfl) ?_
            refine lv_imul hx hb dX4_day_58 ?_
            obtain ⟨r_59, e_59, h⟩ := ob1_inv h
            refine k_pVi (i0 := 16) (rest := []) ⟨hx, hb, hml, hown, hts⟩ (c_X1_rowFault l dC dI cI cS (sa 2) (sca 2) (sl 2) (sn 2) x2 x3 ((3 : Int32) * x4) r_59 e_59) (cwV 3 hts gX4_day_X1_rowFault rfl rfl rfl khd_X1_rowFault ⟨Nat.le_of_ble_eq_true rfl, Nat.le_of_ble_eq_true rfl⟩) hK hN hP (va_D_fst hD rfl) hS [16] rfl rfl rfl rfl rfl rfl hl.1 rfl (Nat.le_of_ble_eq_true rfl) dX4_day_59 ⟨Nat.zero_le _, Nat.zero_le _⟩ (fun H locs hf_59 hP hS => ?_)
            refine lv_istore (lv' := [(7, .int r_59), (6, .ref (sa 2)), (0, .ref a_o), (1, .int x1), (2, .int x2), (3, .int x3), (4, .int x4), (5, .int x5)]) hx hb dX4_day_62 hl (by decide) rfl (fun ls hl => ?_)
            refine lv_iload hx hb dX4_day_64 (lv_at hl 0 rfl) ?_
            refine lv_if_eq (tgt := 76) hx hb dX4_day_66 (by decide) (fun c_66 => ?_) (fun c_66 => ?_)
            · have h := hp_pos c_66 h
              refine lv_aload_n hx hb dX4_day_76 rfl (lv_at hl 2 rfl) ?_
              refine va_get (D := (dC, dI)) (ci := 4) (v := .ref a_n) (C := RX4) (T := TX4) (N := 7) hx hb hts kin_X4_day_X4 hown hK hP 0 rfl rfl 0 (Nat.le_of_ble_eq_true rfl) (hts (.fieldLink RX4 12 "OwnedThings" "now" "LOwnedThings$Web;") (List.mem_of_getElem? (i := 3) rfl)) (fun _ h9 => h9) rfl dX4_day_77 ?_
              obtain ⟨r_80, e_80, h⟩ := ob1_inv h
              refine k_pVi (i0 := 2) (rest := []) ⟨hx, hb, hml, hown, hts⟩ (c_X3_size l dC dI cI cS a_n a_n_kind a_n_owner a_n_from a_n_to a_n_away n_count n_references r_80 e_80) (cwV 0 hts gX4_day_X3_size rfl rfl rfl khd_X3_size ⟨Nat.le_of_ble_eq_true rfl, Nat.le_of_ble_eq_true rfl⟩) hK hN hP (va_D_fst hD rfl) hS [2] rfl rfl rfl rfl rfl rfl hl.1 rfl (Nat.le_of_ble_eq_true rfl) dX4_day_80 ⟨Nat.zero_le _, Nat.zero_le _⟩ (fun H locs hf_80 hP hS => ?_)
              refine lv_if_ne (tgt := 89) hx hb dX4_day_83 (by decide) (fun c_83 => ?_) (fun c_83 => ?_)
              · have h := hp_neg c_83 h
                refine lv_aload hx hb dX4_day_89 (lv_at hl 1 rfl) ?_
                refine lv_iload_n hx hb dX4_day_91 rfl (lv_at hl 5 rfl) ?_
                refine lv_iload hx hb dX4_day_92 (lv_at hl 6 rfl) ?_
                obtain ⟨r_94, e_94, h⟩ := ob1_inv h
                refine k_pSi (rest := []) ⟨hx, hb, hml, hown, hts⟩ (c_X4_areSortsKnown l dC dI cI cS (sa 2) (sca 2) (sl 2) (sn 2) (sc 2) x3 x4 r_94 e_94) (cwS 3 hts gX4_day_X4_areSortsKnown rfl rfl rfl khd_X4_areSortsKnown ⟨Nat.le_of_ble_eq_true rfl, Nat.le_of_ble_eq_true rfl⟩) hK hN hP (va_D_fst hD rfl) hS [16, 17] rfl rfl rfl hl.1 rfl (Nat.le_of_ble_eq_true rfl) dX4_day_94 ⟨Nat.zero_le _, Nat.zero_le _⟩ (fun H locs hf_94 hP hS => ?_)
                refine lv_if_ne (tgt := 103) hx hb dX4_day_97 (by decide) (fun c_97 => ?_) (fun c_97 => ?_)
                · have h := hp_neg c_97 h
                  refine lv_aload_n hx hb dX4_day_103 rfl (lv_at hl 2 rfl) ?_
                  refine va_get (D := (dC, dI)) (ci := 4) (v := .ref a_t) (C := RX4) (T := TX4) (N := 7) hx hb hts kin_X4_day_X4 hown hK hP 0 rfl rfl 1 (Nat.le_of_ble_eq_true rfl) (hts (.fieldLink RX4 18 "OwnedThings" "trial" "LOwnedThings$Web;") (List.mem_of_getElem? (i := 4) rfl)) (fun _ h9 => h9) rfl dX4_day_104 ?_
                  refine lv_aload_n hx hb dX4_day_107 rfl (lv_at hl 2 rfl) ?_
                  refine va_get (D := (dC, dI)) (ci := 4) (v := .ref a_n) (C := RX4) (T := TX4) (N := 7) hx hb hts kin_X4_day_X4 hown hK hP 0 rfl rfl 0 (Nat.le_of_ble_eq_true rfl) (hts (.fieldLink RX4 12 "OwnedThings" "now" "LOwnedThings$Web;") (List.mem_of_getElem? (i := 3) rfl)) (fun _ h9 => h9) rfl dX4_day_108 ?_
                  obtain ⟨r_111_count, r_111_references, r_111_kind, r_111_owner, r_111_from, r_111_to, e_111, h⟩ := ob6_inv h
                  refine k_wVv (i0 := 7) (rest := []) (ws' := [(a_o, .inr (4, [.ref a_n, .ref a_t, .ref a_d, .ref a_o_sheets, .ref a_rd, .int o_traced, .int (0 : Int32)])), (a_o_sheets, .inl (cS, 4, .inr (.inr (.inr (.inr (fun j => some (sa j))))))), (a_n, .inr (3, [.int n_count, .int n_references, .ref a_n_kind, .ref a_n_owner, .ref a_n_from, .ref a_n_to, .ref a_n_away])), (a_n_kind, .inl (cI, 6, .inl n_kind)), (a_n_owner, .inl (cI, 6, .inl n_owner)), (a_n_from, .inl (cI, 12, .inl n_from)), (a_n_to, .inl (cI, 12, .inl n_to)), (a_t, .inr (3, [.int r_111_count, .int r_111_references, .ref a_t_kind, .ref a_t_owner, .ref a_t_from, .ref a_t_to, .ref a_t_away])), (a_t_kind, .inl (cI, 6, .inl r_111_kind)), (a_t_owner, .inl (cI, 6, .inl r_111_owner)), (a_t_from, .inl (cI, 12, .inl r_111_from)), (a_t_to, .inl (cI, 12, .inl r_111_to)), ((sa 0), .inr (1, [.int (sl 0), .int (sn 0), .ref (sca 0)])), ((sca 0), .inl (cI, 60, .inl (sc 0))), ((sa 1), .inr (1, [.int (sl 1), .int (sn 1), .ref (sca 1)])), ((sca 1), .inl (cI, 60, .inl (sc 1))), ((sa 2), .inr (1, [.int (sl 2), .int (sn 2), .ref (sca 2)])), ((sca 2), .inl (cI, 60, .inl (sc 2))), ((sa 3), .inr (1, [.int (sl 3), .int (sn 3), .ref (sca 3)])), ((sca 3), .inl (cI, 60, .inl (sc 3)))]) ⟨hx, hb, hml, hown, hts⟩ (c_X3_become l dC dI cI cS a_t a_t_kind a_t_owner a_t_from a_t_to a_t_away a_n a_n_kind a_n_owner a_n_from a_n_to a_n_away t_count t_references t_kind t_owner t_from t_to n_count n_references n_kind n_owner n_from n_to r_111_count r_111_references r_111_kind r_111_owner r_111_from r_111_to e_111) (cwV 1 hts gX4_day_X3_become rfl rfl rfl khd_X3_become ⟨Nat.le_of_ble_eq_true rfl, Nat.le_of_ble_eq_true rfl⟩) hK hN hP (va_D_fst hD rfl) hS [7, 8, 9, 10, 11, 2, 3, 4, 5, 6] rfl rfl rfl rfl rfl rfl hl.1 rfl (Nat.le_of_ble_eq_true rfl) dX4_day_111 ⟨Nat.zero_le _, Nat.zero_le _⟩ rfl rfl (fun H locs hf_111 hP hS => ?_)
                  refine lv_aload_n hx hb dX4_day_114 rfl (lv_at hl 2 rfl) ?_
                  refine lv_aload hx hb dX4_day_115 (lv_at hl 1 rfl) ?_
                  refine lv_iload_n hx hb dX4_day_117 rfl (lv_at hl 5 rfl) ?_
                  refine lv_iload hx hb dX4_day_118 (lv_at hl 6 rfl) ?_
                  obtain ⟨r_120, r_120_references, r_120_owner, r_120_from, r_120_to, e_120, h⟩ := ob5_inv h
                  refine k_wVi (i0 := 0) (rest := []) (ws' := [(a_o, .inr (4, [.ref a_n, .ref a_t, .ref a_d, .ref a_o_sheets, .ref a_rd, .int o_traced, .int (0 : Int32)])), (a_o_sheets, .inl (cS, 4, .inr (.inr (.inr (.inr (fun j => some (sa j))))))), (a_n, .inr (3, [.int n_count, .int n_references, .ref a_n_kind, .ref a_n_owner, .ref a_n_from, .ref a_n_to, .ref a_n_away])), (a_n_kind, .inl (cI, 6, .inl n_kind)), (a_n_owner, .inl (cI, 6, .inl n_owner)), (a_n_from, .inl (cI, 12, .inl n_from)), (a_n_to, .inl (cI, 12, .inl n_to)), (a_t, .inr (3, [.int r_111_count, .int r_120_references, .ref a_t_kind, .ref a_t_owner, .ref a_t_from, .ref a_t_to, .ref a_t_away])), (a_t_kind, .inl (cI, 6, .inl r_111_kind)), (a_t_owner, .inl (cI, 6, .inl r_120_owner)), (a_t_from, .inl (cI, 12, .inl r_120_from)), (a_t_to, .inl (cI, 12, .inl r_120_to)), ((sa 0), .inr (1, [.int (sl 0), .int (sn 0), .ref (sca 0)])), ((sca 0), .inl (cI, 60, .inl (sc 0))), ((sa 1), .inr (1, [.int (sl 1), .int (sn 1), .ref (sca 1)])), ((sca 1), .inl (cI, 60, .inl (sc 1))), ((sa 2), .inr (1, [.int (sl 2), .int (sn 2), .ref (sca 2)])), ((sca 2), .inl (cI, 60, .inl (sc 2))), ((sa 3), .inr (1, [.int (sl 3), .int (sn 3), .ref (sca 3)])), ((sca 3), .inl (cI, 60, .inl (sc 3)))]) ⟨hx, hb, hml, hown, hts⟩ (c_X4_firstWrong l dC dI cI cS a_o a_n a_t a_d a_o_sheets a_rd (sa 2) (sca 2) a_t_kind a_t_owner a_t_from a_t_to a_t_away o_traced (0 : Int32) (sl 2) (sn 2) (sc 2) r_111_count r_111_references r_111_owner r_111_from r_111_to x3 x4 r_120 r_120_references r_120_owner r_120_from r_120_to e_120) (cwV 3 hts gX4_day_X4_firstWrong rfl rfl rfl khd_X4_firstWrong ⟨Nat.le_of_ble_eq_true rfl, Nat.le_of_ble_eq_true rfl⟩) hK hN hP (va_D_fst hD rfl) hS [0, 16, 17, 7, 9, 10, 11] rfl rfl rfl rfl rfl rfl hl.1 rfl (Nat.le_of_ble_eq_true rfl) dX4_day_120 ⟨Nat.zero_le _, Nat.zero_le _⟩ rfl rfl (fun H locs hf_120 hP hS => ?_)
                  refine lv_istore (lv' := [(8, .int r_120), (7, .int r_59), (6, .ref (sa 2)), (0, .ref a_o), (1, .int x1), (2, .int x2), (3, .int x3), (4, .int x4), (5, .int x5)]) hx hb dX4_day_123 hl (by decide) rfl (fun ls hl => ?_)
                  refine lv_iload hx hb dX4_day_125 (lv_at hl 8 rfl) ?_
                  refine lv_iconst (v := 1) hx hb dX4_day_127 (by decide) ?_
                  refine lv_icmp_ne (tgt := 134) hx hb dX4_day_128 (by decide) (fun c_128 => ?_) (fun c_128 => ?_)
                  · have h := hp_neg c_128 h
                    refine lv_iload hx hb dX4_day_134 (lv_at hl 0 rfl) ?_
                    refine lv_bipush (v := -9) hx hb dX4_day_136 (by decide) ?_
                    refine lv_icmp_ne (tgt := 150) hx hb dX4_day_138 (by decide) (fun c_138 => ?_) (fun c_138 => ?_)
                    · have h := hp_neg c_138 h
                      refine lv_bipush (v := -100) hx hb dX4_day_150 (by decide) ?_
                      refine lv_iload hx hb dX4_day_152 (lv_at hl 0 rfl) ?_
                      refine lv_isub hx hb dX4_day_154 ?_
                      obtain ⟨rfl, rfl, rfl, rfl, rfl, rfl, rfl, rfl⟩ := pj8 (Option.some.inj h)
                      exact W.iret hx hb hr (fun t ht _ => kQ.mk ht hP trivial (hS.F ht)) hS.2.2 dX4_day_155
                    · have h := hp_pos c_138 h
                      refine lv_aload_n hx hb dX4_day_141 rfl (lv_at hl 3 rfl) ?_
                      refine lv_iload hx hb dX4_day_142 (lv_at hl 8 rfl) ?_
                      obtain ⟨r_144, e_144, h⟩ := ob1_inv h
                      refine k_pVi (i0 := 0) (rest := []) ⟨hx, hb, hml, hown, hts⟩ (c_X4_afterDay l dC dI cI cS a_o a_n a_t a_d a_o_sheets a_rd a_t_kind a_t_owner a_t_from a_t_to a_t_away o_traced (0 : Int32) r_111_count r_120_references r_111_kind r_120_owner r_120_from r_120_to x5 r_144 e_144) (cwV 1 hts gX4_day_X4_afterDay rfl rfl rfl khd_X4_afterDay ⟨Nat.le_of_ble_eq_true rfl, Nat.le_of_ble_eq_true rfl⟩) hK hN hP (va_D_fst hD rfl) hS [0, 7, 8, 9, 10, 11] rfl rfl rfl rfl rfl rfl hl.1 rfl (Nat.le_of_ble_eq_true rfl) dX4_day_144 ⟨Nat.zero_le _, Nat.zero_le _⟩ (fun H locs hf_144 hP hS => ?_)
                      refine lv_goto (tgt := 155) hx hb dX4_day_147 (by decide) ?_
                      obtain ⟨rfl, rfl, rfl, rfl, rfl, rfl, rfl, rfl⟩ := pj8 (Option.some.inj h)
                      exact W.iret hx hb hr (fun t ht _ => kQ.mk ht hP trivial (hS.F ht)) hS.2.2 dX4_day_155
                  · have h := hp_pos c_128 h
                    refine lv_iload hx hb dX4_day_131 (lv_at hl 0 rfl) ?_
                    obtain ⟨rfl, rfl, rfl, rfl, rfl, rfl, rfl, rfl⟩ := pj8 (Option.some.inj h)
                    exact W.iret hx hb hr (fun t ht _ => kQ.mk ht hP trivial (hS.F ht)) hS.2.2 dX4_day_133
                · have h := hp_pos c_97 h
                  refine lv_bipush (v := -2) hx hb dX4_day_100 (by decide) ?_
                  obtain ⟨rfl, rfl, rfl, rfl, rfl, rfl, rfl, rfl⟩ := pj8 (Option.some.inj h)
                  exact W.iret hx hb hr (fun t ht _ => kQ.mk ht hP trivial (hS.F ht)) hS.2.2 dX4_day_102
              · have h := hp_pos c_83 h
                refine lv_bipush (v := -3) hx hb dX4_day_86 (by decide) ?_
                obtain ⟨rfl, rfl, rfl, rfl, rfl, rfl, rfl, rfl⟩ := pj8 (Option.some.inj h)
                exact W.iret hx hb hr (fun t ht _ => kQ.mk ht hP trivial (hS.F ht)) hS.2.2 dX4_day_88
            · have h := hp_neg c_66 h
              refine lv_aload_n hx hb dX4_day_69 rfl (lv_at hl 2 rfl) ?_
              refine lv_iload hx hb dX4_day_70 (lv_at hl 0 rfl) ?_
              obtain ⟨r_72, r_72_lastFault, e_72, h⟩ := ob2_inv h
              refine k_wVi (i0 := 0) (rest := []) (ws' := [(a_o, .inr (4, [.ref a_n, .ref a_t, .ref a_d, .ref a_o_sheets, .ref a_rd, .int o_traced, .int r_72_lastFault])), (a_o_sheets, .inl (cS, 4, .inr (.inr (.inr (.inr (fun j => some (sa j))))))), (a_n, .inr (3, [.int n_count, .int n_references, .ref a_n_kind, .ref a_n_owner, .ref a_n_from, .ref a_n_to, .ref a_n_away])), (a_n_kind, .inl (cI, 6, .inl n_kind)), (a_n_owner, .inl (cI, 6, .inl n_owner)), (a_n_from, .inl (cI, 12, .inl n_from)), (a_n_to, .inl (cI, 12, .inl n_to)), (a_t, .inr (3, [.int t_count, .int t_references, .ref a_t_kind, .ref a_t_owner, .ref a_t_from, .ref a_t_to, .ref a_t_away])), (a_t_kind, .inl (cI, 6, .inl t_kind)), (a_t_owner, .inl (cI, 6, .inl t_owner)), (a_t_from, .inl (cI, 12, .inl t_from)), (a_t_to, .inl (cI, 12, .inl t_to)), ((sa 0), .inr (1, [.int (sl 0), .int (sn 0), .ref (sca 0)])), ((sca 0), .inl (cI, 60, .inl (sc 0))), ((sa 1), .inr (1, [.int (sl 1), .int (sn 1), .ref (sca 1)])), ((sca 1), .inl (cI, 60, .inl (sc 1))), ((sa 2), .inr (1, [.int (sl 2), .int (sn 2), .ref (sca 2)])), ((sca 2), .inl (cI, 60, .inl (sc 2))), ((sa 3), .inr (1, [.int (sl 3), .int (sn 3), .ref (sca 3)])), ((sca 3), .inl (cI, 60, .inl (sc 3)))]) ⟨hx, hb, hml, hown, hts⟩ (c_X4_failed l dC dI cI cS a_o a_n a_t a_d a_o_sheets a_rd o_traced (0 : Int32) r_59 r_72 r_72_lastFault e_72) (cwV 1 hts gX4_day_X4_failed rfl rfl rfl khd_X4_failed ⟨Nat.le_of_ble_eq_true rfl, Nat.le_of_ble_eq_true rfl⟩) hK hN hP (va_D_fst hD rfl) hS [0] rfl rfl rfl rfl rfl rfl hl.1 rfl (Nat.le_of_ble_eq_true rfl) dX4_day_72 ⟨Nat.zero_le _, Nat.zero_le _⟩ rfl rfl (fun H locs hf_72 hP hS => ?_)
              obtain ⟨rfl, rfl, rfl, rfl, rfl, rfl, rfl, rfl⟩ := pj8 (Option.some.inj h)
              exact W.iret hx hb hr (fun t ht _ => kQ.mk ht hP trivial (hS.F ht)) hS.2.2 dX4_day_75
          · rw [k_48] at h
            refine lv_sa k_48 ?_
            refine lv_astore (lv' := [(6, .ref (sa 3)), (0, .ref a_o), (1, .int x1), (2, .int x2), (3, .int x3), (4, .int x4), (5, .int x5)]) hx hb dX4_day_49 hl (by decide) rfl (fun ls hl => ?_)
            refine lv_aload hx hb dX4_day_51 (lv_at hl 0 rfl) ?_
            refine lv_iload_n hx hb dX4_day_53 rfl (lv_at hl 3 rfl) ?_
            refine lv_iload_n hx hb dX4_day_54 rfl (lv_at hl 4 rfl) ?_
            refine lv_iconst (v := 3) hx hb dX4_day_55 (by decide) ?_
            refine lv_iload hx hb dX4_day_56 (lv_at hl 5 rfl) ?_
            refine lv_imul hx hb dX4_day_58 ?_
            obtain ⟨r_59, e_59, h⟩ := ob1_inv h
            refine k_pVi (i0 := 18) (rest := []) ⟨hx, hb, hml, hown, hts⟩ (c_X1_rowFault l dC dI cI cS (sa 3) (sca 3) (sl 3) (sn 3) x2 x3 ((3 : Int32) * x4) r_59 e_59) (cwV 3 hts gX4_day_X1_rowFault rfl rfl rfl khd_X1_rowFault ⟨Nat.le_of_ble_eq_true rfl, Nat.le_of_ble_eq_true rfl⟩) hK hN hP (va_D_fst hD rfl) hS [18] rfl rfl rfl rfl rfl rfl hl.1 rfl (Nat.le_of_ble_eq_true rfl) dX4_day_59 ⟨Nat.zero_le _, Nat.zero_le _⟩ (fun H locs hf_59 hP hS => ?_)
            refine lv_istore (lv' := [(7, .int r_59), (6, .ref (sa 3)), (0, .ref a_o), (1, .int x1), (2, .int x2), (3, .int x3), (4, .int x4), (5, .int x5)]) hx hb dX4_day_62 hl (by decide) rfl (fun ls hl => ?_)
            refine lv_iload hx hb dX4_day_64 (lv_at hl 0 rfl) ?_
            refine lv_if_eq (tgt := 76) hx hb dX4_day_66 (by decide) (fun c_66 => ?_) (fun c_66 => ?_)
            · have h := hp_pos c_66 h
              refine lv_aload_n hx hb dX4_day_76 rfl (lv_at hl 2 rfl) ?_
              refine va_get (D := (dC, dI)) (ci := 4) (v := .ref a_n) (C := RX4) (T := TX4) (N := 7) hx hb hts kin_X4_day_X4 hown hK hP 0 rfl rfl 0 (Nat.le_of_ble_eq_true rfl) (hts (.fieldLink RX4 12 "OwnedThings" "now" "LOwnedThings$Web;") (List.mem_of_getElem? (i := 3) rfl)) (fun _ h9 => h9) rfl dX4_day_77 ?_
              obtain ⟨r_80, e_80, h⟩ := ob1_inv h
              refine k_pVi (i0 := 2) (rest := []) ⟨hx, hb, hml, hown, hts⟩ (c_X3_size l dC dI cI cS a_n a_n_kind a_n_owner a_n_from a_n_to a_n_away n_count n_references r_80 e_80) (cwV 0 hts gX4_day_X3_size rfl rfl rfl khd_X3_size ⟨Nat.le_of_ble_eq_true rfl, Nat.le_of_ble_eq_true rfl⟩) hK hN hP (va_D_fst hD rfl) hS [2] rfl rfl rfl rfl rfl rfl hl.1 rfl (Nat.le_of_ble_eq_true rfl) dX4_day_80 ⟨Nat.zero_le _, Nat.zero_le _⟩ (fun H locs hf_80 hP hS => ?_)
              refine lv_if_ne (tgt := 89) hx hb dX4_day_83 (by decide) (fun c_83 => ?_) (fun c_83 => ?_)
              · have h := hp_neg c_83 h
                refine lv_aload hx hb dX4_day_89 (lv_at hl 1 rfl) ?_
                refine lv_iload_n hx hb dX4_day_91 rfl (lv_at hl 5 rfl) ?_
                refine lv_iload hx hb dX4_day_92 (lv_at hl 6 rfl) ?_
                obtain ⟨r_94, e_94, h⟩ := ob1_inv h
                refine k_pSi (rest := []) ⟨hx, hb, hml, hown, hts⟩ (c_X4_areSortsKnown l dC dI cI cS (sa 3) (sca 3) (sl 3) (sn 3) (sc 3) x3 x4 r_94 e_94) (cwS 3 hts gX4_day_X4_areSortsKnown rfl rfl rfl khd_X4_areSortsKnown ⟨Nat.le_of_ble_eq_true rfl, Nat.le_of_ble_eq_true rfl⟩) hK hN hP (va_D_fst hD rfl) hS [18, 19] rfl rfl rfl hl.1 rfl (Nat.le_of_ble_eq_true rfl) dX4_day_94 ⟨Nat.zero_le _, Nat.zero_le _⟩ (fun H locs hf_94 hP hS => ?_)
                refine lv_if_ne (tgt := 103) hx hb dX4_day_97 (by decide) (fun c_97 => ?_) (fun c_97 => ?_)
                · have h := hp_neg c_97 h
                  refine lv_aload_n hx hb dX4_day_103 rfl (lv_at hl 2 rfl) ?_
                  refine va_get (D := (dC, dI)) (ci := 4) (v := .ref a_t) (C := RX4) (T := TX4) (N := 7) hx hb hts kin_X4_day_X4 hown hK hP 0 rfl rfl 1 (Nat.le_of_ble_eq_true rfl) (hts (.fieldLink RX4 18 "OwnedThings" "trial" "LOwnedThings$Web;") (List.mem_of_getElem? (i := 4) rfl)) (fun _ h9 => h9) rfl dX4_day_104 ?_
                  refine lv_aload_n hx hb dX4_day_107 rfl (lv_at hl 2 rfl) ?_
                  refine va_get (D := (dC, dI)) (ci := 4) (v := .ref a_n) (C := RX4) (T := TX4) (N := 7) hx hb hts kin_X4_day_X4 hown hK hP 0 rfl rfl 0 (Nat.le_of_ble_eq_true rfl) (hts (.fieldLink RX4 12 "OwnedThings" "now" "LOwnedThings$Web;") (List.mem_of_getElem? (i := 3) rfl)) (fun _ h9 => h9) rfl dX4_day_108 ?_
                  obtain ⟨r_111_count, r_111_references, r_111_kind, r_111_owner, r_111_from, r_111_to, e_111, h⟩ := ob6_inv h
                  refine k_wVv (i0 := 7) (rest := []) (ws' := [(a_o, .inr (4, [.ref a_n, .ref a_t, .ref a_d, .ref a_o_sheets, .ref a_rd, .int o_traced, .int (0 : Int32)])), (a_o_sheets, .inl (cS, 4, .inr (.inr (.inr (.inr (fun j => some (sa j))))))), (a_n, .inr (3, [.int n_count, .int n_references, .ref a_n_kind, .ref a_n_owner, .ref a_n_from, .ref a_n_to, .ref a_n_away])), (a_n_kind, .inl (cI, 6, .inl n_kind)), (a_n_owner, .inl (cI, 6, .inl n_owner)), (a_n_from, .inl (cI, 12, .inl n_from)), (a_n_to, .inl (cI, 12, .inl n_to)), (a_t, .inr (3, [.int r_111_count, .int r_111_references, .ref a_t_kind, .ref a_t_owner, .ref a_t_from, .ref a_t_to, .ref a_t_away])), (a_t_kind, .inl (cI, 6, .inl r_111_kind)), (a_t_owner, .inl (cI, 6, .inl r_111_owner)), (a_t_from, .inl (cI, 12, .inl r_111_from)), (a_t_to, .inl (cI, 12, .inl r_111_to)), ((sa 0), .inr (1, [.int (sl 0), .int (sn 0), .ref (sca 0)])), ((sca 0), .inl (cI, 60, .inl (sc 0))), ((sa 1), .inr (1, [.int (sl 1), .int (sn 1), .ref (sca 1)])), ((sca 1), .inl (cI, 60, .inl (sc 1))), ((sa 2), .inr (1, [.int (sl 2), .int (sn 2), .ref (sca 2)])), ((sca 2), .inl (cI, 60, .inl (sc 2))), ((sa 3), .inr (1, [.int (sl 3), .int (sn 3), .ref (sca 3)])), ((sca 3), .inl (cI, 60, .inl (sc 3)))]) ⟨hx, hb, hml, hown, hts⟩ (c_X3_become l dC dI cI cS a_t a_t_kind a_t_owner a_t_from a_t_to a_t_away a_n a_n_kind a_n_owner a_n_from a_n_to a_n_away t_count t_references t_kind t_owner t_from t_to n_count n_references n_kind n_owner n_from n_to r_111_count r_111_references r_111_kind r_111_owner r_111_from r_111_to e_111) (cwV 1 hts gX4_day_X3_become rfl rfl rfl khd_X3_become ⟨Nat.le_of_ble_eq_true rfl, Nat.le_of_ble_eq_true rfl⟩) hK hN hP (va_D_fst hD rfl) hS [7, 8, 9, 10, 11, 2, 3, 4, 5, 6] rfl rfl rfl rfl rfl rfl hl.1 rfl (Nat.le_of_ble_eq_true rfl) dX4_day_111 ⟨Nat.zero_le _, Nat.zero_le _⟩ rfl rfl (fun H locs hf_111 hP hS => ?_)
                  refine lv_aload_n hx hb dX4_day_114 rfl (lv_at hl 2 rfl) ?_
                  refine lv_aload hx hb dX4_day_115 (lv_at hl 1 rfl) ?_
                  refine lv_iload_n hx hb dX4_day_117 rfl (lv_at hl 5 rfl) ?_
                  refine lv_iload hx hb dX4_day_118 (lv_at hl 6 rfl) ?_
                  obtain ⟨r_120, r_120_references, r_120_owner, r_120_from, r_120_to, e_120, h⟩ := ob5_inv h
                  refine k_wVi (i0 := 0) (rest := []) (ws' := [(a_o, .inr (4, [.ref a_n, .ref a_t, .ref a_d, .ref a_o_sheets, .ref a_rd, .int o_traced, .int (0 : Int32)])), (a_o_sheets, .inl (cS, 4, .inr (.inr (.inr (.inr (fun j => some (sa j))))))), (a_n, .inr (3, [.int n_count, .int n_references, .ref a_n_kind, .ref a_n_owner, .ref a_n_from, .ref a_n_to, .ref a_n_away])), (a_n_kind, .inl (cI, 6, .inl n_kind)), (a_n_owner, .inl (cI, 6, .inl n_owner)), (a_n_from, .inl (cI, 12, .inl n_from)), (a_n_to, .inl (cI, 12, .inl n_to)), (a_t, .inr (3, [.int r_111_count, .int r_120_references, .ref a_t_kind, .ref a_t_owner, .ref a_t_from, .ref a_t_to, .ref a_t_away])), (a_t_kind, .inl (cI, 6, .inl r_111_kind)), (a_t_owner, .inl (cI, 6, .inl r_120_owner)), (a_t_from, .inl (cI, 12, .inl r_120_from)), (a_t_to, .inl (cI, 12, .inl r_120_to)), ((sa 0), .inr (1, [.int (sl 0), .int (sn 0), .ref (sca 0)])), ((sca 0), .inl (cI, 60, .inl (sc 0))), ((sa 1), .inr (1, [.int (sl 1), .int (sn 1), .ref (sca 1)])), ((sca 1), .inl (cI, 60, .inl (sc 1))), ((sa 2), .inr (1, [.int (sl 2), .int (sn 2), .ref (sca 2)])), ((sca 2), .inl (cI, 60, .inl (sc 2))), ((sa 3), .inr (1, [.int (sl 3), .int (sn 3), .ref (sca 3)])), ((sca 3), .inl (cI, 60, .inl (sc 3)))]) ⟨hx, hb, hml, hown, hts⟩ (c_X4_firstWrong l dC dI cI cS a_o a_n a_t a_d a_o_sheets a_rd (sa 3) (sca 3) a_t_kind a_t_owner a_t_from a_t_to a_t_away o_traced (0 : Int32) (sl 3) (sn 3) (sc 3) r_111_count r_111_references r_111_owner r_111_from r_111_to x3 x4 r_120 r_120_references r_120_owner r_120_from r_120_to e_120) (cwV 3 hts gX4_day_X4_firstWrong rfl rfl rfl khd_X4_firstWrong ⟨Nat.le_of_ble_eq_true rfl, Nat.le_of_ble_eq_true rfl⟩) hK hN hP (va_D_fst hD rfl) hS [0, 18, 19, 7, 9, 10, 11] rfl rfl rfl rfl rfl rfl hl.1 rfl (Nat.le_of_ble_eq_true rfl) dX4_day_120 ⟨Nat.zero_le _, Nat.zero_le _⟩ rfl rfl (fun H locs hf_120 hP hS => ?_)
                  refine lv_istore (lv' := [(8, .int r_120), (7, .int r_59), (6, .ref (sa 3)), (0, .ref a_o), (1, .int x1), (2, .int x2), (3, .int x3), (4, .int x4), (5, .int x5)]) hx hb dX4_day_123 hl (by decide) rfl (fun ls hl => ?_)
                  refine lv_iload hx hb dX4_day_125 (lv_at hl 8 rfl) ?_
                  refine lv_iconst (v := 1) hx hb dX4_day_127 (by decide) ?_
                  refine lv_icmp_ne (tgt := 134) hx hb dX4_day_128 (by decide) (fun c_128 => ?_) (fun c_128 => ?_)
                  · have h := hp_neg c_128 h
                    refine lv_iload hx hb dX4_day_134 (lv_at hl 0 rfl) ?_
                    refine lv_bipush (v := -9) hx hb dX4_day_136 (by decide) ?_
                    refine lv_icmp_ne (tgt := 150) hx hb dX4_day_138 (by decide) (fun c_138 => ?_) (fun c_138 => ?_)
                    · have h := hp_neg c_138 h
                      refine lv_bipush (v := -100) hx hb dX4_day_150 (by decide) ?_
                      refine lv_iload hx hb dX4_day_152 (lv_at hl 0 rfl) ?_
                      refine lv_isub hx hb dX4_day_154 ?_
                      obtain ⟨rfl, rfl, rfl, rfl, rfl, rfl, rfl, rfl⟩ := pj8 (Option.some.inj h)
                      exact W.iret hx hb hr (fun t ht _ => kQ.mk ht hP trivial (hS.F ht)) hS.2.2 dX4_day_155
                    · have h := hp_pos c_138 h
                      refine lv_aload_n hx hb dX4_day_141 rfl (lv_at hl 3 rfl) ?_
                      refine lv_iload hx hb dX4_day_142 (lv_at hl 8 rfl) ?_
                      obtain ⟨r_144, e_144, h⟩ := ob1_inv h
                      refine k_pVi (i0 := 0) (rest := []) ⟨hx, hb, hml, hown, hts⟩ (c_X4_afterDay l dC dI cI cS a_o a_n a_t a_d a_o_sheets a_rd a_t_kind a_t_owner a_t_from a_t_to a_t_away o_traced (0 : Int32) r_111_count r_120_references r_111_kind r_120_owner r_120_from r_120_to x5 r_144 e_144) (cwV 1 hts gX4_day_X4_afterDay rfl rfl rfl khd_X4_afterDay ⟨Nat.le_of_ble_eq_true rfl, Nat.le_of_ble_eq_true rfl⟩) hK hN hP (va_D_fst hD rfl) hS [0, 7, 8, 9, 10, 11] rfl rfl rfl rfl rfl rfl hl.1 rfl (Nat.le_of_ble_eq_true rfl) dX4_day_144 ⟨Nat.zero_le _, Nat.zero_le _⟩ (fun H locs hf_144 hP hS => ?_)
                      refine lv_goto (tgt := 155) hx hb dX4_day_147 (by decide) ?_
                      obtain ⟨rfl, rfl, rfl, rfl, rfl, rfl, rfl, rfl⟩ := pj8 (Option.some.inj h)
                      exact W.iret hx hb hr (fun t ht _ => kQ.mk ht hP trivial (hS.F ht)) hS.2.2 dX4_day_155
                  · have h := hp_pos c_128 h
                    refine lv_iload hx hb dX4_day_131 (lv_at hl 0 rfl) ?_
                    obtain ⟨rfl, rfl, rfl, rfl, rfl, rfl, rfl, rfl⟩ := pj8 (Option.some.inj h)
                    exact W.iret hx hb hr (fun t ht _ => kQ.mk ht hP trivial (hS.F ht)) hS.2.2 dX4_day_133
                · have h := hp_pos c_97 h
                  refine lv_bipush (v := -2) hx hb dX4_day_100 (by decide) ?_
                  obtain ⟨rfl, rfl, rfl, rfl, rfl, rfl, rfl, rfl⟩ := pj8 (Option.some.inj h)
                  exact W.iret hx hb hr (fun t ht _ => kQ.mk ht hP trivial (hS.F ht)) hS.2.2 dX4_day_102
              · have h := hp_pos c_83 h
                refine lv_bipush (v := -3) hx hb dX4_day_86 (by decide) ?_
                obtain ⟨rfl, rfl, rfl, rfl, rfl, rfl, rfl, rfl⟩ := pj8 (Option.some.inj h)
                exact W.iret hx hb hr (fun t ht _ => kQ.mk ht hP trivial (hS.F ht)) hS.2.2 dX4_day_88
            · have h := hp_neg c_66 h
              refine lv_aload_n hx hb dX4_day_69 rfl (lv_at hl 2 rfl) ?_
              refine lv_iload hx hb dX4_day_70 (lv_at hl 0 rfl) ?_
              obtain ⟨r_72, r_72_lastFault, e_72, h⟩ := ob2_inv h
              refine k_wVi (i0 := 0) (rest := []) (ws' := [(a_o, .inr (4, [.ref a_n, .ref a_t, .ref a_d, .ref a_o_sheets, .ref a_rd, .int o_traced, .int r_72_lastFault])), (a_o_sheets, .inl (cS, 4, .inr (.inr (.inr (.inr (fun j => some (sa j))))))), (a_n, .inr (3, [.int n_count, .int n_references, .ref a_n_kind, .ref a_n_owner, .ref a_n_from, .ref a_n_to, .ref a_n_away])), (a_n_kind, .inl (cI, 6, .inl n_kind)), (a_n_owner, .inl (cI, 6, .inl n_owner)), (a_n_from, .inl (cI, 12, .inl n_from)), (a_n_to, .inl (cI, 12, .inl n_to)), (a_t, .inr (3, [.int t_count, .int t_references, .ref a_t_kind, .ref a_t_owner, .ref a_t_from, .ref a_t_to, .ref a_t_away])), (a_t_kind, .inl (cI, 6, .inl t_kind)), (a_t_owner, .inl (cI, 6, .inl t_owner)), (a_t_from, .inl (cI, 12, .inl t_from)), (a_t_to, .inl (cI, 12, .inl t_to)), ((sa 0), .inr (1, [.int (sl 0), .int (sn 0), .ref (sca 0)])), ((sca 0), .inl (cI, 60, .inl (sc 0))), ((sa 1), .inr (1, [.int (sl 1), .int (sn 1), .ref (sca 1)])), ((sca 1), .inl (cI, 60, .inl (sc 1))), ((sa 2), .inr (1, [.int (sl 2), .int (sn 2), .ref (sca 2)])), ((sca 2), .inl (cI, 60, .inl (sc 2))), ((sa 3), .inr (1, [.int (sl 3), .int (sn 3), .ref (sca 3)])), ((sca 3), .inl (cI, 60, .inl (sc 3)))]) ⟨hx, hb, hml, hown, hts⟩ (c_X4_failed l dC dI cI cS a_o a_n a_t a_d a_o_sheets a_rd o_traced (0 : Int32) r_59 r_72 r_72_lastFault e_72) (cwV 1 hts gX4_day_X4_failed rfl rfl rfl khd_X4_failed ⟨Nat.le_of_ble_eq_true rfl, Nat.le_of_ble_eq_true rfl⟩) hK hN hP (va_D_fst hD rfl) hS [0] rfl rfl rfl rfl rfl rfl hl.1 rfl (Nat.le_of_ble_eq_true rfl) dX4_day_72 ⟨Nat.zero_le _, Nat.zero_le _⟩ rfl rfl (fun H locs hf_72 hP hS => ?_)
              obtain ⟨rfl, rfl, rfl, rfl, rfl, rfl, rfl, rfl⟩ := pj8 (Option.some.inj h)
              exact W.iret hx hb hr (fun t ht _ => kQ.mk ht hP trivial (hS.F ht)) hS.2.2 dX4_day_75
        · have h := hp_pos c_37 h
          refine lv_bipush (v := -2) hx hb dX4_day_40 (by decide) ?_
          obtain ⟨rfl, rfl, rfl, rfl, rfl, rfl, rfl, rfl⟩ := pj8 (Option.some.inj h)
          exact W.iret hx hb hr (fun t ht _ => kQ.mk ht hP trivial (hS.F ht)) hS.2.2 dX4_day_42
  · have h := hp_pos c_9 h
    refine lv_iconst (v := -1) hx hb dX4_day_12 (by decide) ?_
    obtain ⟨rfl, rfl, rfl, rfl, rfl, rfl, rfl, rfl⟩ := pj8 (Option.some.inj h)
    exact W.iret hx hb hr (fun t ht _ => kQ.mk ht hP trivial (hS.F ht)) hS.2.2 dX4_day_13
theorem kin_X4_unlawful_X4 : ∀ w ∈ wsX40, w ∈ wsX4_unlawful := fun _ h => List.mem_cons_of_mem _ (List.mem_append_left _ (List.mem_append_right _ h))
theorem kin_X4_unlawful_X3 : ∀ w ∈ wsX30, w ∈ wsX4_unlawful := fun _ h => List.mem_cons_of_mem _ (List.mem_append_right _ h)
theorem khd_X4_unlawful : yX4_unlawful.cls = RX4 ∧ yX4_unlawful.cls ≠ "java/lang/invoke/MethodHandle" ∧ yX4_unlawful.cls ≠ "java/lang/invoke/VarHandle" ∧ (parseMethodDescriptor yX4_unlawful.desc).map (fun d => d.parameters.length) = some 0 := by decide +kernel
set_option maxHeartbeats 8000000 in
set_option maxRecDepth 100000 in
theorem c_X4_unlawful (l : Launch) (dC : Nat → ClassId) (dI : Nat → Nat → Nat) (cI cS : ClassId) (a_o : Nat) (a_n : Nat) (a_t : Nat) (a_d : Nat) (a_o_sheets : Nat) (a_rd : Nat) (a_n_kind : Nat) (a_n_owner : Nat) (a_n_from : Nat) (a_n_to : Nat) (a_n_away : Nat) (o_traced : Int32) (o_lastFault : Int32) (n_count : Int32) (n_references : Int32) (n_owner : Nat → Int32) (n_from : Nat → Int32) (n_to : Nat → Int32) (r : Int32) (h : f_X4_unlawful n_count n_references n_owner n_from n_to = some r) : Mk l yX4_unlawful wsX4_unlawful ({ frames := 5, cells := 0, slots := 0, locals := 112 } : Room) (dC, dI) cI cS [(a_o, .inr (4, [.ref a_n, .ref a_t, .ref a_d, .ref a_o_sheets, .ref a_rd, .int o_traced, .int o_lastFault])), (a_n, .inr (3, [.int n_count, .int n_references, .ref a_n_kind, .ref a_n_owner, .ref a_n_from, .ref a_n_to, .ref a_n_away])), (a_n_owner, .inl (cI, 6, .inl n_owner)), (a_n_from, .inl (cI, 12, .inl n_from)), (a_n_to, .inl (cI, 12, .inl n_to))] [.ref a_o] (some (.int r)) True (fun _ => True) noA := by
  refine Met.ofW (cc := cX4_unlawful) (maxL := 1) (ret := (some .int)) (by decide) rfl ?_
  intro p e s m args below meth c s₁ B hml hv
  obtain ⟨rfl, hP, hK, hN, hD⟩ := hv
  have hx := B.exec
  have hb := B.bytes
  have hr := B.returns
  have hts := atoms_spec (ws := wsX4_unlawful) B.pre
  have hown : s.vm.findClass RX4 = some m.cls := findClass_of_methodNamed B.named
  have hlocks := B.notSynchronized
  have hS : va_S noA s.heap s.heap [] := va_S.rf
  have hP : va_P (dC, dI) vwCl [(a_o, .inr (4, [.ref a_n, .ref a_t, .ref a_d, .ref a_o_sheets, .ref a_rd, .int o_traced, .int o_lastFault])), (a_n, .inr (3, [.int n_count, .int n_references, .ref a_n_kind, .ref a_n_owner, .ref a_n_from, .ref a_n_to, .ref a_n_away])), (a_n_owner, .inl (cI, 6, .inl n_owner)), (a_n_from, .inl (cI, 12, .inl n_from)), (a_n_to, .inl (cI, 12, .inl n_to))] s.heap := hP
  have hl := lv_entry ([.ref a_o]) (n := 1) (Nat.le_of_ble_eq_true rfl)
  rw [lg_entry_eq]
  generalize (lg_sl ([.ref a_o]) ++ List.replicate (1 - (lg_sl ([.ref a_o])).length) Slot.unset).toArray = ls at hl ⊢
  have hl : lv_has ls 1 [(0, .ref a_o)] := hl
  unfold f_X4_unlawful at h
  refine lv_aload_n hx hb dX4_unlawful_0 rfl (lv_at hl 0 rfl) ?_
  refine va_get (D := (dC, dI)) (ci := 4) (v := .ref a_n) (C := RX4) (T := TX4) (N := 7) hx hb hts kin_X4_unlawful_X4 hown hK hP 0 rfl rfl 0 (Nat.le_of_ble_eq_true rfl) (hts (.fieldLink RX4 12 "OwnedThings" "now" "LOwnedThings$Web;") (List.mem_of_getElem? (i := 1) rfl)) (fun _ h9 => h9) rfl dX4_unlawful_1 ?_
  obtain ⟨r_4, e_4, h⟩ := ob1_inv h
  refine k_pVi (i0 := 1) (rest := []) ⟨hx, hb, hml, hown, hts⟩ (c_X3_size l dC dI cI cS a_n a_n_kind a_n_owner a_n_from a_n_to a_n_away n_count n_references r_4 e_4) (cwV 0 hts gX4_unlawful_X3_size rfl rfl rfl khd_X3_size ⟨Nat.le_of_ble_eq_true rfl, Nat.le_of_ble_eq_true rfl⟩) hK hN hP (va_D_fst hD rfl) hS [1] rfl rfl rfl rfl rfl rfl hl.1 rfl (Nat.le_of_ble_eq_true rfl) dX4_unlawful_4 ⟨Nat.zero_le _, Nat.zero_le _⟩ (fun H locs hf_4 hP hS => ?_)
  refine lv_if_ne (tgt := 15) hx hb dX4_unlawful_7 (by decide) (fun c_7 => ?_) (fun c_7 => ?_)
  · have h := hp_neg c_7 h
    refine lv_aload_n hx hb dX4_unlawful_15 rfl (lv_at hl 0 rfl) ?_
    refine va_get (D := (dC, dI)) (ci := 4) (v := .ref a_n) (C := RX4) (T := TX4) (N := 7) hx hb hts kin_X4_unlawful_X4 hown hK hP 0 rfl rfl 0 (Nat.le_of_ble_eq_true rfl) (hts (.fieldLink RX4 12 "OwnedThings" "now" "LOwnedThings$Web;") (List.mem_of_getElem? (i := 1) rfl)) (fun _ h9 => h9) rfl dX4_unlawful_16 ?_
    obtain ⟨r_19, e_19, h⟩ := ob1_inv h
    refine k_pVi (i0 := 1) (rest := []) ⟨hx, hb, hml, hown, hts⟩ (c_X3_notLawful l dC dI cI cS a_n a_n_kind a_n_owner a_n_from a_n_to a_n_away n_count n_references n_owner n_from n_to r_19 e_19) (cwV 0 hts gX4_unlawful_X3_notLawful rfl rfl rfl khd_X3_notLawful ⟨Nat.le_of_ble_eq_true rfl, Nat.le_of_ble_eq_true rfl⟩) hK hN hP (va_D_fst hD rfl) hS [1, 2, 3, 4] rfl rfl rfl rfl rfl rfl hl.1 rfl (Nat.le_of_ble_eq_true rfl) dX4_unlawful_19 ⟨Nat.zero_le _, Nat.zero_le _⟩ (fun H locs hf_19 hP hS => ?_)
    obtain rfl := Option.some.inj h
    exact W.iret hx hb hr (fun t ht _ => kQ.mk ht trivial trivial (hS.F ht)) hS.2.2 dX4_unlawful_22
  · have h := hp_pos c_7 h
    refine lv_bipush (v := -3) hx hb dX4_unlawful_10 (by decide) ?_
    refine lv_goto (tgt := 22) hx hb dX4_unlawful_12 (by decide) ?_
    obtain rfl := Option.some.inj h
    exact W.iret hx hb hr (fun t ht _ => kQ.mk ht trivial trivial (hS.F ht)) hS.2.2 dX4_unlawful_22
theorem kin_X4_past_X4 : ∀ w ∈ wsX40, w ∈ wsX4_past := fun _ h => List.mem_cons_of_mem _ (List.mem_append_left _ (List.mem_append_right _ h))
theorem kin_X4_past_X3 : ∀ w ∈ wsX30, w ∈ wsX4_past := fun _ h => List.mem_cons_of_mem _ (List.mem_append_right _ h)
theorem khd_X4_past : yX4_past.cls = RX4 ∧ yX4_past.cls ≠ "java/lang/invoke/MethodHandle" ∧ yX4_past.cls ≠ "java/lang/invoke/VarHandle" ∧ (parseMethodDescriptor yX4_past.desc).map (fun d => d.parameters.length) = some 2 := by decide +kernel
set_option maxHeartbeats 8000000 in
set_option maxRecDepth 100000 in
theorem c_X4_past (l : Launch) (dC : Nat → ClassId) (dI : Nat → Nat → Nat) (cI cS : ClassId) (a_o : Nat) (a_n : Nat) (a_t : Nat) (a_d : Nat) (a_o_sheets : Nat) (a_rd : Nat) (a_n_kind : Nat) (a_n_owner : Nat) (a_n_from : Nat) (a_n_to : Nat) (a_n_away : Nat) (o_traced : Int32) (o_lastFault : Int32) (n_count : Int32) (n_references : Int32) (n_owner : Nat → Int32) (n_from : Nat → Int32) (n_to : Nat → Int32) (n_away : Nat → Int32) (x1 : Int32) (x2 : Int32) (r : Int32) (z_n_away : Nat → Int32) (h : f_X4_past n_count n_references n_owner n_from n_to n_away x1 x2 = some (r, z_n_away)) : Mk l yX4_past wsX4_past ({ frames := 4, cells := 0, slots := 0, locals := 91 } : Room) (dC, dI) cI cS [(a_o, .inr (4, [.ref a_n, .ref a_t, .ref a_d, .ref a_o_sheets, .ref a_rd, .int o_traced, .int o_lastFault])), (a_n, .inr (3, [.int n_count, .int n_references, .ref a_n_kind, .ref a_n_owner, .ref a_n_from, .ref a_n_to, .ref a_n_away])), (a_n_owner, .inl (cI, 6, .inl n_owner)), (a_n_from, .inl (cI, 12, .inl n_from)), (a_n_to, .inl (cI, 12, .inl n_to)), (a_n_away, .inl (cI, 7, .inl n_away))] [.ref a_o, .int x1, .int x2] (some (.int r)) True (fun H => va_P (dC, dI) vwCl [(a_o, .inr (4, [.ref a_n, .ref a_t, .ref a_d, .ref a_o_sheets, .ref a_rd, .int o_traced, .int o_lastFault])), (a_n, .inr (3, [.int n_count, .int n_references, .ref a_n_kind, .ref a_n_owner, .ref a_n_from, .ref a_n_to, .ref a_n_away])), (a_n_owner, .inl (cI, 6, .inl n_owner)), (a_n_from, .inl (cI, 12, .inl n_from)), (a_n_to, .inl (cI, 12, .inl n_to)), (a_n_away, .inl (cI, 7, .inl z_n_away))] H) (inA (List.map Prod.fst ([(a_o, .inr (4, [.ref a_n, .ref a_t, .ref a_d, .ref a_o_sheets, .ref a_rd, .int o_traced, .int o_lastFault])), (a_n, .inr (3, [.int n_count, .int n_references, .ref a_n_kind, .ref a_n_owner, .ref a_n_from, .ref a_n_to, .ref a_n_away])), (a_n_owner, .inl (cI, 6, .inl n_owner)), (a_n_from, .inl (cI, 12, .inl n_from)), (a_n_to, .inl (cI, 12, .inl n_to)), (a_n_away, .inl (cI, 7, .inl n_away))] : va_W))) := by
  refine Met.ofW (cc := cX4_past) (maxL := 3) (ret := (some .int)) (by decide) rfl ?_
  intro p e s m args below meth c s₁ B hml hv
  obtain ⟨rfl, hP, hK, hN, hD⟩ := hv
  have hx := B.exec
  have hb := B.bytes
  have hr := B.returns
  have hts := atoms_spec (ws := wsX4_past) B.pre
  have hown : s.vm.findClass RX4 = some m.cls := findClass_of_methodNamed B.named
  have hlocks := B.notSynchronized
  have hS : va_S (inA [a_o, a_n, a_n_owner, a_n_from, a_n_to, a_n_away]) s.heap s.heap [] := va_S.rf
  have hP : va_P (dC, dI) vwCl [(a_o, .inr (4, [.ref a_n, .ref a_t, .ref a_d, .ref a_o_sheets, .ref a_rd, .int o_traced, .int o_lastFault])), (a_n, .inr (3, [.int n_count, .int n_references, .ref a_n_kind, .ref a_n_owner, .ref a_n_from, .ref a_n_to, .ref a_n_away])), (a_n_owner, .inl (cI, 6, .inl n_owner)), (a_n_from, .inl (cI, 12, .inl n_from)), (a_n_to, .inl (cI, 12, .inl n_to)), (a_n_away, .inl (cI, 7, .inl n_away))] s.heap := hP
  have hD : va_D (inA [a_o, a_n, a_n_owner, a_n_from, a_n_to, a_n_away]) [(a_o, .inr (4, [.ref a_n, .ref a_t, .ref a_d, .ref a_o_sheets, .ref a_rd, .int o_traced, .int o_lastFault])), (a_n, .inr (3, [.int n_count, .int n_references, .ref a_n_kind, .ref a_n_owner, .ref a_n_from, .ref a_n_to, .ref a_n_away])), (a_n_owner, .inl (cI, 6, .inl n_owner)), (a_n_from, .inl (cI, 12, .inl n_from)), (a_n_to, .inl (cI, 12, .inl n_to)), (a_n_away, .inl (cI, 7, .inl n_away))] := va_D_in hD rfl
  have hl := lv_entry ([.ref a_o, .int x1, .int x2]) (n := 3) (Nat.le_of_ble_eq_true rfl)
  rw [lg_entry_eq]
  generalize (lg_sl ([.ref a_o, .int x1, .int x2]) ++ List.replicate (3 - (lg_sl ([.ref a_o, .int x1, .int x2])).length) Slot.unset).toArray = ls at hl ⊢
  have hl : lv_has ls 3 [(0, .ref a_o), (1, .int x1), (2, .int x2)] := hl
  unfold f_X4_past at h
  refine lv_aload_n hx hb dX4_past_0 rfl (lv_at hl 0 rfl) ?_
  refine va_get (D := (dC, dI)) (ci := 4) (v := .ref a_n) (C := RX4) (T := TX4) (N := 7) hx hb hts kin_X4_past_X4 hown hK hP 0 rfl rfl 0 (Nat.le_of_ble_eq_true rfl) (hts (.fieldLink RX4 12 "OwnedThings" "now" "LOwnedThings$Web;") (List.mem_of_getElem? (i := 1) rfl)) (fun _ h9 => h9) rfl dX4_past_1 ?_
  refine lv_iload_n hx hb dX4_past_4 rfl (lv_at hl 1 rfl) ?_
  obtain ⟨r_5, e_5, h⟩ := ob1_inv h
  refine k_pVi (i0 := 1) (rest := []) ⟨hx, hb, hml, hown, hts⟩ (c_X3_isThing l dC dI cI cS a_n a_n_kind a_n_owner a_n_from a_n_to a_n_away n_count n_references x1 r_5 e_5) (cwV 1 hts gX4_past_X3_isThing rfl rfl rfl khd_X3_isThing ⟨Nat.le_of_ble_eq_true rfl, Nat.le_of_ble_eq_true rfl⟩) hK hN hP (va_D_fst hD rfl) hS [1] rfl rfl rfl rfl rfl rfl hl.1 rfl (Nat.le_of_ble_eq_true rfl) dX4_past_5 ⟨Nat.zero_le _, Nat.zero_le _⟩ (fun H locs hf_5 hP hS => ?_)
  refine lv_if_ne (tgt := 13) hx hb dX4_past_8 (by decide) (fun c_8 => ?_) (fun c_8 => ?_)
  · have h := hp_neg c_8 h
    refine lv_iload_n hx hb dX4_past_13 rfl (lv_at hl 2 rfl) ?_
    refine lv_iconst (v := -1) hx hb dX4_past_14 (by decide) ?_
    refine lv_iconst (v := 5) hx hb dX4_past_15 (by decide) ?_
    obtain ⟨r_16, e_16, h⟩ := ob1_inv h
    refine k_pSi (rest := []) ⟨hx, hb, hml, hown, hts⟩ (c_X4_isBetween l dC dI cI cS x2 (-1 : Int32) (5 : Int32) r_16 e_16) (cwS 3 hts gX4_past_X4_isBetween rfl rfl rfl khd_X4_isBetween ⟨Nat.le_of_ble_eq_true rfl, Nat.le_of_ble_eq_true rfl⟩) hK hN hP (va_D_fst hD rfl) hS [] rfl rfl rfl hl.1 rfl (Nat.le_of_ble_eq_true rfl) dX4_past_16 ⟨Nat.zero_le _, Nat.zero_le _⟩ (fun H locs hf_16 hP hS => ?_)
    refine lv_if_ne (tgt := 25) hx hb dX4_past_19 (by decide) (fun c_19 => ?_) (fun c_19 => ?_)
    · have h := hp_neg c_19 h
      refine lv_iload_n hx hb dX4_past_25 rfl (lv_at hl 2 rfl) ?_
      refine lv_iconst (v := -1) hx hb dX4_past_26 (by decide) ?_
      refine lv_icmp_ne (tgt := 41) hx hb dX4_past_27 (by decide) (fun c_27 => ?_) (fun c_27 => ?_)
      · have h := hp_neg c_27 h
        refine lv_aload_n hx hb dX4_past_41 rfl (lv_at hl 0 rfl) ?_
        refine va_get (D := (dC, dI)) (ci := 4) (v := .ref a_n) (C := RX4) (T := TX4) (N := 7) hx hb hts kin_X4_past_X4 hown hK hP 0 rfl rfl 0 (Nat.le_of_ble_eq_true rfl) (hts (.fieldLink RX4 12 "OwnedThings" "now" "LOwnedThings$Web;") (List.mem_of_getElem? (i := 1) rfl)) (fun _ h9 => h9) rfl dX4_past_42 ?_
        refine lv_iload_n hx hb dX4_past_45 rfl (lv_at hl 1 rfl) ?_
        refine lv_iload_n hx hb dX4_past_46 rfl (lv_at hl 2 rfl) ?_
        obtain ⟨r_47, r_47_away, e_47, h⟩ := ob2_inv h
        refine k_wVi (i0 := 1) (rest := []) (ws' := [(a_o, .inr (4, [.ref a_n, .ref a_t, .ref a_d, .ref a_o_sheets, .ref a_rd, .int o_traced, .int o_lastFault])), (a_n, .inr (3, [.int n_count, .int n_references, .ref a_n_kind, .ref a_n_owner, .ref a_n_from, .ref a_n_to, .ref a_n_away])), (a_n_owner, .inl (cI, 6, .inl n_owner)), (a_n_from, .inl (cI, 12, .inl n_from)), (a_n_to, .inl (cI, 12, .inl n_to)), (a_n_away, .inl (cI, 7, .inl r_47_away))]) ⟨hx, hb, hml, hown, hts⟩ (c_X3_stopOfWayPast l dC dI cI cS a_n a_n_kind a_n_owner a_n_from a_n_to a_n_away n_count n_references n_owner n_from n_to n_away x1 x2 r_47 r_47_away e_47) (cwV 2 hts gX4_past_X3_stopOfWayPast rfl rfl rfl khd_X3_stopOfWayPast ⟨Nat.le_of_ble_eq_true rfl, Nat.le_of_ble_eq_true rfl⟩) hK hN hP (va_D_fst hD rfl) hS [1, 2, 3, 4, 5] rfl rfl rfl rfl rfl rfl hl.1 rfl (Nat.le_of_ble_eq_true rfl) dX4_past_47 ⟨Nat.zero_le _, Nat.zero_le _⟩ rfl rfl (fun H locs hf_47 hP hS => ?_)
        obtain ⟨rfl, rfl⟩ := pj2 (Option.some.inj h)
        exact W.iret hx hb hr (fun t ht _ => kQ.mk ht hP trivial (hS.F ht)) hS.2.2 dX4_past_50
      · have h := hp_pos c_27 h
        refine lv_aload_n hx hb dX4_past_30 rfl (lv_at hl 0 rfl) ?_
        refine va_get (D := (dC, dI)) (ci := 4) (v := .ref a_n) (C := RX4) (T := TX4) (N := 7) hx hb hts kin_X4_past_X4 hown hK hP 0 rfl rfl 0 (Nat.le_of_ble_eq_true rfl) (hts (.fieldLink RX4 12 "OwnedThings" "now" "LOwnedThings$Web;") (List.mem_of_getElem? (i := 1) rfl)) (fun _ h9 => h9) rfl dX4_past_31 ?_
        refine lv_iload_n hx hb dX4_past_34 rfl (lv_at hl 1 rfl) ?_
        obtain ⟨r_35, r_35_away, e_35, h⟩ := ob2_inv h
        refine k_wVi (i0 := 1) (rest := []) (ws' := [(a_o, .inr (4, [.ref a_n, .ref a_t, .ref a_d, .ref a_o_sheets, .ref a_rd, .int o_traced, .int o_lastFault])), (a_n, .inr (3, [.int n_count, .int n_references, .ref a_n_kind, .ref a_n_owner, .ref a_n_from, .ref a_n_to, .ref a_n_away])), (a_n_owner, .inl (cI, 6, .inl n_owner)), (a_n_from, .inl (cI, 12, .inl n_from)), (a_n_to, .inl (cI, 12, .inl n_to)), (a_n_away, .inl (cI, 7, .inl r_35_away))]) ⟨hx, hb, hml, hown, hts⟩ (c_X3_findWayPast l dC dI cI cS a_n a_n_kind a_n_owner a_n_from a_n_to a_n_away n_count n_references n_owner n_from n_to n_away x1 r_35 r_35_away e_35) (cwV 1 hts gX4_past_X3_findWayPast rfl rfl rfl khd_X3_findWayPast ⟨Nat.le_of_ble_eq_true rfl, Nat.le_of_ble_eq_true rfl⟩) hK hN hP (va_D_fst hD rfl) hS [1, 2, 3, 4, 5] rfl rfl rfl rfl rfl rfl hl.1 rfl (Nat.le_of_ble_eq_true rfl) dX4_past_35 ⟨Nat.zero_le _, Nat.zero_le _⟩ rfl rfl (fun H locs hf_35 hP hS => ?_)
        refine lv_goto (tgt := 50) hx hb dX4_past_38 (by decide) ?_
        obtain ⟨rfl, rfl⟩ := pj2 (Option.some.inj h)
        exact W.iret hx hb hr (fun t ht _ => kQ.mk ht hP trivial (hS.F ht)) hS.2.2 dX4_past_50
    · have h := hp_pos c_19 h
      refine lv_bipush (v := -2) hx hb dX4_past_22 (by decide) ?_
      obtain ⟨rfl, rfl⟩ := pj2 (Option.some.inj h)
      exact W.iret hx hb hr (fun t ht _ => kQ.mk ht hP trivial (hS.F ht)) hS.2.2 dX4_past_24
  · have h := hp_pos c_8 h
    refine lv_iconst (v := -1) hx hb dX4_past_11 (by decide) ?_
    obtain ⟨rfl, rfl⟩ := pj2 (Option.some.inj h)
    exact W.iret hx hb hr (fun t ht _ => kQ.mk ht hP trivial (hS.F ht)) hS.2.2 dX4_past_12
theorem khd_X4_commonDivisor : yX4_commonDivisor.cls = RX4 ∧ yX4_commonDivisor.cls ≠ "java/lang/invoke/MethodHandle" ∧ yX4_commonDivisor.cls ≠ "java/lang/invoke/VarHandle" ∧ (parseMethodDescriptor yX4_commonDivisor.desc).map (fun d => d.parameters.length) = some 2 := by decide +kernel
set_option maxHeartbeats 8000000 in
set_option maxRecDepth 100000 in
theorem c_X4_commonDivisor (l : Launch) (dC : Nat → ClassId) (dI : Nat → Nat → Nat) (cI cS : ClassId) (x0 : Int32) (x1 : Int32) (r : Int32) (h : f_X4_commonDivisor x0 x1 = some r) : Mk l yX4_commonDivisor wsX4_commonDivisor ({ frames := 0, cells := 0, slots := 0, locals := 0 } : Room) (dC, dI) cI cS [] [.int x0, .int x1] (some (.int r)) True (fun _ => True) noA := by
  refine Met.ofW (cc := cX4_commonDivisor) (maxL := 3) (ret := (some .int)) (by decide) rfl ?_
  intro p e s m args below meth c s₁ B hml hv
  obtain ⟨rfl, hP, hK, hN, hD⟩ := hv
  have hx := B.exec
  have hb := B.bytes
  have hr := B.returns
  have hts := atoms_spec (ws := wsX4_commonDivisor) B.pre
  have hown : s.vm.findClass RX4 = some m.cls := findClass_of_methodNamed B.named
  have hlocks := B.notSynchronized
  have hS : va_S noA s.heap s.heap [] := va_S.rf
  have hP : va_P (dC, dI) vwCl [] s.heap := hP
  have hl := lv_entry ([.int x0, .int x1]) (n := 3) (Nat.le_of_ble_eq_true rfl)
  rw [lg_entry_eq]
  generalize (lg_sl ([.int x0, .int x1]) ++ List.replicate (3 - (lg_sl ([.int x0, .int x1])).length) Slot.unset).toArray = ls at hl ⊢
  have hl : lv_has ls 3 [(0, .int x0), (1, .int x1)] := hl
  unfold f_X4_commonDivisor at h
  refine lv_iload_n hx hb dX4_commonDivisor_0 rfl (lv_at hl 0 rfl) ?_
  refine lv_istore_n (lv' := [(2, .int x0), (0, .int x0), (1, .int x1)]) hx hb dX4_commonDivisor_1 rfl hl (by decide) rfl (fun ls hl => ?_)
  obtain ⟨o_2, K_2, i_2, hk_2, h⟩ := os0_inv h
  have after_2 : ∀ (_ : K_2) (H : Heap) (locs : List Loc) (ls : Array Slot), va_P (dC, dI) vwCl [] H → va_S noA s.heap H locs → lv_has ls 3 [] → W p l e (headSpec wsX4_commonDivisor ({ frames := 0, cells := 0, slots := 0, locals := 0 } : Room)).room s m ([.int x0, .int x1] : List Value).toArray below meth c H locs 0 0 (MQ below (kQ (some (.int r)) True (fun _ => True) noA) ([.int x0, .int x1] : List Value).toArray s 0 0 noA) (F0 m 27 ls []) := by
    intro  ha H locs ls hP hS hl
    have h := hk_2  ha
    refine lv_iconst (v := 1) hx hb dX4_commonDivisor_27 (by decide) ?_
    obtain rfl := Option.some.inj h
    exact W.iret hx hb hr (fun t ht _ => kQ.mk ht trivial trivial (hS.F ht)) hS.2.2 dX4_commonDivisor_28
  have lp_2 : ∀ (n : Nat) (x2_2 : Int32) (H : Heap) (locs : List Loc) (ls : Array Slot), it (u1 (L_X4_commonDivisor_2 x0 x1)) n x2_2 = some o_2 → va_P (dC, dI) vwCl [] H → va_S noA s.heap H locs → lv_has ls 3 [(0, .int x0), (1, .int x1), (2, .int x2_2)] → W p l e (headSpec wsX4_commonDivisor ({ frames := 0, cells := 0, slots := 0, locals := 0 } : Room)).room s m ([.int x0, .int x1] : List Value).toArray below meth c H locs 0 0 (MQ below (kQ (some (.int r)) True (fun _ => True) noA) ([.int x0, .int x1] : List Value).toArray s 0 0 noA) (F0 m 2 ls []) := by
    intro n
    induction n with
    | zero => intro x2_2 H locs ls h1; exact (it_0 h1).elim
    | succ n ih_2 =>
      intro x2_2 H locs ls h1 hP hS hl
      obtain ⟨t_2, h1, k1⟩ := it1_inv h1
      unfold L_X4_commonDivisor_2 at h1
      refine lv_iload_n hx hb dX4_commonDivisor_2 rfl (lv_at hl 2 rfl) ?_
      refine lv_iconst (v := 1) hx hb dX4_commonDivisor_3 (by decide) ?_
      refine lv_icmp_le (tgt := 27) hx hb dX4_commonDivisor_4 (by decide) (fun c_4 => ?_) (fun c_4 => ?_)
      · have h1 := hp_pos c_4 h1
        cases h1
        obtain rfl := pj1 k1
        exact after_2  h _ _ _ hP hS (lv_sub hl [] rfl)
      · have h1 := hp_neg c_4 h1
        refine lv_iload_n hx hb dX4_commonDivisor_7 rfl (lv_at hl 0 rfl) ?_
        refine lv_iload_n hx hb dX4_commonDivisor_8 rfl (lv_at hl 2 rfl) ?_
        have g_9 := hg_no h1
        have h1 := hg_yes h1
        refine lv_irem hx hb dX4_commonDivisor_9 g_9 ?_
        refine lv_if_ne (tgt := 21) hx hb dX4_commonDivisor_10 (by decide) (fun c_10 => ?_) (fun c_10 => ?_)
        · have h1 := hp_neg c_10 h1
          refine lv_iinc (v := (x2_2 + (-1 : Int32))) (lv' := [(2, .int (x2_2 + (-1 : Int32))), (0, .int x0), (1, .int x1)]) hx hb dX4_commonDivisor_21 hl (k := 2) rfl rfl (by decide) rfl (fun ls hl => ?_)
          refine lv_goto (tgt := 2) hx hb dX4_commonDivisor_24 (by decide) ?_
          cases h1
          exact ih_2 _ _ _ _ k1 hP hS (lv_sub hl [1, 2, 0] rfl)
        · have h1 := hp_pos c_10 h1
          refine lv_iload_n hx hb dX4_commonDivisor_13 rfl (lv_at hl 1 rfl) ?_
          refine lv_iload_n hx hb dX4_commonDivisor_14 rfl (lv_at hl 2 rfl) ?_
          have g_15 := hg_no h1
          have h1 := hg_yes h1
          refine lv_irem hx hb dX4_commonDivisor_15 g_15 ?_
          refine lv_if_ne (tgt := 21) hx hb dX4_commonDivisor_16 (by decide) (fun c_16 => ?_) (fun c_16 => ?_)
          · have h1 := hp_neg c_16 h1
            refine lv_iinc (v := (x2_2 + (-1 : Int32))) (lv' := [(2, .int (x2_2 + (-1 : Int32))), (0, .int x0), (1, .int x1)]) hx hb dX4_commonDivisor_21 hl (k := 2) rfl rfl (by decide) rfl (fun ls hl => ?_)
            refine lv_goto (tgt := 2) hx hb dX4_commonDivisor_24 (by decide) ?_
            cases h1
            exact ih_2 _ _ _ _ k1 hP hS (lv_sub hl [1, 2, 0] rfl)
          · have h1 := hp_pos c_16 h1
            refine lv_iload_n hx hb dX4_commonDivisor_19 rfl (lv_at hl 2 rfl) ?_
            cases h1
            obtain rfl := pj1 k1
            have h := congrArg some h
            obtain rfl := Option.some.inj h
            exact W.iret hx hb hr (fun t ht _ => kQ.mk ht trivial trivial (hS.F ht)) hS.2.2 dX4_commonDivisor_20
  exact lp_2 FUEL _ _ _ _ i_2 hP hS (lv_sub hl [1, 2, 0] rfl)
theorem kin_X4_howManyGoodCuts_X4 : ∀ w ∈ wsX40, w ∈ wsX4_howManyGoodCuts := fun _ h => List.mem_cons_of_mem _ (List.mem_append_left _ (List.mem_append_right _ h))
theorem kin_X4_howManyGoodCuts_X3 : ∀ w ∈ wsX30, w ∈ wsX4_howManyGoodCuts := fun _ h => List.mem_cons_of_mem _ (List.mem_append_right _ h)
theorem khd_X4_howManyGoodCuts : yX4_howManyGoodCuts.cls = RX4 ∧ yX4_howManyGoodCuts.cls ≠ "java/lang/invoke/MethodHandle" ∧ yX4_howManyGoodCuts.cls ≠ "java/lang/invoke/VarHandle" ∧ (parseMethodDescriptor yX4_howManyGoodCuts.desc).map (fun d => d.parameters.length) = some 1 := by decide +kernel
set_option maxHeartbeats 8000000 in
set_option maxRecDepth 100000 in
theorem c_X4_howManyGoodCuts (l : Launch) (dC : Nat → ClassId) (dI : Nat → Nat → Nat) (cI cS : ClassId) (a_o : Nat) (a_n : Nat) (a_t : Nat) (a_d : Nat) (a_o_sheets : Nat) (a_rd : Nat) (a_n_kind : Nat) (a_n_owner : Nat) (a_n_from : Nat) (a_n_to : Nat) (a_n_away : Nat) (a_t_kind : Nat) (a_t_owner : Nat) (a_t_from : Nat) (a_t_to : Nat) (a_t_away : Nat) (o_traced : Int32) (o_lastFault : Int32) (n_count : Int32) (n_references : Int32) (n_kind : Nat → Int32) (n_owner : Nat → Int32) (n_from : Nat → Int32) (n_to : Nat → Int32) (t_count : Int32) (t_references : Int32) (t_kind : Nat → Int32) (t_owner : Nat → Int32) (t_from : Nat → Int32) (t_to : Nat → Int32) (x1 : Int32) (r : Int32) (z_t_count : Int32) (z_t_references : Int32) (z_t_kind : Nat → Int32) (z_t_owner : Nat → Int32) (z_t_from : Nat → Int32) (z_t_to : Nat → Int32) (h : f_X4_howManyGoodCuts n_count n_references n_kind n_owner n_from n_to t_count t_references t_kind t_owner t_from t_to x1 = some (r, z_t_count, z_t_references, z_t_kind, z_t_owner, z_t_from, z_t_to)) : Mk l yX4_howManyGoodCuts wsX4_howManyGoodCuts ({ frames := 5, cells := 0, slots := 0, locals := 112 } : Room) (dC, dI) cI cS [(a_o, .inr (4, [.ref a_n, .ref a_t, .ref a_d, .ref a_o_sheets, .ref a_rd, .int o_traced, .int o_lastFault])), (a_n, .inr (3, [.int n_count, .int n_references, .ref a_n_kind, .ref a_n_owner, .ref a_n_from, .ref a_n_to, .ref a_n_away])), (a_n_kind, .inl (cI, 6, .inl n_kind)), (a_n_owner, .inl (cI, 6, .inl n_owner)), (a_n_from, .inl (cI, 12, .inl n_from)), (a_n_to, .inl (cI, 12, .inl n_to)), (a_t, .inr (3, [.int t_count, .int t_references, .ref a_t_kind, .ref a_t_owner, .ref a_t_from, .ref a_t_to, .ref a_t_away])), (a_t_kind, .inl (cI, 6, .inl t_kind)), (a_t_owner, .inl (cI, 6, .inl t_owner)), (a_t_from, .inl (cI, 12, .inl t_from)), (a_t_to, .inl (cI, 12, .inl t_to))] [.ref a_o, .int x1] (some (.int r)) True (fun H => va_P (dC, dI) vwCl [(a_o, .inr (4, [.ref a_n, .ref a_t, .ref a_d, .ref a_o_sheets, .ref a_rd, .int o_traced, .int o_lastFault])), (a_n, .inr (3, [.int n_count, .int n_references, .ref a_n_kind, .ref a_n_owner, .ref a_n_from, .ref a_n_to, .ref a_n_away])), (a_n_kind, .inl (cI, 6, .inl n_kind)), (a_n_owner, .inl (cI, 6, .inl n_owner)), (a_n_from, .inl (cI, 12, .inl n_from)), (a_n_to, .inl (cI, 12, .inl n_to)), (a_t, .inr (3, [.int z_t_count, .int z_t_references, .ref a_t_kind, .ref a_t_owner, .ref a_t_from, .ref a_t_to, .ref a_t_away])), (a_t_kind, .inl (cI, 6, .inl z_t_kind)), (a_t_owner, .inl (cI, 6, .inl z_t_owner)), (a_t_from, .inl (cI, 12, .inl z_t_from)), (a_t_to, .inl (cI, 12, .inl z_t_to))] H) (inA (List.map Prod.fst ([(a_o, .inr (4, [.ref a_n, .ref a_t, .ref a_d, .ref a_o_sheets, .ref a_rd, .int o_traced, .int o_lastFault])), (a_n, .inr (3, [.int n_count, .int n_references, .ref a_n_kind, .ref a_n_owner, .ref a_n_from, .ref a_n_to, .ref a_n_away])), (a_n_kind, .inl (cI, 6, .inl n_kind)), (a_n_owner, .inl (cI, 6, .inl n_owner)), (a_n_from, .inl (cI, 12, .inl n_from)), (a_n_to, .inl (cI, 12, .inl n_to)), (a_t, .inr (3, [.int t_count, .int t_references, .ref a_t_kind, .ref a_t_owner, .ref a_t_from, .ref a_t_to, .ref a_t_away])), (a_t_kind, .inl (cI, 6, .inl t_kind)), (a_t_owner, .inl (cI, 6, .inl t_owner)), (a_t_from, .inl (cI, 12, .inl t_from)), (a_t_to, .inl (cI, 12, .inl t_to))] : va_W))) := by
  refine Met.ofW (cc := cX4_howManyGoodCuts) (maxL := 4) (ret := (some .int)) (by decide) rfl ?_
  intro p e s m args below meth c s₁ B hml hv
  obtain ⟨rfl, hP, hK, hN, hD⟩ := hv
  have hx := B.exec
  have hb := B.bytes
  have hr := B.returns
  have hts := atoms_spec (ws := wsX4_howManyGoodCuts) B.pre
  have hown : s.vm.findClass RX4 = some m.cls := findClass_of_methodNamed B.named
  have hlocks := B.notSynchronized
  have hS : va_S (inA [a_o, a_n, a_n_kind, a_n_owner, a_n_from, a_n_to, a_t, a_t_kind, a_t_owner, a_t_from, a_t_to]) s.heap s.heap [] := va_S.rf
  have hP : va_P (dC, dI) vwCl [(a_o, .inr (4, [.ref a_n, .ref a_t, .ref a_d, .ref a_o_sheets, .ref a_rd, .int o_traced, .int o_lastFault])), (a_n, .inr (3, [.int n_count, .int n_references, .ref a_n_kind, .ref a_n_owner, .ref a_n_from, .ref a_n_to, .ref a_n_away])), (a_n_kind, .inl (cI, 6, .inl n_kind)), (a_n_owner, .inl (cI, 6, .inl n_owner)), (a_n_from, .inl (cI, 12, .inl n_from)), (a_n_to, .inl (cI, 12, .inl n_to)), (a_t, .inr (3, [.int t_count, .int t_references, .ref a_t_kind, .ref a_t_owner, .ref a_t_from, .ref a_t_to, .ref a_t_away])), (a_t_kind, .inl (cI, 6, .inl t_kind)), (a_t_owner, .inl (cI, 6, .inl t_owner)), (a_t_from, .inl (cI, 12, .inl t_from)), (a_t_to, .inl (cI, 12, .inl t_to))] s.heap := hP
  have hD : va_D (inA [a_o, a_n, a_n_kind, a_n_owner, a_n_from, a_n_to, a_t, a_t_kind, a_t_owner, a_t_from, a_t_to]) [(a_o, .inr (4, [.ref a_n, .ref a_t, .ref a_d, .ref a_o_sheets, .ref a_rd, .int o_traced, .int o_lastFault])), (a_n, .inr (3, [.int n_count, .int n_references, .ref a_n_kind, .ref a_n_owner, .ref a_n_from, .ref a_n_to, .ref a_n_away])), (a_n_kind, .inl (cI, 6, .inl n_kind)), (a_n_owner, .inl (cI, 6, .inl n_owner)), (a_n_from, .inl (cI, 12, .inl n_from)), (a_n_to, .inl (cI, 12, .inl n_to)), (a_t, .inr (3, [.int t_count, .int t_references, .ref a_t_kind, .ref a_t_owner, .ref a_t_from, .ref a_t_to, .ref a_t_away])), (a_t_kind, .inl (cI, 6, .inl t_kind)), (a_t_owner, .inl (cI, 6, .inl t_owner)), (a_t_from, .inl (cI, 12, .inl t_from)), (a_t_to, .inl (cI, 12, .inl t_to))] := va_D_in hD rfl
  have hl := lv_entry ([.ref a_o, .int x1]) (n := 4) (Nat.le_of_ble_eq_true rfl)
  rw [lg_entry_eq]
  generalize (lg_sl ([.ref a_o, .int x1]) ++ List.replicate (4 - (lg_sl ([.ref a_o, .int x1])).length) Slot.unset).toArray = ls at hl ⊢
  have hl : lv_has ls 4 [(0, .ref a_o), (1, .int x1)] := hl
  unfold f_X4_howManyGoodCuts at h
  refine lv_iconst (v := 0) hx hb dX4_howManyGoodCuts_0 (by decide) ?_
  refine lv_istore_n (lv' := [(2, .int (0 : Int32)), (0, .ref a_o), (1, .int x1)]) hx hb dX4_howManyGoodCuts_1 rfl hl (by decide) rfl (fun ls hl => ?_)
  refine lv_iconst (v := 0) hx hb dX4_howManyGoodCuts_2 (by decide) ?_
  refine lv_istore_n (lv' := [(3, .int (0 : Int32)), (2, .int (0 : Int32)), (0, .ref a_o), (1, .int x1)]) hx hb dX4_howManyGoodCuts_3 rfl hl (by decide) rfl (fun ls hl => ?_)
  obtain ⟨y2_4, t_count_4e, t_references_4e, t_kind_4e, t_owner_4e, t_from_4e, t_to_4e, i_4, h⟩ := ob7_inv h
  have after_4 : ∀ (H : Heap) (locs : List Loc) (ls : Array Slot), va_P (dC, dI) vwCl [(a_o, .inr (4, [.ref a_n, .ref a_t, .ref a_d, .ref a_o_sheets, .ref a_rd, .int o_traced, .int o_lastFault])), (a_n, .inr (3, [.int n_count, .int n_references, .ref a_n_kind, .ref a_n_owner, .ref a_n_from, .ref a_n_to, .ref a_n_away])), (a_n_kind, .inl (cI, 6, .inl n_kind)), (a_n_owner, .inl (cI, 6, .inl n_owner)), (a_n_from, .inl (cI, 12, .inl n_from)), (a_n_to, .inl (cI, 12, .inl n_to)), (a_t, .inr (3, [.int t_count_4e, .int t_references_4e, .ref a_t_kind, .ref a_t_owner, .ref a_t_from, .ref a_t_to, .ref a_t_away])), (a_t_kind, .inl (cI, 6, .inl t_kind_4e)), (a_t_owner, .inl (cI, 6, .inl t_owner_4e)), (a_t_from, .inl (cI, 12, .inl t_from_4e)), (a_t_to, .inl (cI, 12, .inl t_to_4e))] H → va_S (inA [a_o, a_n, a_n_kind, a_n_owner, a_n_from, a_n_to, a_t, a_t_kind, a_t_owner, a_t_from, a_t_to]) s.heap H locs → lv_has ls 4 [(2, .int y2_4)] → W p l e (headSpec wsX4_howManyGoodCuts ({ frames := 5, cells := 0, slots := 0, locals := 112 } : Room)).room s m ([.ref a_o, .int x1] : List Value).toArray below meth c H locs 0 0 (MQ below (kQ (some (.int r)) True (fun H => va_P (dC, dI) vwCl [(a_o, .inr (4, [.ref a_n, .ref a_t, .ref a_d, .ref a_o_sheets, .ref a_rd, .int o_traced, .int o_lastFault])), (a_n, .inr (3, [.int n_count, .int n_references, .ref a_n_kind, .ref a_n_owner, .ref a_n_from, .ref a_n_to, .ref a_n_away])), (a_n_kind, .inl (cI, 6, .inl n_kind)), (a_n_owner, .inl (cI, 6, .inl n_owner)), (a_n_from, .inl (cI, 12, .inl n_from)), (a_n_to, .inl (cI, 12, .inl n_to)), (a_t, .inr (3, [.int z_t_count, .int z_t_references, .ref a_t_kind, .ref a_t_owner, .ref a_t_from, .ref a_t_to, .ref a_t_away])), (a_t_kind, .inl (cI, 6, .inl z_t_kind)), (a_t_owner, .inl (cI, 6, .inl z_t_owner)), (a_t_from, .inl (cI, 12, .inl z_t_from)), (a_t_to, .inl (cI, 12, .inl z_t_to))] H) (inA (List.map Prod.fst ([(a_o, .inr (4, [.ref a_n, .ref a_t, .ref a_d, .ref a_o_sheets, .ref a_rd, .int o_traced, .int o_lastFault])), (a_n, .inr (3, [.int n_count, .int n_references, .ref a_n_kind, .ref a_n_owner, .ref a_n_from, .ref a_n_to, .ref a_n_away])), (a_n_kind, .inl (cI, 6, .inl n_kind)), (a_n_owner, .inl (cI, 6, .inl n_owner)), (a_n_from, .inl (cI, 12, .inl n_from)), (a_n_to, .inl (cI, 12, .inl n_to)), (a_t, .inr (3, [.int t_count, .int t_references, .ref a_t_kind, .ref a_t_owner, .ref a_t_from, .ref a_t_to, .ref a_t_away])), (a_t_kind, .inl (cI, 6, .inl t_kind)), (a_t_owner, .inl (cI, 6, .inl t_owner)), (a_t_from, .inl (cI, 12, .inl t_from)), (a_t_to, .inl (cI, 12, .inl t_to))] : va_W)))) ([.ref a_o, .int x1] : List Value).toArray s 0 0 (inA (List.map Prod.fst ([(a_o, .inr (4, [.ref a_n, .ref a_t, .ref a_d, .ref a_o_sheets, .ref a_rd, .int o_traced, .int o_lastFault])), (a_n, .inr (3, [.int n_count, .int n_references, .ref a_n_kind, .ref a_n_owner, .ref a_n_from, .ref a_n_to, .ref a_n_away])), (a_n_kind, .inl (cI, 6, .inl n_kind)), (a_n_owner, .inl (cI, 6, .inl n_owner)), (a_n_from, .inl (cI, 12, .inl n_from)), (a_n_to, .inl (cI, 12, .inl n_to)), (a_t, .inr (3, [.int t_count, .int t_references, .ref a_t_kind, .ref a_t_owner, .ref a_t_from, .ref a_t_to, .ref a_t_away])), (a_t_kind, .inl (cI, 6, .inl t_kind)), (a_t_owner, .inl (cI, 6, .inl t_owner)), (a_t_from, .inl (cI, 12, .inl t_from)), (a_t_to, .inl (cI, 12, .inl t_to))] : va_W)))) (F0 m 47 ls []) := by
    intro H locs ls hP hS hl
    refine lv_iload_n hx hb dX4_howManyGoodCuts_47 rfl (lv_at hl 0 rfl) ?_
    obtain ⟨rfl, rfl, rfl, rfl, rfl, rfl, rfl⟩ := pj7 (Option.some.inj h)
    exact W.iret hx hb hr (fun t ht _ => kQ.mk ht hP trivial (hS.F ht)) hS.2.2 dX4_howManyGoodCuts_48
  have lp_4 : ∀ (n : Nat) (x2_4 : Int32) (x3_4 : Int32) (t_count_4 : Int32) (t_references_4 : Int32) (t_kind_4 : Nat → Int32) (t_owner_4 : Nat → Int32) (t_from_4 : Nat → Int32) (t_to_4 : Nat → Int32) (H : Heap) (locs : List Loc) (ls : Array Slot), it (u8 (L_X4_howManyGoodCuts_4 n_count n_references n_kind n_owner n_from n_to x1)) n (x2_4, x3_4, t_count_4, t_references_4, t_kind_4, t_owner_4, t_from_4, t_to_4) = some (y2_4, t_count_4e, t_references_4e, t_kind_4e, t_owner_4e, t_from_4e, t_to_4e) → va_P (dC, dI) vwCl [(a_o, .inr (4, [.ref a_n, .ref a_t, .ref a_d, .ref a_o_sheets, .ref a_rd, .int o_traced, .int o_lastFault])), (a_n, .inr (3, [.int n_count, .int n_references, .ref a_n_kind, .ref a_n_owner, .ref a_n_from, .ref a_n_to, .ref a_n_away])), (a_n_kind, .inl (cI, 6, .inl n_kind)), (a_n_owner, .inl (cI, 6, .inl n_owner)), (a_n_from, .inl (cI, 12, .inl n_from)), (a_n_to, .inl (cI, 12, .inl n_to)), (a_t, .inr (3, [.int t_count_4, .int t_references_4, .ref a_t_kind, .ref a_t_owner, .ref a_t_from, .ref a_t_to, .ref a_t_away])), (a_t_kind, .inl (cI, 6, .inl t_kind_4)), (a_t_owner, .inl (cI, 6, .inl t_owner_4)), (a_t_from, .inl (cI, 12, .inl t_from_4)), (a_t_to, .inl (cI, 12, .inl t_to_4))] H → va_S (inA [a_o, a_n, a_n_kind, a_n_owner, a_n_from, a_n_to, a_t, a_t_kind, a_t_owner, a_t_from, a_t_to]) s.heap H locs → lv_has ls 4 [(0, .ref a_o), (1, .int x1), (2, .int x2_4), (3, .int x3_4)] → W p l e (headSpec wsX4_howManyGoodCuts ({ frames := 5, cells := 0, slots := 0, locals := 112 } : Room)).room s m ([.ref a_o, .int x1] : List Value).toArray below meth c H locs 0 0 (MQ below (kQ (some (.int r)) True (fun H => va_P (dC, dI) vwCl [(a_o, .inr (4, [.ref a_n, .ref a_t, .ref a_d, .ref a_o_sheets, .ref a_rd, .int o_traced, .int o_lastFault])), (a_n, .inr (3, [.int n_count, .int n_references, .ref a_n_kind, .ref a_n_owner, .ref a_n_from, .ref a_n_to, .ref a_n_away])), (a_n_kind, .inl (cI, 6, .inl n_kind)), (a_n_owner, .inl (cI, 6, .inl n_owner)), (a_n_from, .inl (cI, 12, .inl n_from)), (a_n_to, .inl (cI, 12, .inl n_to)), (a_t, .inr (3, [.int z_t_count, .int z_t_references, .ref a_t_kind, .ref a_t_owner, .ref a_t_from, .ref a_t_to, .ref a_t_away])), (a_t_kind, .inl (cI, 6, .inl z_t_kind)), (a_t_owner, .inl (cI, 6, .inl z_t_owner)), (a_t_from, .inl (cI, 12, .inl z_t_from)), (a_t_to, .inl (cI, 12, .inl z_t_to))] H) (inA (List.map Prod.fst ([(a_o, .inr (4, [.ref a_n, .ref a_t, .ref a_d, .ref a_o_sheets, .ref a_rd, .int o_traced, .int o_lastFault])), (a_n, .inr (3, [.int n_count, .int n_references, .ref a_n_kind, .ref a_n_owner, .ref a_n_from, .ref a_n_to, .ref a_n_away])), (a_n_kind, .inl (cI, 6, .inl n_kind)), (a_n_owner, .inl (cI, 6, .inl n_owner)), (a_n_from, .inl (cI, 12, .inl n_from)), (a_n_to, .inl (cI, 12, .inl n_to)), (a_t, .inr (3, [.int t_count, .int t_references, .ref a_t_kind, .ref a_t_owner, .ref a_t_from, .ref a_t_to, .ref a_t_away])), (a_t_kind, .inl (cI, 6, .inl t_kind)), (a_t_owner, .inl (cI, 6, .inl t_owner)), (a_t_from, .inl (cI, 12, .inl t_from)), (a_t_to, .inl (cI, 12, .inl t_to))] : va_W)))) ([.ref a_o, .int x1] : List Value).toArray s 0 0 (inA (List.map Prod.fst ([(a_o, .inr (4, [.ref a_n, .ref a_t, .ref a_d, .ref a_o_sheets, .ref a_rd, .int o_traced, .int o_lastFault])), (a_n, .inr (3, [.int n_count, .int n_references, .ref a_n_kind, .ref a_n_owner, .ref a_n_from, .ref a_n_to, .ref a_n_away])), (a_n_kind, .inl (cI, 6, .inl n_kind)), (a_n_owner, .inl (cI, 6, .inl n_owner)), (a_n_from, .inl (cI, 12, .inl n_from)), (a_n_to, .inl (cI, 12, .inl n_to)), (a_t, .inr (3, [.int t_count, .int t_references, .ref a_t_kind, .ref a_t_owner, .ref a_t_from, .ref a_t_to, .ref a_t_away])), (a_t_kind, .inl (cI, 6, .inl t_kind)), (a_t_owner, .inl (cI, 6, .inl t_owner)), (a_t_from, .inl (cI, 12, .inl t_from)), (a_t_to, .inl (cI, 12, .inl t_to))] : va_W)))) (F0 m 4 ls []) := by
    intro n
    induction n with
    | zero => intro x2_4 x3_4 t_count_4 t_references_4 t_kind_4 t_owner_4 t_from_4 t_to_4 H locs ls h1; exact (it_0 h1).elim
    | succ n ih_4 =>
      intro x2_4 x3_4 t_count_4 t_references_4 t_kind_4 t_owner_4 t_from_4 t_to_4 H locs ls h1 hP hS hl
      obtain ⟨t_4, h1, k1⟩ := it8_inv h1
      unfold L_X4_howManyGoodCuts_4 at h1
      refine lv_iload_n hx hb dX4_howManyGoodCuts_4 rfl (lv_at hl 3 rfl) ?_
      refine lv_iload_n hx hb dX4_howManyGoodCuts_5 rfl (lv_at hl 1 rfl) ?_
      refine lv_icmp_ge (tgt := 47) hx hb dX4_howManyGoodCuts_6 (by decide) (fun c_6 => ?_) (fun c_6 => ?_)
      · have h1 := hp_pos c_6 h1
        cases h1
        obtain ⟨rfl, rfl, rfl, rfl, rfl, rfl, rfl⟩ := pj7 k1
        exact after_4 _ _ _ hP hS (lv_sub hl [2] rfl)
      · have h1 := hp_neg c_6 h1
        refine lv_aload_n hx hb dX4_howManyGoodCuts_9 rfl (lv_at hl 0 rfl) ?_
        refine va_get (D := (dC, dI)) (ci := 4) (v := .ref a_t) (C := RX4) (T := TX4) (N := 7) hx hb hts kin_X4_howManyGoodCuts_X4 hown hK hP 0 rfl rfl 1 (Nat.le_of_ble_eq_true rfl) (hts (.fieldLink RX4 18 "OwnedThings" "trial" "LOwnedThings$Web;") (List.mem_of_getElem? (i := 1) rfl)) (fun _ h9 => h9) rfl dX4_howManyGoodCuts_10 ?_
        refine lv_aload_n hx hb dX4_howManyGoodCuts_13 rfl (lv_at hl 0 rfl) ?_
        refine va_get (D := (dC, dI)) (ci := 4) (v := .ref a_n) (C := RX4) (T := TX4) (N := 7) hx hb hts kin_X4_howManyGoodCuts_X4 hown hK hP 0 rfl rfl 0 (Nat.le_of_ble_eq_true rfl) (hts (.fieldLink RX4 12 "OwnedThings" "now" "LOwnedThings$Web;") (List.mem_of_getElem? (i := 2) rfl)) (fun _ h9 => h9) rfl dX4_howManyGoodCuts_14 ?_
        obtain ⟨r_17_count, r_17_references, r_17_kind, r_17_owner, r_17_from, r_17_to, e_17, h1⟩ := ob6_inv h1
        refine k_wVv (i0 := 6) (rest := []) (ws' := [(a_o, .inr (4, [.ref a_n, .ref a_t, .ref a_d, .ref a_o_sheets, .ref a_rd, .int o_traced, .int o_lastFault])), (a_n, .inr (3, [.int n_count, .int n_references, .ref a_n_kind, .ref a_n_owner, .ref a_n_from, .ref a_n_to, .ref a_n_away])), (a_n_kind, .inl (cI, 6, .inl n_kind)), (a_n_owner, .inl (cI, 6, .inl n_owner)), (a_n_from, .inl (cI, 12, .inl n_from)), (a_n_to, .inl (cI, 12, .inl n_to)), (a_t, .inr (3, [.int r_17_count, .int r_17_references, .ref a_t_kind, .ref a_t_owner, .ref a_t_from, .ref a_t_to, .ref a_t_away])), (a_t_kind, .inl (cI, 6, .inl r_17_kind)), (a_t_owner, .inl (cI, 6, .inl r_17_owner)), (a_t_from, .inl (cI, 12, .inl r_17_from)), (a_t_to, .inl (cI, 12, .inl r_17_to))]) ⟨hx, hb, hml, hown, hts⟩ (c_X3_become l dC dI cI cS a_t a_t_kind a_t_owner a_t_from a_t_to a_t_away a_n a_n_kind a_n_owner a_n_from a_n_to a_n_away t_count_4 t_references_4 t_kind_4 t_owner_4 t_from_4 t_to_4 n_count n_references n_kind n_owner n_from n_to r_17_count r_17_references r_17_kind r_17_owner r_17_from r_17_to e_17) (cwV 1 hts gX4_howManyGoodCuts_X3_become rfl rfl rfl khd_X3_become ⟨Nat.le_of_ble_eq_true rfl, Nat.le_of_ble_eq_true rfl⟩) hK hN hP (va_D_fst hD rfl) hS [6, 7, 8, 9, 10, 1, 2, 3, 4, 5] rfl rfl rfl rfl rfl rfl hl.1 rfl (Nat.le_of_ble_eq_true rfl) dX4_howManyGoodCuts_17 ⟨Nat.zero_le _, Nat.zero_le _⟩ rfl rfl (fun H locs hf_17 hP hS => ?_)
        refine lv_aload_n hx hb dX4_howManyGoodCuts_20 rfl (lv_at hl 0 rfl) ?_
        refine va_get (D := (dC, dI)) (ci := 4) (v := .ref a_t) (C := RX4) (T := TX4) (N := 7) hx hb hts kin_X4_howManyGoodCuts_X4 hown hK hP 0 rfl rfl 1 (Nat.le_of_ble_eq_true rfl) (hts (.fieldLink RX4 18 "OwnedThings" "trial" "LOwnedThings$Web;") (List.mem_of_getElem? (i := 1) rfl)) (fun _ h9 => h9) rfl dX4_howManyGoodCuts_21 ?_
        refine lv_iload_n hx hb dX4_howManyGoodCuts_24 rfl (lv_at hl 3 rfl) ?_
        obtain ⟨r_25_references, r_25_from, r_25_to, e_25, h1⟩ := ob3_inv h1
        refine k_wVv (i0 := 6) (rest := []) (ws' := [(a_o, .inr (4, [.ref a_n, .ref a_t, .ref a_d, .ref a_o_sheets, .ref a_rd, .int o_traced, .int o_lastFault])), (a_n, .inr (3, [.int n_count, .int n_references, .ref a_n_kind, .ref a_n_owner, .ref a_n_from, .ref a_n_to, .ref a_n_away])), (a_n_kind, .inl (cI, 6, .inl n_kind)), (a_n_owner, .inl (cI, 6, .inl n_owner)), (a_n_from, .inl (cI, 12, .inl n_from)), (a_n_to, .inl (cI, 12, .inl n_to)), (a_t, .inr (3, [.int r_17_count, .int r_25_references, .ref a_t_kind, .ref a_t_owner, .ref a_t_from, .ref a_t_to, .ref a_t_away])), (a_t_kind, .inl (cI, 6, .inl r_17_kind)), (a_t_owner, .inl (cI, 6, .inl r_17_owner)), (a_t_from, .inl (cI, 12, .inl r_25_from)), (a_t_to, .inl (cI, 12, .inl r_25_to))]) ⟨hx, hb, hml, hown, hts⟩ (c_X3_cut l dC dI cI cS a_t a_t_kind a_t_owner a_t_from a_t_to a_t_away r_17_count r_17_references r_17_from r_17_to x3_4 r_25_references r_25_from r_25_to e_25) (cwV 1 hts gX4_howManyGoodCuts_X3_cut rfl rfl rfl khd_X3_cut ⟨Nat.le_of_ble_eq_true rfl, Nat.le_of_ble_eq_true rfl⟩) hK hN hP (va_D_fst hD rfl) hS [6, 9, 10] rfl rfl rfl rfl rfl rfl hl.1 rfl (Nat.le_of_ble_eq_true rfl) dX4_howManyGoodCuts_25 ⟨Nat.zero_le _, Nat.zero_le _⟩ rfl rfl (fun H locs hf_25 hP hS => ?_)
        refine lv_aload_n hx hb dX4_howManyGoodCuts_28 rfl (lv_at hl 0 rfl) ?_
        refine va_get (D := (dC, dI)) (ci := 4) (v := .ref a_t) (C := RX4) (T := TX4) (N := 7) hx hb hts kin_X4_howManyGoodCuts_X4 hown hK hP 0 rfl rfl 1 (Nat.le_of_ble_eq_true rfl) (hts (.fieldLink RX4 18 "OwnedThings" "trial" "LOwnedThings$Web;") (List.mem_of_getElem? (i := 1) rfl)) (fun _ h9 => h9) rfl dX4_howManyGoodCuts_29 ?_
        obtain ⟨r_32, e_32, h1⟩ := ob1_inv h1
        refine k_pVi (i0 := 6) (rest := []) ⟨hx, hb, hml, hown, hts⟩ (c_X3_notLawful l dC dI cI cS a_t a_t_kind a_t_owner a_t_from a_t_to a_t_away r_17_count r_25_references r_17_owner r_25_from r_25_to r_32 e_32) (cwV 0 hts gX4_howManyGoodCuts_X3_notLawful rfl rfl rfl khd_X3_notLawful ⟨Nat.le_of_ble_eq_true rfl, Nat.le_of_ble_eq_true rfl⟩) hK hN hP (va_D_fst hD rfl) hS [6, 8, 9, 10] rfl rfl rfl rfl rfl rfl hl.1 rfl (Nat.le_of_ble_eq_true rfl) dX4_howManyGoodCuts_32 ⟨Nat.zero_le _, Nat.zero_le _⟩ (fun H locs hf_32 hP hS => ?_)
        refine lv_if_ne (tgt := 41) hx hb dX4_howManyGoodCuts_35 (by decide) (fun c_35 => ?_) (fun c_35 => ?_)
        · have h1 := hp_neg c_35 h1
          refine lv_iinc (v := (x3_4 + (1 : Int32))) (lv' := [(3, .int (x3_4 + (1 : Int32))), (0, .ref a_o), (1, .int x1), (2, .int x2_4)]) hx hb dX4_howManyGoodCuts_41 hl (k := 3) rfl rfl (by decide) rfl (fun ls hl => ?_)
          refine lv_goto (tgt := 4) hx hb dX4_howManyGoodCuts_44 (by decide) ?_
          cases h1
          exact ih_4 _ _ _ _ _ _ _ _ _ _ _ k1 hP hS (lv_sub hl [1, 2, 3, 0] rfl)
        · have h1 := hp_pos c_35 h1
          refine lv_iinc (v := (x2_4 + (1 : Int32))) (lv' := [(2, .int (x2_4 + (1 : Int32))), (0, .ref a_o), (1, .int x1), (3, .int x3_4)]) hx hb dX4_howManyGoodCuts_38 hl (k := 2) rfl rfl (by decide) rfl (fun ls hl => ?_)
          refine lv_iinc (v := (x3_4 + (1 : Int32))) (lv' := [(3, .int (x3_4 + (1 : Int32))), (2, .int (x2_4 + (1 : Int32))), (0, .ref a_o), (1, .int x1)]) hx hb dX4_howManyGoodCuts_41 hl (k := 3) rfl rfl (by decide) rfl (fun ls hl => ?_)
          refine lv_goto (tgt := 4) hx hb dX4_howManyGoodCuts_44 (by decide) ?_
          cases h1
          exact ih_4 _ _ _ _ _ _ _ _ _ _ _ k1 hP hS (lv_sub hl [2, 3, 1, 0] rfl)
  exact lp_4 FUEL _ _ _ _ _ _ _ _ _ _ _ i_4 hP hS (lv_sub hl [2, 3, 1, 0] rfl)
theorem kin_X4_odds_X4 : ∀ w ∈ wsX40, w ∈ wsX4_odds := fun _ h => List.mem_cons_of_mem _ (List.mem_append_left _ (List.mem_append_right _ h))
theorem kin_X4_odds_X3 : ∀ w ∈ wsX30, w ∈ wsX4_odds := fun _ h => List.mem_cons_of_mem _ (List.mem_append_right _ h)
theorem khd_X4_odds : yX4_odds.cls = RX4 ∧ yX4_odds.cls ≠ "java/lang/invoke/MethodHandle" ∧ yX4_odds.cls ≠ "java/lang/invoke/VarHandle" ∧ (parseMethodDescriptor yX4_odds.desc).map (fun d => d.parameters.length) = some 1 := by decide +kernel
set_option maxHeartbeats 8000000 in
set_option maxRecDepth 100000 in
theorem c_X4_odds (l : Launch) (dC : Nat → ClassId) (dI : Nat → Nat → Nat) (cI cS : ClassId) (a_o : Nat) (a_n : Nat) (a_t : Nat) (a_d : Nat) (a_o_sheets : Nat) (a_rd : Nat) (a_n_kind : Nat) (a_n_owner : Nat) (a_n_from : Nat) (a_n_to : Nat) (a_n_away : Nat) (a_t_kind : Nat) (a_t_owner : Nat) (a_t_from : Nat) (a_t_to : Nat) (a_t_away : Nat) (o_traced : Int32) (o_lastFault : Int32) (n_count : Int32) (n_references : Int32) (n_kind : Nat → Int32) (n_owner : Nat → Int32) (n_from : Nat → Int32) (n_to : Nat → Int32) (t_count : Int32) (t_references : Int32) (t_kind : Nat → Int32) (t_owner : Nat → Int32) (t_from : Nat → Int32) (t_to : Nat → Int32) (x1 : Int32) (r : Int64) (z_t_count : Int32) (z_t_references : Int32) (z_t_kind : Nat → Int32) (z_t_owner : Nat → Int32) (z_t_from : Nat → Int32) (z_t_to : Nat → Int32) (h : f_X4_odds n_count n_references n_kind n_owner n_from n_to t_count t_references t_kind t_owner t_from t_to x1 = some (r, z_t_count, z_t_references, z_t_kind, z_t_owner, z_t_from, z_t_to)) : Mk l yX4_odds wsX4_odds ({ frames := 6, cells := 0, slots := 0, locals := 135 } : Room) (dC, dI) cI cS [(a_o, .inr (4, [.ref a_n, .ref a_t, .ref a_d, .ref a_o_sheets, .ref a_rd, .int o_traced, .int o_lastFault])), (a_n, .inr (3, [.int n_count, .int n_references, .ref a_n_kind, .ref a_n_owner, .ref a_n_from, .ref a_n_to, .ref a_n_away])), (a_n_kind, .inl (cI, 6, .inl n_kind)), (a_n_owner, .inl (cI, 6, .inl n_owner)), (a_n_from, .inl (cI, 12, .inl n_from)), (a_n_to, .inl (cI, 12, .inl n_to)), (a_t, .inr (3, [.int t_count, .int t_references, .ref a_t_kind, .ref a_t_owner, .ref a_t_from, .ref a_t_to, .ref a_t_away])), (a_t_kind, .inl (cI, 6, .inl t_kind)), (a_t_owner, .inl (cI, 6, .inl t_owner)), (a_t_from, .inl (cI, 12, .inl t_from)), (a_t_to, .inl (cI, 12, .inl t_to))] [.ref a_o, .int x1] (some (.long r)) True (fun H => va_P (dC, dI) vwCl [(a_o, .inr (4, [.ref a_n, .ref a_t, .ref a_d, .ref a_o_sheets, .ref a_rd, .int o_traced, .int o_lastFault])), (a_n, .inr (3, [.int n_count, .int n_references, .ref a_n_kind, .ref a_n_owner, .ref a_n_from, .ref a_n_to, .ref a_n_away])), (a_n_kind, .inl (cI, 6, .inl n_kind)), (a_n_owner, .inl (cI, 6, .inl n_owner)), (a_n_from, .inl (cI, 12, .inl n_from)), (a_n_to, .inl (cI, 12, .inl n_to)), (a_t, .inr (3, [.int z_t_count, .int z_t_references, .ref a_t_kind, .ref a_t_owner, .ref a_t_from, .ref a_t_to, .ref a_t_away])), (a_t_kind, .inl (cI, 6, .inl z_t_kind)), (a_t_owner, .inl (cI, 6, .inl z_t_owner)), (a_t_from, .inl (cI, 12, .inl z_t_from)), (a_t_to, .inl (cI, 12, .inl z_t_to))] H) (inA (List.map Prod.fst ([(a_o, .inr (4, [.ref a_n, .ref a_t, .ref a_d, .ref a_o_sheets, .ref a_rd, .int o_traced, .int o_lastFault])), (a_n, .inr (3, [.int n_count, .int n_references, .ref a_n_kind, .ref a_n_owner, .ref a_n_from, .ref a_n_to, .ref a_n_away])), (a_n_kind, .inl (cI, 6, .inl n_kind)), (a_n_owner, .inl (cI, 6, .inl n_owner)), (a_n_from, .inl (cI, 12, .inl n_from)), (a_n_to, .inl (cI, 12, .inl n_to)), (a_t, .inr (3, [.int t_count, .int t_references, .ref a_t_kind, .ref a_t_owner, .ref a_t_from, .ref a_t_to, .ref a_t_away])), (a_t_kind, .inl (cI, 6, .inl t_kind)), (a_t_owner, .inl (cI, 6, .inl t_owner)), (a_t_from, .inl (cI, 12, .inl t_from)), (a_t_to, .inl (cI, 12, .inl t_to))] : va_W))) := by
  refine Met.ofW (cc := cX4_odds) (maxL := 5) (ret := (some .long)) (by decide) rfl ?_
  intro p e s m args below meth c s₁ B hml hv
  obtain ⟨rfl, hP, hK, hN, hD⟩ := hv
  have hx := B.exec
  have hb := B.bytes
  have hr := B.returns
  have hts := atoms_spec (ws := wsX4_odds) B.pre
  have hown : s.vm.findClass RX4 = some m.cls := findClass_of_methodNamed B.named
  have hlocks := B.notSynchronized
  have hS : va_S (inA [a_o, a_n, a_n_kind, a_n_owner, a_n_from, a_n_to, a_t, a_t_kind, a_t_owner, a_t_from, a_t_to]) s.heap s.heap [] := va_S.rf
  have hP : va_P (dC, dI) vwCl [(a_o, .inr (4, [.ref a_n, .ref a_t, .ref a_d, .ref a_o_sheets, .ref a_rd, .int o_traced, .int o_lastFault])), (a_n, .inr (3, [.int n_count, .int n_references, .ref a_n_kind, .ref a_n_owner, .ref a_n_from, .ref a_n_to, .ref a_n_away])), (a_n_kind, .inl (cI, 6, .inl n_kind)), (a_n_owner, .inl (cI, 6, .inl n_owner)), (a_n_from, .inl (cI, 12, .inl n_from)), (a_n_to, .inl (cI, 12, .inl n_to)), (a_t, .inr (3, [.int t_count, .int t_references, .ref a_t_kind, .ref a_t_owner, .ref a_t_from, .ref a_t_to, .ref a_t_away])), (a_t_kind, .inl (cI, 6, .inl t_kind)), (a_t_owner, .inl (cI, 6, .inl t_owner)), (a_t_from, .inl (cI, 12, .inl t_from)), (a_t_to, .inl (cI, 12, .inl t_to))] s.heap := hP
  have hD : va_D (inA [a_o, a_n, a_n_kind, a_n_owner, a_n_from, a_n_to, a_t, a_t_kind, a_t_owner, a_t_from, a_t_to]) [(a_o, .inr (4, [.ref a_n, .ref a_t, .ref a_d, .ref a_o_sheets, .ref a_rd, .int o_traced, .int o_lastFault])), (a_n, .inr (3, [.int n_count, .int n_references, .ref a_n_kind, .ref a_n_owner, .ref a_n_from, .ref a_n_to, .ref a_n_away])), (a_n_kind, .inl (cI, 6, .inl n_kind)), (a_n_owner, .inl (cI, 6, .inl n_owner)), (a_n_from, .inl (cI, 12, .inl n_from)), (a_n_to, .inl (cI, 12, .inl n_to)), (a_t, .inr (3, [.int t_count, .int t_references, .ref a_t_kind, .ref a_t_owner, .ref a_t_from, .ref a_t_to, .ref a_t_away])), (a_t_kind, .inl (cI, 6, .inl t_kind)), (a_t_owner, .inl (cI, 6, .inl t_owner)), (a_t_from, .inl (cI, 12, .inl t_from)), (a_t_to, .inl (cI, 12, .inl t_to))] := va_D_in hD rfl
  have hl := lv_entry ([.ref a_o, .int x1]) (n := 5) (Nat.le_of_ble_eq_true rfl)
  rw [lg_entry_eq]
  generalize (lg_sl ([.ref a_o, .int x1]) ++ List.replicate (5 - (lg_sl ([.ref a_o, .int x1])).length) Slot.unset).toArray = ls at hl ⊢
  have hl : lv_has ls 5 [(0, .ref a_o), (1, .int x1)] := hl
  unfold f_X4_odds at h
  refine lv_aload_n hx hb dX4_odds_0 rfl (lv_at hl 0 rfl) ?_
  refine va_get (D := (dC, dI)) (ci := 4) (v := .ref a_n) (C := RX4) (T := TX4) (N := 7) hx hb hts kin_X4_odds_X4 hown hK hP 0 rfl rfl 0 (Nat.le_of_ble_eq_true rfl) (hts (.fieldLink RX4 12 "OwnedThings" "now" "LOwnedThings$Web;") (List.mem_of_getElem? (i := 1) rfl)) (fun _ h9 => h9) rfl dX4_odds_1 ?_
  obtain ⟨r_4, e_4, h⟩ := ob1_inv h
  refine k_pVi (i0 := 1) (rest := []) ⟨hx, hb, hml, hown, hts⟩ (c_X3_howManyReferences l dC dI cI cS a_n a_n_kind a_n_owner a_n_from a_n_to a_n_away n_count n_references r_4 e_4) (cwV 0 hts gX4_odds_X3_howManyReferences rfl rfl rfl khd_X3_howManyReferences ⟨Nat.le_of_ble_eq_true rfl, Nat.le_of_ble_eq_true rfl⟩) hK hN hP (va_D_fst hD rfl) hS [1] rfl rfl rfl rfl rfl rfl hl.1 rfl (Nat.le_of_ble_eq_true rfl) dX4_odds_4 ⟨Nat.zero_le _, Nat.zero_le _⟩ (fun H locs hf_4 hP hS => ?_)
  refine lv_istore_n (lv' := [(2, .int r_4), (0, .ref a_o), (1, .int x1)]) hx hb dX4_odds_7 rfl hl (by decide) rfl (fun ls hl => ?_)
  refine lv_iload_n hx hb dX4_odds_8 rfl (lv_at hl 2 rfl) ?_
  refine lv_iconst (v := 0) hx hb dX4_odds_9 (by decide) ?_
  refine lv_iconst (v := 1) hx hb dX4_odds_10 (by decide) ?_
  obtain ⟨r_11, e_11, h⟩ := ob1_inv h
  refine k_pSi (rest := []) ⟨hx, hb, hml, hown, hts⟩ (c_X4_isBetween l dC dI cI cS x1 (0 : Int32) (1 : Int32) r_11 e_11) (cwS 3 hts gX4_odds_X4_isBetween rfl rfl rfl khd_X4_isBetween ⟨Nat.le_of_ble_eq_true rfl, Nat.le_of_ble_eq_true rfl⟩) hK hN hP (va_D_fst hD rfl) hS [] rfl rfl rfl hl.1 rfl (Nat.le_of_ble_eq_true rfl) dX4_odds_11 ⟨Nat.zero_le _, Nat.zero_le _⟩ (fun H locs hf_11 hP hS => ?_)
  refine lv_if_eq (tgt := 21) hx hb dX4_odds_14 (by decide) (fun c_14 => ?_) (fun c_14 => ?_)
  · have h := hp_pos c_14 h
    refine lv_ldc2 (v := (-9223372036854775808)) hx hb hown (hts (.constantLong RX4 201 (-9223372036854775808)) (List.mem_of_getElem? (i := 2) rfl)) dX4_odds_21 ?_
    obtain ⟨rfl, rfl, rfl, rfl, rfl, rfl, rfl⟩ := pj7 (Option.some.inj h)
    exact W.lret hx hb hr (fun t ht _ => kQ.mk ht hP trivial (hS.F ht)) hS.2.2 dX4_odds_24
  · have h := hp_neg c_14 h
    refine lv_iload_n hx hb dX4_odds_17 rfl (lv_at hl 0 rfl) ?_
    refine lv_if_ne (tgt := 25) hx hb dX4_odds_18 (by decide) (fun c_18 => ?_) (fun c_18 => ?_)
    · have h := hp_neg c_18 h
      refine lv_aload_n hx hb dX4_odds_25 rfl (lv_at hl 1 rfl) ?_
      refine lv_iload_n hx hb dX4_odds_26 rfl (lv_at hl 0 rfl) ?_
      obtain ⟨r_27, r_27_count, r_27_references, r_27_kind, r_27_owner, r_27_from, r_27_to, e_27, h⟩ := ob7_inv h
      refine k_wVi (i0 := 0) (rest := []) (ws' := [(a_o, .inr (4, [.ref a_n, .ref a_t, .ref a_d, .ref a_o_sheets, .ref a_rd, .int o_traced, .int o_lastFault])), (a_n, .inr (3, [.int n_count, .int n_references, .ref a_n_kind, .ref a_n_owner, .ref a_n_from, .ref a_n_to, .ref a_n_away])), (a_n_kind, .inl (cI, 6, .inl n_kind)), (a_n_owner, .inl (cI, 6, .inl n_owner)), (a_n_from, .inl (cI, 12, .inl n_from)), (a_n_to, .inl (cI, 12, .inl n_to)), (a_t, .inr (3, [.int r_27_count, .int r_27_references, .ref a_t_kind, .ref a_t_owner, .ref a_t_from, .ref a_t_to, .ref a_t_away])), (a_t_kind, .inl (cI, 6, .inl r_27_kind)), (a_t_owner, .inl (cI, 6, .inl r_27_owner)), (a_t_from, .inl (cI, 12, .inl r_27_from)), (a_t_to, .inl (cI, 12, .inl r_27_to))]) ⟨hx, hb, hml, hown, hts⟩ (c_X4_howManyGoodCuts l dC dI cI cS a_o a_n a_t a_d a_o_sheets a_rd a_n_kind a_n_owner a_n_from a_n_to a_n_away a_t_kind a_t_owner a_t_from a_t_to a_t_away o_traced o_lastFault n_count n_references n_kind n_owner n_from n_to t_count t_references t_kind t_owner t_from t_to r_4 r_27 r_27_count r_27_references r_27_kind r_27_owner r_27_from r_27_to e_27) (cwV 1 hts gX4_odds_X4_howManyGoodCuts rfl rfl rfl khd_X4_howManyGoodCuts ⟨Nat.le_of_ble_eq_true rfl, Nat.le_of_ble_eq_true rfl⟩) hK hN hP (va_D_fst hD rfl) hS [0, 1, 2, 3, 4, 5, 6, 7, 8, 9, 10] rfl rfl rfl rfl rfl rfl hl.1 rfl (Nat.le_of_ble_eq_true rfl) dX4_odds_27 ⟨Nat.zero_le _, Nat.zero_le _⟩ rfl rfl (fun H locs hf_27 hP hS => ?_)
      refine lv_istore_n (lv' := [(3, .int r_27), (2, .int r_4), (0, .ref a_o), (1, .int x1)]) hx hb dX4_odds_30 rfl hl (by decide) rfl (fun ls hl => ?_)
      refine lv_iload_n hx hb dX4_odds_31 rfl (lv_at hl 1 rfl) ?_
      refine lv_iload_n hx hb dX4_odds_32 rfl (lv_at hl 0 rfl) ?_
      obtain ⟨r_33, e_33, h⟩ := ob1_inv h
      refine k_pSi (rest := []) ⟨hx, hb, hml, hown, hts⟩ (c_X4_commonDivisor l dC dI cI cS r_4 r_27 r_33 e_33) (cwS 2 hts gX4_odds_X4_commonDivisor rfl rfl rfl khd_X4_commonDivisor ⟨Nat.le_of_ble_eq_true rfl, Nat.le_of_ble_eq_true rfl⟩) hK hN hP (va_D_fst hD rfl) hS [] rfl rfl rfl hl.1 rfl (Nat.le_of_ble_eq_true rfl) dX4_odds_33 ⟨Nat.zero_le _, Nat.zero_le _⟩ (fun H locs hf_33 hP hS => ?_)
      refine lv_istore (lv' := [(4, .int r_33), (3, .int r_27), (2, .int r_4), (0, .ref a_o), (1, .int x1)]) hx hb dX4_odds_36 hl (by decide) rfl (fun ls hl => ?_)
      refine lv_iload hx hb dX4_odds_38 (lv_at hl 0 rfl) ?_
      refine lv_if_ne (tgt := 47) hx hb dX4_odds_40 (by decide) (fun c_40 => ?_) (fun c_40 => ?_)
      · have h := hp_neg c_40 h
        refine lv_iload_n hx hb dX4_odds_47 rfl (lv_at hl 4 rfl) ?_
        refine lv_if_ne (tgt := 55) hx hb dX4_odds_48 (by decide) (fun c_48 => ?_) (fun c_48 => ?_)
        · have h := hp_neg c_48 h
          refine lv_iload_n hx hb dX4_odds_55 rfl (lv_at hl 2 rfl) ?_
          refine lv_iload hx hb dX4_odds_56 (lv_at hl 0 rfl) ?_
          have g_58 := hg_no h
          have h := hg_yes h
          refine lv_idiv hx hb dX4_odds_58 g_58 ?_
          refine lv_i2l (v := (r_4 / r_33).toInt64) hx hb dX4_odds_59 rfl ?_
          obtain ⟨rfl, rfl, rfl, rfl, rfl, rfl, rfl⟩ := pj7 (Option.some.inj h)
          exact W.lret hx hb hr (fun t ht _ => kQ.mk ht hP trivial (hS.F ht)) hS.2.2 dX4_odds_60
        · have h := hp_pos c_48 h
          refine lv_iload_n hx hb dX4_odds_51 rfl (lv_at hl 1 rfl) ?_
          refine lv_goto (tgt := 56) hx hb dX4_odds_52 (by decide) ?_
          refine lv_iload hx hb dX4_odds_56 (lv_at hl 0 rfl) ?_
          have g_58 := hg_no h
          have h := hg_yes h
          refine lv_idiv hx hb dX4_odds_58 g_58 ?_
          refine lv_i2l (v := (r_27 / r_33).toInt64) hx hb dX4_odds_59 rfl ?_
          obtain ⟨rfl, rfl, rfl, rfl, rfl, rfl, rfl⟩ := pj7 (Option.some.inj h)
          exact W.lret hx hb hr (fun t ht _ => kQ.mk ht hP trivial (hS.F ht)) hS.2.2 dX4_odds_60
      · have h := hp_pos c_40 h
        refine lv_ldc2 (v := (-9223372036854775808)) hx hb hown (hts (.constantLong RX4 201 (-9223372036854775808)) (List.mem_of_getElem? (i := 2) rfl)) dX4_odds_43 ?_
        obtain ⟨rfl, rfl, rfl, rfl, rfl, rfl, rfl⟩ := pj7 (Option.some.inj h)
        exact W.lret hx hb hr (fun t ht _ => kQ.mk ht hP trivial (hS.F ht)) hS.2.2 dX4_odds_46
    · have h := hp_pos c_18 h
      refine lv_ldc2 (v := (-9223372036854775808)) hx hb hown (hts (.constantLong RX4 201 (-9223372036854775808)) (List.mem_of_getElem? (i := 2) rfl)) dX4_odds_21 ?_
      obtain ⟨rfl, rfl, rfl, rfl, rfl, rfl, rfl⟩ := pj7 (Option.some.inj h)
      exact W.lret hx hb hr (fun t ht _ => kQ.mk ht hP trivial (hS.F ht)) hS.2.2 dX4_odds_24
theorem kin_X4_sheet_X4 : ∀ w ∈ wsX40, w ∈ wsX4_sheet := fun _ h => List.mem_cons_of_mem _ (List.mem_append_left _ (List.mem_append_right _ h))
theorem kin_X4_sheet_X1 : ∀ w ∈ wsX10, w ∈ wsX4_sheet := fun _ h => List.mem_cons_of_mem _ (List.mem_append_right _ h)
theorem khd_X4_sheet : yX4_sheet.cls = RX4 ∧ yX4_sheet.cls ≠ "java/lang/invoke/MethodHandle" ∧ yX4_sheet.cls ≠ "java/lang/invoke/VarHandle" ∧ (parseMethodDescriptor yX4_sheet.desc).map (fun d => d.parameters.length) = some 3 := by decide +kernel
set_option maxHeartbeats 8000000 in
set_option maxRecDepth 100000 in
theorem c_X4_sheet (l : Launch) (dC : Nat → ClassId) (dI : Nat → Nat → Nat) (cI cS : ClassId) (a_o : Nat) (a_n : Nat) (a_t : Nat) (a_d : Nat) (a_o_sheets : Nat) (a_rd : Nat) (sa : Nat → Nat) (sca : Nat → Nat) (o_traced : Int32) (o_lastFault : Int32) (sl : Nat → Int32) (sn : Nat → Int32) (sc : Nat → Nat → Int32) (x1 : Int32) (x2 : Int32) (x3 : Int32) (r : Int32) (z_o_lastFault : Int32) (z_sl : Nat → Int32) (z_sn : Nat → Int32) (z_sc : Nat → Nat → Int32) (h : f_X4_sheet sl sn sc x1 x2 x3 = some (r, z_o_lastFault, z_sl, z_sn, z_sc)) : Mk l yX4_sheet wsX4_sheet ({ frames := 2, cells := 0, slots := 0, locals := 42 } : Room) (dC, dI) cI cS [(a_o, .inr (4, [.ref a_n, .ref a_t, .ref a_d, .ref a_o_sheets, .ref a_rd, .int o_traced, .int o_lastFault])), (a_o_sheets, .inl (cS, 4, .inr (.inr (.inr (.inr (fun j => some (sa j))))))), ((sa 0), .inr (1, [.int (sl 0), .int (sn 0), .ref (sca 0)])), ((sca 0), .inl (cI, 60, .inl (sc 0))), ((sa 1), .inr (1, [.int (sl 1), .int (sn 1), .ref (sca 1)])), ((sca 1), .inl (cI, 60, .inl (sc 1))), ((sa 2), .inr (1, [.int (sl 2), .int (sn 2), .ref (sca 2)])), ((sca 2), .inl (cI, 60, .inl (sc 2))), ((sa 3), .inr (1, [.int (sl 3), .int (sn 3), .ref (sca 3)])), ((sca 3), .inl (cI, 60, .inl (sc 3)))] [.ref a_o, .int x1, .int x2, .int x3] (some (.int r)) True (fun H => va_P (dC, dI) vwCl [(a_o, .inr (4, [.ref a_n, .ref a_t, .ref a_d, .ref a_o_sheets, .ref a_rd, .int o_traced, .int z_o_lastFault])), (a_o_sheets, .inl (cS, 4, .inr (.inr (.inr (.inr (fun j => some (sa j))))))), ((sa 0), .inr (1, [.int (z_sl 0), .int (z_sn 0), .ref (sca 0)])), ((sca 0), .inl (cI, 60, .inl (z_sc 0))), ((sa 1), .inr (1, [.int (z_sl 1), .int (z_sn 1), .ref (sca 1)])), ((sca 1), .inl (cI, 60, .inl (z_sc 1))), ((sa 2), .inr (1, [.int (z_sl 2), .int (z_sn 2), .ref (sca 2)])), ((sca 2), .inl (cI, 60, .inl (z_sc 2))), ((sa 3), .inr (1, [.int (z_sl 3), .int (z_sn 3), .ref (sca 3)])), ((sca 3), .inl (cI, 60, .inl (z_sc 3)))] H) (inA (List.map Prod.fst ([(a_o, .inr (4, [.ref a_n, .ref a_t, .ref a_d, .ref a_o_sheets, .ref a_rd, .int o_traced, .int o_lastFault])), (a_o_sheets, .inl (cS, 4, .inr (.inr (.inr (.inr (fun j => some (sa j))))))), ((sa 0), .inr (1, [.int (sl 0), .int (sn 0), .ref (sca 0)])), ((sca 0), .inl (cI, 60, .inl (sc 0))), ((sa 1), .inr (1, [.int (sl 1), .int (sn 1), .ref (sca 1)])), ((sca 1), .inl (cI, 60, .inl (sc 1))), ((sa 2), .inr (1, [.int (sl 2), .int (sn 2), .ref (sca 2)])), ((sca 2), .inl (cI, 60, .inl (sc 2))), ((sa 3), .inr (1, [.int (sl 3), .int (sn 3), .ref (sca 3)])), ((sca 3), .inl (cI, 60, .inl (sc 3)))] : va_W))) := by
  refine Met.ofW (cc := cX4_sheet) (maxL := 4) (ret := (some .int)) (by decide) rfl ?_
  intro p e s m args below meth c s₁ B hml hv
  obtain ⟨rfl, hP, hK, hN, hD⟩ := hv
  have hx := B.exec
  have hb := B.bytes
  have hr := B.returns
  have hts := atoms_spec (ws := wsX4_sheet) B.pre
  have hown : s.vm.findClass RX4 = some m.cls := findClass_of_methodNamed B.named
  have hlocks := B.notSynchronized
  have hS : va_S (inA [a_o, a_o_sheets, (sa 0), (sca 0), (sa 1), (sca 1), (sa 2), (sca 2), (sa 3), (sca 3)]) s.heap s.heap [] := va_S.rf
  have hP : va_P (dC, dI) vwCl [(a_o, .inr (4, [.ref a_n, .ref a_t, .ref a_d, .ref a_o_sheets, .ref a_rd, .int o_traced, .int o_lastFault])), (a_o_sheets, .inl (cS, 4, .inr (.inr (.inr (.inr (fun j => some (sa j))))))), ((sa 0), .inr (1, [.int (sl 0), .int (sn 0), .ref (sca 0)])), ((sca 0), .inl (cI, 60, .inl (sc 0))), ((sa 1), .inr (1, [.int (sl 1), .int (sn 1), .ref (sca 1)])), ((sca 1), .inl (cI, 60, .inl (sc 1))), ((sa 2), .inr (1, [.int (sl 2), .int (sn 2), .ref (sca 2)])), ((sca 2), .inl (cI, 60, .inl (sc 2))), ((sa 3), .inr (1, [.int (sl 3), .int (sn 3), .ref (sca 3)])), ((sca 3), .inl (cI, 60, .inl (sc 3)))] s.heap := hP
  have hD : va_D (inA [a_o, a_o_sheets, (sa 0), (sca 0), (sa 1), (sca 1), (sa 2), (sca 2), (sa 3), (sca 3)]) [(a_o, .inr (4, [.ref a_n, .ref a_t, .ref a_d, .ref a_o_sheets, .ref a_rd, .int o_traced, .int o_lastFault])), (a_o_sheets, .inl (cS, 4, .inr (.inr (.inr (.inr (fun j => some (sa j))))))), ((sa 0), .inr (1, [.int (sl 0), .int (sn 0), .ref (sca 0)])), ((sca 0), .inl (cI, 60, .inl (sc 0))), ((sa 1), .inr (1, [.int (sl 1), .int (sn 1), .ref (sca 1)])), ((sca 1), .inl (cI, 60, .inl (sc 1))), ((sa 2), .inr (1, [.int (sl 2), .int (sn 2), .ref (sca 2)])), ((sca 2), .inl (cI, 60, .inl (sc 2))), ((sa 3), .inr (1, [.int (sl 3), .int (sn 3), .ref (sca 3)])), ((sca 3), .inl (cI, 60, .inl (sc 3)))] := va_D_in hD rfl
  have hl := lv_entry ([.ref a_o, .int x1, .int x2, .int x3]) (n := 4) (Nat.le_of_ble_eq_true rfl)
  rw [lg_entry_eq]
  generalize (lg_sl ([.ref a_o, .int x1, .int x2, .int x3]) ++ List.replicate (4 - (lg_sl ([.ref a_o, .int x1, .int x2, .int x3])).length) Slot.unset).toArray = ls at hl ⊢
  have hl : lv_has ls 4 [(0, .ref a_o), (1, .int x1), (2, .int x2), (3, .int x3)] := hl
  unfold f_X4_sheet at h
  refine lv_aload_n hx hb dX4_sheet_0 rfl (lv_at hl 0 rfl) ?_
  refine lv_iconst (v := 0) hx hb dX4_sheet_1 (by decide) ?_
  refine va_put (D := (dC, dI)) (ci := 4) (v := .int (0 : Int32)) (C := RX4) (T := TX4) (N := 7) hx hb hts kin_X4_sheet_X4 tyX4 tyX4_ok nmX4 hown hK hP (va_D_fst hD rfl) hS 0 rfl rfl 6 (Nat.le_of_ble_eq_true rfl) (hts (.fieldLink RX4 48 "OwnedThings" "lastFault" "I") (List.mem_of_getElem? (i := 1) rfl)) (fun _ h9 => h9) rfl (tyX4_ok 6 (Nat.le_of_ble_eq_true rfl)) rfl rfl (Nat.le_of_ble_eq_true rfl) dX4_sheet_2 (fun H locs hP _ hS => ?_)
  have hP : va_P (dC, dI) vwCl [(a_o, .inr (4, [.ref a_n, .ref a_t, .ref a_d, .ref a_o_sheets, .ref a_rd, .int o_traced, .int (0 : Int32)])), (a_o_sheets, .inl (cS, 4, .inr (.inr (.inr (.inr (fun j => some (sa j))))))), ((sa 0), .inr (1, [.int (sl 0), .int (sn 0), .ref (sca 0)])), ((sca 0), .inl (cI, 60, .inl (sc 0))), ((sa 1), .inr (1, [.int (sl 1), .int (sn 1), .ref (sca 1)])), ((sca 1), .inl (cI, 60, .inl (sc 1))), ((sa 2), .inr (1, [.int (sl 2), .int (sn 2), .ref (sca 2)])), ((sca 2), .inl (cI, 60, .inl (sc 2))), ((sa 3), .inr (1, [.int (sl 3), .int (sn 3), .ref (sca 3)])), ((sca 3), .inl (cI, 60, .inl (sc 3)))] H := hP
  refine lv_iload_n hx hb dX4_sheet_5 rfl (lv_at hl 1 rfl) ?_
  obtain ⟨r_6, e_6, h⟩ := ob1_inv h
  refine k_pSi (rest := []) ⟨hx, hb, hml, hown, hts⟩ (c_X4_isSheet l dC dI cI cS x1 r_6 e_6) (cwS 1 hts gX4_sheet_X4_isSheet rfl rfl rfl khd_X4_isSheet ⟨Nat.le_of_ble_eq_true rfl, Nat.le_of_ble_eq_true rfl⟩) hK hN hP (va_D_fst hD rfl) hS [] rfl rfl rfl hl.1 rfl (Nat.le_of_ble_eq_true rfl) dX4_sheet_6 ⟨Nat.zero_le _, Nat.zero_le _⟩ (fun H locs hf_6 hP hS => ?_)
  refine lv_if_ne (tgt := 14) hx hb dX4_sheet_9 (by decide) (fun c_9 => ?_) (fun c_9 => ?_)
  · have h := hp_neg c_9 h
    refine lv_iload_n hx hb dX4_sheet_14 rfl (lv_at hl 2 rfl) ?_
    obtain ⟨r_15, e_15, h⟩ := ob1_inv h
    refine k_pSi (rest := []) ⟨hx, hb, hml, hown, hts⟩ (c_X4_isLane l dC dI cI cS x2 r_15 e_15) (cwS 1 hts gX4_sheet_X4_isLane rfl rfl rfl khd_X4_isLane ⟨Nat.le_of_ble_eq_true rfl, Nat.le_of_ble_eq_true rfl⟩) hK hN hP (va_D_fst hD rfl) hS [] rfl rfl rfl hl.1 rfl (Nat.le_of_ble_eq_true rfl) dX4_sheet_15 ⟨Nat.zero_le _, Nat.zero_le _⟩ (fun H locs hf_15 hP hS => ?_)
    refine lv_if_eq (tgt := 27) hx hb dX4_sheet_18 (by decide) (fun c_18 => ?_) (fun c_18 => ?_)
    · have h := hp_pos c_18 h
      refine lv_bipush (v := -2) hx hb dX4_sheet_27 (by decide) ?_
      obtain ⟨rfl, rfl, rfl, rfl, rfl⟩ := pj5 (Option.some.inj h)
      exact W.iret hx hb hr (fun t ht _ => kQ.mk ht hP trivial (hS.F ht)) hS.2.2 dX4_sheet_29
    · have h := hp_neg c_18 h
      refine lv_iload_n hx hb dX4_sheet_21 rfl (lv_at hl 3 rfl) ?_
      refine lv_bipush (v := 60) hx hb dX4_sheet_22 (by decide) ?_
      refine lv_icmp_le (tgt := 30) hx hb dX4_sheet_24 (by decide) (fun c_24 => ?_) (fun c_24 => ?_)
      · have h := hp_pos c_24 h
        refine lv_iload_n hx hb dX4_sheet_30 rfl (lv_at hl 3 rfl) ?_
        refine lv_if_ge (tgt := 40) hx hb dX4_sheet_31 (by decide) (fun c_31 => ?_) (fun c_31 => ?_)
        · have h := hp_pos c_31 h
          refine lv_aload_n hx hb dX4_sheet_40 rfl (lv_at hl 0 rfl) ?_
          refine va_get (D := (dC, dI)) (ci := 4) (v := .ref a_o_sheets) (C := RX4) (T := TX4) (N := 7) hx hb hts kin_X4_sheet_X4 hown hK hP 0 rfl rfl 3 (Nat.le_of_ble_eq_true rfl) (hts (.fieldLink RX4 30 "OwnedThings" "sheets" "[LOwnedThings$Sheet;") (List.mem_of_getElem? (i := 2) rfl)) (fun _ h9 => h9) rfl dX4_sheet_41 ?_
          refine lv_iload_n hx hb dX4_sheet_44 rfl (lv_at hl 1 rfl) ?_
          have g_45 := hg_no h
          have h := hg_yes h
          refine va_aldq (D := (dC, dI)) hx hb hK hP 1 1 rfl rfl g_45 dX4_sheet_45 ?_
          rcases lt4_cases g_45 with k_45 | k_45 | k_45 | k_45
          · rw [k_45] at h
            refine lv_sa k_45 ?_
            refine lv_iload_n hx hb dX4_sheet_46 rfl (lv_at hl 2 rfl) ?_
            refine lv_iload_n hx hb dX4_sheet_47 rfl (lv_at hl 3 rfl) ?_
            obtain ⟨r_48_lane, r_48_length, r_48_cells, e_48, h⟩ := ob3_inv h
            refine k_wVv (i0 := 2) (rest := []) (ws' := [(a_o, .inr (4, [.ref a_n, .ref a_t, .ref a_d, .ref a_o_sheets, .ref a_rd, .int o_traced, .int (0 : Int32)])), (a_o_sheets, .inl (cS, 4, .inr (.inr (.inr (.inr (fun j => some (sa j))))))), ((sa 0), .inr (1, [.int r_48_lane, .int r_48_length, .ref (sca 0)])), ((sca 0), .inl (cI, 60, .inl r_48_cells)), ((sa 1), .inr (1, [.int (sl 1), .int (sn 1), .ref (sca 1)])), ((sca 1), .inl (cI, 60, .inl (sc 1))), ((sa 2), .inr (1, [.int (sl 2), .int (sn 2), .ref (sca 2)])), ((sca 2), .inl (cI, 60, .inl (sc 2))), ((sa 3), .inr (1, [.int (sl 3), .int (sn 3), .ref (sca 3)])), ((sca 3), .inl (cI, 60, .inl (sc 3)))]) ⟨hx, hb, hml, hown, hts⟩ (c_X1_renew l dC dI cI cS (sa 0) (sca 0) (sl 0) (sn 0) (sc 0) x2 x3 r_48_lane r_48_length r_48_cells e_48) (cwV 2 hts gX4_sheet_X1_renew rfl rfl rfl khd_X1_renew ⟨Nat.le_of_ble_eq_true rfl, Nat.le_of_ble_eq_true rfl⟩) hK hN hP (va_D_fst hD rfl) hS [2, 3] rfl rfl rfl rfl rfl rfl hl.1 rfl (Nat.le_of_ble_eq_true rfl) dX4_sheet_48 ⟨Nat.zero_le _, Nat.zero_le _⟩ rfl rfl (fun H locs hf_48 hP hS => ?_)
            refine lv_iconst (v := 1) hx hb dX4_sheet_51 (by decide) ?_
            obtain ⟨rfl, rfl, rfl, rfl, rfl⟩ := pj5 (Option.some.inj h)
            exact W.iret hx hb hr (fun t ht _ => kQ.mk ht hP trivial (hS.F ht)) hS.2.2 dX4_sheet_52
          · rw [k_45] at h
            refine lv_sa k_45 ?_
            refine lv_iload_n hx hb dX4_sheet_46 rfl (lv_at hl 2 rfl) ?_
            refine lv_iload_n hx hb dX4_sheet_47 rfl (lv_at hl 3 rfl) ?_
            obtain ⟨r_48_lane, r_48_length, r_48_cells, e_48, h⟩ := ob3_inv h
            refine k_wVv (i0 := 4) (rest := []) (ws' := [(a_o, .inr (4, [.ref a_n, .ref a_t, .ref a_d, .ref a_o_sheets, .ref a_rd, .int o_traced, .int (0 : Int32)])), (a_o_sheets, .inl (cS, 4, .inr (.inr (.inr (.inr (fun j => some (sa j))))))), ((sa 0), .inr (1, [.int (sl 0), .int (sn 0), .ref (sca 0)])), ((sca 0), .inl (cI, 60, .inl (sc 0))), ((sa 1), .inr (1, [.int r_48_lane, .int r_48_length, .ref (sca 1)])), ((sca 1), .inl (cI, 60, .inl r_48_cells)), ((sa 2), .inr (1, [.int (sl 2), .int (sn 2), .ref (sca 2)])), ((sca 2), .inl (cI, 60, .inl (sc 2))), ((sa 3), .inr (1, [.int (sl 3), .int (sn 3), .ref (sca 3)])), ((sca 3), .inl (cI, 60, .inl (sc 3)))]) ⟨hx, hb, hml, hown, hts⟩ (c_X1_renew l dC dI cI cS (sa 1) (sca 1) (sl 1) (sn 1) (sc 1) x2 x3 r_48_lane r_48_length r_48_cells e_48) (cwV 2 hts gX4_sheet_X1_renew rfl rfl rfl khd_X1_renew ⟨Nat.le_of_ble_eq_true rfl, Nat.le_of_ble_eq_true rfl⟩) hK hN hP (va_D_fst hD rfl) hS [4, 5] rfl rfl rfl rfl rfl rfl hl.1 rfl (Nat.le_of_ble_eq_true rfl) dX4_sheet_48 ⟨Nat.zero_le _, Nat.zero_le _⟩ rfl rfl (fun H locs hf_48 hP hS => ?_)
            refine lv_iconst (v := 1) hx hb dX4_sheet_51 (by decide) ?_
            obtain ⟨rfl, rfl, rfl, rfl, rfl⟩ := pj5 (Option.some.inj h)
            exact W.iret hx hb hr (fun t ht _ => kQ.mk ht hP trivial (hS.F ht)) hS.2.2 dX4_sheet_52
          · rw [k_45] at h
            refine lv_sa k_45 ?_
            refine lv_iload_n hx hb dX4_sheet_46 rfl (lv_at hl 2 rfl) ?_
            refine lv_iload_n hx hb dX4_sheet_47 rfl (lv_at hl 3 rfl) ?_
            obtain ⟨r_48_lane, r_48_length, r_48_cells, e_48, h⟩ := ob3_inv h
            refine k_wVv (i0 := 6) (rest := []) (ws' := [(a_o, .inr (4, [.ref a_n, .ref a_t, .ref a_d, .ref a_o_sheets, .ref a_rd, .int o_traced, .int (0 : Int32)])), (a_o_sheets, .inl (cS, 4, .inr (.inr (.inr (.inr (fun j => some (sa j))))))), ((sa 0), .inr (1, [.int (sl 0), .int (sn 0), .ref (sca 0)])), ((sca 0), .inl (cI, 60, .inl (sc 0))), ((sa 1), .inr (1, [.int (sl 1), .int (sn 1), .ref (sca 1)])), ((sca 1), .inl (cI, 60, .inl (sc 1))), ((sa 2), .inr (1, [.int r_48_lane, .int r_48_length, .ref (sca 2)])), ((sca 2), .inl (cI, 60, .inl r_48_cells)), ((sa 3), .inr (1, [.int (sl 3), .int (sn 3), .ref (sca 3)])), ((sca 3), .inl (cI, 60, .inl (sc 3)))]) ⟨hx, hb, hml, hown, hts⟩ (c_X1_renew l dC dI cI cS (sa 2) (sca 2) (sl 2) (sn 2) (sc 2) x2 x3 r_48_lane r_48_length r_48_cells e_48) (cwV 2 hts gX4_sheet_X1_renew rfl rfl rfl khd_X1_renew ⟨Nat.le_of_ble_eq_true rfl, Nat.le_of_ble_eq_true rfl⟩) hK hN hP (va_D_fst hD rfl) hS [6, 7] rfl rfl rfl rfl rfl rfl hl.1 rfl (Nat.le_of_ble_eq_true rfl) dX4_sheet_48 ⟨Nat.zero_le _, Nat.zero_le _⟩ rfl rfl (fun H locs hf_48 hP hS => ?_)
            refine lv_iconst (v := 1) hx hb dX4_sheet_51 (by decide) ?_
            obtain ⟨rfl, rfl, rfl, rfl, rfl⟩ := pj5 (Option.some.inj h)
            exact W.iret hx hb hr (fun t ht _ => kQ.mk ht hP trivial (hS.F ht)) hS.2.2 dX4_sheet_52
          · rw [k_45] at h
            refine lv_sa k_45 ?_
            refine lv_iload_n hx hb dX4_sheet_46 rfl (lv_at hl 2 rfl) ?_
            refine lv_iload_n hx hb dX4_sheet_47 rfl (lv_at hl 3 rfl) ?_
            obtain ⟨r_48_lane, r_48_length, r_48_cells, e_48, h⟩ := ob3_inv h
            refine k_wVv (i0 := 8) (rest := []) (ws' := [(a_o, .inr (4, [.ref a_n, .ref a_t, .ref a_d, .ref a_o_sheets, .ref a_rd, .int o_traced, .int (0 : Int32)])), (a_o_sheets, .inl (cS, 4, .inr (.inr (.inr (.inr (fun j => some (sa j))))))), ((sa 0), .inr (1, [.int (sl 0), .int (sn 0), .ref (sca 0)])), ((sca 0), .inl (cI, 60, .inl (sc 0))), ((sa 1), .inr (1, [.int (sl 1), .int (sn 1), .ref (sca 1)])), ((sca 1), .inl (cI, 60, .inl (sc 1))), ((sa 2), .inr (1, [.int (sl 2), .int (sn 2), .ref (sca 2)])), ((sca 2), .inl (cI, 60, .inl (sc 2))), ((sa 3), .inr (1, [.int r_48_lane, .int r_48_length, .ref (sca 3)])), ((sca 3), .inl (cI, 60, .inl r_48_cells))]) ⟨hx, hb, hml, hown, hts⟩ (c_X1_renew l dC dI cI cS (sa 3) (sca 3) (sl 3) (sn 3) (sc 3) x2 x3 r_48_lane r_48_length r_48_cells e_48) (cwV 2 hts gX4_sheet_X1_renew rfl rfl rfl khd_X1_renew ⟨Nat.le_of_ble_eq_true rfl, Nat.le_of_ble_eq_true rfl⟩) hK hN hP (va_D_fst hD rfl) hS [8, 9] rfl rfl rfl rfl rfl rfl hl.1 rfl (Nat.le_of_ble_eq_true rfl) dX4_sheet_48 ⟨Nat.zero_le _, Nat.zero_le _⟩ rfl rfl (fun H locs hf_48 hP hS => ?_)
            refine lv_iconst (v := 1) hx hb dX4_sheet_51 (by decide) ?_
            obtain ⟨rfl, rfl, rfl, rfl, rfl⟩ := pj5 (Option.some.inj h)
            exact W.iret hx hb hr (fun t ht _ => kQ.mk ht hP trivial (hS.F ht)) hS.2.2 dX4_sheet_52
        · have h := hp_neg c_31 h
          refine lv_aload_n hx hb dX4_sheet_34 rfl (lv_at hl 0 rfl) ?_
          refine lv_iconst (v := 4) hx hb dX4_sheet_35 (by decide) ?_
          obtain ⟨r_36, r_36_lastFault, e_36, h⟩ := ob2_inv h
          refine k_wVi (i0 := 0) (rest := []) (ws' := [(a_o, .inr (4, [.ref a_n, .ref a_t, .ref a_d, .ref a_o_sheets, .ref a_rd, .int o_traced, .int r_36_lastFault])), (a_o_sheets, .inl (cS, 4, .inr (.inr (.inr (.inr (fun j => some (sa j))))))), ((sa 0), .inr (1, [.int (sl 0), .int (sn 0), .ref (sca 0)])), ((sca 0), .inl (cI, 60, .inl (sc 0))), ((sa 1), .inr (1, [.int (sl 1), .int (sn 1), .ref (sca 1)])), ((sca 1), .inl (cI, 60, .inl (sc 1))), ((sa 2), .inr (1, [.int (sl 2), .int (sn 2), .ref (sca 2)])), ((sca 2), .inl (cI, 60, .inl (sc 2))), ((sa 3), .inr (1, [.int (sl 3), .int (sn 3), .ref (sca 3)])), ((sca 3), .inl (cI, 60, .inl (sc 3)))]) ⟨hx, hb, hml, hown, hts⟩ (c_X4_failed l dC dI cI cS a_o a_n a_t a_d a_o_sheets a_rd o_traced (0 : Int32) (4 : Int32) r_36 r_36_lastFault e_36) (cwV 1 hts gX4_sheet_X4_failed rfl rfl rfl khd_X4_failed ⟨Nat.le_of_ble_eq_true rfl, Nat.le_of_ble_eq_true rfl⟩) hK hN hP (va_D_fst hD rfl) hS [0] rfl rfl rfl rfl rfl rfl hl.1 rfl (Nat.le_of_ble_eq_true rfl) dX4_sheet_36 ⟨Nat.zero_le _, Nat.zero_le _⟩ rfl rfl (fun H locs hf_36 hP hS => ?_)
          obtain ⟨rfl, rfl, rfl, rfl, rfl⟩ := pj5 (Option.some.inj h)
          exact W.iret hx hb hr (fun t ht _ => kQ.mk ht hP trivial (hS.F ht)) hS.2.2 dX4_sheet_39
      · have h := hp_neg c_24 h
        refine lv_bipush (v := -2) hx hb dX4_sheet_27 (by decide) ?_
        obtain ⟨rfl, rfl, rfl, rfl, rfl⟩ := pj5 (Option.some.inj h)
        exact W.iret hx hb hr (fun t ht _ => kQ.mk ht hP trivial (hS.F ht)) hS.2.2 dX4_sheet_29
  · have h := hp_pos c_9 h
    refine lv_iconst (v := -1) hx hb dX4_sheet_12 (by decide) ?_
    obtain ⟨rfl, rfl, rfl, rfl, rfl⟩ := pj5 (Option.some.inj h)
    exact W.iret hx hb hr (fun t ht _ => kQ.mk ht hP trivial (hS.F ht)) hS.2.2 dX4_sheet_13
theorem kin_X4_put_X4 : ∀ w ∈ wsX40, w ∈ wsX4_put := fun _ h => List.mem_cons_of_mem _ (List.mem_append_left _ (List.mem_append_right _ h))
theorem kin_X4_put_X1 : ∀ w ∈ wsX10, w ∈ wsX4_put := fun _ h => List.mem_cons_of_mem _ (List.mem_append_right _ h)
theorem khd_X4_put : yX4_put.cls = RX4 ∧ yX4_put.cls ≠ "java/lang/invoke/MethodHandle" ∧ yX4_put.cls ≠ "java/lang/invoke/VarHandle" ∧ (parseMethodDescriptor yX4_put.desc).map (fun d => d.parameters.length) = some 3 := by decide +kernel
set_option maxHeartbeats 8000000 in
set_option maxRecDepth 100000 in
theorem c_X4_put (l : Launch) (dC : Nat → ClassId) (dI : Nat → Nat → Nat) (cI cS : ClassId) (a_o : Nat) (a_n : Nat) (a_t : Nat) (a_d : Nat) (a_o_sheets : Nat) (a_rd : Nat) (sa : Nat → Nat) (sca : Nat → Nat) (o_traced : Int32) (o_lastFault : Int32) (sl : Nat → Int32) (sn : Nat → Int32) (sc : Nat → Nat → Int32) (x1 : Int32) (x2 : Int32) (x3 : Int32) (r : Int32) (z_o_lastFault : Int32) (z_sc : Nat → Nat → Int32) (h : f_X4_put sl sn sc x1 x2 x3 = some (r, z_o_lastFault, z_sc)) : Mk l yX4_put wsX4_put ({ frames := 2, cells := 0, slots := 0, locals := 45 } : Room) (dC, dI) cI cS [(a_o, .inr (4, [.ref a_n, .ref a_t, .ref a_d, .ref a_o_sheets, .ref a_rd, .int o_traced, .int o_lastFault])), (a_o_sheets, .inl (cS, 4, .inr (.inr (.inr (.inr (fun j => some (sa j))))))), ((sa 0), .inr (1, [.int (sl 0), .int (sn 0), .ref (sca 0)])), ((sca 0), .inl (cI, 60, .inl (sc 0))), ((sa 1), .inr (1, [.int (sl 1), .int (sn 1), .ref (sca 1)])), ((sca 1), .inl (cI, 60, .inl (sc 1))), ((sa 2), .inr (1, [.int (sl 2), .int (sn 2), .ref (sca 2)])), ((sca 2), .inl (cI, 60, .inl (sc 2))), ((sa 3), .inr (1, [.int (sl 3), .int (sn 3), .ref (sca 3)])), ((sca 3), .inl (cI, 60, .inl (sc 3)))] [.ref a_o, .int x1, .int x2, .int x3] (some (.int r)) True (fun H => va_P (dC, dI) vwCl [(a_o, .inr (4, [.ref a_n, .ref a_t, .ref a_d, .ref a_o_sheets, .ref a_rd, .int o_traced, .int z_o_lastFault])), (a_o_sheets, .inl (cS, 4, .inr (.inr (.inr (.inr (fun j => some (sa j))))))), ((sa 0), .inr (1, [.int (sl 0), .int (sn 0), .ref (sca 0)])), ((sca 0), .inl (cI, 60, .inl (z_sc 0))), ((sa 1), .inr (1, [.int (sl 1), .int (sn 1), .ref (sca 1)])), ((sca 1), .inl (cI, 60, .inl (z_sc 1))), ((sa 2), .inr (1, [.int (sl 2), .int (sn 2), .ref (sca 2)])), ((sca 2), .inl (cI, 60, .inl (z_sc 2))), ((sa 3), .inr (1, [.int (sl 3), .int (sn 3), .ref (sca 3)])), ((sca 3), .inl (cI, 60, .inl (z_sc 3)))] H) (inA (List.map Prod.fst ([(a_o, .inr (4, [.ref a_n, .ref a_t, .ref a_d, .ref a_o_sheets, .ref a_rd, .int o_traced, .int o_lastFault])), (a_o_sheets, .inl (cS, 4, .inr (.inr (.inr (.inr (fun j => some (sa j))))))), ((sa 0), .inr (1, [.int (sl 0), .int (sn 0), .ref (sca 0)])), ((sca 0), .inl (cI, 60, .inl (sc 0))), ((sa 1), .inr (1, [.int (sl 1), .int (sn 1), .ref (sca 1)])), ((sca 1), .inl (cI, 60, .inl (sc 1))), ((sa 2), .inr (1, [.int (sl 2), .int (sn 2), .ref (sca 2)])), ((sca 2), .inl (cI, 60, .inl (sc 2))), ((sa 3), .inr (1, [.int (sl 3), .int (sn 3), .ref (sca 3)])), ((sca 3), .inl (cI, 60, .inl (sc 3)))] : va_W))) := by
  refine Met.ofW (cc := cX4_put) (maxL := 6) (ret := (some .int)) (by decide) rfl ?_
  intro p e s m args below meth c s₁ B hml hv
  obtain ⟨rfl, hP, hK, hN, hD⟩ := hv
  have hx := B.exec
  have hb := B.bytes
  have hr := B.returns
  have hts := atoms_spec (ws := wsX4_put) B.pre
  have hown : s.vm.findClass RX4 = some m.cls := findClass_of_methodNamed B.named
  have hlocks := B.notSynchronized
  have hS : va_S (inA [a_o, a_o_sheets, (sa 0), (sca 0), (sa 1), (sca 1), (sa 2), (sca 2), (sa 3), (sca 3)]) s.heap s.heap [] := va_S.rf
  have hP : va_P (dC, dI) vwCl [(a_o, .inr (4, [.ref a_n, .ref a_t, .ref a_d, .ref a_o_sheets, .ref a_rd, .int o_traced, .int o_lastFault])), (a_o_sheets, .inl (cS, 4, .inr (.inr (.inr (.inr (fun j => some (sa j))))))), ((sa 0), .inr (1, [.int (sl 0), .int (sn 0), .ref (sca 0)])), ((sca 0), .inl (cI, 60, .inl (sc 0))), ((sa 1), .inr (1, [.int (sl 1), .int (sn 1), .ref (sca 1)])), ((sca 1), .inl (cI, 60, .inl (sc 1))), ((sa 2), .inr (1, [.int (sl 2), .int (sn 2), .ref (sca 2)])), ((sca 2), .inl (cI, 60, .inl (sc 2))), ((sa 3), .inr (1, [.int (sl 3), .int (sn 3), .ref (sca 3)])), ((sca 3), .inl (cI, 60, .inl (sc 3)))] s.heap := hP
  have hD : va_D (inA [a_o, a_o_sheets, (sa 0), (sca 0), (sa 1), (sca 1), (sa 2), (sca 2), (sa 3), (sca 3)]) [(a_o, .inr (4, [.ref a_n, .ref a_t, .ref a_d, .ref a_o_sheets, .ref a_rd, .int o_traced, .int o_lastFault])), (a_o_sheets, .inl (cS, 4, .inr (.inr (.inr (.inr (fun j => some (sa j))))))), ((sa 0), .inr (1, [.int (sl 0), .int (sn 0), .ref (sca 0)])), ((sca 0), .inl (cI, 60, .inl (sc 0))), ((sa 1), .inr (1, [.int (sl 1), .int (sn 1), .ref (sca 1)])), ((sca 1), .inl (cI, 60, .inl (sc 1))), ((sa 2), .inr (1, [.int (sl 2), .int (sn 2), .ref (sca 2)])), ((sca 2), .inl (cI, 60, .inl (sc 2))), ((sa 3), .inr (1, [.int (sl 3), .int (sn 3), .ref (sca 3)])), ((sca 3), .inl (cI, 60, .inl (sc 3)))] := va_D_in hD rfl
  have hl := lv_entry ([.ref a_o, .int x1, .int x2, .int x3]) (n := 6) (Nat.le_of_ble_eq_true rfl)
  rw [lg_entry_eq]
  generalize (lg_sl ([.ref a_o, .int x1, .int x2, .int x3]) ++ List.replicate (6 - (lg_sl ([.ref a_o, .int x1, .int x2, .int x3])).length) Slot.unset).toArray = ls at hl ⊢
  have hl : lv_has ls 6 [(0, .ref a_o), (1, .int x1), (2, .int x2), (3, .int x3)] := hl
  unfold f_X4_put at h
  refine lv_aload_n hx hb dX4_put_0 rfl (lv_at hl 0 rfl) ?_
  refine lv_iconst (v := 0) hx hb dX4_put_1 (by decide) ?_
  refine va_put (D := (dC, dI)) (ci := 4) (v := .int (0 : Int32)) (C := RX4) (T := TX4) (N := 7) hx hb hts kin_X4_put_X4 tyX4 tyX4_ok nmX4 hown hK hP (va_D_fst hD rfl) hS 0 rfl rfl 6 (Nat.le_of_ble_eq_true rfl) (hts (.fieldLink RX4 48 "OwnedThings" "lastFault" "I") (List.mem_of_getElem? (i := 1) rfl)) (fun _ h9 => h9) rfl (tyX4_ok 6 (Nat.le_of_ble_eq_true rfl)) rfl rfl (Nat.le_of_ble_eq_true rfl) dX4_put_2 (fun H locs hP _ hS => ?_)
  have hP : va_P (dC, dI) vwCl [(a_o, .inr (4, [.ref a_n, .ref a_t, .ref a_d, .ref a_o_sheets, .ref a_rd, .int o_traced, .int (0 : Int32)])), (a_o_sheets, .inl (cS, 4, .inr (.inr (.inr (.inr (fun j => some (sa j))))))), ((sa 0), .inr (1, [.int (sl 0), .int (sn 0), .ref (sca 0)])), ((sca 0), .inl (cI, 60, .inl (sc 0))), ((sa 1), .inr (1, [.int (sl 1), .int (sn 1), .ref (sca 1)])), ((sca 1), .inl (cI, 60, .inl (sc 1))), ((sa 2), .inr (1, [.int (sl 2), .int (sn 2), .ref (sca 2)])), ((sca 2), .inl (cI, 60, .inl (sc 2))), ((sa 3), .inr (1, [.int (sl 3), .int (sn 3), .ref (sca 3)])), ((sca 3), .inl (cI, 60, .inl (sc 3)))] H := hP
  refine lv_iload_n hx hb dX4_put_5 rfl (lv_at hl 1 rfl) ?_
  obtain ⟨r_6, e_6, h⟩ := ob1_inv h
  refine k_pSi (rest := []) ⟨hx, hb, hml, hown, hts⟩ (c_X4_isSheet l dC dI cI cS x1 r_6 e_6) (cwS 1 hts gX4_put_X4_isSheet rfl rfl rfl khd_X4_isSheet ⟨Nat.le_of_ble_eq_true rfl, Nat.le_of_ble_eq_true rfl⟩) hK hN hP (va_D_fst hD rfl) hS [] rfl rfl rfl hl.1 rfl (Nat.le_of_ble_eq_true rfl) dX4_put_6 ⟨Nat.zero_le _, Nat.zero_le _⟩ (fun H locs hf_6 hP hS => ?_)
  refine lv_if_ne (tgt := 14) hx hb dX4_put_9 (by decide) (fun c_9 => ?_) (fun c_9 => ?_)
  · have h := hp_neg c_9 h
    refine lv_aload_n hx hb dX4_put_14 rfl (lv_at hl 0 rfl) ?_
    refine va_get (D := (dC, dI)) (ci := 4) (v := .ref a_o_sheets) (C := RX4) (T := TX4) (N := 7) hx hb hts kin_X4_put_X4 hown hK hP 0 rfl rfl 3 (Nat.le_of_ble_eq_true rfl) (hts (.fieldLink RX4 30 "OwnedThings" "sheets" "[LOwnedThings$Sheet;") (List.mem_of_getElem? (i := 2) rfl)) (fun _ h9 => h9) rfl dX4_put_15 ?_
    refine lv_iload_n hx hb dX4_put_18 rfl (lv_at hl 1 rfl) ?_
    have g_19 := hg_no h
    have h := hg_yes h
    refine va_aldq (D := (dC, dI)) hx hb hK hP 1 1 rfl rfl g_19 dX4_put_19 ?_
    rcases lt4_cases g_19 with k_19 | k_19 | k_19 | k_19
    · rw [k_19] at h
      refine lv_sa k_19 ?_
      refine lv_astore (lv' := [(4, .ref (sa 0)), (0, .ref a_o), (1, .int x1), (2, .int x2), (3, .int x3)]) hx hb dX4_put_20 hl (by decide) rfl (fun ls hl => ?_)
      refine lv_aload hx hb dX4_put_22 (lv_at hl 0 rfl) ?_
      refine lv_aload hx hb dX4_put_24 (lv_at hl 0 rfl) ?_
      obtain ⟨r_26, e_26, h⟩ := ob1_inv h
      refine k_pVi (i0 := 2) (rest := [.ref (sa 0)]) ⟨hx, hb, hml, hown, hts⟩ (c_X1_laneOf l dC dI cI cS (sa 0) (sca 0) (sl 0) (sn 0) r_26 e_26) (cwV 0 hts gX4_put_X1_laneOf rfl rfl rfl khd_X1_laneOf ⟨Nat.le_of_ble_eq_true rfl, Nat.le_of_ble_eq_true rfl⟩) hK hN hP (va_D_fst hD rfl) hS [2] rfl rfl rfl rfl rfl rfl hl.1 rfl (Nat.le_of_ble_eq_true rfl) dX4_put_26 ⟨Nat.zero_le _, Nat.zero_le _⟩ (fun H locs hf_26 hP hS => ?_)
      refine lv_iload_n hx hb dX4_put_29 rfl (lv_at hl 3 rfl) ?_
      refine lv_iconst (v := 1) hx hb dX4_put_30 (by decide) ?_
      obtain ⟨r_31, e_31, h⟩ := ob1_inv h
      refine k_pVi (i0 := 2) (rest := []) ⟨hx, hb, hml, hown, hts⟩ (c_X1_rowFault l dC dI cI cS (sa 0) (sca 0) (sl 0) (sn 0) r_26 x2 (1 : Int32) r_31 e_31) (cwV 3 hts gX4_put_X1_rowFault rfl rfl rfl khd_X1_rowFault ⟨Nat.le_of_ble_eq_true rfl, Nat.le_of_ble_eq_true rfl⟩) hK hN hP (va_D_fst hD rfl) hS [2] rfl rfl rfl rfl rfl rfl hl.1 rfl (Nat.le_of_ble_eq_true rfl) dX4_put_31 ⟨Nat.zero_le _, Nat.zero_le _⟩ (fun H locs hf_31 hP hS => ?_)
      refine lv_istore (lv' := [(5, .int r_31), (4, .ref (sa 0)), (0, .ref a_o), (1, .int x1), (2, .int x2), (3, .int x3)]) hx hb dX4_put_34 hl (by decide) rfl (fun ls hl => ?_)
      refine lv_iload hx hb dX4_put_36 (lv_at hl 0 rfl) ?_
      refine lv_if_eq (tgt := 48) hx hb dX4_put_38 (by decide) (fun c_38 => ?_) (fun c_38 => ?_)
      · have h := hp_pos c_38 h
        refine lv_aload hx hb dX4_put_48 (lv_at hl 1 rfl) ?_
        refine lv_iload_n hx hb dX4_put_50 rfl (lv_at hl 4 rfl) ?_
        refine lv_iload_n hx hb dX4_put_51 rfl (lv_at hl 5 rfl) ?_
        obtain ⟨r_52_cells, e_52, h⟩ := ob1_inv h
        refine k_wVv (i0 := 2) (rest := []) (ws' := [(a_o, .inr (4, [.ref a_n, .ref a_t, .ref a_d, .ref a_o_sheets, .ref a_rd, .int o_traced, .int (0 : Int32)])), (a_o_sheets, .inl (cS, 4, .inr (.inr (.inr (.inr (fun j => some (sa j))))))), ((sa 0), .inr (1, [.int (sl 0), .int (sn 0), .ref (sca 0)])), ((sca 0), .inl (cI, 60, .inl r_52_cells)), ((sa 1), .inr (1, [.int (sl 1), .int (sn 1), .ref (sca 1)])), ((sca 1), .inl (cI, 60, .inl (sc 1))), ((sa 2), .inr (1, [.int (sl 2), .int (sn 2), .ref (sca 2)])), ((sca 2), .inl (cI, 60, .inl (sc 2))), ((sa 3), .inr (1, [.int (sl 3), .int (sn 3), .ref (sca 3)])), ((sca 3), .inl (cI, 60, .inl (sc 3)))]) ⟨hx, hb, hml, hown, hts⟩ (c_X1_setAt l dC dI cI cS (sa 0) (sca 0) (sl 0) (sn 0) (sc 0) x2 x3 r_52_cells e_52) (cwV 2 hts gX4_put_X1_setAt rfl rfl rfl khd_X1_setAt ⟨Nat.le_of_ble_eq_true rfl, Nat.le_of_ble_eq_true rfl⟩) hK hN hP (va_D_fst hD rfl) hS [2, 3] rfl rfl rfl rfl rfl rfl hl.1 rfl (Nat.le_of_ble_eq_true rfl) dX4_put_52 ⟨Nat.zero_le _, Nat.zero_le _⟩ rfl rfl (fun H locs hf_52 hP hS => ?_)
        refine lv_iconst (v := 1) hx hb dX4_put_55 (by decide) ?_
        obtain ⟨rfl, rfl, rfl⟩ := pj3 (Option.some.inj h)
        exact W.iret hx hb hr (fun t ht _ => kQ.mk ht hP trivial (hS.F ht)) hS.2.2 dX4_put_56
      · have h := hp_neg c_38 h
        refine lv_aload_n hx hb dX4_put_41 rfl (lv_at hl 2 rfl) ?_
        refine lv_iload hx hb dX4_put_42 (lv_at hl 0 rfl) ?_
        obtain ⟨r_44, r_44_lastFault, e_44, h⟩ := ob2_inv h
        refine k_wVi (i0 := 0) (rest := []) (ws' := [(a_o, .inr (4, [.ref a_n, .ref a_t, .ref a_d, .ref a_o_sheets, .ref a_rd, .int o_traced, .int r_44_lastFault])), (a_o_sheets, .inl (cS, 4, .inr (.inr (.inr (.inr (fun j => some (sa j))))))), ((sa 0), .inr (1, [.int (sl 0), .int (sn 0), .ref (sca 0)])), ((sca 0), .inl (cI, 60, .inl (sc 0))), ((sa 1), .inr (1, [.int (sl 1), .int (sn 1), .ref (sca 1)])), ((sca 1), .inl (cI, 60, .inl (sc 1))), ((sa 2), .inr (1, [.int (sl 2), .int (sn 2), .ref (sca 2)])), ((sca 2), .inl (cI, 60, .inl (sc 2))), ((sa 3), .inr (1, [.int (sl 3), .int (sn 3), .ref (sca 3)])), ((sca 3), .inl (cI, 60, .inl (sc 3)))]) ⟨hx, hb, hml, hown, hts⟩ (c_X4_failed l dC dI cI cS a_o a_n a_t a_d a_o_sheets a_rd o_traced (0 : Int32) r_31 r_44 r_44_lastFault e_44) (cwV 1 hts gX4_put_X4_failed rfl rfl rfl khd_X4_failed ⟨Nat.le_of_ble_eq_true rfl, Nat.le_of_ble_eq_true rfl⟩) hK hN hP (va_D_fst hD rfl) hS [0] rfl rfl rfl rfl rfl rfl hl.1 rfl (Nat.le_of_ble_eq_true rfl) dX4_put_44 ⟨Nat.zero_le _, Nat.zero_le _⟩ rfl rfl (fun H locs hf_44 hP hS => ?_)
        obtain ⟨rfl, rfl, rfl⟩ := pj3 (Option.some.inj h)
        exact W.iret hx hb hr (fun t ht _ => kQ.mk ht hP trivial (hS.F ht)) hS.2.2 dX4_put_47
    · rw [k_19] at h
      refine lv_sa k_19 ?_
      refine lv_astore (lv' := [(4, .ref (sa 1)), (0, .ref a_o), (1, .int x1), (2, .int x2), (3, .int x3)]) hx hb dX4_put_20 hl (by decide) rfl (fun ls hl => ?_)
      refine lv_aload hx hb dX4_put_22 (lv_at hl 0 rfl) ?_
      refine lv_aload hx hb dX4_put_24 (lv_at hl 0 rfl) ?_
      obtain ⟨r_26, e_26, h⟩ := ob1_inv h
      refine k_pVi (i0 := 4) (rest := [.ref (sa 1)]) ⟨hx, hb, hml, hown, hts⟩ (c_X1_laneOf l dC dI cI cS (sa 1) (sca 1) (sl 1) (sn 1) r_26 e_26) (cwV 0 hts gX4_put_X1_laneOf rfl rfl rfl khd_X1_laneOf ⟨Nat.le_of_ble_eq_true rfl, Nat.le_of_ble_eq_true rfl⟩) hK hN hP (va_D_fst hD rfl) hS [4] rfl rfl rfl rfl rfl rfl hl.1 rfl (Nat.le_of_ble_eq_true rfl) dX4_put_26 ⟨Nat.zero_le _, Nat.zero_le _⟩ (fun H locs hf_26 hP hS => ?_)
      refine lv_iload_n hx hb dX4_put_29 rfl (lv_at hl 3 rfl) ?_
      refine lv_iconst (v := 1) hx hb dX4_put_30 (by decide) ?_
      obtain ⟨r_31, e_31, h⟩ := ob1_inv h
      refine k_pVi (i0 := 4) (rest := []) ⟨hx, hb, hml, hown, hts⟩ (c_X1_rowFault l dC dI cI cS (sa 1) (sca 1) (sl 1) (sn 1) r_26 x2 (1 : Int32) r_31 e_31) (cwV 3 hts gX4_put_X1_rowFault rfl rfl rfl khd_X1_rowFault ⟨Nat.le_of_ble_eq_true rfl, Nat.le_of_ble_eq_true rfl⟩) hK hN hP (va_D_fst hD rfl) hS [4] rfl rfl rfl rfl rfl rfl hl.1 rfl (Nat.le_of_ble_eq_true rfl) dX4_put_31 ⟨Nat.zero_le _, Nat.zero_le _⟩ (fun H locs hf_31 hP hS => ?_)
      refine lv_istore (lv' := [(5, .int r_31), (4, .ref (sa 1)), (0, .ref a_o), (1, .int x1), (2, .int x2), (3, .int x3)]) hx hb dX4_put_34 hl (by decide) rfl (fun ls hl => ?_)
      refine lv_iload hx hb dX4_put_36 (lv_at hl 0 rfl) ?_
      refine lv_if_eq (tgt := 48) hx hb dX4_put_38 (by decide) (fun c_38 => ?_) (fun c_38 => ?_)
      · have h := hp_pos c_38 h
        refine lv_aload hx hb dX4_put_48 (lv_at hl 1 rfl) ?_
        refine lv_iload_n hx hb dX4_put_50 rfl (lv_at hl 4 rfl) ?_
        refine lv_iload_n hx hb dX4_put_51 rfl (lv_at hl 5 rfl) ?_
        obtain ⟨r_52_cells, e_52, h⟩ := ob1_inv h
        refine k_wVv (i0 := 4) (rest := []) (ws' := [(a_o, .inr (4, [.ref a_n, .ref a_t, .ref a_d, .ref a_o_sheets, .ref a_rd, .int o_traced, .int (0 : Int32)])), (a_o_sheets, .inl (cS, 4, .inr (.inr (.inr (.inr (fun j => some (sa j))))))), ((sa 0), .inr (1, [.int (sl 0), .int (sn 0), .ref (sca 0)])), ((sca 0), .inl (cI, 60, .inl (sc 0))), ((sa 1), .inr (1, [.int (sl 1), .int (sn 1), .ref (sca 1)])), ((sca 1), .inl (cI, 60, .inl r_52_cells)), ((sa 2), .inr (1, [.int (sl 2), .int (sn 2), .ref (sca 2)])), ((sca 2), .inl (cI, 60, .inl (sc 2))), ((sa 3), .inr (1, [.int (sl 3), .int (sn 3), .ref (sca 3)])), ((sca 3), .inl (cI, 60, .inl (sc 3)))]) ⟨hx, hb, hml, hown, hts⟩ (c_X1_setAt l dC dI cI cS (sa 1) (sca 1) (sl 1) (sn 1) (sc 1) x2 x3 r_52_cells e_52) (cwV 2 hts gX4_put_X1_setAt rfl rfl rfl khd_X1_setAt ⟨Nat.le_of_ble_eq_true rfl, Nat.le_of_ble_eq_true rfl⟩) hK hN hP (va_D_fst hD rfl) hS [4, 5] rfl rfl rfl rfl rfl rfl hl.1 rfl (Nat.le_of_ble_eq_true rfl) dX4_put_52 ⟨Nat.zero_le _, Nat.zero_le _⟩ rfl rfl (fun H locs hf_52 hP hS => ?_)
        refine lv_iconst (v := 1) hx hb dX4_put_55 (by decide) ?_
        obtain ⟨rfl, rfl, rfl⟩ := pj3 (Option.some.inj h)
        exact W.iret hx hb hr (fun t ht _ => kQ.mk ht hP trivial (hS.F ht)) hS.2.2 dX4_put_56
      · have h := hp_neg c_38 h
        refine lv_aload_n hx hb dX4_put_41 rfl (lv_at hl 2 rfl) ?_
        refine lv_iload hx hb dX4_put_42 (lv_at hl 0 rfl) ?_
        obtain ⟨r_44, r_44_lastFault, e_44, h⟩ := ob2_inv h
        refine k_wVi (i0 := 0) (rest := []) (ws' := [(a_o, .inr (4, [.ref a_n, .ref a_t, .ref a_d, .ref a_o_sheets, .ref a_rd, .int o_traced, .int r_44_lastFault])), (a_o_sheets, .inl (cS, 4, .inr (.inr (.inr (.inr (fun j => some (sa j))))))), ((sa 0), .inr (1, [.int (sl 0), .int (sn 0), .ref (sca 0)])), ((sca 0), .inl (cI, 60, .inl (sc 0))), ((sa 1), .inr (1, [.int (sl 1), .int (sn 1), .ref (sca 1)])), ((sca 1), .inl (cI, 60, .inl (sc 1))), ((sa 2), .inr (1, [.int (sl 2), .int (sn 2), .ref (sca 2)])), ((sca 2), .inl (cI, 60, .inl (sc 2))), ((sa 3), .inr (1, [.int (sl 3), .int (sn 3), .ref (sca 3)])), ((sca 3), .inl (cI, 60, .inl (sc 3)))]) ⟨hx, hb, hml, hown, hts⟩ (c_X4_failed l dC dI cI cS a_o a_n a_t a_d a_o_sheets a_rd o_traced (0 : Int32) r_31 r_44 r_44_lastFault e_44) (cwV 1 hts gX4_put_X4_failed rfl rfl rfl khd_X4_failed ⟨Nat.le_of_ble_eq_true rfl, Nat.le_of_ble_eq_true rfl⟩) hK hN hP (va_D_fst hD rfl) hS [0] rfl rfl rfl rfl rfl rfl hl.1 rfl (Nat.le_of_ble_eq_true rfl) dX4_put_44 ⟨Nat.zero_le _, Nat.zero_le _⟩ rfl rfl (fun H locs hf_44 hP hS => ?_)
        obtain ⟨rfl, rfl, rfl⟩ := pj3 (Option.some.inj h)
        exact W.iret hx hb hr (fun t ht _ => kQ.mk ht hP trivial (hS.F ht)) hS.2.2 dX4_put_47
    · rw [k_19] at h
      refine lv_sa k_19 ?_
      refine lv_astore (lv' := [(4, .ref (sa 2)), (0, .ref a_o), (1, .int x1), (2, .int x2), (3, .int x3)]) hx hb dX4_put_20 hl (by decide) rfl (fun ls hl => ?_)
      refine lv_aload hx hb dX4_put_22 (lv_at hl 0 rfl) ?_
      refine lv_aload hx hb dX4_put_24 (lv_at hl 0 rfl) ?_
      obtain ⟨r_26, e_26, h⟩ := ob1_inv h
      refine k_pVi (i0 := 6) (rest := [.ref (sa 2)]) ⟨hx, hb, hml, hown, hts⟩ (c_X1_laneOf l dC dI cI cS (sa 2) (sca 2) (sl 2) (sn 2) r_26 e_26) (cwV 0 hts gX4_put_X1_laneOf rfl rfl rfl khd_X1_laneOf ⟨Nat.le_of_ble_eq_true rfl, Nat.le_of_ble_eq_true rfl⟩) hK hN hP (va_D_fst hD rfl) hS [6] rfl rfl rfl rfl rfl rfl hl.1 rfl (Nat.le_of_ble_eq_true rfl) dX4_put_26 ⟨Nat.zero_le _, Nat.zero_le _⟩ (fun H locs hf_26 hP hS => ?_)
      refine lv_iload_n hx hb dX4_put_29 rfl (lv_at hl 3 rfl) ?_
      refine lv_iconst (v := 1) hx hb dX4_put_30 (by decide) ?_
      obtain ⟨r_31, e_31, h⟩ := ob1_inv h
      refine k_pVi (i0 := 6) (rest := []) ⟨hx, hb, hml, hown, hts⟩ (c_X1_rowFault l dC dI cI cS (sa 2) (sca 2) (sl 2) (sn 2) r_26 x2 (1 : Int32) r_31 e_31) (cwV 3 hts gX4_put_X1_rowFault rfl rfl rfl khd_X1_rowFault ⟨Nat.le_of_ble_eq_true rfl, Nat.le_of_ble_eq_true rfl⟩) hK hN hP (va_D_fst hD rfl) hS [6] rfl rfl rfl rfl rfl rfl hl.1 rfl (Nat.le_of_ble_eq_true rfl) dX4_put_31 ⟨Nat.zero_le _, Nat.zero_le _⟩ (fun H locs hf_31 hP hS => ?_)
      refine lv_istore (lv' := [(5, .int r_31), (4, .ref (sa 2)), (0, .ref a_o), (1, .int x1), (2, .int x2), (3, .int x3)]) hx hb dX4_put_34 hl (by decide) rfl (fun ls hl => ?_)
      refine lv_iload hx hb dX4_put_36 (lv_at hl 0 rfl) ?_
      refine lv_if_eq (tgt := 48) hx hb dX4_put_38 (by decide) (fun c_38 => ?_) (fun c_38 => ?_)
      · have h := hp_pos c_38 h
        refine lv_aload hx hb dX4_put_48 (lv_at hl 1 rfl) ?_
        refine lv_iload_n hx hb dX4_put_50 rfl (lv_at hl 4 rfl) ?_
        refine lv_iload_n hx hb dX4_put_51 rfl (lv_at hl 5 rfl) ?_
        obtain ⟨r_52_cells, e_52, h⟩ := ob1_inv h
        refine k_wVv (i0 := 6) (rest := []) (ws' := [(a_o, .inr (4, [.ref a_n, .ref a_t, .ref a_d, .ref a_o_sheets, .ref a_rd, .int o_traced, .int (0 : Int32)])), (a_o_sheets, .inl (cS, 4, .inr (.inr (.inr (.inr (fun j => some (sa j))))))), ((sa 0), .inr (1, [.int (sl 0), .int (sn 0), .ref (sca 0)])), ((sca 0), .inl (cI, 60, .inl (sc 0))), ((sa 1), .inr (1, [.int (sl 1), .int (sn 1), .ref (sca 1)])), ((sca 1), .inl (cI, 60, .inl (sc 1))), ((sa 2), .inr (1, [.int (sl 2), .int (sn 2), .ref (sca 2)])), ((sca 2), .inl (cI, 60, .inl r_52_cells)), ((sa 3), .inr (1, [.int (sl 3), .int (sn 3), .ref (sca 3)])), ((sca 3), .inl (cI, 60, .inl (sc 3)))]) ⟨hx, hb, hml, hown, hts⟩ (c_X1_setAt l dC dI cI cS (sa 2) (sca 2) (sl 2) (sn 2) (sc 2) x2 x3 r_52_cells e_52) (cwV 2 hts gX4_put_X1_setAt rfl rfl rfl khd_X1_setAt ⟨Nat.le_of_ble_eq_true rfl, Nat.le_of_ble_eq_true rfl⟩) hK hN hP (va_D_fst hD rfl) hS [6, 7] rfl rfl rfl rfl rfl rfl hl.1 rfl (Nat.le_of_ble_eq_true rfl) dX4_put_52 ⟨Nat.zero_le _, Nat.zero_le _⟩ rfl rfl (fun H locs hf_52 hP hS => ?_)
        refine lv_iconst (v := 1) hx hb dX4_put_55 (by decide) ?_
        obtain ⟨rfl, rfl, rfl⟩ := pj3 (Option.some.inj h)
        exact W.iret hx hb hr (fun t ht _ => kQ.mk ht hP trivial (hS.F ht)) hS.2.2 dX4_put_56
      · have h := hp_neg c_38 h
        refine lv_aload_n hx hb dX4_put_41 rfl (lv_at hl 2 rfl) ?_
        refine lv_iload hx hb dX4_put_42 (lv_at hl 0 rfl) ?_
        obtain ⟨r_44, r_44_lastFault, e_44, h⟩ := ob2_inv h
        refine k_wVi (i0 := 0) (rest := []) (ws' := [(a_o, .inr (4, [.ref a_n, .ref a_t, .ref a_d, .ref a_o_sheets, .ref a_rd, .int o_traced, .int r_44_lastFault])), (a_o_sheets, .inl (cS, 4, .inr (.inr (.inr (.inr (fun j => some (sa j))))))), ((sa 0), .inr (1, [.int (sl 0), .int (sn 0), .ref (sca 0)])), ((sca 0), .inl (cI, 60, .inl (sc 0))), ((sa 1), .inr (1, [.int (sl 1), .int (sn 1), .ref (sca 1)])), ((sca 1), .inl (cI, 60, .inl (sc 1))), ((sa 2), .inr (1, [.int (sl 2), .int (sn 2), .ref (sca 2)])), ((sca 2), .inl (cI, 60, .inl (sc 2))), ((sa 3), .inr (1, [.int (sl 3), .int (sn 3), .ref (sca 3)])), ((sca 3), .inl (cI, 60, .inl (sc 3)))]) ⟨hx, hb, hml, hown, hts⟩ (c_X4_failed l dC dI cI cS a_o a_n a_t a_d a_o_sheets a_rd o_traced (0 : Int32) r_31 r_44 r_44_lastFault e_44) (cwV 1 hts gX4_put_X4_failed rfl rfl rfl khd_X4_failed ⟨Nat.le_of_ble_eq_true rfl, Nat.le_of_ble_eq_true rfl⟩) hK hN hP (va_D_fst hD rfl) hS [0] rfl rfl rfl rfl rfl rfl hl.1 rfl (Nat.le_of_ble_eq_true rfl) dX4_put_44 ⟨Nat.zero_le _, Nat.zero_le _⟩ rfl rfl (fun H locs hf_44 hP hS => ?_)
        obtain ⟨rfl, rfl, rfl⟩ := pj3 (Option.some.inj h)
        exact W.iret hx hb hr (fun t ht _ => kQ.mk ht hP trivial (hS.F ht)) hS.2.2 dX4_put_47
    · rw [k_19] at h
      refine lv_sa k_19 ?_
      refine lv_astore (lv' := [(4, .ref (sa 3)), (0, .ref a_o), (1, .int x1), (2, .int x2), (3, .int x3)]) hx hb dX4_put_20 hl (by decide) rfl (fun ls hl => ?_)
      refine lv_aload hx hb dX4_put_22 (lv_at hl 0 rfl) ?_
      refine lv_aload hx hb dX4_put_24 (lv_at hl 0 rfl) ?_
      obtain ⟨r_26, e_26, h⟩ := ob1_inv h
      refine k_pVi (i0 := 8) (rest := [.ref (sa 3)]) ⟨hx, hb, hml, hown, hts⟩ (c_X1_laneOf l dC dI cI cS (sa 3) (sca 3) (sl 3) (sn 3) r_26 e_26) (cwV 0 hts gX4_put_X1_laneOf rfl rfl rfl khd_X1_laneOf ⟨Nat.le_of_ble_eq_true rfl, Nat.le_of_ble_eq_true rfl⟩) hK hN hP (va_D_fst hD rfl) hS [8] rfl rfl rfl rfl rfl rfl hl.1 rfl (Nat.le_of_ble_eq_true rfl) dX4_put_26 ⟨Nat.zero_le _, Nat.zero_le _⟩ (fun H locs hf_26 hP hS => ?_)
      refine lv_iload_n hx hb dX4_put_29 rfl (lv_at hl 3 rfl) ?_
      refine lv_iconst (v := 1) hx hb dX4_put_30 (by decide) ?_
      obtain ⟨r_31, e_31, h⟩ := ob1_inv h
      refine k_pVi (i0 := 8) (rest := []) ⟨hx, hb, hml, hown, hts⟩ (c_X1_rowFault l dC dI cI cS (sa 3) (sca 3) (sl 3) (sn 3) r_26 x2 (1 : Int32) r_31 e_31) (cwV 3 hts gX4_put_X1_rowFault rfl rfl rfl khd_X1_rowFault ⟨Nat.le_of_ble_eq_true rfl, Nat.le_of_ble_eq_true rfl⟩) hK hN hP (va_D_fst hD rfl) hS [8] rfl rfl rfl rfl rfl rfl hl.1 rfl (Nat.le_of_ble_eq_true rfl) dX4_put_31 ⟨Nat.zero_le _, Nat.zero_le _⟩ (fun H locs hf_31 hP hS => ?_)
      refine lv_istore (lv' := [(5, .int r_31), (4, .ref (sa 3)), (0, .ref a_o), (1, .int x1), (2, .int x2), (3, .int x3)]) hx hb dX4_put_34 hl (by decide) rfl (fun ls hl => ?_)
      refine lv_iload hx hb dX4_put_36 (lv_at hl 0 rfl) ?_
      refine lv_if_eq (tgt := 48) hx hb dX4_put_38 (by decide) (fun c_38 => ?_) (fun c_38 => ?_)
      · have h := hp_pos c_38 h
        refine lv_aload hx hb dX4_put_48 (lv_at hl 1 rfl) ?_
        refine lv_iload_n hx hb dX4_put_50 rfl (lv_at hl 4 rfl) ?_
        refine lv_iload_n hx hb dX4_put_51 rfl (lv_at hl 5 rfl) ?_
        obtain ⟨r_52_cells, e_52, h⟩ := ob1_inv h
        refine k_wVv (i0 := 8) (rest := []) (ws' := [(a_o, .inr (4, [.ref a_n, .ref a_t, .ref a_d, .ref a_o_sheets, .ref a_rd, .int o_traced, .int (0 : Int32)])), (a_o_sheets, .inl (cS, 4, .inr (.inr (.inr (.inr (fun j => some (sa j))))))), ((sa 0), .inr (1, [.int (sl 0), .int (sn 0), .ref (sca 0)])), ((sca 0), .inl (cI, 60, .inl (sc 0))), ((sa 1), .inr (1, [.int (sl 1), .int (sn 1), .ref (sca 1)])), ((sca 1), .inl (cI, 60, .inl (sc 1))), ((sa 2), .inr (1, [.int (sl 2), .int (sn 2), .ref (sca 2)])), ((sca 2), .inl (cI, 60, .inl (sc 2))), ((sa 3), .inr (1, [.int (sl 3), .int (sn 3), .ref (sca 3)])), ((sca 3), .inl (cI, 60, .inl r_52_cells))]) ⟨hx, hb, hml, hown, hts⟩ (c_X1_setAt l dC dI cI cS (sa 3) (sca 3) (sl 3) (sn 3) (sc 3) x2 x3 r_52_cells e_52) (cwV 2 hts gX4_put_X1_setAt rfl rfl rfl khd_X1_setAt ⟨Nat.le_of_ble_eq_true rfl, Nat.le_of_ble_eq_true rfl⟩) hK hN hP (va_D_fst hD rfl) hS [8, 9] rfl rfl rfl rfl rfl rfl hl.1 rfl (Nat.le_of_ble_eq_true rfl) dX4_put_52 ⟨Nat.zero_le _, Nat.zero_le _⟩ rfl rfl (fun H locs hf_52 hP hS => ?_)
        refine lv_iconst (v := 1) hx hb dX4_put_55 (by decide) ?_
        obtain ⟨rfl, rfl, rfl⟩ := pj3 (Option.some.inj h)
        exact W.iret hx hb hr (fun t ht _ => kQ.mk ht hP trivial (hS.F ht)) hS.2.2 dX4_put_56
      · have h := hp_neg c_38 h
        refine lv_aload_n hx hb dX4_put_41 rfl (lv_at hl 2 rfl) ?_
        refine lv_iload hx hb dX4_put_42 (lv_at hl 0 rfl) ?_
        obtain ⟨r_44, r_44_lastFault, e_44, h⟩ := ob2_inv h
        refine k_wVi (i0 := 0) (rest := []) (ws' := [(a_o, .inr (4, [.ref a_n, .ref a_t, .ref a_d, .ref a_o_sheets, .ref a_rd, .int o_traced, .int r_44_lastFault])), (a_o_sheets, .inl (cS, 4, .inr (.inr (.inr (.inr (fun j => some (sa j))))))), ((sa 0), .inr (1, [.int (sl 0), .int (sn 0), .ref (sca 0)])), ((sca 0), .inl (cI, 60, .inl (sc 0))), ((sa 1), .inr (1, [.int (sl 1), .int (sn 1), .ref (sca 1)])), ((sca 1), .inl (cI, 60, .inl (sc 1))), ((sa 2), .inr (1, [.int (sl 2), .int (sn 2), .ref (sca 2)])), ((sca 2), .inl (cI, 60, .inl (sc 2))), ((sa 3), .inr (1, [.int (sl 3), .int (sn 3), .ref (sca 3)])), ((sca 3), .inl (cI, 60, .inl (sc 3)))]) ⟨hx, hb, hml, hown, hts⟩ (c_X4_failed l dC dI cI cS a_o a_n a_t a_d a_o_sheets a_rd o_traced (0 : Int32) r_31 r_44 r_44_lastFault e_44) (cwV 1 hts gX4_put_X4_failed rfl rfl rfl khd_X4_failed ⟨Nat.le_of_ble_eq_true rfl, Nat.le_of_ble_eq_true rfl⟩) hK hN hP (va_D_fst hD rfl) hS [0] rfl rfl rfl rfl rfl rfl hl.1 rfl (Nat.le_of_ble_eq_true rfl) dX4_put_44 ⟨Nat.zero_le _, Nat.zero_le _⟩ rfl rfl (fun H locs hf_44 hP hS => ?_)
        obtain ⟨rfl, rfl, rfl⟩ := pj3 (Option.some.inj h)
        exact W.iret hx hb hr (fun t ht _ => kQ.mk ht hP trivial (hS.F ht)) hS.2.2 dX4_put_47
  · have h := hp_pos c_9 h
    refine lv_iconst (v := -1) hx hb dX4_put_12 (by decide) ?_
    obtain ⟨rfl, rfl, rfl⟩ := pj3 (Option.some.inj h)
    exact W.iret hx hb hr (fun t ht _ => kQ.mk ht hP trivial (hS.F ht)) hS.2.2 dX4_put_13
theorem kin_X4_many_X4 : ∀ w ∈ wsX40, w ∈ wsX4_many := fun _ h => List.mem_cons_of_mem _ (List.mem_append_left _ (List.mem_append_left _ (List.mem_append_right _ h)))
theorem kin_X4_many_X3 : ∀ w ∈ wsX30, w ∈ wsX4_many := fun _ h => List.mem_cons_of_mem _ (List.mem_append_left _ (List.mem_append_right _ h))
theorem kin_X4_many_X0 : ∀ w ∈ wsX00, w ∈ wsX4_many := fun _ h => List.mem_cons_of_mem _ (List.mem_append_right _ h)
theorem khd_X4_many : yX4_many.cls = RX4 ∧ yX4_many.cls ≠ "java/lang/invoke/MethodHandle" ∧ yX4_many.cls ≠ "java/lang/invoke/VarHandle" ∧ (parseMethodDescriptor yX4_many.desc).map (fun d => d.parameters.length) = some 1 := by decide +kernel
set_option maxHeartbeats 8000000 in
set_option maxRecDepth 100000 in
theorem c_X4_many (l : Launch) (dC : Nat → ClassId) (dI : Nat → Nat → Nat) (cI cS : ClassId) (a_o : Nat) (a_n : Nat) (a_t : Nat) (a_d : Nat) (a_o_sheets : Nat) (a_rd : Nat) (a_d_one : Nat) (a_d_other : Nat) (a_d_less : Nat) (a_n_kind : Nat) (a_n_owner : Nat) (a_n_from : Nat) (a_n_to : Nat) (a_n_away : Nat) (o_traced : Int32) (o_lastFault : Int32) (d_count : Int32) (n_count : Int32) (n_references : Int32) (n_owner : Nat → Int32) (n_from : Nat → Int32) (n_to : Nat → Int32) (x1 : Int32) (r : Int32) (h : f_X4_many d_count n_count n_references n_owner n_from n_to x1 = some r) : Mk l yX4_many wsX4_many ({ frames := 5, cells := 0, slots := 0, locals := 112 } : Room) (dC, dI) cI cS [(a_o, .inr (4, [.ref a_n, .ref a_t, .ref a_d, .ref a_o_sheets, .ref a_rd, .int o_traced, .int o_lastFault])), (a_d, .inr (0, [.int d_count, .ref a_d_one, .ref a_d_other, .ref a_d_less])), (a_n, .inr (3, [.int n_count, .int n_references, .ref a_n_kind, .ref a_n_owner, .ref a_n_from, .ref a_n_to, .ref a_n_away])), (a_n_owner, .inl (cI, 6, .inl n_owner)), (a_n_from, .inl (cI, 12, .inl n_from)), (a_n_to, .inl (cI, 12, .inl n_to))] [.ref a_o, .int x1] (some (.int r)) True (fun _ => True) noA := by
  refine Met.ofW (cc := cX4_many) (maxL := 2) (ret := (some .int)) (by decide) rfl ?_
  intro p e s m args below meth c s₁ B hml hv
  obtain ⟨rfl, hP, hK, hN, hD⟩ := hv
  have hx := B.exec
  have hb := B.bytes
  have hr := B.returns
  have hts := atoms_spec (ws := wsX4_many) B.pre
  have hown : s.vm.findClass RX4 = some m.cls := findClass_of_methodNamed B.named
  have hlocks := B.notSynchronized
  have hS : va_S noA s.heap s.heap [] := va_S.rf
  have hP : va_P (dC, dI) vwCl [(a_o, .inr (4, [.ref a_n, .ref a_t, .ref a_d, .ref a_o_sheets, .ref a_rd, .int o_traced, .int o_lastFault])), (a_d, .inr (0, [.int d_count, .ref a_d_one, .ref a_d_other, .ref a_d_less])), (a_n, .inr (3, [.int n_count, .int n_references, .ref a_n_kind, .ref a_n_owner, .ref a_n_from, .ref a_n_to, .ref a_n_away])), (a_n_owner, .inl (cI, 6, .inl n_owner)), (a_n_from, .inl (cI, 12, .inl n_from)), (a_n_to, .inl (cI, 12, .inl n_to))] s.heap := hP
  have hl := lv_entry ([.ref a_o, .int x1]) (n := 2) (Nat.le_of_ble_eq_true rfl)
  rw [lg_entry_eq]
  generalize (lg_sl ([.ref a_o, .int x1]) ++ List.replicate (2 - (lg_sl ([.ref a_o, .int x1])).length) Slot.unset).toArray = ls at hl ⊢
  have hl : lv_has ls 2 [(0, .ref a_o), (1, .int x1)] := hl
  unfold f_X4_many at h
  refine lv_iload_n hx hb dX4_many_0 rfl (lv_at hl 1 rfl) ?_
  by_cases s_1_0 : x1 = (0 : Int32)
  · have h := hp_pos s_1_0 h
    refine lv_tableIn (off := 35) (tgt := 36) hx hb dX4_many_1 (by rw [s_1_0]; decide) (by rw [s_1_0]; decide) (by rw [s_1_0]; rfl) (by decide) ?_
    refine lv_aload_n hx hb dX4_many_36 rfl (lv_at hl 0 rfl) ?_
    refine va_get (D := (dC, dI)) (ci := 4) (v := .ref a_n) (C := RX4) (T := TX4) (N := 7) hx hb hts kin_X4_many_X4 hown hK hP 0 rfl rfl 0 (Nat.le_of_ble_eq_true rfl) (hts (.fieldLink RX4 12 "OwnedThings" "now" "LOwnedThings$Web;") (List.mem_of_getElem? (i := 1) rfl)) (fun _ h9 => h9) rfl dX4_many_37 ?_
    obtain ⟨r_40, e_40, h⟩ := ob1_inv h
    refine k_pVi (i0 := 2) (rest := []) ⟨hx, hb, hml, hown, hts⟩ (c_X3_size l dC dI cI cS a_n a_n_kind a_n_owner a_n_from a_n_to a_n_away n_count n_references r_40 e_40) (cwV 0 hts gX4_many_X3_size rfl rfl rfl khd_X3_size ⟨Nat.le_of_ble_eq_true rfl, Nat.le_of_ble_eq_true rfl⟩) hK hN hP (va_D_fst hD rfl) hS [2] rfl rfl rfl rfl rfl rfl hl.1 rfl (Nat.le_of_ble_eq_true rfl) dX4_many_40 ⟨Nat.zero_le _, Nat.zero_le _⟩ (fun H locs hf_40 hP hS => ?_)
    obtain rfl := Option.some.inj h
    exact W.iret hx hb hr (fun t ht _ => kQ.mk ht trivial trivial (hS.F ht)) hS.2.2 dX4_many_43
  have h := hp_neg s_1_0 h
  by_cases s_1_1 : x1 = (1 : Int32)
  · have h := hp_pos s_1_1 h
    refine lv_tableIn (off := 43) (tgt := 44) hx hb dX4_many_1 (by rw [s_1_1]; decide) (by rw [s_1_1]; decide) (by rw [s_1_1]; rfl) (by decide) ?_
    refine lv_aload_n hx hb dX4_many_44 rfl (lv_at hl 0 rfl) ?_
    refine va_get (D := (dC, dI)) (ci := 4) (v := .ref a_n) (C := RX4) (T := TX4) (N := 7) hx hb hts kin_X4_many_X4 hown hK hP 0 rfl rfl 0 (Nat.le_of_ble_eq_true rfl) (hts (.fieldLink RX4 12 "OwnedThings" "now" "LOwnedThings$Web;") (List.mem_of_getElem? (i := 1) rfl)) (fun _ h9 => h9) rfl dX4_many_45 ?_
    obtain ⟨r_48, e_48, h⟩ := ob1_inv h
    refine k_pVi (i0 := 2) (rest := []) ⟨hx, hb, hml, hown, hts⟩ (c_X3_howManyReferences l dC dI cI cS a_n a_n_kind a_n_owner a_n_from a_n_to a_n_away n_count n_references r_48 e_48) (cwV 0 hts gX4_many_X3_howManyReferences rfl rfl rfl khd_X3_howManyReferences ⟨Nat.le_of_ble_eq_true rfl, Nat.le_of_ble_eq_true rfl⟩) hK hN hP (va_D_fst hD rfl) hS [2] rfl rfl rfl rfl rfl rfl hl.1 rfl (Nat.le_of_ble_eq_true rfl) dX4_many_48 ⟨Nat.zero_le _, Nat.zero_le _⟩ (fun H locs hf_48 hP hS => ?_)
    obtain rfl := Option.some.inj h
    exact W.iret hx hb hr (fun t ht _ => kQ.mk ht trivial trivial (hS.F ht)) hS.2.2 dX4_many_51
  have h := hp_neg s_1_1 h
  by_cases s_1_2 : x1 = (2 : Int32)
  · have h := hp_pos s_1_2 h
    refine lv_tableIn (off := 51) (tgt := 52) hx hb dX4_many_1 (by rw [s_1_2]; decide) (by rw [s_1_2]; decide) (by rw [s_1_2]; rfl) (by decide) ?_
    refine lv_aload_n hx hb dX4_many_52 rfl (lv_at hl 0 rfl) ?_
    refine va_get (D := (dC, dI)) (ci := 4) (v := .ref a_n) (C := RX4) (T := TX4) (N := 7) hx hb hts kin_X4_many_X4 hown hK hP 0 rfl rfl 0 (Nat.le_of_ble_eq_true rfl) (hts (.fieldLink RX4 12 "OwnedThings" "now" "LOwnedThings$Web;") (List.mem_of_getElem? (i := 1) rfl)) (fun _ h9 => h9) rfl dX4_many_53 ?_
    obtain ⟨r_56, e_56, h⟩ := ob1_inv h
    refine k_pVi (i0 := 2) (rest := []) ⟨hx, hb, hml, hown, hts⟩ (c_X3_reached l dC dI cI cS a_n a_n_kind a_n_owner a_n_from a_n_to a_n_away n_count n_references n_from n_to r_56 e_56) (cwV 0 hts gX4_many_X3_reached rfl rfl rfl khd_X3_reached ⟨Nat.le_of_ble_eq_true rfl, Nat.le_of_ble_eq_true rfl⟩) hK hN hP (va_D_fst hD rfl) hS [2, 4, 5] rfl rfl rfl rfl rfl rfl hl.1 rfl (Nat.le_of_ble_eq_true rfl) dX4_many_56 ⟨Nat.zero_le _, Nat.zero_le _⟩ (fun H locs hf_56 hP hS => ?_)
    obtain ⟨r_59, e_59, h⟩ := ob1_inv h
    refine k_pSi (rest := []) ⟨hx, hb, hml, hown, hts⟩ (c_J6_bitCount_0f7a4 l dC dI cI cS r_56 r_59 e_59) (va_cwS 1 hts gX4_many_J6_bitCount_0f7a4 rfl rfl rfl khd_J6_bitCount_0f7a4.2 ⟨Nat.le_of_ble_eq_true rfl, Nat.le_of_ble_eq_true rfl⟩) hK hN hP (va_D_fst hD rfl) hS [] rfl rfl rfl hl.1 rfl (Nat.le_of_ble_eq_true rfl) dX4_many_59 ⟨Nat.zero_le _, Nat.zero_le _⟩ (fun H locs hf_59 hP hS => ?_)
    obtain rfl := Option.some.inj h
    exact W.iret hx hb hr (fun t ht _ => kQ.mk ht trivial trivial (hS.F ht)) hS.2.2 dX4_many_62
  have h := hp_neg s_1_2 h
  by_cases s_1_3 : x1 = (3 : Int32)
  · have h := hp_pos s_1_3 h
    refine lv_tableIn (off := 62) (tgt := 63) hx hb dX4_many_1 (by rw [s_1_3]; decide) (by rw [s_1_3]; decide) (by rw [s_1_3]; rfl) (by decide) ?_
    refine lv_aload_n hx hb dX4_many_63 rfl (lv_at hl 0 rfl) ?_
    refine va_get (D := (dC, dI)) (ci := 4) (v := .ref a_n) (C := RX4) (T := TX4) (N := 7) hx hb hts kin_X4_many_X4 hown hK hP 0 rfl rfl 0 (Nat.le_of_ble_eq_true rfl) (hts (.fieldLink RX4 12 "OwnedThings" "now" "LOwnedThings$Web;") (List.mem_of_getElem? (i := 1) rfl)) (fun _ h9 => h9) rfl dX4_many_64 ?_
    obtain ⟨r_67, e_67, h⟩ := ob1_inv h
    refine k_pVi (i0 := 2) (rest := []) ⟨hx, hb, hml, hown, hts⟩ (c_X3_notLawful l dC dI cI cS a_n a_n_kind a_n_owner a_n_from a_n_to a_n_away n_count n_references n_owner n_from n_to r_67 e_67) (cwV 0 hts gX4_many_X3_notLawful rfl rfl rfl khd_X3_notLawful ⟨Nat.le_of_ble_eq_true rfl, Nat.le_of_ble_eq_true rfl⟩) hK hN hP (va_D_fst hD rfl) hS [2, 3, 4, 5] rfl rfl rfl rfl rfl rfl hl.1 rfl (Nat.le_of_ble_eq_true rfl) dX4_many_67 ⟨Nat.zero_le _, Nat.zero_le _⟩ (fun H locs hf_67 hP hS => ?_)
    obtain ⟨r_70, e_70, h⟩ := ob1_inv h
    refine k_pSi (rest := []) ⟨hx, hb, hml, hown, hts⟩ (c_J6_bitCount_0f7a4 l dC dI cI cS r_67 r_70 e_70) (va_cwS 1 hts gX4_many_J6_bitCount_0f7a4 rfl rfl rfl khd_J6_bitCount_0f7a4.2 ⟨Nat.le_of_ble_eq_true rfl, Nat.le_of_ble_eq_true rfl⟩) hK hN hP (va_D_fst hD rfl) hS [] rfl rfl rfl hl.1 rfl (Nat.le_of_ble_eq_true rfl) dX4_many_70 ⟨Nat.zero_le _, Nat.zero_le _⟩ (fun H locs hf_70 hP hS => ?_)
    obtain rfl := Option.some.inj h
    exact W.iret hx hb hr (fun t ht _ => kQ.mk ht trivial trivial (hS.F ht)) hS.2.2 dX4_many_73
  have h := hp_neg s_1_3 h
  by_cases s_1_4 : x1 = (4 : Int32)
  · have h := hp_pos s_1_4 h
    refine lv_tableIn (off := 73) (tgt := 74) hx hb dX4_many_1 (by rw [s_1_4]; decide) (by rw [s_1_4]; decide) (by rw [s_1_4]; rfl) (by decide) ?_
    refine lv_aload_n hx hb dX4_many_74 rfl (lv_at hl 0 rfl) ?_
    refine va_get (D := (dC, dI)) (ci := 4) (v := .ref a_d) (C := RX4) (T := TX4) (N := 7) hx hb hts kin_X4_many_X4 hown hK hP 0 rfl rfl 2 (Nat.le_of_ble_eq_true rfl) (hts (.fieldLink RX4 24 "OwnedThings" "told" "LOwnedThings$Readings;") (List.mem_of_getElem? (i := 2) rfl)) (fun _ h9 => h9) rfl dX4_many_75 ?_
    obtain ⟨r_78, e_78, h⟩ := ob1_inv h
    refine k_pVi (i0 := 1) (rest := []) ⟨hx, hb, hml, hown, hts⟩ (c_X0_size l dC dI cI cS a_d a_d_one a_d_other a_d_less d_count r_78 e_78) (cwV 0 hts gX4_many_X0_size rfl rfl rfl khd_X0_size ⟨Nat.le_of_ble_eq_true rfl, Nat.le_of_ble_eq_true rfl⟩) hK hN hP (va_D_fst hD rfl) hS [1] rfl rfl rfl rfl rfl rfl hl.1 rfl (Nat.le_of_ble_eq_true rfl) dX4_many_78 ⟨Nat.zero_le _, Nat.zero_le _⟩ (fun H locs hf_78 hP hS => ?_)
    obtain rfl := Option.some.inj h
    exact W.iret hx hb hr (fun t ht _ => kQ.mk ht trivial trivial (hS.F ht)) hS.2.2 dX4_many_81
  have h := hp_neg s_1_4 h
  refine lv_tableOut (tgt := 82) hx hb dX4_many_1 (by have q0 := ti_ne (z := 0) (by decide) s_1_0; have q1 := ti_ne (z := 1) (by decide) s_1_1; have q2 := ti_ne (z := 2) (by decide) s_1_2; have q3 := ti_ne (z := 3) (by decide) s_1_3; have q4 := ti_ne (z := 4) (by decide) s_1_4; omega) (by decide) ?_
  refine lv_bipush (v := -2) hx hb dX4_many_82 (by decide) ?_
  obtain rfl := Option.some.inj h
  exact W.iret hx hb hr (fun t ht _ => kQ.mk ht trivial trivial (hS.F ht)) hS.2.2 dX4_many_84
