theorem kin_X3_isThing_X3 : ∀ w ∈ wsX30, w ∈ wsX3_isThing := fun _ h => List.mem_cons_of_mem _ (List.mem_append_right _ h)
theorem khd_X3_isThing : yX3_isThing.cls = RX3 ∧ yX3_isThing.cls ≠ "java/lang/invoke/MethodHandle" ∧ yX3_isThing.cls ≠ "java/lang/invoke/VarHandle" ∧ (parseMethodDescriptor yX3_isThing.desc).map (fun d => d.parameters.length) = some 1 := by decide +kernel
set_option maxHeartbeats 8000000 in
set_option maxRecDepth 100000 in
theorem c_X3_isThing (l : Launch) (dC : Nat → ClassId) (dI : Nat → Nat → Nat) (cI cS : ClassId) (a_w : Nat) (a_w_kind : Nat) (a_w_owner : Nat) (a_w_from : Nat) (a_w_to : Nat) (a_w_away : Nat) (w_count : Int32) (w_references : Int32) (x1 : Int32) (r : Int32) (h : f_X3_isThing w_count x1 = some r) : Mk l yX3_isThing wsX3_isThing ({ frames := 0, cells := 0, slots := 0, locals := 0 } : Room) (dC, dI) cI cS [(a_w, .inr (3, [.int w_count, .int w_references, .ref a_w_kind, .ref a_w_owner, .ref a_w_from, .ref a_w_to, .ref a_w_away]))] [.ref a_w, .int x1] (some (.int r)) (r = 0 ∨ r = 1) (fun _ => True) noA := by
  refine Met.ofW (cc := cX3_isThing) (maxL := 2) (ret := (some .boolean)) (by decide) rfl ?_
  intro p e s m args below meth c s₁ B hml hv
  obtain ⟨rfl, hP, hK, hN, hD⟩ := hv
  have hx := B.exec
  have hb := B.bytes
  have hr := B.returns
  have hts := atoms_spec (ws := wsX3_isThing) B.pre
  have hown : s.vm.findClass RX3 = some m.cls := findClass_of_methodNamed B.named
  have hlocks := B.notSynchronized
  have hS : va_S noA s.heap s.heap [] := va_S.rf
  have hP : va_P (dC, dI) vwCl [(a_w, .inr (3, [.int w_count, .int w_references, .ref a_w_kind, .ref a_w_owner, .ref a_w_from, .ref a_w_to, .ref a_w_away]))] s.heap := hP
  have hl := lv_entry ([.ref a_w, .int x1]) (n := 2) (Nat.le_of_ble_eq_true rfl)
  rw [lg_entry_eq]
  generalize (lg_sl ([.ref a_w, .int x1]) ++ List.replicate (2 - (lg_sl ([.ref a_w, .int x1])).length) Slot.unset).toArray = ls at hl ⊢
  have hl : lv_has ls 2 [(0, .ref a_w), (1, .int x1)] := hl
  unfold f_X3_isThing at h
  refine lv_iload_n hx hb dX3_isThing_0 rfl (lv_at hl 1 rfl) ?_
  refine lv_if_lt (tgt := 16) hx hb dX3_isThing_1 (by decide) (fun c_1 => ?_) (fun c_1 => ?_)
  · have h := hp_pos c_1 h
    refine lv_iconst (v := 0) hx hb dX3_isThing_16 (by decide) ?_
    obtain rfl := Option.some.inj h
    exact W.zret hx hb hr (nb01 (Or.inl rfl)) (fun t ht _ => kQ.mk ht trivial (Or.inl rfl) (hS.F ht)) hS.2.2 dX3_isThing_17
  · have h := hp_neg c_1 h
    refine lv_iload_n hx hb dX3_isThing_4 rfl (lv_at hl 1 rfl) ?_
    refine lv_aload_n hx hb dX3_isThing_5 rfl (lv_at hl 0 rfl) ?_
    refine va_get (D := (dC, dI)) (ci := 3) (v := .int w_count) (C := RX3) (T := TX3) (N := 7) hx hb hts kin_X3_isThing_X3 hown hK hP 0 rfl rfl 0 (Nat.le_of_ble_eq_true rfl) (hts (.fieldLink RX3 9 "OwnedThings$Web" "count" "I") (List.mem_of_getElem? (i := 1) rfl)) (fun _ h9 => h9) rfl dX3_isThing_6 ?_
    refine lv_icmp_ge (tgt := 16) hx hb dX3_isThing_9 (by decide) (fun c_9 => ?_) (fun c_9 => ?_)
    · have h := hp_pos c_9 h
      refine lv_iconst (v := 0) hx hb dX3_isThing_16 (by decide) ?_
      obtain rfl := Option.some.inj h
      exact W.zret hx hb hr (nb01 (Or.inl rfl)) (fun t ht _ => kQ.mk ht trivial (Or.inl rfl) (hS.F ht)) hS.2.2 dX3_isThing_17
    · have h := hp_neg c_9 h
      refine lv_iconst (v := 1) hx hb dX3_isThing_12 (by decide) ?_
      refine lv_goto (tgt := 17) hx hb dX3_isThing_13 (by decide) ?_
      obtain rfl := Option.some.inj h
      exact W.zret hx hb hr (nb01 (Or.inr rfl)) (fun t ht _ => kQ.mk ht trivial (Or.inr rfl) (hS.F ht)) hS.2.2 dX3_isThing_17
theorem kin_X3_addReference_X3 : ∀ w ∈ wsX30, w ∈ wsX3_addReference := fun _ h => List.mem_cons_of_mem _ (List.mem_append_right _ h)
theorem khd_X3_addReference : yX3_addReference.cls = RX3 ∧ yX3_addReference.cls ≠ "java/lang/invoke/MethodHandle" ∧ yX3_addReference.cls ≠ "java/lang/invoke/VarHandle" ∧ (parseMethodDescriptor yX3_addReference.desc).map (fun d => d.parameters.length) = some 2 := by decide +kernel
set_option maxHeartbeats 8000000 in
set_option maxRecDepth 100000 in
theorem c_X3_addReference (l : Launch) (dC : Nat → ClassId) (dI : Nat → Nat → Nat) (cI cS : ClassId) (a_w : Nat) (a_w_kind : Nat) (a_w_owner : Nat) (a_w_from : Nat) (a_w_to : Nat) (a_w_away : Nat) (w_count : Int32) (w_references : Int32) (w_from : Nat → Int32) (w_to : Nat → Int32) (x1 : Int32) (x2 : Int32) (z_w_references : Int32) (z_w_from : Nat → Int32) (z_w_to : Nat → Int32) (h : f_X3_addReference w_references w_from w_to x1 x2 = some (z_w_references, z_w_from, z_w_to)) : Mk l yX3_addReference wsX3_addReference ({ frames := 0, cells := 0, slots := 0, locals := 0 } : Room) (dC, dI) cI cS [(a_w, .inr (3, [.int w_count, .int w_references, .ref a_w_kind, .ref a_w_owner, .ref a_w_from, .ref a_w_to, .ref a_w_away])), (a_w_from, .inl (cI, 12, .inl w_from)), (a_w_to, .inl (cI, 12, .inl w_to))] [.ref a_w, .int x1, .int x2] none True (fun H => va_P (dC, dI) vwCl [(a_w, .inr (3, [.int w_count, .int z_w_references, .ref a_w_kind, .ref a_w_owner, .ref a_w_from, .ref a_w_to, .ref a_w_away])), (a_w_from, .inl (cI, 12, .inl z_w_from)), (a_w_to, .inl (cI, 12, .inl z_w_to))] H) (inA (List.map Prod.fst ([(a_w, .inr (3, [.int w_count, .int w_references, .ref a_w_kind, .ref a_w_owner, .ref a_w_from, .ref a_w_to, .ref a_w_away])), (a_w_from, .inl (cI, 12, .inl w_from)), (a_w_to, .inl (cI, 12, .inl w_to))] : va_W))) := by
  refine Met.ofW (cc := cX3_addReference) (maxL := 3) (ret := none) (by decide) rfl ?_
  intro p e s m args below meth c s₁ B hml hv
  obtain ⟨rfl, hP, hK, hN, hD⟩ := hv
  have hx := B.exec
  have hb := B.bytes
  have hr := B.returns
  have hts := atoms_spec (ws := wsX3_addReference) B.pre
  have hown : s.vm.findClass RX3 = some m.cls := findClass_of_methodNamed B.named
  have hlocks := B.notSynchronized
  have hS : va_S (inA [a_w, a_w_from, a_w_to]) s.heap s.heap [] := va_S.rf
  have hP : va_P (dC, dI) vwCl [(a_w, .inr (3, [.int w_count, .int w_references, .ref a_w_kind, .ref a_w_owner, .ref a_w_from, .ref a_w_to, .ref a_w_away])), (a_w_from, .inl (cI, 12, .inl w_from)), (a_w_to, .inl (cI, 12, .inl w_to))] s.heap := hP
  have hD : va_D (inA [a_w, a_w_from, a_w_to]) [(a_w, .inr (3, [.int w_count, .int w_references, .ref a_w_kind, .ref a_w_owner, .ref a_w_from, .ref a_w_to, .ref a_w_away])), (a_w_from, .inl (cI, 12, .inl w_from)), (a_w_to, .inl (cI, 12, .inl w_to))] := va_D_in hD rfl
  have hl := lv_entry ([.ref a_w, .int x1, .int x2]) (n := 3) (Nat.le_of_ble_eq_true rfl)
  rw [lg_entry_eq]
  generalize (lg_sl ([.ref a_w, .int x1, .int x2]) ++ List.replicate (3 - (lg_sl ([.ref a_w, .int x1, .int x2])).length) Slot.unset).toArray = ls at hl ⊢
  have hl : lv_has ls 3 [(0, .ref a_w), (1, .int x1), (2, .int x2)] := hl
  unfold f_X3_addReference at h
  refine lv_aload_n hx hb dX3_addReference_0 rfl (lv_at hl 0 rfl) ?_
  refine va_get (D := (dC, dI)) (ci := 3) (v := .int w_references) (C := RX3) (T := TX3) (N := 7) hx hb hts kin_X3_addReference_X3 hown hK hP 0 rfl rfl 1 (Nat.le_of_ble_eq_true rfl) (hts (.fieldLink RX3 15 "OwnedThings$Web" "references" "I") (List.mem_of_getElem? (i := 1) rfl)) (fun _ h9 => h9) rfl dX3_addReference_1 ?_
  refine lv_bipush (v := 12) hx hb dX3_addReference_4 (by decide) ?_
  refine lv_icmp_ge (tgt := 39) hx hb dX3_addReference_6 (by decide) (fun c_6 => ?_) (fun c_6 => ?_)
  · have h := hp_pos c_6 h
    obtain ⟨rfl, rfl, rfl⟩ := pj3 (Option.some.inj h)
    exact W.vret hx hb hr (fun t ht _ => kQ.mk ht hP trivial (hS.F ht)) hS.2.2 dX3_addReference_39
  · have h := hp_neg c_6 h
    refine lv_aload_n hx hb dX3_addReference_9 rfl (lv_at hl 0 rfl) ?_
    refine va_get (D := (dC, dI)) (ci := 3) (v := .ref a_w_from) (C := RX3) (T := TX3) (N := 7) hx hb hts kin_X3_addReference_X3 hown hK hP 0 rfl rfl 4 (Nat.le_of_ble_eq_true rfl) (hts (.fieldLink RX3 25 "OwnedThings$Web" "from" "[I") (List.mem_of_getElem? (i := 2) rfl)) (fun _ h9 => h9) rfl dX3_addReference_10 ?_
    refine lv_aload_n hx hb dX3_addReference_13 rfl (lv_at hl 0 rfl) ?_
    refine va_get (D := (dC, dI)) (ci := 3) (v := .int w_references) (C := RX3) (T := TX3) (N := 7) hx hb hts kin_X3_addReference_X3 hown hK hP 0 rfl rfl 1 (Nat.le_of_ble_eq_true rfl) (hts (.fieldLink RX3 15 "OwnedThings$Web" "references" "I") (List.mem_of_getElem? (i := 1) rfl)) (fun _ h9 => h9) rfl dX3_addReference_14 ?_
    refine lv_iload_n hx hb dX3_addReference_17 rfl (lv_at hl 1 rfl) ?_
    have g_18 := hg_no h
    have h := hg_yes h
    refine va_iast (D := (dC, dI)) hx hb hK hP (va_D_fst hD rfl) hS 1 0 rfl rfl g_18 dX3_addReference_18 (fun H locs hP _ hS => ?_)
    have hP : va_P (dC, dI) vwCl [(a_w, .inr (3, [.int w_count, .int w_references, .ref a_w_kind, .ref a_w_owner, .ref a_w_from, .ref a_w_to, .ref a_w_away])), (a_w_from, .inl (cI, 12, .inl (upd w_from w_references.toNatClampNeg x1))), (a_w_to, .inl (cI, 12, .inl w_to))] H := hP
    refine lv_aload_n hx hb dX3_addReference_19 rfl (lv_at hl 0 rfl) ?_
    refine va_get (D := (dC, dI)) (ci := 3) (v := .ref a_w_to) (C := RX3) (T := TX3) (N := 7) hx hb hts kin_X3_addReference_X3 hown hK hP 0 rfl rfl 5 (Nat.le_of_ble_eq_true rfl) (hts (.fieldLink RX3 28 "OwnedThings$Web" "to" "[I") (List.mem_of_getElem? (i := 3) rfl)) (fun _ h9 => h9) rfl dX3_addReference_20 ?_
    refine lv_aload_n hx hb dX3_addReference_23 rfl (lv_at hl 0 rfl) ?_
    refine va_get (D := (dC, dI)) (ci := 3) (v := .int w_references) (C := RX3) (T := TX3) (N := 7) hx hb hts kin_X3_addReference_X3 hown hK hP 0 rfl rfl 1 (Nat.le_of_ble_eq_true rfl) (hts (.fieldLink RX3 15 "OwnedThings$Web" "references" "I") (List.mem_of_getElem? (i := 1) rfl)) (fun _ h9 => h9) rfl dX3_addReference_24 ?_
    refine lv_iload_n hx hb dX3_addReference_27 rfl (lv_at hl 2 rfl) ?_
    have g_28 := hg_no h
    have h := hg_yes h
    refine va_iast (D := (dC, dI)) hx hb hK hP (va_D_fst hD rfl) hS 2 0 rfl rfl g_28 dX3_addReference_28 (fun H locs hP _ hS => ?_)
    have hP : va_P (dC, dI) vwCl [(a_w, .inr (3, [.int w_count, .int w_references, .ref a_w_kind, .ref a_w_owner, .ref a_w_from, .ref a_w_to, .ref a_w_away])), (a_w_from, .inl (cI, 12, .inl (upd w_from w_references.toNatClampNeg x1))), (a_w_to, .inl (cI, 12, .inl (upd w_to w_references.toNatClampNeg x2)))] H := hP
    refine lv_aload_n hx hb dX3_addReference_29 rfl (lv_at hl 0 rfl) ?_
    refine lv_dup hx hb dX3_addReference_30 rfl ?_
    refine va_get (D := (dC, dI)) (ci := 3) (v := .int w_references) (C := RX3) (T := TX3) (N := 7) hx hb hts kin_X3_addReference_X3 hown hK hP 0 rfl rfl 1 (Nat.le_of_ble_eq_true rfl) (hts (.fieldLink RX3 15 "OwnedThings$Web" "references" "I") (List.mem_of_getElem? (i := 1) rfl)) (fun _ h9 => h9) rfl dX3_addReference_31 ?_
    refine lv_iconst (v := 1) hx hb dX3_addReference_34 (by decide) ?_
    refine lv_iadd hx hb dX3_addReference_35 ?_
    refine va_put (D := (dC, dI)) (ci := 3) (v := .int (w_references + (1 : Int32))) (C := RX3) (T := TX3) (N := 7) hx hb hts kin_X3_addReference_X3 tyX3 tyX3_ok nmX3 hown hK hP (va_D_fst hD rfl) hS 0 rfl rfl 1 (Nat.le_of_ble_eq_true rfl) (hts (.fieldLink RX3 15 "OwnedThings$Web" "references" "I") (List.mem_of_getElem? (i := 1) rfl)) (fun _ h9 => h9) rfl (tyX3_ok 1 (Nat.le_of_ble_eq_true rfl)) rfl rfl (Nat.le_of_ble_eq_true rfl) dX3_addReference_36 (fun H locs hP _ hS => ?_)
    have hP : va_P (dC, dI) vwCl [(a_w, .inr (3, [.int w_count, .int (w_references + (1 : Int32)), .ref a_w_kind, .ref a_w_owner, .ref a_w_from, .ref a_w_to, .ref a_w_away])), (a_w_from, .inl (cI, 12, .inl (upd w_from w_references.toNatClampNeg x1))), (a_w_to, .inl (cI, 12, .inl (upd w_to w_references.toNatClampNeg x2)))] H := hP
    obtain ⟨rfl, rfl, rfl⟩ := pj3 (Option.some.inj h)
    exact W.vret hx hb hr (fun t ht _ => kQ.mk ht hP trivial (hS.F ht)) hS.2.2 dX3_addReference_39
theorem kin_X3_find_X3 : ∀ w ∈ wsX30, w ∈ wsX3_find := fun _ h => List.mem_cons_of_mem _ (List.mem_append_right _ h)
theorem khd_X3_find : yX3_find.cls = RX3 ∧ yX3_find.cls ≠ "java/lang/invoke/MethodHandle" ∧ yX3_find.cls ≠ "java/lang/invoke/VarHandle" ∧ (parseMethodDescriptor yX3_find.desc).map (fun d => d.parameters.length) = some 2 := by decide +kernel
set_option maxHeartbeats 8000000 in
set_option maxRecDepth 100000 in
theorem c_X3_find (l : Launch) (dC : Nat → ClassId) (dI : Nat → Nat → Nat) (cI cS : ClassId) (a_w : Nat) (a_w_kind : Nat) (a_w_owner : Nat) (a_w_from : Nat) (a_w_to : Nat) (a_w_away : Nat) (w_count : Int32) (w_references : Int32) (w_from : Nat → Int32) (w_to : Nat → Int32) (x1 : Int32) (x2 : Int32) (r : Int32) (h : f_X3_find w_references w_from w_to x1 x2 = some r) : Mk l yX3_find wsX3_find ({ frames := 0, cells := 0, slots := 0, locals := 0 } : Room) (dC, dI) cI cS [(a_w, .inr (3, [.int w_count, .int w_references, .ref a_w_kind, .ref a_w_owner, .ref a_w_from, .ref a_w_to, .ref a_w_away])), (a_w_from, .inl (cI, 12, .inl w_from)), (a_w_to, .inl (cI, 12, .inl w_to))] [.ref a_w, .int x1, .int x2] (some (.int r)) True (fun _ => True) noA := by
  refine Met.ofW (cc := cX3_find) (maxL := 4) (ret := (some .int)) (by decide) rfl ?_
  intro p e s m args below meth c s₁ B hml hv
  obtain ⟨rfl, hP, hK, hN, hD⟩ := hv
  have hx := B.exec
  have hb := B.bytes
  have hr := B.returns
  have hts := atoms_spec (ws := wsX3_find) B.pre
  have hown : s.vm.findClass RX3 = some m.cls := findClass_of_methodNamed B.named
  have hlocks := B.notSynchronized
  have hS : va_S noA s.heap s.heap [] := va_S.rf
  have hP : va_P (dC, dI) vwCl [(a_w, .inr (3, [.int w_count, .int w_references, .ref a_w_kind, .ref a_w_owner, .ref a_w_from, .ref a_w_to, .ref a_w_away])), (a_w_from, .inl (cI, 12, .inl w_from)), (a_w_to, .inl (cI, 12, .inl w_to))] s.heap := hP
  have hl := lv_entry ([.ref a_w, .int x1, .int x2]) (n := 4) (Nat.le_of_ble_eq_true rfl)
  rw [lg_entry_eq]
  generalize (lg_sl ([.ref a_w, .int x1, .int x2]) ++ List.replicate (4 - (lg_sl ([.ref a_w, .int x1, .int x2])).length) Slot.unset).toArray = ls at hl ⊢
  have hl : lv_has ls 4 [(0, .ref a_w), (1, .int x1), (2, .int x2)] := hl
  unfold f_X3_find at h
  refine lv_iconst (v := 0) hx hb dX3_find_0 (by decide) ?_
  refine lv_istore_n (lv' := [(3, .int (0 : Int32)), (0, .ref a_w), (1, .int x1), (2, .int x2)]) hx hb dX3_find_1 rfl hl (by decide) rfl (fun ls hl => ?_)
  obtain ⟨o_2, K_2, i_2, hk_2, h⟩ := os0_inv h
  have after_2 : ∀ (_ : K_2) (H : Heap) (locs : List Loc) (ls : Array Slot), va_P (dC, dI) vwCl [(a_w, .inr (3, [.int w_count, .int w_references, .ref a_w_kind, .ref a_w_owner, .ref a_w_from, .ref a_w_to, .ref a_w_away])), (a_w_from, .inl (cI, 12, .inl w_from)), (a_w_to, .inl (cI, 12, .inl w_to))] H → va_S noA s.heap H locs → lv_has ls 4 [] → W p l e (headSpec wsX3_find ({ frames := 0, cells := 0, slots := 0, locals := 0 } : Room)).room s m ([.ref a_w, .int x1, .int x2] : List Value).toArray below meth c H locs 0 0 (MQ below (kQ (some (.int r)) True (fun _ => True) noA) ([.ref a_w, .int x1, .int x2] : List Value).toArray s 0 0 noA) (F0 m 38 ls []) := by
    intro  ha H locs ls hP hS hl
    have h := hk_2  ha
    refine lv_bipush (v := -9) hx hb dX3_find_38 (by decide) ?_
    obtain rfl := Option.some.inj h
    exact W.iret hx hb hr (fun t ht _ => kQ.mk ht trivial trivial (hS.F ht)) hS.2.2 dX3_find_40
  have lp_2 : ∀ (n : Nat) (x3_2 : Int32) (H : Heap) (locs : List Loc) (ls : Array Slot), it (u1 (L_X3_find_2 w_references w_from w_to x1 x2)) n x3_2 = some o_2 → va_P (dC, dI) vwCl [(a_w, .inr (3, [.int w_count, .int w_references, .ref a_w_kind, .ref a_w_owner, .ref a_w_from, .ref a_w_to, .ref a_w_away])), (a_w_from, .inl (cI, 12, .inl w_from)), (a_w_to, .inl (cI, 12, .inl w_to))] H → va_S noA s.heap H locs → lv_has ls 4 [(0, .ref a_w), (1, .int x1), (2, .int x2), (3, .int x3_2)] → W p l e (headSpec wsX3_find ({ frames := 0, cells := 0, slots := 0, locals := 0 } : Room)).room s m ([.ref a_w, .int x1, .int x2] : List Value).toArray below meth c H locs 0 0 (MQ below (kQ (some (.int r)) True (fun _ => True) noA) ([.ref a_w, .int x1, .int x2] : List Value).toArray s 0 0 noA) (F0 m 2 ls []) := by
    intro n
    induction n with
    | zero => intro x3_2 H locs ls h1; exact (it_0 h1).elim
    | succ n ih_2 =>
      intro x3_2 H locs ls h1 hP hS hl
      obtain ⟨t_2, h1, k1⟩ := it1_inv h1
      unfold L_X3_find_2 at h1
      refine lv_iload_n hx hb dX3_find_2 rfl (lv_at hl 3 rfl) ?_
      refine lv_aload_n hx hb dX3_find_3 rfl (lv_at hl 0 rfl) ?_
      refine va_get (D := (dC, dI)) (ci := 3) (v := .int w_references) (C := RX3) (T := TX3) (N := 7) hx hb hts kin_X3_find_X3 hown hK hP 0 rfl rfl 1 (Nat.le_of_ble_eq_true rfl) (hts (.fieldLink RX3 15 "OwnedThings$Web" "references" "I") (List.mem_of_getElem? (i := 1) rfl)) (fun _ h9 => h9) rfl dX3_find_4 ?_
      refine lv_icmp_ge (tgt := 38) hx hb dX3_find_7 (by decide) (fun c_7 => ?_) (fun c_7 => ?_)
      · have h1 := hp_pos c_7 h1
        cases h1
        obtain rfl := pj1 k1
        exact after_2  h _ _ _ hP hS (lv_sub hl [] rfl)
      · have h1 := hp_neg c_7 h1
        refine lv_aload_n hx hb dX3_find_10 rfl (lv_at hl 0 rfl) ?_
        refine va_get (D := (dC, dI)) (ci := 3) (v := .ref a_w_from) (C := RX3) (T := TX3) (N := 7) hx hb hts kin_X3_find_X3 hown hK hP 0 rfl rfl 4 (Nat.le_of_ble_eq_true rfl) (hts (.fieldLink RX3 25 "OwnedThings$Web" "from" "[I") (List.mem_of_getElem? (i := 2) rfl)) (fun _ h9 => h9) rfl dX3_find_11 ?_
        refine lv_iload_n hx hb dX3_find_14 rfl (lv_at hl 3 rfl) ?_
        have g_15 := hg_no h1
        have h1 := hg_yes h1
        refine va_iald (D := (dC, dI)) hx hb hK hP 1 0 rfl rfl g_15 dX3_find_15 ?_
        refine lv_iload_n hx hb dX3_find_16 rfl (lv_at hl 1 rfl) ?_
        refine lv_icmp_ne (tgt := 32) hx hb dX3_find_17 (by decide) (fun c_17 => ?_) (fun c_17 => ?_)
        · have h1 := hp_neg c_17 h1
          refine lv_iinc (v := (x3_2 + (1 : Int32))) (lv' := [(3, .int (x3_2 + (1 : Int32))), (0, .ref a_w), (1, .int x1), (2, .int x2)]) hx hb dX3_find_32 hl (k := 3) rfl rfl (by decide) rfl (fun ls hl => ?_)
          refine lv_goto (tgt := 2) hx hb dX3_find_35 (by decide) ?_
          cases h1
          exact ih_2 _ _ _ _ k1 hP hS (lv_sub hl [1, 2, 3, 0] rfl)
        · have h1 := hp_pos c_17 h1
          refine lv_aload_n hx hb dX3_find_20 rfl (lv_at hl 0 rfl) ?_
          refine va_get (D := (dC, dI)) (ci := 3) (v := .ref a_w_to) (C := RX3) (T := TX3) (N := 7) hx hb hts kin_X3_find_X3 hown hK hP 0 rfl rfl 5 (Nat.le_of_ble_eq_true rfl) (hts (.fieldLink RX3 28 "OwnedThings$Web" "to" "[I") (List.mem_of_getElem? (i := 3) rfl)) (fun _ h9 => h9) rfl dX3_find_21 ?_
          refine lv_iload_n hx hb dX3_find_24 rfl (lv_at hl 3 rfl) ?_
          have g_25 := hg_no h1
          have h1 := hg_yes h1
          refine va_iald (D := (dC, dI)) hx hb hK hP 2 0 rfl rfl g_25 dX3_find_25 ?_
          refine lv_iload_n hx hb dX3_find_26 rfl (lv_at hl 2 rfl) ?_
          refine lv_icmp_ne (tgt := 32) hx hb dX3_find_27 (by decide) (fun c_27 => ?_) (fun c_27 => ?_)
          · have h1 := hp_neg c_27 h1
            refine lv_iinc (v := (x3_2 + (1 : Int32))) (lv' := [(3, .int (x3_2 + (1 : Int32))), (0, .ref a_w), (1, .int x1), (2, .int x2)]) hx hb dX3_find_32 hl (k := 3) rfl rfl (by decide) rfl (fun ls hl => ?_)
            refine lv_goto (tgt := 2) hx hb dX3_find_35 (by decide) ?_
            cases h1
            exact ih_2 _ _ _ _ k1 hP hS (lv_sub hl [1, 2, 3, 0] rfl)
          · have h1 := hp_pos c_27 h1
            refine lv_iload_n hx hb dX3_find_30 rfl (lv_at hl 3 rfl) ?_
            cases h1
            obtain rfl := pj1 k1
            have h := congrArg some h
            obtain rfl := Option.some.inj h
            exact W.iret hx hb hr (fun t ht _ => kQ.mk ht trivial trivial (hS.F ht)) hS.2.2 dX3_find_31
  exact lp_2 FUEL _ _ _ _ i_2 hP hS (lv_sub hl [1, 2, 3, 0] rfl)
theorem kin_X3_addThing_X3 : ∀ w ∈ wsX30, w ∈ wsX3_addThing := fun _ h => List.mem_cons_of_mem _ (List.mem_append_right _ h)
theorem khd_X3_addThing : yX3_addThing.cls = RX3 ∧ yX3_addThing.cls ≠ "java/lang/invoke/MethodHandle" ∧ yX3_addThing.cls ≠ "java/lang/invoke/VarHandle" ∧ (parseMethodDescriptor yX3_addThing.desc).map (fun d => d.parameters.length) = some 2 := by decide +kernel
set_option maxHeartbeats 8000000 in
set_option maxRecDepth 100000 in
theorem c_X3_addThing (l : Launch) (dC : Nat → ClassId) (dI : Nat → Nat → Nat) (cI cS : ClassId) (a_w : Nat) (a_w_kind : Nat) (a_w_owner : Nat) (a_w_from : Nat) (a_w_to : Nat) (a_w_away : Nat) (w_count : Int32) (w_references : Int32) (w_kind : Nat → Int32) (w_owner : Nat → Int32) (x1 : Int32) (x2 : Int32) (z_w_count : Int32) (z_w_kind : Nat → Int32) (z_w_owner : Nat → Int32) (h : f_X3_addThing w_count w_kind w_owner x1 x2 = some (z_w_count, z_w_kind, z_w_owner)) : Mk l yX3_addThing wsX3_addThing ({ frames := 0, cells := 0, slots := 0, locals := 0 } : Room) (dC, dI) cI cS [(a_w, .inr (3, [.int w_count, .int w_references, .ref a_w_kind, .ref a_w_owner, .ref a_w_from, .ref a_w_to, .ref a_w_away])), (a_w_kind, .inl (cI, 6, .inl w_kind)), (a_w_owner, .inl (cI, 6, .inl w_owner))] [.ref a_w, .int x1, .int x2] none True (fun H => va_P (dC, dI) vwCl [(a_w, .inr (3, [.int z_w_count, .int w_references, .ref a_w_kind, .ref a_w_owner, .ref a_w_from, .ref a_w_to, .ref a_w_away])), (a_w_kind, .inl (cI, 6, .inl z_w_kind)), (a_w_owner, .inl (cI, 6, .inl z_w_owner))] H) (inA (List.map Prod.fst ([(a_w, .inr (3, [.int w_count, .int w_references, .ref a_w_kind, .ref a_w_owner, .ref a_w_from, .ref a_w_to, .ref a_w_away])), (a_w_kind, .inl (cI, 6, .inl w_kind)), (a_w_owner, .inl (cI, 6, .inl w_owner))] : va_W))) := by
  refine Met.ofW (cc := cX3_addThing) (maxL := 3) (ret := none) (by decide) rfl ?_
  intro p e s m args below meth c s₁ B hml hv
  obtain ⟨rfl, hP, hK, hN, hD⟩ := hv
  have hx := B.exec
  have hb := B.bytes
  have hr := B.returns
  have hts := atoms_spec (ws := wsX3_addThing) B.pre
  have hown : s.vm.findClass RX3 = some m.cls := findClass_of_methodNamed B.named
  have hlocks := B.notSynchronized
  have hS : va_S (inA [a_w, a_w_kind, a_w_owner]) s.heap s.heap [] := va_S.rf
  have hP : va_P (dC, dI) vwCl [(a_w, .inr (3, [.int w_count, .int w_references, .ref a_w_kind, .ref a_w_owner, .ref a_w_from, .ref a_w_to, .ref a_w_away])), (a_w_kind, .inl (cI, 6, .inl w_kind)), (a_w_owner, .inl (cI, 6, .inl w_owner))] s.heap := hP
  have hD : va_D (inA [a_w, a_w_kind, a_w_owner]) [(a_w, .inr (3, [.int w_count, .int w_references, .ref a_w_kind, .ref a_w_owner, .ref a_w_from, .ref a_w_to, .ref a_w_away])), (a_w_kind, .inl (cI, 6, .inl w_kind)), (a_w_owner, .inl (cI, 6, .inl w_owner))] := va_D_in hD rfl
  have hl := lv_entry ([.ref a_w, .int x1, .int x2]) (n := 3) (Nat.le_of_ble_eq_true rfl)
  rw [lg_entry_eq]
  generalize (lg_sl ([.ref a_w, .int x1, .int x2]) ++ List.replicate (3 - (lg_sl ([.ref a_w, .int x1, .int x2])).length) Slot.unset).toArray = ls at hl ⊢
  have hl : lv_has ls 3 [(0, .ref a_w), (1, .int x1), (2, .int x2)] := hl
  unfold f_X3_addThing at h
  refine lv_aload_n hx hb dX3_addThing_0 rfl (lv_at hl 0 rfl) ?_
  refine va_get (D := (dC, dI)) (ci := 3) (v := .int w_count) (C := RX3) (T := TX3) (N := 7) hx hb hts kin_X3_addThing_X3 hown hK hP 0 rfl rfl 0 (Nat.le_of_ble_eq_true rfl) (hts (.fieldLink RX3 9 "OwnedThings$Web" "count" "I") (List.mem_of_getElem? (i := 1) rfl)) (fun _ h9 => h9) rfl dX3_addThing_1 ?_
  refine lv_bipush (v := 6) hx hb dX3_addThing_4 (by decide) ?_
  refine lv_icmp_ge (tgt := 39) hx hb dX3_addThing_6 (by decide) (fun c_6 => ?_) (fun c_6 => ?_)
  · have h := hp_pos c_6 h
    obtain ⟨rfl, rfl, rfl⟩ := pj3 (Option.some.inj h)
    exact W.vret hx hb hr (fun t ht _ => kQ.mk ht hP trivial (hS.F ht)) hS.2.2 dX3_addThing_39
  · have h := hp_neg c_6 h
    refine lv_aload_n hx hb dX3_addThing_9 rfl (lv_at hl 0 rfl) ?_
    refine va_get (D := (dC, dI)) (ci := 3) (v := .ref a_w_kind) (C := RX3) (T := TX3) (N := 7) hx hb hts kin_X3_addThing_X3 hown hK hP 0 rfl rfl 2 (Nat.le_of_ble_eq_true rfl) (hts (.fieldLink RX3 18 "OwnedThings$Web" "kind" "[I") (List.mem_of_getElem? (i := 2) rfl)) (fun _ h9 => h9) rfl dX3_addThing_10 ?_
    refine lv_aload_n hx hb dX3_addThing_13 rfl (lv_at hl 0 rfl) ?_
    refine va_get (D := (dC, dI)) (ci := 3) (v := .int w_count) (C := RX3) (T := TX3) (N := 7) hx hb hts kin_X3_addThing_X3 hown hK hP 0 rfl rfl 0 (Nat.le_of_ble_eq_true rfl) (hts (.fieldLink RX3 9 "OwnedThings$Web" "count" "I") (List.mem_of_getElem? (i := 1) rfl)) (fun _ h9 => h9) rfl dX3_addThing_14 ?_
    refine lv_iload_n hx hb dX3_addThing_17 rfl (lv_at hl 1 rfl) ?_
    have g_18 := hg_no h
    have h := hg_yes h
    refine va_iast (D := (dC, dI)) hx hb hK hP (va_D_fst hD rfl) hS 1 0 rfl rfl g_18 dX3_addThing_18 (fun H locs hP _ hS => ?_)
    have hP : va_P (dC, dI) vwCl [(a_w, .inr (3, [.int w_count, .int w_references, .ref a_w_kind, .ref a_w_owner, .ref a_w_from, .ref a_w_to, .ref a_w_away])), (a_w_kind, .inl (cI, 6, .inl (upd w_kind w_count.toNatClampNeg x1))), (a_w_owner, .inl (cI, 6, .inl w_owner))] H := hP
    refine lv_aload_n hx hb dX3_addThing_19 rfl (lv_at hl 0 rfl) ?_
    refine va_get (D := (dC, dI)) (ci := 3) (v := .ref a_w_owner) (C := RX3) (T := TX3) (N := 7) hx hb hts kin_X3_addThing_X3 hown hK hP 0 rfl rfl 3 (Nat.le_of_ble_eq_true rfl) (hts (.fieldLink RX3 22 "OwnedThings$Web" "owner" "[I") (List.mem_of_getElem? (i := 3) rfl)) (fun _ h9 => h9) rfl dX3_addThing_20 ?_
    refine lv_aload_n hx hb dX3_addThing_23 rfl (lv_at hl 0 rfl) ?_
    refine va_get (D := (dC, dI)) (ci := 3) (v := .int w_count) (C := RX3) (T := TX3) (N := 7) hx hb hts kin_X3_addThing_X3 hown hK hP 0 rfl rfl 0 (Nat.le_of_ble_eq_true rfl) (hts (.fieldLink RX3 9 "OwnedThings$Web" "count" "I") (List.mem_of_getElem? (i := 1) rfl)) (fun _ h9 => h9) rfl dX3_addThing_24 ?_
    refine lv_iload_n hx hb dX3_addThing_27 rfl (lv_at hl 2 rfl) ?_
    have g_28 := hg_no h
    have h := hg_yes h
    refine va_iast (D := (dC, dI)) hx hb hK hP (va_D_fst hD rfl) hS 2 0 rfl rfl g_28 dX3_addThing_28 (fun H locs hP _ hS => ?_)
    have hP : va_P (dC, dI) vwCl [(a_w, .inr (3, [.int w_count, .int w_references, .ref a_w_kind, .ref a_w_owner, .ref a_w_from, .ref a_w_to, .ref a_w_away])), (a_w_kind, .inl (cI, 6, .inl (upd w_kind w_count.toNatClampNeg x1))), (a_w_owner, .inl (cI, 6, .inl (upd w_owner w_count.toNatClampNeg x2)))] H := hP
    refine lv_aload_n hx hb dX3_addThing_29 rfl (lv_at hl 0 rfl) ?_
    refine lv_dup hx hb dX3_addThing_30 rfl ?_
    refine va_get (D := (dC, dI)) (ci := 3) (v := .int w_count) (C := RX3) (T := TX3) (N := 7) hx hb hts kin_X3_addThing_X3 hown hK hP 0 rfl rfl 0 (Nat.le_of_ble_eq_true rfl) (hts (.fieldLink RX3 9 "OwnedThings$Web" "count" "I") (List.mem_of_getElem? (i := 1) rfl)) (fun _ h9 => h9) rfl dX3_addThing_31 ?_
    refine lv_iconst (v := 1) hx hb dX3_addThing_34 (by decide) ?_
    refine lv_iadd hx hb dX3_addThing_35 ?_
    refine va_put (D := (dC, dI)) (ci := 3) (v := .int (w_count + (1 : Int32))) (C := RX3) (T := TX3) (N := 7) hx hb hts kin_X3_addThing_X3 tyX3 tyX3_ok nmX3 hown hK hP (va_D_fst hD rfl) hS 0 rfl rfl 0 (Nat.le_of_ble_eq_true rfl) (hts (.fieldLink RX3 9 "OwnedThings$Web" "count" "I") (List.mem_of_getElem? (i := 1) rfl)) (fun _ h9 => h9) rfl (tyX3_ok 0 (Nat.le_of_ble_eq_true rfl)) rfl rfl (Nat.le_of_ble_eq_true rfl) dX3_addThing_36 (fun H locs hP _ hS => ?_)
    have hP : va_P (dC, dI) vwCl [(a_w, .inr (3, [.int (w_count + (1 : Int32)), .int w_references, .ref a_w_kind, .ref a_w_owner, .ref a_w_from, .ref a_w_to, .ref a_w_away])), (a_w_kind, .inl (cI, 6, .inl (upd w_kind w_count.toNatClampNeg x1))), (a_w_owner, .inl (cI, 6, .inl (upd w_owner w_count.toNatClampNeg x2)))] H := hP
    obtain ⟨rfl, rfl, rfl⟩ := pj3 (Option.some.inj h)
    exact W.vret hx hb hr (fun t ht _ => kQ.mk ht hP trivial (hS.F ht)) hS.2.2 dX3_addThing_39
theorem kin_X3_clear_X3 : ∀ w ∈ wsX30, w ∈ wsX3_clear := fun _ h => List.mem_cons_of_mem _ (List.mem_append_right _ h)
theorem khd_X3_clear : yX3_clear.cls = RX3 ∧ yX3_clear.cls ≠ "java/lang/invoke/MethodHandle" ∧ yX3_clear.cls ≠ "java/lang/invoke/VarHandle" ∧ (parseMethodDescriptor yX3_clear.desc).map (fun d => d.parameters.length) = some 0 := by decide +kernel
set_option maxHeartbeats 8000000 in
set_option maxRecDepth 100000 in
theorem c_X3_clear (l : Launch) (dC : Nat → ClassId) (dI : Nat → Nat → Nat) (cI cS : ClassId) (a_w : Nat) (a_w_kind : Nat) (a_w_owner : Nat) (a_w_from : Nat) (a_w_to : Nat) (a_w_away : Nat) (w_count : Int32) (w_references : Int32) (z_w_count : Int32) (z_w_references : Int32) (h : f_X3_clear = some (z_w_count, z_w_references)) : Mk l yX3_clear wsX3_clear ({ frames := 0, cells := 0, slots := 0, locals := 0 } : Room) (dC, dI) cI cS [(a_w, .inr (3, [.int w_count, .int w_references, .ref a_w_kind, .ref a_w_owner, .ref a_w_from, .ref a_w_to, .ref a_w_away]))] [.ref a_w] none True (fun H => va_P (dC, dI) vwCl [(a_w, .inr (3, [.int z_w_count, .int z_w_references, .ref a_w_kind, .ref a_w_owner, .ref a_w_from, .ref a_w_to, .ref a_w_away]))] H) (inA (List.map Prod.fst ([(a_w, .inr (3, [.int w_count, .int w_references, .ref a_w_kind, .ref a_w_owner, .ref a_w_from, .ref a_w_to, .ref a_w_away]))] : va_W))) := by
  refine Met.ofW (cc := cX3_clear) (maxL := 1) (ret := none) (by decide) rfl ?_
  intro p e s m args below meth c s₁ B hml hv
  obtain ⟨rfl, hP, hK, hN, hD⟩ := hv
  have hx := B.exec
  have hb := B.bytes
  have hr := B.returns
  have hts := atoms_spec (ws := wsX3_clear) B.pre
  have hown : s.vm.findClass RX3 = some m.cls := findClass_of_methodNamed B.named
  have hlocks := B.notSynchronized
  have hS : va_S (inA [a_w]) s.heap s.heap [] := va_S.rf
  have hP : va_P (dC, dI) vwCl [(a_w, .inr (3, [.int w_count, .int w_references, .ref a_w_kind, .ref a_w_owner, .ref a_w_from, .ref a_w_to, .ref a_w_away]))] s.heap := hP
  have hD : va_D (inA [a_w]) [(a_w, .inr (3, [.int w_count, .int w_references, .ref a_w_kind, .ref a_w_owner, .ref a_w_from, .ref a_w_to, .ref a_w_away]))] := va_D_in hD rfl
  have hl := lv_entry ([.ref a_w]) (n := 1) (Nat.le_of_ble_eq_true rfl)
  rw [lg_entry_eq]
  generalize (lg_sl ([.ref a_w]) ++ List.replicate (1 - (lg_sl ([.ref a_w])).length) Slot.unset).toArray = ls at hl ⊢
  have hl : lv_has ls 1 [(0, .ref a_w)] := hl
  unfold f_X3_clear at h
  refine lv_aload_n hx hb dX3_clear_0 rfl (lv_at hl 0 rfl) ?_
  refine lv_iconst (v := 0) hx hb dX3_clear_1 (by decide) ?_
  refine va_put (D := (dC, dI)) (ci := 3) (v := .int (0 : Int32)) (C := RX3) (T := TX3) (N := 7) hx hb hts kin_X3_clear_X3 tyX3 tyX3_ok nmX3 hown hK hP (va_D_fst hD rfl) hS 0 rfl rfl 0 (Nat.le_of_ble_eq_true rfl) (hts (.fieldLink RX3 9 "OwnedThings$Web" "count" "I") (List.mem_of_getElem? (i := 1) rfl)) (fun _ h9 => h9) rfl (tyX3_ok 0 (Nat.le_of_ble_eq_true rfl)) rfl rfl (Nat.le_of_ble_eq_true rfl) dX3_clear_2 (fun H locs hP _ hS => ?_)
  have hP : va_P (dC, dI) vwCl [(a_w, .inr (3, [.int (0 : Int32), .int w_references, .ref a_w_kind, .ref a_w_owner, .ref a_w_from, .ref a_w_to, .ref a_w_away]))] H := hP
  refine lv_aload_n hx hb dX3_clear_5 rfl (lv_at hl 0 rfl) ?_
  refine lv_iconst (v := 0) hx hb dX3_clear_6 (by decide) ?_
  refine va_put (D := (dC, dI)) (ci := 3) (v := .int (0 : Int32)) (C := RX3) (T := TX3) (N := 7) hx hb hts kin_X3_clear_X3 tyX3 tyX3_ok nmX3 hown hK hP (va_D_fst hD rfl) hS 0 rfl rfl 1 (Nat.le_of_ble_eq_true rfl) (hts (.fieldLink RX3 15 "OwnedThings$Web" "references" "I") (List.mem_of_getElem? (i := 2) rfl)) (fun _ h9 => h9) rfl (tyX3_ok 1 (Nat.le_of_ble_eq_true rfl)) rfl rfl (Nat.le_of_ble_eq_true rfl) dX3_clear_7 (fun H locs hP _ hS => ?_)
  have hP : va_P (dC, dI) vwCl [(a_w, .inr (3, [.int (0 : Int32), .int (0 : Int32), .ref a_w_kind, .ref a_w_owner, .ref a_w_from, .ref a_w_to, .ref a_w_away]))] H := hP
  obtain ⟨rfl, rfl⟩ := pj2 (Option.some.inj h)
  exact W.vret hx hb hr (fun t ht _ => kQ.mk ht hP trivial (hS.F ht)) hS.2.2 dX3_clear_10
theorem kin_X3_become_X3 : ∀ w ∈ wsX30, w ∈ wsX3_become := fun _ h => List.mem_cons_of_mem _ (List.mem_append_right _ h)
theorem khd_X3_become : yX3_become.cls = RX3 ∧ yX3_become.cls ≠ "java/lang/invoke/MethodHandle" ∧ yX3_become.cls ≠ "java/lang/invoke/VarHandle" ∧ (parseMethodDescriptor yX3_become.desc).map (fun d => d.parameters.length) = some 1 := by decide +kernel
set_option maxHeartbeats 8000000 in
set_option maxRecDepth 100000 in
theorem c_X3_become (l : Launch) (dC : Nat → ClassId) (dI : Nat → Nat → Nat) (cI cS : ClassId) (a_w : Nat) (a_w_kind : Nat) (a_w_owner : Nat) (a_w_from : Nat) (a_w_to : Nat) (a_w_away : Nat) (a_v : Nat) (a_v_kind : Nat) (a_v_owner : Nat) (a_v_from : Nat) (a_v_to : Nat) (a_v_away : Nat) (w_count : Int32) (w_references : Int32) (w_kind : Nat → Int32) (w_owner : Nat → Int32) (w_from : Nat → Int32) (w_to : Nat → Int32) (v_count : Int32) (v_references : Int32) (v_kind : Nat → Int32) (v_owner : Nat → Int32) (v_from : Nat → Int32) (v_to : Nat → Int32) (z_w_count : Int32) (z_w_references : Int32) (z_w_kind : Nat → Int32) (z_w_owner : Nat → Int32) (z_w_from : Nat → Int32) (z_w_to : Nat → Int32) (h : f_X3_become w_kind w_owner w_from w_to v_count v_references v_kind v_owner v_from v_to = some (z_w_count, z_w_references, z_w_kind, z_w_owner, z_w_from, z_w_to)) : Mk l yX3_become wsX3_become ({ frames := 1, cells := 0, slots := 0, locals := 26 } : Room) (dC, dI) cI cS [(a_w, .inr (3, [.int w_count, .int w_references, .ref a_w_kind, .ref a_w_owner, .ref a_w_from, .ref a_w_to, .ref a_w_away])), (a_w_kind, .inl (cI, 6, .inl w_kind)), (a_w_owner, .inl (cI, 6, .inl w_owner)), (a_w_from, .inl (cI, 12, .inl w_from)), (a_w_to, .inl (cI, 12, .inl w_to)), (a_v, .inr (3, [.int v_count, .int v_references, .ref a_v_kind, .ref a_v_owner, .ref a_v_from, .ref a_v_to, .ref a_v_away])), (a_v_kind, .inl (cI, 6, .inl v_kind)), (a_v_owner, .inl (cI, 6, .inl v_owner)), (a_v_from, .inl (cI, 12, .inl v_from)), (a_v_to, .inl (cI, 12, .inl v_to))] [.ref a_w, .ref a_v] none True (fun H => va_P (dC, dI) vwCl [(a_w, .inr (3, [.int z_w_count, .int z_w_references, .ref a_w_kind, .ref a_w_owner, .ref a_w_from, .ref a_w_to, .ref a_w_away])), (a_w_kind, .inl (cI, 6, .inl z_w_kind)), (a_w_owner, .inl (cI, 6, .inl z_w_owner)), (a_w_from, .inl (cI, 12, .inl z_w_from)), (a_w_to, .inl (cI, 12, .inl z_w_to)), (a_v, .inr (3, [.int v_count, .int v_references, .ref a_v_kind, .ref a_v_owner, .ref a_v_from, .ref a_v_to, .ref a_v_away])), (a_v_kind, .inl (cI, 6, .inl v_kind)), (a_v_owner, .inl (cI, 6, .inl v_owner)), (a_v_from, .inl (cI, 12, .inl v_from)), (a_v_to, .inl (cI, 12, .inl v_to))] H) (inA (List.map Prod.fst ([(a_w, .inr (3, [.int w_count, .int w_references, .ref a_w_kind, .ref a_w_owner, .ref a_w_from, .ref a_w_to, .ref a_w_away])), (a_w_kind, .inl (cI, 6, .inl w_kind)), (a_w_owner, .inl (cI, 6, .inl w_owner)), (a_w_from, .inl (cI, 12, .inl w_from)), (a_w_to, .inl (cI, 12, .inl w_to)), (a_v, .inr (3, [.int v_count, .int v_references, .ref a_v_kind, .ref a_v_owner, .ref a_v_from, .ref a_v_to, .ref a_v_away])), (a_v_kind, .inl (cI, 6, .inl v_kind)), (a_v_owner, .inl (cI, 6, .inl v_owner)), (a_v_from, .inl (cI, 12, .inl v_from)), (a_v_to, .inl (cI, 12, .inl v_to))] : va_W))) := by
  refine Met.ofW (cc := cX3_become) (maxL := 2) (ret := none) (by decide) rfl ?_
  intro p e s m args below meth c s₁ B hml hv
  obtain ⟨rfl, hP, hK, hN, hD⟩ := hv
  have hx := B.exec
  have hb := B.bytes
  have hr := B.returns
  have hts := atoms_spec (ws := wsX3_become) B.pre
  have hown : s.vm.findClass RX3 = some m.cls := findClass_of_methodNamed B.named
  have hlocks := B.notSynchronized
  have hS : va_S (inA [a_w, a_w_kind, a_w_owner, a_w_from, a_w_to, a_v, a_v_kind, a_v_owner, a_v_from, a_v_to]) s.heap s.heap [] := va_S.rf
  have hP : va_P (dC, dI) vwCl [(a_w, .inr (3, [.int w_count, .int w_references, .ref a_w_kind, .ref a_w_owner, .ref a_w_from, .ref a_w_to, .ref a_w_away])), (a_w_kind, .inl (cI, 6, .inl w_kind)), (a_w_owner, .inl (cI, 6, .inl w_owner)), (a_w_from, .inl (cI, 12, .inl w_from)), (a_w_to, .inl (cI, 12, .inl w_to)), (a_v, .inr (3, [.int v_count, .int v_references, .ref a_v_kind, .ref a_v_owner, .ref a_v_from, .ref a_v_to, .ref a_v_away])), (a_v_kind, .inl (cI, 6, .inl v_kind)), (a_v_owner, .inl (cI, 6, .inl v_owner)), (a_v_from, .inl (cI, 12, .inl v_from)), (a_v_to, .inl (cI, 12, .inl v_to))] s.heap := hP
  have hD : va_D (inA [a_w, a_w_kind, a_w_owner, a_w_from, a_w_to, a_v, a_v_kind, a_v_owner, a_v_from, a_v_to]) [(a_w, .inr (3, [.int w_count, .int w_references, .ref a_w_kind, .ref a_w_owner, .ref a_w_from, .ref a_w_to, .ref a_w_away])), (a_w_kind, .inl (cI, 6, .inl w_kind)), (a_w_owner, .inl (cI, 6, .inl w_owner)), (a_w_from, .inl (cI, 12, .inl w_from)), (a_w_to, .inl (cI, 12, .inl w_to)), (a_v, .inr (3, [.int v_count, .int v_references, .ref a_v_kind, .ref a_v_owner, .ref a_v_from, .ref a_v_to, .ref a_v_away])), (a_v_kind, .inl (cI, 6, .inl v_kind)), (a_v_owner, .inl (cI, 6, .inl v_owner)), (a_v_from, .inl (cI, 12, .inl v_from)), (a_v_to, .inl (cI, 12, .inl v_to))] := va_D_in hD rfl
  have hl := lv_entry ([.ref a_w, .ref a_v]) (n := 2) (Nat.le_of_ble_eq_true rfl)
  rw [lg_entry_eq]
  generalize (lg_sl ([.ref a_w, .ref a_v]) ++ List.replicate (2 - (lg_sl ([.ref a_w, .ref a_v])).length) Slot.unset).toArray = ls at hl ⊢
  have hl : lv_has ls 2 [(0, .ref a_w), (1, .ref a_v)] := hl
  unfold f_X3_become at h
  refine lv_aload_n hx hb dX3_become_0 rfl (lv_at hl 0 rfl) ?_
  refine lv_aload_n hx hb dX3_become_1 rfl (lv_at hl 1 rfl) ?_
  refine va_get (D := (dC, dI)) (ci := 3) (v := .int v_count) (C := RX3) (T := TX3) (N := 7) hx hb hts kin_X3_become_X3 hown hK hP 5 rfl rfl 0 (Nat.le_of_ble_eq_true rfl) (hts (.fieldLink RX3 9 "OwnedThings$Web" "count" "I") (List.mem_of_getElem? (i := 1) rfl)) (fun _ h9 => h9) rfl dX3_become_2 ?_
  refine va_put (D := (dC, dI)) (ci := 3) (v := .int v_count) (C := RX3) (T := TX3) (N := 7) hx hb hts kin_X3_become_X3 tyX3 tyX3_ok nmX3 hown hK hP (va_D_fst hD rfl) hS 0 rfl rfl 0 (Nat.le_of_ble_eq_true rfl) (hts (.fieldLink RX3 9 "OwnedThings$Web" "count" "I") (List.mem_of_getElem? (i := 1) rfl)) (fun _ h9 => h9) rfl (tyX3_ok 0 (Nat.le_of_ble_eq_true rfl)) rfl rfl (Nat.le_of_ble_eq_true rfl) dX3_become_5 (fun H locs hP _ hS => ?_)
  have hP : va_P (dC, dI) vwCl [(a_w, .inr (3, [.int v_count, .int w_references, .ref a_w_kind, .ref a_w_owner, .ref a_w_from, .ref a_w_to, .ref a_w_away])), (a_w_kind, .inl (cI, 6, .inl w_kind)), (a_w_owner, .inl (cI, 6, .inl w_owner)), (a_w_from, .inl (cI, 12, .inl w_from)), (a_w_to, .inl (cI, 12, .inl w_to)), (a_v, .inr (3, [.int v_count, .int v_references, .ref a_v_kind, .ref a_v_owner, .ref a_v_from, .ref a_v_to, .ref a_v_away])), (a_v_kind, .inl (cI, 6, .inl v_kind)), (a_v_owner, .inl (cI, 6, .inl v_owner)), (a_v_from, .inl (cI, 12, .inl v_from)), (a_v_to, .inl (cI, 12, .inl v_to))] H := hP
  refine lv_aload_n hx hb dX3_become_8 rfl (lv_at hl 0 rfl) ?_
  refine lv_aload_n hx hb dX3_become_9 rfl (lv_at hl 1 rfl) ?_
  refine va_get (D := (dC, dI)) (ci := 3) (v := .int v_references) (C := RX3) (T := TX3) (N := 7) hx hb hts kin_X3_become_X3 hown hK hP 5 rfl rfl 1 (Nat.le_of_ble_eq_true rfl) (hts (.fieldLink RX3 15 "OwnedThings$Web" "references" "I") (List.mem_of_getElem? (i := 2) rfl)) (fun _ h9 => h9) rfl dX3_become_10 ?_
  refine va_put (D := (dC, dI)) (ci := 3) (v := .int v_references) (C := RX3) (T := TX3) (N := 7) hx hb hts kin_X3_become_X3 tyX3 tyX3_ok nmX3 hown hK hP (va_D_fst hD rfl) hS 0 rfl rfl 1 (Nat.le_of_ble_eq_true rfl) (hts (.fieldLink RX3 15 "OwnedThings$Web" "references" "I") (List.mem_of_getElem? (i := 2) rfl)) (fun _ h9 => h9) rfl (tyX3_ok 1 (Nat.le_of_ble_eq_true rfl)) rfl rfl (Nat.le_of_ble_eq_true rfl) dX3_become_13 (fun H locs hP _ hS => ?_)
  have hP : va_P (dC, dI) vwCl [(a_w, .inr (3, [.int v_count, .int v_references, .ref a_w_kind, .ref a_w_owner, .ref a_w_from, .ref a_w_to, .ref a_w_away])), (a_w_kind, .inl (cI, 6, .inl w_kind)), (a_w_owner, .inl (cI, 6, .inl w_owner)), (a_w_from, .inl (cI, 12, .inl w_from)), (a_w_to, .inl (cI, 12, .inl w_to)), (a_v, .inr (3, [.int v_count, .int v_references, .ref a_v_kind, .ref a_v_owner, .ref a_v_from, .ref a_v_to, .ref a_v_away])), (a_v_kind, .inl (cI, 6, .inl v_kind)), (a_v_owner, .inl (cI, 6, .inl v_owner)), (a_v_from, .inl (cI, 12, .inl v_from)), (a_v_to, .inl (cI, 12, .inl v_to))] H := hP
  refine lv_aload_n hx hb dX3_become_16 rfl (lv_at hl 1 rfl) ?_
  refine va_get (D := (dC, dI)) (ci := 3) (v := .ref a_v_kind) (C := RX3) (T := TX3) (N := 7) hx hb hts kin_X3_become_X3 hown hK hP 5 rfl rfl 2 (Nat.le_of_ble_eq_true rfl) (hts (.fieldLink RX3 18 "OwnedThings$Web" "kind" "[I") (List.mem_of_getElem? (i := 3) rfl)) (fun _ h9 => h9) rfl dX3_become_17 ?_
  refine lv_iconst (v := 0) hx hb dX3_become_20 (by decide) ?_
  refine lv_aload_n hx hb dX3_become_21 rfl (lv_at hl 0 rfl) ?_
  refine va_get (D := (dC, dI)) (ci := 3) (v := .ref a_w_kind) (C := RX3) (T := TX3) (N := 7) hx hb hts kin_X3_become_X3 hown hK hP 0 rfl rfl 2 (Nat.le_of_ble_eq_true rfl) (hts (.fieldLink RX3 18 "OwnedThings$Web" "kind" "[I") (List.mem_of_getElem? (i := 3) rfl)) (fun _ h9 => h9) rfl dX3_become_22 ?_
  refine lv_iconst (v := 0) hx hb dX3_become_25 (by decide) ?_
  refine lv_bipush (v := 6) hx hb dX3_become_26 (by decide) ?_
  obtain ⟨g1_28, g2_28, g3_28, g4_28, g5_28⟩ := no5 (hg_no h)
  have h := hg_yes h
  refine va_copyi (D := (dC, dI)) (ty := .int) hx hb (hml.trans hl.1.symm) hown (hts (.methodLink RX3 34 arraycopyName) (List.mem_of_getElem? (i := 4) rfl)) (hts (.native arraycopyName) (List.mem_of_getElem? (i := 5) rfl)) (hts (.static arraycopyName) (List.mem_of_getElem? (i := 6) rfl)) (hts (.initialized "java/lang/System") (List.mem_of_getElem? (i := 7) rfl)) hK hP (va_D_fst hD rfl) hS 6 1 0 0 rfl rfl rfl rfl rfl g1_28 g2_28 g3_28 (Nat.not_lt.mp g4_28) (Nat.not_lt.mp g5_28) (fun _ _ => rfl) (Nat.le_of_ble_eq_true rfl) (Nat.le_of_ble_eq_true rfl) dX3_become_28 (fun H locs hP _ hS => ?_)
  have hP : va_P (dC, dI) vwCl [(a_w, .inr (3, [.int v_count, .int v_references, .ref a_w_kind, .ref a_w_owner, .ref a_w_from, .ref a_w_to, .ref a_w_away])), (a_w_kind, .inl (cI, 6, .inl (va_cpy v_kind w_kind (0 : Int32).toNatClampNeg (0 : Int32).toNatClampNeg (6 : Int32).toNatClampNeg))), (a_w_owner, .inl (cI, 6, .inl w_owner)), (a_w_from, .inl (cI, 12, .inl w_from)), (a_w_to, .inl (cI, 12, .inl w_to)), (a_v, .inr (3, [.int v_count, .int v_references, .ref a_v_kind, .ref a_v_owner, .ref a_v_from, .ref a_v_to, .ref a_v_away])), (a_v_kind, .inl (cI, 6, .inl v_kind)), (a_v_owner, .inl (cI, 6, .inl v_owner)), (a_v_from, .inl (cI, 12, .inl v_from)), (a_v_to, .inl (cI, 12, .inl v_to))] H := hP
  refine lv_aload_n hx hb dX3_become_31 rfl (lv_at hl 1 rfl) ?_
  refine va_get (D := (dC, dI)) (ci := 3) (v := .ref a_v_owner) (C := RX3) (T := TX3) (N := 7) hx hb hts kin_X3_become_X3 hown hK hP 5 rfl rfl 3 (Nat.le_of_ble_eq_true rfl) (hts (.fieldLink RX3 22 "OwnedThings$Web" "owner" "[I") (List.mem_of_getElem? (i := 8) rfl)) (fun _ h9 => h9) rfl dX3_become_32 ?_
  refine lv_iconst (v := 0) hx hb dX3_become_35 (by decide) ?_
  refine lv_aload_n hx hb dX3_become_36 rfl (lv_at hl 0 rfl) ?_
  refine va_get (D := (dC, dI)) (ci := 3) (v := .ref a_w_owner) (C := RX3) (T := TX3) (N := 7) hx hb hts kin_X3_become_X3 hown hK hP 0 rfl rfl 3 (Nat.le_of_ble_eq_true rfl) (hts (.fieldLink RX3 22 "OwnedThings$Web" "owner" "[I") (List.mem_of_getElem? (i := 8) rfl)) (fun _ h9 => h9) rfl dX3_become_37 ?_
  refine lv_iconst (v := 0) hx hb dX3_become_40 (by decide) ?_
  refine lv_bipush (v := 6) hx hb dX3_become_41 (by decide) ?_
  obtain ⟨g1_43, g2_43, g3_43, g4_43, g5_43⟩ := no5 (hg_no h)
  have h := hg_yes h
  refine va_copyi (D := (dC, dI)) (ty := .int) hx hb (hml.trans hl.1.symm) hown (hts (.methodLink RX3 34 arraycopyName) (List.mem_of_getElem? (i := 4) rfl)) (hts (.native arraycopyName) (List.mem_of_getElem? (i := 5) rfl)) (hts (.static arraycopyName) (List.mem_of_getElem? (i := 6) rfl)) (hts (.initialized "java/lang/System") (List.mem_of_getElem? (i := 7) rfl)) hK hP (va_D_fst hD rfl) hS 7 2 0 0 rfl rfl rfl rfl rfl g1_43 g2_43 g3_43 (Nat.not_lt.mp g4_43) (Nat.not_lt.mp g5_43) (fun _ _ => rfl) (Nat.le_of_ble_eq_true rfl) (Nat.le_of_ble_eq_true rfl) dX3_become_43 (fun H locs hP _ hS => ?_)
  have hP : va_P (dC, dI) vwCl [(a_w, .inr (3, [.int v_count, .int v_references, .ref a_w_kind, .ref a_w_owner, .ref a_w_from, .ref a_w_to, .ref a_w_away])), (a_w_kind, .inl (cI, 6, .inl (va_cpy v_kind w_kind (0 : Int32).toNatClampNeg (0 : Int32).toNatClampNeg (6 : Int32).toNatClampNeg))), (a_w_owner, .inl (cI, 6, .inl (va_cpy v_owner w_owner (0 : Int32).toNatClampNeg (0 : Int32).toNatClampNeg (6 : Int32).toNatClampNeg))), (a_w_from, .inl (cI, 12, .inl w_from)), (a_w_to, .inl (cI, 12, .inl w_to)), (a_v, .inr (3, [.int v_count, .int v_references, .ref a_v_kind, .ref a_v_owner, .ref a_v_from, .ref a_v_to, .ref a_v_away])), (a_v_kind, .inl (cI, 6, .inl v_kind)), (a_v_owner, .inl (cI, 6, .inl v_owner)), (a_v_from, .inl (cI, 12, .inl v_from)), (a_v_to, .inl (cI, 12, .inl v_to))] H := hP
  refine lv_aload_n hx hb dX3_become_46 rfl (lv_at hl 1 rfl) ?_
  refine va_get (D := (dC, dI)) (ci := 3) (v := .ref a_v_from) (C := RX3) (T := TX3) (N := 7) hx hb hts kin_X3_become_X3 hown hK hP 5 rfl rfl 4 (Nat.le_of_ble_eq_true rfl) (hts (.fieldLink RX3 25 "OwnedThings$Web" "from" "[I") (List.mem_of_getElem? (i := 9) rfl)) (fun _ h9 => h9) rfl dX3_become_47 ?_
  refine lv_iconst (v := 0) hx hb dX3_become_50 (by decide) ?_
  refine lv_aload_n hx hb dX3_become_51 rfl (lv_at hl 0 rfl) ?_
  refine va_get (D := (dC, dI)) (ci := 3) (v := .ref a_w_from) (C := RX3) (T := TX3) (N := 7) hx hb hts kin_X3_become_X3 hown hK hP 0 rfl rfl 4 (Nat.le_of_ble_eq_true rfl) (hts (.fieldLink RX3 25 "OwnedThings$Web" "from" "[I") (List.mem_of_getElem? (i := 9) rfl)) (fun _ h9 => h9) rfl dX3_become_52 ?_
  refine lv_iconst (v := 0) hx hb dX3_become_55 (by decide) ?_
  refine lv_bipush (v := 12) hx hb dX3_become_56 (by decide) ?_
  obtain ⟨g1_58, g2_58, g3_58, g4_58, g5_58⟩ := no5 (hg_no h)
  have h := hg_yes h
  refine va_copyi (D := (dC, dI)) (ty := .int) hx hb (hml.trans hl.1.symm) hown (hts (.methodLink RX3 34 arraycopyName) (List.mem_of_getElem? (i := 4) rfl)) (hts (.native arraycopyName) (List.mem_of_getElem? (i := 5) rfl)) (hts (.static arraycopyName) (List.mem_of_getElem? (i := 6) rfl)) (hts (.initialized "java/lang/System") (List.mem_of_getElem? (i := 7) rfl)) hK hP (va_D_fst hD rfl) hS 8 3 0 0 rfl rfl rfl rfl rfl g1_58 g2_58 g3_58 (Nat.not_lt.mp g4_58) (Nat.not_lt.mp g5_58) (fun _ _ => rfl) (Nat.le_of_ble_eq_true rfl) (Nat.le_of_ble_eq_true rfl) dX3_become_58 (fun H locs hP _ hS => ?_)
  have hP : va_P (dC, dI) vwCl [(a_w, .inr (3, [.int v_count, .int v_references, .ref a_w_kind, .ref a_w_owner, .ref a_w_from, .ref a_w_to, .ref a_w_away])), (a_w_kind, .inl (cI, 6, .inl (va_cpy v_kind w_kind (0 : Int32).toNatClampNeg (0 : Int32).toNatClampNeg (6 : Int32).toNatClampNeg))), (a_w_owner, .inl (cI, 6, .inl (va_cpy v_owner w_owner (0 : Int32).toNatClampNeg (0 : Int32).toNatClampNeg (6 : Int32).toNatClampNeg))), (a_w_from, .inl (cI, 12, .inl (va_cpy v_from w_from (0 : Int32).toNatClampNeg (0 : Int32).toNatClampNeg (12 : Int32).toNatClampNeg))), (a_w_to, .inl (cI, 12, .inl w_to)), (a_v, .inr (3, [.int v_count, .int v_references, .ref a_v_kind, .ref a_v_owner, .ref a_v_from, .ref a_v_to, .ref a_v_away])), (a_v_kind, .inl (cI, 6, .inl v_kind)), (a_v_owner, .inl (cI, 6, .inl v_owner)), (a_v_from, .inl (cI, 12, .inl v_from)), (a_v_to, .inl (cI, 12, .inl v_to))] H := hP
  refine lv_aload_n hx hb dX3_become_61 rfl (lv_at hl 1 rfl) ?_
  refine va_get (D := (dC, dI)) (ci := 3) (v := .ref a_v_to) (C := RX3) (T := TX3) (N := 7) hx hb hts kin_X3_become_X3 hown hK hP 5 rfl rfl 5 (Nat.le_of_ble_eq_true rfl) (hts (.fieldLink RX3 28 "OwnedThings$Web" "to" "[I") (List.mem_of_getElem? (i := 10) rfl)) (fun _ h9 => h9) rfl dX3_become_62 ?_
  refine lv_iconst (v := 0) hx hb dX3_become_65 (by decide) ?_
  refine lv_aload_n hx hb dX3_become_66 rfl (lv_at hl 0 rfl) ?_
  refine va_get (D := (dC, dI)) (ci := 3) (v := .ref a_w_to) (C := RX3) (T := TX3) (N := 7) hx hb hts kin_X3_become_X3 hown hK hP 0 rfl rfl 5 (Nat.le_of_ble_eq_true rfl) (hts (.fieldLink RX3 28 "OwnedThings$Web" "to" "[I") (List.mem_of_getElem? (i := 10) rfl)) (fun _ h9 => h9) rfl dX3_become_67 ?_
  refine lv_iconst (v := 0) hx hb dX3_become_70 (by decide) ?_
  refine lv_bipush (v := 12) hx hb dX3_become_71 (by decide) ?_
  obtain ⟨g1_73, g2_73, g3_73, g4_73, g5_73⟩ := no5 (hg_no h)
  have h := hg_yes h
  refine va_copyi (D := (dC, dI)) (ty := .int) hx hb (hml.trans hl.1.symm) hown (hts (.methodLink RX3 34 arraycopyName) (List.mem_of_getElem? (i := 4) rfl)) (hts (.native arraycopyName) (List.mem_of_getElem? (i := 5) rfl)) (hts (.static arraycopyName) (List.mem_of_getElem? (i := 6) rfl)) (hts (.initialized "java/lang/System") (List.mem_of_getElem? (i := 7) rfl)) hK hP (va_D_fst hD rfl) hS 9 4 0 0 rfl rfl rfl rfl rfl g1_73 g2_73 g3_73 (Nat.not_lt.mp g4_73) (Nat.not_lt.mp g5_73) (fun _ _ => rfl) (Nat.le_of_ble_eq_true rfl) (Nat.le_of_ble_eq_true rfl) dX3_become_73 (fun H locs hP _ hS => ?_)
  have hP : va_P (dC, dI) vwCl [(a_w, .inr (3, [.int v_count, .int v_references, .ref a_w_kind, .ref a_w_owner, .ref a_w_from, .ref a_w_to, .ref a_w_away])), (a_w_kind, .inl (cI, 6, .inl (va_cpy v_kind w_kind (0 : Int32).toNatClampNeg (0 : Int32).toNatClampNeg (6 : Int32).toNatClampNeg))), (a_w_owner, .inl (cI, 6, .inl (va_cpy v_owner w_owner (0 : Int32).toNatClampNeg (0 : Int32).toNatClampNeg (6 : Int32).toNatClampNeg))), (a_w_from, .inl (cI, 12, .inl (va_cpy v_from w_from (0 : Int32).toNatClampNeg (0 : Int32).toNatClampNeg (12 : Int32).toNatClampNeg))), (a_w_to, .inl (cI, 12, .inl (va_cpy v_to w_to (0 : Int32).toNatClampNeg (0 : Int32).toNatClampNeg (12 : Int32).toNatClampNeg))), (a_v, .inr (3, [.int v_count, .int v_references, .ref a_v_kind, .ref a_v_owner, .ref a_v_from, .ref a_v_to, .ref a_v_away])), (a_v_kind, .inl (cI, 6, .inl v_kind)), (a_v_owner, .inl (cI, 6, .inl v_owner)), (a_v_from, .inl (cI, 12, .inl v_from)), (a_v_to, .inl (cI, 12, .inl v_to))] H := hP
  obtain ⟨rfl, rfl, rfl, rfl, rfl, rfl⟩ := pj6 (Option.some.inj h)
  exact W.vret hx hb hr (fun t ht _ => kQ.mk ht hP trivial (hS.F ht)) hS.2.2 dX3_become_76
theorem kin_X3_size_X3 : ∀ w ∈ wsX30, w ∈ wsX3_size := fun _ h => List.mem_cons_of_mem _ (List.mem_append_right _ h)
theorem khd_X3_size : yX3_size.cls = RX3 ∧ yX3_size.cls ≠ "java/lang/invoke/MethodHandle" ∧ yX3_size.cls ≠ "java/lang/invoke/VarHandle" ∧ (parseMethodDescriptor yX3_size.desc).map (fun d => d.parameters.length) = some 0 := by decide +kernel
set_option maxHeartbeats 8000000 in
set_option maxRecDepth 100000 in
theorem c_X3_size (l : Launch) (dC : Nat → ClassId) (dI : Nat → Nat → Nat) (cI cS : ClassId) (a_w : Nat) (a_w_kind : Nat) (a_w_owner : Nat) (a_w_from : Nat) (a_w_to : Nat) (a_w_away : Nat) (w_count : Int32) (w_references : Int32) (r : Int32) (h : f_X3_size w_count = some r) : Mk l yX3_size wsX3_size ({ frames := 0, cells := 0, slots := 0, locals := 0 } : Room) (dC, dI) cI cS [(a_w, .inr (3, [.int w_count, .int w_references, .ref a_w_kind, .ref a_w_owner, .ref a_w_from, .ref a_w_to, .ref a_w_away]))] [.ref a_w] (some (.int r)) True (fun _ => True) noA := by
  refine Met.ofW (cc := cX3_size) (maxL := 1) (ret := (some .int)) (by decide) rfl ?_
  intro p e s m args below meth c s₁ B hml hv
  obtain ⟨rfl, hP, hK, hN, hD⟩ := hv
  have hx := B.exec
  have hb := B.bytes
  have hr := B.returns
  have hts := atoms_spec (ws := wsX3_size) B.pre
  have hown : s.vm.findClass RX3 = some m.cls := findClass_of_methodNamed B.named
  have hlocks := B.notSynchronized
  have hS : va_S noA s.heap s.heap [] := va_S.rf
  have hP : va_P (dC, dI) vwCl [(a_w, .inr (3, [.int w_count, .int w_references, .ref a_w_kind, .ref a_w_owner, .ref a_w_from, .ref a_w_to, .ref a_w_away]))] s.heap := hP
  have hl := lv_entry ([.ref a_w]) (n := 1) (Nat.le_of_ble_eq_true rfl)
  rw [lg_entry_eq]
  generalize (lg_sl ([.ref a_w]) ++ List.replicate (1 - (lg_sl ([.ref a_w])).length) Slot.unset).toArray = ls at hl ⊢
  have hl : lv_has ls 1 [(0, .ref a_w)] := hl
  unfold f_X3_size at h
  refine lv_aload_n hx hb dX3_size_0 rfl (lv_at hl 0 rfl) ?_
  refine va_get (D := (dC, dI)) (ci := 3) (v := .int w_count) (C := RX3) (T := TX3) (N := 7) hx hb hts kin_X3_size_X3 hown hK hP 0 rfl rfl 0 (Nat.le_of_ble_eq_true rfl) (hts (.fieldLink RX3 9 "OwnedThings$Web" "count" "I") (List.mem_of_getElem? (i := 1) rfl)) (fun _ h9 => h9) rfl dX3_size_1 ?_
  obtain rfl := Option.some.inj h
  exact W.iret hx hb hr (fun t ht _ => kQ.mk ht trivial trivial (hS.F ht)) hS.2.2 dX3_size_4
theorem kin_X3_howManyReferences_X3 : ∀ w ∈ wsX30, w ∈ wsX3_howManyReferences := fun _ h => List.mem_cons_of_mem _ (List.mem_append_right _ h)
theorem khd_X3_howManyReferences : yX3_howManyReferences.cls = RX3 ∧ yX3_howManyReferences.cls ≠ "java/lang/invoke/MethodHandle" ∧ yX3_howManyReferences.cls ≠ "java/lang/invoke/VarHandle" ∧ (parseMethodDescriptor yX3_howManyReferences.desc).map (fun d => d.parameters.length) = some 0 := by decide +kernel
set_option maxHeartbeats 8000000 in
set_option maxRecDepth 100000 in
theorem c_X3_howManyReferences (l : Launch) (dC : Nat → ClassId) (dI : Nat → Nat → Nat) (cI cS : ClassId) (a_w : Nat) (a_w_kind : Nat) (a_w_owner : Nat) (a_w_from : Nat) (a_w_to : Nat) (a_w_away : Nat) (w_count : Int32) (w_references : Int32) (r : Int32) (h : f_X3_howManyReferences w_references = some r) : Mk l yX3_howManyReferences wsX3_howManyReferences ({ frames := 0, cells := 0, slots := 0, locals := 0 } : Room) (dC, dI) cI cS [(a_w, .inr (3, [.int w_count, .int w_references, .ref a_w_kind, .ref a_w_owner, .ref a_w_from, .ref a_w_to, .ref a_w_away]))] [.ref a_w] (some (.int r)) True (fun _ => True) noA := by
  refine Met.ofW (cc := cX3_howManyReferences) (maxL := 1) (ret := (some .int)) (by decide) rfl ?_
  intro p e s m args below meth c s₁ B hml hv
  obtain ⟨rfl, hP, hK, hN, hD⟩ := hv
  have hx := B.exec
  have hb := B.bytes
  have hr := B.returns
  have hts := atoms_spec (ws := wsX3_howManyReferences) B.pre
  have hown : s.vm.findClass RX3 = some m.cls := findClass_of_methodNamed B.named
  have hlocks := B.notSynchronized
  have hS : va_S noA s.heap s.heap [] := va_S.rf
  have hP : va_P (dC, dI) vwCl [(a_w, .inr (3, [.int w_count, .int w_references, .ref a_w_kind, .ref a_w_owner, .ref a_w_from, .ref a_w_to, .ref a_w_away]))] s.heap := hP
  have hl := lv_entry ([.ref a_w]) (n := 1) (Nat.le_of_ble_eq_true rfl)
  rw [lg_entry_eq]
  generalize (lg_sl ([.ref a_w]) ++ List.replicate (1 - (lg_sl ([.ref a_w])).length) Slot.unset).toArray = ls at hl ⊢
  have hl : lv_has ls 1 [(0, .ref a_w)] := hl
  unfold f_X3_howManyReferences at h
  refine lv_aload_n hx hb dX3_howManyReferences_0 rfl (lv_at hl 0 rfl) ?_
  refine va_get (D := (dC, dI)) (ci := 3) (v := .int w_references) (C := RX3) (T := TX3) (N := 7) hx hb hts kin_X3_howManyReferences_X3 hown hK hP 0 rfl rfl 1 (Nat.le_of_ble_eq_true rfl) (hts (.fieldLink RX3 15 "OwnedThings$Web" "references" "I") (List.mem_of_getElem? (i := 1) rfl)) (fun _ h9 => h9) rfl dX3_howManyReferences_1 ?_
  obtain rfl := Option.some.inj h
  exact W.iret hx hb hr (fun t ht _ => kQ.mk ht trivial trivial (hS.F ht)) hS.2.2 dX3_howManyReferences_4
theorem kin_X3_mayOwn_X3 : ∀ w ∈ wsX30, w ∈ wsX3_mayOwn := fun _ h => List.mem_cons_of_mem _ (List.mem_append_right _ h)
theorem khd_X3_mayOwn : yX3_mayOwn.cls = RX3 ∧ yX3_mayOwn.cls ≠ "java/lang/invoke/MethodHandle" ∧ yX3_mayOwn.cls ≠ "java/lang/invoke/VarHandle" ∧ (parseMethodDescriptor yX3_mayOwn.desc).map (fun d => d.parameters.length) = some 1 := by decide +kernel
set_option maxHeartbeats 8000000 in
set_option maxRecDepth 100000 in
theorem c_X3_mayOwn (l : Launch) (dC : Nat → ClassId) (dI : Nat → Nat → Nat) (cI cS : ClassId) (a_w : Nat) (a_w_kind : Nat) (a_w_owner : Nat) (a_w_from : Nat) (a_w_to : Nat) (a_w_away : Nat) (w_count : Int32) (w_references : Int32) (x1 : Int32) (r : Int32) (h : f_X3_mayOwn w_count x1 = some r) : Mk l yX3_mayOwn wsX3_mayOwn ({ frames := 1, cells := 0, slots := 0, locals := 21 } : Room) (dC, dI) cI cS [(a_w, .inr (3, [.int w_count, .int w_references, .ref a_w_kind, .ref a_w_owner, .ref a_w_from, .ref a_w_to, .ref a_w_away]))] [.ref a_w, .int x1] (some (.int r)) (r = 0 ∨ r = 1) (fun _ => True) noA := by
  refine Met.ofW (cc := cX3_mayOwn) (maxL := 2) (ret := (some .boolean)) (by decide) rfl ?_
  intro p e s m args below meth c s₁ B hml hv
  obtain ⟨rfl, hP, hK, hN, hD⟩ := hv
  have hx := B.exec
  have hb := B.bytes
  have hr := B.returns
  have hts := atoms_spec (ws := wsX3_mayOwn) B.pre
  have hown : s.vm.findClass RX3 = some m.cls := findClass_of_methodNamed B.named
  have hlocks := B.notSynchronized
  have hS : va_S noA s.heap s.heap [] := va_S.rf
  have hP : va_P (dC, dI) vwCl [(a_w, .inr (3, [.int w_count, .int w_references, .ref a_w_kind, .ref a_w_owner, .ref a_w_from, .ref a_w_to, .ref a_w_away]))] s.heap := hP
  have hl := lv_entry ([.ref a_w, .int x1]) (n := 2) (Nat.le_of_ble_eq_true rfl)
  rw [lg_entry_eq]
  generalize (lg_sl ([.ref a_w, .int x1]) ++ List.replicate (2 - (lg_sl ([.ref a_w, .int x1])).length) Slot.unset).toArray = ls at hl ⊢
  have hl : lv_has ls 2 [(0, .ref a_w), (1, .int x1)] := hl
  unfold f_X3_mayOwn at h
  refine lv_aload_n hx hb dX3_mayOwn_0 rfl (lv_at hl 0 rfl) ?_
  refine lv_iload_n hx hb dX3_mayOwn_1 rfl (lv_at hl 1 rfl) ?_
  obtain ⟨r_2, e_2, h⟩ := ob1_inv h
  refine k_pVi (i0 := 0) (rest := []) ⟨hx, hb, hml, hown, hts⟩ (c_X3_isThing l dC dI cI cS a_w a_w_kind a_w_owner a_w_from a_w_to a_w_away w_count w_references x1 r_2 e_2) (cwV 1 hts gX3_mayOwn_X3_isThing rfl rfl rfl khd_X3_isThing ⟨Nat.le_of_ble_eq_true rfl, Nat.le_of_ble_eq_true rfl⟩) hK hN hP (va_D_fst hD rfl) hS [0] rfl rfl rfl rfl rfl rfl hl.1 rfl (Nat.le_of_ble_eq_true rfl) dX3_mayOwn_2 ⟨Nat.zero_le _, Nat.zero_le _⟩ (fun H locs hf_2 hP hS => ?_)
  refine lv_if_ne (tgt := 21) hx hb dX3_mayOwn_5 (by decide) (fun c_5 => ?_) (fun c_5 => ?_)
  · have h := hp_neg c_5 h
    refine lv_iconst (v := 1) hx hb dX3_mayOwn_21 (by decide) ?_
    refine lv_goto (tgt := 26) hx hb dX3_mayOwn_22 (by decide) ?_
    obtain rfl := Option.some.inj h
    exact W.zret hx hb hr (nb01 (Or.inr rfl)) (fun t ht _ => kQ.mk ht trivial (Or.inr rfl) (hS.F ht)) hS.2.2 dX3_mayOwn_26
  · have h := hp_pos c_5 h
    refine lv_iload_n hx hb dX3_mayOwn_8 rfl (lv_at hl 1 rfl) ?_
    refine lv_bipush (v := 6) hx hb dX3_mayOwn_9 (by decide) ?_
    refine lv_icmp_ne (tgt := 25) hx hb dX3_mayOwn_11 (by decide) (fun c_11 => ?_) (fun c_11 => ?_)
    · have h := hp_neg c_11 h
      refine lv_iconst (v := 0) hx hb dX3_mayOwn_25 (by decide) ?_
      obtain rfl := Option.some.inj h
      exact W.zret hx hb hr (nb01 (Or.inl rfl)) (fun t ht _ => kQ.mk ht trivial (Or.inl rfl) (hS.F ht)) hS.2.2 dX3_mayOwn_26
    · have h := hp_pos c_11 h
      refine lv_aload_n hx hb dX3_mayOwn_14 rfl (lv_at hl 0 rfl) ?_
      refine va_get (D := (dC, dI)) (ci := 3) (v := .int w_count) (C := RX3) (T := TX3) (N := 7) hx hb hts kin_X3_mayOwn_X3 hown hK hP 0 rfl rfl 0 (Nat.le_of_ble_eq_true rfl) (hts (.fieldLink RX3 9 "OwnedThings$Web" "count" "I") (List.mem_of_getElem? (i := 1) rfl)) (fun _ h9 => h9) rfl dX3_mayOwn_15 ?_
      refine lv_if_le (tgt := 25) hx hb dX3_mayOwn_18 (by decide) (fun c_18 => ?_) (fun c_18 => ?_)
      · have h := hp_pos c_18 h
        refine lv_iconst (v := 0) hx hb dX3_mayOwn_25 (by decide) ?_
        obtain rfl := Option.some.inj h
        exact W.zret hx hb hr (nb01 (Or.inl rfl)) (fun t ht _ => kQ.mk ht trivial (Or.inl rfl) (hS.F ht)) hS.2.2 dX3_mayOwn_26
      · have h := hp_neg c_18 h
        refine lv_iconst (v := 1) hx hb dX3_mayOwn_21 (by decide) ?_
        refine lv_goto (tgt := 26) hx hb dX3_mayOwn_22 (by decide) ?_
        obtain rfl := Option.some.inj h
        exact W.zret hx hb hr (nb01 (Or.inr rfl)) (fun t ht _ => kQ.mk ht trivial (Or.inr rfl) (hS.F ht)) hS.2.2 dX3_mayOwn_26
theorem kin_X3_kindOf_X3 : ∀ w ∈ wsX30, w ∈ wsX3_kindOf := fun _ h => List.mem_cons_of_mem _ (List.mem_append_right _ h)
theorem khd_X3_kindOf : yX3_kindOf.cls = RX3 ∧ yX3_kindOf.cls ≠ "java/lang/invoke/MethodHandle" ∧ yX3_kindOf.cls ≠ "java/lang/invoke/VarHandle" ∧ (parseMethodDescriptor yX3_kindOf.desc).map (fun d => d.parameters.length) = some 1 := by decide +kernel
set_option maxHeartbeats 8000000 in
set_option maxRecDepth 100000 in
theorem c_X3_kindOf (l : Launch) (dC : Nat → ClassId) (dI : Nat → Nat → Nat) (cI cS : ClassId) (a_w : Nat) (a_w_kind : Nat) (a_w_owner : Nat) (a_w_from : Nat) (a_w_to : Nat) (a_w_away : Nat) (w_count : Int32) (w_references : Int32) (w_kind : Nat → Int32) (x1 : Int32) (r : Int32) (h : f_X3_kindOf w_count w_kind x1 = some r) : Mk l yX3_kindOf wsX3_kindOf ({ frames := 1, cells := 0, slots := 0, locals := 21 } : Room) (dC, dI) cI cS [(a_w, .inr (3, [.int w_count, .int w_references, .ref a_w_kind, .ref a_w_owner, .ref a_w_from, .ref a_w_to, .ref a_w_away])), (a_w_kind, .inl (cI, 6, .inl w_kind))] [.ref a_w, .int x1] (some (.int r)) True (fun _ => True) noA := by
  refine Met.ofW (cc := cX3_kindOf) (maxL := 2) (ret := (some .int)) (by decide) rfl ?_
  intro p e s m args below meth c s₁ B hml hv
  obtain ⟨rfl, hP, hK, hN, hD⟩ := hv
  have hx := B.exec
  have hb := B.bytes
  have hr := B.returns
  have hts := atoms_spec (ws := wsX3_kindOf) B.pre
  have hown : s.vm.findClass RX3 = some m.cls := findClass_of_methodNamed B.named
  have hlocks := B.notSynchronized
  have hS : va_S noA s.heap s.heap [] := va_S.rf
  have hP : va_P (dC, dI) vwCl [(a_w, .inr (3, [.int w_count, .int w_references, .ref a_w_kind, .ref a_w_owner, .ref a_w_from, .ref a_w_to, .ref a_w_away])), (a_w_kind, .inl (cI, 6, .inl w_kind))] s.heap := hP
  have hl := lv_entry ([.ref a_w, .int x1]) (n := 2) (Nat.le_of_ble_eq_true rfl)
  rw [lg_entry_eq]
  generalize (lg_sl ([.ref a_w, .int x1]) ++ List.replicate (2 - (lg_sl ([.ref a_w, .int x1])).length) Slot.unset).toArray = ls at hl ⊢
  have hl : lv_has ls 2 [(0, .ref a_w), (1, .int x1)] := hl
  unfold f_X3_kindOf at h
  refine lv_aload_n hx hb dX3_kindOf_0 rfl (lv_at hl 0 rfl) ?_
  refine lv_iload_n hx hb dX3_kindOf_1 rfl (lv_at hl 1 rfl) ?_
  obtain ⟨r_2, e_2, h⟩ := ob1_inv h
  refine k_pVi (i0 := 0) (rest := []) ⟨hx, hb, hml, hown, hts⟩ (c_X3_isThing l dC dI cI cS a_w a_w_kind a_w_owner a_w_from a_w_to a_w_away w_count w_references x1 r_2 e_2) (cwV 1 hts gX3_kindOf_X3_isThing rfl rfl rfl khd_X3_isThing ⟨Nat.le_of_ble_eq_true rfl, Nat.le_of_ble_eq_true rfl⟩) hK hN hP (va_D_fst hD rfl) hS [0] rfl rfl rfl rfl rfl rfl hl.1 rfl (Nat.le_of_ble_eq_true rfl) dX3_kindOf_2 ⟨Nat.zero_le _, Nat.zero_le _⟩ (fun H locs hf_2 hP hS => ?_)
  refine lv_if_eq (tgt := 17) hx hb dX3_kindOf_5 (by decide) (fun c_5 => ?_) (fun c_5 => ?_)
  · have h := hp_pos c_5 h
    refine lv_iconst (v := 0) hx hb dX3_kindOf_17 (by decide) ?_
    obtain rfl := Option.some.inj h
    exact W.iret hx hb hr (fun t ht _ => kQ.mk ht trivial trivial (hS.F ht)) hS.2.2 dX3_kindOf_18
  · have h := hp_neg c_5 h
    refine lv_aload_n hx hb dX3_kindOf_8 rfl (lv_at hl 0 rfl) ?_
    refine va_get (D := (dC, dI)) (ci := 3) (v := .ref a_w_kind) (C := RX3) (T := TX3) (N := 7) hx hb hts kin_X3_kindOf_X3 hown hK hP 0 rfl rfl 2 (Nat.le_of_ble_eq_true rfl) (hts (.fieldLink RX3 18 "OwnedThings$Web" "kind" "[I") (List.mem_of_getElem? (i := 1) rfl)) (fun _ h9 => h9) rfl dX3_kindOf_9 ?_
    refine lv_iload_n hx hb dX3_kindOf_12 rfl (lv_at hl 1 rfl) ?_
    have g_13 := hg_no h
    have h := hg_yes h
    refine va_iald (D := (dC, dI)) hx hb hK hP 1 0 rfl rfl g_13 dX3_kindOf_13 ?_
    refine lv_goto (tgt := 18) hx hb dX3_kindOf_14 (by decide) ?_
    obtain rfl := Option.some.inj h
    exact W.iret hx hb hr (fun t ht _ => kQ.mk ht trivial trivial (hS.F ht)) hS.2.2 dX3_kindOf_18
theorem kin_X3_ownerOf_X3 : ∀ w ∈ wsX30, w ∈ wsX3_ownerOf := fun _ h => List.mem_cons_of_mem _ (List.mem_append_right _ h)
theorem khd_X3_ownerOf : yX3_ownerOf.cls = RX3 ∧ yX3_ownerOf.cls ≠ "java/lang/invoke/MethodHandle" ∧ yX3_ownerOf.cls ≠ "java/lang/invoke/VarHandle" ∧ (parseMethodDescriptor yX3_ownerOf.desc).map (fun d => d.parameters.length) = some 1 := by decide +kernel
set_option maxHeartbeats 8000000 in
set_option maxRecDepth 100000 in
theorem c_X3_ownerOf (l : Launch) (dC : Nat → ClassId) (dI : Nat → Nat → Nat) (cI cS : ClassId) (a_w : Nat) (a_w_kind : Nat) (a_w_owner : Nat) (a_w_from : Nat) (a_w_to : Nat) (a_w_away : Nat) (w_count : Int32) (w_references : Int32) (w_owner : Nat → Int32) (x1 : Int32) (r : Int32) (h : f_X3_ownerOf w_count w_owner x1 = some r) : Mk l yX3_ownerOf wsX3_ownerOf ({ frames := 1, cells := 0, slots := 0, locals := 21 } : Room) (dC, dI) cI cS [(a_w, .inr (3, [.int w_count, .int w_references, .ref a_w_kind, .ref a_w_owner, .ref a_w_from, .ref a_w_to, .ref a_w_away])), (a_w_owner, .inl (cI, 6, .inl w_owner))] [.ref a_w, .int x1] (some (.int r)) True (fun _ => True) noA := by
  refine Met.ofW (cc := cX3_ownerOf) (maxL := 2) (ret := (some .int)) (by decide) rfl ?_
  intro p e s m args below meth c s₁ B hml hv
  obtain ⟨rfl, hP, hK, hN, hD⟩ := hv
  have hx := B.exec
  have hb := B.bytes
  have hr := B.returns
  have hts := atoms_spec (ws := wsX3_ownerOf) B.pre
  have hown : s.vm.findClass RX3 = some m.cls := findClass_of_methodNamed B.named
  have hlocks := B.notSynchronized
  have hS : va_S noA s.heap s.heap [] := va_S.rf
  have hP : va_P (dC, dI) vwCl [(a_w, .inr (3, [.int w_count, .int w_references, .ref a_w_kind, .ref a_w_owner, .ref a_w_from, .ref a_w_to, .ref a_w_away])), (a_w_owner, .inl (cI, 6, .inl w_owner))] s.heap := hP
  have hl := lv_entry ([.ref a_w, .int x1]) (n := 2) (Nat.le_of_ble_eq_true rfl)
  rw [lg_entry_eq]
  generalize (lg_sl ([.ref a_w, .int x1]) ++ List.replicate (2 - (lg_sl ([.ref a_w, .int x1])).length) Slot.unset).toArray = ls at hl ⊢
  have hl : lv_has ls 2 [(0, .ref a_w), (1, .int x1)] := hl
  unfold f_X3_ownerOf at h
  refine lv_aload_n hx hb dX3_ownerOf_0 rfl (lv_at hl 0 rfl) ?_
  refine lv_iload_n hx hb dX3_ownerOf_1 rfl (lv_at hl 1 rfl) ?_
  obtain ⟨r_2, e_2, h⟩ := ob1_inv h
  refine k_pVi (i0 := 0) (rest := []) ⟨hx, hb, hml, hown, hts⟩ (c_X3_isThing l dC dI cI cS a_w a_w_kind a_w_owner a_w_from a_w_to a_w_away w_count w_references x1 r_2 e_2) (cwV 1 hts gX3_ownerOf_X3_isThing rfl rfl rfl khd_X3_isThing ⟨Nat.le_of_ble_eq_true rfl, Nat.le_of_ble_eq_true rfl⟩) hK hN hP (va_D_fst hD rfl) hS [0] rfl rfl rfl rfl rfl rfl hl.1 rfl (Nat.le_of_ble_eq_true rfl) dX3_ownerOf_2 ⟨Nat.zero_le _, Nat.zero_le _⟩ (fun H locs hf_2 hP hS => ?_)
  refine lv_if_eq (tgt := 17) hx hb dX3_ownerOf_5 (by decide) (fun c_5 => ?_) (fun c_5 => ?_)
  · have h := hp_pos c_5 h
    refine lv_bipush (v := 6) hx hb dX3_ownerOf_17 (by decide) ?_
    obtain rfl := Option.some.inj h
    exact W.iret hx hb hr (fun t ht _ => kQ.mk ht trivial trivial (hS.F ht)) hS.2.2 dX3_ownerOf_19
  · have h := hp_neg c_5 h
    refine lv_aload_n hx hb dX3_ownerOf_8 rfl (lv_at hl 0 rfl) ?_
    refine va_get (D := (dC, dI)) (ci := 3) (v := .ref a_w_owner) (C := RX3) (T := TX3) (N := 7) hx hb hts kin_X3_ownerOf_X3 hown hK hP 0 rfl rfl 3 (Nat.le_of_ble_eq_true rfl) (hts (.fieldLink RX3 22 "OwnedThings$Web" "owner" "[I") (List.mem_of_getElem? (i := 1) rfl)) (fun _ h9 => h9) rfl dX3_ownerOf_9 ?_
    refine lv_iload_n hx hb dX3_ownerOf_12 rfl (lv_at hl 1 rfl) ?_
    have g_13 := hg_no h
    have h := hg_yes h
    refine va_iald (D := (dC, dI)) hx hb hK hP 1 0 rfl rfl g_13 dX3_ownerOf_13 ?_
    refine lv_goto (tgt := 19) hx hb dX3_ownerOf_14 (by decide) ?_
    obtain rfl := Option.some.inj h
    exact W.iret hx hb hr (fun t ht _ => kQ.mk ht trivial trivial (hS.F ht)) hS.2.2 dX3_ownerOf_19
theorem kin_X3_cut_X3 : ∀ w ∈ wsX30, w ∈ wsX3_cut := fun _ h => List.mem_cons_of_mem _ (List.mem_append_right _ h)
theorem khd_X3_cut : yX3_cut.cls = RX3 ∧ yX3_cut.cls ≠ "java/lang/invoke/MethodHandle" ∧ yX3_cut.cls ≠ "java/lang/invoke/VarHandle" ∧ (parseMethodDescriptor yX3_cut.desc).map (fun d => d.parameters.length) = some 1 := by decide +kernel
set_option maxHeartbeats 8000000 in
set_option maxRecDepth 100000 in
theorem c_X3_cut (l : Launch) (dC : Nat → ClassId) (dI : Nat → Nat → Nat) (cI cS : ClassId) (a_w : Nat) (a_w_kind : Nat) (a_w_owner : Nat) (a_w_from : Nat) (a_w_to : Nat) (a_w_away : Nat) (w_count : Int32) (w_references : Int32) (w_from : Nat → Int32) (w_to : Nat → Int32) (x1 : Int32) (z_w_references : Int32) (z_w_from : Nat → Int32) (z_w_to : Nat → Int32) (h : f_X3_cut w_references w_from w_to x1 = some (z_w_references, z_w_from, z_w_to)) : Mk l yX3_cut wsX3_cut ({ frames := 0, cells := 0, slots := 0, locals := 0 } : Room) (dC, dI) cI cS [(a_w, .inr (3, [.int w_count, .int w_references, .ref a_w_kind, .ref a_w_owner, .ref a_w_from, .ref a_w_to, .ref a_w_away])), (a_w_from, .inl (cI, 12, .inl w_from)), (a_w_to, .inl (cI, 12, .inl w_to))] [.ref a_w, .int x1] none True (fun H => va_P (dC, dI) vwCl [(a_w, .inr (3, [.int w_count, .int z_w_references, .ref a_w_kind, .ref a_w_owner, .ref a_w_from, .ref a_w_to, .ref a_w_away])), (a_w_from, .inl (cI, 12, .inl z_w_from)), (a_w_to, .inl (cI, 12, .inl z_w_to))] H) (inA (List.map Prod.fst ([(a_w, .inr (3, [.int w_count, .int w_references, .ref a_w_kind, .ref a_w_owner, .ref a_w_from, .ref a_w_to, .ref a_w_away])), (a_w_from, .inl (cI, 12, .inl w_from)), (a_w_to, .inl (cI, 12, .inl w_to))] : va_W))) := by
  refine Met.ofW (cc := cX3_cut) (maxL := 3) (ret := none) (by decide) rfl ?_
  intro p e s m args below meth c s₁ B hml hv
  obtain ⟨rfl, hP, hK, hN, hD⟩ := hv
  have hx := B.exec
  have hb := B.bytes
  have hr := B.returns
  have hts := atoms_spec (ws := wsX3_cut) B.pre
  have hown : s.vm.findClass RX3 = some m.cls := findClass_of_methodNamed B.named
  have hlocks := B.notSynchronized
  have hS : va_S (inA [a_w, a_w_from, a_w_to]) s.heap s.heap [] := va_S.rf
  have hP : va_P (dC, dI) vwCl [(a_w, .inr (3, [.int w_count, .int w_references, .ref a_w_kind, .ref a_w_owner, .ref a_w_from, .ref a_w_to, .ref a_w_away])), (a_w_from, .inl (cI, 12, .inl w_from)), (a_w_to, .inl (cI, 12, .inl w_to))] s.heap := hP
  have hD : va_D (inA [a_w, a_w_from, a_w_to]) [(a_w, .inr (3, [.int w_count, .int w_references, .ref a_w_kind, .ref a_w_owner, .ref a_w_from, .ref a_w_to, .ref a_w_away])), (a_w_from, .inl (cI, 12, .inl w_from)), (a_w_to, .inl (cI, 12, .inl w_to))] := va_D_in hD rfl
  have hl := lv_entry ([.ref a_w, .int x1]) (n := 3) (Nat.le_of_ble_eq_true rfl)
  rw [lg_entry_eq]
  generalize (lg_sl ([.ref a_w, .int x1]) ++ List.replicate (3 - (lg_sl ([.ref a_w, .int x1])).length) Slot.unset).toArray = ls at hl ⊢
  have hl : lv_has ls 3 [(0, .ref a_w), (1, .int x1)] := hl
  unfold f_X3_cut at h
  refine lv_iload_n hx hb dX3_cut_0 rfl (lv_at hl 1 rfl) ?_
  refine lv_if_lt (tgt := 12) hx hb dX3_cut_1 (by decide) (fun c_1 => ?_) (fun c_1 => ?_)
  · have h := hp_pos c_1 h
    obtain ⟨rfl, rfl, rfl⟩ := pj3 (Option.some.inj h)
    exact W.vret hx hb hr (fun t ht _ => kQ.mk ht hP trivial (hS.F ht)) hS.2.2 dX3_cut_12
  · have h := hp_neg c_1 h
    refine lv_iload_n hx hb dX3_cut_4 rfl (lv_at hl 1 rfl) ?_
    refine lv_aload_n hx hb dX3_cut_5 rfl (lv_at hl 0 rfl) ?_
    refine va_get (D := (dC, dI)) (ci := 3) (v := .int w_references) (C := RX3) (T := TX3) (N := 7) hx hb hts kin_X3_cut_X3 hown hK hP 0 rfl rfl 1 (Nat.le_of_ble_eq_true rfl) (hts (.fieldLink RX3 15 "OwnedThings$Web" "references" "I") (List.mem_of_getElem? (i := 1) rfl)) (fun _ h9 => h9) rfl dX3_cut_6 ?_
    refine lv_icmp_lt (tgt := 13) hx hb dX3_cut_9 (by decide) (fun c_9 => ?_) (fun c_9 => ?_)
    · have h := hp_pos c_9 h
      refine lv_aload_n hx hb dX3_cut_13 rfl (lv_at hl 0 rfl) ?_
      refine lv_dup hx hb dX3_cut_14 rfl ?_
      refine va_get (D := (dC, dI)) (ci := 3) (v := .int w_references) (C := RX3) (T := TX3) (N := 7) hx hb hts kin_X3_cut_X3 hown hK hP 0 rfl rfl 1 (Nat.le_of_ble_eq_true rfl) (hts (.fieldLink RX3 15 "OwnedThings$Web" "references" "I") (List.mem_of_getElem? (i := 1) rfl)) (fun _ h9 => h9) rfl dX3_cut_15 ?_
      refine lv_iconst (v := 1) hx hb dX3_cut_18 (by decide) ?_
      refine lv_isub hx hb dX3_cut_19 ?_
      refine va_put (D := (dC, dI)) (ci := 3) (v := .int (w_references - (1 : Int32))) (C := RX3) (T := TX3) (N := 7) hx hb hts kin_X3_cut_X3 tyX3 tyX3_ok nmX3 hown hK hP (va_D_fst hD rfl) hS 0 rfl rfl 1 (Nat.le_of_ble_eq_true rfl) (hts (.fieldLink RX3 15 "OwnedThings$Web" "references" "I") (List.mem_of_getElem? (i := 1) rfl)) (fun _ h9 => h9) rfl (tyX3_ok 1 (Nat.le_of_ble_eq_true rfl)) rfl rfl (Nat.le_of_ble_eq_true rfl) dX3_cut_20 (fun H locs hP _ hS => ?_)
      have hP : va_P (dC, dI) vwCl [(a_w, .inr (3, [.int w_count, .int (w_references - (1 : Int32)), .ref a_w_kind, .ref a_w_owner, .ref a_w_from, .ref a_w_to, .ref a_w_away])), (a_w_from, .inl (cI, 12, .inl w_from)), (a_w_to, .inl (cI, 12, .inl w_to))] H := hP
      refine lv_iload_n hx hb dX3_cut_23 rfl (lv_at hl 1 rfl) ?_
      refine lv_istore_n (lv' := [(2, .int x1), (0, .ref a_w), (1, .int x1)]) hx hb dX3_cut_24 rfl hl (by decide) rfl (fun ls hl => ?_)
      obtain ⟨w_from_25e, w_to_25e, i_25, h⟩ := ob2_inv h
      have after_25 : ∀ (H : Heap) (locs : List Loc) (ls : Array Slot), va_P (dC, dI) vwCl [(a_w, .inr (3, [.int w_count, .int (w_references - (1 : Int32)), .ref a_w_kind, .ref a_w_owner, .ref a_w_from, .ref a_w_to, .ref a_w_away])), (a_w_from, .inl (cI, 12, .inl w_from_25e)), (a_w_to, .inl (cI, 12, .inl w_to_25e))] H → va_S (inA [a_w, a_w_from, a_w_to]) s.heap H locs → lv_has ls 3 [] → W p l e (headSpec wsX3_cut ({ frames := 0, cells := 0, slots := 0, locals := 0 } : Room)).room s m ([.ref a_w, .int x1] : List Value).toArray below meth c H locs 0 0 (MQ below (kQ none True (fun H => va_P (dC, dI) vwCl [(a_w, .inr (3, [.int w_count, .int z_w_references, .ref a_w_kind, .ref a_w_owner, .ref a_w_from, .ref a_w_to, .ref a_w_away])), (a_w_from, .inl (cI, 12, .inl z_w_from)), (a_w_to, .inl (cI, 12, .inl z_w_to))] H) (inA (List.map Prod.fst ([(a_w, .inr (3, [.int w_count, .int w_references, .ref a_w_kind, .ref a_w_owner, .ref a_w_from, .ref a_w_to, .ref a_w_away])), (a_w_from, .inl (cI, 12, .inl w_from)), (a_w_to, .inl (cI, 12, .inl w_to))] : va_W)))) ([.ref a_w, .int x1] : List Value).toArray s 0 0 (inA (List.map Prod.fst ([(a_w, .inr (3, [.int w_count, .int w_references, .ref a_w_kind, .ref a_w_owner, .ref a_w_from, .ref a_w_to, .ref a_w_away])), (a_w_from, .inl (cI, 12, .inl w_from)), (a_w_to, .inl (cI, 12, .inl w_to))] : va_W)))) (F0 m 67 ls []) := by
        intro H locs ls hP hS hl
        obtain ⟨rfl, rfl, rfl⟩ := pj3 (Option.some.inj h)
        exact W.vret hx hb hr (fun t ht _ => kQ.mk ht hP trivial (hS.F ht)) hS.2.2 dX3_cut_67
      have lp_25 : ∀ (n : Nat) (x2_25 : Int32) (w_from_25 : Nat → Int32) (w_to_25 : Nat → Int32) (H : Heap) (locs : List Loc) (ls : Array Slot), it (u3 (L_X3_cut_25 w_references)) n (x2_25, w_from_25, w_to_25) = some (w_from_25e, w_to_25e) → va_P (dC, dI) vwCl [(a_w, .inr (3, [.int w_count, .int (w_references - (1 : Int32)), .ref a_w_kind, .ref a_w_owner, .ref a_w_from, .ref a_w_to, .ref a_w_away])), (a_w_from, .inl (cI, 12, .inl w_from_25)), (a_w_to, .inl (cI, 12, .inl w_to_25))] H → va_S (inA [a_w, a_w_from, a_w_to]) s.heap H locs → lv_has ls 3 [(0, .ref a_w), (2, .int x2_25)] → W p l e (headSpec wsX3_cut ({ frames := 0, cells := 0, slots := 0, locals := 0 } : Room)).room s m ([.ref a_w, .int x1] : List Value).toArray below meth c H locs 0 0 (MQ below (kQ none True (fun H => va_P (dC, dI) vwCl [(a_w, .inr (3, [.int w_count, .int z_w_references, .ref a_w_kind, .ref a_w_owner, .ref a_w_from, .ref a_w_to, .ref a_w_away])), (a_w_from, .inl (cI, 12, .inl z_w_from)), (a_w_to, .inl (cI, 12, .inl z_w_to))] H) (inA (List.map Prod.fst ([(a_w, .inr (3, [.int w_count, .int w_references, .ref a_w_kind, .ref a_w_owner, .ref a_w_from, .ref a_w_to, .ref a_w_away])), (a_w_from, .inl (cI, 12, .inl w_from)), (a_w_to, .inl (cI, 12, .inl w_to))] : va_W)))) ([.ref a_w, .int x1] : List Value).toArray s 0 0 (inA (List.map Prod.fst ([(a_w, .inr (3, [.int w_count, .int w_references, .ref a_w_kind, .ref a_w_owner, .ref a_w_from, .ref a_w_to, .ref a_w_away])), (a_w_from, .inl (cI, 12, .inl w_from)), (a_w_to, .inl (cI, 12, .inl w_to))] : va_W)))) (F0 m 25 ls []) := by
        intro n
        induction n with
        | zero => intro x2_25 w_from_25 w_to_25 H locs ls h1; exact (it_0 h1).elim
        | succ n ih_25 =>
          intro x2_25 w_from_25 w_to_25 H locs ls h1 hP hS hl
          obtain ⟨t_25, h1, k1⟩ := it3_inv h1
          unfold L_X3_cut_25 at h1
          refine lv_iload_n hx hb dX3_cut_25 rfl (lv_at hl 1 rfl) ?_
          refine lv_aload_n hx hb dX3_cut_26 rfl (lv_at hl 0 rfl) ?_
          refine va_get (D := (dC, dI)) (ci := 3) (v := .int (w_references - (1 : Int32))) (C := RX3) (T := TX3) (N := 7) hx hb hts kin_X3_cut_X3 hown hK hP 0 rfl rfl 1 (Nat.le_of_ble_eq_true rfl) (hts (.fieldLink RX3 15 "OwnedThings$Web" "references" "I") (List.mem_of_getElem? (i := 1) rfl)) (fun _ h9 => h9) rfl dX3_cut_27 ?_
          refine lv_icmp_ge (tgt := 67) hx hb dX3_cut_30 (by decide) (fun c_30 => ?_) (fun c_30 => ?_)
          · have h1 := hp_pos c_30 h1
            cases h1
            obtain ⟨rfl, rfl⟩ := pj2 k1
            exact after_25 _ _ _ hP hS (lv_sub hl [] rfl)
          · have h1 := hp_neg c_30 h1
            refine lv_aload_n hx hb dX3_cut_33 rfl (lv_at hl 0 rfl) ?_
            refine va_get (D := (dC, dI)) (ci := 3) (v := .ref a_w_from) (C := RX3) (T := TX3) (N := 7) hx hb hts kin_X3_cut_X3 hown hK hP 0 rfl rfl 4 (Nat.le_of_ble_eq_true rfl) (hts (.fieldLink RX3 25 "OwnedThings$Web" "from" "[I") (List.mem_of_getElem? (i := 2) rfl)) (fun _ h9 => h9) rfl dX3_cut_34 ?_
            refine lv_iload_n hx hb dX3_cut_37 rfl (lv_at hl 1 rfl) ?_
            refine lv_aload_n hx hb dX3_cut_38 rfl (lv_at hl 0 rfl) ?_
            refine va_get (D := (dC, dI)) (ci := 3) (v := .ref a_w_from) (C := RX3) (T := TX3) (N := 7) hx hb hts kin_X3_cut_X3 hown hK hP 0 rfl rfl 4 (Nat.le_of_ble_eq_true rfl) (hts (.fieldLink RX3 25 "OwnedThings$Web" "from" "[I") (List.mem_of_getElem? (i := 2) rfl)) (fun _ h9 => h9) rfl dX3_cut_39 ?_
            refine lv_iload_n hx hb dX3_cut_42 rfl (lv_at hl 1 rfl) ?_
            refine lv_iconst (v := 1) hx hb dX3_cut_43 (by decide) ?_
            refine lv_iadd hx hb dX3_cut_44 ?_
            have g_45 := hg_no h1
            have h1 := hg_yes h1
            refine va_iald (D := (dC, dI)) hx hb hK hP 1 0 rfl rfl g_45 dX3_cut_45 ?_
            have g_46 := hg_no h1
            have h1 := hg_yes h1
            refine va_iast (D := (dC, dI)) hx hb hK hP (va_D_fst hD rfl) hS 1 0 rfl rfl g_46 dX3_cut_46 (fun H locs hP _ hS => ?_)
            have hP : va_P (dC, dI) vwCl [(a_w, .inr (3, [.int w_count, .int (w_references - (1 : Int32)), .ref a_w_kind, .ref a_w_owner, .ref a_w_from, .ref a_w_to, .ref a_w_away])), (a_w_from, .inl (cI, 12, .inl (upd w_from_25 x2_25.toNatClampNeg (w_from_25 (x2_25 + (1 : Int32)).toNatClampNeg)))), (a_w_to, .inl (cI, 12, .inl w_to_25))] H := hP
            refine lv_aload_n hx hb dX3_cut_47 rfl (lv_at hl 0 rfl) ?_
            refine va_get (D := (dC, dI)) (ci := 3) (v := .ref a_w_to) (C := RX3) (T := TX3) (N := 7) hx hb hts kin_X3_cut_X3 hown hK hP 0 rfl rfl 5 (Nat.le_of_ble_eq_true rfl) (hts (.fieldLink RX3 28 "OwnedThings$Web" "to" "[I") (List.mem_of_getElem? (i := 3) rfl)) (fun _ h9 => h9) rfl dX3_cut_48 ?_
            refine lv_iload_n hx hb dX3_cut_51 rfl (lv_at hl 1 rfl) ?_
            refine lv_aload_n hx hb dX3_cut_52 rfl (lv_at hl 0 rfl) ?_
            refine va_get (D := (dC, dI)) (ci := 3) (v := .ref a_w_to) (C := RX3) (T := TX3) (N := 7) hx hb hts kin_X3_cut_X3 hown hK hP 0 rfl rfl 5 (Nat.le_of_ble_eq_true rfl) (hts (.fieldLink RX3 28 "OwnedThings$Web" "to" "[I") (List.mem_of_getElem? (i := 3) rfl)) (fun _ h9 => h9) rfl dX3_cut_53 ?_
            refine lv_iload_n hx hb dX3_cut_56 rfl (lv_at hl 1 rfl) ?_
            refine lv_iconst (v := 1) hx hb dX3_cut_57 (by decide) ?_
            refine lv_iadd hx hb dX3_cut_58 ?_
            have g_59 := hg_no h1
            have h1 := hg_yes h1
            refine va_iald (D := (dC, dI)) hx hb hK hP 2 0 rfl rfl g_59 dX3_cut_59 ?_
            have g_60 := hg_no h1
            have h1 := hg_yes h1
            refine va_iast (D := (dC, dI)) hx hb hK hP (va_D_fst hD rfl) hS 2 0 rfl rfl g_60 dX3_cut_60 (fun H locs hP _ hS => ?_)
            have hP : va_P (dC, dI) vwCl [(a_w, .inr (3, [.int w_count, .int (w_references - (1 : Int32)), .ref a_w_kind, .ref a_w_owner, .ref a_w_from, .ref a_w_to, .ref a_w_away])), (a_w_from, .inl (cI, 12, .inl (upd w_from_25 x2_25.toNatClampNeg (w_from_25 (x2_25 + (1 : Int32)).toNatClampNeg)))), (a_w_to, .inl (cI, 12, .inl (upd w_to_25 x2_25.toNatClampNeg (w_to_25 (x2_25 + (1 : Int32)).toNatClampNeg))))] H := hP
            refine lv_iinc (v := (x2_25 + (1 : Int32))) (lv' := [(2, .int (x2_25 + (1 : Int32))), (0, .ref a_w)]) hx hb dX3_cut_61 hl (k := 1) rfl rfl (by decide) rfl (fun ls hl => ?_)
            refine lv_goto (tgt := 25) hx hb dX3_cut_64 (by decide) ?_
            cases h1
            exact ih_25 _ _ _ _ _ _ k1 hP hS (lv_sub hl [1, 0] rfl)
      exact lp_25 FUEL _ _ _ _ _ _ i_25 hP hS (lv_sub hl [1, 0] rfl)
    · have h := hp_neg c_9 h
      obtain ⟨rfl, rfl, rfl⟩ := pj3 (Option.some.inj h)
      exact W.vret hx hb hr (fun t ht _ => kQ.mk ht hP trivial (hS.F ht)) hS.2.2 dX3_cut_12
theorem kin_X3_makeOrCut_X3 : ∀ w ∈ wsX30, w ∈ wsX3_makeOrCut := fun _ h => List.mem_cons_of_mem _ (List.mem_append_right _ h)
theorem khd_X3_makeOrCut : yX3_makeOrCut.cls = RX3 ∧ yX3_makeOrCut.cls ≠ "java/lang/invoke/MethodHandle" ∧ yX3_makeOrCut.cls ≠ "java/lang/invoke/VarHandle" ∧ (parseMethodDescriptor yX3_makeOrCut.desc).map (fun d => d.parameters.length) = some 2 := by decide +kernel
set_option maxHeartbeats 8000000 in
set_option maxRecDepth 100000 in
theorem c_X3_makeOrCut (l : Launch) (dC : Nat → ClassId) (dI : Nat → Nat → Nat) (cI cS : ClassId) (a_w : Nat) (a_w_kind : Nat) (a_w_owner : Nat) (a_w_from : Nat) (a_w_to : Nat) (a_w_away : Nat) (w_count : Int32) (w_references : Int32) (w_from : Nat → Int32) (w_to : Nat → Int32) (x1 : Int32) (x2 : Int32) (r : Int32) (z_w_references : Int32) (z_w_from : Nat → Int32) (z_w_to : Nat → Int32) (h : f_X3_makeOrCut w_count w_references w_from w_to x1 x2 = some (r, z_w_references, z_w_from, z_w_to)) : Mk l yX3_makeOrCut wsX3_makeOrCut ({ frames := 2, cells := 0, slots := 0, locals := 42 } : Room) (dC, dI) cI cS [(a_w, .inr (3, [.int w_count, .int w_references, .ref a_w_kind, .ref a_w_owner, .ref a_w_from, .ref a_w_to, .ref a_w_away])), (a_w_from, .inl (cI, 12, .inl w_from)), (a_w_to, .inl (cI, 12, .inl w_to))] [.ref a_w, .int x1, .int x2] (some (.int r)) True (fun H => va_P (dC, dI) vwCl [(a_w, .inr (3, [.int w_count, .int z_w_references, .ref a_w_kind, .ref a_w_owner, .ref a_w_from, .ref a_w_to, .ref a_w_away])), (a_w_from, .inl (cI, 12, .inl z_w_from)), (a_w_to, .inl (cI, 12, .inl z_w_to))] H) (inA (List.map Prod.fst ([(a_w, .inr (3, [.int w_count, .int w_references, .ref a_w_kind, .ref a_w_owner, .ref a_w_from, .ref a_w_to, .ref a_w_away])), (a_w_from, .inl (cI, 12, .inl w_from)), (a_w_to, .inl (cI, 12, .inl w_to))] : va_W))) := by
  refine Met.ofW (cc := cX3_makeOrCut) (maxL := 4) (ret := (some .int)) (by decide) rfl ?_
  intro p e s m args below meth c s₁ B hml hv
  obtain ⟨rfl, hP, hK, hN, hD⟩ := hv
  have hx := B.exec
  have hb := B.bytes
  have hr := B.returns
  have hts := atoms_spec (ws := wsX3_makeOrCut) B.pre
  have hown : s.vm.findClass RX3 = some m.cls := findClass_of_methodNamed B.named
  have hlocks := B.notSynchronized
  have hS : va_S (inA [a_w, a_w_from, a_w_to]) s.heap s.heap [] := va_S.rf
  have hP : va_P (dC, dI) vwCl [(a_w, .inr (3, [.int w_count, .int w_references, .ref a_w_kind, .ref a_w_owner, .ref a_w_from, .ref a_w_to, .ref a_w_away])), (a_w_from, .inl (cI, 12, .inl w_from)), (a_w_to, .inl (cI, 12, .inl w_to))] s.heap := hP
  have hD : va_D (inA [a_w, a_w_from, a_w_to]) [(a_w, .inr (3, [.int w_count, .int w_references, .ref a_w_kind, .ref a_w_owner, .ref a_w_from, .ref a_w_to, .ref a_w_away])), (a_w_from, .inl (cI, 12, .inl w_from)), (a_w_to, .inl (cI, 12, .inl w_to))] := va_D_in hD rfl
  have hl := lv_entry ([.ref a_w, .int x1, .int x2]) (n := 4) (Nat.le_of_ble_eq_true rfl)
  rw [lg_entry_eq]
  generalize (lg_sl ([.ref a_w, .int x1, .int x2]) ++ List.replicate (4 - (lg_sl ([.ref a_w, .int x1, .int x2])).length) Slot.unset).toArray = ls at hl ⊢
  have hl : lv_has ls 4 [(0, .ref a_w), (1, .int x1), (2, .int x2)] := hl
  unfold f_X3_makeOrCut at h
  refine lv_aload_n hx hb dX3_makeOrCut_0 rfl (lv_at hl 0 rfl) ?_
  refine lv_iload_n hx hb dX3_makeOrCut_1 rfl (lv_at hl 1 rfl) ?_
  obtain ⟨r_2, e_2, h⟩ := ob1_inv h
  refine k_pVi (i0 := 0) (rest := []) ⟨hx, hb, hml, hown, hts⟩ (c_X3_mayOwn l dC dI cI cS a_w a_w_kind a_w_owner a_w_from a_w_to a_w_away w_count w_references x1 r_2 e_2) (cwV 1 hts gX3_makeOrCut_X3_mayOwn rfl rfl rfl khd_X3_mayOwn ⟨Nat.le_of_ble_eq_true rfl, Nat.le_of_ble_eq_true rfl⟩) hK hN hP (va_D_fst hD rfl) hS [0] rfl rfl rfl rfl rfl rfl hl.1 rfl (Nat.le_of_ble_eq_true rfl) dX3_makeOrCut_2 ⟨Nat.zero_le _, Nat.zero_le _⟩ (fun H locs hf_2 hP hS => ?_)
  refine lv_if_eq (tgt := 21) hx hb dX3_makeOrCut_5 (by decide) (fun c_5 => ?_) (fun c_5 => ?_)
  · have h := hp_pos c_5 h
    refine lv_iconst (v := -1) hx hb dX3_makeOrCut_21 (by decide) ?_
    obtain ⟨rfl, rfl, rfl, rfl⟩ := pj4 (Option.some.inj h)
    exact W.iret hx hb hr (fun t ht _ => kQ.mk ht hP trivial (hS.F ht)) hS.2.2 dX3_makeOrCut_22
  · have h := hp_neg c_5 h
    refine lv_aload_n hx hb dX3_makeOrCut_8 rfl (lv_at hl 0 rfl) ?_
    refine lv_iload_n hx hb dX3_makeOrCut_9 rfl (lv_at hl 2 rfl) ?_
    obtain ⟨r_10, e_10, h⟩ := ob1_inv h
    refine k_pVi (i0 := 0) (rest := []) ⟨hx, hb, hml, hown, hts⟩ (c_X3_isThing l dC dI cI cS a_w a_w_kind a_w_owner a_w_from a_w_to a_w_away w_count w_references x2 r_10 e_10) (cwV 1 hts gX3_makeOrCut_X3_isThing rfl rfl rfl khd_X3_isThing ⟨Nat.le_of_ble_eq_true rfl, Nat.le_of_ble_eq_true rfl⟩) hK hN hP (va_D_fst hD rfl) hS [0] rfl rfl rfl rfl rfl rfl hl.1 rfl (Nat.le_of_ble_eq_true rfl) dX3_makeOrCut_10 ⟨Nat.zero_le _, Nat.zero_le _⟩ (fun H locs hf_10 hP hS => ?_)
    refine lv_if_eq (tgt := 21) hx hb dX3_makeOrCut_13 (by decide) (fun c_13 => ?_) (fun c_13 => ?_)
    · have h := hp_pos c_13 h
      refine lv_iconst (v := -1) hx hb dX3_makeOrCut_21 (by decide) ?_
      obtain ⟨rfl, rfl, rfl, rfl⟩ := pj4 (Option.some.inj h)
      exact W.iret hx hb hr (fun t ht _ => kQ.mk ht hP trivial (hS.F ht)) hS.2.2 dX3_makeOrCut_22
    · have h := hp_neg c_13 h
      refine lv_iload_n hx hb dX3_makeOrCut_16 rfl (lv_at hl 1 rfl) ?_
      refine lv_iload_n hx hb dX3_makeOrCut_17 rfl (lv_at hl 2 rfl) ?_
      refine lv_icmp_ne (tgt := 23) hx hb dX3_makeOrCut_18 (by decide) (fun c_18 => ?_) (fun c_18 => ?_)
      · have h := hp_neg c_18 h
        refine lv_aload_n hx hb dX3_makeOrCut_23 rfl (lv_at hl 0 rfl) ?_
        refine lv_iload_n hx hb dX3_makeOrCut_24 rfl (lv_at hl 1 rfl) ?_
        refine lv_iload_n hx hb dX3_makeOrCut_25 rfl (lv_at hl 2 rfl) ?_
        obtain ⟨r_26, e_26, h⟩ := ob1_inv h
        refine k_pVi (i0 := 0) (rest := []) ⟨hx, hb, hml, hown, hts⟩ (c_X3_find l dC dI cI cS a_w a_w_kind a_w_owner a_w_from a_w_to a_w_away w_count w_references w_from w_to x1 x2 r_26 e_26) (cwV 2 hts gX3_makeOrCut_X3_find rfl rfl rfl khd_X3_find ⟨Nat.le_of_ble_eq_true rfl, Nat.le_of_ble_eq_true rfl⟩) hK hN hP (va_D_fst hD rfl) hS [0, 1, 2] rfl rfl rfl rfl rfl rfl hl.1 rfl (Nat.le_of_ble_eq_true rfl) dX3_makeOrCut_26 ⟨Nat.zero_le _, Nat.zero_le _⟩ (fun H locs hf_26 hP hS => ?_)
        refine lv_istore_n (lv' := [(3, .int r_26), (0, .ref a_w), (1, .int x1), (2, .int x2)]) hx hb dX3_makeOrCut_29 rfl hl (by decide) rfl (fun ls hl => ?_)
        refine lv_iload_n hx hb dX3_makeOrCut_30 rfl (lv_at hl 0 rfl) ?_
        refine lv_bipush (v := -9) hx hb dX3_makeOrCut_31 (by decide) ?_
        refine lv_icmp_eq (tgt := 44) hx hb dX3_makeOrCut_33 (by decide) (fun c_33 => ?_) (fun c_33 => ?_)
        · have h := hp_pos c_33 h
          refine lv_aload_n hx hb dX3_makeOrCut_44 rfl (lv_at hl 1 rfl) ?_
          refine va_get (D := (dC, dI)) (ci := 3) (v := .int w_references) (C := RX3) (T := TX3) (N := 7) hx hb hts kin_X3_makeOrCut_X3 hown hK hP 0 rfl rfl 1 (Nat.le_of_ble_eq_true rfl) (hts (.fieldLink RX3 15 "OwnedThings$Web" "references" "I") (List.mem_of_getElem? (i := 1) rfl)) (fun _ h9 => h9) rfl dX3_makeOrCut_45 ?_
          refine lv_bipush (v := 12) hx hb dX3_makeOrCut_48 (by decide) ?_
          refine lv_icmp_ne (tgt := 56) hx hb dX3_makeOrCut_50 (by decide) (fun c_50 => ?_) (fun c_50 => ?_)
          · have h := hp_neg c_50 h
            refine lv_aload_n hx hb dX3_makeOrCut_56 rfl (lv_at hl 1 rfl) ?_
            refine lv_iload_n hx hb dX3_makeOrCut_57 rfl (lv_at hl 2 rfl) ?_
            refine lv_iload_n hx hb dX3_makeOrCut_58 rfl (lv_at hl 3 rfl) ?_
            obtain ⟨r_59_references, r_59_from, r_59_to, e_59, h⟩ := ob3_inv h
            refine k_wVv (i0 := 0) (rest := []) (ws' := [(a_w, .inr (3, [.int w_count, .int r_59_references, .ref a_w_kind, .ref a_w_owner, .ref a_w_from, .ref a_w_to, .ref a_w_away])), (a_w_from, .inl (cI, 12, .inl r_59_from)), (a_w_to, .inl (cI, 12, .inl r_59_to))]) ⟨hx, hb, hml, hown, hts⟩ (c_X3_addReference l dC dI cI cS a_w a_w_kind a_w_owner a_w_from a_w_to a_w_away w_count w_references w_from w_to x1 x2 r_59_references r_59_from r_59_to e_59) (cwV 2 hts gX3_makeOrCut_X3_addReference rfl rfl rfl khd_X3_addReference ⟨Nat.le_of_ble_eq_true rfl, Nat.le_of_ble_eq_true rfl⟩) hK hN hP (va_D_fst hD rfl) hS [0, 1, 2] rfl rfl rfl rfl rfl rfl hl.1 rfl (Nat.le_of_ble_eq_true rfl) dX3_makeOrCut_59 ⟨Nat.zero_le _, Nat.zero_le _⟩ rfl rfl (fun H locs hf_59 hP hS => ?_)
            refine lv_aload_n hx hb dX3_makeOrCut_62 rfl (lv_at hl 1 rfl) ?_
            refine va_get (D := (dC, dI)) (ci := 3) (v := .int r_59_references) (C := RX3) (T := TX3) (N := 7) hx hb hts kin_X3_makeOrCut_X3 hown hK hP 0 rfl rfl 1 (Nat.le_of_ble_eq_true rfl) (hts (.fieldLink RX3 15 "OwnedThings$Web" "references" "I") (List.mem_of_getElem? (i := 1) rfl)) (fun _ h9 => h9) rfl dX3_makeOrCut_63 ?_
            obtain ⟨rfl, rfl, rfl, rfl⟩ := pj4 (Option.some.inj h)
            exact W.iret hx hb hr (fun t ht _ => kQ.mk ht hP trivial (hS.F ht)) hS.2.2 dX3_makeOrCut_66
          · have h := hp_pos c_50 h
            refine lv_bipush (v := -4) hx hb dX3_makeOrCut_53 (by decide) ?_
            obtain ⟨rfl, rfl, rfl, rfl⟩ := pj4 (Option.some.inj h)
            exact W.iret hx hb hr (fun t ht _ => kQ.mk ht hP trivial (hS.F ht)) hS.2.2 dX3_makeOrCut_55
        · have h := hp_neg c_33 h
          refine lv_aload_n hx hb dX3_makeOrCut_36 rfl (lv_at hl 1 rfl) ?_
          refine lv_iload_n hx hb dX3_makeOrCut_37 rfl (lv_at hl 0 rfl) ?_
          obtain ⟨r_38_references, r_38_from, r_38_to, e_38, h⟩ := ob3_inv h
          refine k_wVv (i0 := 0) (rest := []) (ws' := [(a_w, .inr (3, [.int w_count, .int r_38_references, .ref a_w_kind, .ref a_w_owner, .ref a_w_from, .ref a_w_to, .ref a_w_away])), (a_w_from, .inl (cI, 12, .inl r_38_from)), (a_w_to, .inl (cI, 12, .inl r_38_to))]) ⟨hx, hb, hml, hown, hts⟩ (c_X3_cut l dC dI cI cS a_w a_w_kind a_w_owner a_w_from a_w_to a_w_away w_count w_references w_from w_to r_26 r_38_references r_38_from r_38_to e_38) (cwV 1 hts gX3_makeOrCut_X3_cut rfl rfl rfl khd_X3_cut ⟨Nat.le_of_ble_eq_true rfl, Nat.le_of_ble_eq_true rfl⟩) hK hN hP (va_D_fst hD rfl) hS [0, 1, 2] rfl rfl rfl rfl rfl rfl hl.1 rfl (Nat.le_of_ble_eq_true rfl) dX3_makeOrCut_38 ⟨Nat.zero_le _, Nat.zero_le _⟩ rfl rfl (fun H locs hf_38 hP hS => ?_)
          refine lv_goto (tgt := 62) hx hb dX3_makeOrCut_41 (by decide) ?_
          refine lv_aload_n hx hb dX3_makeOrCut_62 rfl (lv_at hl 1 rfl) ?_
          refine va_get (D := (dC, dI)) (ci := 3) (v := .int r_38_references) (C := RX3) (T := TX3) (N := 7) hx hb hts kin_X3_makeOrCut_X3 hown hK hP 0 rfl rfl 1 (Nat.le_of_ble_eq_true rfl) (hts (.fieldLink RX3 15 "OwnedThings$Web" "references" "I") (List.mem_of_getElem? (i := 1) rfl)) (fun _ h9 => h9) rfl dX3_makeOrCut_63 ?_
          obtain ⟨rfl, rfl, rfl, rfl⟩ := pj4 (Option.some.inj h)
          exact W.iret hx hb hr (fun t ht _ => kQ.mk ht hP trivial (hS.F ht)) hS.2.2 dX3_makeOrCut_66
      · have h := hp_pos c_18 h
        refine lv_iconst (v := -1) hx hb dX3_makeOrCut_21 (by decide) ?_
        obtain ⟨rfl, rfl, rfl, rfl⟩ := pj4 (Option.some.inj h)
        exact W.iret hx hb hr (fun t ht _ => kQ.mk ht hP trivial (hS.F ht)) hS.2.2 dX3_makeOrCut_22
theorem kin_X3_isUnder_X3 : ∀ w ∈ wsX30, w ∈ wsX3_isUnder := fun _ h => List.mem_cons_of_mem _ (List.mem_append_right _ h)
theorem khd_X3_isUnder : yX3_isUnder.cls = RX3 ∧ yX3_isUnder.cls ≠ "java/lang/invoke/MethodHandle" ∧ yX3_isUnder.cls ≠ "java/lang/invoke/VarHandle" ∧ (parseMethodDescriptor yX3_isUnder.desc).map (fun d => d.parameters.length) = some 2 := by decide +kernel
set_option maxHeartbeats 8000000 in
set_option maxRecDepth 100000 in
theorem c_X3_isUnder (l : Launch) (dC : Nat → ClassId) (dI : Nat → Nat → Nat) (cI cS : ClassId) (a_w : Nat) (a_w_kind : Nat) (a_w_owner : Nat) (a_w_from : Nat) (a_w_to : Nat) (a_w_away : Nat) (w_count : Int32) (w_references : Int32) (w_owner : Nat → Int32) (x1 : Int32) (x2 : Int32) (r : Int32) (h : f_X3_isUnder w_count w_owner x1 x2 = some r) : Mk l yX3_isUnder wsX3_isUnder ({ frames := 1, cells := 0, slots := 0, locals := 21 } : Room) (dC, dI) cI cS [(a_w, .inr (3, [.int w_count, .int w_references, .ref a_w_kind, .ref a_w_owner, .ref a_w_from, .ref a_w_to, .ref a_w_away])), (a_w_owner, .inl (cI, 6, .inl w_owner))] [.ref a_w, .int x1, .int x2] (some (.int r)) (r = 0 ∨ r = 1) (fun _ => True) noA := by
  refine Met.ofW (cc := cX3_isUnder) (maxL := 5) (ret := (some .boolean)) (by decide) rfl ?_
  intro p e s m args below meth c s₁ B hml hv
  obtain ⟨rfl, hP, hK, hN, hD⟩ := hv
  have hx := B.exec
  have hb := B.bytes
  have hr := B.returns
  have hts := atoms_spec (ws := wsX3_isUnder) B.pre
  have hown : s.vm.findClass RX3 = some m.cls := findClass_of_methodNamed B.named
  have hlocks := B.notSynchronized
  have hS : va_S noA s.heap s.heap [] := va_S.rf
  have hP : va_P (dC, dI) vwCl [(a_w, .inr (3, [.int w_count, .int w_references, .ref a_w_kind, .ref a_w_owner, .ref a_w_from, .ref a_w_to, .ref a_w_away])), (a_w_owner, .inl (cI, 6, .inl w_owner))] s.heap := hP
  have hl := lv_entry ([.ref a_w, .int x1, .int x2]) (n := 5) (Nat.le_of_ble_eq_true rfl)
  rw [lg_entry_eq]
  generalize (lg_sl ([.ref a_w, .int x1, .int x2]) ++ List.replicate (5 - (lg_sl ([.ref a_w, .int x1, .int x2])).length) Slot.unset).toArray = ls at hl ⊢
  have hl : lv_has ls 5 [(0, .ref a_w), (1, .int x1), (2, .int x2)] := hl
  unfold f_X3_isUnder at h
  refine lv_iload_n hx hb dX3_isUnder_0 rfl (lv_at hl 1 rfl) ?_
  refine lv_istore_n (lv' := [(3, .int x1), (0, .ref a_w), (1, .int x1), (2, .int x2)]) hx hb dX3_isUnder_1 rfl hl (by decide) rfl (fun ls hl => ?_)
  refine lv_iconst (v := 0) hx hb dX3_isUnder_2 (by decide) ?_
  refine lv_istore (lv' := [(4, .int (0 : Int32)), (3, .int x1), (0, .ref a_w), (1, .int x1), (2, .int x2)]) hx hb dX3_isUnder_3 hl (by decide) rfl (fun ls hl => ?_)
  obtain ⟨o_5, K_5, i_5, hk_5, h⟩ := os0_inv h
  have after_5 : ∀ (_ : K_5) (H : Heap) (locs : List Loc) (ls : Array Slot), va_P (dC, dI) vwCl [(a_w, .inr (3, [.int w_count, .int w_references, .ref a_w_kind, .ref a_w_owner, .ref a_w_from, .ref a_w_to, .ref a_w_away])), (a_w_owner, .inl (cI, 6, .inl w_owner))] H → va_S noA s.heap H locs → lv_has ls 5 [] → W p l e (headSpec wsX3_isUnder ({ frames := 1, cells := 0, slots := 0, locals := 21 } : Room)).room s m ([.ref a_w, .int x1, .int x2] : List Value).toArray below meth c H locs 0 0 (MQ below (kQ (some (.int r)) (r = 0 ∨ r = 1) (fun _ => True) noA) ([.ref a_w, .int x1, .int x2] : List Value).toArray s 0 0 noA) (F0 m 40 ls []) := by
    intro  ha H locs ls hP hS hl
    have h := hk_5  ha
    refine lv_iconst (v := 0) hx hb dX3_isUnder_40 (by decide) ?_
    obtain rfl := Option.some.inj h
    exact W.zret hx hb hr (nb01 (Or.inl rfl)) (fun t ht _ => kQ.mk ht trivial (Or.inl rfl) (hS.F ht)) hS.2.2 dX3_isUnder_41
  have lp_5 : ∀ (n : Nat) (x3_5 : Int32) (x4_5 : Int32) (H : Heap) (locs : List Loc) (ls : Array Slot), it (u2 (L_X3_isUnder_5 w_count w_owner x2)) n (x3_5, x4_5) = some o_5 → va_P (dC, dI) vwCl [(a_w, .inr (3, [.int w_count, .int w_references, .ref a_w_kind, .ref a_w_owner, .ref a_w_from, .ref a_w_to, .ref a_w_away])), (a_w_owner, .inl (cI, 6, .inl w_owner))] H → va_S noA s.heap H locs → lv_has ls 5 [(0, .ref a_w), (2, .int x2), (3, .int x3_5), (4, .int x4_5)] → W p l e (headSpec wsX3_isUnder ({ frames := 1, cells := 0, slots := 0, locals := 21 } : Room)).room s m ([.ref a_w, .int x1, .int x2] : List Value).toArray below meth c H locs 0 0 (MQ below (kQ (some (.int r)) (r = 0 ∨ r = 1) (fun _ => True) noA) ([.ref a_w, .int x1, .int x2] : List Value).toArray s 0 0 noA) (F0 m 5 ls []) := by
    intro n
    induction n with
    | zero => intro x3_5 x4_5 H locs ls h1; exact (it_0 h1).elim
    | succ n ih_5 =>
      intro x3_5 x4_5 H locs ls h1 hP hS hl
      obtain ⟨t_5, h1, k1⟩ := it2_inv h1
      unfold L_X3_isUnder_5 at h1
      refine lv_iload hx hb dX3_isUnder_5 (lv_at hl 3 rfl) ?_
      refine lv_bipush (v := 6) hx hb dX3_isUnder_7 (by decide) ?_
      refine lv_icmp_ge (tgt := 40) hx hb dX3_isUnder_9 (by decide) (fun c_9 => ?_) (fun c_9 => ?_)
      · have h1 := hp_pos c_9 h1
        cases h1
        obtain rfl := pj1 k1
        exact after_5  h _ _ _ hP hS (lv_sub hl [] rfl)
      · have h1 := hp_neg c_9 h1
        refine lv_aload_n hx hb dX3_isUnder_12 rfl (lv_at hl 0 rfl) ?_
        refine lv_iload_n hx hb dX3_isUnder_13 rfl (lv_at hl 2 rfl) ?_
        obtain ⟨r_14, e_14, h1⟩ := ob1_inv h1
        refine k_pVi (i0 := 0) (rest := []) ⟨hx, hb, hml, hown, hts⟩ (c_X3_isThing l dC dI cI cS a_w a_w_kind a_w_owner a_w_from a_w_to a_w_away w_count w_references x3_5 r_14 e_14) (cwV 1 hts gX3_isUnder_X3_isThing rfl rfl rfl khd_X3_isThing ⟨Nat.le_of_ble_eq_true rfl, Nat.le_of_ble_eq_true rfl⟩) hK hN hP (va_D_fst hD rfl) hS [0] rfl rfl rfl rfl rfl rfl hl.1 rfl (Nat.le_of_ble_eq_true rfl) dX3_isUnder_14 ⟨Nat.zero_le _, Nat.zero_le _⟩ (fun H locs hf_14 hP hS => ?_)
        refine lv_if_eq (tgt := 40) hx hb dX3_isUnder_17 (by decide) (fun c_17 => ?_) (fun c_17 => ?_)
        · have h1 := hp_pos c_17 h1
          cases h1
          obtain rfl := pj1 k1
          exact after_5  h _ _ _ hP hS (lv_sub hl [] rfl)
        · have h1 := hp_neg c_17 h1
          refine lv_aload_n hx hb dX3_isUnder_20 rfl (lv_at hl 0 rfl) ?_
          refine va_get (D := (dC, dI)) (ci := 3) (v := .ref a_w_owner) (C := RX3) (T := TX3) (N := 7) hx hb hts kin_X3_isUnder_X3 hown hK hP 0 rfl rfl 3 (Nat.le_of_ble_eq_true rfl) (hts (.fieldLink RX3 22 "OwnedThings$Web" "owner" "[I") (List.mem_of_getElem? (i := 1) rfl)) (fun _ h9 => h9) rfl dX3_isUnder_21 ?_
          refine lv_iload_n hx hb dX3_isUnder_24 rfl (lv_at hl 2 rfl) ?_
          have g_25 := hg_no h1
          have h1 := hg_yes h1
          refine va_iald (D := (dC, dI)) hx hb hK hP 1 0 rfl rfl g_25 dX3_isUnder_25 ?_
          refine lv_istore_n (lv' := [(3, .int (w_owner x3_5.toNatClampNeg)), (0, .ref a_w), (2, .int x2), (4, .int x4_5)]) hx hb dX3_isUnder_26 rfl hl (by decide) rfl (fun ls hl => ?_)
          refine lv_iload_n hx hb dX3_isUnder_27 rfl (lv_at hl 0 rfl) ?_
          refine lv_iload_n hx hb dX3_isUnder_28 rfl (lv_at hl 2 rfl) ?_
          refine lv_icmp_ne (tgt := 34) hx hb dX3_isUnder_29 (by decide) (fun c_29 => ?_) (fun c_29 => ?_)
          · have h1 := hp_neg c_29 h1
            refine lv_iinc (v := (x4_5 + (1 : Int32))) (lv' := [(4, .int (x4_5 + (1 : Int32))), (3, .int (w_owner x3_5.toNatClampNeg)), (0, .ref a_w), (2, .int x2)]) hx hb dX3_isUnder_34 hl (k := 3) rfl rfl (by decide) rfl (fun ls hl => ?_)
            refine lv_goto (tgt := 5) hx hb dX3_isUnder_37 (by decide) ?_
            cases h1
            exact ih_5 _ _ _ _ _ k1 hP hS (lv_sub hl [2, 3, 1, 0] rfl)
          · have h1 := hp_pos c_29 h1
            refine lv_iconst (v := 1) hx hb dX3_isUnder_32 (by decide) ?_
            cases h1
            obtain rfl := pj1 k1
            have h := congrArg some h
            obtain rfl := Option.some.inj h
            exact W.zret hx hb hr (nb01 (Or.inr rfl)) (fun t ht _ => kQ.mk ht trivial (Or.inr rfl) (hS.F ht)) hS.2.2 dX3_isUnder_33
  exact lp_5 FUEL _ _ _ _ _ i_5 hP hS (lv_sub hl [2, 4, 1, 0] rfl)
theorem kin_X3_changeOwner_X3 : ∀ w ∈ wsX30, w ∈ wsX3_changeOwner := fun _ h => List.mem_cons_of_mem _ (List.mem_append_right _ h)
theorem khd_X3_changeOwner : yX3_changeOwner.cls = RX3 ∧ yX3_changeOwner.cls ≠ "java/lang/invoke/MethodHandle" ∧ yX3_changeOwner.cls ≠ "java/lang/invoke/VarHandle" ∧ (parseMethodDescriptor yX3_changeOwner.desc).map (fun d => d.parameters.length) = some 2 := by decide +kernel
set_option maxHeartbeats 8000000 in
set_option maxRecDepth 100000 in
theorem c_X3_changeOwner (l : Launch) (dC : Nat → ClassId) (dI : Nat → Nat → Nat) (cI cS : ClassId) (a_w : Nat) (a_w_kind : Nat) (a_w_owner : Nat) (a_w_from : Nat) (a_w_to : Nat) (a_w_away : Nat) (w_count : Int32) (w_references : Int32) (w_owner : Nat → Int32) (x1 : Int32) (x2 : Int32) (r : Int32) (z_w_owner : Nat → Int32) (h : f_X3_changeOwner w_count w_owner x1 x2 = some (r, z_w_owner)) : Mk l yX3_changeOwner wsX3_changeOwner ({ frames := 2, cells := 0, slots := 0, locals := 45 } : Room) (dC, dI) cI cS [(a_w, .inr (3, [.int w_count, .int w_references, .ref a_w_kind, .ref a_w_owner, .ref a_w_from, .ref a_w_to, .ref a_w_away])), (a_w_owner, .inl (cI, 6, .inl w_owner))] [.ref a_w, .int x1, .int x2] (some (.int r)) True (fun H => va_P (dC, dI) vwCl [(a_w, .inr (3, [.int w_count, .int w_references, .ref a_w_kind, .ref a_w_owner, .ref a_w_from, .ref a_w_to, .ref a_w_away])), (a_w_owner, .inl (cI, 6, .inl z_w_owner))] H) (inA (List.map Prod.fst ([(a_w, .inr (3, [.int w_count, .int w_references, .ref a_w_kind, .ref a_w_owner, .ref a_w_from, .ref a_w_to, .ref a_w_away])), (a_w_owner, .inl (cI, 6, .inl w_owner))] : va_W))) := by
  refine Met.ofW (cc := cX3_changeOwner) (maxL := 4) (ret := (some .int)) (by decide) rfl ?_
  intro p e s m args below meth c s₁ B hml hv
  obtain ⟨rfl, hP, hK, hN, hD⟩ := hv
  have hx := B.exec
  have hb := B.bytes
  have hr := B.returns
  have hts := atoms_spec (ws := wsX3_changeOwner) B.pre
  have hown : s.vm.findClass RX3 = some m.cls := findClass_of_methodNamed B.named
  have hlocks := B.notSynchronized
  have hS : va_S (inA [a_w, a_w_owner]) s.heap s.heap [] := va_S.rf
  have hP : va_P (dC, dI) vwCl [(a_w, .inr (3, [.int w_count, .int w_references, .ref a_w_kind, .ref a_w_owner, .ref a_w_from, .ref a_w_to, .ref a_w_away])), (a_w_owner, .inl (cI, 6, .inl w_owner))] s.heap := hP
  have hD : va_D (inA [a_w, a_w_owner]) [(a_w, .inr (3, [.int w_count, .int w_references, .ref a_w_kind, .ref a_w_owner, .ref a_w_from, .ref a_w_to, .ref a_w_away])), (a_w_owner, .inl (cI, 6, .inl w_owner))] := va_D_in hD rfl
  have hl := lv_entry ([.ref a_w, .int x1, .int x2]) (n := 4) (Nat.le_of_ble_eq_true rfl)
  rw [lg_entry_eq]
  generalize (lg_sl ([.ref a_w, .int x1, .int x2]) ++ List.replicate (4 - (lg_sl ([.ref a_w, .int x1, .int x2])).length) Slot.unset).toArray = ls at hl ⊢
  have hl : lv_has ls 4 [(0, .ref a_w), (1, .int x1), (2, .int x2)] := hl
  unfold f_X3_changeOwner at h
  refine lv_aload_n hx hb dX3_changeOwner_0 rfl (lv_at hl 0 rfl) ?_
  refine lv_iload_n hx hb dX3_changeOwner_1 rfl (lv_at hl 1 rfl) ?_
  obtain ⟨r_2, e_2, h⟩ := ob1_inv h
  refine k_pVi (i0 := 0) (rest := []) ⟨hx, hb, hml, hown, hts⟩ (c_X3_isThing l dC dI cI cS a_w a_w_kind a_w_owner a_w_from a_w_to a_w_away w_count w_references x1 r_2 e_2) (cwV 1 hts gX3_changeOwner_X3_isThing rfl rfl rfl khd_X3_isThing ⟨Nat.le_of_ble_eq_true rfl, Nat.le_of_ble_eq_true rfl⟩) hK hN hP (va_D_fst hD rfl) hS [0] rfl rfl rfl rfl rfl rfl hl.1 rfl (Nat.le_of_ble_eq_true rfl) dX3_changeOwner_2 ⟨Nat.zero_le _, Nat.zero_le _⟩ (fun H locs hf_2 hP hS => ?_)
  refine lv_if_eq (tgt := 21) hx hb dX3_changeOwner_5 (by decide) (fun c_5 => ?_) (fun c_5 => ?_)
  · have h := hp_pos c_5 h
    refine lv_iconst (v := -1) hx hb dX3_changeOwner_21 (by decide) ?_
    obtain ⟨rfl, rfl⟩ := pj2 (Option.some.inj h)
    exact W.iret hx hb hr (fun t ht _ => kQ.mk ht hP trivial (hS.F ht)) hS.2.2 dX3_changeOwner_22
  · have h := hp_neg c_5 h
    refine lv_aload_n hx hb dX3_changeOwner_8 rfl (lv_at hl 0 rfl) ?_
    refine lv_iload_n hx hb dX3_changeOwner_9 rfl (lv_at hl 2 rfl) ?_
    obtain ⟨r_10, e_10, h⟩ := ob1_inv h
    refine k_pVi (i0 := 0) (rest := []) ⟨hx, hb, hml, hown, hts⟩ (c_X3_mayOwn l dC dI cI cS a_w a_w_kind a_w_owner a_w_from a_w_to a_w_away w_count w_references x2 r_10 e_10) (cwV 1 hts gX3_changeOwner_X3_mayOwn rfl rfl rfl khd_X3_mayOwn ⟨Nat.le_of_ble_eq_true rfl, Nat.le_of_ble_eq_true rfl⟩) hK hN hP (va_D_fst hD rfl) hS [0] rfl rfl rfl rfl rfl rfl hl.1 rfl (Nat.le_of_ble_eq_true rfl) dX3_changeOwner_10 ⟨Nat.zero_le _, Nat.zero_le _⟩ (fun H locs hf_10 hP hS => ?_)
    refine lv_if_eq (tgt := 21) hx hb dX3_changeOwner_13 (by decide) (fun c_13 => ?_) (fun c_13 => ?_)
    · have h := hp_pos c_13 h
      refine lv_iconst (v := -1) hx hb dX3_changeOwner_21 (by decide) ?_
      obtain ⟨rfl, rfl⟩ := pj2 (Option.some.inj h)
      exact W.iret hx hb hr (fun t ht _ => kQ.mk ht hP trivial (hS.F ht)) hS.2.2 dX3_changeOwner_22
    · have h := hp_neg c_13 h
      refine lv_iload_n hx hb dX3_changeOwner_16 rfl (lv_at hl 1 rfl) ?_
      refine lv_iload_n hx hb dX3_changeOwner_17 rfl (lv_at hl 2 rfl) ?_
      refine lv_icmp_ne (tgt := 23) hx hb dX3_changeOwner_18 (by decide) (fun c_18 => ?_) (fun c_18 => ?_)
      · have h := hp_neg c_18 h
        refine lv_aload_n hx hb dX3_changeOwner_23 rfl (lv_at hl 0 rfl) ?_
        refine lv_iload_n hx hb dX3_changeOwner_24 rfl (lv_at hl 2 rfl) ?_
        refine lv_iload_n hx hb dX3_changeOwner_25 rfl (lv_at hl 1 rfl) ?_
        obtain ⟨r_26, e_26, h⟩ := ob1_inv h
        refine k_pVi (i0 := 0) (rest := []) ⟨hx, hb, hml, hown, hts⟩ (c_X3_isUnder l dC dI cI cS a_w a_w_kind a_w_owner a_w_from a_w_to a_w_away w_count w_references w_owner x2 x1 r_26 e_26) (cwV 2 hts gX3_changeOwner_X3_isUnder rfl rfl rfl khd_X3_isUnder ⟨Nat.le_of_ble_eq_true rfl, Nat.le_of_ble_eq_true rfl⟩) hK hN hP (va_D_fst hD rfl) hS [0, 1] rfl rfl rfl rfl rfl rfl hl.1 rfl (Nat.le_of_ble_eq_true rfl) dX3_changeOwner_26 ⟨Nat.zero_le _, Nat.zero_le _⟩ (fun H locs hf_26 hP hS => ?_)
        refine lv_if_eq (tgt := 35) hx hb dX3_changeOwner_29 (by decide) (fun c_29 => ?_) (fun c_29 => ?_)
        · have h := hp_pos c_29 h
          refine lv_aload_n hx hb dX3_changeOwner_35 rfl (lv_at hl 0 rfl) ?_
          refine va_get (D := (dC, dI)) (ci := 3) (v := .ref a_w_owner) (C := RX3) (T := TX3) (N := 7) hx hb hts kin_X3_changeOwner_X3 hown hK hP 0 rfl rfl 3 (Nat.le_of_ble_eq_true rfl) (hts (.fieldLink RX3 22 "OwnedThings$Web" "owner" "[I") (List.mem_of_getElem? (i := 1) rfl)) (fun _ h9 => h9) rfl dX3_changeOwner_36 ?_
          refine lv_iload_n hx hb dX3_changeOwner_39 rfl (lv_at hl 1 rfl) ?_
          have g_40 := hg_no h
          have h := hg_yes h
          refine va_iald (D := (dC, dI)) hx hb hK hP 1 0 rfl rfl g_40 dX3_changeOwner_40 ?_
          refine lv_istore_n (lv' := [(3, .int (w_owner x1.toNatClampNeg)), (0, .ref a_w), (1, .int x1), (2, .int x2)]) hx hb dX3_changeOwner_41 rfl hl (by decide) rfl (fun ls hl => ?_)
          refine lv_aload_n hx hb dX3_changeOwner_42 rfl (lv_at hl 1 rfl) ?_
          refine va_get (D := (dC, dI)) (ci := 3) (v := .ref a_w_owner) (C := RX3) (T := TX3) (N := 7) hx hb hts kin_X3_changeOwner_X3 hown hK hP 0 rfl rfl 3 (Nat.le_of_ble_eq_true rfl) (hts (.fieldLink RX3 22 "OwnedThings$Web" "owner" "[I") (List.mem_of_getElem? (i := 1) rfl)) (fun _ h9 => h9) rfl dX3_changeOwner_43 ?_
          refine lv_iload_n hx hb dX3_changeOwner_46 rfl (lv_at hl 2 rfl) ?_
          refine lv_iload_n hx hb dX3_changeOwner_47 rfl (lv_at hl 3 rfl) ?_
          have g_48 := hg_no h
          have h := hg_yes h
          refine va_iast (D := (dC, dI)) hx hb hK hP (va_D_fst hD rfl) hS 1 0 rfl rfl g_48 dX3_changeOwner_48 (fun H locs hP _ hS => ?_)
          have hP : va_P (dC, dI) vwCl [(a_w, .inr (3, [.int w_count, .int w_references, .ref a_w_kind, .ref a_w_owner, .ref a_w_from, .ref a_w_to, .ref a_w_away])), (a_w_owner, .inl (cI, 6, .inl (upd w_owner x1.toNatClampNeg x2)))] H := hP
          refine lv_iload_n hx hb dX3_changeOwner_49 rfl (lv_at hl 0 rfl) ?_
          obtain ⟨rfl, rfl⟩ := pj2 (Option.some.inj h)
          exact W.iret hx hb hr (fun t ht _ => kQ.mk ht hP trivial (hS.F ht)) hS.2.2 dX3_changeOwner_50
        · have h := hp_neg c_29 h
          refine lv_bipush (v := -3) hx hb dX3_changeOwner_32 (by decide) ?_
          obtain ⟨rfl, rfl⟩ := pj2 (Option.some.inj h)
          exact W.iret hx hb hr (fun t ht _ => kQ.mk ht hP trivial (hS.F ht)) hS.2.2 dX3_changeOwner_34
      · have h := hp_pos c_18 h
        refine lv_iconst (v := -1) hx hb dX3_changeOwner_21 (by decide) ?_
        obtain ⟨rfl, rfl⟩ := pj2 (Option.some.inj h)
        exact W.iret hx hb hr (fun t ht _ => kQ.mk ht hP trivial (hS.F ht)) hS.2.2 dX3_changeOwner_22
theorem kin_X3_singleReferenceTo_X3 : ∀ w ∈ wsX30, w ∈ wsX3_singleReferenceTo := fun _ h => List.mem_cons_of_mem _ (List.mem_append_right _ h)
theorem khd_X3_singleReferenceTo : yX3_singleReferenceTo.cls = RX3 ∧ yX3_singleReferenceTo.cls ≠ "java/lang/invoke/MethodHandle" ∧ yX3_singleReferenceTo.cls ≠ "java/lang/invoke/VarHandle" ∧ (parseMethodDescriptor yX3_singleReferenceTo.desc).map (fun d => d.parameters.length) = some 1 := by decide +kernel
set_option maxHeartbeats 8000000 in
set_option maxRecDepth 100000 in
theorem c_X3_singleReferenceTo (l : Launch) (dC : Nat → ClassId) (dI : Nat → Nat → Nat) (cI cS : ClassId) (a_w : Nat) (a_w_kind : Nat) (a_w_owner : Nat) (a_w_from : Nat) (a_w_to : Nat) (a_w_away : Nat) (w_count : Int32) (w_references : Int32) (w_to : Nat → Int32) (x1 : Int32) (r : Int32) (h : f_X3_singleReferenceTo w_references w_to x1 = some r) : Mk l yX3_singleReferenceTo wsX3_singleReferenceTo ({ frames := 0, cells := 0, slots := 0, locals := 0 } : Room) (dC, dI) cI cS [(a_w, .inr (3, [.int w_count, .int w_references, .ref a_w_kind, .ref a_w_owner, .ref a_w_from, .ref a_w_to, .ref a_w_away])), (a_w_to, .inl (cI, 12, .inl w_to))] [.ref a_w, .int x1] (some (.int r)) True (fun _ => True) noA := by
  refine Met.ofW (cc := cX3_singleReferenceTo) (maxL := 4) (ret := (some .int)) (by decide) rfl ?_
  intro p e s m args below meth c s₁ B hml hv
  obtain ⟨rfl, hP, hK, hN, hD⟩ := hv
  have hx := B.exec
  have hb := B.bytes
  have hr := B.returns
  have hts := atoms_spec (ws := wsX3_singleReferenceTo) B.pre
  have hown : s.vm.findClass RX3 = some m.cls := findClass_of_methodNamed B.named
  have hlocks := B.notSynchronized
  have hS : va_S noA s.heap s.heap [] := va_S.rf
  have hP : va_P (dC, dI) vwCl [(a_w, .inr (3, [.int w_count, .int w_references, .ref a_w_kind, .ref a_w_owner, .ref a_w_from, .ref a_w_to, .ref a_w_away])), (a_w_to, .inl (cI, 12, .inl w_to))] s.heap := hP
  have hl := lv_entry ([.ref a_w, .int x1]) (n := 4) (Nat.le_of_ble_eq_true rfl)
  rw [lg_entry_eq]
  generalize (lg_sl ([.ref a_w, .int x1]) ++ List.replicate (4 - (lg_sl ([.ref a_w, .int x1])).length) Slot.unset).toArray = ls at hl ⊢
  have hl : lv_has ls 4 [(0, .ref a_w), (1, .int x1)] := hl
  unfold f_X3_singleReferenceTo at h
  refine lv_bipush (v := -9) hx hb dX3_singleReferenceTo_0 (by decide) ?_
  refine lv_istore_n (lv' := [(2, .int (-9 : Int32)), (0, .ref a_w), (1, .int x1)]) hx hb dX3_singleReferenceTo_2 rfl hl (by decide) rfl (fun ls hl => ?_)
  refine lv_iconst (v := 0) hx hb dX3_singleReferenceTo_3 (by decide) ?_
  refine lv_istore_n (lv' := [(3, .int (0 : Int32)), (2, .int (-9 : Int32)), (0, .ref a_w), (1, .int x1)]) hx hb dX3_singleReferenceTo_4 rfl hl (by decide) rfl (fun ls hl => ?_)
  obtain ⟨o_5, K_5, i_5, hk_5, h⟩ := os1_inv h
  have after_5 : ∀ (y2_5 : Int32) (_ : K_5 y2_5) (H : Heap) (locs : List Loc) (ls : Array Slot), va_P (dC, dI) vwCl [(a_w, .inr (3, [.int w_count, .int w_references, .ref a_w_kind, .ref a_w_owner, .ref a_w_from, .ref a_w_to, .ref a_w_away])), (a_w_to, .inl (cI, 12, .inl w_to))] H → va_S noA s.heap H locs → lv_has ls 4 [(2, .int y2_5)] → W p l e (headSpec wsX3_singleReferenceTo ({ frames := 0, cells := 0, slots := 0, locals := 0 } : Room)).room s m ([.ref a_w, .int x1] : List Value).toArray below meth c H locs 0 0 (MQ below (kQ (some (.int r)) True (fun _ => True) noA) ([.ref a_w, .int x1] : List Value).toArray s 0 0 noA) (F0 m 40 ls []) := by
    intro y2_5 ha H locs ls hP hS hl
    have h := hk_5 _ ha
    refine lv_iload_n hx hb dX3_singleReferenceTo_40 rfl (lv_at hl 0 rfl) ?_
    obtain rfl := Option.some.inj h
    exact W.iret hx hb hr (fun t ht _ => kQ.mk ht trivial trivial (hS.F ht)) hS.2.2 dX3_singleReferenceTo_41
  have lp_5 : ∀ (n : Nat) (x2_5 : Int32) (x3_5 : Int32) (H : Heap) (locs : List Loc) (ls : Array Slot), it (u2 (L_X3_singleReferenceTo_5 w_references w_to x1)) n (x2_5, x3_5) = some o_5 → va_P (dC, dI) vwCl [(a_w, .inr (3, [.int w_count, .int w_references, .ref a_w_kind, .ref a_w_owner, .ref a_w_from, .ref a_w_to, .ref a_w_away])), (a_w_to, .inl (cI, 12, .inl w_to))] H → va_S noA s.heap H locs → lv_has ls 4 [(0, .ref a_w), (1, .int x1), (2, .int x2_5), (3, .int x3_5)] → W p l e (headSpec wsX3_singleReferenceTo ({ frames := 0, cells := 0, slots := 0, locals := 0 } : Room)).room s m ([.ref a_w, .int x1] : List Value).toArray below meth c H locs 0 0 (MQ below (kQ (some (.int r)) True (fun _ => True) noA) ([.ref a_w, .int x1] : List Value).toArray s 0 0 noA) (F0 m 5 ls []) := by
    intro n
    induction n with
    | zero => intro x2_5 x3_5 H locs ls h1; exact (it_0 h1).elim
    | succ n ih_5 =>
      intro x2_5 x3_5 H locs ls h1 hP hS hl
      obtain ⟨t_5, h1, k1⟩ := it2_inv h1
      unfold L_X3_singleReferenceTo_5 at h1
      refine lv_iload_n hx hb dX3_singleReferenceTo_5 rfl (lv_at hl 3 rfl) ?_
      refine lv_aload_n hx hb dX3_singleReferenceTo_6 rfl (lv_at hl 0 rfl) ?_
      refine va_get (D := (dC, dI)) (ci := 3) (v := .int w_references) (C := RX3) (T := TX3) (N := 7) hx hb hts kin_X3_singleReferenceTo_X3 hown hK hP 0 rfl rfl 1 (Nat.le_of_ble_eq_true rfl) (hts (.fieldLink RX3 15 "OwnedThings$Web" "references" "I") (List.mem_of_getElem? (i := 1) rfl)) (fun _ h9 => h9) rfl dX3_singleReferenceTo_7 ?_
      refine lv_icmp_ge (tgt := 40) hx hb dX3_singleReferenceTo_10 (by decide) (fun c_10 => ?_) (fun c_10 => ?_)
      · have h1 := hp_pos c_10 h1
        cases h1
        obtain rfl := pj1 k1
        exact after_5 _ h _ _ _ hP hS (lv_sub hl [2] rfl)
      · have h1 := hp_neg c_10 h1
        refine lv_aload_n hx hb dX3_singleReferenceTo_13 rfl (lv_at hl 0 rfl) ?_
        refine va_get (D := (dC, dI)) (ci := 3) (v := .ref a_w_to) (C := RX3) (T := TX3) (N := 7) hx hb hts kin_X3_singleReferenceTo_X3 hown hK hP 0 rfl rfl 5 (Nat.le_of_ble_eq_true rfl) (hts (.fieldLink RX3 28 "OwnedThings$Web" "to" "[I") (List.mem_of_getElem? (i := 2) rfl)) (fun _ h9 => h9) rfl dX3_singleReferenceTo_14 ?_
        refine lv_iload_n hx hb dX3_singleReferenceTo_17 rfl (lv_at hl 3 rfl) ?_
        have g_18 := hg_no h1
        have h1 := hg_yes h1
        refine va_iald (D := (dC, dI)) hx hb hK hP 1 0 rfl rfl g_18 dX3_singleReferenceTo_18 ?_
        refine lv_iload_n hx hb dX3_singleReferenceTo_19 rfl (lv_at hl 1 rfl) ?_
        refine lv_icmp_ne (tgt := 34) hx hb dX3_singleReferenceTo_20 (by decide) (fun c_20 => ?_) (fun c_20 => ?_)
        · have h1 := hp_neg c_20 h1
          refine lv_iinc (v := (x3_5 + (1 : Int32))) (lv' := [(3, .int (x3_5 + (1 : Int32))), (0, .ref a_w), (1, .int x1), (2, .int x2_5)]) hx hb dX3_singleReferenceTo_34 hl (k := 3) rfl rfl (by decide) rfl (fun ls hl => ?_)
          refine lv_goto (tgt := 5) hx hb dX3_singleReferenceTo_37 (by decide) ?_
          cases h1
          exact ih_5 _ _ _ _ _ k1 hP hS (lv_sub hl [1, 2, 3, 0] rfl)
        · have h1 := hp_pos c_20 h1
          refine lv_iload_n hx hb dX3_singleReferenceTo_23 rfl (lv_at hl 2 rfl) ?_
          refine lv_bipush (v := -9) hx hb dX3_singleReferenceTo_24 (by decide) ?_
          refine lv_icmp_eq (tgt := 32) hx hb dX3_singleReferenceTo_26 (by decide) (fun c_26 => ?_) (fun c_26 => ?_)
          · have h1 := hp_pos c_26 h1
            refine lv_iload_n hx hb dX3_singleReferenceTo_32 rfl (lv_at hl 3 rfl) ?_
            refine lv_istore_n (lv' := [(2, .int x3_5), (0, .ref a_w), (1, .int x1), (3, .int x3_5)]) hx hb dX3_singleReferenceTo_33 rfl hl (by decide) rfl (fun ls hl => ?_)
            refine lv_iinc (v := (x3_5 + (1 : Int32))) (lv' := [(3, .int (x3_5 + (1 : Int32))), (2, .int x3_5), (0, .ref a_w), (1, .int x1)]) hx hb dX3_singleReferenceTo_34 hl (k := 3) rfl rfl (by decide) rfl (fun ls hl => ?_)
            refine lv_goto (tgt := 5) hx hb dX3_singleReferenceTo_37 (by decide) ?_
            cases h1
            exact ih_5 _ _ _ _ _ k1 hP hS (lv_sub hl [2, 3, 1, 0] rfl)
          · have h1 := hp_neg c_26 h1
            refine lv_bipush (v := -9) hx hb dX3_singleReferenceTo_29 (by decide) ?_
            cases h1
            obtain rfl := pj1 k1
            have h := congrArg some h
            obtain rfl := Option.some.inj h
            exact W.iret hx hb hr (fun t ht _ => kQ.mk ht trivial trivial (hS.F ht)) hS.2.2 dX3_singleReferenceTo_31
  exact lp_5 FUEL _ _ _ _ _ i_5 hP hS (lv_sub hl [2, 3, 1, 0] rfl)
theorem kin_X3_handOn_X3 : ∀ w ∈ wsX30, w ∈ wsX3_handOn := fun _ h => List.mem_cons_of_mem _ (List.mem_append_right _ h)
theorem khd_X3_handOn : yX3_handOn.cls = RX3 ∧ yX3_handOn.cls ≠ "java/lang/invoke/MethodHandle" ∧ yX3_handOn.cls ≠ "java/lang/invoke/VarHandle" ∧ (parseMethodDescriptor yX3_handOn.desc).map (fun d => d.parameters.length) = some 2 := by decide +kernel
set_option maxHeartbeats 8000000 in
set_option maxRecDepth 100000 in
theorem c_X3_handOn (l : Launch) (dC : Nat → ClassId) (dI : Nat → Nat → Nat) (cI cS : ClassId) (a_w : Nat) (a_w_kind : Nat) (a_w_owner : Nat) (a_w_from : Nat) (a_w_to : Nat) (a_w_away : Nat) (w_count : Int32) (w_references : Int32) (w_owner : Nat → Int32) (w_from : Nat → Int32) (w_to : Nat → Int32) (x1 : Int32) (x2 : Int32) (r : Int32) (z_w_owner : Nat → Int32) (z_w_from : Nat → Int32) (h : f_X3_handOn w_count w_references w_owner w_from w_to x1 x2 = some (r, z_w_owner, z_w_from)) : Mk l yX3_handOn wsX3_handOn ({ frames := 2, cells := 0, slots := 0, locals := 45 } : Room) (dC, dI) cI cS [(a_w, .inr (3, [.int w_count, .int w_references, .ref a_w_kind, .ref a_w_owner, .ref a_w_from, .ref a_w_to, .ref a_w_away])), (a_w_owner, .inl (cI, 6, .inl w_owner)), (a_w_from, .inl (cI, 12, .inl w_from)), (a_w_to, .inl (cI, 12, .inl w_to))] [.ref a_w, .int x1, .int x2] (some (.int r)) True (fun H => va_P (dC, dI) vwCl [(a_w, .inr (3, [.int w_count, .int w_references, .ref a_w_kind, .ref a_w_owner, .ref a_w_from, .ref a_w_to, .ref a_w_away])), (a_w_owner, .inl (cI, 6, .inl z_w_owner)), (a_w_from, .inl (cI, 12, .inl z_w_from)), (a_w_to, .inl (cI, 12, .inl w_to))] H) (inA (List.map Prod.fst ([(a_w, .inr (3, [.int w_count, .int w_references, .ref a_w_kind, .ref a_w_owner, .ref a_w_from, .ref a_w_to, .ref a_w_away])), (a_w_owner, .inl (cI, 6, .inl w_owner)), (a_w_from, .inl (cI, 12, .inl w_from)), (a_w_to, .inl (cI, 12, .inl w_to))] : va_W))) := by
  refine Met.ofW (cc := cX3_handOn) (maxL := 5) (ret := (some .int)) (by decide) rfl ?_
  intro p e s m args below meth c s₁ B hml hv
  obtain ⟨rfl, hP, hK, hN, hD⟩ := hv
  have hx := B.exec
  have hb := B.bytes
  have hr := B.returns
  have hts := atoms_spec (ws := wsX3_handOn) B.pre
  have hown : s.vm.findClass RX3 = some m.cls := findClass_of_methodNamed B.named
  have hlocks := B.notSynchronized
  have hS : va_S (inA [a_w, a_w_owner, a_w_from, a_w_to]) s.heap s.heap [] := va_S.rf
  have hP : va_P (dC, dI) vwCl [(a_w, .inr (3, [.int w_count, .int w_references, .ref a_w_kind, .ref a_w_owner, .ref a_w_from, .ref a_w_to, .ref a_w_away])), (a_w_owner, .inl (cI, 6, .inl w_owner)), (a_w_from, .inl (cI, 12, .inl w_from)), (a_w_to, .inl (cI, 12, .inl w_to))] s.heap := hP
  have hD : va_D (inA [a_w, a_w_owner, a_w_from, a_w_to]) [(a_w, .inr (3, [.int w_count, .int w_references, .ref a_w_kind, .ref a_w_owner, .ref a_w_from, .ref a_w_to, .ref a_w_away])), (a_w_owner, .inl (cI, 6, .inl w_owner)), (a_w_from, .inl (cI, 12, .inl w_from)), (a_w_to, .inl (cI, 12, .inl w_to))] := va_D_in hD rfl
  have hl := lv_entry ([.ref a_w, .int x1, .int x2]) (n := 5) (Nat.le_of_ble_eq_true rfl)
  rw [lg_entry_eq]
  generalize (lg_sl ([.ref a_w, .int x1, .int x2]) ++ List.replicate (5 - (lg_sl ([.ref a_w, .int x1, .int x2])).length) Slot.unset).toArray = ls at hl ⊢
  have hl : lv_has ls 5 [(0, .ref a_w), (1, .int x1), (2, .int x2)] := hl
  unfold f_X3_handOn at h
  refine lv_aload_n hx hb dX3_handOn_0 rfl (lv_at hl 0 rfl) ?_
  refine lv_iload_n hx hb dX3_handOn_1 rfl (lv_at hl 1 rfl) ?_
  obtain ⟨r_2, e_2, h⟩ := ob1_inv h
  refine k_pVi (i0 := 0) (rest := []) ⟨hx, hb, hml, hown, hts⟩ (c_X3_isThing l dC dI cI cS a_w a_w_kind a_w_owner a_w_from a_w_to a_w_away w_count w_references x1 r_2 e_2) (cwV 1 hts gX3_handOn_X3_isThing rfl rfl rfl khd_X3_isThing ⟨Nat.le_of_ble_eq_true rfl, Nat.le_of_ble_eq_true rfl⟩) hK hN hP (va_D_fst hD rfl) hS [0] rfl rfl rfl rfl rfl rfl hl.1 rfl (Nat.le_of_ble_eq_true rfl) dX3_handOn_2 ⟨Nat.zero_le _, Nat.zero_le _⟩ (fun H locs hf_2 hP hS => ?_)
  refine lv_if_eq (tgt := 21) hx hb dX3_handOn_5 (by decide) (fun c_5 => ?_) (fun c_5 => ?_)
  · have h := hp_pos c_5 h
    refine lv_iconst (v := -1) hx hb dX3_handOn_21 (by decide) ?_
    obtain ⟨rfl, rfl, rfl⟩ := pj3 (Option.some.inj h)
    exact W.iret hx hb hr (fun t ht _ => kQ.mk ht hP trivial (hS.F ht)) hS.2.2 dX3_handOn_22
  · have h := hp_neg c_5 h
    refine lv_aload_n hx hb dX3_handOn_8 rfl (lv_at hl 0 rfl) ?_
    refine lv_iload_n hx hb dX3_handOn_9 rfl (lv_at hl 2 rfl) ?_
    obtain ⟨r_10, e_10, h⟩ := ob1_inv h
    refine k_pVi (i0 := 0) (rest := []) ⟨hx, hb, hml, hown, hts⟩ (c_X3_isThing l dC dI cI cS a_w a_w_kind a_w_owner a_w_from a_w_to a_w_away w_count w_references x2 r_10 e_10) (cwV 1 hts gX3_handOn_X3_isThing rfl rfl rfl khd_X3_isThing ⟨Nat.le_of_ble_eq_true rfl, Nat.le_of_ble_eq_true rfl⟩) hK hN hP (va_D_fst hD rfl) hS [0] rfl rfl rfl rfl rfl rfl hl.1 rfl (Nat.le_of_ble_eq_true rfl) dX3_handOn_10 ⟨Nat.zero_le _, Nat.zero_le _⟩ (fun H locs hf_10 hP hS => ?_)
    refine lv_if_eq (tgt := 21) hx hb dX3_handOn_13 (by decide) (fun c_13 => ?_) (fun c_13 => ?_)
    · have h := hp_pos c_13 h
      refine lv_iconst (v := -1) hx hb dX3_handOn_21 (by decide) ?_
      obtain ⟨rfl, rfl, rfl⟩ := pj3 (Option.some.inj h)
      exact W.iret hx hb hr (fun t ht _ => kQ.mk ht hP trivial (hS.F ht)) hS.2.2 dX3_handOn_22
    · have h := hp_neg c_13 h
      refine lv_iload_n hx hb dX3_handOn_16 rfl (lv_at hl 1 rfl) ?_
      refine lv_iload_n hx hb dX3_handOn_17 rfl (lv_at hl 2 rfl) ?_
      refine lv_icmp_ne (tgt := 23) hx hb dX3_handOn_18 (by decide) (fun c_18 => ?_) (fun c_18 => ?_)
      · have h := hp_neg c_18 h
        refine lv_aload_n hx hb dX3_handOn_23 rfl (lv_at hl 0 rfl) ?_
        refine lv_iload_n hx hb dX3_handOn_24 rfl (lv_at hl 1 rfl) ?_
        obtain ⟨r_25, e_25, h⟩ := ob1_inv h
        refine k_pVi (i0 := 0) (rest := []) ⟨hx, hb, hml, hown, hts⟩ (c_X3_singleReferenceTo l dC dI cI cS a_w a_w_kind a_w_owner a_w_from a_w_to a_w_away w_count w_references w_to x1 r_25 e_25) (cwV 1 hts gX3_handOn_X3_singleReferenceTo rfl rfl rfl khd_X3_singleReferenceTo ⟨Nat.le_of_ble_eq_true rfl, Nat.le_of_ble_eq_true rfl⟩) hK hN hP (va_D_fst hD rfl) hS [0, 3] rfl rfl rfl rfl rfl rfl hl.1 rfl (Nat.le_of_ble_eq_true rfl) dX3_handOn_25 ⟨Nat.zero_le _, Nat.zero_le _⟩ (fun H locs hf_25 hP hS => ?_)
        refine lv_istore_n (lv' := [(3, .int r_25), (0, .ref a_w), (1, .int x1), (2, .int x2)]) hx hb dX3_handOn_28 rfl hl (by decide) rfl (fun ls hl => ?_)
        refine lv_aload_n hx hb dX3_handOn_29 rfl (lv_at hl 1 rfl) ?_
        refine lv_iload_n hx hb dX3_handOn_30 rfl (lv_at hl 3 rfl) ?_
        refine lv_iload_n hx hb dX3_handOn_31 rfl (lv_at hl 2 rfl) ?_
        obtain ⟨r_32, e_32, h⟩ := ob1_inv h
        refine k_pVi (i0 := 0) (rest := []) ⟨hx, hb, hml, hown, hts⟩ (c_X3_isUnder l dC dI cI cS a_w a_w_kind a_w_owner a_w_from a_w_to a_w_away w_count w_references w_owner x2 x1 r_32 e_32) (cwV 2 hts gX3_handOn_X3_isUnder rfl rfl rfl khd_X3_isUnder ⟨Nat.le_of_ble_eq_true rfl, Nat.le_of_ble_eq_true rfl⟩) hK hN hP (va_D_fst hD rfl) hS [0, 1] rfl rfl rfl rfl rfl rfl hl.1 rfl (Nat.le_of_ble_eq_true rfl) dX3_handOn_32 ⟨Nat.zero_le _, Nat.zero_le _⟩ (fun H locs hf_32 hP hS => ?_)
        refine lv_if_ne (tgt := 54) hx hb dX3_handOn_35 (by decide) (fun c_35 => ?_) (fun c_35 => ?_)
        · have h := hp_neg c_35 h
          refine lv_bipush (v := -3) hx hb dX3_handOn_54 (by decide) ?_
          obtain ⟨rfl, rfl, rfl⟩ := pj3 (Option.some.inj h)
          exact W.iret hx hb hr (fun t ht _ => kQ.mk ht hP trivial (hS.F ht)) hS.2.2 dX3_handOn_56
        · have h := hp_pos c_35 h
          refine lv_iload_n hx hb dX3_handOn_38 rfl (lv_at hl 0 rfl) ?_
          refine lv_bipush (v := -9) hx hb dX3_handOn_39 (by decide) ?_
          refine lv_icmp_eq (tgt := 54) hx hb dX3_handOn_41 (by decide) (fun c_41 => ?_) (fun c_41 => ?_)
          · have h := hp_pos c_41 h
            refine lv_bipush (v := -3) hx hb dX3_handOn_54 (by decide) ?_
            obtain ⟨rfl, rfl, rfl⟩ := pj3 (Option.some.inj h)
            exact W.iret hx hb hr (fun t ht _ => kQ.mk ht hP trivial (hS.F ht)) hS.2.2 dX3_handOn_56
          · have h := hp_neg c_41 h
            refine lv_aload_n hx hb dX3_handOn_44 rfl (lv_at hl 1 rfl) ?_
            refine va_get (D := (dC, dI)) (ci := 3) (v := .ref a_w_from) (C := RX3) (T := TX3) (N := 7) hx hb hts kin_X3_handOn_X3 hown hK hP 0 rfl rfl 4 (Nat.le_of_ble_eq_true rfl) (hts (.fieldLink RX3 25 "OwnedThings$Web" "from" "[I") (List.mem_of_getElem? (i := 1) rfl)) (fun _ h9 => h9) rfl dX3_handOn_45 ?_
            refine lv_iload_n hx hb dX3_handOn_48 rfl (lv_at hl 0 rfl) ?_
            have g_49 := hg_no h
            have h := hg_yes h
            refine va_iald (D := (dC, dI)) hx hb hK hP 2 0 rfl rfl g_49 dX3_handOn_49 ?_
            refine lv_iload_n hx hb dX3_handOn_50 rfl (lv_at hl 3 rfl) ?_
            refine lv_icmp_ne (tgt := 57) hx hb dX3_handOn_51 (by decide) (fun c_51 => ?_) (fun c_51 => ?_)
            · have h := hp_neg c_51 h
              refine lv_aload_n hx hb dX3_handOn_57 rfl (lv_at hl 1 rfl) ?_
              refine va_get (D := (dC, dI)) (ci := 3) (v := .ref a_w_from) (C := RX3) (T := TX3) (N := 7) hx hb hts kin_X3_handOn_X3 hown hK hP 0 rfl rfl 4 (Nat.le_of_ble_eq_true rfl) (hts (.fieldLink RX3 25 "OwnedThings$Web" "from" "[I") (List.mem_of_getElem? (i := 1) rfl)) (fun _ h9 => h9) rfl dX3_handOn_58 ?_
              refine lv_iload_n hx hb dX3_handOn_61 rfl (lv_at hl 0 rfl) ?_
              have g_62 := hg_no h
              have h := hg_yes h
              refine va_iald (D := (dC, dI)) hx hb hK hP 2 0 rfl rfl g_62 dX3_handOn_62 ?_
              refine lv_istore (lv' := [(4, .int (w_from r_25.toNatClampNeg)), (3, .int r_25), (0, .ref a_w), (1, .int x1), (2, .int x2)]) hx hb dX3_handOn_63 hl (by decide) rfl (fun ls hl => ?_)
              refine lv_aload_n hx hb dX3_handOn_65 rfl (lv_at hl 2 rfl) ?_
              refine va_get (D := (dC, dI)) (ci := 3) (v := .ref a_w_from) (C := RX3) (T := TX3) (N := 7) hx hb hts kin_X3_handOn_X3 hown hK hP 0 rfl rfl 4 (Nat.le_of_ble_eq_true rfl) (hts (.fieldLink RX3 25 "OwnedThings$Web" "from" "[I") (List.mem_of_getElem? (i := 1) rfl)) (fun _ h9 => h9) rfl dX3_handOn_66 ?_
              refine lv_iload_n hx hb dX3_handOn_69 rfl (lv_at hl 1 rfl) ?_
              refine lv_iload_n hx hb dX3_handOn_70 rfl (lv_at hl 4 rfl) ?_
              have g_71 := hg_no h
              have h := hg_yes h
              refine va_iast (D := (dC, dI)) hx hb hK hP (va_D_fst hD rfl) hS 2 0 rfl rfl g_71 dX3_handOn_71 (fun H locs hP _ hS => ?_)
              have hP : va_P (dC, dI) vwCl [(a_w, .inr (3, [.int w_count, .int w_references, .ref a_w_kind, .ref a_w_owner, .ref a_w_from, .ref a_w_to, .ref a_w_away])), (a_w_owner, .inl (cI, 6, .inl w_owner)), (a_w_from, .inl (cI, 12, .inl (upd w_from r_25.toNatClampNeg x2))), (a_w_to, .inl (cI, 12, .inl w_to))] H := hP
              refine lv_aload_n hx hb dX3_handOn_72 rfl (lv_at hl 2 rfl) ?_
              refine va_get (D := (dC, dI)) (ci := 3) (v := .ref a_w_owner) (C := RX3) (T := TX3) (N := 7) hx hb hts kin_X3_handOn_X3 hown hK hP 0 rfl rfl 3 (Nat.le_of_ble_eq_true rfl) (hts (.fieldLink RX3 22 "OwnedThings$Web" "owner" "[I") (List.mem_of_getElem? (i := 2) rfl)) (fun _ h9 => h9) rfl dX3_handOn_73 ?_
              refine lv_iload_n hx hb dX3_handOn_76 rfl (lv_at hl 3 rfl) ?_
              refine lv_iload_n hx hb dX3_handOn_77 rfl (lv_at hl 4 rfl) ?_
              have g_78 := hg_no h
              have h := hg_yes h
              refine va_iast (D := (dC, dI)) hx hb hK hP (va_D_fst hD rfl) hS 1 0 rfl rfl g_78 dX3_handOn_78 (fun H locs hP _ hS => ?_)
              have hP : va_P (dC, dI) vwCl [(a_w, .inr (3, [.int w_count, .int w_references, .ref a_w_kind, .ref a_w_owner, .ref a_w_from, .ref a_w_to, .ref a_w_away])), (a_w_owner, .inl (cI, 6, .inl (upd w_owner x1.toNatClampNeg x2))), (a_w_from, .inl (cI, 12, .inl (upd w_from r_25.toNatClampNeg x2))), (a_w_to, .inl (cI, 12, .inl w_to))] H := hP
              refine lv_iload hx hb dX3_handOn_79 (lv_at hl 0 rfl) ?_
              obtain ⟨rfl, rfl, rfl⟩ := pj3 (Option.some.inj h)
              exact W.iret hx hb hr (fun t ht _ => kQ.mk ht hP trivial (hS.F ht)) hS.2.2 dX3_handOn_81
            · have h := hp_pos c_51 h
              refine lv_bipush (v := -3) hx hb dX3_handOn_54 (by decide) ?_
              obtain ⟨rfl, rfl, rfl⟩ := pj3 (Option.some.inj h)
              exact W.iret hx hb hr (fun t ht _ => kQ.mk ht hP trivial (hS.F ht)) hS.2.2 dX3_handOn_56
      · have h := hp_pos c_18 h
        refine lv_iconst (v := -1) hx hb dX3_handOn_21 (by decide) ?_
        obtain ⟨rfl, rfl, rfl⟩ := pj3 (Option.some.inj h)
        exact W.iret hx hb hr (fun t ht _ => kQ.mk ht hP trivial (hS.F ht)) hS.2.2 dX3_handOn_22
theorem kin_X3_levelOf_X3 : ∀ w ∈ wsX30, w ∈ wsX3_levelOf := fun _ h => List.mem_cons_of_mem _ (List.mem_append_right _ h)
theorem khd_X3_levelOf : yX3_levelOf.cls = RX3 ∧ yX3_levelOf.cls ≠ "java/lang/invoke/MethodHandle" ∧ yX3_levelOf.cls ≠ "java/lang/invoke/VarHandle" ∧ (parseMethodDescriptor yX3_levelOf.desc).map (fun d => d.parameters.length) = some 1 := by decide +kernel
set_option maxHeartbeats 8000000 in
set_option maxRecDepth 100000 in
theorem c_X3_levelOf (l : Launch) (dC : Nat → ClassId) (dI : Nat → Nat → Nat) (cI cS : ClassId) (a_w : Nat) (a_w_kind : Nat) (a_w_owner : Nat) (a_w_from : Nat) (a_w_to : Nat) (a_w_away : Nat) (w_count : Int32) (w_references : Int32) (w_owner : Nat → Int32) (x1 : Int32) (r : Int32) (h : f_X3_levelOf w_count w_owner x1 = some r) : Mk l yX3_levelOf wsX3_levelOf ({ frames := 1, cells := 0, slots := 0, locals := 21 } : Room) (dC, dI) cI cS [(a_w, .inr (3, [.int w_count, .int w_references, .ref a_w_kind, .ref a_w_owner, .ref a_w_from, .ref a_w_to, .ref a_w_away])), (a_w_owner, .inl (cI, 6, .inl w_owner))] [.ref a_w, .int x1] (some (.int r)) True (fun _ => True) noA := by
  refine Met.ofW (cc := cX3_levelOf) (maxL := 5) (ret := (some .int)) (by decide) rfl ?_
  intro p e s m args below meth c s₁ B hml hv
  obtain ⟨rfl, hP, hK, hN, hD⟩ := hv
  have hx := B.exec
  have hb := B.bytes
  have hr := B.returns
  have hts := atoms_spec (ws := wsX3_levelOf) B.pre
  have hown : s.vm.findClass RX3 = some m.cls := findClass_of_methodNamed B.named
  have hlocks := B.notSynchronized
  have hS : va_S noA s.heap s.heap [] := va_S.rf
  have hP : va_P (dC, dI) vwCl [(a_w, .inr (3, [.int w_count, .int w_references, .ref a_w_kind, .ref a_w_owner, .ref a_w_from, .ref a_w_to, .ref a_w_away])), (a_w_owner, .inl (cI, 6, .inl w_owner))] s.heap := hP
  have hl := lv_entry ([.ref a_w, .int x1]) (n := 5) (Nat.le_of_ble_eq_true rfl)
  rw [lg_entry_eq]
  generalize (lg_sl ([.ref a_w, .int x1]) ++ List.replicate (5 - (lg_sl ([.ref a_w, .int x1])).length) Slot.unset).toArray = ls at hl ⊢
  have hl : lv_has ls 5 [(0, .ref a_w), (1, .int x1)] := hl
  unfold f_X3_levelOf at h
  refine lv_iconst (v := 0) hx hb dX3_levelOf_0 (by decide) ?_
  refine lv_istore_n (lv' := [(2, .int (0 : Int32)), (0, .ref a_w), (1, .int x1)]) hx hb dX3_levelOf_1 rfl hl (by decide) rfl (fun ls hl => ?_)
  refine lv_iload_n hx hb dX3_levelOf_2 rfl (lv_at hl 2 rfl) ?_
  refine lv_istore_n (lv' := [(3, .int x1), (2, .int (0 : Int32)), (0, .ref a_w), (1, .int x1)]) hx hb dX3_levelOf_3 rfl hl (by decide) rfl (fun ls hl => ?_)
  refine lv_iconst (v := 0) hx hb dX3_levelOf_4 (by decide) ?_
  refine lv_istore (lv' := [(4, .int (0 : Int32)), (3, .int x1), (2, .int (0 : Int32)), (0, .ref a_w), (1, .int x1)]) hx hb dX3_levelOf_5 hl (by decide) rfl (fun ls hl => ?_)
  obtain ⟨y2_7, i_7, h⟩ := ob1_inv h
  have after_7 : ∀ (H : Heap) (locs : List Loc) (ls : Array Slot), va_P (dC, dI) vwCl [(a_w, .inr (3, [.int w_count, .int w_references, .ref a_w_kind, .ref a_w_owner, .ref a_w_from, .ref a_w_to, .ref a_w_away])), (a_w_owner, .inl (cI, 6, .inl w_owner))] H → va_S noA s.heap H locs → lv_has ls 5 [(2, .int y2_7)] → W p l e (headSpec wsX3_levelOf ({ frames := 1, cells := 0, slots := 0, locals := 21 } : Room)).room s m ([.ref a_w, .int x1] : List Value).toArray below meth c H locs 0 0 (MQ below (kQ (some (.int r)) True (fun _ => True) noA) ([.ref a_w, .int x1] : List Value).toArray s 0 0 noA) (F0 m 38 ls []) := by
    intro H locs ls hP hS hl
    refine lv_iload_n hx hb dX3_levelOf_38 rfl (lv_at hl 0 rfl) ?_
    obtain rfl := Option.some.inj h
    exact W.iret hx hb hr (fun t ht _ => kQ.mk ht trivial trivial (hS.F ht)) hS.2.2 dX3_levelOf_39
  have lp_7 : ∀ (n : Nat) (x2_7 : Int32) (x3_7 : Int32) (x4_7 : Int32) (H : Heap) (locs : List Loc) (ls : Array Slot), it (u3 (L_X3_levelOf_7 w_count w_owner)) n (x2_7, x3_7, x4_7) = some y2_7 → va_P (dC, dI) vwCl [(a_w, .inr (3, [.int w_count, .int w_references, .ref a_w_kind, .ref a_w_owner, .ref a_w_from, .ref a_w_to, .ref a_w_away])), (a_w_owner, .inl (cI, 6, .inl w_owner))] H → va_S noA s.heap H locs → lv_has ls 5 [(0, .ref a_w), (2, .int x2_7), (3, .int x3_7), (4, .int x4_7)] → W p l e (headSpec wsX3_levelOf ({ frames := 1, cells := 0, slots := 0, locals := 21 } : Room)).room s m ([.ref a_w, .int x1] : List Value).toArray below meth c H locs 0 0 (MQ below (kQ (some (.int r)) True (fun _ => True) noA) ([.ref a_w, .int x1] : List Value).toArray s 0 0 noA) (F0 m 7 ls []) := by
    intro n
    induction n with
    | zero => intro x2_7 x3_7 x4_7 H locs ls h1; exact (it_0 h1).elim
    | succ n ih_7 =>
      intro x2_7 x3_7 x4_7 H locs ls h1 hP hS hl
      obtain ⟨t_7, h1, k1⟩ := it3_inv h1
      unfold L_X3_levelOf_7 at h1
      refine lv_iload hx hb dX3_levelOf_7 (lv_at hl 3 rfl) ?_
      refine lv_bipush (v := 6) hx hb dX3_levelOf_9 (by decide) ?_
      refine lv_icmp_ge (tgt := 38) hx hb dX3_levelOf_11 (by decide) (fun c_11 => ?_) (fun c_11 => ?_)
      · have h1 := hp_pos c_11 h1
        cases h1
        obtain rfl := pj1 k1
        exact after_7 _ _ _ hP hS (lv_sub hl [1] rfl)
      · have h1 := hp_neg c_11 h1
        refine lv_aload_n hx hb dX3_levelOf_14 rfl (lv_at hl 0 rfl) ?_
        refine lv_iload_n hx hb dX3_levelOf_15 rfl (lv_at hl 2 rfl) ?_
        obtain ⟨r_16, e_16, h1⟩ := ob1_inv h1
        refine k_pVi (i0 := 0) (rest := []) ⟨hx, hb, hml, hown, hts⟩ (c_X3_isThing l dC dI cI cS a_w a_w_kind a_w_owner a_w_from a_w_to a_w_away w_count w_references x3_7 r_16 e_16) (cwV 1 hts gX3_levelOf_X3_isThing rfl rfl rfl khd_X3_isThing ⟨Nat.le_of_ble_eq_true rfl, Nat.le_of_ble_eq_true rfl⟩) hK hN hP (va_D_fst hD rfl) hS [0] rfl rfl rfl rfl rfl rfl hl.1 rfl (Nat.le_of_ble_eq_true rfl) dX3_levelOf_16 ⟨Nat.zero_le _, Nat.zero_le _⟩ (fun H locs hf_16 hP hS => ?_)
        refine lv_if_eq (tgt := 38) hx hb dX3_levelOf_19 (by decide) (fun c_19 => ?_) (fun c_19 => ?_)
        · have h1 := hp_pos c_19 h1
          cases h1
          obtain rfl := pj1 k1
          exact after_7 _ _ _ hP hS (lv_sub hl [1] rfl)
        · have h1 := hp_neg c_19 h1
          refine lv_aload_n hx hb dX3_levelOf_22 rfl (lv_at hl 0 rfl) ?_
          refine va_get (D := (dC, dI)) (ci := 3) (v := .ref a_w_owner) (C := RX3) (T := TX3) (N := 7) hx hb hts kin_X3_levelOf_X3 hown hK hP 0 rfl rfl 3 (Nat.le_of_ble_eq_true rfl) (hts (.fieldLink RX3 22 "OwnedThings$Web" "owner" "[I") (List.mem_of_getElem? (i := 1) rfl)) (fun _ h9 => h9) rfl dX3_levelOf_23 ?_
          refine lv_iload_n hx hb dX3_levelOf_26 rfl (lv_at hl 2 rfl) ?_
          have g_27 := hg_no h1
          have h1 := hg_yes h1
          refine va_iald (D := (dC, dI)) hx hb hK hP 1 0 rfl rfl g_27 dX3_levelOf_27 ?_
          refine lv_istore_n (lv' := [(3, .int (w_owner x3_7.toNatClampNeg)), (0, .ref a_w), (2, .int x2_7), (4, .int x4_7)]) hx hb dX3_levelOf_28 rfl hl (by decide) rfl (fun ls hl => ?_)
          refine lv_iinc (v := (x2_7 + (1 : Int32))) (lv' := [(2, .int (x2_7 + (1 : Int32))), (3, .int (w_owner x3_7.toNatClampNeg)), (0, .ref a_w), (4, .int x4_7)]) hx hb dX3_levelOf_29 hl (k := 2) rfl rfl (by decide) rfl (fun ls hl => ?_)
          refine lv_iinc (v := (x4_7 + (1 : Int32))) (lv' := [(4, .int (x4_7 + (1 : Int32))), (2, .int (x2_7 + (1 : Int32))), (3, .int (w_owner x3_7.toNatClampNeg)), (0, .ref a_w)]) hx hb dX3_levelOf_32 hl (k := 3) rfl rfl (by decide) rfl (fun ls hl => ?_)
          refine lv_goto (tgt := 7) hx hb dX3_levelOf_35 (by decide) ?_
          cases h1
          exact ih_7 _ _ _ _ _ _ k1 hP hS (lv_sub hl [3, 1, 2, 0] rfl)
  exact lp_7 FUEL _ _ _ _ _ _ i_7 hP hS (lv_sub hl [3, 2, 1, 0] rfl)
theorem kin_X3_lockOf_X3 : ∀ w ∈ wsX30, w ∈ wsX3_lockOf := fun _ h => List.mem_cons_of_mem _ (List.mem_append_right _ h)
theorem khd_X3_lockOf : yX3_lockOf.cls = RX3 ∧ yX3_lockOf.cls ≠ "java/lang/invoke/MethodHandle" ∧ yX3_lockOf.cls ≠ "java/lang/invoke/VarHandle" ∧ (parseMethodDescriptor yX3_lockOf.desc).map (fun d => d.parameters.length) = some 1 := by decide +kernel
set_option maxHeartbeats 8000000 in
set_option maxRecDepth 100000 in
theorem c_X3_lockOf (l : Launch) (dC : Nat → ClassId) (dI : Nat → Nat → Nat) (cI cS : ClassId) (a_w : Nat) (a_w_kind : Nat) (a_w_owner : Nat) (a_w_from : Nat) (a_w_to : Nat) (a_w_away : Nat) (w_count : Int32) (w_references : Int32) (w_kind : Nat → Int32) (w_owner : Nat → Int32) (x1 : Int32) (r : Int32) (h : f_X3_lockOf w_count w_kind w_owner x1 = some r) : Mk l yX3_lockOf wsX3_lockOf ({ frames := 2, cells := 0, slots := 0, locals := 45 } : Room) (dC, dI) cI cS [(a_w, .inr (3, [.int w_count, .int w_references, .ref a_w_kind, .ref a_w_owner, .ref a_w_from, .ref a_w_to, .ref a_w_away])), (a_w_kind, .inl (cI, 6, .inl w_kind)), (a_w_owner, .inl (cI, 6, .inl w_owner))] [.ref a_w, .int x1] (some (.int r)) True (fun _ => True) noA := by
  refine Met.ofW (cc := cX3_lockOf) (maxL := 3) (ret := (some .int)) (by decide) rfl ?_
  intro p e s m args below meth c s₁ B hml hv
  obtain ⟨rfl, hP, hK, hN, hD⟩ := hv
  have hx := B.exec
  have hb := B.bytes
  have hr := B.returns
  have hts := atoms_spec (ws := wsX3_lockOf) B.pre
  have hown : s.vm.findClass RX3 = some m.cls := findClass_of_methodNamed B.named
  have hlocks := B.notSynchronized
  have hS : va_S noA s.heap s.heap [] := va_S.rf
  have hP : va_P (dC, dI) vwCl [(a_w, .inr (3, [.int w_count, .int w_references, .ref a_w_kind, .ref a_w_owner, .ref a_w_from, .ref a_w_to, .ref a_w_away])), (a_w_kind, .inl (cI, 6, .inl w_kind)), (a_w_owner, .inl (cI, 6, .inl w_owner))] s.heap := hP
  have hl := lv_entry ([.ref a_w, .int x1]) (n := 3) (Nat.le_of_ble_eq_true rfl)
  rw [lg_entry_eq]
  generalize (lg_sl ([.ref a_w, .int x1]) ++ List.replicate (3 - (lg_sl ([.ref a_w, .int x1])).length) Slot.unset).toArray = ls at hl ⊢
  have hl : lv_has ls 3 [(0, .ref a_w), (1, .int x1)] := hl
  unfold f_X3_lockOf at h
  refine lv_aload_n hx hb dX3_lockOf_0 rfl (lv_at hl 0 rfl) ?_
  refine lv_iload_n hx hb dX3_lockOf_1 rfl (lv_at hl 1 rfl) ?_
  obtain ⟨r_2, e_2, h⟩ := ob1_inv h
  refine k_pVi (i0 := 0) (rest := []) ⟨hx, hb, hml, hown, hts⟩ (c_X3_levelOf l dC dI cI cS a_w a_w_kind a_w_owner a_w_from a_w_to a_w_away w_count w_references w_owner x1 r_2 e_2) (cwV 1 hts gX3_lockOf_X3_levelOf rfl rfl rfl khd_X3_levelOf ⟨Nat.le_of_ble_eq_true rfl, Nat.le_of_ble_eq_true rfl⟩) hK hN hP (va_D_fst hD rfl) hS [0, 2] rfl rfl rfl rfl rfl rfl hl.1 rfl (Nat.le_of_ble_eq_true rfl) dX3_lockOf_2 ⟨Nat.zero_le _, Nat.zero_le _⟩ (fun H locs hf_2 hP hS => ?_)
  refine lv_istore_n (lv' := [(2, .int r_2), (0, .ref a_w), (1, .int x1)]) hx hb dX3_lockOf_5 rfl hl (by decide) rfl (fun ls hl => ?_)
  refine lv_aload_n hx hb dX3_lockOf_6 rfl (lv_at hl 1 rfl) ?_
  refine lv_iload_n hx hb dX3_lockOf_7 rfl (lv_at hl 2 rfl) ?_
  obtain ⟨r_8, e_8, h⟩ := ob1_inv h
  refine k_pVi (i0 := 0) (rest := []) ⟨hx, hb, hml, hown, hts⟩ (c_X3_kindOf l dC dI cI cS a_w a_w_kind a_w_owner a_w_from a_w_to a_w_away w_count w_references w_kind x1 r_8 e_8) (cwV 1 hts gX3_lockOf_X3_kindOf rfl rfl rfl khd_X3_kindOf ⟨Nat.le_of_ble_eq_true rfl, Nat.le_of_ble_eq_true rfl⟩) hK hN hP (va_D_fst hD rfl) hS [0, 1] rfl rfl rfl rfl rfl rfl hl.1 rfl (Nat.le_of_ble_eq_true rfl) dX3_lockOf_8 ⟨Nat.zero_le _, Nat.zero_le _⟩ (fun H locs hf_8 hP hS => ?_)
  by_cases s_11_1 : r_8 = (1 : Int32)
  · have h := hp_pos s_11_1 h
    refine lv_lookup (off := 25) (tgt := 36) hx hb dX3_lockOf_11 (by decide) (by rw [s_11_1]; rfl) (by decide) ?_
    refine lv_iload_n hx hb dX3_lockOf_36 rfl (lv_at hl 0 rfl) ?_
    refine lv_iconst (v := 1) hx hb dX3_lockOf_37 (by decide) ?_
    refine lv_iadd hx hb dX3_lockOf_38 ?_
    obtain rfl := Option.some.inj h
    exact W.iret hx hb hr (fun t ht _ => kQ.mk ht trivial trivial (hS.F ht)) hS.2.2 dX3_lockOf_39
  have h := hp_neg s_11_1 h
  by_cases s_11_2 : r_8 = (2 : Int32)
  · have h := hp_pos s_11_2 h
    refine lv_lookup (off := 29) (tgt := 40) hx hb dX3_lockOf_11 (by decide) (by rw [s_11_2]; rfl) (by decide) ?_
    refine lv_iconst (v := 2) hx hb dX3_lockOf_40 (by decide) ?_
    refine lv_iload_n hx hb dX3_lockOf_41 rfl (lv_at hl 0 rfl) ?_
    refine lv_imul hx hb dX3_lockOf_42 ?_
    obtain rfl := Option.some.inj h
    exact W.iret hx hb hr (fun t ht _ => kQ.mk ht trivial trivial (hS.F ht)) hS.2.2 dX3_lockOf_43
  have h := hp_neg s_11_2 h
  refine lv_lookup (off := 33) (tgt := 44) hx hb dX3_lockOf_11 (by decide) (by have q0 := ti_ne (z := 1) (by decide) s_11_1; have q1 := ti_ne (z := 2) (by decide) s_11_2; simp [Op.lookupswitch.offset, q0, Ne.symm q0, q1, Ne.symm q1]) (by decide) ?_
  refine lv_iload_n hx hb dX3_lockOf_44 rfl (lv_at hl 0 rfl) ?_
  obtain rfl := Option.some.inj h
  exact W.iret hx hb hr (fun t ht _ => kQ.mk ht trivial trivial (hS.F ht)) hS.2.2 dX3_lockOf_45
theorem kin_X3_greatestLock_X3 : ∀ w ∈ wsX30, w ∈ wsX3_greatestLock := fun _ h => List.mem_cons_of_mem _ (List.mem_append_right _ h)
theorem khd_X3_greatestLock : yX3_greatestLock.cls = RX3 ∧ yX3_greatestLock.cls ≠ "java/lang/invoke/MethodHandle" ∧ yX3_greatestLock.cls ≠ "java/lang/invoke/VarHandle" ∧ (parseMethodDescriptor yX3_greatestLock.desc).map (fun d => d.parameters.length) = some 0 := by decide +kernel
set_option maxHeartbeats 8000000 in
set_option maxRecDepth 100000 in
theorem c_X3_greatestLock (l : Launch) (dC : Nat → ClassId) (dI : Nat → Nat → Nat) (cI cS : ClassId) (a_w : Nat) (a_w_kind : Nat) (a_w_owner : Nat) (a_w_from : Nat) (a_w_to : Nat) (a_w_away : Nat) (w_count : Int32) (w_references : Int32) (w_kind : Nat → Int32) (w_owner : Nat → Int32) (r : Int32) (h : f_X3_greatestLock w_count w_kind w_owner = some r) : Mk l yX3_greatestLock wsX3_greatestLock ({ frames := 3, cells := 0, slots := 0, locals := 67 } : Room) (dC, dI) cI cS [(a_w, .inr (3, [.int w_count, .int w_references, .ref a_w_kind, .ref a_w_owner, .ref a_w_from, .ref a_w_to, .ref a_w_away])), (a_w_kind, .inl (cI, 6, .inl w_kind)), (a_w_owner, .inl (cI, 6, .inl w_owner))] [.ref a_w] (some (.int r)) True (fun _ => True) noA := by
  refine Met.ofW (cc := cX3_greatestLock) (maxL := 3) (ret := (some .int)) (by decide) rfl ?_
  intro p e s m args below meth c s₁ B hml hv
  obtain ⟨rfl, hP, hK, hN, hD⟩ := hv
  have hx := B.exec
  have hb := B.bytes
  have hr := B.returns
  have hts := atoms_spec (ws := wsX3_greatestLock) B.pre
  have hown : s.vm.findClass RX3 = some m.cls := findClass_of_methodNamed B.named
  have hlocks := B.notSynchronized
  have hS : va_S noA s.heap s.heap [] := va_S.rf
  have hP : va_P (dC, dI) vwCl [(a_w, .inr (3, [.int w_count, .int w_references, .ref a_w_kind, .ref a_w_owner, .ref a_w_from, .ref a_w_to, .ref a_w_away])), (a_w_kind, .inl (cI, 6, .inl w_kind)), (a_w_owner, .inl (cI, 6, .inl w_owner))] s.heap := hP
  have hl := lv_entry ([.ref a_w]) (n := 3) (Nat.le_of_ble_eq_true rfl)
  rw [lg_entry_eq]
  generalize (lg_sl ([.ref a_w]) ++ List.replicate (3 - (lg_sl ([.ref a_w])).length) Slot.unset).toArray = ls at hl ⊢
  have hl : lv_has ls 3 [(0, .ref a_w)] := hl
  unfold f_X3_greatestLock at h
  refine lv_iconst (v := 0) hx hb dX3_greatestLock_0 (by decide) ?_
  refine lv_istore_n (lv' := [(1, .int (0 : Int32)), (0, .ref a_w)]) hx hb dX3_greatestLock_1 rfl hl (by decide) rfl (fun ls hl => ?_)
  refine lv_iconst (v := 0) hx hb dX3_greatestLock_2 (by decide) ?_
  refine lv_istore_n (lv' := [(2, .int (0 : Int32)), (1, .int (0 : Int32)), (0, .ref a_w)]) hx hb dX3_greatestLock_3 rfl hl (by decide) rfl (fun ls hl => ?_)
  obtain ⟨y1_4, i_4, h⟩ := ob1_inv h
  have after_4 : ∀ (H : Heap) (locs : List Loc) (ls : Array Slot), va_P (dC, dI) vwCl [(a_w, .inr (3, [.int w_count, .int w_references, .ref a_w_kind, .ref a_w_owner, .ref a_w_from, .ref a_w_to, .ref a_w_away])), (a_w_kind, .inl (cI, 6, .inl w_kind)), (a_w_owner, .inl (cI, 6, .inl w_owner))] H → va_S noA s.heap H locs → lv_has ls 3 [(1, .int y1_4)] → W p l e (headSpec wsX3_greatestLock ({ frames := 3, cells := 0, slots := 0, locals := 67 } : Room)).room s m ([.ref a_w] : List Value).toArray below meth c H locs 0 0 (MQ below (kQ (some (.int r)) True (fun _ => True) noA) ([.ref a_w] : List Value).toArray s 0 0 noA) (F0 m 28 ls []) := by
    intro H locs ls hP hS hl
    refine lv_iload_n hx hb dX3_greatestLock_28 rfl (lv_at hl 0 rfl) ?_
    obtain rfl := Option.some.inj h
    exact W.iret hx hb hr (fun t ht _ => kQ.mk ht trivial trivial (hS.F ht)) hS.2.2 dX3_greatestLock_29
  have lp_4 : ∀ (n : Nat) (x1_4 : Int32) (x2_4 : Int32) (H : Heap) (locs : List Loc) (ls : Array Slot), it (u2 (L_X3_greatestLock_4 w_count w_kind w_owner)) n (x1_4, x2_4) = some y1_4 → va_P (dC, dI) vwCl [(a_w, .inr (3, [.int w_count, .int w_references, .ref a_w_kind, .ref a_w_owner, .ref a_w_from, .ref a_w_to, .ref a_w_away])), (a_w_kind, .inl (cI, 6, .inl w_kind)), (a_w_owner, .inl (cI, 6, .inl w_owner))] H → va_S noA s.heap H locs → lv_has ls 3 [(0, .ref a_w), (1, .int x1_4), (2, .int x2_4)] → W p l e (headSpec wsX3_greatestLock ({ frames := 3, cells := 0, slots := 0, locals := 67 } : Room)).room s m ([.ref a_w] : List Value).toArray below meth c H locs 0 0 (MQ below (kQ (some (.int r)) True (fun _ => True) noA) ([.ref a_w] : List Value).toArray s 0 0 noA) (F0 m 4 ls []) := by
    intro n
    induction n with
    | zero => intro x1_4 x2_4 H locs ls h1; exact (it_0 h1).elim
    | succ n ih_4 =>
      intro x1_4 x2_4 H locs ls h1 hP hS hl
      obtain ⟨t_4, h1, k1⟩ := it2_inv h1
      unfold L_X3_greatestLock_4 at h1
      refine lv_iload_n hx hb dX3_greatestLock_4 rfl (lv_at hl 2 rfl) ?_
      refine lv_aload_n hx hb dX3_greatestLock_5 rfl (lv_at hl 0 rfl) ?_
      refine va_get (D := (dC, dI)) (ci := 3) (v := .int w_count) (C := RX3) (T := TX3) (N := 7) hx hb hts kin_X3_greatestLock_X3 hown hK hP 0 rfl rfl 0 (Nat.le_of_ble_eq_true rfl) (hts (.fieldLink RX3 9 "OwnedThings$Web" "count" "I") (List.mem_of_getElem? (i := 1) rfl)) (fun _ h9 => h9) rfl dX3_greatestLock_6 ?_
      refine lv_icmp_ge (tgt := 28) hx hb dX3_greatestLock_9 (by decide) (fun c_9 => ?_) (fun c_9 => ?_)
      · have h1 := hp_pos c_9 h1
        cases h1
        obtain rfl := pj1 k1
        exact after_4 _ _ _ hP hS (lv_sub hl [1] rfl)
      · have h1 := hp_neg c_9 h1
        refine lv_iload_n hx hb dX3_greatestLock_12 rfl (lv_at hl 1 rfl) ?_
        refine lv_aload_n hx hb dX3_greatestLock_13 rfl (lv_at hl 0 rfl) ?_
        refine lv_iload_n hx hb dX3_greatestLock_14 rfl (lv_at hl 2 rfl) ?_
        obtain ⟨r_15, e_15, h1⟩ := ob1_inv h1
        refine k_pVi (i0 := 0) (rest := [.int x1_4]) ⟨hx, hb, hml, hown, hts⟩ (c_X3_lockOf l dC dI cI cS a_w a_w_kind a_w_owner a_w_from a_w_to a_w_away w_count w_references w_kind w_owner x2_4 r_15 e_15) (cwV 1 hts gX3_greatestLock_X3_lockOf rfl rfl rfl khd_X3_lockOf ⟨Nat.le_of_ble_eq_true rfl, Nat.le_of_ble_eq_true rfl⟩) hK hN hP (va_D_fst hD rfl) hS [0, 1, 2] rfl rfl rfl rfl rfl rfl hl.1 rfl (Nat.le_of_ble_eq_true rfl) dX3_greatestLock_15 ⟨Nat.zero_le _, Nat.zero_le _⟩ (fun H locs hf_15 hP hS => ?_)
        refine va_mmax hx hb (hml.trans hl.1.symm) hown (hts (.methodLink RX3 76 Lib.Math.max.name) (List.mem_of_getElem? (i := 2) rfl)) (hts (.static Lib.Math.max.name) (List.mem_of_getElem? (i := 3) rfl)) (hts (.initialized "java/lang/Math") (List.mem_of_getElem? (i := 4) rfl)) (hts (.code Lib.Math.max.name Lib.Math.max.code 2 (some .int)) (List.mem_of_getElem? (i := 5) rfl)) (Nat.le_of_ble_eq_true rfl) (Nat.le_of_ble_eq_true rfl) (Nat.zero_le _) (Nat.zero_le _) dX3_greatestLock_18 ?_
        refine lv_istore_n (lv' := [(1, .int (if x1_4 < r_15 then r_15 else x1_4)), (0, .ref a_w), (2, .int x2_4)]) hx hb dX3_greatestLock_21 rfl hl (by decide) rfl (fun ls hl => ?_)
        refine lv_iinc (v := (x2_4 + (1 : Int32))) (lv' := [(2, .int (x2_4 + (1 : Int32))), (1, .int (if x1_4 < r_15 then r_15 else x1_4)), (0, .ref a_w)]) hx hb dX3_greatestLock_22 hl (k := 2) rfl rfl (by decide) rfl (fun ls hl => ?_)
        refine lv_goto (tgt := 4) hx hb dX3_greatestLock_25 (by decide) ?_
        cases h1
        exact ih_4 _ _ _ _ _ k1 hP hS (lv_sub hl [2, 1, 0] rfl)
  exact lp_4 FUEL _ _ _ _ _ i_4 hP hS (lv_sub hl [2, 1, 0] rfl)
theorem khd_X4_bit : yX4_bit.cls = RX4 ∧ yX4_bit.cls ≠ "java/lang/invoke/MethodHandle" ∧ yX4_bit.cls ≠ "java/lang/invoke/VarHandle" ∧ (parseMethodDescriptor yX4_bit.desc).map (fun d => d.parameters.length) = some 1 := by decide +kernel
set_option maxHeartbeats 8000000 in
set_option maxRecDepth 100000 in
theorem c_X4_bit (l : Launch) (dC : Nat → ClassId) (dI : Nat → Nat → Nat) (cI cS : ClassId) (x0 : Int32) (r : Int32) (h : f_X4_bit x0 = some r) : Mk l yX4_bit wsX4_bit ({ frames := 0, cells := 0, slots := 0, locals := 0 } : Room) (dC, dI) cI cS [] [.int x0] (some (.int r)) True (fun _ => True) noA := by
  refine Met.ofW (cc := cX4_bit) (maxL := 1) (ret := (some .int)) (by decide) rfl ?_
  intro p e s m args below meth c s₁ B hml hv
  obtain ⟨rfl, hP, hK, hN, hD⟩ := hv
  have hx := B.exec
  have hb := B.bytes
  have hr := B.returns
  have hts := atoms_spec (ws := wsX4_bit) B.pre
  have hown : s.vm.findClass RX4 = some m.cls := findClass_of_methodNamed B.named
  have hlocks := B.notSynchronized
  have hS : va_S noA s.heap s.heap [] := va_S.rf
  have hP : va_P (dC, dI) vwCl [] s.heap := hP
  have hl := lv_entry ([.int x0]) (n := 1) (Nat.le_of_ble_eq_true rfl)
  rw [lg_entry_eq]
  generalize (lg_sl ([.int x0]) ++ List.replicate (1 - (lg_sl ([.int x0])).length) Slot.unset).toArray = ls at hl ⊢
  have hl : lv_has ls 1 [(0, .int x0)] := hl
  unfold f_X4_bit at h
  refine lv_iconst (v := 1) hx hb dX4_bit_0 (by decide) ?_
  refine lv_iload_n hx hb dX4_bit_1 rfl (lv_at hl 0 rfl) ?_
  refine lv_ishl hx hb dX4_bit_2 ?_
  obtain rfl := Option.some.inj h
  exact W.iret hx hb hr (fun t ht _ => kQ.mk ht trivial trivial (hS.F ht)) hS.2.2 dX4_bit_3
theorem khd_X4_holds : yX4_holds.cls = RX4 ∧ yX4_holds.cls ≠ "java/lang/invoke/MethodHandle" ∧ yX4_holds.cls ≠ "java/lang/invoke/VarHandle" ∧ (parseMethodDescriptor yX4_holds.desc).map (fun d => d.parameters.length) = some 2 := by decide +kernel
set_option maxHeartbeats 8000000 in
set_option maxRecDepth 100000 in
theorem c_X4_holds (l : Launch) (dC : Nat → ClassId) (dI : Nat → Nat → Nat) (cI cS : ClassId) (x0 : Int32) (x1 : Int32) (r : Int32) (h : f_X4_holds x0 x1 = some r) : Mk l yX4_holds wsX4_holds ({ frames := 0, cells := 0, slots := 0, locals := 0 } : Room) (dC, dI) cI cS [] [.int x0, .int x1] (some (.int r)) (r = 0 ∨ r = 1) (fun _ => True) noA := by
  refine Met.ofW (cc := cX4_holds) (maxL := 2) (ret := (some .boolean)) (by decide) rfl ?_
  intro p e s m args below meth c s₁ B hml hv
  obtain ⟨rfl, hP, hK, hN, hD⟩ := hv
  have hx := B.exec
  have hb := B.bytes
  have hr := B.returns
  have hts := atoms_spec (ws := wsX4_holds) B.pre
  have hown : s.vm.findClass RX4 = some m.cls := findClass_of_methodNamed B.named
  have hlocks := B.notSynchronized
  have hS : va_S noA s.heap s.heap [] := va_S.rf
  have hP : va_P (dC, dI) vwCl [] s.heap := hP
  have hl := lv_entry ([.int x0, .int x1]) (n := 2) (Nat.le_of_ble_eq_true rfl)
  rw [lg_entry_eq]
  generalize (lg_sl ([.int x0, .int x1]) ++ List.replicate (2 - (lg_sl ([.int x0, .int x1])).length) Slot.unset).toArray = ls at hl ⊢
  have hl : lv_has ls 2 [(0, .int x0), (1, .int x1)] := hl
  unfold f_X4_holds at h
  refine lv_iload_n hx hb dX4_holds_0 rfl (lv_at hl 0 rfl) ?_
  refine lv_iconst (v := 1) hx hb dX4_holds_1 (by decide) ?_
  refine lv_iload_n hx hb dX4_holds_2 rfl (lv_at hl 1 rfl) ?_
  refine lv_ishl hx hb dX4_holds_3 ?_
  refine lv_iand hx hb dX4_holds_4 ?_
  refine lv_if_eq (tgt := 12) hx hb dX4_holds_5 (by decide) (fun c_5 => ?_) (fun c_5 => ?_)
  · have h := hp_pos c_5 h
    refine lv_iconst (v := 0) hx hb dX4_holds_12 (by decide) ?_
    obtain rfl := Option.some.inj h
    exact W.zret hx hb hr (nb01 (Or.inl rfl)) (fun t ht _ => kQ.mk ht trivial (Or.inl rfl) (hS.F ht)) hS.2.2 dX4_holds_13
  · have h := hp_neg c_5 h
    refine lv_iconst (v := 1) hx hb dX4_holds_8 (by decide) ?_
    refine lv_goto (tgt := 13) hx hb dX4_holds_9 (by decide) ?_
    obtain rfl := Option.some.inj h
    exact W.zret hx hb hr (nb01 (Or.inr rfl)) (fun t ht _ => kQ.mk ht trivial (Or.inr rfl) (hS.F ht)) hS.2.2 dX4_holds_13
theorem kin_X3_oneOn_X3 : ∀ w ∈ wsX30, w ∈ wsX3_oneOn := fun _ h => List.mem_cons_of_mem _ (List.mem_append_right _ h)
theorem khd_X3_oneOn : yX3_oneOn.cls = RX3 ∧ yX3_oneOn.cls ≠ "java/lang/invoke/MethodHandle" ∧ yX3_oneOn.cls ≠ "java/lang/invoke/VarHandle" ∧ (parseMethodDescriptor yX3_oneOn.desc).map (fun d => d.parameters.length) = some 1 := by decide +kernel
set_option maxHeartbeats 8000000 in
set_option maxRecDepth 100000 in
theorem c_X3_oneOn (l : Launch) (dC : Nat → ClassId) (dI : Nat → Nat → Nat) (cI cS : ClassId) (a_w : Nat) (a_w_kind : Nat) (a_w_owner : Nat) (a_w_from : Nat) (a_w_to : Nat) (a_w_away : Nat) (w_count : Int32) (w_references : Int32) (w_from : Nat → Int32) (w_to : Nat → Int32) (x1 : Int32) (r : Int32) (h : f_X3_oneOn w_references w_from w_to x1 = some r) : Mk l yX3_oneOn wsX3_oneOn ({ frames := 1, cells := 0, slots := 0, locals := 21 } : Room) (dC, dI) cI cS [(a_w, .inr (3, [.int w_count, .int w_references, .ref a_w_kind, .ref a_w_owner, .ref a_w_from, .ref a_w_to, .ref a_w_away])), (a_w_from, .inl (cI, 12, .inl w_from)), (a_w_to, .inl (cI, 12, .inl w_to))] [.ref a_w, .int x1] (some (.int r)) True (fun _ => True) noA := by
  refine Met.ofW (cc := cX3_oneOn) (maxL := 4) (ret := (some .int)) (by decide) rfl ?_
  intro p e s m args below meth c s₁ B hml hv
  obtain ⟨rfl, hP, hK, hN, hD⟩ := hv
  have hx := B.exec
  have hb := B.bytes
  have hr := B.returns
  have hts := atoms_spec (ws := wsX3_oneOn) B.pre
  have hown : s.vm.findClass RX3 = some m.cls := findClass_of_methodNamed B.named
  have hlocks := B.notSynchronized
  have hS : va_S noA s.heap s.heap [] := va_S.rf
  have hP : va_P (dC, dI) vwCl [(a_w, .inr (3, [.int w_count, .int w_references, .ref a_w_kind, .ref a_w_owner, .ref a_w_from, .ref a_w_to, .ref a_w_away])), (a_w_from, .inl (cI, 12, .inl w_from)), (a_w_to, .inl (cI, 12, .inl w_to))] s.heap := hP
  have hl := lv_entry ([.ref a_w, .int x1]) (n := 4) (Nat.le_of_ble_eq_true rfl)
  rw [lg_entry_eq]
  generalize (lg_sl ([.ref a_w, .int x1]) ++ List.replicate (4 - (lg_sl ([.ref a_w, .int x1])).length) Slot.unset).toArray = ls at hl ⊢
  have hl : lv_has ls 4 [(0, .ref a_w), (1, .int x1)] := hl
  unfold f_X3_oneOn at h
  refine lv_iconst (v := 0) hx hb dX3_oneOn_0 (by decide) ?_
  refine lv_istore_n (lv' := [(2, .int (0 : Int32)), (0, .ref a_w), (1, .int x1)]) hx hb dX3_oneOn_1 rfl hl (by decide) rfl (fun ls hl => ?_)
  refine lv_iconst (v := 0) hx hb dX3_oneOn_2 (by decide) ?_
  refine lv_istore_n (lv' := [(3, .int (0 : Int32)), (2, .int (0 : Int32)), (0, .ref a_w), (1, .int x1)]) hx hb dX3_oneOn_3 rfl hl (by decide) rfl (fun ls hl => ?_)
  obtain ⟨y2_4, i_4, h⟩ := ob1_inv h
  have after_4 : ∀ (H : Heap) (locs : List Loc) (ls : Array Slot), va_P (dC, dI) vwCl [(a_w, .inr (3, [.int w_count, .int w_references, .ref a_w_kind, .ref a_w_owner, .ref a_w_from, .ref a_w_to, .ref a_w_away])), (a_w_from, .inl (cI, 12, .inl w_from)), (a_w_to, .inl (cI, 12, .inl w_to))] H → va_S noA s.heap H locs → lv_has ls 4 [(2, .int y2_4)] → W p l e (headSpec wsX3_oneOn ({ frames := 1, cells := 0, slots := 0, locals := 21 } : Room)).room s m ([.ref a_w, .int x1] : List Value).toArray below meth c H locs 0 0 (MQ below (kQ (some (.int r)) True (fun _ => True) noA) ([.ref a_w, .int x1] : List Value).toArray s 0 0 noA) (F0 m 43 ls []) := by
    intro H locs ls hP hS hl
    refine lv_iload_n hx hb dX3_oneOn_43 rfl (lv_at hl 0 rfl) ?_
    obtain rfl := Option.some.inj h
    exact W.iret hx hb hr (fun t ht _ => kQ.mk ht trivial trivial (hS.F ht)) hS.2.2 dX3_oneOn_44
  have lp_4 : ∀ (n : Nat) (x2_4 : Int32) (x3_4 : Int32) (H : Heap) (locs : List Loc) (ls : Array Slot), it (u2 (L_X3_oneOn_4 w_references w_from w_to x1)) n (x2_4, x3_4) = some y2_4 → va_P (dC, dI) vwCl [(a_w, .inr (3, [.int w_count, .int w_references, .ref a_w_kind, .ref a_w_owner, .ref a_w_from, .ref a_w_to, .ref a_w_away])), (a_w_from, .inl (cI, 12, .inl w_from)), (a_w_to, .inl (cI, 12, .inl w_to))] H → va_S noA s.heap H locs → lv_has ls 4 [(0, .ref a_w), (1, .int x1), (2, .int x2_4), (3, .int x3_4)] → W p l e (headSpec wsX3_oneOn ({ frames := 1, cells := 0, slots := 0, locals := 21 } : Room)).room s m ([.ref a_w, .int x1] : List Value).toArray below meth c H locs 0 0 (MQ below (kQ (some (.int r)) True (fun _ => True) noA) ([.ref a_w, .int x1] : List Value).toArray s 0 0 noA) (F0 m 4 ls []) := by
    intro n
    induction n with
    | zero => intro x2_4 x3_4 H locs ls h1; exact (it_0 h1).elim
    | succ n ih_4 =>
      intro x2_4 x3_4 H locs ls h1 hP hS hl
      obtain ⟨t_4, h1, k1⟩ := it2_inv h1
      unfold L_X3_oneOn_4 at h1
      refine lv_iload_n hx hb dX3_oneOn_4 rfl (lv_at hl 3 rfl) ?_
      refine lv_aload_n hx hb dX3_oneOn_5 rfl (lv_at hl 0 rfl) ?_
      refine va_get (D := (dC, dI)) (ci := 3) (v := .int w_references) (C := RX3) (T := TX3) (N := 7) hx hb hts kin_X3_oneOn_X3 hown hK hP 0 rfl rfl 1 (Nat.le_of_ble_eq_true rfl) (hts (.fieldLink RX3 15 "OwnedThings$Web" "references" "I") (List.mem_of_getElem? (i := 1) rfl)) (fun _ h9 => h9) rfl dX3_oneOn_6 ?_
      refine lv_icmp_ge (tgt := 43) hx hb dX3_oneOn_9 (by decide) (fun c_9 => ?_) (fun c_9 => ?_)
      · have h1 := hp_pos c_9 h1
        cases h1
        obtain rfl := pj1 k1
        exact after_4 _ _ _ hP hS (lv_sub hl [2] rfl)
      · have h1 := hp_neg c_9 h1
        refine lv_iload_n hx hb dX3_oneOn_12 rfl (lv_at hl 1 rfl) ?_
        refine lv_aload_n hx hb dX3_oneOn_13 rfl (lv_at hl 0 rfl) ?_
        refine va_get (D := (dC, dI)) (ci := 3) (v := .ref a_w_from) (C := RX3) (T := TX3) (N := 7) hx hb hts kin_X3_oneOn_X3 hown hK hP 0 rfl rfl 4 (Nat.le_of_ble_eq_true rfl) (hts (.fieldLink RX3 25 "OwnedThings$Web" "from" "[I") (List.mem_of_getElem? (i := 2) rfl)) (fun _ h9 => h9) rfl dX3_oneOn_14 ?_
        refine lv_iload_n hx hb dX3_oneOn_17 rfl (lv_at hl 3 rfl) ?_
        have g_18 := hg_no h1
        have h1 := hg_yes h1
        refine va_iald (D := (dC, dI)) hx hb hK hP 1 0 rfl rfl g_18 dX3_oneOn_18 ?_
        obtain ⟨r_19, e_19, h1⟩ := ob1_inv h1
        refine k_pNi (rest := []) ⟨hx, hb, hml, hown, hts⟩ (c_X4_holds l dC dI cI cS x1 (w_from x3_4.toNatClampNeg) r_19 e_19) ⟨va_cnB 2 hts gX3_oneOn_X4_holds_n87 rfl rfl rfl hN.2.1 (hts (.initialized RX4) (List.mem_of_getElem? (i := 5) rfl)) khd_X4_holds.2 ⟨Nat.le_of_ble_eq_true rfl, Nat.le_of_ble_eq_true rfl⟩, (hts (.static yX4_holds) (List.mem_of_getElem? (i := 4) rfl)), trivial⟩ hK hN hP (va_D_fst hD rfl) hS [] rfl rfl rfl hl.1 rfl (Nat.le_of_ble_eq_true rfl) dX3_oneOn_19 ⟨Nat.zero_le _, Nat.zero_le _⟩ (fun H locs hf_19 hP hS => ?_)
        refine lv_if_eq (tgt := 37) hx hb dX3_oneOn_22 (by decide) (fun c_22 => ?_) (fun c_22 => ?_)
        · have h1 := hp_pos c_22 h1
          refine lv_iinc (v := (x3_4 + (1 : Int32))) (lv' := [(3, .int (x3_4 + (1 : Int32))), (0, .ref a_w), (1, .int x1), (2, .int x2_4)]) hx hb dX3_oneOn_37 hl (k := 3) rfl rfl (by decide) rfl (fun ls hl => ?_)
          refine lv_goto (tgt := 4) hx hb dX3_oneOn_40 (by decide) ?_
          cases h1
          exact ih_4 _ _ _ _ _ k1 hP hS (lv_sub hl [1, 2, 3, 0] rfl)
        · have h1 := hp_neg c_22 h1
          refine lv_iload_n hx hb dX3_oneOn_25 rfl (lv_at hl 2 rfl) ?_
          refine lv_aload_n hx hb dX3_oneOn_26 rfl (lv_at hl 0 rfl) ?_
          refine va_get (D := (dC, dI)) (ci := 3) (v := .ref a_w_to) (C := RX3) (T := TX3) (N := 7) hx hb hts kin_X3_oneOn_X3 hown hK hP 0 rfl rfl 5 (Nat.le_of_ble_eq_true rfl) (hts (.fieldLink RX3 28 "OwnedThings$Web" "to" "[I") (List.mem_of_getElem? (i := 3) rfl)) (fun _ h9 => h9) rfl dX3_oneOn_27 ?_
          refine lv_iload_n hx hb dX3_oneOn_30 rfl (lv_at hl 3 rfl) ?_
          have g_31 := hg_no h1
          have h1 := hg_yes h1
          refine va_iald (D := (dC, dI)) hx hb hK hP 2 0 rfl rfl g_31 dX3_oneOn_31 ?_
          obtain ⟨r_32, e_32, h1⟩ := ob1_inv h1
          refine k_pNi (rest := [.int x2_4]) ⟨hx, hb, hml, hown, hts⟩ (c_X4_bit l dC dI cI cS (w_to x3_4.toNatClampNeg) r_32 e_32) ⟨va_cnB 1 hts gX3_oneOn_X4_bit_n81 rfl rfl rfl hN.1 (hts (.initialized RX4) (List.mem_of_getElem? (i := 5) rfl)) khd_X4_bit.2 ⟨Nat.le_of_ble_eq_true rfl, Nat.le_of_ble_eq_true rfl⟩, (hts (.static yX4_bit) (List.mem_of_getElem? (i := 7) rfl)), trivial⟩ hK hN hP (va_D_fst hD rfl) hS [] rfl rfl rfl hl.1 rfl (Nat.le_of_ble_eq_true rfl) dX3_oneOn_32 ⟨Nat.zero_le _, Nat.zero_le _⟩ (fun H locs hf_32 hP hS => ?_)
          refine lv_ior hx hb dX3_oneOn_35 ?_
          refine lv_istore_n (lv' := [(2, .int (x2_4 ||| r_32)), (0, .ref a_w), (1, .int x1), (3, .int x3_4)]) hx hb dX3_oneOn_36 rfl hl (by decide) rfl (fun ls hl => ?_)
          refine lv_iinc (v := (x3_4 + (1 : Int32))) (lv' := [(3, .int (x3_4 + (1 : Int32))), (2, .int (x2_4 ||| r_32)), (0, .ref a_w), (1, .int x1)]) hx hb dX3_oneOn_37 hl (k := 3) rfl rfl (by decide) rfl (fun ls hl => ?_)
          refine lv_goto (tgt := 4) hx hb dX3_oneOn_40 (by decide) ?_
          cases h1
          exact ih_4 _ _ _ _ _ k1 hP hS (lv_sub hl [2, 3, 1, 0] rfl)
  exact lp_4 FUEL _ _ _ _ _ i_4 hP hS (lv_sub hl [2, 3, 1, 0] rfl)
theorem kin_X3_targetsOf_X3 : ∀ w ∈ wsX30, w ∈ wsX3_targetsOf := fun _ h => List.mem_cons_of_mem _ (List.mem_append_right _ h)
theorem khd_X3_targetsOf : yX3_targetsOf.cls = RX3 ∧ yX3_targetsOf.cls ≠ "java/lang/invoke/MethodHandle" ∧ yX3_targetsOf.cls ≠ "java/lang/invoke/VarHandle" ∧ (parseMethodDescriptor yX3_targetsOf.desc).map (fun d => d.parameters.length) = some 1 := by decide +kernel
set_option maxHeartbeats 8000000 in
set_option maxRecDepth 100000 in
theorem c_X3_targetsOf (l : Launch) (dC : Nat → ClassId) (dI : Nat → Nat → Nat) (cI cS : ClassId) (a_w : Nat) (a_w_kind : Nat) (a_w_owner : Nat) (a_w_from : Nat) (a_w_to : Nat) (a_w_away : Nat) (w_count : Int32) (w_references : Int32) (w_from : Nat → Int32) (w_to : Nat → Int32) (x1 : Int32) (r : Int32) (h : f_X3_targetsOf w_references w_from w_to x1 = some r) : Mk l yX3_targetsOf wsX3_targetsOf ({ frames := 2, cells := 0, slots := 0, locals := 44 } : Room) (dC, dI) cI cS [(a_w, .inr (3, [.int w_count, .int w_references, .ref a_w_kind, .ref a_w_owner, .ref a_w_from, .ref a_w_to, .ref a_w_away])), (a_w_from, .inl (cI, 12, .inl w_from)), (a_w_to, .inl (cI, 12, .inl w_to))] [.ref a_w, .int x1] (some (.int r)) True (fun _ => True) noA := by
  refine Met.ofW (cc := cX3_targetsOf) (maxL := 2) (ret := (some .int)) (by decide) rfl ?_
  intro p e s m args below meth c s₁ B hml hv
  obtain ⟨rfl, hP, hK, hN, hD⟩ := hv
  have hx := B.exec
  have hb := B.bytes
  have hr := B.returns
  have hts := atoms_spec (ws := wsX3_targetsOf) B.pre
  have hown : s.vm.findClass RX3 = some m.cls := findClass_of_methodNamed B.named
  have hlocks := B.notSynchronized
  have hS : va_S noA s.heap s.heap [] := va_S.rf
  have hP : va_P (dC, dI) vwCl [(a_w, .inr (3, [.int w_count, .int w_references, .ref a_w_kind, .ref a_w_owner, .ref a_w_from, .ref a_w_to, .ref a_w_away])), (a_w_from, .inl (cI, 12, .inl w_from)), (a_w_to, .inl (cI, 12, .inl w_to))] s.heap := hP
  have hl := lv_entry ([.ref a_w, .int x1]) (n := 2) (Nat.le_of_ble_eq_true rfl)
  rw [lg_entry_eq]
  generalize (lg_sl ([.ref a_w, .int x1]) ++ List.replicate (2 - (lg_sl ([.ref a_w, .int x1])).length) Slot.unset).toArray = ls at hl ⊢
  have hl : lv_has ls 2 [(0, .ref a_w), (1, .int x1)] := hl
  unfold f_X3_targetsOf at h
  refine lv_aload_n hx hb dX3_targetsOf_0 rfl (lv_at hl 0 rfl) ?_
  refine lv_iload_n hx hb dX3_targetsOf_1 rfl (lv_at hl 1 rfl) ?_
  obtain ⟨r_2, e_2, h⟩ := ob1_inv h
  refine k_pNi (rest := [.ref a_w]) ⟨hx, hb, hml, hown, hts⟩ (c_X4_bit l dC dI cI cS x1 r_2 e_2) ⟨va_cnB 1 hts gX3_targetsOf_X4_bit_n81 rfl rfl rfl hN.1 (hts (.initialized RX4) (List.mem_of_getElem? (i := 2) rfl)) khd_X4_bit.2 ⟨Nat.le_of_ble_eq_true rfl, Nat.le_of_ble_eq_true rfl⟩, (hts (.static yX4_bit) (List.mem_of_getElem? (i := 1) rfl)), trivial⟩ hK hN hP (va_D_fst hD rfl) hS [] rfl rfl rfl hl.1 rfl (Nat.le_of_ble_eq_true rfl) dX3_targetsOf_2 ⟨Nat.zero_le _, Nat.zero_le _⟩ (fun H locs hf_2 hP hS => ?_)
  obtain ⟨r_5, e_5, h⟩ := ob1_inv h
  refine k_pVi (i0 := 0) (rest := []) ⟨hx, hb, hml, hown, hts⟩ (c_X3_oneOn l dC dI cI cS a_w a_w_kind a_w_owner a_w_from a_w_to a_w_away w_count w_references w_from w_to r_2 r_5 e_5) (cwV 1 hts gX3_targetsOf_X3_oneOn rfl rfl rfl khd_X3_oneOn ⟨Nat.le_of_ble_eq_true rfl, Nat.le_of_ble_eq_true rfl⟩) hK hN hP (va_D_fst hD rfl) hS [0, 1, 2] rfl rfl rfl rfl rfl rfl hl.1 rfl (Nat.le_of_ble_eq_true rfl) dX3_targetsOf_5 ⟨Nat.zero_le _, Nat.zero_le _⟩ (fun H locs hf_5 hP hS => ?_)
  obtain rfl := Option.some.inj h
  exact W.iret hx hb hr (fun t ht _ => kQ.mk ht trivial trivial (hS.F ht)) hS.2.2 dX3_targetsOf_8
theorem kin_X3_oneBack_X3 : ∀ w ∈ wsX30, w ∈ wsX3_oneBack := fun _ h => List.mem_cons_of_mem _ (List.mem_append_right _ h)
theorem khd_X3_oneBack : yX3_oneBack.cls = RX3 ∧ yX3_oneBack.cls ≠ "java/lang/invoke/MethodHandle" ∧ yX3_oneBack.cls ≠ "java/lang/invoke/VarHandle" ∧ (parseMethodDescriptor yX3_oneBack.desc).map (fun d => d.parameters.length) = some 1 := by decide +kernel
set_option maxHeartbeats 8000000 in
set_option maxRecDepth 100000 in
theorem c_X3_oneBack (l : Launch) (dC : Nat → ClassId) (dI : Nat → Nat → Nat) (cI cS : ClassId) (a_w : Nat) (a_w_kind : Nat) (a_w_owner : Nat) (a_w_from : Nat) (a_w_to : Nat) (a_w_away : Nat) (w_count : Int32) (w_references : Int32) (w_from : Nat → Int32) (w_to : Nat → Int32) (x1 : Int32) (r : Int32) (h : f_X3_oneBack w_references w_from w_to x1 = some r) : Mk l yX3_oneBack wsX3_oneBack ({ frames := 1, cells := 0, slots := 0, locals := 21 } : Room) (dC, dI) cI cS [(a_w, .inr (3, [.int w_count, .int w_references, .ref a_w_kind, .ref a_w_owner, .ref a_w_from, .ref a_w_to, .ref a_w_away])), (a_w_from, .inl (cI, 12, .inl w_from)), (a_w_to, .inl (cI, 12, .inl w_to))] [.ref a_w, .int x1] (some (.int r)) True (fun _ => True) noA := by
  refine Met.ofW (cc := cX3_oneBack) (maxL := 4) (ret := (some .int)) (by decide) rfl ?_
  intro p e s m args below meth c s₁ B hml hv
  obtain ⟨rfl, hP, hK, hN, hD⟩ := hv
  have hx := B.exec
  have hb := B.bytes
  have hr := B.returns
  have hts := atoms_spec (ws := wsX3_oneBack) B.pre
  have hown : s.vm.findClass RX3 = some m.cls := findClass_of_methodNamed B.named
  have hlocks := B.notSynchronized
  have hS : va_S noA s.heap s.heap [] := va_S.rf
  have hP : va_P (dC, dI) vwCl [(a_w, .inr (3, [.int w_count, .int w_references, .ref a_w_kind, .ref a_w_owner, .ref a_w_from, .ref a_w_to, .ref a_w_away])), (a_w_from, .inl (cI, 12, .inl w_from)), (a_w_to, .inl (cI, 12, .inl w_to))] s.heap := hP
  have hl := lv_entry ([.ref a_w, .int x1]) (n := 4) (Nat.le_of_ble_eq_true rfl)
  rw [lg_entry_eq]
  generalize (lg_sl ([.ref a_w, .int x1]) ++ List.replicate (4 - (lg_sl ([.ref a_w, .int x1])).length) Slot.unset).toArray = ls at hl ⊢
  have hl : lv_has ls 4 [(0, .ref a_w), (1, .int x1)] := hl
  unfold f_X3_oneBack at h
  refine lv_iconst (v := 0) hx hb dX3_oneBack_0 (by decide) ?_
  refine lv_istore_n (lv' := [(2, .int (0 : Int32)), (0, .ref a_w), (1, .int x1)]) hx hb dX3_oneBack_1 rfl hl (by decide) rfl (fun ls hl => ?_)
  refine lv_iconst (v := 0) hx hb dX3_oneBack_2 (by decide) ?_
  refine lv_istore_n (lv' := [(3, .int (0 : Int32)), (2, .int (0 : Int32)), (0, .ref a_w), (1, .int x1)]) hx hb dX3_oneBack_3 rfl hl (by decide) rfl (fun ls hl => ?_)
  obtain ⟨y2_4, i_4, h⟩ := ob1_inv h
  have after_4 : ∀ (H : Heap) (locs : List Loc) (ls : Array Slot), va_P (dC, dI) vwCl [(a_w, .inr (3, [.int w_count, .int w_references, .ref a_w_kind, .ref a_w_owner, .ref a_w_from, .ref a_w_to, .ref a_w_away])), (a_w_from, .inl (cI, 12, .inl w_from)), (a_w_to, .inl (cI, 12, .inl w_to))] H → va_S noA s.heap H locs → lv_has ls 4 [(2, .int y2_4)] → W p l e (headSpec wsX3_oneBack ({ frames := 1, cells := 0, slots := 0, locals := 21 } : Room)).room s m ([.ref a_w, .int x1] : List Value).toArray below meth c H locs 0 0 (MQ below (kQ (some (.int r)) True (fun _ => True) noA) ([.ref a_w, .int x1] : List Value).toArray s 0 0 noA) (F0 m 43 ls []) := by
    intro H locs ls hP hS hl
    refine lv_iload_n hx hb dX3_oneBack_43 rfl (lv_at hl 0 rfl) ?_
    obtain rfl := Option.some.inj h
    exact W.iret hx hb hr (fun t ht _ => kQ.mk ht trivial trivial (hS.F ht)) hS.2.2 dX3_oneBack_44
  have lp_4 : ∀ (n : Nat) (x2_4 : Int32) (x3_4 : Int32) (H : Heap) (locs : List Loc) (ls : Array Slot), it (u2 (L_X3_oneBack_4 w_references w_from w_to x1)) n (x2_4, x3_4) = some y2_4 → va_P (dC, dI) vwCl [(a_w, .inr (3, [.int w_count, .int w_references, .ref a_w_kind, .ref a_w_owner, .ref a_w_from, .ref a_w_to, .ref a_w_away])), (a_w_from, .inl (cI, 12, .inl w_from)), (a_w_to, .inl (cI, 12, .inl w_to))] H → va_S noA s.heap H locs → lv_has ls 4 [(0, .ref a_w), (1, .int x1), (2, .int x2_4), (3, .int x3_4)] → W p l e (headSpec wsX3_oneBack ({ frames := 1, cells := 0, slots := 0, locals := 21 } : Room)).room s m ([.ref a_w, .int x1] : List Value).toArray below meth c H locs 0 0 (MQ below (kQ (some (.int r)) True (fun _ => True) noA) ([.ref a_w, .int x1] : List Value).toArray s 0 0 noA) (F0 m 4 ls []) := by
    intro n
    induction n with
    | zero => intro x2_4 x3_4 H locs ls h1; exact (it_0 h1).elim
    | succ n ih_4 =>
      intro x2_4 x3_4 H locs ls h1 hP hS hl
      obtain ⟨t_4, h1, k1⟩ := it2_inv h1
      unfold L_X3_oneBack_4 at h1
      refine lv_iload_n hx hb dX3_oneBack_4 rfl (lv_at hl 3 rfl) ?_
      refine lv_aload_n hx hb dX3_oneBack_5 rfl (lv_at hl 0 rfl) ?_
      refine va_get (D := (dC, dI)) (ci := 3) (v := .int w_references) (C := RX3) (T := TX3) (N := 7) hx hb hts kin_X3_oneBack_X3 hown hK hP 0 rfl rfl 1 (Nat.le_of_ble_eq_true rfl) (hts (.fieldLink RX3 15 "OwnedThings$Web" "references" "I") (List.mem_of_getElem? (i := 1) rfl)) (fun _ h9 => h9) rfl dX3_oneBack_6 ?_
      refine lv_icmp_ge (tgt := 43) hx hb dX3_oneBack_9 (by decide) (fun c_9 => ?_) (fun c_9 => ?_)
      · have h1 := hp_pos c_9 h1
        cases h1
        obtain rfl := pj1 k1
        exact after_4 _ _ _ hP hS (lv_sub hl [2] rfl)
      · have h1 := hp_neg c_9 h1
        refine lv_iload_n hx hb dX3_oneBack_12 rfl (lv_at hl 1 rfl) ?_
        refine lv_aload_n hx hb dX3_oneBack_13 rfl (lv_at hl 0 rfl) ?_
        refine va_get (D := (dC, dI)) (ci := 3) (v := .ref a_w_to) (C := RX3) (T := TX3) (N := 7) hx hb hts kin_X3_oneBack_X3 hown hK hP 0 rfl rfl 5 (Nat.le_of_ble_eq_true rfl) (hts (.fieldLink RX3 28 "OwnedThings$Web" "to" "[I") (List.mem_of_getElem? (i := 2) rfl)) (fun _ h9 => h9) rfl dX3_oneBack_14 ?_
        refine lv_iload_n hx hb dX3_oneBack_17 rfl (lv_at hl 3 rfl) ?_
        have g_18 := hg_no h1
        have h1 := hg_yes h1
        refine va_iald (D := (dC, dI)) hx hb hK hP 2 0 rfl rfl g_18 dX3_oneBack_18 ?_
        obtain ⟨r_19, e_19, h1⟩ := ob1_inv h1
        refine k_pNi (rest := []) ⟨hx, hb, hml, hown, hts⟩ (c_X4_holds l dC dI cI cS x1 (w_to x3_4.toNatClampNeg) r_19 e_19) ⟨va_cnB 2 hts gX3_oneBack_X4_holds_n87 rfl rfl rfl hN.2.1 (hts (.initialized RX4) (List.mem_of_getElem? (i := 5) rfl)) khd_X4_holds.2 ⟨Nat.le_of_ble_eq_true rfl, Nat.le_of_ble_eq_true rfl⟩, (hts (.static yX4_holds) (List.mem_of_getElem? (i := 4) rfl)), trivial⟩ hK hN hP (va_D_fst hD rfl) hS [] rfl rfl rfl hl.1 rfl (Nat.le_of_ble_eq_true rfl) dX3_oneBack_19 ⟨Nat.zero_le _, Nat.zero_le _⟩ (fun H locs hf_19 hP hS => ?_)
        refine lv_if_eq (tgt := 37) hx hb dX3_oneBack_22 (by decide) (fun c_22 => ?_) (fun c_22 => ?_)
        · have h1 := hp_pos c_22 h1
          refine lv_iinc (v := (x3_4 + (1 : Int32))) (lv' := [(3, .int (x3_4 + (1 : Int32))), (0, .ref a_w), (1, .int x1), (2, .int x2_4)]) hx hb dX3_oneBack_37 hl (k := 3) rfl rfl (by decide) rfl (fun ls hl => ?_)
          refine lv_goto (tgt := 4) hx hb dX3_oneBack_40 (by decide) ?_
          cases h1
          exact ih_4 _ _ _ _ _ k1 hP hS (lv_sub hl [1, 2, 3, 0] rfl)
        · have h1 := hp_neg c_22 h1
          refine lv_iload_n hx hb dX3_oneBack_25 rfl (lv_at hl 2 rfl) ?_
          refine lv_aload_n hx hb dX3_oneBack_26 rfl (lv_at hl 0 rfl) ?_
          refine va_get (D := (dC, dI)) (ci := 3) (v := .ref a_w_from) (C := RX3) (T := TX3) (N := 7) hx hb hts kin_X3_oneBack_X3 hown hK hP 0 rfl rfl 4 (Nat.le_of_ble_eq_true rfl) (hts (.fieldLink RX3 25 "OwnedThings$Web" "from" "[I") (List.mem_of_getElem? (i := 3) rfl)) (fun _ h9 => h9) rfl dX3_oneBack_27 ?_
          refine lv_iload_n hx hb dX3_oneBack_30 rfl (lv_at hl 3 rfl) ?_
          have g_31 := hg_no h1
          have h1 := hg_yes h1
          refine va_iald (D := (dC, dI)) hx hb hK hP 1 0 rfl rfl g_31 dX3_oneBack_31 ?_
          obtain ⟨r_32, e_32, h1⟩ := ob1_inv h1
          refine k_pNi (rest := [.int x2_4]) ⟨hx, hb, hml, hown, hts⟩ (c_X4_bit l dC dI cI cS (w_from x3_4.toNatClampNeg) r_32 e_32) ⟨va_cnB 1 hts gX3_oneBack_X4_bit_n81 rfl rfl rfl hN.1 (hts (.initialized RX4) (List.mem_of_getElem? (i := 5) rfl)) khd_X4_bit.2 ⟨Nat.le_of_ble_eq_true rfl, Nat.le_of_ble_eq_true rfl⟩, (hts (.static yX4_bit) (List.mem_of_getElem? (i := 7) rfl)), trivial⟩ hK hN hP (va_D_fst hD rfl) hS [] rfl rfl rfl hl.1 rfl (Nat.le_of_ble_eq_true rfl) dX3_oneBack_32 ⟨Nat.zero_le _, Nat.zero_le _⟩ (fun H locs hf_32 hP hS => ?_)
          refine lv_ior hx hb dX3_oneBack_35 ?_
          refine lv_istore_n (lv' := [(2, .int (x2_4 ||| r_32)), (0, .ref a_w), (1, .int x1), (3, .int x3_4)]) hx hb dX3_oneBack_36 rfl hl (by decide) rfl (fun ls hl => ?_)
          refine lv_iinc (v := (x3_4 + (1 : Int32))) (lv' := [(3, .int (x3_4 + (1 : Int32))), (2, .int (x2_4 ||| r_32)), (0, .ref a_w), (1, .int x1)]) hx hb dX3_oneBack_37 hl (k := 3) rfl rfl (by decide) rfl (fun ls hl => ?_)
          refine lv_goto (tgt := 4) hx hb dX3_oneBack_40 (by decide) ?_
          cases h1
          exact ih_4 _ _ _ _ _ k1 hP hS (lv_sub hl [2, 3, 1, 0] rfl)
  exact lp_4 FUEL _ _ _ _ _ i_4 hP hS (lv_sub hl [2, 3, 1, 0] rfl)
theorem kin_X3_ledTo_X3 : ∀ w ∈ wsX30, w ∈ wsX3_ledTo := fun _ h => List.mem_cons_of_mem _ (List.mem_append_right _ h)
theorem khd_X3_ledTo : yX3_ledTo.cls = RX3 ∧ yX3_ledTo.cls ≠ "java/lang/invoke/MethodHandle" ∧ yX3_ledTo.cls ≠ "java/lang/invoke/VarHandle" ∧ (parseMethodDescriptor yX3_ledTo.desc).map (fun d => d.parameters.length) = some 2 := by decide +kernel
set_option maxHeartbeats 8000000 in
set_option maxRecDepth 100000 in
theorem c_X3_ledTo (l : Launch) (dC : Nat → ClassId) (dI : Nat → Nat → Nat) (cI cS : ClassId) (a_w : Nat) (a_w_kind : Nat) (a_w_owner : Nat) (a_w_from : Nat) (a_w_to : Nat) (a_w_away : Nat) (w_count : Int32) (w_references : Int32) (w_from : Nat → Int32) (w_to : Nat → Int32) (x1 : Int32) (x2 : Int32) (r : Int32) (h : f_X3_ledTo w_references w_from w_to x1 x2 = some r) : Mk l yX3_ledTo wsX3_ledTo ({ frames := 2, cells := 0, slots := 0, locals := 44 } : Room) (dC, dI) cI cS [(a_w, .inr (3, [.int w_count, .int w_references, .ref a_w_kind, .ref a_w_owner, .ref a_w_from, .ref a_w_to, .ref a_w_away])), (a_w_from, .inl (cI, 12, .inl w_from)), (a_w_to, .inl (cI, 12, .inl w_to))] [.ref a_w, .int x1, .int x2] (some (.int r)) True (fun _ => True) noA := by
  refine Met.ofW (cc := cX3_ledTo) (maxL := 6) (ret := (some .int)) (by decide) rfl ?_
  intro p e s m args below meth c s₁ B hml hv
  obtain ⟨rfl, hP, hK, hN, hD⟩ := hv
  have hx := B.exec
  have hb := B.bytes
  have hr := B.returns
  have hts := atoms_spec (ws := wsX3_ledTo) B.pre
  have hown : s.vm.findClass RX3 = some m.cls := findClass_of_methodNamed B.named
  have hlocks := B.notSynchronized
  have hS : va_S noA s.heap s.heap [] := va_S.rf
  have hP : va_P (dC, dI) vwCl [(a_w, .inr (3, [.int w_count, .int w_references, .ref a_w_kind, .ref a_w_owner, .ref a_w_from, .ref a_w_to, .ref a_w_away])), (a_w_from, .inl (cI, 12, .inl w_from)), (a_w_to, .inl (cI, 12, .inl w_to))] s.heap := hP
  have hl := lv_entry ([.ref a_w, .int x1, .int x2]) (n := 6) (Nat.le_of_ble_eq_true rfl)
  rw [lg_entry_eq]
  generalize (lg_sl ([.ref a_w, .int x1, .int x2]) ++ List.replicate (6 - (lg_sl ([.ref a_w, .int x1, .int x2])).length) Slot.unset).toArray = ls at hl ⊢
  have hl : lv_has ls 6 [(0, .ref a_w), (1, .int x1), (2, .int x2)] := hl
  unfold f_X3_ledTo at h
  refine lv_iload_n hx hb dX3_ledTo_0 rfl (lv_at hl 1 rfl) ?_
  obtain ⟨r_1, e_1, h⟩ := ob1_inv h
  refine k_pNi (rest := []) ⟨hx, hb, hml, hown, hts⟩ (c_X4_bit l dC dI cI cS x1 r_1 e_1) ⟨va_cnB 1 hts gX3_ledTo_X4_bit_n81 rfl rfl rfl hN.1 (hts (.initialized RX4) (List.mem_of_getElem? (i := 2) rfl)) khd_X4_bit.2 ⟨Nat.le_of_ble_eq_true rfl, Nat.le_of_ble_eq_true rfl⟩, (hts (.static yX4_bit) (List.mem_of_getElem? (i := 1) rfl)), trivial⟩ hK hN hP (va_D_fst hD rfl) hS [] rfl rfl rfl hl.1 rfl (Nat.le_of_ble_eq_true rfl) dX3_ledTo_1 ⟨Nat.zero_le _, Nat.zero_le _⟩ (fun H locs hf_1 hP hS => ?_)
  refine lv_iload_n hx hb dX3_ledTo_4 rfl (lv_at hl 2 rfl) ?_
  obtain ⟨r_5, e_5, h⟩ := ob1_inv h
  refine k_pNi (rest := [.int r_1]) ⟨hx, hb, hml, hown, hts⟩ (c_X4_bit l dC dI cI cS x2 r_5 e_5) ⟨va_cnB 1 hts gX3_ledTo_X4_bit_n81 rfl rfl rfl hN.1 (hts (.initialized RX4) (List.mem_of_getElem? (i := 2) rfl)) khd_X4_bit.2 ⟨Nat.le_of_ble_eq_true rfl, Nat.le_of_ble_eq_true rfl⟩, (hts (.static yX4_bit) (List.mem_of_getElem? (i := 1) rfl)), trivial⟩ hK hN hP (va_D_fst hD rfl) hS [] rfl rfl rfl hl.1 rfl (Nat.le_of_ble_eq_true rfl) dX3_ledTo_5 ⟨Nat.zero_le _, Nat.zero_le _⟩ (fun H locs hf_5 hP hS => ?_)
  refine lv_iconst (v := -1) hx hb dX3_ledTo_8 (by decide) ?_
  refine lv_ixor hx hb dX3_ledTo_9 ?_
  refine lv_iand hx hb dX3_ledTo_10 ?_
  refine lv_istore_n (lv' := [(3, .int (r_1 &&& (r_5 ^^^ (-1 : Int32)))), (0, .ref a_w), (1, .int x1), (2, .int x2)]) hx hb dX3_ledTo_11 rfl hl (by decide) rfl (fun ls hl => ?_)
  refine lv_iconst (v := 0) hx hb dX3_ledTo_12 (by decide) ?_
  refine lv_istore (lv' := [(4, .int (0 : Int32)), (3, .int (r_1 &&& (r_5 ^^^ (-1 : Int32)))), (0, .ref a_w), (1, .int x1), (2, .int x2)]) hx hb dX3_ledTo_13 hl (by decide) rfl (fun ls hl => ?_)
  obtain ⟨y3_15, i_15, h⟩ := ob1_inv h
  have after_15 : ∀ (H : Heap) (locs : List Loc) (ls : Array Slot), va_P (dC, dI) vwCl [(a_w, .inr (3, [.int w_count, .int w_references, .ref a_w_kind, .ref a_w_owner, .ref a_w_from, .ref a_w_to, .ref a_w_away])), (a_w_from, .inl (cI, 12, .inl w_from)), (a_w_to, .inl (cI, 12, .inl w_to))] H → va_S noA s.heap H locs → lv_has ls 6 [(3, .int y3_15)] → W p l e (headSpec wsX3_ledTo ({ frames := 2, cells := 0, slots := 0, locals := 44 } : Room)).room s m ([.ref a_w, .int x1, .int x2] : List Value).toArray below meth c H locs 0 0 (MQ below (kQ (some (.int r)) True (fun _ => True) noA) ([.ref a_w, .int x1, .int x2] : List Value).toArray s 0 0 noA) (F0 m 56 ls []) := by
    intro H locs ls hP hS hl
    refine lv_iload_n hx hb dX3_ledTo_56 rfl (lv_at hl 0 rfl) ?_
    obtain rfl := Option.some.inj h
    exact W.iret hx hb hr (fun t ht _ => kQ.mk ht trivial trivial (hS.F ht)) hS.2.2 dX3_ledTo_57
  have lp_15 : ∀ (n : Nat) (x3_15 : Int32) (x4_15 : Int32) (H : Heap) (locs : List Loc) (ls : Array Slot), it (u2 (L_X3_ledTo_15 w_references w_from w_to x2)) n (x3_15, x4_15) = some y3_15 → va_P (dC, dI) vwCl [(a_w, .inr (3, [.int w_count, .int w_references, .ref a_w_kind, .ref a_w_owner, .ref a_w_from, .ref a_w_to, .ref a_w_away])), (a_w_from, .inl (cI, 12, .inl w_from)), (a_w_to, .inl (cI, 12, .inl w_to))] H → va_S noA s.heap H locs → lv_has ls 6 [(0, .ref a_w), (2, .int x2), (3, .int x3_15), (4, .int x4_15)] → W p l e (headSpec wsX3_ledTo ({ frames := 2, cells := 0, slots := 0, locals := 44 } : Room)).room s m ([.ref a_w, .int x1, .int x2] : List Value).toArray below meth c H locs 0 0 (MQ below (kQ (some (.int r)) True (fun _ => True) noA) ([.ref a_w, .int x1, .int x2] : List Value).toArray s 0 0 noA) (F0 m 15 ls []) := by
    intro n
    induction n with
    | zero => intro x3_15 x4_15 H locs ls h1; exact (it_0 h1).elim
    | succ n ih_15 =>
      intro x3_15 x4_15 H locs ls h1 hP hS hl
      obtain ⟨t_15, h1, k1⟩ := it2_inv h1
      unfold L_X3_ledTo_15 at h1
      refine lv_iload hx hb dX3_ledTo_15 (lv_at hl 3 rfl) ?_
      refine lv_bipush (v := 6) hx hb dX3_ledTo_17 (by decide) ?_
      refine lv_icmp_ge (tgt := 56) hx hb dX3_ledTo_19 (by decide) (fun c_19 => ?_) (fun c_19 => ?_)
      · have h1 := hp_pos c_19 h1
        cases h1
        obtain rfl := pj1 k1
        exact after_15 _ _ _ hP hS (lv_sub hl [2] rfl)
      · have h1 := hp_neg c_19 h1
        refine lv_iload_n hx hb dX3_ledTo_22 rfl (lv_at hl 2 rfl) ?_
        refine lv_aload_n hx hb dX3_ledTo_23 rfl (lv_at hl 0 rfl) ?_
        refine lv_iload_n hx hb dX3_ledTo_24 rfl (lv_at hl 2 rfl) ?_
        obtain ⟨r_25, e_25, h1⟩ := ob1_inv h1
        refine k_pVi (i0 := 0) (rest := [.int x3_15]) ⟨hx, hb, hml, hown, hts⟩ (c_X3_oneOn l dC dI cI cS a_w a_w_kind a_w_owner a_w_from a_w_to a_w_away w_count w_references w_from w_to x3_15 r_25 e_25) (cwV 1 hts gX3_ledTo_X3_oneOn rfl rfl rfl khd_X3_oneOn ⟨Nat.le_of_ble_eq_true rfl, Nat.le_of_ble_eq_true rfl⟩) hK hN hP (va_D_fst hD rfl) hS [0, 1, 2] rfl rfl rfl rfl rfl rfl hl.1 rfl (Nat.le_of_ble_eq_true rfl) dX3_ledTo_25 ⟨Nat.zero_le _, Nat.zero_le _⟩ (fun H locs hf_25 hP hS => ?_)
        refine lv_ior hx hb dX3_ledTo_28 ?_
        refine lv_iload_n hx hb dX3_ledTo_29 rfl (lv_at hl 1 rfl) ?_
        obtain ⟨r_30, e_30, h1⟩ := ob1_inv h1
        refine k_pNi (rest := [.int (x3_15 ||| r_25)]) ⟨hx, hb, hml, hown, hts⟩ (c_X4_bit l dC dI cI cS x2 r_30 e_30) ⟨va_cnB 1 hts gX3_ledTo_X4_bit_n81 rfl rfl rfl hN.1 (hts (.initialized RX4) (List.mem_of_getElem? (i := 2) rfl)) khd_X4_bit.2 ⟨Nat.le_of_ble_eq_true rfl, Nat.le_of_ble_eq_true rfl⟩, (hts (.static yX4_bit) (List.mem_of_getElem? (i := 1) rfl)), trivial⟩ hK hN hP (va_D_fst hD rfl) hS [] rfl rfl rfl hl.1 rfl (Nat.le_of_ble_eq_true rfl) dX3_ledTo_30 ⟨Nat.zero_le _, Nat.zero_le _⟩ (fun H locs hf_30 hP hS => ?_)
        refine lv_iconst (v := -1) hx hb dX3_ledTo_33 (by decide) ?_
        refine lv_ixor hx hb dX3_ledTo_34 ?_
        refine lv_iand hx hb dX3_ledTo_35 ?_
        refine lv_istore (lv' := [(5, .int ((x3_15 ||| r_25) &&& (r_30 ^^^ (-1 : Int32)))), (0, .ref a_w), (2, .int x2), (3, .int x3_15), (4, .int x4_15)]) hx hb dX3_ledTo_36 hl (by decide) rfl (fun ls hl => ?_)
        refine lv_iload hx hb dX3_ledTo_38 (lv_at hl 0 rfl) ?_
        refine lv_iload_n hx hb dX3_ledTo_40 rfl (lv_at hl 3 rfl) ?_
        refine lv_icmp_ne (tgt := 47) hx hb dX3_ledTo_41 (by decide) (fun c_41 => ?_) (fun c_41 => ?_)
        · have h1 := hp_neg c_41 h1
          refine lv_iload hx hb dX3_ledTo_47 (lv_at hl 0 rfl) ?_
          refine lv_istore_n (lv' := [(3, .int ((x3_15 ||| r_25) &&& (r_30 ^^^ (-1 : Int32)))), (5, .int ((x3_15 ||| r_25) &&& (r_30 ^^^ (-1 : Int32)))), (0, .ref a_w), (2, .int x2), (4, .int x4_15)]) hx hb dX3_ledTo_49 rfl hl (by decide) rfl (fun ls hl => ?_)
          refine lv_iinc (v := (x4_15 + (1 : Int32))) (lv' := [(4, .int (x4_15 + (1 : Int32))), (3, .int ((x3_15 ||| r_25) &&& (r_30 ^^^ (-1 : Int32)))), (5, .int ((x3_15 ||| r_25) &&& (r_30 ^^^ (-1 : Int32)))), (0, .ref a_w), (2, .int x2)]) hx hb dX3_ledTo_50 hl (k := 4) rfl rfl (by decide) rfl (fun ls hl => ?_)
          refine lv_goto (tgt := 15) hx hb dX3_ledTo_53 (by decide) ?_
          cases h1
          exact ih_15 _ _ _ _ _ k1 hP hS (lv_sub hl [3, 4, 1, 0] rfl)
        · have h1 := hp_pos c_41 h1
          refine lv_goto (tgt := 56) hx hb dX3_ledTo_44 (by decide) ?_
          cases h1
          obtain rfl := pj1 k1
          exact after_15 _ _ _ hP hS (lv_sub hl [3] rfl)
  exact lp_15 FUEL _ _ _ _ _ i_15 hP hS (lv_sub hl [2, 4, 1, 0] rfl)
theorem kin_X3_reached_X3 : ∀ w ∈ wsX30, w ∈ wsX3_reached := fun _ h => List.mem_cons_of_mem _ (List.mem_append_right _ h)
theorem khd_X3_reached : yX3_reached.cls = RX3 ∧ yX3_reached.cls ≠ "java/lang/invoke/MethodHandle" ∧ yX3_reached.cls ≠ "java/lang/invoke/VarHandle" ∧ (parseMethodDescriptor yX3_reached.desc).map (fun d => d.parameters.length) = some 0 := by decide +kernel
set_option maxHeartbeats 8000000 in
set_option maxRecDepth 100000 in
theorem c_X3_reached (l : Launch) (dC : Nat → ClassId) (dI : Nat → Nat → Nat) (cI cS : ClassId) (a_w : Nat) (a_w_kind : Nat) (a_w_owner : Nat) (a_w_from : Nat) (a_w_to : Nat) (a_w_away : Nat) (w_count : Int32) (w_references : Int32) (w_from : Nat → Int32) (w_to : Nat → Int32) (r : Int32) (h : f_X3_reached w_references w_from w_to = some r) : Mk l yX3_reached wsX3_reached ({ frames := 3, cells := 0, slots := 0, locals := 69 } : Room) (dC, dI) cI cS [(a_w, .inr (3, [.int w_count, .int w_references, .ref a_w_kind, .ref a_w_owner, .ref a_w_from, .ref a_w_to, .ref a_w_away])), (a_w_from, .inl (cI, 12, .inl w_from)), (a_w_to, .inl (cI, 12, .inl w_to))] [.ref a_w] (some (.int r)) True (fun _ => True) noA := by
  refine Met.ofW (cc := cX3_reached) (maxL := 1) (ret := (some .int)) (by decide) rfl ?_
  intro p e s m args below meth c s₁ B hml hv
  obtain ⟨rfl, hP, hK, hN, hD⟩ := hv
  have hx := B.exec
  have hb := B.bytes
  have hr := B.returns
  have hts := atoms_spec (ws := wsX3_reached) B.pre
  have hown : s.vm.findClass RX3 = some m.cls := findClass_of_methodNamed B.named
  have hlocks := B.notSynchronized
  have hS : va_S noA s.heap s.heap [] := va_S.rf
  have hP : va_P (dC, dI) vwCl [(a_w, .inr (3, [.int w_count, .int w_references, .ref a_w_kind, .ref a_w_owner, .ref a_w_from, .ref a_w_to, .ref a_w_away])), (a_w_from, .inl (cI, 12, .inl w_from)), (a_w_to, .inl (cI, 12, .inl w_to))] s.heap := hP
  have hl := lv_entry ([.ref a_w]) (n := 1) (Nat.le_of_ble_eq_true rfl)
  rw [lg_entry_eq]
  generalize (lg_sl ([.ref a_w]) ++ List.replicate (1 - (lg_sl ([.ref a_w])).length) Slot.unset).toArray = ls at hl ⊢
  have hl : lv_has ls 1 [(0, .ref a_w)] := hl
  unfold f_X3_reached at h
  refine lv_aload_n hx hb dX3_reached_0 rfl (lv_at hl 0 rfl) ?_
  refine lv_bipush (v := 6) hx hb dX3_reached_1 (by decide) ?_
  refine lv_bipush (v := 7) hx hb dX3_reached_3 (by decide) ?_
  obtain ⟨r_5, e_5, h⟩ := ob1_inv h
  refine k_pVi (i0 := 0) (rest := []) ⟨hx, hb, hml, hown, hts⟩ (c_X3_ledTo l dC dI cI cS a_w a_w_kind a_w_owner a_w_from a_w_to a_w_away w_count w_references w_from w_to (6 : Int32) (7 : Int32) r_5 e_5) (cwV 2 hts gX3_reached_X3_ledTo rfl rfl rfl khd_X3_ledTo ⟨Nat.le_of_ble_eq_true rfl, Nat.le_of_ble_eq_true rfl⟩) hK hN hP (va_D_fst hD rfl) hS [0, 1, 2] rfl rfl rfl rfl rfl rfl hl.1 rfl (Nat.le_of_ble_eq_true rfl) dX3_reached_5 ⟨Nat.zero_le _, Nat.zero_le _⟩ (fun H locs hf_5 hP hS => ?_)
  refine lv_bipush (v := 6) hx hb dX3_reached_8 (by decide) ?_
  obtain ⟨r_10, e_10, h⟩ := ob1_inv h
  refine k_pNi (rest := [.int r_5]) ⟨hx, hb, hml, hown, hts⟩ (c_X4_bit l dC dI cI cS (6 : Int32) r_10 e_10) ⟨va_cnB 1 hts gX3_reached_X4_bit_n81 rfl rfl rfl hN.1 (hts (.initialized RX4) (List.mem_of_getElem? (i := 7) rfl)) khd_X4_bit.2 ⟨Nat.le_of_ble_eq_true rfl, Nat.le_of_ble_eq_true rfl⟩, (hts (.static yX4_bit) (List.mem_of_getElem? (i := 6) rfl)), trivial⟩ hK hN hP (va_D_fst hD rfl) hS [] rfl rfl rfl hl.1 rfl (Nat.le_of_ble_eq_true rfl) dX3_reached_10 ⟨Nat.zero_le _, Nat.zero_le _⟩ (fun H locs hf_10 hP hS => ?_)
  refine lv_iconst (v := -1) hx hb dX3_reached_13 (by decide) ?_
  refine lv_ixor hx hb dX3_reached_14 ?_
  refine lv_iand hx hb dX3_reached_15 ?_
  obtain rfl := Option.some.inj h
  exact W.iret hx hb hr (fun t ht _ => kQ.mk ht trivial trivial (hS.F ht)) hS.2.2 dX3_reached_16
theorem kin_X3_tailOf_X3 : ∀ w ∈ wsX30, w ∈ wsX3_tailOf := fun _ h => List.mem_cons_of_mem _ (List.mem_append_right _ h)
theorem khd_X3_tailOf : yX3_tailOf.cls = RX3 ∧ yX3_tailOf.cls ≠ "java/lang/invoke/MethodHandle" ∧ yX3_tailOf.cls ≠ "java/lang/invoke/VarHandle" ∧ (parseMethodDescriptor yX3_tailOf.desc).map (fun d => d.parameters.length) = some 1 := by decide +kernel
set_option maxHeartbeats 8000000 in
set_option maxRecDepth 100000 in
theorem c_X3_tailOf (l : Launch) (dC : Nat → ClassId) (dI : Nat → Nat → Nat) (cI cS : ClassId) (a_w : Nat) (a_w_kind : Nat) (a_w_owner : Nat) (a_w_from : Nat) (a_w_to : Nat) (a_w_away : Nat) (w_count : Int32) (w_references : Int32) (w_from : Nat → Int32) (w_to : Nat → Int32) (x1 : Int32) (r : Int32) (h : f_X3_tailOf w_references w_from w_to x1 = some r) : Mk l yX3_tailOf wsX3_tailOf ({ frames := 3, cells := 0, slots := 0, locals := 69 } : Room) (dC, dI) cI cS [(a_w, .inr (3, [.int w_count, .int w_references, .ref a_w_kind, .ref a_w_owner, .ref a_w_from, .ref a_w_to, .ref a_w_away])), (a_w_from, .inl (cI, 12, .inl w_from)), (a_w_to, .inl (cI, 12, .inl w_to))] [.ref a_w, .int x1] (some (.int r)) True (fun _ => True) noA := by
  refine Met.ofW (cc := cX3_tailOf) (maxL := 2) (ret := (some .int)) (by decide) rfl ?_
  intro p e s m args below meth c s₁ B hml hv
  obtain ⟨rfl, hP, hK, hN, hD⟩ := hv
  have hx := B.exec
  have hb := B.bytes
  have hr := B.returns
  have hts := atoms_spec (ws := wsX3_tailOf) B.pre
  have hown : s.vm.findClass RX3 = some m.cls := findClass_of_methodNamed B.named
  have hlocks := B.notSynchronized
  have hS : va_S noA s.heap s.heap [] := va_S.rf
  have hP : va_P (dC, dI) vwCl [(a_w, .inr (3, [.int w_count, .int w_references, .ref a_w_kind, .ref a_w_owner, .ref a_w_from, .ref a_w_to, .ref a_w_away])), (a_w_from, .inl (cI, 12, .inl w_from)), (a_w_to, .inl (cI, 12, .inl w_to))] s.heap := hP
  have hl := lv_entry ([.ref a_w, .int x1]) (n := 2) (Nat.le_of_ble_eq_true rfl)
  rw [lg_entry_eq]
  generalize (lg_sl ([.ref a_w, .int x1]) ++ List.replicate (2 - (lg_sl ([.ref a_w, .int x1])).length) Slot.unset).toArray = ls at hl ⊢
  have hl : lv_has ls 2 [(0, .ref a_w), (1, .int x1)] := hl
  unfold f_X3_tailOf at h
  refine lv_aload_n hx hb dX3_tailOf_0 rfl (lv_at hl 0 rfl) ?_
  refine lv_iload_n hx hb dX3_tailOf_1 rfl (lv_at hl 1 rfl) ?_
  refine lv_bipush (v := 7) hx hb dX3_tailOf_2 (by decide) ?_
  obtain ⟨r_4, e_4, h⟩ := ob1_inv h
  refine k_pVi (i0 := 0) (rest := []) ⟨hx, hb, hml, hown, hts⟩ (c_X3_ledTo l dC dI cI cS a_w a_w_kind a_w_owner a_w_from a_w_to a_w_away w_count w_references w_from w_to x1 (7 : Int32) r_4 e_4) (cwV 2 hts gX3_tailOf_X3_ledTo rfl rfl rfl khd_X3_ledTo ⟨Nat.le_of_ble_eq_true rfl, Nat.le_of_ble_eq_true rfl⟩) hK hN hP (va_D_fst hD rfl) hS [0, 1, 2] rfl rfl rfl rfl rfl rfl hl.1 rfl (Nat.le_of_ble_eq_true rfl) dX3_tailOf_4 ⟨Nat.zero_le _, Nat.zero_le _⟩ (fun H locs hf_4 hP hS => ?_)
  obtain rfl := Option.some.inj h
  exact W.iret hx hb hr (fun t ht _ => kQ.mk ht trivial trivial (hS.F ht)) hS.2.2 dX3_tailOf_7
theorem kin_X3_isClosed_X3 : ∀ w ∈ wsX30, w ∈ wsX3_isClosed := fun _ h => List.mem_cons_of_mem _ (List.mem_append_right _ h)
theorem khd_X3_isClosed : yX3_isClosed.cls = RX3 ∧ yX3_isClosed.cls ≠ "java/lang/invoke/MethodHandle" ∧ yX3_isClosed.cls ≠ "java/lang/invoke/VarHandle" ∧ (parseMethodDescriptor yX3_isClosed.desc).map (fun d => d.parameters.length) = some 1 := by decide +kernel
set_option maxHeartbeats 8000000 in
set_option maxRecDepth 100000 in
theorem c_X3_isClosed (l : Launch) (dC : Nat → ClassId) (dI : Nat → Nat → Nat) (cI cS : ClassId) (a_w : Nat) (a_w_kind : Nat) (a_w_owner : Nat) (a_w_from : Nat) (a_w_to : Nat) (a_w_away : Nat) (w_count : Int32) (w_references : Int32) (w_from : Nat → Int32) (w_to : Nat → Int32) (x1 : Int32) (r : Int32) (h : f_X3_isClosed w_references w_from w_to x1 = some r) : Mk l yX3_isClosed wsX3_isClosed ({ frames := 4, cells := 0, slots := 0, locals := 90 } : Room) (dC, dI) cI cS [(a_w, .inr (3, [.int w_count, .int w_references, .ref a_w_kind, .ref a_w_owner, .ref a_w_from, .ref a_w_to, .ref a_w_away])), (a_w_from, .inl (cI, 12, .inl w_from)), (a_w_to, .inl (cI, 12, .inl w_to))] [.ref a_w, .int x1] (some (.int r)) (r = 0 ∨ r = 1) (fun _ => True) noA := by
  refine Met.ofW (cc := cX3_isClosed) (maxL := 4) (ret := (some .boolean)) (by decide) rfl ?_
  intro p e s m args below meth c s₁ B hml hv
  obtain ⟨rfl, hP, hK, hN, hD⟩ := hv
  have hx := B.exec
  have hb := B.bytes
  have hr := B.returns
  have hts := atoms_spec (ws := wsX3_isClosed) B.pre
  have hown : s.vm.findClass RX3 = some m.cls := findClass_of_methodNamed B.named
  have hlocks := B.notSynchronized
  have hS : va_S noA s.heap s.heap [] := va_S.rf
  have hP : va_P (dC, dI) vwCl [(a_w, .inr (3, [.int w_count, .int w_references, .ref a_w_kind, .ref a_w_owner, .ref a_w_from, .ref a_w_to, .ref a_w_away])), (a_w_from, .inl (cI, 12, .inl w_from)), (a_w_to, .inl (cI, 12, .inl w_to))] s.heap := hP
  have hl := lv_entry ([.ref a_w, .int x1]) (n := 4) (Nat.le_of_ble_eq_true rfl)
  rw [lg_entry_eq]
  generalize (lg_sl ([.ref a_w, .int x1]) ++ List.replicate (4 - (lg_sl ([.ref a_w, .int x1])).length) Slot.unset).toArray = ls at hl ⊢
  have hl : lv_has ls 4 [(0, .ref a_w), (1, .int x1)] := hl
  unfold f_X3_isClosed at h
  refine lv_aload_n hx hb dX3_isClosed_0 rfl (lv_at hl 0 rfl) ?_
  refine lv_iload_n hx hb dX3_isClosed_1 rfl (lv_at hl 1 rfl) ?_
  obtain ⟨r_2, e_2, h⟩ := ob1_inv h
  refine k_pVi (i0 := 0) (rest := []) ⟨hx, hb, hml, hown, hts⟩ (c_X3_tailOf l dC dI cI cS a_w a_w_kind a_w_owner a_w_from a_w_to a_w_away w_count w_references w_from w_to x1 r_2 e_2) (cwV 1 hts gX3_isClosed_X3_tailOf rfl rfl rfl khd_X3_tailOf ⟨Nat.le_of_ble_eq_true rfl, Nat.le_of_ble_eq_true rfl⟩) hK hN hP (va_D_fst hD rfl) hS [0, 1, 2] rfl rfl rfl rfl rfl rfl hl.1 rfl (Nat.le_of_ble_eq_true rfl) dX3_isClosed_2 ⟨Nat.zero_le _, Nat.zero_le _⟩ (fun H locs hf_2 hP hS => ?_)
  refine lv_istore_n (lv' := [(2, .int r_2), (0, .ref a_w), (1, .int x1)]) hx hb dX3_isClosed_5 rfl hl (by decide) rfl (fun ls hl => ?_)
  refine lv_iconst (v := 0) hx hb dX3_isClosed_6 (by decide) ?_
  refine lv_istore_n (lv' := [(3, .int (0 : Int32)), (2, .int r_2), (0, .ref a_w), (1, .int x1)]) hx hb dX3_isClosed_7 rfl hl (by decide) rfl (fun ls hl => ?_)
  obtain ⟨o_8, K_8, i_8, hk_8, h⟩ := os0_inv h
  have after_8 : ∀ (_ : K_8) (H : Heap) (locs : List Loc) (ls : Array Slot), va_P (dC, dI) vwCl [(a_w, .inr (3, [.int w_count, .int w_references, .ref a_w_kind, .ref a_w_owner, .ref a_w_from, .ref a_w_to, .ref a_w_away])), (a_w_from, .inl (cI, 12, .inl w_from)), (a_w_to, .inl (cI, 12, .inl w_to))] H → va_S noA s.heap H locs → lv_has ls 4 [] → W p l e (headSpec wsX3_isClosed ({ frames := 4, cells := 0, slots := 0, locals := 90 } : Room)).room s m ([.ref a_w, .int x1] : List Value).toArray below meth c H locs 0 0 (MQ below (kQ (some (.int r)) (r = 0 ∨ r = 1) (fun _ => True) noA) ([.ref a_w, .int x1] : List Value).toArray s 0 0 noA) (F0 m 60 ls []) := by
    intro  ha H locs ls hP hS hl
    have h := hk_8  ha
    refine lv_iconst (v := 1) hx hb dX3_isClosed_60 (by decide) ?_
    obtain rfl := Option.some.inj h
    exact W.zret hx hb hr (nb01 (Or.inr rfl)) (fun t ht _ => kQ.mk ht trivial (Or.inr rfl) (hS.F ht)) hS.2.2 dX3_isClosed_61
  have lp_8 : ∀ (n : Nat) (x3_8 : Int32) (H : Heap) (locs : List Loc) (ls : Array Slot), it (u1 (L_X3_isClosed_8 w_references w_from w_to x1 r_2)) n x3_8 = some o_8 → va_P (dC, dI) vwCl [(a_w, .inr (3, [.int w_count, .int w_references, .ref a_w_kind, .ref a_w_owner, .ref a_w_from, .ref a_w_to, .ref a_w_away])), (a_w_from, .inl (cI, 12, .inl w_from)), (a_w_to, .inl (cI, 12, .inl w_to))] H → va_S noA s.heap H locs → lv_has ls 4 [(0, .ref a_w), (1, .int x1), (2, .int r_2), (3, .int x3_8)] → W p l e (headSpec wsX3_isClosed ({ frames := 4, cells := 0, slots := 0, locals := 90 } : Room)).room s m ([.ref a_w, .int x1] : List Value).toArray below meth c H locs 0 0 (MQ below (kQ (some (.int r)) (r = 0 ∨ r = 1) (fun _ => True) noA) ([.ref a_w, .int x1] : List Value).toArray s 0 0 noA) (F0 m 8 ls []) := by
    intro n
    induction n with
    | zero => intro x3_8 H locs ls h1; exact (it_0 h1).elim
    | succ n ih_8 =>
      intro x3_8 H locs ls h1 hP hS hl
      obtain ⟨t_8, h1, k1⟩ := it1_inv h1
      unfold L_X3_isClosed_8 at h1
      refine lv_iload_n hx hb dX3_isClosed_8 rfl (lv_at hl 3 rfl) ?_
      refine lv_aload_n hx hb dX3_isClosed_9 rfl (lv_at hl 0 rfl) ?_
      refine va_get (D := (dC, dI)) (ci := 3) (v := .int w_references) (C := RX3) (T := TX3) (N := 7) hx hb hts kin_X3_isClosed_X3 hown hK hP 0 rfl rfl 1 (Nat.le_of_ble_eq_true rfl) (hts (.fieldLink RX3 15 "OwnedThings$Web" "references" "I") (List.mem_of_getElem? (i := 1) rfl)) (fun _ h9 => h9) rfl dX3_isClosed_10 ?_
      refine lv_icmp_ge (tgt := 60) hx hb dX3_isClosed_13 (by decide) (fun c_13 => ?_) (fun c_13 => ?_)
      · have h1 := hp_pos c_13 h1
        cases h1
        obtain rfl := pj1 k1
        exact after_8  h _ _ _ hP hS (lv_sub hl [] rfl)
      · have h1 := hp_neg c_13 h1
        refine lv_iload_n hx hb dX3_isClosed_16 rfl (lv_at hl 2 rfl) ?_
        refine lv_aload_n hx hb dX3_isClosed_17 rfl (lv_at hl 0 rfl) ?_
        refine va_get (D := (dC, dI)) (ci := 3) (v := .ref a_w_from) (C := RX3) (T := TX3) (N := 7) hx hb hts kin_X3_isClosed_X3 hown hK hP 0 rfl rfl 4 (Nat.le_of_ble_eq_true rfl) (hts (.fieldLink RX3 25 "OwnedThings$Web" "from" "[I") (List.mem_of_getElem? (i := 2) rfl)) (fun _ h9 => h9) rfl dX3_isClosed_18 ?_
        refine lv_iload_n hx hb dX3_isClosed_21 rfl (lv_at hl 3 rfl) ?_
        have g_22 := hg_no h1
        have h1 := hg_yes h1
        refine va_iald (D := (dC, dI)) hx hb hK hP 1 0 rfl rfl g_22 dX3_isClosed_22 ?_
        obtain ⟨r_23, e_23, h1⟩ := ob1_inv h1
        refine k_pNi (rest := []) ⟨hx, hb, hml, hown, hts⟩ (c_X4_holds l dC dI cI cS r_2 (w_from x3_8.toNatClampNeg) r_23 e_23) ⟨va_cnB 2 hts gX3_isClosed_X4_holds_n87 rfl rfl rfl hN.2.1 (hts (.initialized RX4) (List.mem_of_getElem? (i := 14) rfl)) khd_X4_holds.2 ⟨Nat.le_of_ble_eq_true rfl, Nat.le_of_ble_eq_true rfl⟩, (hts (.static yX4_holds) (List.mem_of_getElem? (i := 20) rfl)), trivial⟩ hK hN hP (va_D_fst hD rfl) hS [] rfl rfl rfl hl.1 rfl (Nat.le_of_ble_eq_true rfl) dX3_isClosed_23 ⟨Nat.zero_le _, Nat.zero_le _⟩ (fun H locs hf_23 hP hS => ?_)
        refine lv_if_ne (tgt := 54) hx hb dX3_isClosed_26 (by decide) (fun c_26 => ?_) (fun c_26 => ?_)
        · have h1 := hp_neg c_26 h1
          refine lv_iinc (v := (x3_8 + (1 : Int32))) (lv' := [(3, .int (x3_8 + (1 : Int32))), (0, .ref a_w), (1, .int x1), (2, .int r_2)]) hx hb dX3_isClosed_54 hl (k := 3) rfl rfl (by decide) rfl (fun ls hl => ?_)
          refine lv_goto (tgt := 8) hx hb dX3_isClosed_57 (by decide) ?_
          cases h1
          exact ih_8 _ _ _ _ k1 hP hS (lv_sub hl [1, 2, 3, 0] rfl)
        · have h1 := hp_pos c_26 h1
          refine lv_iload_n hx hb dX3_isClosed_29 rfl (lv_at hl 2 rfl) ?_
          refine lv_aload_n hx hb dX3_isClosed_30 rfl (lv_at hl 0 rfl) ?_
          refine va_get (D := (dC, dI)) (ci := 3) (v := .ref a_w_to) (C := RX3) (T := TX3) (N := 7) hx hb hts kin_X3_isClosed_X3 hown hK hP 0 rfl rfl 5 (Nat.le_of_ble_eq_true rfl) (hts (.fieldLink RX3 28 "OwnedThings$Web" "to" "[I") (List.mem_of_getElem? (i := 3) rfl)) (fun _ h9 => h9) rfl dX3_isClosed_31 ?_
          refine lv_iload_n hx hb dX3_isClosed_34 rfl (lv_at hl 3 rfl) ?_
          have g_35 := hg_no h1
          have h1 := hg_yes h1
          refine va_iald (D := (dC, dI)) hx hb hK hP 2 0 rfl rfl g_35 dX3_isClosed_35 ?_
          obtain ⟨r_36, e_36, h1⟩ := ob1_inv h1
          refine k_pNi (rest := []) ⟨hx, hb, hml, hown, hts⟩ (c_X4_holds l dC dI cI cS r_2 (w_to x3_8.toNatClampNeg) r_36 e_36) ⟨va_cnB 2 hts gX3_isClosed_X4_holds_n87 rfl rfl rfl hN.2.1 (hts (.initialized RX4) (List.mem_of_getElem? (i := 14) rfl)) khd_X4_holds.2 ⟨Nat.le_of_ble_eq_true rfl, Nat.le_of_ble_eq_true rfl⟩, (hts (.static yX4_holds) (List.mem_of_getElem? (i := 20) rfl)), trivial⟩ hK hN hP (va_D_fst hD rfl) hS [] rfl rfl rfl hl.1 rfl (Nat.le_of_ble_eq_true rfl) dX3_isClosed_36 ⟨Nat.zero_le _, Nat.zero_le _⟩ (fun H locs hf_36 hP hS => ?_)
          refine lv_if_eq (tgt := 54) hx hb dX3_isClosed_39 (by decide) (fun c_39 => ?_) (fun c_39 => ?_)
          · have h1 := hp_pos c_39 h1
            refine lv_iinc (v := (x3_8 + (1 : Int32))) (lv' := [(3, .int (x3_8 + (1 : Int32))), (0, .ref a_w), (1, .int x1), (2, .int r_2)]) hx hb dX3_isClosed_54 hl (k := 3) rfl rfl (by decide) rfl (fun ls hl => ?_)
            refine lv_goto (tgt := 8) hx hb dX3_isClosed_57 (by decide) ?_
            cases h1
            exact ih_8 _ _ _ _ k1 hP hS (lv_sub hl [1, 2, 3, 0] rfl)
          · have h1 := hp_neg c_39 h1
            refine lv_aload_n hx hb dX3_isClosed_42 rfl (lv_at hl 0 rfl) ?_
            refine va_get (D := (dC, dI)) (ci := 3) (v := .ref a_w_to) (C := RX3) (T := TX3) (N := 7) hx hb hts kin_X3_isClosed_X3 hown hK hP 0 rfl rfl 5 (Nat.le_of_ble_eq_true rfl) (hts (.fieldLink RX3 28 "OwnedThings$Web" "to" "[I") (List.mem_of_getElem? (i := 3) rfl)) (fun _ h9 => h9) rfl dX3_isClosed_43 ?_
            refine lv_iload_n hx hb dX3_isClosed_46 rfl (lv_at hl 3 rfl) ?_
            have g_47 := hg_no h1
            have h1 := hg_yes h1
            refine va_iald (D := (dC, dI)) hx hb hK hP 2 0 rfl rfl g_47 dX3_isClosed_47 ?_
            refine lv_iload_n hx hb dX3_isClosed_48 rfl (lv_at hl 1 rfl) ?_
            refine lv_icmp_eq (tgt := 54) hx hb dX3_isClosed_49 (by decide) (fun c_49 => ?_) (fun c_49 => ?_)
            · have h1 := hp_pos c_49 h1
              refine lv_iinc (v := (x3_8 + (1 : Int32))) (lv' := [(3, .int (x3_8 + (1 : Int32))), (0, .ref a_w), (1, .int x1), (2, .int r_2)]) hx hb dX3_isClosed_54 hl (k := 3) rfl rfl (by decide) rfl (fun ls hl => ?_)
              refine lv_goto (tgt := 8) hx hb dX3_isClosed_57 (by decide) ?_
              cases h1
              exact ih_8 _ _ _ _ k1 hP hS (lv_sub hl [1, 2, 3, 0] rfl)
            · have h1 := hp_neg c_49 h1
              refine lv_iconst (v := 0) hx hb dX3_isClosed_52 (by decide) ?_
              cases h1
              obtain rfl := pj1 k1
              have h := congrArg some h
              obtain rfl := Option.some.inj h
              exact W.zret hx hb hr (nb01 (Or.inl rfl)) (fun t ht _ => kQ.mk ht trivial (Or.inl rfl) (hS.F ht)) hS.2.2 dX3_isClosed_53
  exact lp_8 FUEL _ _ _ _ i_8 hP hS (lv_sub hl [2, 3, 1, 0] rfl)
theorem kin_X3_standBefore_X3 : ∀ w ∈ wsX30, w ∈ wsX3_standBefore := fun _ h => List.mem_cons_of_mem _ (List.mem_append_right _ h)
theorem khd_X3_standBefore : yX3_standBefore.cls = RX3 ∧ yX3_standBefore.cls ≠ "java/lang/invoke/MethodHandle" ∧ yX3_standBefore.cls ≠ "java/lang/invoke/VarHandle" ∧ (parseMethodDescriptor yX3_standBefore.desc).map (fun d => d.parameters.length) = some 1 := by decide +kernel
set_option maxHeartbeats 8000000 in
set_option maxRecDepth 100000 in
theorem c_X3_standBefore (l : Launch) (dC : Nat → ClassId) (dI : Nat → Nat → Nat) (cI cS : ClassId) (a_w : Nat) (a_w_kind : Nat) (a_w_owner : Nat) (a_w_from : Nat) (a_w_to : Nat) (a_w_away : Nat) (w_count : Int32) (w_references : Int32) (w_from : Nat → Int32) (w_to : Nat → Int32) (x1 : Int32) (r : Int32) (h : f_X3_standBefore w_count w_references w_from w_to x1 = some r) : Mk l yX3_standBefore wsX3_standBefore ({ frames := 4, cells := 0, slots := 0, locals := 89 } : Room) (dC, dI) cI cS [(a_w, .inr (3, [.int w_count, .int w_references, .ref a_w_kind, .ref a_w_owner, .ref a_w_from, .ref a_w_to, .ref a_w_away])), (a_w_from, .inl (cI, 12, .inl w_from)), (a_w_to, .inl (cI, 12, .inl w_to))] [.ref a_w, .int x1] (some (.int r)) True (fun _ => True) noA := by
  refine Met.ofW (cc := cX3_standBefore) (maxL := 4) (ret := (some .int)) (by decide) rfl ?_
  intro p e s m args below meth c s₁ B hml hv
  obtain ⟨rfl, hP, hK, hN, hD⟩ := hv
  have hx := B.exec
  have hb := B.bytes
  have hr := B.returns
  have hts := atoms_spec (ws := wsX3_standBefore) B.pre
  have hown : s.vm.findClass RX3 = some m.cls := findClass_of_methodNamed B.named
  have hlocks := B.notSynchronized
  have hS : va_S noA s.heap s.heap [] := va_S.rf
  have hP : va_P (dC, dI) vwCl [(a_w, .inr (3, [.int w_count, .int w_references, .ref a_w_kind, .ref a_w_owner, .ref a_w_from, .ref a_w_to, .ref a_w_away])), (a_w_from, .inl (cI, 12, .inl w_from)), (a_w_to, .inl (cI, 12, .inl w_to))] s.heap := hP
  have hl := lv_entry ([.ref a_w, .int x1]) (n := 4) (Nat.le_of_ble_eq_true rfl)
  rw [lg_entry_eq]
  generalize (lg_sl ([.ref a_w, .int x1]) ++ List.replicate (4 - (lg_sl ([.ref a_w, .int x1])).length) Slot.unset).toArray = ls at hl ⊢
  have hl : lv_has ls 4 [(0, .ref a_w), (1, .int x1)] := hl
  unfold f_X3_standBefore at h
  refine lv_aload_n hx hb dX3_standBefore_0 rfl (lv_at hl 0 rfl) ?_
  obtain ⟨r_1, e_1, h⟩ := ob1_inv h
  refine k_pVi (i0 := 0) (rest := []) ⟨hx, hb, hml, hown, hts⟩ (c_X3_reached l dC dI cI cS a_w a_w_kind a_w_owner a_w_from a_w_to a_w_away w_count w_references w_from w_to r_1 e_1) (cwV 0 hts gX3_standBefore_X3_reached rfl rfl rfl khd_X3_reached ⟨Nat.le_of_ble_eq_true rfl, Nat.le_of_ble_eq_true rfl⟩) hK hN hP (va_D_fst hD rfl) hS [0, 1, 2] rfl rfl rfl rfl rfl rfl hl.1 rfl (Nat.le_of_ble_eq_true rfl) dX3_standBefore_1 ⟨Nat.zero_le _, Nat.zero_le _⟩ (fun H locs hf_1 hP hS => ?_)
  refine lv_iload_n hx hb dX3_standBefore_4 rfl (lv_at hl 1 rfl) ?_
  obtain ⟨r_5, e_5, h⟩ := ob1_inv h
  refine k_pNi (rest := []) ⟨hx, hb, hml, hown, hts⟩ (c_X4_holds l dC dI cI cS r_1 x1 r_5 e_5) ⟨va_cnB 2 hts gX3_standBefore_X4_holds_n87 rfl rfl rfl hN.2.1 (hts (.initialized RX4) (List.mem_of_getElem? (i := 11) rfl)) khd_X4_holds.2 ⟨Nat.le_of_ble_eq_true rfl, Nat.le_of_ble_eq_true rfl⟩, (hts (.static yX4_holds) (List.mem_of_getElem? (i := 20) rfl)), trivial⟩ hK hN hP (va_D_fst hD rfl) hS [] rfl rfl rfl hl.1 rfl (Nat.le_of_ble_eq_true rfl) dX3_standBefore_5 ⟨Nat.zero_le _, Nat.zero_le _⟩ (fun H locs hf_5 hP hS => ?_)
  refine lv_if_ne (tgt := 13) hx hb dX3_standBefore_8 (by decide) (fun c_8 => ?_) (fun c_8 => ?_)
  · have h := hp_neg c_8 h
    refine lv_iconst (v := 0) hx hb dX3_standBefore_13 (by decide) ?_
    refine lv_istore_n (lv' := [(2, .int (0 : Int32)), (0, .ref a_w), (1, .int x1)]) hx hb dX3_standBefore_14 rfl hl (by decide) rfl (fun ls hl => ?_)
    refine lv_iconst (v := 0) hx hb dX3_standBefore_15 (by decide) ?_
    refine lv_istore_n (lv' := [(3, .int (0 : Int32)), (2, .int (0 : Int32)), (0, .ref a_w), (1, .int x1)]) hx hb dX3_standBefore_16 rfl hl (by decide) rfl (fun ls hl => ?_)
    obtain ⟨y2_17, i_17, h⟩ := ob1_inv h
    have after_17 : ∀ (H : Heap) (locs : List Loc) (ls : Array Slot), va_P (dC, dI) vwCl [(a_w, .inr (3, [.int w_count, .int w_references, .ref a_w_kind, .ref a_w_owner, .ref a_w_from, .ref a_w_to, .ref a_w_away])), (a_w_from, .inl (cI, 12, .inl w_from)), (a_w_to, .inl (cI, 12, .inl w_to))] H → va_S noA s.heap H locs → lv_has ls 4 [(2, .int y2_17)] → W p l e (headSpec wsX3_standBefore ({ frames := 4, cells := 0, slots := 0, locals := 89 } : Room)).room s m ([.ref a_w, .int x1] : List Value).toArray below meth c H locs 0 0 (MQ below (kQ (some (.int r)) True (fun _ => True) noA) ([.ref a_w, .int x1] : List Value).toArray s 0 0 noA) (F0 m 58 ls []) := by
      intro H locs ls hP hS hl
      refine lv_iload_n hx hb dX3_standBefore_58 rfl (lv_at hl 0 rfl) ?_
      obtain rfl := Option.some.inj h
      exact W.iret hx hb hr (fun t ht _ => kQ.mk ht trivial trivial (hS.F ht)) hS.2.2 dX3_standBefore_59
    have lp_17 : ∀ (n : Nat) (x2_17 : Int32) (x3_17 : Int32) (H : Heap) (locs : List Loc) (ls : Array Slot), it (u2 (L_X3_standBefore_17 w_count w_references w_from w_to x1)) n (x2_17, x3_17) = some y2_17 → va_P (dC, dI) vwCl [(a_w, .inr (3, [.int w_count, .int w_references, .ref a_w_kind, .ref a_w_owner, .ref a_w_from, .ref a_w_to, .ref a_w_away])), (a_w_from, .inl (cI, 12, .inl w_from)), (a_w_to, .inl (cI, 12, .inl w_to))] H → va_S noA s.heap H locs → lv_has ls 4 [(0, .ref a_w), (1, .int x1), (2, .int x2_17), (3, .int x3_17)] → W p l e (headSpec wsX3_standBefore ({ frames := 4, cells := 0, slots := 0, locals := 89 } : Room)).room s m ([.ref a_w, .int x1] : List Value).toArray below meth c H locs 0 0 (MQ below (kQ (some (.int r)) True (fun _ => True) noA) ([.ref a_w, .int x1] : List Value).toArray s 0 0 noA) (F0 m 17 ls []) := by
      intro n
      induction n with
      | zero => intro x2_17 x3_17 H locs ls h1; exact (it_0 h1).elim
      | succ n ih_17 =>
        intro x2_17 x3_17 H locs ls h1 hP hS hl
        obtain ⟨t_17, h1, k1⟩ := it2_inv h1
        unfold L_X3_standBefore_17 at h1
        refine lv_iload_n hx hb dX3_standBefore_17 rfl (lv_at hl 3 rfl) ?_
        refine lv_bipush (v := 6) hx hb dX3_standBefore_18 (by decide) ?_
        refine lv_icmp_gt (tgt := 58) hx hb dX3_standBefore_20 (by decide) (fun c_20 => ?_) (fun c_20 => ?_)
        · have h1 := hp_pos c_20 h1
          cases h1
          obtain rfl := pj1 k1
          exact after_17 _ _ _ hP hS (lv_sub hl [2] rfl)
        · have h1 := hp_neg c_20 h1
          refine lv_aload_n hx hb dX3_standBefore_23 rfl (lv_at hl 0 rfl) ?_
          refine lv_iload_n hx hb dX3_standBefore_24 rfl (lv_at hl 3 rfl) ?_
          obtain ⟨r_25, e_25, h1⟩ := ob1_inv h1
          refine k_pVi (i0 := 0) (rest := []) ⟨hx, hb, hml, hown, hts⟩ (c_X3_mayOwn l dC dI cI cS a_w a_w_kind a_w_owner a_w_from a_w_to a_w_away w_count w_references x3_17 r_25 e_25) (cwV 1 hts gX3_standBefore_X3_mayOwn rfl rfl rfl khd_X3_mayOwn ⟨Nat.le_of_ble_eq_true rfl, Nat.le_of_ble_eq_true rfl⟩) hK hN hP (va_D_fst hD rfl) hS [0] rfl rfl rfl rfl rfl rfl hl.1 rfl (Nat.le_of_ble_eq_true rfl) dX3_standBefore_25 ⟨Nat.zero_le _, Nat.zero_le _⟩ (fun H locs hf_25 hP hS => ?_)
          refine lv_if_eq (tgt := 52) hx hb dX3_standBefore_28 (by decide) (fun c_28 => ?_) (fun c_28 => ?_)
          · have h1 := hp_pos c_28 h1
            refine lv_iinc (v := (x3_17 + (1 : Int32))) (lv' := [(3, .int (x3_17 + (1 : Int32))), (0, .ref a_w), (1, .int x1), (2, .int x2_17)]) hx hb dX3_standBefore_52 hl (k := 3) rfl rfl (by decide) rfl (fun ls hl => ?_)
            refine lv_goto (tgt := 17) hx hb dX3_standBefore_55 (by decide) ?_
            cases h1
            exact ih_17 _ _ _ _ _ k1 hP hS (lv_sub hl [1, 2, 3, 0] rfl)
          · have h1 := hp_neg c_28 h1
            refine lv_aload_n hx hb dX3_standBefore_31 rfl (lv_at hl 0 rfl) ?_
            refine lv_bipush (v := 6) hx hb dX3_standBefore_32 (by decide) ?_
            refine lv_iload_n hx hb dX3_standBefore_34 rfl (lv_at hl 3 rfl) ?_
            obtain ⟨r_35, e_35, h1⟩ := ob1_inv h1
            refine k_pVi (i0 := 0) (rest := []) ⟨hx, hb, hml, hown, hts⟩ (c_X3_ledTo l dC dI cI cS a_w a_w_kind a_w_owner a_w_from a_w_to a_w_away w_count w_references w_from w_to (6 : Int32) x3_17 r_35 e_35) (cwV 2 hts gX3_standBefore_X3_ledTo rfl rfl rfl khd_X3_ledTo ⟨Nat.le_of_ble_eq_true rfl, Nat.le_of_ble_eq_true rfl⟩) hK hN hP (va_D_fst hD rfl) hS [0, 1, 2] rfl rfl rfl rfl rfl rfl hl.1 rfl (Nat.le_of_ble_eq_true rfl) dX3_standBefore_35 ⟨Nat.zero_le _, Nat.zero_le _⟩ (fun H locs hf_35 hP hS => ?_)
            refine lv_iload_n hx hb dX3_standBefore_38 rfl (lv_at hl 1 rfl) ?_
            obtain ⟨r_39, e_39, h1⟩ := ob1_inv h1
            refine k_pNi (rest := []) ⟨hx, hb, hml, hown, hts⟩ (c_X4_holds l dC dI cI cS r_35 x1 r_39 e_39) ⟨va_cnB 2 hts gX3_standBefore_X4_holds_n87 rfl rfl rfl hN.2.1 (hts (.initialized RX4) (List.mem_of_getElem? (i := 11) rfl)) khd_X4_holds.2 ⟨Nat.le_of_ble_eq_true rfl, Nat.le_of_ble_eq_true rfl⟩, (hts (.static yX4_holds) (List.mem_of_getElem? (i := 20) rfl)), trivial⟩ hK hN hP (va_D_fst hD rfl) hS [] rfl rfl rfl hl.1 rfl (Nat.le_of_ble_eq_true rfl) dX3_standBefore_39 ⟨Nat.zero_le _, Nat.zero_le _⟩ (fun H locs hf_39 hP hS => ?_)
            refine lv_if_ne (tgt := 52) hx hb dX3_standBefore_42 (by decide) (fun c_42 => ?_) (fun c_42 => ?_)
            · have h1 := hp_neg c_42 h1
              refine lv_iinc (v := (x3_17 + (1 : Int32))) (lv' := [(3, .int (x3_17 + (1 : Int32))), (0, .ref a_w), (1, .int x1), (2, .int x2_17)]) hx hb dX3_standBefore_52 hl (k := 3) rfl rfl (by decide) rfl (fun ls hl => ?_)
              refine lv_goto (tgt := 17) hx hb dX3_standBefore_55 (by decide) ?_
              cases h1
              exact ih_17 _ _ _ _ _ k1 hP hS (lv_sub hl [1, 2, 3, 0] rfl)
            · have h1 := hp_pos c_42 h1
              refine lv_iload_n hx hb dX3_standBefore_45 rfl (lv_at hl 2 rfl) ?_
              refine lv_iload_n hx hb dX3_standBefore_46 rfl (lv_at hl 3 rfl) ?_
              obtain ⟨r_47, e_47, h1⟩ := ob1_inv h1
              refine k_pNi (rest := [.int x2_17]) ⟨hx, hb, hml, hown, hts⟩ (c_X4_bit l dC dI cI cS x3_17 r_47 e_47) ⟨va_cnB 1 hts gX3_standBefore_X4_bit_n81 rfl rfl rfl hN.1 (hts (.initialized RX4) (List.mem_of_getElem? (i := 11) rfl)) khd_X4_bit.2 ⟨Nat.le_of_ble_eq_true rfl, Nat.le_of_ble_eq_true rfl⟩, (hts (.static yX4_bit) (List.mem_of_getElem? (i := 10) rfl)), trivial⟩ hK hN hP (va_D_fst hD rfl) hS [] rfl rfl rfl hl.1 rfl (Nat.le_of_ble_eq_true rfl) dX3_standBefore_47 ⟨Nat.zero_le _, Nat.zero_le _⟩ (fun H locs hf_47 hP hS => ?_)
              refine lv_ior hx hb dX3_standBefore_50 ?_
              refine lv_istore_n (lv' := [(2, .int (x2_17 ||| r_47)), (0, .ref a_w), (1, .int x1), (3, .int x3_17)]) hx hb dX3_standBefore_51 rfl hl (by decide) rfl (fun ls hl => ?_)
              refine lv_iinc (v := (x3_17 + (1 : Int32))) (lv' := [(3, .int (x3_17 + (1 : Int32))), (2, .int (x2_17 ||| r_47)), (0, .ref a_w), (1, .int x1)]) hx hb dX3_standBefore_52 hl (k := 3) rfl rfl (by decide) rfl (fun ls hl => ?_)
              refine lv_goto (tgt := 17) hx hb dX3_standBefore_55 (by decide) ?_
              cases h1
              exact ih_17 _ _ _ _ _ k1 hP hS (lv_sub hl [2, 3, 1, 0] rfl)
    exact lp_17 FUEL _ _ _ _ _ i_17 hP hS (lv_sub hl [2, 3, 1, 0] rfl)
  · have h := hp_pos c_8 h
    refine lv_iconst (v := 0) hx hb dX3_standBefore_11 (by decide) ?_
    obtain rfl := Option.some.inj h
    exact W.iret hx hb hr (fun t ht _ => kQ.mk ht trivial trivial (hS.F ht)) hS.2.2 dX3_standBefore_12
theorem kin_X3_isLawful_X3 : ∀ w ∈ wsX30, w ∈ wsX3_isLawful := fun _ h => List.mem_cons_of_mem _ (List.mem_append_right _ h)
theorem khd_X3_isLawful : yX3_isLawful.cls = RX3 ∧ yX3_isLawful.cls ≠ "java/lang/invoke/MethodHandle" ∧ yX3_isLawful.cls ≠ "java/lang/invoke/VarHandle" ∧ (parseMethodDescriptor yX3_isLawful.desc).map (fun d => d.parameters.length) = some 1 := by decide +kernel
set_option maxHeartbeats 8000000 in
set_option maxRecDepth 100000 in
theorem c_X3_isLawful (l : Launch) (dC : Nat → ClassId) (dI : Nat → Nat → Nat) (cI cS : ClassId) (a_w : Nat) (a_w_kind : Nat) (a_w_owner : Nat) (a_w_from : Nat) (a_w_to : Nat) (a_w_away : Nat) (w_count : Int32) (w_references : Int32) (w_owner : Nat → Int32) (w_from : Nat → Int32) (w_to : Nat → Int32) (x1 : Int32) (r : Int32) (h : f_X3_isLawful w_count w_references w_owner w_from w_to x1 = some r) : Mk l yX3_isLawful wsX3_isLawful ({ frames := 3, cells := 0, slots := 0, locals := 69 } : Room) (dC, dI) cI cS [(a_w, .inr (3, [.int w_count, .int w_references, .ref a_w_kind, .ref a_w_owner, .ref a_w_from, .ref a_w_to, .ref a_w_away])), (a_w_owner, .inl (cI, 6, .inl w_owner)), (a_w_from, .inl (cI, 12, .inl w_from)), (a_w_to, .inl (cI, 12, .inl w_to))] [.ref a_w, .int x1] (some (.int r)) (r = 0 ∨ r = 1) (fun _ => True) noA := by
  refine Met.ofW (cc := cX3_isLawful) (maxL := 2) (ret := (some .boolean)) (by decide) rfl ?_
  intro p e s m args below meth c s₁ B hml hv
  obtain ⟨rfl, hP, hK, hN, hD⟩ := hv
  have hx := B.exec
  have hb := B.bytes
  have hr := B.returns
  have hts := atoms_spec (ws := wsX3_isLawful) B.pre
  have hown : s.vm.findClass RX3 = some m.cls := findClass_of_methodNamed B.named
  have hlocks := B.notSynchronized
  have hS : va_S noA s.heap s.heap [] := va_S.rf
  have hP : va_P (dC, dI) vwCl [(a_w, .inr (3, [.int w_count, .int w_references, .ref a_w_kind, .ref a_w_owner, .ref a_w_from, .ref a_w_to, .ref a_w_away])), (a_w_owner, .inl (cI, 6, .inl w_owner)), (a_w_from, .inl (cI, 12, .inl w_from)), (a_w_to, .inl (cI, 12, .inl w_to))] s.heap := hP
  have hl := lv_entry ([.ref a_w, .int x1]) (n := 2) (Nat.le_of_ble_eq_true rfl)
  rw [lg_entry_eq]
  generalize (lg_sl ([.ref a_w, .int x1]) ++ List.replicate (2 - (lg_sl ([.ref a_w, .int x1])).length) Slot.unset).toArray = ls at hl ⊢
  have hl : lv_has ls 2 [(0, .ref a_w), (1, .int x1)] := hl
  unfold f_X3_isLawful at h
  refine lv_aload_n hx hb dX3_isLawful_0 rfl (lv_at hl 0 rfl) ?_
  refine lv_bipush (v := 6) hx hb dX3_isLawful_1 (by decide) ?_
  refine lv_aload_n hx hb dX3_isLawful_3 rfl (lv_at hl 0 rfl) ?_
  refine lv_iload_n hx hb dX3_isLawful_4 rfl (lv_at hl 1 rfl) ?_
  obtain ⟨r_5, e_5, h⟩ := ob1_inv h
  refine k_pVi (i0 := 0) (rest := [.int (6 : Int32), .ref a_w]) ⟨hx, hb, hml, hown, hts⟩ (c_X3_ownerOf l dC dI cI cS a_w a_w_kind a_w_owner a_w_from a_w_to a_w_away w_count w_references w_owner x1 r_5 e_5) (cwV 1 hts gX3_isLawful_X3_ownerOf rfl rfl rfl khd_X3_ownerOf ⟨Nat.le_of_ble_eq_true rfl, Nat.le_of_ble_eq_true rfl⟩) hK hN hP (va_D_fst hD rfl) hS [0, 1] rfl rfl rfl rfl rfl rfl hl.1 rfl (Nat.le_of_ble_eq_true rfl) dX3_isLawful_5 ⟨Nat.zero_le _, Nat.zero_le _⟩ (fun H locs hf_5 hP hS => ?_)
  obtain ⟨r_8, e_8, h⟩ := ob1_inv h
  refine k_pVi (i0 := 0) (rest := []) ⟨hx, hb, hml, hown, hts⟩ (c_X3_ledTo l dC dI cI cS a_w a_w_kind a_w_owner a_w_from a_w_to a_w_away w_count w_references w_from w_to (6 : Int32) r_5 r_8 e_8) (cwV 2 hts gX3_isLawful_X3_ledTo rfl rfl rfl khd_X3_ledTo ⟨Nat.le_of_ble_eq_true rfl, Nat.le_of_ble_eq_true rfl⟩) hK hN hP (va_D_fst hD rfl) hS [0, 2, 3] rfl rfl rfl rfl rfl rfl hl.1 rfl (Nat.le_of_ble_eq_true rfl) dX3_isLawful_8 ⟨Nat.zero_le _, Nat.zero_le _⟩ (fun H locs hf_8 hP hS => ?_)
  refine lv_iload_n hx hb dX3_isLawful_11 rfl (lv_at hl 1 rfl) ?_
  obtain ⟨r_12, e_12, h⟩ := ob1_inv h
  refine k_pNi (rest := []) ⟨hx, hb, hml, hown, hts⟩ (c_X4_holds l dC dI cI cS r_8 x1 r_12 e_12) ⟨va_cnB 2 hts gX3_isLawful_X4_holds_n87 rfl rfl rfl hN.2.1 (hts (.initialized RX4) (List.mem_of_getElem? (i := 17) rfl)) khd_X4_holds.2 ⟨Nat.le_of_ble_eq_true rfl, Nat.le_of_ble_eq_true rfl⟩, (hts (.static yX4_holds) (List.mem_of_getElem? (i := 26) rfl)), trivial⟩ hK hN hP (va_D_fst hD rfl) hS [] rfl rfl rfl hl.1 rfl (Nat.le_of_ble_eq_true rfl) dX3_isLawful_12 ⟨Nat.zero_le _, Nat.zero_le _⟩ (fun H locs hf_12 hP hS => ?_)
  refine lv_if_ne (tgt := 22) hx hb dX3_isLawful_15 (by decide) (fun c_15 => ?_) (fun c_15 => ?_)
  · have h := hp_neg c_15 h
    refine lv_iconst (v := 0) hx hb dX3_isLawful_22 (by decide) ?_
    obtain rfl := Option.some.inj h
    exact W.zret hx hb hr (nb01 (Or.inl rfl)) (fun t ht _ => kQ.mk ht trivial (Or.inl rfl) (hS.F ht)) hS.2.2 dX3_isLawful_23
  · have h := hp_pos c_15 h
    refine lv_iconst (v := 1) hx hb dX3_isLawful_18 (by decide) ?_
    refine lv_goto (tgt := 23) hx hb dX3_isLawful_19 (by decide) ?_
    obtain rfl := Option.some.inj h
    exact W.zret hx hb hr (nb01 (Or.inr rfl)) (fun t ht _ => kQ.mk ht trivial (Or.inr rfl) (hS.F ht)) hS.2.2 dX3_isLawful_23
theorem kin_X3_notLawful_X3 : ∀ w ∈ wsX30, w ∈ wsX3_notLawful := fun _ h => List.mem_cons_of_mem _ (List.mem_append_right _ h)
theorem khd_X3_notLawful : yX3_notLawful.cls = RX3 ∧ yX3_notLawful.cls ≠ "java/lang/invoke/MethodHandle" ∧ yX3_notLawful.cls ≠ "java/lang/invoke/VarHandle" ∧ (parseMethodDescriptor yX3_notLawful.desc).map (fun d => d.parameters.length) = some 0 := by decide +kernel
set_option maxHeartbeats 8000000 in
set_option maxRecDepth 100000 in
theorem c_X3_notLawful (l : Launch) (dC : Nat → ClassId) (dI : Nat → Nat → Nat) (cI cS : ClassId) (a_w : Nat) (a_w_kind : Nat) (a_w_owner : Nat) (a_w_from : Nat) (a_w_to : Nat) (a_w_away : Nat) (w_count : Int32) (w_references : Int32) (w_owner : Nat → Int32) (w_from : Nat → Int32) (w_to : Nat → Int32) (r : Int32) (h : f_X3_notLawful w_count w_references w_owner w_from w_to = some r) : Mk l yX3_notLawful wsX3_notLawful ({ frames := 4, cells := 0, slots := 0, locals := 90 } : Room) (dC, dI) cI cS [(a_w, .inr (3, [.int w_count, .int w_references, .ref a_w_kind, .ref a_w_owner, .ref a_w_from, .ref a_w_to, .ref a_w_away])), (a_w_owner, .inl (cI, 6, .inl w_owner)), (a_w_from, .inl (cI, 12, .inl w_from)), (a_w_to, .inl (cI, 12, .inl w_to))] [.ref a_w] (some (.int r)) True (fun _ => True) noA := by
  refine Met.ofW (cc := cX3_notLawful) (maxL := 3) (ret := (some .int)) (by decide) rfl ?_
  intro p e s m args below meth c s₁ B hml hv
  obtain ⟨rfl, hP, hK, hN, hD⟩ := hv
  have hx := B.exec
  have hb := B.bytes
  have hr := B.returns
  have hts := atoms_spec (ws := wsX3_notLawful) B.pre
  have hown : s.vm.findClass RX3 = some m.cls := findClass_of_methodNamed B.named
  have hlocks := B.notSynchronized
  have hS : va_S noA s.heap s.heap [] := va_S.rf
  have hP : va_P (dC, dI) vwCl [(a_w, .inr (3, [.int w_count, .int w_references, .ref a_w_kind, .ref a_w_owner, .ref a_w_from, .ref a_w_to, .ref a_w_away])), (a_w_owner, .inl (cI, 6, .inl w_owner)), (a_w_from, .inl (cI, 12, .inl w_from)), (a_w_to, .inl (cI, 12, .inl w_to))] s.heap := hP
  have hl := lv_entry ([.ref a_w]) (n := 3) (Nat.le_of_ble_eq_true rfl)
  rw [lg_entry_eq]
  generalize (lg_sl ([.ref a_w]) ++ List.replicate (3 - (lg_sl ([.ref a_w])).length) Slot.unset).toArray = ls at hl ⊢
  have hl : lv_has ls 3 [(0, .ref a_w)] := hl
  unfold f_X3_notLawful at h
  refine lv_iconst (v := 0) hx hb dX3_notLawful_0 (by decide) ?_
  refine lv_istore_n (lv' := [(1, .int (0 : Int32)), (0, .ref a_w)]) hx hb dX3_notLawful_1 rfl hl (by decide) rfl (fun ls hl => ?_)
  refine lv_iconst (v := 0) hx hb dX3_notLawful_2 (by decide) ?_
  refine lv_istore_n (lv' := [(2, .int (0 : Int32)), (1, .int (0 : Int32)), (0, .ref a_w)]) hx hb dX3_notLawful_3 rfl hl (by decide) rfl (fun ls hl => ?_)
  obtain ⟨y1_4, i_4, h⟩ := ob1_inv h
  have after_4 : ∀ (H : Heap) (locs : List Loc) (ls : Array Slot), va_P (dC, dI) vwCl [(a_w, .inr (3, [.int w_count, .int w_references, .ref a_w_kind, .ref a_w_owner, .ref a_w_from, .ref a_w_to, .ref a_w_away])), (a_w_owner, .inl (cI, 6, .inl w_owner)), (a_w_from, .inl (cI, 12, .inl w_from)), (a_w_to, .inl (cI, 12, .inl w_to))] H → va_S noA s.heap H locs → lv_has ls 3 [(1, .int y1_4)] → W p l e (headSpec wsX3_notLawful ({ frames := 4, cells := 0, slots := 0, locals := 90 } : Room)).room s m ([.ref a_w] : List Value).toArray below meth c H locs 0 0 (MQ below (kQ (some (.int r)) True (fun _ => True) noA) ([.ref a_w] : List Value).toArray s 0 0 noA) (F0 m 33 ls []) := by
    intro H locs ls hP hS hl
    refine lv_iload_n hx hb dX3_notLawful_33 rfl (lv_at hl 0 rfl) ?_
    obtain rfl := Option.some.inj h
    exact W.iret hx hb hr (fun t ht _ => kQ.mk ht trivial trivial (hS.F ht)) hS.2.2 dX3_notLawful_34
  have lp_4 : ∀ (n : Nat) (x1_4 : Int32) (x2_4 : Int32) (H : Heap) (locs : List Loc) (ls : Array Slot), it (u2 (L_X3_notLawful_4 w_count w_references w_owner w_from w_to)) n (x1_4, x2_4) = some y1_4 → va_P (dC, dI) vwCl [(a_w, .inr (3, [.int w_count, .int w_references, .ref a_w_kind, .ref a_w_owner, .ref a_w_from, .ref a_w_to, .ref a_w_away])), (a_w_owner, .inl (cI, 6, .inl w_owner)), (a_w_from, .inl (cI, 12, .inl w_from)), (a_w_to, .inl (cI, 12, .inl w_to))] H → va_S noA s.heap H locs → lv_has ls 3 [(0, .ref a_w), (1, .int x1_4), (2, .int x2_4)] → W p l e (headSpec wsX3_notLawful ({ frames := 4, cells := 0, slots := 0, locals := 90 } : Room)).room s m ([.ref a_w] : List Value).toArray below meth c H locs 0 0 (MQ below (kQ (some (.int r)) True (fun _ => True) noA) ([.ref a_w] : List Value).toArray s 0 0 noA) (F0 m 4 ls []) := by
    intro n
    induction n with
    | zero => intro x1_4 x2_4 H locs ls h1; exact (it_0 h1).elim
    | succ n ih_4 =>
      intro x1_4 x2_4 H locs ls h1 hP hS hl
      obtain ⟨t_4, h1, k1⟩ := it2_inv h1
      unfold L_X3_notLawful_4 at h1
      refine lv_iload_n hx hb dX3_notLawful_4 rfl (lv_at hl 2 rfl) ?_
      refine lv_aload_n hx hb dX3_notLawful_5 rfl (lv_at hl 0 rfl) ?_
      refine va_get (D := (dC, dI)) (ci := 3) (v := .int w_count) (C := RX3) (T := TX3) (N := 7) hx hb hts kin_X3_notLawful_X3 hown hK hP 0 rfl rfl 0 (Nat.le_of_ble_eq_true rfl) (hts (.fieldLink RX3 9 "OwnedThings$Web" "count" "I") (List.mem_of_getElem? (i := 1) rfl)) (fun _ h9 => h9) rfl dX3_notLawful_6 ?_
      refine lv_icmp_ge (tgt := 33) hx hb dX3_notLawful_9 (by decide) (fun c_9 => ?_) (fun c_9 => ?_)
      · have h1 := hp_pos c_9 h1
        cases h1
        obtain rfl := pj1 k1
        exact after_4 _ _ _ hP hS (lv_sub hl [1] rfl)
      · have h1 := hp_neg c_9 h1
        refine lv_aload_n hx hb dX3_notLawful_12 rfl (lv_at hl 0 rfl) ?_
        refine lv_iload_n hx hb dX3_notLawful_13 rfl (lv_at hl 2 rfl) ?_
        obtain ⟨r_14, e_14, h1⟩ := ob1_inv h1
        refine k_pVi (i0 := 0) (rest := []) ⟨hx, hb, hml, hown, hts⟩ (c_X3_isLawful l dC dI cI cS a_w a_w_kind a_w_owner a_w_from a_w_to a_w_away w_count w_references w_owner w_from w_to x2_4 r_14 e_14) (cwV 1 hts gX3_notLawful_X3_isLawful rfl rfl rfl khd_X3_isLawful ⟨Nat.le_of_ble_eq_true rfl, Nat.le_of_ble_eq_true rfl⟩) hK hN hP (va_D_fst hD rfl) hS [0, 1, 2, 3] rfl rfl rfl rfl rfl rfl hl.1 rfl (Nat.le_of_ble_eq_true rfl) dX3_notLawful_14 ⟨Nat.zero_le _, Nat.zero_le _⟩ (fun H locs hf_14 hP hS => ?_)
        refine lv_if_ne (tgt := 27) hx hb dX3_notLawful_17 (by decide) (fun c_17 => ?_) (fun c_17 => ?_)
        · have h1 := hp_neg c_17 h1
          refine lv_iinc (v := (x2_4 + (1 : Int32))) (lv' := [(2, .int (x2_4 + (1 : Int32))), (0, .ref a_w), (1, .int x1_4)]) hx hb dX3_notLawful_27 hl (k := 2) rfl rfl (by decide) rfl (fun ls hl => ?_)
          refine lv_goto (tgt := 4) hx hb dX3_notLawful_30 (by decide) ?_
          cases h1
          exact ih_4 _ _ _ _ _ k1 hP hS (lv_sub hl [1, 2, 0] rfl)
        · have h1 := hp_pos c_17 h1
          refine lv_iload_n hx hb dX3_notLawful_20 rfl (lv_at hl 1 rfl) ?_
          refine lv_iload_n hx hb dX3_notLawful_21 rfl (lv_at hl 2 rfl) ?_
          obtain ⟨r_22, e_22, h1⟩ := ob1_inv h1
          refine k_pNi (rest := [.int x1_4]) ⟨hx, hb, hml, hown, hts⟩ (c_X4_bit l dC dI cI cS x2_4 r_22 e_22) ⟨va_cnB 1 hts gX3_notLawful_X4_bit_n81 rfl rfl rfl hN.1 (hts (.initialized RX4) (List.mem_of_getElem? (i := 21) rfl)) khd_X4_bit.2 ⟨Nat.le_of_ble_eq_true rfl, Nat.le_of_ble_eq_true rfl⟩, (hts (.static yX4_bit) (List.mem_of_getElem? (i := 20) rfl)), trivial⟩ hK hN hP (va_D_fst hD rfl) hS [] rfl rfl rfl hl.1 rfl (Nat.le_of_ble_eq_true rfl) dX3_notLawful_22 ⟨Nat.zero_le _, Nat.zero_le _⟩ (fun H locs hf_22 hP hS => ?_)
          refine lv_ior hx hb dX3_notLawful_25 ?_
          refine lv_istore_n (lv' := [(1, .int (x1_4 ||| r_22)), (0, .ref a_w), (2, .int x2_4)]) hx hb dX3_notLawful_26 rfl hl (by decide) rfl (fun ls hl => ?_)
          refine lv_iinc (v := (x2_4 + (1 : Int32))) (lv' := [(2, .int (x2_4 + (1 : Int32))), (1, .int (x1_4 ||| r_22)), (0, .ref a_w)]) hx hb dX3_notLawful_27 hl (k := 2) rfl rfl (by decide) rfl (fun ls hl => ?_)
          refine lv_goto (tgt := 4) hx hb dX3_notLawful_30 (by decide) ?_
          cases h1
          exact ih_4 _ _ _ _ _ k1 hP hS (lv_sub hl [2, 1, 0] rfl)
  exact lp_4 FUEL _ _ _ _ _ i_4 hP hS (lv_sub hl [2, 1, 0] rfl)
theorem khd_J6_bitCount_0f7a4 : yJ6_bitCount_0f7a4.cls = RJ6 ∧ yJ6_bitCount_0f7a4.cls ≠ "java/lang/invoke/MethodHandle" ∧ yJ6_bitCount_0f7a4.cls ≠ "java/lang/invoke/VarHandle" ∧ (parseMethodDescriptor yJ6_bitCount_0f7a4.desc).map (fun d => d.parameters.length) = some 1 := by decide +kernel
set_option maxHeartbeats 8000000 in
set_option maxRecDepth 100000 in
theorem c_J6_bitCount_0f7a4 (l : Launch) (dC : Nat → ClassId) (dI : Nat → Nat → Nat) (cI cS : ClassId) (x0 : Int32) (r : Int32) (h : f_J6_bitCount_0f7a4 x0 = some r) : Mk l yJ6_bitCount_0f7a4 wsJ6_bitCount_0f7a4 ({ frames := 0, cells := 0, slots := 0, locals := 0 } : Room) (dC, dI) cI cS [] [.int x0] (some (.int r)) True (fun _ => True) noA := by
  refine Met.ofW (cc := cJ6_bitCount_0f7a4) (maxL := 1) (ret := (some .int)) (by decide) rfl ?_
  intro p e s m args below meth c s₁ B hml hv
  obtain ⟨rfl, hP, hK, hN, hD⟩ := hv
  have hx := B.exec
  have hb := B.bytes
  have hr := B.returns
  have hts := atoms_spec (ws := wsJ6_bitCount_0f7a4) B.pre
  have hown : s.vm.findClass RJ6 = some m.cls := findClass_of_methodNamed B.named
  have hlocks := B.notSynchronized
  have hS : va_S noA s.heap s.heap [] := va_S.rf
  have hP : va_P (dC, dI) vwCl [] s.heap := hP
  have hl := lv_entry ([.int x0]) (n := 1) (Nat.le_of_ble_eq_true rfl)
  rw [lg_entry_eq]
  generalize (lg_sl ([.int x0]) ++ List.replicate (1 - (lg_sl ([.int x0])).length) Slot.unset).toArray = ls at hl ⊢
  have hl : lv_has ls 1 [(0, .int x0)] := hl
  unfold f_J6_bitCount_0f7a4 at h
  refine lv_iload_n hx hb dJ6_bitCount_0f7a4_0 rfl (lv_at hl 0 rfl) ?_
  refine lv_iload_n hx hb dJ6_bitCount_0f7a4_1 rfl (lv_at hl 0 rfl) ?_
  refine lv_iconst (v := 1) hx hb dJ6_bitCount_0f7a4_2 (by decide) ?_
  refine lv_iushr (v := (x0.toUInt32 >>> ((1 : Int32).toUInt32 &&& Int32.toUInt32 31)).toInt32) hx hb dJ6_bitCount_0f7a4_3 rfl ?_
  refine lv_ldcw hx hb hown (hts (.constant RJ6 265 (1431655765)) (List.mem_of_getElem? (i := 1) rfl)) dJ6_bitCount_0f7a4_4 ?_
  refine lv_iand hx hb dJ6_bitCount_0f7a4_7 ?_
  refine lv_isub hx hb dJ6_bitCount_0f7a4_8 ?_
  refine lv_istore_n (lv' := [(0, .int (x0 - ((x0.toUInt32 >>> ((1 : Int32).toUInt32 &&& Int32.toUInt32 31)).toInt32 &&& (1431655765 : Int32))))]) hx hb dJ6_bitCount_0f7a4_9 rfl hl (by decide) rfl (fun ls hl => ?_)
  refine lv_iload_n hx hb dJ6_bitCount_0f7a4_10 rfl (lv_at hl 0 rfl) ?_
  refine lv_ldcw hx hb hown (hts (.constant RJ6 266 (858993459)) (List.mem_of_getElem? (i := 2) rfl)) dJ6_bitCount_0f7a4_11 ?_
  refine lv_iand hx hb dJ6_bitCount_0f7a4_14 ?_
  refine lv_iload_n hx hb dJ6_bitCount_0f7a4_15 rfl (lv_at hl 0 rfl) ?_
  refine lv_iconst (v := 2) hx hb dJ6_bitCount_0f7a4_16 (by decide) ?_
  refine lv_iushr (v := ((x0 - ((x0.toUInt32 >>> ((1 : Int32).toUInt32 &&& Int32.toUInt32 31)).toInt32 &&& (1431655765 : Int32))).toUInt32 >>> ((2 : Int32).toUInt32 &&& Int32.toUInt32 31)).toInt32) hx hb dJ6_bitCount_0f7a4_17 rfl ?_
  refine lv_ldcw hx hb hown (hts (.constant RJ6 266 (858993459)) (List.mem_of_getElem? (i := 2) rfl)) dJ6_bitCount_0f7a4_18 ?_
  refine lv_iand hx hb dJ6_bitCount_0f7a4_21 ?_
  refine lv_iadd hx hb dJ6_bitCount_0f7a4_22 ?_
  refine lv_istore_n (lv' := [(0, .int (((x0 - ((x0.toUInt32 >>> ((1 : Int32).toUInt32 &&& Int32.toUInt32 31)).toInt32 &&& (1431655765 : Int32))) &&& (858993459 : Int32)) + (((x0 - ((x0.toUInt32 >>> ((1 : Int32).toUInt32 &&& Int32.toUInt32 31)).toInt32 &&& (1431655765 : Int32))).toUInt32 >>> ((2 : Int32).toUInt32 &&& Int32.toUInt32 31)).toInt32 &&& (858993459 : Int32))))]) hx hb dJ6_bitCount_0f7a4_23 rfl hl (by decide) rfl (fun ls hl => ?_)
  refine lv_iload_n hx hb dJ6_bitCount_0f7a4_24 rfl (lv_at hl 0 rfl) ?_
  refine lv_iload_n hx hb dJ6_bitCount_0f7a4_25 rfl (lv_at hl 0 rfl) ?_
  refine lv_iconst (v := 4) hx hb dJ6_bitCount_0f7a4_26 (by decide) ?_
  refine lv_iushr (v := ((((x0 - ((x0.toUInt32 >>> ((1 : Int32).toUInt32 &&& Int32.toUInt32 31)).toInt32 &&& (1431655765 : Int32))) &&& (858993459 : Int32)) + (((x0 - ((x0.toUInt32 >>> ((1 : Int32).toUInt32 &&& Int32.toUInt32 31)).toInt32 &&& (1431655765 : Int32))).toUInt32 >>> ((2 : Int32).toUInt32 &&& Int32.toUInt32 31)).toInt32 &&& (858993459 : Int32))).toUInt32 >>> ((4 : Int32).toUInt32 &&& Int32.toUInt32 31)).toInt32) hx hb dJ6_bitCount_0f7a4_27 rfl ?_
  refine lv_iadd hx hb dJ6_bitCount_0f7a4_28 ?_
  refine lv_ldcw hx hb hown (hts (.constant RJ6 267 (252645135)) (List.mem_of_getElem? (i := 3) rfl)) dJ6_bitCount_0f7a4_29 ?_
  refine lv_iand hx hb dJ6_bitCount_0f7a4_32 ?_
  refine lv_istore_n (lv' := [(0, .int (((((x0 - ((x0.toUInt32 >>> ((1 : Int32).toUInt32 &&& Int32.toUInt32 31)).toInt32 &&& (1431655765 : Int32))) &&& (858993459 : Int32)) + (((x0 - ((x0.toUInt32 >>> ((1 : Int32).toUInt32 &&& Int32.toUInt32 31)).toInt32 &&& (1431655765 : Int32))).toUInt32 >>> ((2 : Int32).toUInt32 &&& Int32.toUInt32 31)).toInt32 &&& (858993459 : Int32))) + ((((x0 - ((x0.toUInt32 >>> ((1 : Int32).toUInt32 &&& Int32.toUInt32 31)).toInt32 &&& (1431655765 : Int32))) &&& (858993459 : Int32)) + (((x0 - ((x0.toUInt32 >>> ((1 : Int32).toUInt32 &&& Int32.toUInt32 31)).toInt32 &&& (1431655765 : Int32))).toUInt32 >>> ((2 : Int32).toUInt32 &&& Int32.toUInt32 31)).toInt32 &&& (858993459 : Int32))).toUInt32 >>> ((4 : Int32).toUInt32 &&& Int32.toUInt32 31)).toInt32) &&& (252645135 : Int32)))]) hx hb dJ6_bitCount_0f7a4_33 rfl hl (by decide) rfl (fun ls hl => ?_)
  refine lv_iload_n hx hb dJ6_bitCount_0f7a4_34 rfl (lv_at hl 0 rfl) ?_
  refine lv_iload_n hx hb dJ6_bitCount_0f7a4_35 rfl (lv_at hl 0 rfl) ?_
  refine lv_bipush (v := 8) hx hb dJ6_bitCount_0f7a4_36 (by decide) ?_
  refine lv_iushr (v := ((((((x0 - ((x0.toUInt32 >>> ((1 : Int32).toUInt32 &&& Int32.toUInt32 31)).toInt32 &&& (1431655765 : Int32))) &&& (858993459 : Int32)) + (((x0 - ((x0.toUInt32 >>> ((1 : Int32).toUInt32 &&& Int32.toUInt32 31)).toInt32 &&& (1431655765 : Int32))).toUInt32 >>> ((2 : Int32).toUInt32 &&& Int32.toUInt32 31)).toInt32 &&& (858993459 : Int32))) + ((((x0 - ((x0.toUInt32 >>> ((1 : Int32).toUInt32 &&& Int32.toUInt32 31)).toInt32 &&& (1431655765 : Int32))) &&& (858993459 : Int32)) + (((x0 - ((x0.toUInt32 >>> ((1 : Int32).toUInt32 &&& Int32.toUInt32 31)).toInt32 &&& (1431655765 : Int32))).toUInt32 >>> ((2 : Int32).toUInt32 &&& Int32.toUInt32 31)).toInt32 &&& (858993459 : Int32))).toUInt32 >>> ((4 : Int32).toUInt32 &&& Int32.toUInt32 31)).toInt32) &&& (252645135 : Int32)).toUInt32 >>> ((8 : Int32).toUInt32 &&& Int32.toUInt32 31)).toInt32) hx hb dJ6_bitCount_0f7a4_38 rfl ?_
  refine lv_iadd hx hb dJ6_bitCount_0f7a4_39 ?_
  refine lv_istore_n (lv' := [(0, .int ((((((x0 - ((x0.toUInt32 >>> ((1 : Int32).toUInt32 &&& Int32.toUInt32 31)).toInt32 &&& (1431655765 : Int32))) &&& (858993459 : Int32)) + (((x0 - ((x0.toUInt32 >>> ((1 : Int32).toUInt32 &&& Int32.toUInt32 31)).toInt32 &&& (1431655765 : Int32))).toUInt32 >>> ((2 : Int32).toUInt32 &&& Int32.toUInt32 31)).toInt32 &&& (858993459 : Int32))) + ((((x0 - ((x0.toUInt32 >>> ((1 : Int32).toUInt32 &&& Int32.toUInt32 31)).toInt32 &&& (1431655765 : Int32))) &&& (858993459 : Int32)) + (((x0 - ((x0.toUInt32 >>> ((1 : Int32).toUInt32 &&& Int32.toUInt32 31)).toInt32 &&& (1431655765 : Int32))).toUInt32 >>> ((2 : Int32).toUInt32 &&& Int32.toUInt32 31)).toInt32 &&& (858993459 : Int32))).toUInt32 >>> ((4 : Int32).toUInt32 &&& Int32.toUInt32 31)).toInt32) &&& (252645135 : Int32)) + ((((((x0 - ((x0.toUInt32 >>> ((1 : Int32).toUInt32 &&& Int32.toUInt32 31)).toInt32 &&& (1431655765 : Int32))) &&& (858993459 : Int32)) + (((x0 - ((x0.toUInt32 >>> ((1 : Int32).toUInt32 &&& Int32.toUInt32 31)).toInt32 &&& (1431655765 : Int32))).toUInt32 >>> ((2 : Int32).toUInt32 &&& Int32.toUInt32 31)).toInt32 &&& (858993459 : Int32))) + ((((x0 - ((x0.toUInt32 >>> ((1 : Int32).toUInt32 &&& Int32.toUInt32 31)).toInt32 &&& (1431655765 : Int32))) &&& (858993459 : Int32)) + (((x0 - ((x0.toUInt32 >>> ((1 : Int32).toUInt32 &&& Int32.toUInt32 31)).toInt32 &&& (1431655765 : Int32))).toUInt32 >>> ((2 : Int32).toUInt32 &&& Int32.toUInt32 31)).toInt32 &&& (858993459 : Int32))).toUInt32 >>> ((4 : Int32).toUInt32 &&& Int32.toUInt32 31)).toInt32) &&& (252645135 : Int32)).toUInt32 >>> ((8 : Int32).toUInt32 &&& Int32.toUInt32 31)).toInt32))]) hx hb dJ6_bitCount_0f7a4_40 rfl hl (by decide) rfl (fun ls hl => ?_)
  refine lv_iload_n hx hb dJ6_bitCount_0f7a4_41 rfl (lv_at hl 0 rfl) ?_
  refine lv_iload_n hx hb dJ6_bitCount_0f7a4_42 rfl (lv_at hl 0 rfl) ?_
  refine lv_bipush (v := 16) hx hb dJ6_bitCount_0f7a4_43 (by decide) ?_
  refine lv_iushr (v := (((((((x0 - ((x0.toUInt32 >>> ((1 : Int32).toUInt32 &&& Int32.toUInt32 31)).toInt32 &&& (1431655765 : Int32))) &&& (858993459 : Int32)) + (((x0 - ((x0.toUInt32 >>> ((1 : Int32).toUInt32 &&& Int32.toUInt32 31)).toInt32 &&& (1431655765 : Int32))).toUInt32 >>> ((2 : Int32).toUInt32 &&& Int32.toUInt32 31)).toInt32 &&& (858993459 : Int32))) + ((((x0 - ((x0.toUInt32 >>> ((1 : Int32).toUInt32 &&& Int32.toUInt32 31)).toInt32 &&& (1431655765 : Int32))) &&& (858993459 : Int32)) + (((x0 - ((x0.toUInt32 >>> ((1 : Int32).toUInt32 &&& Int32.toUInt32 31)).toInt32 &&& (1431655765 : Int32))).toUInt32 >>> ((2 : Int32).toUInt32 &&& Int32.toUInt32 31)).toInt32 &&& (858993459 : Int32))).toUInt32 >>> ((4 : Int32).toUInt32 &&& Int32.toUInt32 31)).toInt32) &&& (252645135 : Int32)) + ((((((x0 - ((x0.toUInt32 >>> ((1 : Int32).toUInt32 &&& Int32.toUInt32 31)).toInt32 &&& (1431655765 : Int32))) &&& (858993459 : Int32)) + (((x0 - ((x0.toUInt32 >>> ((1 : Int32).toUInt32 &&& Int32.toUInt32 31)).toInt32 &&& (1431655765 : Int32))).toUInt32 >>> ((2 : Int32).toUInt32 &&& Int32.toUInt32 31)).toInt32 &&& (858993459 : Int32))) + ((((x0 - ((x0.toUInt32 >>> ((1 : Int32).toUInt32 &&& Int32.toUInt32 31)).toInt32 &&& (1431655765 : Int32))) &&& (858993459 : Int32)) + (((x0 - ((x0.toUInt32 >>> ((1 : Int32).toUInt32 &&& Int32.toUInt32 31)).toInt32 &&& (1431655765 : Int32))).toUInt32 >>> ((2 : Int32).toUInt32 &&& Int32.toUInt32 31)).toInt32 &&& (858993459 : Int32))).toUInt32 >>> ((4 : Int32).toUInt32 &&& Int32.toUInt32 31)).toInt32) &&& (252645135 : Int32)).toUInt32 >>> ((8 : Int32).toUInt32 &&& Int32.toUInt32 31)).toInt32).toUInt32 >>> ((16 : Int32).toUInt32 &&& Int32.toUInt32 31)).toInt32) hx hb dJ6_bitCount_0f7a4_45 rfl ?_
  refine lv_iadd hx hb dJ6_bitCount_0f7a4_46 ?_
  refine lv_istore_n (lv' := [(0, .int (((((((x0 - ((x0.toUInt32 >>> ((1 : Int32).toUInt32 &&& Int32.toUInt32 31)).toInt32 &&& (1431655765 : Int32))) &&& (858993459 : Int32)) + (((x0 - ((x0.toUInt32 >>> ((1 : Int32).toUInt32 &&& Int32.toUInt32 31)).toInt32 &&& (1431655765 : Int32))).toUInt32 >>> ((2 : Int32).toUInt32 &&& Int32.toUInt32 31)).toInt32 &&& (858993459 : Int32))) + ((((x0 - ((x0.toUInt32 >>> ((1 : Int32).toUInt32 &&& Int32.toUInt32 31)).toInt32 &&& (1431655765 : Int32))) &&& (858993459 : Int32)) + (((x0 - ((x0.toUInt32 >>> ((1 : Int32).toUInt32 &&& Int32.toUInt32 31)).toInt32 &&& (1431655765 : Int32))).toUInt32 >>> ((2 : Int32).toUInt32 &&& Int32.toUInt32 31)).toInt32 &&& (858993459 : Int32))).toUInt32 >>> ((4 : Int32).toUInt32 &&& Int32.toUInt32 31)).toInt32) &&& (252645135 : Int32)) + ((((((x0 - ((x0.toUInt32 >>> ((1 : Int32).toUInt32 &&& Int32.toUInt32 31)).toInt32 &&& (1431655765 : Int32))) &&& (858993459 : Int32)) + (((x0 - ((x0.toUInt32 >>> ((1 : Int32).toUInt32 &&& Int32.toUInt32 31)).toInt32 &&& (1431655765 : Int32))).toUInt32 >>> ((2 : Int32).toUInt32 &&& Int32.toUInt32 31)).toInt32 &&& (858993459 : Int32))) + ((((x0 - ((x0.toUInt32 >>> ((1 : Int32).toUInt32 &&& Int32.toUInt32 31)).toInt32 &&& (1431655765 : Int32))) &&& (858993459 : Int32)) + (((x0 - ((x0.toUInt32 >>> ((1 : Int32).toUInt32 &&& Int32.toUInt32 31)).toInt32 &&& (1431655765 : Int32))).toUInt32 >>> ((2 : Int32).toUInt32 &&& Int32.toUInt32 31)).toInt32 &&& (858993459 : Int32))).toUInt32 >>> ((4 : Int32).toUInt32 &&& Int32.toUInt32 31)).toInt32) &&& (252645135 : Int32)).toUInt32 >>> ((8 : Int32).toUInt32 &&& Int32.toUInt32 31)).toInt32) + (((((((x0 - ((x0.toUInt32 >>> ((1 : Int32).toUInt32 &&& Int32.toUInt32 31)).toInt32 &&& (1431655765 : Int32))) &&& (858993459 : Int32)) + (((x0 - ((x0.toUInt32 >>> ((1 : Int32).toUInt32 &&& Int32.toUInt32 31)).toInt32 &&& (1431655765 : Int32))).toUInt32 >>> ((2 : Int32).toUInt32 &&& Int32.toUInt32 31)).toInt32 &&& (858993459 : Int32))) + ((((x0 - ((x0.toUInt32 >>> ((1 : Int32).toUInt32 &&& Int32.toUInt32 31)).toInt32 &&& (1431655765 : Int32))) &&& (858993459 : Int32)) + (((x0 - ((x0.toUInt32 >>> ((1 : Int32).toUInt32 &&& Int32.toUInt32 31)).toInt32 &&& (1431655765 : Int32))).toUInt32 >>> ((2 : Int32).toUInt32 &&& Int32.toUInt32 31)).toInt32 &&& (858993459 : Int32))).toUInt32 >>> ((4 : Int32).toUInt32 &&& Int32.toUInt32 31)).toInt32) &&& (252645135 : Int32)) + ((((((x0 - ((x0.toUInt32 >>> ((1 : Int32).toUInt32 &&& Int32.toUInt32 31)).toInt32 &&& (1431655765 : Int32))) &&& (858993459 : Int32)) + (((x0 - ((x0.toUInt32 >>> ((1 : Int32).toUInt32 &&& Int32.toUInt32 31)).toInt32 &&& (1431655765 : Int32))).toUInt32 >>> ((2 : Int32).toUInt32 &&& Int32.toUInt32 31)).toInt32 &&& (858993459 : Int32))) + ((((x0 - ((x0.toUInt32 >>> ((1 : Int32).toUInt32 &&& Int32.toUInt32 31)).toInt32 &&& (1431655765 : Int32))) &&& (858993459 : Int32)) + (((x0 - ((x0.toUInt32 >>> ((1 : Int32).toUInt32 &&& Int32.toUInt32 31)).toInt32 &&& (1431655765 : Int32))).toUInt32 >>> ((2 : Int32).toUInt32 &&& Int32.toUInt32 31)).toInt32 &&& (858993459 : Int32))).toUInt32 >>> ((4 : Int32).toUInt32 &&& Int32.toUInt32 31)).toInt32) &&& (252645135 : Int32)).toUInt32 >>> ((8 : Int32).toUInt32 &&& Int32.toUInt32 31)).toInt32).toUInt32 >>> ((16 : Int32).toUInt32 &&& Int32.toUInt32 31)).toInt32))]) hx hb dJ6_bitCount_0f7a4_47 rfl hl (by decide) rfl (fun ls hl => ?_)
  refine lv_iload_n hx hb dJ6_bitCount_0f7a4_48 rfl (lv_at hl 0 rfl) ?_
  refine lv_bipush (v := 63) hx hb dJ6_bitCount_0f7a4_49 (by decide) ?_
  refine lv_iand hx hb dJ6_bitCount_0f7a4_51 ?_
  obtain rfl := Option.some.inj h
  exact W.iret hx hb hr (fun t ht _ => kQ.mk ht trivial trivial (hS.F ht)) hS.2.2 dJ6_bitCount_0f7a4_52
theorem kin_X3_nearestOf_X3 : ∀ w ∈ wsX30, w ∈ wsX3_nearestOf := fun _ h => List.mem_cons_of_mem _ (List.mem_append_right _ h)
theorem khd_X3_nearestOf : yX3_nearestOf.cls = RX3 ∧ yX3_nearestOf.cls ≠ "java/lang/invoke/MethodHandle" ∧ yX3_nearestOf.cls ≠ "java/lang/invoke/VarHandle" ∧ (parseMethodDescriptor yX3_nearestOf.desc).map (fun d => d.parameters.length) = some 1 := by decide +kernel
set_option maxHeartbeats 8000000 in
set_option maxRecDepth 100000 in
theorem c_X3_nearestOf (l : Launch) (dC : Nat → ClassId) (dI : Nat → Nat → Nat) (cI cS : ClassId) (a_w : Nat) (a_w_kind : Nat) (a_w_owner : Nat) (a_w_from : Nat) (a_w_to : Nat) (a_w_away : Nat) (w_count : Int32) (w_references : Int32) (w_from : Nat → Int32) (w_to : Nat → Int32) (x1 : Int32) (r : Int32) (h : f_X3_nearestOf w_count w_references w_from w_to x1 = some r) : Mk l yX3_nearestOf wsX3_nearestOf ({ frames := 5, cells := 0, slots := 0, locals := 112 } : Room) (dC, dI) cI cS [(a_w, .inr (3, [.int w_count, .int w_references, .ref a_w_kind, .ref a_w_owner, .ref a_w_from, .ref a_w_to, .ref a_w_away])), (a_w_from, .inl (cI, 12, .inl w_from)), (a_w_to, .inl (cI, 12, .inl w_to))] [.ref a_w, .int x1] (some (.int r)) True (fun _ => True) noA := by
  refine Met.ofW (cc := cX3_nearestOf) (maxL := 7) (ret := (some .int)) (by decide) rfl ?_
  intro p e s m args below meth c s₁ B hml hv
  obtain ⟨rfl, hP, hK, hN, hD⟩ := hv
  have hx := B.exec
  have hb := B.bytes
  have hr := B.returns
  have hts := atoms_spec (ws := wsX3_nearestOf) B.pre
  have hown : s.vm.findClass RX3 = some m.cls := findClass_of_methodNamed B.named
  have hlocks := B.notSynchronized
  have hS : va_S noA s.heap s.heap [] := va_S.rf
  have hP : va_P (dC, dI) vwCl [(a_w, .inr (3, [.int w_count, .int w_references, .ref a_w_kind, .ref a_w_owner, .ref a_w_from, .ref a_w_to, .ref a_w_away])), (a_w_from, .inl (cI, 12, .inl w_from)), (a_w_to, .inl (cI, 12, .inl w_to))] s.heap := hP
  have hl := lv_entry ([.ref a_w, .int x1]) (n := 7) (Nat.le_of_ble_eq_true rfl)
  rw [lg_entry_eq]
  generalize (lg_sl ([.ref a_w, .int x1]) ++ List.replicate (7 - (lg_sl ([.ref a_w, .int x1])).length) Slot.unset).toArray = ls at hl ⊢
  have hl : lv_has ls 7 [(0, .ref a_w), (1, .int x1)] := hl
  unfold f_X3_nearestOf at h
  refine lv_aload_n hx hb dX3_nearestOf_0 rfl (lv_at hl 0 rfl) ?_
  refine lv_iload_n hx hb dX3_nearestOf_1 rfl (lv_at hl 1 rfl) ?_
  obtain ⟨r_2, e_2, h⟩ := ob1_inv h
  refine k_pVi (i0 := 0) (rest := []) ⟨hx, hb, hml, hown, hts⟩ (c_X3_standBefore l dC dI cI cS a_w a_w_kind a_w_owner a_w_from a_w_to a_w_away w_count w_references w_from w_to x1 r_2 e_2) (cwV 1 hts gX3_nearestOf_X3_standBefore rfl rfl rfl khd_X3_standBefore ⟨Nat.le_of_ble_eq_true rfl, Nat.le_of_ble_eq_true rfl⟩) hK hN hP (va_D_fst hD rfl) hS [0, 1, 2] rfl rfl rfl rfl rfl rfl hl.1 rfl (Nat.le_of_ble_eq_true rfl) dX3_nearestOf_2 ⟨Nat.zero_le _, Nat.zero_le _⟩ (fun H locs hf_2 hP hS => ?_)
  refine lv_istore_n (lv' := [(2, .int r_2), (0, .ref a_w), (1, .int x1)]) hx hb dX3_nearestOf_5 rfl hl (by decide) rfl (fun ls hl => ?_)
  refine lv_bipush (v := 6) hx hb dX3_nearestOf_6 (by decide) ?_
  refine lv_istore_n (lv' := [(3, .int (6 : Int32)), (2, .int r_2), (0, .ref a_w), (1, .int x1)]) hx hb dX3_nearestOf_8 rfl hl (by decide) rfl (fun ls hl => ?_)
  refine lv_iconst (v := 0) hx hb dX3_nearestOf_9 (by decide) ?_
  refine lv_istore (lv' := [(4, .int (0 : Int32)), (3, .int (6 : Int32)), (2, .int r_2), (0, .ref a_w), (1, .int x1)]) hx hb dX3_nearestOf_10 hl (by decide) rfl (fun ls hl => ?_)
  refine lv_iconst (v := 0) hx hb dX3_nearestOf_12 (by decide) ?_
  refine lv_istore (lv' := [(5, .int (0 : Int32)), (4, .int (0 : Int32)), (3, .int (6 : Int32)), (2, .int r_2), (0, .ref a_w), (1, .int x1)]) hx hb dX3_nearestOf_13 hl (by decide) rfl (fun ls hl => ?_)
  obtain ⟨y3_15, i_15, h⟩ := ob1_inv h
  have after_15 : ∀ (H : Heap) (locs : List Loc) (ls : Array Slot), va_P (dC, dI) vwCl [(a_w, .inr (3, [.int w_count, .int w_references, .ref a_w_kind, .ref a_w_owner, .ref a_w_from, .ref a_w_to, .ref a_w_away])), (a_w_from, .inl (cI, 12, .inl w_from)), (a_w_to, .inl (cI, 12, .inl w_to))] H → va_S noA s.heap H locs → lv_has ls 7 [(3, .int y3_15)] → W p l e (headSpec wsX3_nearestOf ({ frames := 5, cells := 0, slots := 0, locals := 112 } : Room)).room s m ([.ref a_w, .int x1] : List Value).toArray below meth c H locs 0 0 (MQ below (kQ (some (.int r)) True (fun _ => True) noA) ([.ref a_w, .int x1] : List Value).toArray s 0 0 noA) (F0 m 70 ls []) := by
    intro H locs ls hP hS hl
    refine lv_iload_n hx hb dX3_nearestOf_70 rfl (lv_at hl 0 rfl) ?_
    obtain rfl := Option.some.inj h
    exact W.iret hx hb hr (fun t ht _ => kQ.mk ht trivial trivial (hS.F ht)) hS.2.2 dX3_nearestOf_71
  have lp_15 : ∀ (n : Nat) (x3_15 : Int32) (x4_15 : Int32) (x5_15 : Int32) (H : Heap) (locs : List Loc) (ls : Array Slot), it (u3 (L_X3_nearestOf_15 w_count w_references w_from w_to x1 r_2)) n (x3_15, x4_15, x5_15) = some y3_15 → va_P (dC, dI) vwCl [(a_w, .inr (3, [.int w_count, .int w_references, .ref a_w_kind, .ref a_w_owner, .ref a_w_from, .ref a_w_to, .ref a_w_away])), (a_w_from, .inl (cI, 12, .inl w_from)), (a_w_to, .inl (cI, 12, .inl w_to))] H → va_S noA s.heap H locs → lv_has ls 7 [(0, .ref a_w), (1, .int x1), (2, .int r_2), (3, .int x3_15), (4, .int x4_15), (5, .int x5_15)] → W p l e (headSpec wsX3_nearestOf ({ frames := 5, cells := 0, slots := 0, locals := 112 } : Room)).room s m ([.ref a_w, .int x1] : List Value).toArray below meth c H locs 0 0 (MQ below (kQ (some (.int r)) True (fun _ => True) noA) ([.ref a_w, .int x1] : List Value).toArray s 0 0 noA) (F0 m 15 ls []) := by
    intro n
    induction n with
    | zero => intro x3_15 x4_15 x5_15 H locs ls h1; exact (it_0 h1).elim
    | succ n ih_15 =>
      intro x3_15 x4_15 x5_15 H locs ls h1 hP hS hl
      obtain ⟨t_15, h1, k1⟩ := it3_inv h1
      unfold L_X3_nearestOf_15 at h1
      refine lv_iload hx hb dX3_nearestOf_15 (lv_at hl 5 rfl) ?_
      refine lv_aload_n hx hb dX3_nearestOf_17 rfl (lv_at hl 0 rfl) ?_
      refine va_get (D := (dC, dI)) (ci := 3) (v := .int w_count) (C := RX3) (T := TX3) (N := 7) hx hb hts kin_X3_nearestOf_X3 hown hK hP 0 rfl rfl 0 (Nat.le_of_ble_eq_true rfl) (hts (.fieldLink RX3 9 "OwnedThings$Web" "count" "I") (List.mem_of_getElem? (i := 1) rfl)) (fun _ h9 => h9) rfl dX3_nearestOf_18 ?_
      refine lv_icmp_ge (tgt := 70) hx hb dX3_nearestOf_21 (by decide) (fun c_21 => ?_) (fun c_21 => ?_)
      · have h1 := hp_pos c_21 h1
        cases h1
        obtain rfl := pj1 k1
        exact after_15 _ _ _ hP hS (lv_sub hl [3] rfl)
      · have h1 := hp_neg c_21 h1
        refine lv_iload hx hb dX3_nearestOf_24 (lv_at hl 5 rfl) ?_
        refine lv_iload_n hx hb dX3_nearestOf_26 rfl (lv_at hl 1 rfl) ?_
        refine lv_icmp_eq (tgt := 64) hx hb dX3_nearestOf_27 (by decide) (fun c_27 => ?_) (fun c_27 => ?_)
        · have h1 := hp_pos c_27 h1
          refine lv_iinc (v := (x5_15 + (1 : Int32))) (lv' := [(5, .int (x5_15 + (1 : Int32))), (0, .ref a_w), (1, .int x1), (2, .int r_2), (3, .int x3_15), (4, .int x4_15)]) hx hb dX3_nearestOf_64 hl (k := 5) rfl rfl (by decide) rfl (fun ls hl => ?_)
          refine lv_goto (tgt := 15) hx hb dX3_nearestOf_67 (by decide) ?_
          cases h1
          exact ih_15 _ _ _ _ _ _ k1 hP hS (lv_sub hl [1, 2, 3, 4, 5, 0] rfl)
        · have h1 := hp_neg c_27 h1
          refine lv_iload_n hx hb dX3_nearestOf_30 rfl (lv_at hl 2 rfl) ?_
          refine lv_iload hx hb dX3_nearestOf_31 (lv_at hl 5 rfl) ?_
          obtain ⟨r_33, e_33, h1⟩ := ob1_inv h1
          refine k_pNi (rest := []) ⟨hx, hb, hml, hown, hts⟩ (c_X4_holds l dC dI cI cS r_2 x5_15 r_33 e_33) ⟨va_cnB 2 hts gX3_nearestOf_X4_holds_n87 rfl rfl rfl hN.2.1 (hts (.initialized RX4) (List.mem_of_getElem? (i := 16) rfl)) khd_X4_holds.2 ⟨Nat.le_of_ble_eq_true rfl, Nat.le_of_ble_eq_true rfl⟩, (hts (.static yX4_holds) (List.mem_of_getElem? (i := 25) rfl)), trivial⟩ hK hN hP (va_D_fst hD rfl) hS [] rfl rfl rfl hl.1 rfl (Nat.le_of_ble_eq_true rfl) dX3_nearestOf_33 ⟨Nat.zero_le _, Nat.zero_le _⟩ (fun H locs hf_33 hP hS => ?_)
          refine lv_if_eq (tgt := 64) hx hb dX3_nearestOf_36 (by decide) (fun c_36 => ?_) (fun c_36 => ?_)
          · have h1 := hp_pos c_36 h1
            refine lv_iinc (v := (x5_15 + (1 : Int32))) (lv' := [(5, .int (x5_15 + (1 : Int32))), (0, .ref a_w), (1, .int x1), (2, .int r_2), (3, .int x3_15), (4, .int x4_15)]) hx hb dX3_nearestOf_64 hl (k := 5) rfl rfl (by decide) rfl (fun ls hl => ?_)
            refine lv_goto (tgt := 15) hx hb dX3_nearestOf_67 (by decide) ?_
            cases h1
            exact ih_15 _ _ _ _ _ _ k1 hP hS (lv_sub hl [1, 2, 3, 4, 5, 0] rfl)
          · have h1 := hp_neg c_36 h1
            refine lv_aload_n hx hb dX3_nearestOf_39 rfl (lv_at hl 0 rfl) ?_
            refine lv_iload hx hb dX3_nearestOf_40 (lv_at hl 5 rfl) ?_
            obtain ⟨r_42, e_42, h1⟩ := ob1_inv h1
            refine k_pVi (i0 := 0) (rest := []) ⟨hx, hb, hml, hown, hts⟩ (c_X3_standBefore l dC dI cI cS a_w a_w_kind a_w_owner a_w_from a_w_to a_w_away w_count w_references w_from w_to x5_15 r_42 e_42) (cwV 1 hts gX3_nearestOf_X3_standBefore rfl rfl rfl khd_X3_standBefore ⟨Nat.le_of_ble_eq_true rfl, Nat.le_of_ble_eq_true rfl⟩) hK hN hP (va_D_fst hD rfl) hS [0, 1, 2] rfl rfl rfl rfl rfl rfl hl.1 rfl (Nat.le_of_ble_eq_true rfl) dX3_nearestOf_42 ⟨Nat.zero_le _, Nat.zero_le _⟩ (fun H locs hf_42 hP hS => ?_)
            obtain ⟨r_45, e_45, h1⟩ := ob1_inv h1
            refine k_pSi (rest := []) ⟨hx, hb, hml, hown, hts⟩ (c_J6_bitCount_0f7a4 l dC dI cI cS r_42 r_45 e_45) (va_cwS 1 hts gX3_nearestOf_J6_bitCount_0f7a4 rfl rfl rfl khd_J6_bitCount_0f7a4.2 ⟨Nat.le_of_ble_eq_true rfl, Nat.le_of_ble_eq_true rfl⟩) hK hN hP (va_D_fst hD rfl) hS [] rfl rfl rfl hl.1 rfl (Nat.le_of_ble_eq_true rfl) dX3_nearestOf_45 ⟨Nat.zero_le _, Nat.zero_le _⟩ (fun H locs hf_45 hP hS => ?_)
            refine lv_istore (lv' := [(6, .int r_45), (0, .ref a_w), (1, .int x1), (2, .int r_2), (3, .int x3_15), (4, .int x4_15), (5, .int x5_15)]) hx hb dX3_nearestOf_48 hl (by decide) rfl (fun ls hl => ?_)
            refine lv_iload hx hb dX3_nearestOf_50 (lv_at hl 0 rfl) ?_
            refine lv_iload hx hb dX3_nearestOf_52 (lv_at hl 5 rfl) ?_
            refine lv_icmp_le (tgt := 64) hx hb dX3_nearestOf_54 (by decide) (fun c_54 => ?_) (fun c_54 => ?_)
            · have h1 := hp_pos c_54 h1
              refine lv_iinc (v := (x5_15 + (1 : Int32))) (lv' := [(5, .int (x5_15 + (1 : Int32))), (6, .int r_45), (0, .ref a_w), (1, .int x1), (2, .int r_2), (3, .int x3_15), (4, .int x4_15)]) hx hb dX3_nearestOf_64 hl (k := 6) rfl rfl (by decide) rfl (fun ls hl => ?_)
              refine lv_goto (tgt := 15) hx hb dX3_nearestOf_67 (by decide) ?_
              cases h1
              exact ih_15 _ _ _ _ _ _ k1 hP hS (lv_sub hl [2, 3, 4, 5, 6, 0] rfl)
            · have h1 := hp_neg c_54 h1
              refine lv_iload hx hb dX3_nearestOf_57 (lv_at hl 0 rfl) ?_
              refine lv_istore (lv' := [(4, .int r_45), (6, .int r_45), (0, .ref a_w), (1, .int x1), (2, .int r_2), (3, .int x3_15), (5, .int x5_15)]) hx hb dX3_nearestOf_59 hl (by decide) rfl (fun ls hl => ?_)
              refine lv_iload hx hb dX3_nearestOf_61 (lv_at hl 6 rfl) ?_
              refine lv_istore_n (lv' := [(3, .int x5_15), (4, .int r_45), (6, .int r_45), (0, .ref a_w), (1, .int x1), (2, .int r_2), (5, .int x5_15)]) hx hb dX3_nearestOf_63 rfl hl (by decide) rfl (fun ls hl => ?_)
              refine lv_iinc (v := (x5_15 + (1 : Int32))) (lv' := [(5, .int (x5_15 + (1 : Int32))), (3, .int x5_15), (4, .int r_45), (6, .int r_45), (0, .ref a_w), (1, .int x1), (2, .int r_2)]) hx hb dX3_nearestOf_64 hl (k := 6) rfl rfl (by decide) rfl (fun ls hl => ?_)
              refine lv_goto (tgt := 15) hx hb dX3_nearestOf_67 (by decide) ?_
              cases h1
              exact ih_15 _ _ _ _ _ _ k1 hP hS (lv_sub hl [4, 5, 6, 1, 2, 0] rfl)
  exact lp_15 FUEL _ _ _ _ _ _ i_15 hP hS (lv_sub hl [4, 5, 3, 2, 1, 0] rfl)
theorem kin_X3_findWayPast_X3 : ∀ w ∈ wsX30, w ∈ wsX3_findWayPast := fun _ h => List.mem_cons_of_mem _ (List.mem_append_right _ h)
theorem khd_X3_findWayPast : yX3_findWayPast.cls = RX3 ∧ yX3_findWayPast.cls ≠ "java/lang/invoke/MethodHandle" ∧ yX3_findWayPast.cls ≠ "java/lang/invoke/VarHandle" ∧ (parseMethodDescriptor yX3_findWayPast.desc).map (fun d => d.parameters.length) = some 1 := by decide +kernel
set_option maxHeartbeats 8000000 in
set_option maxRecDepth 100000 in
theorem c_X3_findWayPast (l : Launch) (dC : Nat → ClassId) (dI : Nat → Nat → Nat) (cI cS : ClassId) (a_w : Nat) (a_w_kind : Nat) (a_w_owner : Nat) (a_w_from : Nat) (a_w_to : Nat) (a_w_away : Nat) (w_count : Int32) (w_references : Int32) (w_owner : Nat → Int32) (w_from : Nat → Int32) (w_to : Nat → Int32) (w_away : Nat → Int32) (x1 : Int32) (r : Int32) (z_w_away : Nat → Int32) (h : f_X3_findWayPast w_count w_references w_owner w_from w_to w_away x1 = some (r, z_w_away)) : Mk l yX3_findWayPast wsX3_findWayPast ({ frames := 2, cells := 0, slots := 0, locals := 44 } : Room) (dC, dI) cI cS [(a_w, .inr (3, [.int w_count, .int w_references, .ref a_w_kind, .ref a_w_owner, .ref a_w_from, .ref a_w_to, .ref a_w_away])), (a_w_owner, .inl (cI, 6, .inl w_owner)), (a_w_from, .inl (cI, 12, .inl w_from)), (a_w_to, .inl (cI, 12, .inl w_to)), (a_w_away, .inl (cI, 7, .inl w_away))] [.ref a_w, .int x1] (some (.int r)) True (fun H => va_P (dC, dI) vwCl [(a_w, .inr (3, [.int w_count, .int w_references, .ref a_w_kind, .ref a_w_owner, .ref a_w_from, .ref a_w_to, .ref a_w_away])), (a_w_owner, .inl (cI, 6, .inl w_owner)), (a_w_from, .inl (cI, 12, .inl w_from)), (a_w_to, .inl (cI, 12, .inl w_to)), (a_w_away, .inl (cI, 7, .inl z_w_away))] H) (inA (List.map Prod.fst ([(a_w, .inr (3, [.int w_count, .int w_references, .ref a_w_kind, .ref a_w_owner, .ref a_w_from, .ref a_w_to, .ref a_w_away])), (a_w_owner, .inl (cI, 6, .inl w_owner)), (a_w_from, .inl (cI, 12, .inl w_from)), (a_w_to, .inl (cI, 12, .inl w_to)), (a_w_away, .inl (cI, 7, .inl w_away))] : va_W))) := by
  refine Met.ofW (cc := cX3_findWayPast) (maxL := 3) (ret := (some .int)) (by decide) rfl ?_
  intro p e s m args below meth c s₁ B hml hv
  obtain ⟨rfl, hP, hK, hN, hD⟩ := hv
  have hx := B.exec
  have hb := B.bytes
  have hr := B.returns
  have hts := atoms_spec (ws := wsX3_findWayPast) B.pre
  have hown : s.vm.findClass RX3 = some m.cls := findClass_of_methodNamed B.named
  have hlocks := B.notSynchronized
  have hS : va_S (inA [a_w, a_w_owner, a_w_from, a_w_to, a_w_away]) s.heap s.heap [] := va_S.rf
  have hP : va_P (dC, dI) vwCl [(a_w, .inr (3, [.int w_count, .int w_references, .ref a_w_kind, .ref a_w_owner, .ref a_w_from, .ref a_w_to, .ref a_w_away])), (a_w_owner, .inl (cI, 6, .inl w_owner)), (a_w_from, .inl (cI, 12, .inl w_from)), (a_w_to, .inl (cI, 12, .inl w_to)), (a_w_away, .inl (cI, 7, .inl w_away))] s.heap := hP
  have hD : va_D (inA [a_w, a_w_owner, a_w_from, a_w_to, a_w_away]) [(a_w, .inr (3, [.int w_count, .int w_references, .ref a_w_kind, .ref a_w_owner, .ref a_w_from, .ref a_w_to, .ref a_w_away])), (a_w_owner, .inl (cI, 6, .inl w_owner)), (a_w_from, .inl (cI, 12, .inl w_from)), (a_w_to, .inl (cI, 12, .inl w_to)), (a_w_away, .inl (cI, 7, .inl w_away))] := va_D_in hD rfl
  have hl := lv_entry ([.ref a_w, .int x1]) (n := 3) (Nat.le_of_ble_eq_true rfl)
  rw [lg_entry_eq]
  generalize (lg_sl ([.ref a_w, .int x1]) ++ List.replicate (3 - (lg_sl ([.ref a_w, .int x1])).length) Slot.unset).toArray = ls at hl ⊢
  have hl : lv_has ls 3 [(0, .ref a_w), (1, .int x1)] := hl
  unfold f_X3_findWayPast at h
  refine lv_aload_n hx hb dX3_findWayPast_0 rfl (lv_at hl 0 rfl) ?_
  refine va_get (D := (dC, dI)) (ci := 3) (v := .ref a_w_away) (C := RX3) (T := TX3) (N := 7) hx hb hts kin_X3_findWayPast_X3 hown hK hP 0 rfl rfl 6 (Nat.le_of_ble_eq_true rfl) (hts (.fieldLink RX3 31 "OwnedThings$Web" "away" "[I") (List.mem_of_getElem? (i := 1) rfl)) (fun _ h9 => h9) rfl dX3_findWayPast_1 ?_
  refine lv_iconst (v := 0) hx hb dX3_findWayPast_4 (by decide) ?_
  refine lv_iload_n hx hb dX3_findWayPast_5 rfl (lv_at hl 1 rfl) ?_
  obtain ⟨r_6, e_6, h⟩ := ob1_inv h
  refine k_pNi (rest := [.int (0 : Int32), .ref a_w_away]) ⟨hx, hb, hml, hown, hts⟩ (c_X4_bit l dC dI cI cS x1 r_6 e_6) ⟨va_cnB 1 hts gX3_findWayPast_X4_bit_n81 rfl rfl rfl hN.1 (hts (.initialized RX4) (List.mem_of_getElem? (i := 3) rfl)) khd_X4_bit.2 ⟨Nat.le_of_ble_eq_true rfl, Nat.le_of_ble_eq_true rfl⟩, (hts (.static yX4_bit) (List.mem_of_getElem? (i := 2) rfl)), trivial⟩ hK hN hP (va_D_fst hD rfl) hS [] rfl rfl rfl hl.1 rfl (Nat.le_of_ble_eq_true rfl) dX3_findWayPast_6 ⟨Nat.zero_le _, Nat.zero_le _⟩ (fun H locs hf_6 hP hS => ?_)
  have g_9 := hg_no h
  have h := hg_yes h
  refine va_iast (D := (dC, dI)) hx hb hK hP (va_D_fst hD rfl) hS 4 0 rfl rfl g_9 dX3_findWayPast_9 (fun H locs hP _ hS => ?_)
  have hP : va_P (dC, dI) vwCl [(a_w, .inr (3, [.int w_count, .int w_references, .ref a_w_kind, .ref a_w_owner, .ref a_w_from, .ref a_w_to, .ref a_w_away])), (a_w_owner, .inl (cI, 6, .inl w_owner)), (a_w_from, .inl (cI, 12, .inl w_from)), (a_w_to, .inl (cI, 12, .inl w_to)), (a_w_away, .inl (cI, 7, .inl (upd w_away (0 : Int32).toNatClampNeg r_6)))] H := hP
  refine lv_iconst (v := 1) hx hb dX3_findWayPast_10 (by decide) ?_
  refine lv_istore_n (lv' := [(2, .int (1 : Int32)), (0, .ref a_w), (1, .int x1)]) hx hb dX3_findWayPast_11 rfl hl (by decide) rfl (fun ls hl => ?_)
  obtain ⟨o_12, K_12, i_12, hk_12, h⟩ := os1_inv h
  have after_12 : ∀ (w_away_12e : Nat → Int32) (_ : K_12 w_away_12e) (H : Heap) (locs : List Loc) (ls : Array Slot), va_P (dC, dI) vwCl [(a_w, .inr (3, [.int w_count, .int w_references, .ref a_w_kind, .ref a_w_owner, .ref a_w_from, .ref a_w_to, .ref a_w_away])), (a_w_owner, .inl (cI, 6, .inl w_owner)), (a_w_from, .inl (cI, 12, .inl w_from)), (a_w_to, .inl (cI, 12, .inl w_to)), (a_w_away, .inl (cI, 7, .inl w_away_12e))] H → va_S (inA [a_w, a_w_owner, a_w_from, a_w_to, a_w_away]) s.heap H locs → lv_has ls 3 [] → W p l e (headSpec wsX3_findWayPast ({ frames := 2, cells := 0, slots := 0, locals := 44 } : Room)).room s m ([.ref a_w, .int x1] : List Value).toArray below meth c H locs 0 0 (MQ below (kQ (some (.int r)) True (fun H => va_P (dC, dI) vwCl [(a_w, .inr (3, [.int w_count, .int w_references, .ref a_w_kind, .ref a_w_owner, .ref a_w_from, .ref a_w_to, .ref a_w_away])), (a_w_owner, .inl (cI, 6, .inl w_owner)), (a_w_from, .inl (cI, 12, .inl w_from)), (a_w_to, .inl (cI, 12, .inl w_to)), (a_w_away, .inl (cI, 7, .inl z_w_away))] H) (inA (List.map Prod.fst ([(a_w, .inr (3, [.int w_count, .int w_references, .ref a_w_kind, .ref a_w_owner, .ref a_w_from, .ref a_w_to, .ref a_w_away])), (a_w_owner, .inl (cI, 6, .inl w_owner)), (a_w_from, .inl (cI, 12, .inl w_from)), (a_w_to, .inl (cI, 12, .inl w_to)), (a_w_away, .inl (cI, 7, .inl w_away))] : va_W)))) ([.ref a_w, .int x1] : List Value).toArray s 0 0 (inA (List.map Prod.fst ([(a_w, .inr (3, [.int w_count, .int w_references, .ref a_w_kind, .ref a_w_owner, .ref a_w_from, .ref a_w_to, .ref a_w_away])), (a_w_owner, .inl (cI, 6, .inl w_owner)), (a_w_from, .inl (cI, 12, .inl w_from)), (a_w_to, .inl (cI, 12, .inl w_to)), (a_w_away, .inl (cI, 7, .inl w_away))] : va_W)))) (F0 m 69 ls []) := by
    intro w_away_12e ha H locs ls hP hS hl
    have h := hk_12 _ ha
    refine lv_bipush (v := -9) hx hb dX3_findWayPast_69 (by decide) ?_
    obtain ⟨rfl, rfl⟩ := pj2 (Option.some.inj h)
    exact W.iret hx hb hr (fun t ht _ => kQ.mk ht hP trivial (hS.F ht)) hS.2.2 dX3_findWayPast_71
  have lp_12 : ∀ (n : Nat) (x2_12 : Int32) (w_away_12 : Nat → Int32) (H : Heap) (locs : List Loc) (ls : Array Slot), it (u2 (L_X3_findWayPast_12 w_count w_references w_owner w_from w_to x1)) n (x2_12, w_away_12) = some o_12 → va_P (dC, dI) vwCl [(a_w, .inr (3, [.int w_count, .int w_references, .ref a_w_kind, .ref a_w_owner, .ref a_w_from, .ref a_w_to, .ref a_w_away])), (a_w_owner, .inl (cI, 6, .inl w_owner)), (a_w_from, .inl (cI, 12, .inl w_from)), (a_w_to, .inl (cI, 12, .inl w_to)), (a_w_away, .inl (cI, 7, .inl w_away_12))] H → va_S (inA [a_w, a_w_owner, a_w_from, a_w_to, a_w_away]) s.heap H locs → lv_has ls 3 [(0, .ref a_w), (1, .int x1), (2, .int x2_12)] → W p l e (headSpec wsX3_findWayPast ({ frames := 2, cells := 0, slots := 0, locals := 44 } : Room)).room s m ([.ref a_w, .int x1] : List Value).toArray below meth c H locs 0 0 (MQ below (kQ (some (.int r)) True (fun H => va_P (dC, dI) vwCl [(a_w, .inr (3, [.int w_count, .int w_references, .ref a_w_kind, .ref a_w_owner, .ref a_w_from, .ref a_w_to, .ref a_w_away])), (a_w_owner, .inl (cI, 6, .inl w_owner)), (a_w_from, .inl (cI, 12, .inl w_from)), (a_w_to, .inl (cI, 12, .inl w_to)), (a_w_away, .inl (cI, 7, .inl z_w_away))] H) (inA (List.map Prod.fst ([(a_w, .inr (3, [.int w_count, .int w_references, .ref a_w_kind, .ref a_w_owner, .ref a_w_from, .ref a_w_to, .ref a_w_away])), (a_w_owner, .inl (cI, 6, .inl w_owner)), (a_w_from, .inl (cI, 12, .inl w_from)), (a_w_to, .inl (cI, 12, .inl w_to)), (a_w_away, .inl (cI, 7, .inl w_away))] : va_W)))) ([.ref a_w, .int x1] : List Value).toArray s 0 0 (inA (List.map Prod.fst ([(a_w, .inr (3, [.int w_count, .int w_references, .ref a_w_kind, .ref a_w_owner, .ref a_w_from, .ref a_w_to, .ref a_w_away])), (a_w_owner, .inl (cI, 6, .inl w_owner)), (a_w_from, .inl (cI, 12, .inl w_from)), (a_w_to, .inl (cI, 12, .inl w_to)), (a_w_away, .inl (cI, 7, .inl w_away))] : va_W)))) (F0 m 12 ls []) := by
    intro n
    induction n with
    | zero => intro x2_12 w_away_12 H locs ls h1; exact (it_0 h1).elim
    | succ n ih_12 =>
      intro x2_12 w_away_12 H locs ls h1 hP hS hl
      obtain ⟨t_12, h1, k1⟩ := it2_inv h1
      unfold L_X3_findWayPast_12 at h1
      refine lv_iload_n hx hb dX3_findWayPast_12 rfl (lv_at hl 2 rfl) ?_
      refine lv_bipush (v := 6) hx hb dX3_findWayPast_13 (by decide) ?_
      refine lv_icmp_gt (tgt := 69) hx hb dX3_findWayPast_15 (by decide) (fun c_15 => ?_) (fun c_15 => ?_)
      · have h1 := hp_pos c_15 h1
        cases h1
        obtain rfl := pj1 k1
        exact after_12 _ h _ _ _ hP hS (lv_sub hl [] rfl)
      · have h1 := hp_neg c_15 h1
        refine lv_aload_n hx hb dX3_findWayPast_18 rfl (lv_at hl 0 rfl) ?_
        refine va_get (D := (dC, dI)) (ci := 3) (v := .ref a_w_away) (C := RX3) (T := TX3) (N := 7) hx hb hts kin_X3_findWayPast_X3 hown hK hP 0 rfl rfl 6 (Nat.le_of_ble_eq_true rfl) (hts (.fieldLink RX3 31 "OwnedThings$Web" "away" "[I") (List.mem_of_getElem? (i := 1) rfl)) (fun _ h9 => h9) rfl dX3_findWayPast_19 ?_
        refine lv_iload_n hx hb dX3_findWayPast_22 rfl (lv_at hl 2 rfl) ?_
        refine lv_aload_n hx hb dX3_findWayPast_23 rfl (lv_at hl 0 rfl) ?_
        refine lv_aload_n hx hb dX3_findWayPast_24 rfl (lv_at hl 0 rfl) ?_
        refine va_get (D := (dC, dI)) (ci := 3) (v := .ref a_w_away) (C := RX3) (T := TX3) (N := 7) hx hb hts kin_X3_findWayPast_X3 hown hK hP 0 rfl rfl 6 (Nat.le_of_ble_eq_true rfl) (hts (.fieldLink RX3 31 "OwnedThings$Web" "away" "[I") (List.mem_of_getElem? (i := 1) rfl)) (fun _ h9 => h9) rfl dX3_findWayPast_25 ?_
        refine lv_iload_n hx hb dX3_findWayPast_28 rfl (lv_at hl 2 rfl) ?_
        refine lv_iconst (v := 1) hx hb dX3_findWayPast_29 (by decide) ?_
        refine lv_isub hx hb dX3_findWayPast_30 ?_
        have g_31 := hg_no h1
        have h1 := hg_yes h1
        refine va_iald (D := (dC, dI)) hx hb hK hP 4 0 rfl rfl g_31 dX3_findWayPast_31 ?_
        obtain ⟨r_32, e_32, h1⟩ := ob1_inv h1
        refine k_pVi (i0 := 0) (rest := [.int x2_12, .ref a_w_away]) ⟨hx, hb, hml, hown, hts⟩ (c_X3_oneBack l dC dI cI cS a_w a_w_kind a_w_owner a_w_from a_w_to a_w_away w_count w_references w_from w_to (w_away_12 (x2_12 - (1 : Int32)).toNatClampNeg) r_32 e_32) (cwV 1 hts gX3_findWayPast_X3_oneBack rfl rfl rfl khd_X3_oneBack ⟨Nat.le_of_ble_eq_true rfl, Nat.le_of_ble_eq_true rfl⟩) hK hN hP (va_D_fst hD rfl) hS [0, 2, 3] rfl rfl rfl rfl rfl rfl hl.1 rfl (Nat.le_of_ble_eq_true rfl) dX3_findWayPast_32 ⟨Nat.zero_le _, Nat.zero_le _⟩ (fun H locs hf_32 hP hS => ?_)
        refine lv_aload_n hx hb dX3_findWayPast_35 rfl (lv_at hl 0 rfl) ?_
        refine lv_iload_n hx hb dX3_findWayPast_36 rfl (lv_at hl 1 rfl) ?_
        obtain ⟨r_37, e_37, h1⟩ := ob1_inv h1
        refine k_pVi (i0 := 0) (rest := [.int r_32, .int x2_12, .ref a_w_away]) ⟨hx, hb, hml, hown, hts⟩ (c_X3_ownerOf l dC dI cI cS a_w a_w_kind a_w_owner a_w_from a_w_to a_w_away w_count w_references w_owner x1 r_37 e_37) (cwV 1 hts gX3_findWayPast_X3_ownerOf rfl rfl rfl khd_X3_ownerOf ⟨Nat.le_of_ble_eq_true rfl, Nat.le_of_ble_eq_true rfl⟩) hK hN hP (va_D_fst hD rfl) hS [0, 1] rfl rfl rfl rfl rfl rfl hl.1 rfl (Nat.le_of_ble_eq_true rfl) dX3_findWayPast_37 ⟨Nat.zero_le _, Nat.zero_le _⟩ (fun H locs hf_37 hP hS => ?_)
        obtain ⟨r_40, e_40, h1⟩ := ob1_inv h1
        refine k_pNi (rest := [.int r_32, .int x2_12, .ref a_w_away]) ⟨hx, hb, hml, hown, hts⟩ (c_X4_bit l dC dI cI cS r_37 r_40 e_40) ⟨va_cnB 1 hts gX3_findWayPast_X4_bit_n81 rfl rfl rfl hN.1 (hts (.initialized RX4) (List.mem_of_getElem? (i := 3) rfl)) khd_X4_bit.2 ⟨Nat.le_of_ble_eq_true rfl, Nat.le_of_ble_eq_true rfl⟩, (hts (.static yX4_bit) (List.mem_of_getElem? (i := 2) rfl)), trivial⟩ hK hN hP (va_D_fst hD rfl) hS [] rfl rfl rfl hl.1 rfl (Nat.le_of_ble_eq_true rfl) dX3_findWayPast_40 ⟨Nat.zero_le _, Nat.zero_le _⟩ (fun H locs hf_40 hP hS => ?_)
        refine lv_iconst (v := -1) hx hb dX3_findWayPast_43 (by decide) ?_
        refine lv_ixor hx hb dX3_findWayPast_44 ?_
        refine lv_iand hx hb dX3_findWayPast_45 ?_
        have g_46 := hg_no h1
        have h1 := hg_yes h1
        refine va_iast (D := (dC, dI)) hx hb hK hP (va_D_fst hD rfl) hS 4 0 rfl rfl g_46 dX3_findWayPast_46 (fun H locs hP _ hS => ?_)
        have hP : va_P (dC, dI) vwCl [(a_w, .inr (3, [.int w_count, .int w_references, .ref a_w_kind, .ref a_w_owner, .ref a_w_from, .ref a_w_to, .ref a_w_away])), (a_w_owner, .inl (cI, 6, .inl w_owner)), (a_w_from, .inl (cI, 12, .inl w_from)), (a_w_to, .inl (cI, 12, .inl w_to)), (a_w_away, .inl (cI, 7, .inl (upd w_away_12 x2_12.toNatClampNeg (r_32 &&& (r_40 ^^^ (-1 : Int32))))))] H := hP
        refine lv_aload_n hx hb dX3_findWayPast_47 rfl (lv_at hl 0 rfl) ?_
        refine va_get (D := (dC, dI)) (ci := 3) (v := .ref a_w_away) (C := RX3) (T := TX3) (N := 7) hx hb hts kin_X3_findWayPast_X3 hown hK hP 0 rfl rfl 6 (Nat.le_of_ble_eq_true rfl) (hts (.fieldLink RX3 31 "OwnedThings$Web" "away" "[I") (List.mem_of_getElem? (i := 1) rfl)) (fun _ h9 => h9) rfl dX3_findWayPast_48 ?_
        refine lv_iload_n hx hb dX3_findWayPast_51 rfl (lv_at hl 2 rfl) ?_
        have g_52 := hg_no h1
        have h1 := hg_yes h1
        refine va_iald (D := (dC, dI)) hx hb hK hP 4 0 rfl rfl g_52 dX3_findWayPast_52 ?_
        refine lv_bipush (v := 6) hx hb dX3_findWayPast_53 (by decide) ?_
        obtain ⟨r_55, e_55, h1⟩ := ob1_inv h1
        refine k_pNi (rest := []) ⟨hx, hb, hml, hown, hts⟩ (c_X4_holds l dC dI cI cS ((upd w_away_12 x2_12.toNatClampNeg (r_32 &&& (r_40 ^^^ (-1 : Int32)))) x2_12.toNatClampNeg) (6 : Int32) r_55 e_55) ⟨va_cnB 2 hts gX3_findWayPast_X4_holds_n87 rfl rfl rfl hN.2.1 (hts (.initialized RX4) (List.mem_of_getElem? (i := 3) rfl)) khd_X4_holds.2 ⟨Nat.le_of_ble_eq_true rfl, Nat.le_of_ble_eq_true rfl⟩, (hts (.static yX4_holds) (List.mem_of_getElem? (i := 13) rfl)), trivial⟩ hK hN hP (va_D_fst hD rfl) hS [] rfl rfl rfl hl.1 rfl (Nat.le_of_ble_eq_true rfl) dX3_findWayPast_55 ⟨Nat.zero_le _, Nat.zero_le _⟩ (fun H locs hf_55 hP hS => ?_)
        refine lv_if_eq (tgt := 63) hx hb dX3_findWayPast_58 (by decide) (fun c_58 => ?_) (fun c_58 => ?_)
        · have h1 := hp_pos c_58 h1
          refine lv_iinc (v := (x2_12 + (1 : Int32))) (lv' := [(2, .int (x2_12 + (1 : Int32))), (0, .ref a_w), (1, .int x1)]) hx hb dX3_findWayPast_63 hl (k := 2) rfl rfl (by decide) rfl (fun ls hl => ?_)
          refine lv_goto (tgt := 12) hx hb dX3_findWayPast_66 (by decide) ?_
          cases h1
          exact ih_12 _ _ _ _ _ k1 hP hS (lv_sub hl [1, 2, 0] rfl)
        · have h1 := hp_neg c_58 h1
          refine lv_iload_n hx hb dX3_findWayPast_61 rfl (lv_at hl 2 rfl) ?_
          cases h1
          obtain rfl := pj1 k1
          have h := congrArg some h
          obtain ⟨rfl, rfl⟩ := pj2 (Option.some.inj h)
          exact W.iret hx hb hr (fun t ht _ => kQ.mk ht hP trivial (hS.F ht)) hS.2.2 dX3_findWayPast_62
  exact lp_12 FUEL _ _ _ _ _ i_12 hP hS (lv_sub hl [1, 2, 0] rfl)
theorem kin_X3_lowestOf_X3 : ∀ w ∈ wsX30, w ∈ wsX3_lowestOf := fun _ h => List.mem_cons_of_mem _ (List.mem_append_right _ h)
theorem khd_X3_lowestOf : yX3_lowestOf.cls = RX3 ∧ yX3_lowestOf.cls ≠ "java/lang/invoke/MethodHandle" ∧ yX3_lowestOf.cls ≠ "java/lang/invoke/VarHandle" ∧ (parseMethodDescriptor yX3_lowestOf.desc).map (fun d => d.parameters.length) = some 1 := by decide +kernel
set_option maxHeartbeats 8000000 in
set_option maxRecDepth 100000 in
theorem c_X3_lowestOf (l : Launch) (dC : Nat → ClassId) (dI : Nat → Nat → Nat) (cI cS : ClassId) (a_w : Nat) (a_w_kind : Nat) (a_w_owner : Nat) (a_w_from : Nat) (a_w_to : Nat) (a_w_away : Nat) (w_count : Int32) (w_references : Int32) (x1 : Int32) (r : Int32) (h : f_X3_lowestOf w_count x1 = some r) : Mk l yX3_lowestOf wsX3_lowestOf ({ frames := 1, cells := 0, slots := 0, locals := 21 } : Room) (dC, dI) cI cS [(a_w, .inr (3, [.int w_count, .int w_references, .ref a_w_kind, .ref a_w_owner, .ref a_w_from, .ref a_w_to, .ref a_w_away]))] [.ref a_w, .int x1] (some (.int r)) True (fun _ => True) noA := by
  refine Met.ofW (cc := cX3_lowestOf) (maxL := 3) (ret := (some .int)) (by decide) rfl ?_
  intro p e s m args below meth c s₁ B hml hv
  obtain ⟨rfl, hP, hK, hN, hD⟩ := hv
  have hx := B.exec
  have hb := B.bytes
  have hr := B.returns
  have hts := atoms_spec (ws := wsX3_lowestOf) B.pre
  have hown : s.vm.findClass RX3 = some m.cls := findClass_of_methodNamed B.named
  have hlocks := B.notSynchronized
  have hS : va_S noA s.heap s.heap [] := va_S.rf
  have hP : va_P (dC, dI) vwCl [(a_w, .inr (3, [.int w_count, .int w_references, .ref a_w_kind, .ref a_w_owner, .ref a_w_from, .ref a_w_to, .ref a_w_away]))] s.heap := hP
  have hl := lv_entry ([.ref a_w, .int x1]) (n := 3) (Nat.le_of_ble_eq_true rfl)
  rw [lg_entry_eq]
  generalize (lg_sl ([.ref a_w, .int x1]) ++ List.replicate (3 - (lg_sl ([.ref a_w, .int x1])).length) Slot.unset).toArray = ls at hl ⊢
  have hl : lv_has ls 3 [(0, .ref a_w), (1, .int x1)] := hl
  unfold f_X3_lowestOf at h
  refine lv_iconst (v := 0) hx hb dX3_lowestOf_0 (by decide) ?_
  refine lv_istore_n (lv' := [(2, .int (0 : Int32)), (0, .ref a_w), (1, .int x1)]) hx hb dX3_lowestOf_1 rfl hl (by decide) rfl (fun ls hl => ?_)
  obtain ⟨o_2, K_2, i_2, hk_2, h⟩ := os0_inv h
  have after_2 : ∀ (_ : K_2) (H : Heap) (locs : List Loc) (ls : Array Slot), va_P (dC, dI) vwCl [(a_w, .inr (3, [.int w_count, .int w_references, .ref a_w_kind, .ref a_w_owner, .ref a_w_from, .ref a_w_to, .ref a_w_away]))] H → va_S noA s.heap H locs → lv_has ls 3 [] → W p l e (headSpec wsX3_lowestOf ({ frames := 1, cells := 0, slots := 0, locals := 21 } : Room)).room s m ([.ref a_w, .int x1] : List Value).toArray below meth c H locs 0 0 (MQ below (kQ (some (.int r)) True (fun _ => True) noA) ([.ref a_w, .int x1] : List Value).toArray s 0 0 noA) (F0 m 26 ls []) := by
    intro  ha H locs ls hP hS hl
    have h := hk_2  ha
    refine lv_bipush (v := 7) hx hb dX3_lowestOf_26 (by decide) ?_
    obtain rfl := Option.some.inj h
    exact W.iret hx hb hr (fun t ht _ => kQ.mk ht trivial trivial (hS.F ht)) hS.2.2 dX3_lowestOf_28
  have lp_2 : ∀ (n : Nat) (x2_2 : Int32) (H : Heap) (locs : List Loc) (ls : Array Slot), it (u1 (L_X3_lowestOf_2 w_count x1)) n x2_2 = some o_2 → va_P (dC, dI) vwCl [(a_w, .inr (3, [.int w_count, .int w_references, .ref a_w_kind, .ref a_w_owner, .ref a_w_from, .ref a_w_to, .ref a_w_away]))] H → va_S noA s.heap H locs → lv_has ls 3 [(0, .ref a_w), (1, .int x1), (2, .int x2_2)] → W p l e (headSpec wsX3_lowestOf ({ frames := 1, cells := 0, slots := 0, locals := 21 } : Room)).room s m ([.ref a_w, .int x1] : List Value).toArray below meth c H locs 0 0 (MQ below (kQ (some (.int r)) True (fun _ => True) noA) ([.ref a_w, .int x1] : List Value).toArray s 0 0 noA) (F0 m 2 ls []) := by
    intro n
    induction n with
    | zero => intro x2_2 H locs ls h1; exact (it_0 h1).elim
    | succ n ih_2 =>
      intro x2_2 H locs ls h1 hP hS hl
      obtain ⟨t_2, h1, k1⟩ := it1_inv h1
      unfold L_X3_lowestOf_2 at h1
      refine lv_iload_n hx hb dX3_lowestOf_2 rfl (lv_at hl 2 rfl) ?_
      refine lv_aload_n hx hb dX3_lowestOf_3 rfl (lv_at hl 0 rfl) ?_
      refine va_get (D := (dC, dI)) (ci := 3) (v := .int w_count) (C := RX3) (T := TX3) (N := 7) hx hb hts kin_X3_lowestOf_X3 hown hK hP 0 rfl rfl 0 (Nat.le_of_ble_eq_true rfl) (hts (.fieldLink RX3 9 "OwnedThings$Web" "count" "I") (List.mem_of_getElem? (i := 1) rfl)) (fun _ h9 => h9) rfl dX3_lowestOf_4 ?_
      refine lv_icmp_ge (tgt := 26) hx hb dX3_lowestOf_7 (by decide) (fun c_7 => ?_) (fun c_7 => ?_)
      · have h1 := hp_pos c_7 h1
        cases h1
        obtain rfl := pj1 k1
        exact after_2  h _ _ _ hP hS (lv_sub hl [] rfl)
      · have h1 := hp_neg c_7 h1
        refine lv_iload_n hx hb dX3_lowestOf_10 rfl (lv_at hl 1 rfl) ?_
        refine lv_iload_n hx hb dX3_lowestOf_11 rfl (lv_at hl 2 rfl) ?_
        obtain ⟨r_12, e_12, h1⟩ := ob1_inv h1
        refine k_pNi (rest := []) ⟨hx, hb, hml, hown, hts⟩ (c_X4_holds l dC dI cI cS x1 x2_2 r_12 e_12) ⟨va_cnB 2 hts gX3_lowestOf_X4_holds_n87 rfl rfl rfl hN.2.1 (hts (.initialized RX4) (List.mem_of_getElem? (i := 3) rfl)) khd_X4_holds.2 ⟨Nat.le_of_ble_eq_true rfl, Nat.le_of_ble_eq_true rfl⟩, (hts (.static yX4_holds) (List.mem_of_getElem? (i := 2) rfl)), trivial⟩ hK hN hP (va_D_fst hD rfl) hS [] rfl rfl rfl hl.1 rfl (Nat.le_of_ble_eq_true rfl) dX3_lowestOf_12 ⟨Nat.zero_le _, Nat.zero_le _⟩ (fun H locs hf_12 hP hS => ?_)
        refine lv_if_eq (tgt := 20) hx hb dX3_lowestOf_15 (by decide) (fun c_15 => ?_) (fun c_15 => ?_)
        · have h1 := hp_pos c_15 h1
          refine lv_iinc (v := (x2_2 + (1 : Int32))) (lv' := [(2, .int (x2_2 + (1 : Int32))), (0, .ref a_w), (1, .int x1)]) hx hb dX3_lowestOf_20 hl (k := 2) rfl rfl (by decide) rfl (fun ls hl => ?_)
          refine lv_goto (tgt := 2) hx hb dX3_lowestOf_23 (by decide) ?_
          cases h1
          exact ih_2 _ _ _ _ k1 hP hS (lv_sub hl [1, 2, 0] rfl)
        · have h1 := hp_neg c_15 h1
          refine lv_iload_n hx hb dX3_lowestOf_18 rfl (lv_at hl 2 rfl) ?_
          cases h1
          obtain rfl := pj1 k1
          have h := congrArg some h
          obtain rfl := Option.some.inj h
          exact W.iret hx hb hr (fun t ht _ => kQ.mk ht trivial trivial (hS.F ht)) hS.2.2 dX3_lowestOf_19
  exact lp_2 FUEL _ _ _ _ i_2 hP hS (lv_sub hl [1, 2, 0] rfl)
theorem kin_X3_stopOfWayPast_X3 : ∀ w ∈ wsX30, w ∈ wsX3_stopOfWayPast := fun _ h => List.mem_cons_of_mem _ (List.mem_append_right _ h)
theorem khd_X3_stopOfWayPast : yX3_stopOfWayPast.cls = RX3 ∧ yX3_stopOfWayPast.cls ≠ "java/lang/invoke/MethodHandle" ∧ yX3_stopOfWayPast.cls ≠ "java/lang/invoke/VarHandle" ∧ (parseMethodDescriptor yX3_stopOfWayPast.desc).map (fun d => d.parameters.length) = some 2 := by decide +kernel
set_option maxHeartbeats 8000000 in
set_option maxRecDepth 100000 in
theorem c_X3_stopOfWayPast (l : Launch) (dC : Nat → ClassId) (dI : Nat → Nat → Nat) (cI cS : ClassId) (a_w : Nat) (a_w_kind : Nat) (a_w_owner : Nat) (a_w_from : Nat) (a_w_to : Nat) (a_w_away : Nat) (w_count : Int32) (w_references : Int32) (w_owner : Nat → Int32) (w_from : Nat → Int32) (w_to : Nat → Int32) (w_away : Nat → Int32) (x1 : Int32) (x2 : Int32) (r : Int32) (z_w_away : Nat → Int32) (h : f_X3_stopOfWayPast w_count w_references w_owner w_from w_to w_away x1 x2 = some (r, z_w_away)) : Mk l yX3_stopOfWayPast wsX3_stopOfWayPast ({ frames := 3, cells := 0, slots := 0, locals := 66 } : Room) (dC, dI) cI cS [(a_w, .inr (3, [.int w_count, .int w_references, .ref a_w_kind, .ref a_w_owner, .ref a_w_from, .ref a_w_to, .ref a_w_away])), (a_w_owner, .inl (cI, 6, .inl w_owner)), (a_w_from, .inl (cI, 12, .inl w_from)), (a_w_to, .inl (cI, 12, .inl w_to)), (a_w_away, .inl (cI, 7, .inl w_away))] [.ref a_w, .int x1, .int x2] (some (.int r)) True (fun H => va_P (dC, dI) vwCl [(a_w, .inr (3, [.int w_count, .int w_references, .ref a_w_kind, .ref a_w_owner, .ref a_w_from, .ref a_w_to, .ref a_w_away])), (a_w_owner, .inl (cI, 6, .inl w_owner)), (a_w_from, .inl (cI, 12, .inl w_from)), (a_w_to, .inl (cI, 12, .inl w_to)), (a_w_away, .inl (cI, 7, .inl z_w_away))] H) (inA (List.map Prod.fst ([(a_w, .inr (3, [.int w_count, .int w_references, .ref a_w_kind, .ref a_w_owner, .ref a_w_from, .ref a_w_to, .ref a_w_away])), (a_w_owner, .inl (cI, 6, .inl w_owner)), (a_w_from, .inl (cI, 12, .inl w_from)), (a_w_to, .inl (cI, 12, .inl w_to)), (a_w_away, .inl (cI, 7, .inl w_away))] : va_W))) := by
  refine Met.ofW (cc := cX3_stopOfWayPast) (maxL := 6) (ret := (some .int)) (by decide) rfl ?_
  intro p e s m args below meth c s₁ B hml hv
  obtain ⟨rfl, hP, hK, hN, hD⟩ := hv
  have hx := B.exec
  have hb := B.bytes
  have hr := B.returns
  have hts := atoms_spec (ws := wsX3_stopOfWayPast) B.pre
  have hown : s.vm.findClass RX3 = some m.cls := findClass_of_methodNamed B.named
  have hlocks := B.notSynchronized
  have hS : va_S (inA [a_w, a_w_owner, a_w_from, a_w_to, a_w_away]) s.heap s.heap [] := va_S.rf
  have hP : va_P (dC, dI) vwCl [(a_w, .inr (3, [.int w_count, .int w_references, .ref a_w_kind, .ref a_w_owner, .ref a_w_from, .ref a_w_to, .ref a_w_away])), (a_w_owner, .inl (cI, 6, .inl w_owner)), (a_w_from, .inl (cI, 12, .inl w_from)), (a_w_to, .inl (cI, 12, .inl w_to)), (a_w_away, .inl (cI, 7, .inl w_away))] s.heap := hP
  have hD : va_D (inA [a_w, a_w_owner, a_w_from, a_w_to, a_w_away]) [(a_w, .inr (3, [.int w_count, .int w_references, .ref a_w_kind, .ref a_w_owner, .ref a_w_from, .ref a_w_to, .ref a_w_away])), (a_w_owner, .inl (cI, 6, .inl w_owner)), (a_w_from, .inl (cI, 12, .inl w_from)), (a_w_to, .inl (cI, 12, .inl w_to)), (a_w_away, .inl (cI, 7, .inl w_away))] := va_D_in hD rfl
  have hl := lv_entry ([.ref a_w, .int x1, .int x2]) (n := 6) (Nat.le_of_ble_eq_true rfl)
  rw [lg_entry_eq]
  generalize (lg_sl ([.ref a_w, .int x1, .int x2]) ++ List.replicate (6 - (lg_sl ([.ref a_w, .int x1, .int x2])).length) Slot.unset).toArray = ls at hl ⊢
  have hl : lv_has ls 6 [(0, .ref a_w), (1, .int x1), (2, .int x2)] := hl
  unfold f_X3_stopOfWayPast at h
  refine lv_aload_n hx hb dX3_stopOfWayPast_0 rfl (lv_at hl 0 rfl) ?_
  refine lv_iload_n hx hb dX3_stopOfWayPast_1 rfl (lv_at hl 1 rfl) ?_
  obtain ⟨r_2, r_2_away, e_2, h⟩ := ob2_inv h
  refine k_wVi (i0 := 0) (rest := []) (ws' := [(a_w, .inr (3, [.int w_count, .int w_references, .ref a_w_kind, .ref a_w_owner, .ref a_w_from, .ref a_w_to, .ref a_w_away])), (a_w_owner, .inl (cI, 6, .inl w_owner)), (a_w_from, .inl (cI, 12, .inl w_from)), (a_w_to, .inl (cI, 12, .inl w_to)), (a_w_away, .inl (cI, 7, .inl r_2_away))]) ⟨hx, hb, hml, hown, hts⟩ (c_X3_findWayPast l dC dI cI cS a_w a_w_kind a_w_owner a_w_from a_w_to a_w_away w_count w_references w_owner w_from w_to w_away x1 r_2 r_2_away e_2) (cwV 1 hts gX3_stopOfWayPast_X3_findWayPast rfl rfl rfl khd_X3_findWayPast ⟨Nat.le_of_ble_eq_true rfl, Nat.le_of_ble_eq_true rfl⟩) hK hN hP (va_D_fst hD rfl) hS [0, 1, 2, 3, 4] rfl rfl rfl rfl rfl rfl hl.1 rfl (Nat.le_of_ble_eq_true rfl) dX3_stopOfWayPast_2 ⟨Nat.zero_le _, Nat.zero_le _⟩ rfl rfl (fun H locs hf_2 hP hS => ?_)
  refine lv_istore_n (lv' := [(3, .int r_2), (0, .ref a_w), (1, .int x1), (2, .int x2)]) hx hb dX3_stopOfWayPast_5 rfl hl (by decide) rfl (fun ls hl => ?_)
  refine lv_iload_n hx hb dX3_stopOfWayPast_6 rfl (lv_at hl 3 rfl) ?_
  refine lv_if_lt (tgt := 15) hx hb dX3_stopOfWayPast_7 (by decide) (fun c_7 => ?_) (fun c_7 => ?_)
  · have h := hp_pos c_7 h
    refine lv_bipush (v := -9) hx hb dX3_stopOfWayPast_15 (by decide) ?_
    obtain ⟨rfl, rfl⟩ := pj2 (Option.some.inj h)
    exact W.iret hx hb hr (fun t ht _ => kQ.mk ht hP trivial (hS.F ht)) hS.2.2 dX3_stopOfWayPast_17
  · have h := hp_neg c_7 h
    refine lv_iload_n hx hb dX3_stopOfWayPast_10 rfl (lv_at hl 3 rfl) ?_
    refine lv_iload_n hx hb dX3_stopOfWayPast_11 rfl (lv_at hl 0 rfl) ?_
    refine lv_icmp_lt (tgt := 18) hx hb dX3_stopOfWayPast_12 (by decide) (fun c_12 => ?_) (fun c_12 => ?_)
    · have h := hp_pos c_12 h
      refine lv_bipush (v := 6) hx hb dX3_stopOfWayPast_18 (by decide) ?_
      refine lv_istore (lv' := [(4, .int (6 : Int32)), (3, .int r_2), (0, .ref a_w), (1, .int x1), (2, .int x2)]) hx hb dX3_stopOfWayPast_20 hl (by decide) rfl (fun ls hl => ?_)
      refine lv_iload_n hx hb dX3_stopOfWayPast_22 rfl (lv_at hl 1 rfl) ?_
      refine lv_iconst (v := 1) hx hb dX3_stopOfWayPast_23 (by decide) ?_
      refine lv_isub hx hb dX3_stopOfWayPast_24 ?_
      refine lv_istore (lv' := [(5, .int (r_2 - (1 : Int32))), (4, .int (6 : Int32)), (3, .int r_2), (0, .ref a_w), (1, .int x1), (2, .int x2)]) hx hb dX3_stopOfWayPast_25 hl (by decide) rfl (fun ls hl => ?_)
      obtain ⟨y4_27, i_27, h⟩ := ob1_inv h
      have after_27 : ∀ (H : Heap) (locs : List Loc) (ls : Array Slot), va_P (dC, dI) vwCl [(a_w, .inr (3, [.int w_count, .int w_references, .ref a_w_kind, .ref a_w_owner, .ref a_w_from, .ref a_w_to, .ref a_w_away])), (a_w_owner, .inl (cI, 6, .inl w_owner)), (a_w_from, .inl (cI, 12, .inl w_from)), (a_w_to, .inl (cI, 12, .inl w_to)), (a_w_away, .inl (cI, 7, .inl r_2_away))] H → va_S (inA [a_w, a_w_owner, a_w_from, a_w_to, a_w_away]) s.heap H locs → lv_has ls 6 [(4, .int y4_27)] → W p l e (headSpec wsX3_stopOfWayPast ({ frames := 3, cells := 0, slots := 0, locals := 66 } : Room)).room s m ([.ref a_w, .int x1, .int x2] : List Value).toArray below meth c H locs 0 0 (MQ below (kQ (some (.int r)) True (fun H => va_P (dC, dI) vwCl [(a_w, .inr (3, [.int w_count, .int w_references, .ref a_w_kind, .ref a_w_owner, .ref a_w_from, .ref a_w_to, .ref a_w_away])), (a_w_owner, .inl (cI, 6, .inl w_owner)), (a_w_from, .inl (cI, 12, .inl w_from)), (a_w_to, .inl (cI, 12, .inl w_to)), (a_w_away, .inl (cI, 7, .inl z_w_away))] H) (inA (List.map Prod.fst ([(a_w, .inr (3, [.int w_count, .int w_references, .ref a_w_kind, .ref a_w_owner, .ref a_w_from, .ref a_w_to, .ref a_w_away])), (a_w_owner, .inl (cI, 6, .inl w_owner)), (a_w_from, .inl (cI, 12, .inl w_from)), (a_w_to, .inl (cI, 12, .inl w_to)), (a_w_away, .inl (cI, 7, .inl w_away))] : va_W)))) ([.ref a_w, .int x1, .int x2] : List Value).toArray s 0 0 (inA (List.map Prod.fst ([(a_w, .inr (3, [.int w_count, .int w_references, .ref a_w_kind, .ref a_w_owner, .ref a_w_from, .ref a_w_to, .ref a_w_away])), (a_w_owner, .inl (cI, 6, .inl w_owner)), (a_w_from, .inl (cI, 12, .inl w_from)), (a_w_to, .inl (cI, 12, .inl w_to)), (a_w_away, .inl (cI, 7, .inl w_away))] : va_W)))) (F0 m 63 ls []) := by
        intro H locs ls hP hS hl
        refine lv_iload hx hb dX3_stopOfWayPast_63 (lv_at hl 0 rfl) ?_
        obtain ⟨rfl, rfl⟩ := pj2 (Option.some.inj h)
        exact W.iret hx hb hr (fun t ht _ => kQ.mk ht hP trivial (hS.F ht)) hS.2.2 dX3_stopOfWayPast_65
      have lp_27 : ∀ (n : Nat) (x4_27 : Int32) (x5_27 : Int32) (H : Heap) (locs : List Loc) (ls : Array Slot), it (u2 (L_X3_stopOfWayPast_27 w_count w_references w_from w_to x2 r_2 r_2_away)) n (x4_27, x5_27) = some y4_27 → va_P (dC, dI) vwCl [(a_w, .inr (3, [.int w_count, .int w_references, .ref a_w_kind, .ref a_w_owner, .ref a_w_from, .ref a_w_to, .ref a_w_away])), (a_w_owner, .inl (cI, 6, .inl w_owner)), (a_w_from, .inl (cI, 12, .inl w_from)), (a_w_to, .inl (cI, 12, .inl w_to)), (a_w_away, .inl (cI, 7, .inl r_2_away))] H → va_S (inA [a_w, a_w_owner, a_w_from, a_w_to, a_w_away]) s.heap H locs → lv_has ls 6 [(0, .ref a_w), (2, .int x2), (3, .int r_2), (4, .int x4_27), (5, .int x5_27)] → W p l e (headSpec wsX3_stopOfWayPast ({ frames := 3, cells := 0, slots := 0, locals := 66 } : Room)).room s m ([.ref a_w, .int x1, .int x2] : List Value).toArray below meth c H locs 0 0 (MQ below (kQ (some (.int r)) True (fun H => va_P (dC, dI) vwCl [(a_w, .inr (3, [.int w_count, .int w_references, .ref a_w_kind, .ref a_w_owner, .ref a_w_from, .ref a_w_to, .ref a_w_away])), (a_w_owner, .inl (cI, 6, .inl w_owner)), (a_w_from, .inl (cI, 12, .inl w_from)), (a_w_to, .inl (cI, 12, .inl w_to)), (a_w_away, .inl (cI, 7, .inl z_w_away))] H) (inA (List.map Prod.fst ([(a_w, .inr (3, [.int w_count, .int w_references, .ref a_w_kind, .ref a_w_owner, .ref a_w_from, .ref a_w_to, .ref a_w_away])), (a_w_owner, .inl (cI, 6, .inl w_owner)), (a_w_from, .inl (cI, 12, .inl w_from)), (a_w_to, .inl (cI, 12, .inl w_to)), (a_w_away, .inl (cI, 7, .inl w_away))] : va_W)))) ([.ref a_w, .int x1, .int x2] : List Value).toArray s 0 0 (inA (List.map Prod.fst ([(a_w, .inr (3, [.int w_count, .int w_references, .ref a_w_kind, .ref a_w_owner, .ref a_w_from, .ref a_w_to, .ref a_w_away])), (a_w_owner, .inl (cI, 6, .inl w_owner)), (a_w_from, .inl (cI, 12, .inl w_from)), (a_w_to, .inl (cI, 12, .inl w_to)), (a_w_away, .inl (cI, 7, .inl w_away))] : va_W)))) (F0 m 27 ls []) := by
        intro n
        induction n with
        | zero => intro x4_27 x5_27 H locs ls h1; exact (it_0 h1).elim
        | succ n ih_27 =>
          intro x4_27 x5_27 H locs ls h1 hP hS hl
          obtain ⟨t_27, h1, k1⟩ := it2_inv h1
          unfold L_X3_stopOfWayPast_27 at h1
          refine lv_iload hx hb dX3_stopOfWayPast_27 (lv_at hl 4 rfl) ?_
          refine lv_iload_n hx hb dX3_stopOfWayPast_29 rfl (lv_at hl 2 rfl) ?_
          refine lv_iconst (v := 1) hx hb dX3_stopOfWayPast_30 (by decide) ?_
          refine lv_isub hx hb dX3_stopOfWayPast_31 ?_
          refine lv_iload_n hx hb dX3_stopOfWayPast_32 rfl (lv_at hl 1 rfl) ?_
          refine lv_isub hx hb dX3_stopOfWayPast_33 ?_
          refine lv_icmp_lt (tgt := 63) hx hb dX3_stopOfWayPast_34 (by decide) (fun c_34 => ?_) (fun c_34 => ?_)
          · have h1 := hp_pos c_34 h1
            cases h1
            obtain rfl := pj1 k1
            exact after_27 _ _ _ hP hS (lv_sub hl [3] rfl)
          · have h1 := hp_neg c_34 h1
            refine lv_aload_n hx hb dX3_stopOfWayPast_37 rfl (lv_at hl 0 rfl) ?_
            refine lv_aload_n hx hb dX3_stopOfWayPast_38 rfl (lv_at hl 0 rfl) ?_
            refine lv_iload hx hb dX3_stopOfWayPast_39 (lv_at hl 3 rfl) ?_
            obtain ⟨r_41, e_41, h1⟩ := ob1_inv h1
            refine k_pVi (i0 := 0) (rest := [.ref a_w]) ⟨hx, hb, hml, hown, hts⟩ (c_X3_targetsOf l dC dI cI cS a_w a_w_kind a_w_owner a_w_from a_w_to a_w_away w_count w_references w_from w_to x4_27 r_41 e_41) (cwV 1 hts gX3_stopOfWayPast_X3_targetsOf rfl rfl rfl khd_X3_targetsOf ⟨Nat.le_of_ble_eq_true rfl, Nat.le_of_ble_eq_true rfl⟩) hK hN hP (va_D_fst hD rfl) hS [0, 2, 3] rfl rfl rfl rfl rfl rfl hl.1 rfl (Nat.le_of_ble_eq_true rfl) dX3_stopOfWayPast_41 ⟨Nat.zero_le _, Nat.zero_le _⟩ (fun H locs hf_41 hP hS => ?_)
            refine lv_aload_n hx hb dX3_stopOfWayPast_44 rfl (lv_at hl 0 rfl) ?_
            refine va_get (D := (dC, dI)) (ci := 3) (v := .ref a_w_away) (C := RX3) (T := TX3) (N := 7) hx hb hts kin_X3_stopOfWayPast_X3 hown hK hP 0 rfl rfl 6 (Nat.le_of_ble_eq_true rfl) (hts (.fieldLink RX3 31 "OwnedThings$Web" "away" "[I") (List.mem_of_getElem? (i := 1) rfl)) (fun _ h9 => h9) rfl dX3_stopOfWayPast_45 ?_
            refine lv_iload hx hb dX3_stopOfWayPast_48 (lv_at hl 4 rfl) ?_
            have g_50 := hg_no h1
            have h1 := hg_yes h1
            refine va_iald (D := (dC, dI)) hx hb hK hP 4 0 rfl rfl g_50 dX3_stopOfWayPast_50 ?_
            refine lv_iand hx hb dX3_stopOfWayPast_51 ?_
            obtain ⟨r_52, e_52, h1⟩ := ob1_inv h1
            refine k_pVi (i0 := 0) (rest := []) ⟨hx, hb, hml, hown, hts⟩ (c_X3_lowestOf l dC dI cI cS a_w a_w_kind a_w_owner a_w_from a_w_to a_w_away w_count w_references (r_41 &&& (r_2_away x5_27.toNatClampNeg)) r_52 e_52) (cwV 1 hts gX3_stopOfWayPast_X3_lowestOf rfl rfl rfl khd_X3_lowestOf ⟨Nat.le_of_ble_eq_true rfl, Nat.le_of_ble_eq_true rfl⟩) hK hN hP (va_D_fst hD rfl) hS [0] rfl rfl rfl rfl rfl rfl hl.1 rfl (Nat.le_of_ble_eq_true rfl) dX3_stopOfWayPast_52 ⟨Nat.zero_le _, Nat.zero_le _⟩ (fun H locs hf_52 hP hS => ?_)
            refine lv_istore (lv' := [(4, .int r_52), (0, .ref a_w), (2, .int x2), (3, .int r_2), (5, .int x5_27)]) hx hb dX3_stopOfWayPast_55 hl (by decide) rfl (fun ls hl => ?_)
            refine lv_iinc (v := (x5_27 + (-1 : Int32))) (lv' := [(5, .int (x5_27 + (-1 : Int32))), (4, .int r_52), (0, .ref a_w), (2, .int x2), (3, .int r_2)]) hx hb dX3_stopOfWayPast_57 hl (k := 4) rfl rfl (by decide) rfl (fun ls hl => ?_)
            refine lv_goto (tgt := 27) hx hb dX3_stopOfWayPast_60 (by decide) ?_
            cases h1
            exact ih_27 _ _ _ _ _ k1 hP hS (lv_sub hl [2, 3, 4, 1, 0] rfl)
      exact lp_27 FUEL _ _ _ _ _ i_27 hP hS (lv_sub hl [3, 5, 2, 1, 0] rfl)
    · have h := hp_neg c_12 h
      refine lv_bipush (v := -9) hx hb dX3_stopOfWayPast_15 (by decide) ?_
      obtain ⟨rfl, rfl⟩ := pj2 (Option.some.inj h)
      exact W.iret hx hb hr (fun t ht _ => kQ.mk ht hP trivial (hS.F ht)) hS.2.2 dX3_stopOfWayPast_17
theorem khd_X4_isBetween : yX4_isBetween.cls = RX4 ∧ yX4_isBetween.cls ≠ "java/lang/invoke/MethodHandle" ∧ yX4_isBetween.cls ≠ "java/lang/invoke/VarHandle" ∧ (parseMethodDescriptor yX4_isBetween.desc).map (fun d => d.parameters.length) = some 3 := by decide +kernel
set_option maxHeartbeats 8000000 in
set_option maxRecDepth 100000 in
theorem c_X4_isBetween (l : Launch) (dC : Nat → ClassId) (dI : Nat → Nat → Nat) (cI cS : ClassId) (x0 : Int32) (x1 : Int32) (x2 : Int32) (r : Int32) (h : f_X4_isBetween x0 x1 x2 = some r) : Mk l yX4_isBetween wsX4_isBetween ({ frames := 0, cells := 0, slots := 0, locals := 0 } : Room) (dC, dI) cI cS [] [.int x0, .int x1, .int x2] (some (.int r)) (r = 0 ∨ r = 1) (fun _ => True) noA := by
  refine Met.ofW (cc := cX4_isBetween) (maxL := 3) (ret := (some .boolean)) (by decide) rfl ?_
  intro p e s m args below meth c s₁ B hml hv
  obtain ⟨rfl, hP, hK, hN, hD⟩ := hv
  have hx := B.exec
  have hb := B.bytes
  have hr := B.returns
  have hts := atoms_spec (ws := wsX4_isBetween) B.pre
  have hown : s.vm.findClass RX4 = some m.cls := findClass_of_methodNamed B.named
  have hlocks := B.notSynchronized
  have hS : va_S noA s.heap s.heap [] := va_S.rf
  have hP : va_P (dC, dI) vwCl [] s.heap := hP
  have hl := lv_entry ([.int x0, .int x1, .int x2]) (n := 3) (Nat.le_of_ble_eq_true rfl)
  rw [lg_entry_eq]
  generalize (lg_sl ([.int x0, .int x1, .int x2]) ++ List.replicate (3 - (lg_sl ([.int x0, .int x1, .int x2])).length) Slot.unset).toArray = ls at hl ⊢
  have hl : lv_has ls 3 [(0, .int x0), (1, .int x1), (2, .int x2)] := hl
  unfold f_X4_isBetween at h
  refine lv_iload_n hx hb dX4_isBetween_0 rfl (lv_at hl 0 rfl) ?_
  refine lv_iload_n hx hb dX4_isBetween_1 rfl (lv_at hl 1 rfl) ?_
  refine lv_icmp_lt (tgt := 14) hx hb dX4_isBetween_2 (by decide) (fun c_2 => ?_) (fun c_2 => ?_)
  · have h := hp_pos c_2 h
    refine lv_iconst (v := 0) hx hb dX4_isBetween_14 (by decide) ?_
    obtain rfl := Option.some.inj h
    exact W.zret hx hb hr (nb01 (Or.inl rfl)) (fun t ht _ => kQ.mk ht trivial (Or.inl rfl) (hS.F ht)) hS.2.2 dX4_isBetween_15
  · have h := hp_neg c_2 h
    refine lv_iload_n hx hb dX4_isBetween_5 rfl (lv_at hl 0 rfl) ?_
    refine lv_iload_n hx hb dX4_isBetween_6 rfl (lv_at hl 2 rfl) ?_
    refine lv_icmp_gt (tgt := 14) hx hb dX4_isBetween_7 (by decide) (fun c_7 => ?_) (fun c_7 => ?_)
    · have h := hp_pos c_7 h
      refine lv_iconst (v := 0) hx hb dX4_isBetween_14 (by decide) ?_
      obtain rfl := Option.some.inj h
      exact W.zret hx hb hr (nb01 (Or.inl rfl)) (fun t ht _ => kQ.mk ht trivial (Or.inl rfl) (hS.F ht)) hS.2.2 dX4_isBetween_15
    · have h := hp_neg c_7 h
      refine lv_iconst (v := 1) hx hb dX4_isBetween_10 (by decide) ?_
      refine lv_goto (tgt := 15) hx hb dX4_isBetween_11 (by decide) ?_
      obtain rfl := Option.some.inj h
      exact W.zret hx hb hr (nb01 (Or.inr rfl)) (fun t ht _ => kQ.mk ht trivial (Or.inr rfl) (hS.F ht)) hS.2.2 dX4_isBetween_15
theorem khd_X4_isLane : yX4_isLane.cls = RX4 ∧ yX4_isLane.cls ≠ "java/lang/invoke/MethodHandle" ∧ yX4_isLane.cls ≠ "java/lang/invoke/VarHandle" ∧ (parseMethodDescriptor yX4_isLane.desc).map (fun d => d.parameters.length) = some 1 := by decide +kernel
set_option maxHeartbeats 8000000 in
set_option maxRecDepth 100000 in
theorem c_X4_isLane (l : Launch) (dC : Nat → ClassId) (dI : Nat → Nat → Nat) (cI cS : ClassId) (x0 : Int32) (r : Int32) (h : f_X4_isLane x0 = some r) : Mk l yX4_isLane wsX4_isLane ({ frames := 1, cells := 0, slots := 0, locals := 22 } : Room) (dC, dI) cI cS [] [.int x0] (some (.int r)) (r = 0 ∨ r = 1) (fun _ => True) noA := by
  refine Met.ofW (cc := cX4_isLane) (maxL := 1) (ret := (some .boolean)) (by decide) rfl ?_
  intro p e s m args below meth c s₁ B hml hv
  obtain ⟨rfl, hP, hK, hN, hD⟩ := hv
  have hx := B.exec
  have hb := B.bytes
  have hr := B.returns
  have hts := atoms_spec (ws := wsX4_isLane) B.pre
  have hown : s.vm.findClass RX4 = some m.cls := findClass_of_methodNamed B.named
  have hlocks := B.notSynchronized
  have hS : va_S noA s.heap s.heap [] := va_S.rf
  have hP : va_P (dC, dI) vwCl [] s.heap := hP
  have hl := lv_entry ([.int x0]) (n := 1) (Nat.le_of_ble_eq_true rfl)
  rw [lg_entry_eq]
  generalize (lg_sl ([.int x0]) ++ List.replicate (1 - (lg_sl ([.int x0])).length) Slot.unset).toArray = ls at hl ⊢
  have hl : lv_has ls 1 [(0, .int x0)] := hl
  unfold f_X4_isLane at h
  refine lv_iload_n hx hb dX4_isLane_0 rfl (lv_at hl 0 rfl) ?_
  refine lv_iconst (v := 0) hx hb dX4_isLane_1 (by decide) ?_
  refine lv_iconst (v := 2) hx hb dX4_isLane_2 (by decide) ?_
  obtain ⟨r_3, e_3, h⟩ := ob1_inv h
  refine k_pSi (rest := []) ⟨hx, hb, hml, hown, hts⟩ (c_X4_isBetween l dC dI cI cS x0 (0 : Int32) (2 : Int32) r_3 e_3) (cwS 3 hts gX4_isLane_X4_isBetween rfl rfl rfl khd_X4_isBetween ⟨Nat.le_of_ble_eq_true rfl, Nat.le_of_ble_eq_true rfl⟩) hK hN hP (va_D_fst hD rfl) hS [] rfl rfl rfl hl.1 rfl (Nat.le_of_ble_eq_true rfl) dX4_isLane_3 ⟨Nat.zero_le _, Nat.zero_le _⟩ (fun H locs hf_3 hP hS => ?_)
  obtain rfl := Option.some.inj h
  exact W.zret hx hb hr (nb01 (hf_3)) (fun t ht _ => kQ.mk ht trivial (hf_3) (hS.F ht)) hS.2.2 dX4_isLane_6
theorem khd_X4_isSheet : yX4_isSheet.cls = RX4 ∧ yX4_isSheet.cls ≠ "java/lang/invoke/MethodHandle" ∧ yX4_isSheet.cls ≠ "java/lang/invoke/VarHandle" ∧ (parseMethodDescriptor yX4_isSheet.desc).map (fun d => d.parameters.length) = some 1 := by decide +kernel
set_option maxHeartbeats 8000000 in
set_option maxRecDepth 100000 in
theorem c_X4_isSheet (l : Launch) (dC : Nat → ClassId) (dI : Nat → Nat → Nat) (cI cS : ClassId) (x0 : Int32) (r : Int32) (h : f_X4_isSheet x0 = some r) : Mk l yX4_isSheet wsX4_isSheet ({ frames := 1, cells := 0, slots := 0, locals := 22 } : Room) (dC, dI) cI cS [] [.int x0] (some (.int r)) (r = 0 ∨ r = 1) (fun _ => True) noA := by
  refine Met.ofW (cc := cX4_isSheet) (maxL := 1) (ret := (some .boolean)) (by decide) rfl ?_
  intro p e s m args below meth c s₁ B hml hv
  obtain ⟨rfl, hP, hK, hN, hD⟩ := hv
  have hx := B.exec
  have hb := B.bytes
  have hr := B.returns
  have hts := atoms_spec (ws := wsX4_isSheet) B.pre
  have hown : s.vm.findClass RX4 = some m.cls := findClass_of_methodNamed B.named
  have hlocks := B.notSynchronized
  have hS : va_S noA s.heap s.heap [] := va_S.rf
  have hP : va_P (dC, dI) vwCl [] s.heap := hP
  have hl := lv_entry ([.int x0]) (n := 1) (Nat.le_of_ble_eq_true rfl)
  rw [lg_entry_eq]
  generalize (lg_sl ([.int x0]) ++ List.replicate (1 - (lg_sl ([.int x0])).length) Slot.unset).toArray = ls at hl ⊢
  have hl : lv_has ls 1 [(0, .int x0)] := hl
  unfold f_X4_isSheet at h
  refine lv_iload_n hx hb dX4_isSheet_0 rfl (lv_at hl 0 rfl) ?_
  refine lv_iconst (v := 0) hx hb dX4_isSheet_1 (by decide) ?_
  refine lv_iconst (v := 3) hx hb dX4_isSheet_2 (by decide) ?_
  obtain ⟨r_3, e_3, h⟩ := ob1_inv h
  refine k_pSi (rest := []) ⟨hx, hb, hml, hown, hts⟩ (c_X4_isBetween l dC dI cI cS x0 (0 : Int32) (3 : Int32) r_3 e_3) (cwS 3 hts gX4_isSheet_X4_isBetween rfl rfl rfl khd_X4_isBetween ⟨Nat.le_of_ble_eq_true rfl, Nat.le_of_ble_eq_true rfl⟩) hK hN hP (va_D_fst hD rfl) hS [] rfl rfl rfl hl.1 rfl (Nat.le_of_ble_eq_true rfl) dX4_isSheet_3 ⟨Nat.zero_le _, Nat.zero_le _⟩ (fun H locs hf_3 hP hS => ?_)
  obtain rfl := Option.some.inj h
  exact W.zret hx hb hr (nb01 (hf_3)) (fun t ht _ => kQ.mk ht trivial (hf_3) (hS.F ht)) hS.2.2 dX4_isSheet_6
theorem khd_X4_oneIf : yX4_oneIf.cls = RX4 ∧ yX4_oneIf.cls ≠ "java/lang/invoke/MethodHandle" ∧ yX4_oneIf.cls ≠ "java/lang/invoke/VarHandle" ∧ (parseMethodDescriptor yX4_oneIf.desc).map (fun d => d.parameters.length) = some 1 := by decide +kernel
set_option maxHeartbeats 8000000 in
set_option maxRecDepth 100000 in
theorem c_X4_oneIf (l : Launch) (dC : Nat → ClassId) (dI : Nat → Nat → Nat) (cI cS : ClassId) (x0 : Int32) (r : Int32) (h : f_X4_oneIf x0 = some r) : Mk l yX4_oneIf wsX4_oneIf ({ frames := 0, cells := 0, slots := 0, locals := 0 } : Room) (dC, dI) cI cS [] [.int x0] (some (.int r)) True (fun _ => True) noA := by
  refine Met.ofW (cc := cX4_oneIf) (maxL := 1) (ret := (some .int)) (by decide) rfl ?_
  intro p e s m args below meth c s₁ B hml hv
  obtain ⟨rfl, hP, hK, hN, hD⟩ := hv
  have hx := B.exec
  have hb := B.bytes
  have hr := B.returns
  have hts := atoms_spec (ws := wsX4_oneIf) B.pre
  have hown : s.vm.findClass RX4 = some m.cls := findClass_of_methodNamed B.named
  have hlocks := B.notSynchronized
  have hS : va_S noA s.heap s.heap [] := va_S.rf
  have hP : va_P (dC, dI) vwCl [] s.heap := hP
  have hl := lv_entry ([.int x0]) (n := 1) (Nat.le_of_ble_eq_true rfl)
  rw [lg_entry_eq]
  generalize (lg_sl ([.int x0]) ++ List.replicate (1 - (lg_sl ([.int x0])).length) Slot.unset).toArray = ls at hl ⊢
  have hl : lv_has ls 1 [(0, .int x0)] := hl
  unfold f_X4_oneIf at h
  refine lv_iload_n hx hb dX4_oneIf_0 rfl (lv_at hl 0 rfl) ?_
  refine lv_if_eq (tgt := 8) hx hb dX4_oneIf_1 (by decide) (fun c_1 => ?_) (fun c_1 => ?_)
  · have h := hp_pos c_1 h
    refine lv_iconst (v := 0) hx hb dX4_oneIf_8 (by decide) ?_
    obtain rfl := Option.some.inj h
    exact W.iret hx hb hr (fun t ht _ => kQ.mk ht trivial trivial (hS.F ht)) hS.2.2 dX4_oneIf_9
  · have h := hp_neg c_1 h
    refine lv_iconst (v := 1) hx hb dX4_oneIf_4 (by decide) ?_
    refine lv_goto (tgt := 9) hx hb dX4_oneIf_5 (by decide) ?_
    obtain rfl := Option.some.inj h
    exact W.iret hx hb hr (fun t ht _ => kQ.mk ht trivial trivial (hS.F ht)) hS.2.2 dX4_oneIf_9
