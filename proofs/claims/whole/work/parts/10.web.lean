theorem kin_X3_isThing_X3 : ∀ w ∈ wsX30, w ∈ wsX3_isThing := fun _ h => List.mem_cons_of_mem _ (List.mem_append_right _ h)
theorem khd_X3_isThing : yX3_isThing.cls = RX3 ∧ yX3_isThing.cls ≠ "java/lang/invoke/MethodHandle" ∧ yX3_isThing.cls ≠ "java/lang/invoke/VarHandle" ∧ (parseMethodDescriptor yX3_isThing.desc).map (fun d => d.parameters.length) = some 1 := by decide +kernel
set_option maxHeartbeats 8000000 in
set_option maxRecDepth 100000 in
theorem c_X3_isThing (l : Launch) (dC : Nat → ClassId) (dI : Nat → Nat → Nat) (cI cS : ClassId) (a_w : Nat) (a_w_kind : Nat) (a_w_owner : Nat) (a_w_from : Nat) (a_w_to : Nat) (a_w_away : Nat) (w_count : Int32) (w_references : Int32) (x1 : Int32) (r : Int32) (h : f_X3_isThing w_count x1 = some r) : Mk l yX3_isThing wsX3_isThing ({ frames := 0, cells := 0, slots := 0, locals := 0 } : Room) (dC, dI) cI cS [(a_w, .inr (3, [.int w_count, .int w_references, .ref a_w_kind, .ref a_w_owner, .ref a_w_from, .ref a_w_to, .ref a_w_away]))] [.ref a_w, .int x1] (some (.int r)) (r = 0 ∨ r = 1) (fun _ => True) noA := by
  refine Met.ofW (cc := cX3_isThing) (maxL := 2) (ret := (some .boolean)) (by decide) rfl ?_
  intro p e s m args below meth c s₁ B hml hv
  obtain ⟨rfl, hP, hK, hN, hD⟩ := hv
  have hx := B.exec
  have hb := B.bytes
  have hr := B.returns
  have hts := atoms_spec (ws := wsX3_isThing) B.pre
  have hown : s.vm.findClass RX3 = some m.cls := findClass_of_methodNamed B.named
  have hlocks := B.notSynchronized
  have hS : va_S noA s.heap s.heap [] := va_S.rf
  have hP : va_P (dC, dI) vwCl [(a_w, .inr (3, [.int w_count, .int w_references, .ref a_w_kind, .ref a_w_owner, .ref a_w_from, .ref a_w_to, .ref a_w_away]))] s.heap := hP
  have hl := lv_entry ([.ref a_w, .int x1]) (n := 2) (Nat.le_of_ble_eq_true rfl)
  rw [lg_entry_eq]
  generalize (lg_sl ([.ref a_w, .int x1]) ++ List.replicate (2 - (lg_sl ([.ref a_w, .int x1])).length) Slot.unset).toArray = ls at hl ⊢
  have hl : lv_has ls 2 [(0, .ref a_w), (1, .int x1)] := hl
  unfold f_X3_isThing at h
  refine lv_iload_n hx hb dX3_isThing_0 rfl (lv_at hl 1 rfl) ?_
  refine lv_if_lt (tgt := 16) hx hb dX3_isThing_1 (by decide) (fun c_1 => ?_) (fun c_1 => ?_)
  · have h := hp_pos c_1 h
    refine lv_iconst (v := 0) hx hb dX3_isThing_16 (by decide) ?_
    obtain rfl := Option.some.inj h
    exact W.zret hx hb hr (nb01 (Or.inl rfl)) (fun t ht _ => kQ.mk ht trivial (Or.inl rfl) (hS.F ht)) hS.2.2 dX3_isThing_17
  · have h := hp_neg c_1 h
    refine lv_iload_n hx hb dX3_isThing_4 rfl (lv_at hl 1 rfl) ?_
    refine lv_aload_n hx hb dX3_isThing_5 rfl (lv_at hl 0 rfl) ?_
    refine va_get (D := (dC, dI)) (ci := 3) (v := .int w_count) (C := RX3) (T := TX3) (N := 7) hx hb hts kin_X3_isThing_X3 hown hK hP 0 rfl rfl 0 (Nat.le_of_ble_eq_true rfl) (hts (.fieldLink RX3 9 "OwnedThings$Web" "count" "I") (List.mem_of_getElem? (i := 1) rfl)) (fun _ h9 => h9) rfl dX3_isThing_6 ?_
    refine lv_icmp_ge (tgt := 16) hx hb dX3_isThing_9 (by decide) (fun c_9 => ?_) (fun c_9 => ?_)
    · have h := hp_pos c_9 h
      refine lv_iconst (v := 0) hx hb dX3_isThing_16 (by decide) ?_
      obtain rfl := Option.some.inj h
      exact W.zret hx hb hr (nb01 (Or.inl rfl)) (fun t ht _ => kQ.mk ht trivial (Or.inl rfl) (hS.F ht)) hS.2.2 dX3_isThing_17
    · have h := hp_neg c_9 h
      refine lv_iconst (v := 1) hx hb dX3_isThing_12 (by decide) ?_
      refine lv_goto (tgt := 17) hx hb dX3_isThing_13 (by decide) ?_
      obtain rfl := Option.some.inj h
      exact W.zret hx hb hr (nb01 (Or.inr rfl)) (fun t ht _ => kQ.mk ht trivial (Or.inr rfl) (hS.F ht)) hS.2.2 dX3_isThing_17
theorem kin_X3_kindOf_X3 : ∀ w ∈ wsX30, w ∈ wsX3_kindOf := fun _ h => List.mem_cons_of_mem _ (List.mem_append_right _ h)
theorem khd_X3_kindOf : yX3_kindOf.cls = RX3 ∧ yX3_kindOf.cls ≠ "java/lang/invoke/MethodHandle" ∧ yX3_kindOf.cls ≠ "java/lang/invoke/VarHandle" ∧ (parseMethodDescriptor yX3_kindOf.desc).map (fun d => d.parameters.length) = some 1 := by decide +kernel
set_option maxHeartbeats 8000000 in
set_option maxRecDepth 100000 in
theorem c_X3_kindOf (l : Launch) (dC : Nat → ClassId) (dI : Nat → Nat → Nat) (cI cS : ClassId) (a_w : Nat) (a_w_kind : Nat) (a_w_owner : Nat) (a_w_from : Nat) (a_w_to : Nat) (a_w_away : Nat) (w_count : Int32) (w_references : Int32) (w_kind : Nat → Int32) (x1 : Int32) (r : Int32) (h : f_X3_kindOf w_count w_kind x1 = some r) : Mk l yX3_kindOf wsX3_kindOf ({ frames := 1, cells := 0, slots := 0, locals := 21 } : Room) (dC, dI) cI cS [(a_w, .inr (3, [.int w_count, .int w_references, .ref a_w_kind, .ref a_w_owner, .ref a_w_from, .ref a_w_to, .ref a_w_away])), (a_w_kind, .inl (cI, 6, .inl w_kind))] [.ref a_w, .int x1] (some (.int r)) True (fun _ => True) noA := by
  refine Met.ofW (cc := cX3_kindOf) (maxL := 2) (ret := (some .int)) (by decide) rfl ?_
  intro p e s m args below meth c s₁ B hml hv
  obtain ⟨rfl, hP, hK, hN, hD⟩ := hv
  have hx := B.exec
  have hb := B.bytes
  have hr := B.returns
  have hts := atoms_spec (ws := wsX3_kindOf) B.pre
  have hown : s.vm.findClass RX3 = some m.cls := findClass_of_methodNamed B.named
  have hlocks := B.notSynchronized
  have hS : va_S noA s.heap s.heap [] := va_S.rf
  have hP : va_P (dC, dI) vwCl [(a_w, .inr (3, [.int w_count, .int w_references, .ref a_w_kind, .ref a_w_owner, .ref a_w_from, .ref a_w_to, .ref a_w_away])), (a_w_kind, .inl (cI, 6, .inl w_kind))] s.heap := hP
  have hl := lv_entry ([.ref a_w, .int x1]) (n := 2) (Nat.le_of_ble_eq_true rfl)
  rw [lg_entry_eq]
  generalize (lg_sl ([.ref a_w, .int x1]) ++ List.replicate (2 - (lg_sl ([.ref a_w, .int x1])).length) Slot.unset).toArray = ls at hl ⊢
  have hl : lv_has ls 2 [(0, .ref a_w), (1, .int x1)] := hl
  unfold f_X3_kindOf at h
  refine lv_aload_n hx hb dX3_kindOf_0 rfl (lv_at hl 0 rfl) ?_
  refine lv_iload_n hx hb dX3_kindOf_1 rfl (lv_at hl 1 rfl) ?_
  obtain ⟨r_2, e_2, h⟩ := ob1_inv h
  refine k_pVi (i0 := 0) (rest := []) ⟨hx, hb, hml, hown, hts⟩ (c_X3_isThing l dC dI cI cS a_w a_w_kind a_w_owner a_w_from a_w_to a_w_away w_count w_references x1 r_2 e_2) (cwV 1 hts gX3_kindOf_X3_isThing rfl rfl rfl khd_X3_isThing ⟨Nat.le_of_ble_eq_true rfl, Nat.le_of_ble_eq_true rfl⟩) hK hN hP (va_D_fst hD rfl) hS [0] rfl rfl rfl rfl rfl rfl hl.1 rfl (Nat.le_of_ble_eq_true rfl) dX3_kindOf_2 ⟨Nat.zero_le _, Nat.zero_le _⟩ (fun H locs hf_2 hP hS => ?_)
  refine lv_if_eq (tgt := 17) hx hb dX3_kindOf_5 (by decide) (fun c_5 => ?_) (fun c_5 => ?_)
  · have h := hp_pos c_5 h
    refine lv_iconst (v := 0) hx hb dX3_kindOf_17 (by decide) ?_
    obtain rfl := Option.some.inj h
    exact W.iret hx hb hr (fun t ht _ => kQ.mk ht trivial trivial (hS.F ht)) hS.2.2 dX3_kindOf_18
  · have h := hp_neg c_5 h
    refine lv_aload_n hx hb dX3_kindOf_8 rfl (lv_at hl 0 rfl) ?_
    refine va_get (D := (dC, dI)) (ci := 3) (v := .ref a_w_kind) (C := RX3) (T := TX3) (N := 7) hx hb hts kin_X3_kindOf_X3 hown hK hP 0 rfl rfl 2 (Nat.le_of_ble_eq_true rfl) (hts (.fieldLink RX3 18 "OwnedThings$Web" "kind" "[I") (List.mem_of_getElem? (i := 1) rfl)) (fun _ h9 => h9) rfl dX3_kindOf_9 ?_
    refine lv_iload_n hx hb dX3_kindOf_12 rfl (lv_at hl 1 rfl) ?_
    have g_13 := hg_no h
    have h := hg_yes h
    refine va_iald (D := (dC, dI)) hx hb hK hP 1 0 rfl rfl g_13 dX3_kindOf_13 ?_
    refine lv_goto (tgt := 18) hx hb dX3_kindOf_14 (by decide) ?_
    obtain rfl := Option.some.inj h
    exact W.iret hx hb hr (fun t ht _ => kQ.mk ht trivial trivial (hS.F ht)) hS.2.2 dX3_kindOf_18
theorem kin_X3_levelOf_X3 : ∀ w ∈ wsX30, w ∈ wsX3_levelOf := fun _ h => List.mem_cons_of_mem _ (List.mem_append_right _ h)
theorem khd_X3_levelOf : yX3_levelOf.cls = RX3 ∧ yX3_levelOf.cls ≠ "java/lang/invoke/MethodHandle" ∧ yX3_levelOf.cls ≠ "java/lang/invoke/VarHandle" ∧ (parseMethodDescriptor yX3_levelOf.desc).map (fun d => d.parameters.length) = some 1 := by decide +kernel
set_option maxHeartbeats 8000000 in
set_option maxRecDepth 100000 in
theorem c_X3_levelOf (l : Launch) (dC : Nat → ClassId) (dI : Nat → Nat → Nat) (cI cS : ClassId) (a_w : Nat) (a_w_kind : Nat) (a_w_owner : Nat) (a_w_from : Nat) (a_w_to : Nat) (a_w_away : Nat) (w_count : Int32) (w_references : Int32) (w_owner : Nat → Int32) (x1 : Int32) (r : Int32) (h : f_X3_levelOf w_count w_owner x1 = some r) : Mk l yX3_levelOf wsX3_levelOf ({ frames := 1, cells := 0, slots := 0, locals := 21 } : Room) (dC, dI) cI cS [(a_w, .inr (3, [.int w_count, .int w_references, .ref a_w_kind, .ref a_w_owner, .ref a_w_from, .ref a_w_to, .ref a_w_away])), (a_w_owner, .inl (cI, 6, .inl w_owner))] [.ref a_w, .int x1] (some (.int r)) True (fun _ => True) noA := by
  refine Met.ofW (cc := cX3_levelOf) (maxL := 5) (ret := (some .int)) (by decide) rfl ?_
  intro p e s m args below meth c s₁ B hml hv
  obtain ⟨rfl, hP, hK, hN, hD⟩ := hv
  have hx := B.exec
  have hb := B.bytes
  have hr := B.returns
  have hts := atoms_spec (ws := wsX3_levelOf) B.pre
  have hown : s.vm.findClass RX3 = some m.cls := findClass_of_methodNamed B.named
  have hlocks := B.notSynchronized
  have hS : va_S noA s.heap s.heap [] := va_S.rf
  have hP : va_P (dC, dI) vwCl [(a_w, .inr (3, [.int w_count, .int w_references, .ref a_w_kind, .ref a_w_owner, .ref a_w_from, .ref a_w_to, .ref a_w_away])), (a_w_owner, .inl (cI, 6, .inl w_owner))] s.heap := hP
  have hl := lv_entry ([.ref a_w, .int x1]) (n := 5) (Nat.le_of_ble_eq_true rfl)
  rw [lg_entry_eq]
  generalize (lg_sl ([.ref a_w, .int x1]) ++ List.replicate (5 - (lg_sl ([.ref a_w, .int x1])).length) Slot.unset).toArray = ls at hl ⊢
  have hl : lv_has ls 5 [(0, .ref a_w), (1, .int x1)] := hl
  unfold f_X3_levelOf at h
  refine lv_iconst (v := 0) hx hb dX3_levelOf_0 (by decide) ?_
  refine lv_istore_n (lv' := [(2, .int (0 : Int32)), (0, .ref a_w), (1, .int x1)]) hx hb dX3_levelOf_1 rfl hl (by decide) rfl (fun ls hl => ?_)
  refine lv_iload_n hx hb dX3_levelOf_2 rfl (lv_at hl 2 rfl) ?_
  refine lv_istore_n (lv' := [(3, .int x1), (2, .int (0 : Int32)), (0, .ref a_w), (1, .int x1)]) hx hb dX3_levelOf_3 rfl hl (by decide) rfl (fun ls hl => ?_)
  refine lv_iconst (v := 0) hx hb dX3_levelOf_4 (by decide) ?_
  refine lv_istore (lv' := [(4, .int (0 : Int32)), (3, .int x1), (2, .int (0 : Int32)), (0, .ref a_w), (1, .int x1)]) hx hb dX3_levelOf_5 hl (by decide) rfl (fun ls hl => ?_)
  obtain ⟨y2_7, i_7, h⟩ := ob1_inv h
  have after_7 : ∀ (H : Heap) (locs : List Loc) (ls : Array Slot), va_P (dC, dI) vwCl [(a_w, .inr (3, [.int w_count, .int w_references, .ref a_w_kind, .ref a_w_owner, .ref a_w_from, .ref a_w_to, .ref a_w_away])), (a_w_owner, .inl (cI, 6, .inl w_owner))] H → va_S noA s.heap H locs → lv_has ls 5 [(2, .int y2_7)] → W p l e (headSpec wsX3_levelOf ({ frames := 1, cells := 0, slots := 0, locals := 21 } : Room)).room s m ([.ref a_w, .int x1] : List Value).toArray below meth c H locs 0 0 (MQ below (kQ (some (.int r)) True (fun _ => True) noA) ([.ref a_w, .int x1] : List Value).toArray s 0 0 noA) (F0 m 38 ls []) := by
    intro H locs ls hP hS hl
    refine lv_iload_n hx hb dX3_levelOf_38 rfl (lv_at hl 0 rfl) ?_
    obtain rfl := Option.some.inj h
    exact W.iret hx hb hr (fun t ht _ => kQ.mk ht trivial trivial (hS.F ht)) hS.2.2 dX3_levelOf_39
  have lp_7 : ∀ (n : Nat) (x2_7 : Int32) (x3_7 : Int32) (x4_7 : Int32) (H : Heap) (locs : List Loc) (ls : Array Slot), it (u3 (L_X3_levelOf_7 w_count w_owner)) n (x2_7, x3_7, x4_7) = some y2_7 → va_P (dC, dI) vwCl [(a_w, .inr (3, [.int w_count, .int w_references, .ref a_w_kind, .ref a_w_owner, .ref a_w_from, .ref a_w_to, .ref a_w_away])), (a_w_owner, .inl (cI, 6, .inl w_owner))] H → va_S noA s.heap H locs → lv_has ls 5 [(0, .ref a_w), (2, .int x2_7), (3, .int x3_7), (4, .int x4_7)] → W p l e (headSpec wsX3_levelOf ({ frames := 1, cells := 0, slots := 0, locals := 21 } : Room)).room s m ([.ref a_w, .int x1] : List Value).toArray below meth c H locs 0 0 (MQ below (kQ (some (.int r)) True (fun _ => True) noA) ([.ref a_w, .int x1] : List Value).toArray s 0 0 noA) (F0 m 7 ls []) := by
    intro n
    induction n with
    | zero => intro x2_7 x3_7 x4_7 H locs ls h1; exact (it_0 h1).elim
    | succ n ih_7 =>
      intro x2_7 x3_7 x4_7 H locs ls h1 hP hS hl
      obtain ⟨t_7, h1, k1⟩ := it3_inv h1
      unfold L_X3_levelOf_7 at h1
      refine lv_iload hx hb dX3_levelOf_7 (lv_at hl 3 rfl) ?_
      refine lv_bipush (v := 6) hx hb dX3_levelOf_9 (by decide) ?_
      refine lv_icmp_ge (tgt := 38) hx hb dX3_levelOf_11 (by decide) (fun c_11 => ?_) (fun c_11 => ?_)
      · have h1 := hp_pos c_11 h1
        cases h1
        obtain rfl := pj1 k1
        exact after_7 _ _ _ hP hS (lv_sub hl [1] rfl)
      · have h1 := hp_neg c_11 h1
        refine lv_aload_n hx hb dX3_levelOf_14 rfl (lv_at hl 0 rfl) ?_
        refine lv_iload_n hx hb dX3_levelOf_15 rfl (lv_at hl 2 rfl) ?_
        obtain ⟨r_16, e_16, h1⟩ := ob1_inv h1
        refine k_pVi (i0 := 0) (rest := []) ⟨hx, hb, hml, hown, hts⟩ (c_X3_isThing l dC dI cI cS a_w a_w_kind a_w_owner a_w_from a_w_to a_w_away w_count w_references x3_7 r_16 e_16) (cwV 1 hts gX3_levelOf_X3_isThing rfl rfl rfl khd_X3_isThing ⟨Nat.le_of_ble_eq_true rfl, Nat.le_of_ble_eq_true rfl⟩) hK hN hP (va_D_fst hD rfl) hS [0] rfl rfl rfl rfl rfl rfl hl.1 rfl (Nat.le_of_ble_eq_true rfl) dX3_levelOf_16 ⟨Nat.zero_le _, Nat.zero_le _⟩ (fun H locs hf_16 hP hS => ?_)
        refine lv_if_eq (tgt := 38) hx hb dX3_levelOf_19 (by decide) (fun c_19 => ?_) (fun c_19 => ?_)
        · have h1 := hp_pos c_19 h1
          cases h1
          obtain rfl := pj1 k1
          exact after_7 _ _ _ hP hS (lv_sub hl [1] rfl)
        · have h1 := hp_neg c_19 h1
          refine lv_aload_n hx hb dX3_levelOf_22 rfl (lv_at hl 0 rfl) ?_
          refine va_get (D := (dC, dI)) (ci := 3) (v := .ref a_w_owner) (C := RX3) (T := TX3) (N := 7) hx hb hts kin_X3_levelOf_X3 hown hK hP 0 rfl rfl 3 (Nat.le_of_ble_eq_true rfl) (hts (.fieldLink RX3 22 "OwnedThings$Web" "owner" "[I") (List.mem_of_getElem? (i := 1) rfl)) (fun _ h9 => h9) rfl dX3_levelOf_23 ?_
          refine lv_iload_n hx hb dX3_levelOf_26 rfl (lv_at hl 2 rfl) ?_
          have g_27 := hg_no h1
          have h1 := hg_yes h1
          refine va_iald (D := (dC, dI)) hx hb hK hP 1 0 rfl rfl g_27 dX3_levelOf_27 ?_
          refine lv_istore_n (lv' := [(3, .int (w_owner x3_7.toNatClampNeg)), (0, .ref a_w), (2, .int x2_7), (4, .int x4_7)]) hx hb dX3_levelOf_28 rfl hl (by decide) rfl (fun ls hl => ?_)
          refine lv_iinc (v := (x2_7 + (1 : Int32))) (lv' := [(2, .int (x2_7 + (1 : Int32))), (3, .int (w_owner x3_7.toNatClampNeg)), (0, .ref a_w), (4, .int x4_7)]) hx hb dX3_levelOf_29 hl (k := 2) rfl rfl (by decide) rfl (fun ls hl => ?_)
          refine lv_iinc (v := (x4_7 + (1 : Int32))) (lv' := [(4, .int (x4_7 + (1 : Int32))), (2, .int (x2_7 + (1 : Int32))), (3, .int (w_owner x3_7.toNatClampNeg)), (0, .ref a_w)]) hx hb dX3_levelOf_32 hl (k := 3) rfl rfl (by decide) rfl (fun ls hl => ?_)
          refine lv_goto (tgt := 7) hx hb dX3_levelOf_35 (by decide) ?_
          cases h1
          exact ih_7 _ _ _ _ _ _ k1 hP hS (lv_sub hl [3, 1, 2, 0] rfl)
  exact lp_7 FUEL _ _ _ _ _ _ i_7 hP hS (lv_sub hl [3, 2, 1, 0] rfl)
theorem kin_X3_lockOf_X3 : ∀ w ∈ wsX30, w ∈ wsX3_lockOf := fun _ h => List.mem_cons_of_mem _ (List.mem_append_right _ h)
theorem khd_X3_lockOf : yX3_lockOf.cls = RX3 ∧ yX3_lockOf.cls ≠ "java/lang/invoke/MethodHandle" ∧ yX3_lockOf.cls ≠ "java/lang/invoke/VarHandle" ∧ (parseMethodDescriptor yX3_lockOf.desc).map (fun d => d.parameters.length) = some 1 := by decide +kernel
set_option maxHeartbeats 8000000 in
set_option maxRecDepth 100000 in
theorem c_X3_lockOf (l : Launch) (dC : Nat → ClassId) (dI : Nat → Nat → Nat) (cI cS : ClassId) (a_w : Nat) (a_w_kind : Nat) (a_w_owner : Nat) (a_w_from : Nat) (a_w_to : Nat) (a_w_away : Nat) (w_count : Int32) (w_references : Int32) (w_kind : Nat → Int32) (w_owner : Nat → Int32) (x1 : Int32) (r : Int32) (h : f_X3_lockOf w_count w_kind w_owner x1 = some r) : Mk l yX3_lockOf wsX3_lockOf ({ frames := 2, cells := 0, slots := 0, locals := 45 } : Room) (dC, dI) cI cS [(a_w, .inr (3, [.int w_count, .int w_references, .ref a_w_kind, .ref a_w_owner, .ref a_w_from, .ref a_w_to, .ref a_w_away])), (a_w_kind, .inl (cI, 6, .inl w_kind)), (a_w_owner, .inl (cI, 6, .inl w_owner))] [.ref a_w, .int x1] (some (.int r)) True (fun _ => True) noA := by
  refine Met.ofW (cc := cX3_lockOf) (maxL := 3) (ret := (some .int)) (by decide) rfl ?_
  intro p e s m args below meth c s₁ B hml hv
  obtain ⟨rfl, hP, hK, hN, hD⟩ := hv
  have hx := B.exec
  have hb := B.bytes
  have hr := B.returns
  have hts := atoms_spec (ws := wsX3_lockOf) B.pre
  have hown : s.vm.findClass RX3 = some m.cls := findClass_of_methodNamed B.named
  have hlocks := B.notSynchronized
  have hS : va_S noA s.heap s.heap [] := va_S.rf
  have hP : va_P (dC, dI) vwCl [(a_w, .inr (3, [.int w_count, .int w_references, .ref a_w_kind, .ref a_w_owner, .ref a_w_from, .ref a_w_to, .ref a_w_away])), (a_w_kind, .inl (cI, 6, .inl w_kind)), (a_w_owner, .inl (cI, 6, .inl w_owner))] s.heap := hP
  have hl := lv_entry ([.ref a_w, .int x1]) (n := 3) (Nat.le_of_ble_eq_true rfl)
  rw [lg_entry_eq]
  generalize (lg_sl ([.ref a_w, .int x1]) ++ List.replicate (3 - (lg_sl ([.ref a_w, .int x1])).length) Slot.unset).toArray = ls at hl ⊢
  have hl : lv_has ls 3 [(0, .ref a_w), (1, .int x1)] := hl
  unfold f_X3_lockOf at h
  refine lv_aload_n hx hb dX3_lockOf_0 rfl (lv_at hl 0 rfl) ?_
  refine lv_iload_n hx hb dX3_lockOf_1 rfl (lv_at hl 1 rfl) ?_
  obtain ⟨r_2, e_2, h⟩ := ob1_inv h
  refine k_pVi (i0 := 0) (rest := []) ⟨hx, hb, hml, hown, hts⟩ (c_X3_levelOf l dC dI cI cS a_w a_w_kind a_w_owner a_w_from a_w_to a_w_away w_count w_references w_owner x1 r_2 e_2) (cwV 1 hts gX3_lockOf_X3_levelOf rfl rfl rfl khd_X3_levelOf ⟨Nat.le_of_ble_eq_true rfl, Nat.le_of_ble_eq_true rfl⟩) hK hN hP (va_D_fst hD rfl) hS [0, 2] rfl rfl rfl rfl rfl rfl hl.1 rfl (Nat.le_of_ble_eq_true rfl) dX3_lockOf_2 ⟨Nat.zero_le _, Nat.zero_le _⟩ (fun H locs hf_2 hP hS => ?_)
  refine lv_istore_n (lv' := [(2, .int r_2), (0, .ref a_w), (1, .int x1)]) hx hb dX3_lockOf_5 rfl hl (by decide) rfl (fun ls hl => ?_)
  refine lv_aload_n hx hb dX3_lockOf_6 rfl (lv_at hl 1 rfl) ?_
  refine lv_iload_n hx hb dX3_lockOf_7 rfl (lv_at hl 2 rfl) ?_
  obtain ⟨r_8, e_8, h⟩ := ob1_inv h
  refine k_pVi (i0 := 0) (rest := []) ⟨hx, hb, hml, hown, hts⟩ (c_X3_kindOf l dC dI cI cS a_w a_w_kind a_w_owner a_w_from a_w_to a_w_away w_count w_references w_kind x1 r_8 e_8) (cwV 1 hts gX3_lockOf_X3_kindOf rfl rfl rfl khd_X3_kindOf ⟨Nat.le_of_ble_eq_true rfl, Nat.le_of_ble_eq_true rfl⟩) hK hN hP (va_D_fst hD rfl) hS [0, 1] rfl rfl rfl rfl rfl rfl hl.1 rfl (Nat.le_of_ble_eq_true rfl) dX3_lockOf_8 ⟨Nat.zero_le _, Nat.zero_le _⟩ (fun H locs hf_8 hP hS => ?_)
  by_cases s_11_1 : r_8 = (1 : Int32)
  · have h := hp_pos s_11_1 h
    refine lv_lookup (off := 25) (tgt := 36) hx hb dX3_lockOf_11 (by decide) (by rw [s_11_1]; rfl) (by decide) ?_
    refine lv_iload_n hx hb dX3_lockOf_36 rfl (lv_at hl 0 rfl) ?_
    refine lv_iconst (v := 1) hx hb dX3_lockOf_37 (by decide) ?_
    refine lv_iadd hx hb dX3_lockOf_38 ?_
    obtain rfl := Option.some.inj h
    exact W.iret hx hb hr (fun t ht _ => kQ.mk ht trivial trivial (hS.F ht)) hS.2.2 dX3_lockOf_39
  have h := hp_neg s_11_1 h
  by_cases s_11_2 : r_8 = (2 : Int32)
  · have h := hp_pos s_11_2 h
    refine lv_lookup (off := 29) (tgt := 40) hx hb dX3_lockOf_11 (by decide) (by rw [s_11_2]; rfl) (by decide) ?_
    refine lv_iconst (v := 2) hx hb dX3_lockOf_40 (by decide) ?_
    refine lv_iload_n hx hb dX3_lockOf_41 rfl (lv_at hl 0 rfl) ?_
    refine lv_imul hx hb dX3_lockOf_42 ?_
    obtain rfl := Option.some.inj h
    exact W.iret hx hb hr (fun t ht _ => kQ.mk ht trivial trivial (hS.F ht)) hS.2.2 dX3_lockOf_43
  have h := hp_neg s_11_2 h
  refine lv_lookup (off := 33) (tgt := 44) hx hb dX3_lockOf_11 (by decide) (by have q0 := ti_ne (z := 1) (by decide) s_11_1; have q1 := ti_ne (z := 2) (by decide) s_11_2; simp [Op.lookupswitch.offset, q0, Ne.symm q0, q1, Ne.symm q1]) (by decide) ?_
  refine lv_iload_n hx hb dX3_lockOf_44 rfl (lv_at hl 0 rfl) ?_
  obtain rfl := Option.some.inj h
  exact W.iret hx hb hr (fun t ht _ => kQ.mk ht trivial trivial (hS.F ht)) hS.2.2 dX3_lockOf_45
theorem khd_X4_oneIf : yX4_oneIf.cls = RX4 ∧ yX4_oneIf.cls ≠ "java/lang/invoke/MethodHandle" ∧ yX4_oneIf.cls ≠ "java/lang/invoke/VarHandle" ∧ (parseMethodDescriptor yX4_oneIf.desc).map (fun d => d.parameters.length) = some 1 := by decide +kernel
set_option maxHeartbeats 8000000 in
set_option maxRecDepth 100000 in
theorem c_X4_oneIf (l : Launch) (dC : Nat → ClassId) (dI : Nat → Nat → Nat) (cI cS : ClassId) (x0 : Int32) (r : Int32) (h : f_X4_oneIf x0 = some r) : Mk l yX4_oneIf wsX4_oneIf ({ frames := 0, cells := 0, slots := 0, locals := 0 } : Room) (dC, dI) cI cS [] [.int x0] (some (.int r)) True (fun _ => True) noA := by
  refine Met.ofW (cc := cX4_oneIf) (maxL := 1) (ret := (some .int)) (by decide) rfl ?_
  intro p e s m args below meth c s₁ B hml hv
  obtain ⟨rfl, hP, hK, hN, hD⟩ := hv
  have hx := B.exec
  have hb := B.bytes
  have hr := B.returns
  have hts := atoms_spec (ws := wsX4_oneIf) B.pre
  have hown : s.vm.findClass RX4 = some m.cls := findClass_of_methodNamed B.named
  have hlocks := B.notSynchronized
  have hS : va_S noA s.heap s.heap [] := va_S.rf
  have hP : va_P (dC, dI) vwCl [] s.heap := hP
  have hl := lv_entry ([.int x0]) (n := 1) (Nat.le_of_ble_eq_true rfl)
  rw [lg_entry_eq]
  generalize (lg_sl ([.int x0]) ++ List.replicate (1 - (lg_sl ([.int x0])).length) Slot.unset).toArray = ls at hl ⊢
  have hl : lv_has ls 1 [(0, .int x0)] := hl
  unfold f_X4_oneIf at h
  refine lv_iload_n hx hb dX4_oneIf_0 rfl (lv_at hl 0 rfl) ?_
  refine lv_if_eq (tgt := 8) hx hb dX4_oneIf_1 (by decide) (fun c_1 => ?_) (fun c_1 => ?_)
  · have h := hp_pos c_1 h
    refine lv_iconst (v := 0) hx hb dX4_oneIf_8 (by decide) ?_
    obtain rfl := Option.some.inj h
    exact W.iret hx hb hr (fun t ht _ => kQ.mk ht trivial trivial (hS.F ht)) hS.2.2 dX4_oneIf_9
  · have h := hp_neg c_1 h
    refine lv_iconst (v := 1) hx hb dX4_oneIf_4 (by decide) ?_
    refine lv_goto (tgt := 9) hx hb dX4_oneIf_5 (by decide) ?_
    obtain rfl := Option.some.inj h
    exact W.iret hx hb hr (fun t ht _ => kQ.mk ht trivial trivial (hS.F ht)) hS.2.2 dX4_oneIf_9
theorem kin_X3_addReference_X3 : ∀ w ∈ wsX30, w ∈ wsX3_addReference := fun _ h => List.mem_cons_of_mem _ (List.mem_append_right _ h)
theorem khd_X3_addReference : yX3_addReference.cls = RX3 ∧ yX3_addReference.cls ≠ "java/lang/invoke/MethodHandle" ∧ yX3_addReference.cls ≠ "java/lang/invoke/VarHandle" ∧ (parseMethodDescriptor yX3_addReference.desc).map (fun d => d.parameters.length) = some 2 := by decide +kernel
set_option maxHeartbeats 8000000 in
set_option maxRecDepth 100000 in
theorem c_X3_addReference (l : Launch) (dC : Nat → ClassId) (dI : Nat → Nat → Nat) (cI cS : ClassId) (a_w : Nat) (a_w_kind : Nat) (a_w_owner : Nat) (a_w_from : Nat) (a_w_to : Nat) (a_w_away : Nat) (w_count : Int32) (w_references : Int32) (w_from : Nat → Int32) (w_to : Nat → Int32) (x1 : Int32) (x2 : Int32) (z_w_references : Int32) (z_w_from : Nat → Int32) (z_w_to : Nat → Int32) (h : f_X3_addReference w_references w_from w_to x1 x2 = some (z_w_references, z_w_from, z_w_to)) : Mk l yX3_addReference wsX3_addReference ({ frames := 0, cells := 0, slots := 0, locals := 0 } : Room) (dC, dI) cI cS [(a_w, .inr (3, [.int w_count, .int w_references, .ref a_w_kind, .ref a_w_owner, .ref a_w_from, .ref a_w_to, .ref a_w_away])), (a_w_from, .inl (cI, 12, .inl w_from)), (a_w_to, .inl (cI, 12, .inl w_to))] [.ref a_w, .int x1, .int x2] none True (fun H => va_P (dC, dI) vwCl [(a_w, .inr (3, [.int w_count, .int z_w_references, .ref a_w_kind, .ref a_w_owner, .ref a_w_from, .ref a_w_to, .ref a_w_away])), (a_w_from, .inl (cI, 12, .inl z_w_from)), (a_w_to, .inl (cI, 12, .inl z_w_to))] H) (inA (List.map Prod.fst ([(a_w, .inr (3, [.int w_count, .int w_references, .ref a_w_kind, .ref a_w_owner, .ref a_w_from, .ref a_w_to, .ref a_w_away])), (a_w_from, .inl (cI, 12, .inl w_from)), (a_w_to, .inl (cI, 12, .inl w_to))] : va_W))) := by
  refine Met.ofW (cc := cX3_addReference) (maxL := 3) (ret := none) (by decide) rfl ?_
  intro p e s m args below meth c s₁ B hml hv
  obtain ⟨rfl, hP, hK, hN, hD⟩ := hv
  have hx := B.exec
  have hb := B.bytes
  have hr := B.returns
  have hts := atoms_spec (ws := wsX3_addReference) B.pre
  have hown : s.vm.findClass RX3 = some m.cls := findClass_of_methodNamed B.named
  have hlocks := B.notSynchronized
  have hS : va_S (inA [a_w, a_w_from, a_w_to]) s.heap s.heap [] := va_S.rf
  have hP : va_P (dC, dI) vwCl [(a_w, .inr (3, [.int w_count, .int w_references, .ref a_w_kind, .ref a_w_owner, .ref a_w_from, .ref a_w_to, .ref a_w_away])), (a_w_from, .inl (cI, 12, .inl w_from)), (a_w_to, .inl (cI, 12, .inl w_to))] s.heap := hP
  have hD : va_D (inA [a_w, a_w_from, a_w_to]) [(a_w, .inr (3, [.int w_count, .int w_references, .ref a_w_kind, .ref a_w_owner, .ref a_w_from, .ref a_w_to, .ref a_w_away])), (a_w_from, .inl (cI, 12, .inl w_from)), (a_w_to, .inl (cI, 12, .inl w_to))] := va_D_in hD rfl
  have hl := lv_entry ([.ref a_w, .int x1, .int x2]) (n := 3) (Nat.le_of_ble_eq_true rfl)
  rw [lg_entry_eq]
  generalize (lg_sl ([.ref a_w, .int x1, .int x2]) ++ List.replicate (3 - (lg_sl ([.ref a_w, .int x1, .int x2])).length) Slot.unset).toArray = ls at hl ⊢
  have hl : lv_has ls 3 [(0, .ref a_w), (1, .int x1), (2, .int x2)] := hl
  unfold f_X3_addReference at h
  refine lv_aload_n hx hb dX3_addReference_0 rfl (lv_at hl 0 rfl) ?_
  refine va_get (D := (dC, dI)) (ci := 3) (v := .int w_references) (C := RX3) (T := TX3) (N := 7) hx hb hts kin_X3_addReference_X3 hown hK hP 0 rfl rfl 1 (Nat.le_of_ble_eq_true rfl) (hts (.fieldLink RX3 15 "OwnedThings$Web" "references" "I") (List.mem_of_getElem? (i := 1) rfl)) (fun _ h9 => h9) rfl dX3_addReference_1 ?_
  refine lv_bipush (v := 12) hx hb dX3_addReference_4 (by decide) ?_
  refine lv_icmp_ge (tgt := 39) hx hb dX3_addReference_6 (by decide) (fun c_6 => ?_) (fun c_6 => ?_)
  · have h := hp_pos c_6 h
    obtain ⟨rfl, rfl, rfl⟩ := pj3 (Option.some.inj h)
    exact W.vret hx hb hr (fun t ht _ => kQ.mk ht hP trivial (hS.F ht)) hS.2.2 dX3_addReference_39
  · have h := hp_neg c_6 h
    refine lv_aload_n hx hb dX3_addReference_9 rfl (lv_at hl 0 rfl) ?_
    refine va_get (D := (dC, dI)) (ci := 3) (v := .ref a_w_from) (C := RX3) (T := TX3) (N := 7) hx hb hts kin_X3_addReference_X3 hown hK hP 0 rfl rfl 4 (Nat.le_of_ble_eq_true rfl) (hts (.fieldLink RX3 25 "OwnedThings$Web" "from" "[I") (List.mem_of_getElem? (i := 2) rfl)) (fun _ h9 => h9) rfl dX3_addReference_10 ?_
    refine lv_aload_n hx hb dX3_addReference_13 rfl (lv_at hl 0 rfl) ?_
    refine va_get (D := (dC, dI)) (ci := 3) (v := .int w_references) (C := RX3) (T := TX3) (N := 7) hx hb hts kin_X3_addReference_X3 hown hK hP 0 rfl rfl 1 (Nat.le_of_ble_eq_true rfl) (hts (.fieldLink RX3 15 "OwnedThings$Web" "references" "I") (List.mem_of_getElem? (i := 1) rfl)) (fun _ h9 => h9) rfl dX3_addReference_14 ?_
    refine lv_iload_n hx hb dX3_addReference_17 rfl (lv_at hl 1 rfl) ?_
    have g_18 := hg_no h
    have h := hg_yes h
    refine va_iast (D := (dC, dI)) hx hb hK hP (va_D_fst hD rfl) hS 1 0 rfl rfl g_18 dX3_addReference_18 (fun H locs hP _ hS => ?_)
    have hP : va_P (dC, dI) vwCl [(a_w, .inr (3, [.int w_count, .int w_references, .ref a_w_kind, .ref a_w_owner, .ref a_w_from, .ref a_w_to, .ref a_w_away])), (a_w_from, .inl (cI, 12, .inl (upd w_from w_references.toNatClampNeg x1))), (a_w_to, .inl (cI, 12, .inl w_to))] H := hP
    refine lv_aload_n hx hb dX3_addReference_19 rfl (lv_at hl 0 rfl) ?_
    refine va_get (D := (dC, dI)) (ci := 3) (v := .ref a_w_to) (C := RX3) (T := TX3) (N := 7) hx hb hts kin_X3_addReference_X3 hown hK hP 0 rfl rfl 5 (Nat.le_of_ble_eq_true rfl) (hts (.fieldLink RX3 28 "OwnedThings$Web" "to" "[I") (List.mem_of_getElem? (i := 3) rfl)) (fun _ h9 => h9) rfl dX3_addReference_20 ?_
    refine lv_aload_n hx hb dX3_addReference_23 rfl (lv_at hl 0 rfl) ?_
    refine va_get (D := (dC, dI)) (ci := 3) (v := .int w_references) (C := RX3) (T := TX3) (N := 7) hx hb hts kin_X3_addReference_X3 hown hK hP 0 rfl rfl 1 (Nat.le_of_ble_eq_true rfl) (hts (.fieldLink RX3 15 "OwnedThings$Web" "references" "I") (List.mem_of_getElem? (i := 1) rfl)) (fun _ h9 => h9) rfl dX3_addReference_24 ?_
    refine lv_iload_n hx hb dX3_addReference_27 rfl (lv_at hl 2 rfl) ?_
    have g_28 := hg_no h
    have h := hg_yes h
    refine va_iast (D := (dC, dI)) hx hb hK hP (va_D_fst hD rfl) hS 2 0 rfl rfl g_28 dX3_addReference_28 (fun H locs hP _ hS => ?_)
    have hP : va_P (dC, dI) vwCl [(a_w, .inr (3, [.int w_count, .int w_references, .ref a_w_kind, .ref a_w_owner, .ref a_w_from, .ref a_w_to, .ref a_w_away])), (a_w_from, .inl (cI, 12, .inl (upd w_from w_references.toNatClampNeg x1))), (a_w_to, .inl (cI, 12, .inl (upd w_to w_references.toNatClampNeg x2)))] H := hP
    refine lv_aload_n hx hb dX3_addReference_29 rfl (lv_at hl 0 rfl) ?_
    refine lv_dup hx hb dX3_addReference_30 rfl ?_
    refine va_get (D := (dC, dI)) (ci := 3) (v := .int w_references) (C := RX3) (T := TX3) (N := 7) hx hb hts kin_X3_addReference_X3 hown hK hP 0 rfl rfl 1 (Nat.le_of_ble_eq_true rfl) (hts (.fieldLink RX3 15 "OwnedThings$Web" "references" "I") (List.mem_of_getElem? (i := 1) rfl)) (fun _ h9 => h9) rfl dX3_addReference_31 ?_
    refine lv_iconst (v := 1) hx hb dX3_addReference_34 (by decide) ?_
    refine lv_iadd hx hb dX3_addReference_35 ?_
    refine va_put (D := (dC, dI)) (ci := 3) (v := .int (w_references + (1 : Int32))) (C := RX3) (T := TX3) (N := 7) hx hb hts kin_X3_addReference_X3 tyX3 tyX3_ok nmX3 hown hK hP (va_D_fst hD rfl) hS 0 rfl rfl 1 (Nat.le_of_ble_eq_true rfl) (hts (.fieldLink RX3 15 "OwnedThings$Web" "references" "I") (List.mem_of_getElem? (i := 1) rfl)) (fun _ h9 => h9) rfl (tyX3_ok 1 (Nat.le_of_ble_eq_true rfl)) rfl rfl (Nat.le_of_ble_eq_true rfl) dX3_addReference_36 (fun H locs hP _ hS => ?_)
    have hP : va_P (dC, dI) vwCl [(a_w, .inr (3, [.int w_count, .int (w_references + (1 : Int32)), .ref a_w_kind, .ref a_w_owner, .ref a_w_from, .ref a_w_to, .ref a_w_away])), (a_w_from, .inl (cI, 12, .inl (upd w_from w_references.toNatClampNeg x1))), (a_w_to, .inl (cI, 12, .inl (upd w_to w_references.toNatClampNeg x2)))] H := hP
    obtain ⟨rfl, rfl, rfl⟩ := pj3 (Option.some.inj h)
    exact W.vret hx hb hr (fun t ht _ => kQ.mk ht hP trivial (hS.F ht)) hS.2.2 dX3_addReference_39
theorem kin_X3_find_X3 : ∀ w ∈ wsX30, w ∈ wsX3_find := fun _ h => List.mem_cons_of_mem _ (List.mem_append_right _ h)
theorem khd_X3_find : yX3_find.cls = RX3 ∧ yX3_find.cls ≠ "java/lang/invoke/MethodHandle" ∧ yX3_find.cls ≠ "java/lang/invoke/VarHandle" ∧ (parseMethodDescriptor yX3_find.desc).map (fun d => d.parameters.length) = some 2 := by decide +kernel
set_option maxHeartbeats 8000000 in
set_option maxRecDepth 100000 in
theorem c_X3_find (l : Launch) (dC : Nat → ClassId) (dI : Nat → Nat → Nat) (cI cS : ClassId) (a_w : Nat) (a_w_kind : Nat) (a_w_owner : Nat) (a_w_from : Nat) (a_w_to : Nat) (a_w_away : Nat) (w_count : Int32) (w_references : Int32) (w_from : Nat → Int32) (w_to : Nat → Int32) (x1 : Int32) (x2 : Int32) (r : Int32) (h : f_X3_find w_references w_from w_to x1 x2 = some r) : Mk l yX3_find wsX3_find ({ frames := 0, cells := 0, slots := 0, locals := 0 } : Room) (dC, dI) cI cS [(a_w, .inr (3, [.int w_count, .int w_references, .ref a_w_kind, .ref a_w_owner, .ref a_w_from, .ref a_w_to, .ref a_w_away])), (a_w_from, .inl (cI, 12, .inl w_from)), (a_w_to, .inl (cI, 12, .inl w_to))] [.ref a_w, .int x1, .int x2] (some (.int r)) True (fun _ => True) noA := by
  refine Met.ofW (cc := cX3_find) (maxL := 4) (ret := (some .int)) (by decide) rfl ?_
  intro p e s m args below meth c s₁ B hml hv
  obtain ⟨rfl, hP, hK, hN, hD⟩ := hv
  have hx := B.exec
  have hb := B.bytes
  have hr := B.returns
  have hts := atoms_spec (ws := wsX3_find) B.pre
  have hown : s.vm.findClass RX3 = some m.cls := findClass_of_methodNamed B.named
  have hlocks := B.notSynchronized
  have hS : va_S noA s.heap s.heap [] := va_S.rf
  have hP : va_P (dC, dI) vwCl [(a_w, .inr (3, [.int w_count, .int w_references, .ref a_w_kind, .ref a_w_owner, .ref a_w_from, .ref a_w_to, .ref a_w_away])), (a_w_from, .inl (cI, 12, .inl w_from)), (a_w_to, .inl (cI, 12, .inl w_to))] s.heap := hP
  have hl := lv_entry ([.ref a_w, .int x1, .int x2]) (n := 4) (Nat.le_of_ble_eq_true rfl)
  rw [lg_entry_eq]
  generalize (lg_sl ([.ref a_w, .int x1, .int x2]) ++ List.replicate (4 - (lg_sl ([.ref a_w, .int x1, .int x2])).length) Slot.unset).toArray = ls at hl ⊢
  have hl : lv_has ls 4 [(0, .ref a_w), (1, .int x1), (2, .int x2)] := hl
  unfold f_X3_find at h
  refine lv_iconst (v := 0) hx hb dX3_find_0 (by decide) ?_
  refine lv_istore_n (lv' := [(3, .int (0 : Int32)), (0, .ref a_w), (1, .int x1), (2, .int x2)]) hx hb dX3_find_1 rfl hl (by decide) rfl (fun ls hl => ?_)
  obtain ⟨o_2, K_2, i_2, hk_2, h⟩ := os0_inv h
  have after_2 : ∀ (_ : K_2) (H : Heap) (locs : List Loc) (ls : Array Slot), va_P (dC, dI) vwCl [(a_w, .inr (3, [.int w_count, .int w_references, .ref a_w_kind, .ref a_w_owner, .ref a_w_from, .ref a_w_to, .ref a_w_away])), (a_w_from, .inl (cI, 12, .inl w_from)), (a_w_to, .inl (cI, 12, .inl w_to))] H → va_S noA s.heap H locs → lv_has ls 4 [] → W p l e (headSpec wsX3_find ({ frames := 0, cells := 0, slots := 0, locals := 0 } : Room)).room s m ([.ref a_w, .int x1, .int x2] : List Value).toArray below meth c H locs 0 0 (MQ below (kQ (some (.int r)) True (fun _ => True) noA) ([.ref a_w, .int x1, .int x2] : List Value).toArray s 0 0 noA) (F0 m 38 ls []) := by
    intro  ha H locs ls hP hS hl
    have h := hk_2  ha
    refine lv_bipush (v := -9) hx hb dX3_find_38 (by decide) ?_
    obtain rfl := Option.some.inj h
    exact W.iret hx hb hr (fun t ht _ => kQ.mk ht trivial trivial (hS.F ht)) hS.2.2 dX3_find_40
  have lp_2 : ∀ (n : Nat) (x3_2 : Int32) (H : Heap) (locs : List Loc) (ls : Array Slot), it (u1 (L_X3_find_2 w_references w_from w_to x1 x2)) n x3_2 = some o_2 → va_P (dC, dI) vwCl [(a_w, .inr (3, [.int w_count, .int w_references, .ref a_w_kind, .ref a_w_owner, .ref a_w_from, .ref a_w_to, .ref a_w_away])), (a_w_from, .inl (cI, 12, .inl w_from)), (a_w_to, .inl (cI, 12, .inl w_to))] H → va_S noA s.heap H locs → lv_has ls 4 [(0, .ref a_w), (1, .int x1), (2, .int x2), (3, .int x3_2)] → W p l e (headSpec wsX3_find ({ frames := 0, cells := 0, slots := 0, locals := 0 } : Room)).room s m ([.ref a_w, .int x1, .int x2] : List Value).toArray below meth c H locs 0 0 (MQ below (kQ (some (.int r)) True (fun _ => True) noA) ([.ref a_w, .int x1, .int x2] : List Value).toArray s 0 0 noA) (F0 m 2 ls []) := by
    intro n
    induction n with
    | zero => intro x3_2 H locs ls h1; exact (it_0 h1).elim
    | succ n ih_2 =>
      intro x3_2 H locs ls h1 hP hS hl
      obtain ⟨t_2, h1, k1⟩ := it1_inv h1
      unfold L_X3_find_2 at h1
      refine lv_iload_n hx hb dX3_find_2 rfl (lv_at hl 3 rfl) ?_
      refine lv_aload_n hx hb dX3_find_3 rfl (lv_at hl 0 rfl) ?_
      refine va_get (D := (dC, dI)) (ci := 3) (v := .int w_references) (C := RX3) (T := TX3) (N := 7) hx hb hts kin_X3_find_X3 hown hK hP 0 rfl rfl 1 (Nat.le_of_ble_eq_true rfl) (hts (.fieldLink RX3 15 "OwnedThings$Web" "references" "I") (List.mem_of_getElem? (i := 1) rfl)) (fun _ h9 => h9) rfl dX3_find_4 ?_
      refine lv_icmp_ge (tgt := 38) hx hb dX3_find_7 (by decide) (fun c_7 => ?_) (fun c_7 => ?_)
      · have h1 := hp_pos c_7 h1
        cases h1
        obtain rfl := pj1 k1
        exact after_2  h _ _ _ hP hS (lv_sub hl [] rfl)
      · have h1 := hp_neg c_7 h1
        refine lv_aload_n hx hb dX3_find_10 rfl (lv_at hl 0 rfl) ?_
        refine va_get (D := (dC, dI)) (ci := 3) (v := .ref a_w_from) (C := RX3) (T := TX3) (N := 7) hx hb hts kin_X3_find_X3 hown hK hP 0 rfl rfl 4 (Nat.le_of_ble_eq_true rfl) (hts (.fieldLink RX3 25 "OwnedThings$Web" "from" "[I") (List.mem_of_getElem? (i := 2) rfl)) (fun _ h9 => h9) rfl dX3_find_11 ?_
        refine lv_iload_n hx hb dX3_find_14 rfl (lv_at hl 3 rfl) ?_
        have g_15 := hg_no h1
        have h1 := hg_yes h1
        refine va_iald (D := (dC, dI)) hx hb hK hP 1 0 rfl rfl g_15 dX3_find_15 ?_
        refine lv_iload_n hx hb dX3_find_16 rfl (lv_at hl 1 rfl) ?_
        refine lv_icmp_ne (tgt := 32) hx hb dX3_find_17 (by decide) (fun c_17 => ?_) (fun c_17 => ?_)
        · have h1 := hp_neg c_17 h1
          refine lv_iinc (v := (x3_2 + (1 : Int32))) (lv' := [(3, .int (x3_2 + (1 : Int32))), (0, .ref a_w), (1, .int x1), (2, .int x2)]) hx hb dX3_find_32 hl (k := 3) rfl rfl (by decide) rfl (fun ls hl => ?_)
          refine lv_goto (tgt := 2) hx hb dX3_find_35 (by decide) ?_
          cases h1
          exact ih_2 _ _ _ _ k1 hP hS (lv_sub hl [1, 2, 3, 0] rfl)
        · have h1 := hp_pos c_17 h1
          refine lv_aload_n hx hb dX3_find_20 rfl (lv_at hl 0 rfl) ?_
          refine va_get (D := (dC, dI)) (ci := 3) (v := .ref a_w_to) (C := RX3) (T := TX3) (N := 7) hx hb hts kin_X3_find_X3 hown hK hP 0 rfl rfl 5 (Nat.le_of_ble_eq_true rfl) (hts (.fieldLink RX3 28 "OwnedThings$Web" "to" "[I") (List.mem_of_getElem? (i := 3) rfl)) (fun _ h9 => h9) rfl dX3_find_21 ?_
          refine lv_iload_n hx hb dX3_find_24 rfl (lv_at hl 3 rfl) ?_
          have g_25 := hg_no h1
          have h1 := hg_yes h1
          refine va_iald (D := (dC, dI)) hx hb hK hP 2 0 rfl rfl g_25 dX3_find_25 ?_
          refine lv_iload_n hx hb dX3_find_26 rfl (lv_at hl 2 rfl) ?_
          refine lv_icmp_ne (tgt := 32) hx hb dX3_find_27 (by decide) (fun c_27 => ?_) (fun c_27 => ?_)
          · have h1 := hp_neg c_27 h1
            refine lv_iinc (v := (x3_2 + (1 : Int32))) (lv' := [(3, .int (x3_2 + (1 : Int32))), (0, .ref a_w), (1, .int x1), (2, .int x2)]) hx hb dX3_find_32 hl (k := 3) rfl rfl (by decide) rfl (fun ls hl => ?_)
            refine lv_goto (tgt := 2) hx hb dX3_find_35 (by decide) ?_
            cases h1
            exact ih_2 _ _ _ _ k1 hP hS (lv_sub hl [1, 2, 3, 0] rfl)
          · have h1 := hp_pos c_27 h1
            refine lv_iload_n hx hb dX3_find_30 rfl (lv_at hl 3 rfl) ?_
            cases h1
            obtain rfl := pj1 k1
            have h := congrArg some h
            obtain rfl := Option.some.inj h
            exact W.iret hx hb hr (fun t ht _ => kQ.mk ht trivial trivial (hS.F ht)) hS.2.2 dX3_find_31
  exact lp_2 FUEL _ _ _ _ i_2 hP hS (lv_sub hl [1, 2, 3, 0] rfl)
