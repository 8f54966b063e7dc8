theorem khd_L_cell : yL_cell.cls = RL ∧ yL_cell.cls ≠ "java/lang/invoke/MethodHandle" ∧ yL_cell.cls ≠ "java/lang/invoke/VarHandle" ∧ (parseMethodDescriptor yL_cell.desc).map (fun d => d.parameters.length) = some 2 := by decide +kernel
set_option maxHeartbeats 8000000 in
set_option maxRecDepth 100000 in
theorem c_L_cell (l : Launch) {b L : Nat} {xs : Nat → Int32} {x1 : Int32} {r : Int32} (h : f_L_cell L xs x1 = some r) : Met l yL_cell wsL_cell ({ frames := 0, cells := 0, slots := 0, locals := 0 } : Room) (va_Pc [.ref b, .int x1] (xS b L xs)) (kQ (some (.int r)) True (fun _ => True) noA) 0 0 noA := by
  refine Met.ofW (cc := cL_cell) (maxL := 2) (ret := (some .int)) (by decide) rfl ?_
  intro p e s m args below meth c s₁ B hml hv
  obtain ⟨rfl, hX⟩ := hv
  have hx := B.exec
  have hb := B.bytes
  have hr := B.returns
  have hts := atoms_spec (ws := wsL_cell) B.pre
  have hown : s.vm.findClass RL = some m.cls := findClass_of_methodNamed B.named
  have hlocks := B.notSynchronized
  have hS : va_S noA s.heap s.heap [] := va_S.rf
  have hX : va_X b L xs s s.heap := hX
  have hbl := xS_lt hX
  have hbA : ¬ noA b := fun q => q
  have hl := lv_entry ([.ref b, .int x1]) (n := 2) (Nat.le_of_ble_eq_true rfl)
  rw [lg_entry_eq]
  generalize (lg_sl ([.ref b, .int x1]) ++ List.replicate (2 - (lg_sl ([.ref b, .int x1])).length) Slot.unset).toArray = ls at hl ⊢
  have hl : lv_has ls 2 [(0, .ref b), (1, .int x1)] := hl
  unfold f_L_cell at h
  refine lv_iload_n hx hb dL_cell_0 rfl (lv_at hl 1 rfl) ?_
  refine lv_aload_n hx hb dL_cell_1 rfl (lv_at hl 0 rfl) ?_
  refine va_slen hx hb hX hbl hbA hS dL_cell_2 ?_
  refine lv_icmp_ge (tgt := 12) hx hb dL_cell_3 (by decide) (fun c_3 => ?_) (fun c_3 => ?_)
  · have h := hp_pos c_3 h
    refine lv_ldc hx hb hown (hts (.constant RL 7 (747796405)) (List.mem_of_getElem? (i := 1) rfl)) dL_cell_12 ?_
    refine lv_iload_n hx hb dL_cell_14 rfl (lv_at hl 1 rfl) ?_
    refine lv_iconst (v := 1) hx hb dL_cell_15 (by decide) ?_
    refine lv_iadd hx hb dL_cell_16 ?_
    refine lv_imul hx hb dL_cell_17 ?_
    obtain rfl := Option.some.inj h
    exact W.iret hx hb hr (fun t ht _ => kQ.mk ht trivial trivial (hS.F ht)) hS.2.2 dL_cell_18
  · have h := hp_neg c_3 h
    refine lv_aload_n hx hb dL_cell_6 rfl (lv_at hl 0 rfl) ?_
    refine lv_iload_n hx hb dL_cell_7 rfl (lv_at hl 1 rfl) ?_
    have g_8 := hg_no h
    have h := hg_yes h
    refine va_sld hx hb hX hbl hbA hS g_8 dL_cell_8 ?_
    refine lv_goto (tgt := 18) hx hb dL_cell_9 (by decide) ?_
    obtain rfl := Option.some.inj h
    exact W.iret hx hb hr (fun t ht _ => kQ.mk ht trivial trivial (hS.F ht)) hS.2.2 dL_cell_18
theorem khd_L_some : yL_some.cls = RL ∧ yL_some.cls ≠ "java/lang/invoke/MethodHandle" ∧ yL_some.cls ≠ "java/lang/invoke/VarHandle" ∧ (parseMethodDescriptor yL_some.desc).map (fun d => d.parameters.length) = some 2 := by decide +kernel
set_option maxHeartbeats 8000000 in
set_option maxRecDepth 100000 in
theorem c_L_some (l : Launch) (dC : Nat → ClassId) (dI : Nat → Nat → Nat) (cI cS : ClassId) {x0 : Int32} {x1 : Int32} {r : Int32} (h : f_L_some x0 x1 = some r) : Mk l yL_some wsL_some ({ frames := 0, cells := 0, slots := 0, locals := 0 } : Room) (dC, dI) cI cS [] [.int x0, .int x1] (some (.int r)) True (fun _ => True) noA := by
  refine Met.ofW (cc := cL_some) (maxL := 2) (ret := (some .int)) (by decide) rfl ?_
  intro p e s m args below meth c s₁ B hml hv
  obtain ⟨rfl, hP, hK, hN, hD⟩ := hv
  have hx := B.exec
  have hb := B.bytes
  have hr := B.returns
  have hts := atoms_spec (ws := wsL_some) B.pre
  have hown : s.vm.findClass RL = some m.cls := findClass_of_methodNamed B.named
  have hlocks := B.notSynchronized
  have hS : va_S noA s.heap s.heap [] := va_S.rf
  have hP : va_P (dC, dI) vwCl [] s.heap := hP
  have hD : va_D (fun _ => True) [] := hD
  have hl := lv_entry ([.int x0, .int x1]) (n := 2) (Nat.le_of_ble_eq_true rfl)
  rw [lg_entry_eq]
  generalize (lg_sl ([.int x0, .int x1]) ++ List.replicate (2 - (lg_sl ([.int x0, .int x1])).length) Slot.unset).toArray = ls at hl ⊢
  have hl : lv_has ls 2 [(0, .int x0), (1, .int x1)] := hl
  unfold f_L_some at h
  refine lv_iload_n hx hb dL_some_0 rfl (lv_at hl 0 rfl) ?_
  refine lv_ldc hx hb hown (hts (.constant RL 8 (2147483647)) (List.mem_of_getElem? (i := 1) rfl)) dL_some_1 ?_
  refine lv_iand hx hb dL_some_3 ?_
  refine lv_iload_n hx hb dL_some_4 rfl (lv_at hl 1 rfl) ?_
  have g_5 := hg_no h
  have h := hg_yes h
  refine lv_irem hx hb dL_some_5 g_5 ?_
  obtain rfl := Option.some.inj h
  exact W.iret hx hb hr (fun t ht _ => kQ.mk ht trivial trivial (hS.F ht)) hS.2.2 dL_some_6
theorem khd_L_place : yL_place.cls = RL ∧ yL_place.cls ≠ "java/lang/invoke/MethodHandle" ∧ yL_place.cls ≠ "java/lang/invoke/VarHandle" ∧ (parseMethodDescriptor yL_place.desc).map (fun d => d.parameters.length) = some 3 := by decide +kernel
set_option maxHeartbeats 8000000 in
set_option maxRecDepth 100000 in
theorem c_L_place (l : Launch) (dC : Nat → ClassId) (dI : Nat → Nat → Nat) (cI cS : ClassId) (a_g : Nat) {ga : Nat → Int32} {x1 : Int32} {x2 : Int32} {r : Int32} (h : f_L_place ga x1 x2 = some r) : Mk l yL_place wsL_place ({ frames := 0, cells := 0, slots := 0, locals := 0 } : Room) (dC, dI) cI cS [(a_g, .inl (cI, 38, .inl ga))] [.ref a_g, .int x1, .int x2] (some (.int r)) True (fun _ => True) noA := by
  refine Met.ofW (cc := cL_place) (maxL := 4) (ret := (some .int)) (by decide) rfl ?_
  intro p e s m args below meth c s₁ B hml hv
  obtain ⟨rfl, hP, hK, hN, hD⟩ := hv
  have hx := B.exec
  have hb := B.bytes
  have hr := B.returns
  have hts := atoms_spec (ws := wsL_place) B.pre
  have hown : s.vm.findClass RL = some m.cls := findClass_of_methodNamed B.named
  have hlocks := B.notSynchronized
  have hS : va_S noA s.heap s.heap [] := va_S.rf
  have hP : va_P (dC, dI) vwCl [(a_g, .inl (cI, 38, .inl ga))] s.heap := hP
  have hD : va_D (fun _ => True) [(a_g, .inl (cI, 38, .inl ga))] := hD
  have hl := lv_entry ([.ref a_g, .int x1, .int x2]) (n := 4) (Nat.le_of_ble_eq_true rfl)
  rw [lg_entry_eq]
  generalize (lg_sl ([.ref a_g, .int x1, .int x2]) ++ List.replicate (4 - (lg_sl ([.ref a_g, .int x1, .int x2])).length) Slot.unset).toArray = ls at hl ⊢
  have hl : lv_has ls 4 [(0, .ref a_g), (1, .int x1), (2, .int x2)] := hl
  unfold f_L_place at h
  refine lv_iconst (v := 0) hx hb dL_place_0 (by decide) ?_
  refine lv_istore_n (lv' := [(3, .int (0 : Int32)), (0, .ref a_g), (1, .int x1), (2, .int x2)]) hx hb dL_place_1 rfl hl (by decide) rfl (fun ls hl => ?_)
  obtain ⟨o_2, K_2, i_2, hk_2, h⟩ := os0_inv h
  have after_2 : ∀ (_ : K_2), ∀ (H : Heap) (locs : List Loc) (ls : Array Slot), va_P (dC, dI) vwCl [(a_g, .inl (cI, 38, .inl ga))] H → va_D (fun _ => True) [(a_g, .inl (cI, 38, .inl ga))] → va_S noA s.heap H locs → lv_has ls 4 [] → W p l e (headSpec wsL_place ({ frames := 0, cells := 0, slots := 0, locals := 0 } : Room)).room s m ([.ref a_g, .int x1, .int x2] : List Value).toArray below meth c H locs 0 0 (MQ below (kQ (some (.int r)) True (fun _ => True) noA) ([.ref a_g, .int x1, .int x2] : List Value).toArray s 0 0 noA) (F0 m 37 ls []) := by
    intro  ha H locs ls hP hD hS hl
    have h := hk_2  ha
    refine lv_bipush (v := -9) hx hb dL_place_37 (by decide) ?_
    obtain rfl := Option.some.inj h
    exact W.iret hx hb hr (fun t ht _ => kQ.mk ht trivial trivial (hS.F ht)) hS.2.2 dL_place_39
  have lp_2 : ∀ (n : Nat) (x3_2 : Int32), it (u1 (L_L_place_2 ga x1 x2)) n x3_2 = some o_2 → ∀ (H : Heap) (locs : List Loc) (ls : Array Slot), va_P (dC, dI) vwCl [(a_g, .inl (cI, 38, .inl ga))] H → va_D (fun _ => True) [(a_g, .inl (cI, 38, .inl ga))] → va_S noA s.heap H locs → lv_has ls 4 [(0, .ref a_g), (1, .int x1), (2, .int x2), (3, .int x3_2)] → W p l e (headSpec wsL_place ({ frames := 0, cells := 0, slots := 0, locals := 0 } : Room)).room s m ([.ref a_g, .int x1, .int x2] : List Value).toArray below meth c H locs 0 0 (MQ below (kQ (some (.int r)) True (fun _ => True) noA) ([.ref a_g, .int x1, .int x2] : List Value).toArray s 0 0 noA) (F0 m 2 ls []) := by
    intro n
    induction n with
    | zero => intro x3_2 h1 H locs ls hP hD hS hl; exact (it_0 h1).elim
    | succ n ih_2 =>
      intro x3_2 h1 H locs ls hP hD hS hl
      obtain ⟨t_2, h1, k1⟩ := it1_inv h1
      unfold L_L_place_2 at h1
      refine lv_iload_n hx hb dL_place_2 rfl (lv_at hl 3 rfl) ?_
      refine lv_aload_n hx hb dL_place_3 rfl (lv_at hl 0 rfl) ?_
      refine lv_iconst (v := 1) hx hb dL_place_4 (by decide) ?_
      refine va_iald (D := (dC, dI)) hx hb hK hP 0 0 rfl rfl (by unfold vp_in; decide) dL_place_5 ?_
      refine lv_icmp_ge (tgt := 37) hx hb dL_place_6 (by decide) (fun c_6 => ?_) (fun c_6 => ?_)
      · have h1 := hp_pos c_6 h1
        cases h1
        obtain rfl := pj1 k1
        exact after_2  h _ _ _ hP hD hS (lv_sub hl [] rfl)
      · have h1 := hp_neg c_6 h1
        refine lv_aload_n hx hb dL_place_9 rfl (lv_at hl 0 rfl) ?_
        refine lv_bipush (v := 14) hx hb dL_place_10 (by decide) ?_
        refine lv_iload_n hx hb dL_place_12 rfl (lv_at hl 3 rfl) ?_
        refine lv_iadd hx hb dL_place_13 ?_
        have g_14 := hg_no h1
        have h1 := hg_yes h1
        refine va_iald (D := (dC, dI)) hx hb hK hP 0 0 rfl rfl g_14 dL_place_14 ?_
        refine lv_iload_n hx hb dL_place_15 rfl (lv_at hl 1 rfl) ?_
        refine lv_icmp_ne (tgt := 31) hx hb dL_place_16 (by decide) (fun c_16 => ?_) (fun c_16 => ?_)
        · have h1 := hp_neg c_16 h1
          refine lv_iinc (v := (x3_2 + (1 : Int32))) (lv' := [(3, .int (x3_2 + (1 : Int32))), (0, .ref a_g), (1, .int x1), (2, .int x2)]) hx hb dL_place_31 hl (k := 3) rfl rfl (by decide) rfl (fun ls hl => ?_)
          refine lv_goto (tgt := 2) hx hb dL_place_34 (by decide) ?_
          cases h1
          exact ih_2 _ k1 _ _ _ hP hD hS (lv_sub hl [1, 2, 3, 0] rfl)
        · have h1 := hp_pos c_16 h1
          refine lv_aload_n hx hb dL_place_19 rfl (lv_at hl 0 rfl) ?_
          refine lv_bipush (v := 26) hx hb dL_place_20 (by decide) ?_
          refine lv_iload_n hx hb dL_place_22 rfl (lv_at hl 3 rfl) ?_
          refine lv_iadd hx hb dL_place_23 ?_
          have g_24 := hg_no h1
          have h1 := hg_yes h1
          refine va_iald (D := (dC, dI)) hx hb hK hP 0 0 rfl rfl g_24 dL_place_24 ?_
          refine lv_iload_n hx hb dL_place_25 rfl (lv_at hl 2 rfl) ?_
          refine lv_icmp_ne (tgt := 31) hx hb dL_place_26 (by decide) (fun c_26 => ?_) (fun c_26 => ?_)
          · have h1 := hp_neg c_26 h1
            refine lv_iinc (v := (x3_2 + (1 : Int32))) (lv' := [(3, .int (x3_2 + (1 : Int32))), (0, .ref a_g), (1, .int x1), (2, .int x2)]) hx hb dL_place_31 hl (k := 3) rfl rfl (by decide) rfl (fun ls hl => ?_)
            refine lv_goto (tgt := 2) hx hb dL_place_34 (by decide) ?_
            cases h1
            exact ih_2 _ k1 _ _ _ hP hD hS (lv_sub hl [1, 2, 3, 0] rfl)
          · have h1 := hp_pos c_26 h1
            refine lv_iload_n hx hb dL_place_29 rfl (lv_at hl 3 rfl) ?_
            cases h1
            obtain rfl := pj1 k1
            have h := congrArg some h
            obtain rfl := Option.some.inj h
            exact W.iret hx hb hr (fun t ht _ => kQ.mk ht trivial trivial (hS.F ht)) hS.2.2 dL_place_30
  exact lp_2 FUEL _ i_2 _ _ _ hP hD hS (lv_sub hl [1, 2, 3, 0] rfl)
theorem khd_L_level : yL_level.cls = RL ∧ yL_level.cls ≠ "java/lang/invoke/MethodHandle" ∧ yL_level.cls ≠ "java/lang/invoke/VarHandle" ∧ (parseMethodDescriptor yL_level.desc).map (fun d => d.parameters.length) = some 2 := by decide +kernel
set_option maxHeartbeats 8000000 in
set_option maxRecDepth 100000 in
theorem c_L_level (l : Launch) (dC : Nat → ClassId) (dI : Nat → Nat → Nat) (cI cS : ClassId) (a_g : Nat) {ga : Nat → Int32} {x1 : Int32} {r : Int32} (h : f_L_level ga x1 = some r) : Mk l yL_level wsL_level ({ frames := 0, cells := 0, slots := 0, locals := 0 } : Room) (dC, dI) cI cS [(a_g, .inl (cI, 38, .inl ga))] [.ref a_g, .int x1] (some (.int r)) True (fun _ => True) noA := by
  refine Met.ofW (cc := cL_level) (maxL := 4) (ret := (some .int)) (by decide) rfl ?_
  intro p e s m args below meth c s₁ B hml hv
  obtain ⟨rfl, hP, hK, hN, hD⟩ := hv
  have hx := B.exec
  have hb := B.bytes
  have hr := B.returns
  have hts := atoms_spec (ws := wsL_level) B.pre
  have hown : s.vm.findClass RL = some m.cls := findClass_of_methodNamed B.named
  have hlocks := B.notSynchronized
  have hS : va_S noA s.heap s.heap [] := va_S.rf
  have hP : va_P (dC, dI) vwCl [(a_g, .inl (cI, 38, .inl ga))] s.heap := hP
  have hD : va_D (fun _ => True) [(a_g, .inl (cI, 38, .inl ga))] := hD
  have hl := lv_entry ([.ref a_g, .int x1]) (n := 4) (Nat.le_of_ble_eq_true rfl)
  rw [lg_entry_eq]
  generalize (lg_sl ([.ref a_g, .int x1]) ++ List.replicate (4 - (lg_sl ([.ref a_g, .int x1])).length) Slot.unset).toArray = ls at hl ⊢
  have hl : lv_has ls 4 [(0, .ref a_g), (1, .int x1)] := hl
  unfold f_L_level at h
  refine lv_iconst (v := 0) hx hb dL_level_0 (by decide) ?_
  refine lv_istore_n (lv' := [(2, .int (0 : Int32)), (0, .ref a_g), (1, .int x1)]) hx hb dL_level_1 rfl hl (by decide) rfl (fun ls hl => ?_)
  refine lv_iload_n hx hb dL_level_2 rfl (lv_at hl 2 rfl) ?_
  refine lv_istore_n (lv' := [(3, .int x1), (2, .int (0 : Int32)), (0, .ref a_g), (1, .int x1)]) hx hb dL_level_3 rfl hl (by decide) rfl (fun ls hl => ?_)
  obtain ⟨y2_4, i_4, h⟩ := ob1_inv h
  have after_4 : ∀ (H : Heap) (locs : List Loc) (ls : Array Slot), va_P (dC, dI) vwCl [(a_g, .inl (cI, 38, .inl ga))] H → va_D (fun _ => True) [(a_g, .inl (cI, 38, .inl ga))] → va_S noA s.heap H locs → lv_has ls 4 [(2, .int y2_4)] → W p l e (headSpec wsL_level ({ frames := 0, cells := 0, slots := 0, locals := 0 } : Room)).room s m ([.ref a_g, .int x1] : List Value).toArray below meth c H locs 0 0 (MQ below (kQ (some (.int r)) True (fun _ => True) noA) ([.ref a_g, .int x1] : List Value).toArray s 0 0 noA) (F0 m 23 ls []) := by
    intro H locs ls hP hD hS hl
    refine lv_iload_n hx hb dL_level_23 rfl (lv_at hl 0 rfl) ?_
    obtain rfl := Option.some.inj h
    exact W.iret hx hb hr (fun t ht _ => kQ.mk ht trivial trivial (hS.F ht)) hS.2.2 dL_level_24
  have lp_4 : ∀ (n : Nat) (x2_4 : Int32) (x3_4 : Int32), it (u2 (L_L_level_4 ga)) n (x2_4, x3_4) = some y2_4 → ∀ (H : Heap) (locs : List Loc) (ls : Array Slot), va_P (dC, dI) vwCl [(a_g, .inl (cI, 38, .inl ga))] H → va_D (fun _ => True) [(a_g, .inl (cI, 38, .inl ga))] → va_S noA s.heap H locs → lv_has ls 4 [(0, .ref a_g), (2, .int x2_4), (3, .int x3_4)] → W p l e (headSpec wsL_level ({ frames := 0, cells := 0, slots := 0, locals := 0 } : Room)).room s m ([.ref a_g, .int x1] : List Value).toArray below meth c H locs 0 0 (MQ below (kQ (some (.int r)) True (fun _ => True) noA) ([.ref a_g, .int x1] : List Value).toArray s 0 0 noA) (F0 m 4 ls []) := by
    intro n
    induction n with
    | zero => intro x2_4 x3_4 h1 H locs ls hP hD hS hl; exact (it_0 h1).elim
    | succ n ih_4 =>
      intro x2_4 x3_4 h1 H locs ls hP hD hS hl
      obtain ⟨t_4, h1, k1⟩ := it2_inv h1
      unfold L_L_level_4 at h1
      refine lv_iload_n hx hb dL_level_4 rfl (lv_at hl 2 rfl) ?_
      refine lv_bipush (v := 6) hx hb dL_level_5 (by decide) ?_
      refine lv_icmp_ge (tgt := 23) hx hb dL_level_7 (by decide) (fun c_7 => ?_) (fun c_7 => ?_)
      · have h1 := hp_pos c_7 h1
        cases h1
        obtain rfl := pj1 k1
        exact after_4 _ _ _ hP hD hS (lv_sub hl [1] rfl)
      · have h1 := hp_neg c_7 h1
        refine lv_iinc (v := (x2_4 + (1 : Int32))) (lv' := [(2, .int (x2_4 + (1 : Int32))), (0, .ref a_g), (3, .int x3_4)]) hx hb dL_level_10 hl (k := 1) rfl rfl (by decide) rfl (fun ls hl => ?_)
        refine lv_aload_n hx hb dL_level_13 rfl (lv_at hl 1 rfl) ?_
        refine lv_bipush (v := 8) hx hb dL_level_14 (by decide) ?_
        refine lv_iload_n hx hb dL_level_16 rfl (lv_at hl 2 rfl) ?_
        refine lv_iadd hx hb dL_level_17 ?_
        have g_18 := hg_no h1
        have h1 := hg_yes h1
        refine va_iald (D := (dC, dI)) hx hb hK hP 0 0 rfl rfl g_18 dL_level_18 ?_
        refine lv_istore_n (lv' := [(3, .int (ga ((8 : Int32) + x3_4).toNatClampNeg)), (2, .int (x2_4 + (1 : Int32))), (0, .ref a_g)]) hx hb dL_level_19 rfl hl (by decide) rfl (fun ls hl => ?_)
        refine lv_goto (tgt := 4) hx hb dL_level_20 (by decide) ?_
        cases h1
        exact ih_4 _ _ k1 _ _ _ hP hD hS (lv_sub hl [2, 1, 0] rfl)
  exact lp_4 FUEL _ _ i_4 _ _ _ hP hD hS (lv_sub hl [2, 1, 0] rfl)
theorem khd_L_lock : yL_lock.cls = RL ∧ yL_lock.cls ≠ "java/lang/invoke/MethodHandle" ∧ yL_lock.cls ≠ "java/lang/invoke/VarHandle" ∧ (parseMethodDescriptor yL_lock.desc).map (fun d => d.parameters.length) = some 2 := by decide +kernel
set_option maxHeartbeats 8000000 in
set_option maxRecDepth 100000 in
theorem c_L_lock (l : Launch) (dC : Nat → ClassId) (dI : Nat → Nat → Nat) (cI cS : ClassId) (a_g : Nat) {ga : Nat → Int32} {x1 : Int32} {r : Int32} (h : f_L_lock ga x1 = some r) : Mk l yL_lock wsL_lock ({ frames := 1, cells := 0, slots := 0, locals := 23 } : Room) (dC, dI) cI cS [(a_g, .inl (cI, 38, .inl ga))] [.ref a_g, .int x1] (some (.int r)) True (fun _ => True) noA := by
  refine Met.ofW (cc := cL_lock) (maxL := 3) (ret := (some .int)) (by decide) rfl ?_
  intro p e s m args below meth c s₁ B hml hv
  obtain ⟨rfl, hP, hK, hN, hD⟩ := hv
  have hx := B.exec
  have hb := B.bytes
  have hr := B.returns
  have hts := atoms_spec (ws := wsL_lock) B.pre
  have hown : s.vm.findClass RL = some m.cls := findClass_of_methodNamed B.named
  have hlocks := B.notSynchronized
  have hS : va_S noA s.heap s.heap [] := va_S.rf
  have hP : va_P (dC, dI) vwCl [(a_g, .inl (cI, 38, .inl ga))] s.heap := hP
  have hD : va_D (fun _ => True) [(a_g, .inl (cI, 38, .inl ga))] := hD
  have hl := lv_entry ([.ref a_g, .int x1]) (n := 3) (Nat.le_of_ble_eq_true rfl)
  rw [lg_entry_eq]
  generalize (lg_sl ([.ref a_g, .int x1]) ++ List.replicate (3 - (lg_sl ([.ref a_g, .int x1])).length) Slot.unset).toArray = ls at hl ⊢
  have hl : lv_has ls 3 [(0, .ref a_g), (1, .int x1)] := hl
  unfold f_L_lock at h
  refine lv_aload_n hx hb dL_lock_0 rfl (lv_at hl 0 rfl) ?_
  refine lv_iload_n hx hb dL_lock_1 rfl (lv_at hl 1 rfl) ?_
  obtain ⟨r_2, e_2, h⟩ := ob1_inv h
  refine k_pSi (rest := []) ⟨hx, hb, hml, hown, hts⟩ (c_L_level l dC dI cI cS a_g e_2) (va_cwS 2 hts gL_lock_L_level rfl rfl rfl khd_L_level.2 ⟨(Nat.le_of_ble_eq_true rfl), (Nat.le_of_ble_eq_true rfl)⟩) hK hN hP hD hS [0] rfl rfl rfl hl.1 rfl (Nat.le_of_ble_eq_true rfl) dL_lock_2 ⟨(Nat.le_of_ble_eq_true rfl), (Nat.le_of_ble_eq_true rfl)⟩ (fun H locs hf_2 hP hS => ?_)
  have hP : va_P (dC, dI) vwCl [(a_g, .inl (cI, 38, .inl ga))] H := hP
  refine lv_istore_n (lv' := [(2, .int r_2), (0, .ref a_g), (1, .int x1)]) hx hb dL_lock_5 rfl hl (by decide) rfl (fun ls hl => ?_)
  refine lv_aload_n hx hb dL_lock_6 rfl (lv_at hl 1 rfl) ?_
  refine lv_iconst (v := 2) hx hb dL_lock_7 (by decide) ?_
  refine lv_iload_n hx hb dL_lock_8 rfl (lv_at hl 2 rfl) ?_
  refine lv_iadd hx hb dL_lock_9 ?_
  have g_10 := hg_no h
  have h := hg_yes h
  refine va_iald (D := (dC, dI)) hx hb hK hP 0 0 rfl rfl g_10 dL_lock_10 ?_
  refine lv_iconst (v := 2) hx hb dL_lock_11 (by decide) ?_
  obtain ⟨v2_19, i_19, h⟩ := ob1_inv h
  have after_19 : ∀ (H : Heap) (locs : List Loc) (ls : Array Slot), va_P (dC, dI) vwCl [(a_g, .inl (cI, 38, .inl ga))] H → va_D (fun _ => True) [(a_g, .inl (cI, 38, .inl ga))] → va_S noA s.heap H locs → lv_has ls 3 [(0, .ref a_g), (1, .int x1), (2, .int v2_19)] → W p l e (headSpec wsL_lock ({ frames := 1, cells := 0, slots := 0, locals := 23 } : Room)).room s m ([.ref a_g, .int x1] : List Value).toArray below meth c H locs 0 0 (MQ below (kQ (some (.int r)) True (fun _ => True) noA) ([.ref a_g, .int x1] : List Value).toArray s 0 0 noA) (F0 m 19 ls []) := by
    intro H locs ls hP hD hS hl
    refine lv_aload_n hx hb dL_lock_19 rfl (lv_at hl 0 rfl) ?_
    refine lv_iconst (v := 2) hx hb dL_lock_20 (by decide) ?_
    refine lv_iload_n hx hb dL_lock_21 rfl (lv_at hl 1 rfl) ?_
    refine lv_iadd hx hb dL_lock_22 ?_
    have g_23 := hg_no h
    have h := hg_yes h
    refine va_iald (D := (dC, dI)) hx hb hK hP 0 0 rfl rfl g_23 dL_lock_23 ?_
    refine lv_iconst (v := 1) hx hb dL_lock_24 (by decide) ?_
    refine lv_icmp_ne (tgt := 34) hx hb dL_lock_25 (by decide) (fun c_25 => ?_) (fun c_25 => ?_)
    · have h := hp_neg c_25 h
      refine lv_iload_n hx hb dL_lock_34 rfl (lv_at hl 2 rfl) ?_
      obtain rfl := Option.some.inj h
      exact W.iret hx hb hr (fun t ht _ => kQ.mk ht trivial trivial (hS.F ht)) hS.2.2 dL_lock_35
    · have h := hp_pos c_25 h
      refine lv_iload_n hx hb dL_lock_28 rfl (lv_at hl 2 rfl) ?_
      refine lv_iconst (v := 1) hx hb dL_lock_29 (by decide) ?_
      refine lv_iadd hx hb dL_lock_30 ?_
      refine lv_goto (tgt := 35) hx hb dL_lock_31 (by decide) ?_
      obtain rfl := Option.some.inj h
      exact W.iret hx hb hr (fun t ht _ => kQ.mk ht trivial trivial (hS.F ht)) hS.2.2 dL_lock_35
  have h1 := i_19
  refine lv_icmp_ne (tgt := 19) hx hb dL_lock_12 (by decide) (fun c_12 => ?_) (fun c_12 => ?_)
  · have h1 := hp_neg c_12 h1
    obtain rfl := Option.some.inj h1
    exact after_19 _ _ _ hP hD hS (lv_sub hl [1, 2, 0] rfl)
  · have h1 := hp_pos c_12 h1
    refine lv_iload_n hx hb dL_lock_15 rfl (lv_at hl 0 rfl) ?_
    refine lv_iload_n hx hb dL_lock_16 rfl (lv_at hl 0 rfl) ?_
    refine lv_iadd hx hb dL_lock_17 ?_
    refine lv_istore_n (lv' := [(2, .int (r_2 + r_2)), (0, .ref a_g), (1, .int x1)]) hx hb dL_lock_18 rfl hl (by decide) rfl (fun ls hl => ?_)
    obtain rfl := Option.some.inj h1
    exact after_19 _ _ _ hP hD hS (lv_sub hl [1, 2, 0] rfl)
theorem khd_L_under : yL_under.cls = RL ∧ yL_under.cls ≠ "java/lang/invoke/MethodHandle" ∧ yL_under.cls ≠ "java/lang/invoke/VarHandle" ∧ (parseMethodDescriptor yL_under.desc).map (fun d => d.parameters.length) = some 3 := by decide +kernel
set_option maxHeartbeats 8000000 in
set_option maxRecDepth 100000 in
theorem c_L_under (l : Launch) (dC : Nat → ClassId) (dI : Nat → Nat → Nat) (cI cS : ClassId) (a_g : Nat) {ga : Nat → Int32} {x1 : Int32} {x2 : Int32} {r : Int32} (h : f_L_under ga x1 x2 = some r) : Mk l yL_under wsL_under ({ frames := 0, cells := 0, slots := 0, locals := 0 } : Room) (dC, dI) cI cS [(a_g, .inl (cI, 38, .inl ga))] [.ref a_g, .int x1, .int x2] (some (.int r)) (r = 0 ∨ r = 1) (fun _ => True) noA := by
  refine Met.ofW (cc := cL_under) (maxL := 4) (ret := (some .boolean)) (by decide) rfl ?_
  intro p e s m args below meth c s₁ B hml hv
  obtain ⟨rfl, hP, hK, hN, hD⟩ := hv
  have hx := B.exec
  have hb := B.bytes
  have hr := B.returns
  have hts := atoms_spec (ws := wsL_under) B.pre
  have hown : s.vm.findClass RL = some m.cls := findClass_of_methodNamed B.named
  have hlocks := B.notSynchronized
  have hS : va_S noA s.heap s.heap [] := va_S.rf
  have hP : va_P (dC, dI) vwCl [(a_g, .inl (cI, 38, .inl ga))] s.heap := hP
  have hD : va_D (fun _ => True) [(a_g, .inl (cI, 38, .inl ga))] := hD
  have hl := lv_entry ([.ref a_g, .int x1, .int x2]) (n := 4) (Nat.le_of_ble_eq_true rfl)
  rw [lg_entry_eq]
  generalize (lg_sl ([.ref a_g, .int x1, .int x2]) ++ List.replicate (4 - (lg_sl ([.ref a_g, .int x1, .int x2])).length) Slot.unset).toArray = ls at hl ⊢
  have hl : lv_has ls 4 [(0, .ref a_g), (1, .int x1), (2, .int x2)] := hl
  unfold f_L_under at h
  refine lv_iload_n hx hb dL_under_0 rfl (lv_at hl 1 rfl) ?_
  refine lv_istore_n (lv' := [(3, .int x1), (0, .ref a_g), (1, .int x1), (2, .int x2)]) hx hb dL_under_1 rfl hl (by decide) rfl (fun ls hl => ?_)
  obtain ⟨o_2, K_2, i_2, hk_2, h⟩ := os0_inv h
  have after_2 : ∀ (_ : K_2), ∀ (H : Heap) (locs : List Loc) (ls : Array Slot), va_P (dC, dI) vwCl [(a_g, .inl (cI, 38, .inl ga))] H → va_D (fun _ => True) [(a_g, .inl (cI, 38, .inl ga))] → va_S noA s.heap H locs → lv_has ls 4 [] → W p l e (headSpec wsL_under ({ frames := 0, cells := 0, slots := 0, locals := 0 } : Room)).room s m ([.ref a_g, .int x1, .int x2] : List Value).toArray below meth c H locs 0 0 (MQ below (kQ (some (.int r)) (r = 0 ∨ r = 1) (fun _ => True) noA) ([.ref a_g, .int x1, .int x2] : List Value).toArray s 0 0 noA) (F0 m 30 ls []) := by
    intro  ha H locs ls hP hD hS hl
    have h := hk_2  ha
    refine lv_iconst (v := 0) hx hb dL_under_30 (by decide) ?_
    obtain rfl := Option.some.inj h
    exact W.zret hx hb hr (nb01 (Or.inl rfl)) (fun t ht _ => kQ.mk ht trivial (Or.inl rfl) (hS.F ht)) hS.2.2 dL_under_31
  have lp_2 : ∀ (n : Nat) (x3_2 : Int32), it (u1 (L_L_under_2 ga x2)) n x3_2 = some o_2 → ∀ (H : Heap) (locs : List Loc) (ls : Array Slot), va_P (dC, dI) vwCl [(a_g, .inl (cI, 38, .inl ga))] H → va_D (fun _ => True) [(a_g, .inl (cI, 38, .inl ga))] → va_S noA s.heap H locs → lv_has ls 4 [(0, .ref a_g), (2, .int x2), (3, .int x3_2)] → W p l e (headSpec wsL_under ({ frames := 0, cells := 0, slots := 0, locals := 0 } : Room)).room s m ([.ref a_g, .int x1, .int x2] : List Value).toArray below meth c H locs 0 0 (MQ below (kQ (some (.int r)) (r = 0 ∨ r = 1) (fun _ => True) noA) ([.ref a_g, .int x1, .int x2] : List Value).toArray s 0 0 noA) (F0 m 2 ls []) := by
    intro n
    induction n with
    | zero => intro x3_2 h1 H locs ls hP hD hS hl; exact (it_0 h1).elim
    | succ n ih_2 =>
      intro x3_2 h1 H locs ls hP hD hS hl
      obtain ⟨t_2, h1, k1⟩ := it1_inv h1
      unfold L_L_under_2 at h1
      refine lv_iload_n hx hb dL_under_2 rfl (lv_at hl 2 rfl) ?_
      refine lv_bipush (v := 6) hx hb dL_under_3 (by decide) ?_
      refine lv_icmp_ge (tgt := 30) hx hb dL_under_5 (by decide) (fun c_5 => ?_) (fun c_5 => ?_)
      · have h1 := hp_pos c_5 h1
        cases h1
        obtain rfl := pj1 k1
        exact after_2  h _ _ _ hP hD hS (lv_sub hl [] rfl)
      · have h1 := hp_neg c_5 h1
        refine lv_aload_n hx hb dL_under_8 rfl (lv_at hl 0 rfl) ?_
        refine lv_bipush (v := 8) hx hb dL_under_9 (by decide) ?_
        refine lv_iload_n hx hb dL_under_11 rfl (lv_at hl 2 rfl) ?_
        refine lv_iadd hx hb dL_under_12 ?_
        have g_13 := hg_no h1
        have h1 := hg_yes h1
        refine va_iald (D := (dC, dI)) hx hb hK hP 0 0 rfl rfl g_13 dL_under_13 ?_
        refine lv_iload_n hx hb dL_under_14 rfl (lv_at hl 1 rfl) ?_
        refine lv_icmp_ne (tgt := 20) hx hb dL_under_15 (by decide) (fun c_15 => ?_) (fun c_15 => ?_)
        · have h1 := hp_neg c_15 h1
          refine lv_aload_n hx hb dL_under_20 rfl (lv_at hl 0 rfl) ?_
          refine lv_bipush (v := 8) hx hb dL_under_21 (by decide) ?_
          refine lv_iload_n hx hb dL_under_23 rfl (lv_at hl 2 rfl) ?_
          refine lv_iadd hx hb dL_under_24 ?_
          have g_25 := hg_no h1
          have h1 := hg_yes h1
          refine va_iald (D := (dC, dI)) hx hb hK hP 0 0 rfl rfl g_25 dL_under_25 ?_
          refine lv_istore_n (lv' := [(3, .int (ga ((8 : Int32) + x3_2).toNatClampNeg)), (0, .ref a_g), (2, .int x2)]) hx hb dL_under_26 rfl hl (by decide) rfl (fun ls hl => ?_)
          refine lv_goto (tgt := 2) hx hb dL_under_27 (by decide) ?_
          cases h1
          exact ih_2 _ k1 _ _ _ hP hD hS (lv_sub hl [1, 2, 0] rfl)
        · have h1 := hp_pos c_15 h1
          refine lv_iconst (v := 1) hx hb dL_under_18 (by decide) ?_
          cases h1
          obtain rfl := pj1 k1
          have h := congrArg some h
          obtain rfl := Option.some.inj h
          exact W.zret hx hb hr (nb01 (Or.inr rfl)) (fun t ht _ => kQ.mk ht trivial (Or.inr rfl) (hS.F ht)) hS.2.2 dL_under_19
  exact lp_2 FUEL _ i_2 _ _ _ hP hD hS (lv_sub hl [1, 3, 0] rfl)
theorem khd_L_come : yL_come.cls = RL ∧ yL_come.cls ≠ "java/lang/invoke/MethodHandle" ∧ yL_come.cls ≠ "java/lang/invoke/VarHandle" ∧ (parseMethodDescriptor yL_come.desc).map (fun d => d.parameters.length) = some 3 := by decide +kernel
set_option maxHeartbeats 8000000 in
set_option maxRecDepth 100000 in
theorem c_L_come (l : Launch) (dC : Nat → ClassId) (dI : Nat → Nat → Nat) (cI cS : ClassId) (a_g : Nat) {ga : Nat → Int32} {x1 : Int32} {x2 : Int32} {r : Int32} (h : f_L_come ga x1 x2 = some r) : Mk l yL_come wsL_come ({ frames := 0, cells := 0, slots := 0, locals := 0 } : Room) (dC, dI) cI cS [(a_g, .inl (cI, 38, .inl ga))] [.ref a_g, .int x1, .int x2] (some (.int r)) True (fun _ => True) noA := by
  refine Met.ofW (cc := cL_come) (maxL := 6) (ret := (some .int)) (by decide) rfl ?_
  intro p e s m args below meth c s₁ B hml hv
  obtain ⟨rfl, hP, hK, hN, hD⟩ := hv
  have hx := B.exec
  have hb := B.bytes
  have hr := B.returns
  have hts := atoms_spec (ws := wsL_come) B.pre
  have hown : s.vm.findClass RL = some m.cls := findClass_of_methodNamed B.named
  have hlocks := B.notSynchronized
  have hS : va_S noA s.heap s.heap [] := va_S.rf
  have hP : va_P (dC, dI) vwCl [(a_g, .inl (cI, 38, .inl ga))] s.heap := hP
  have hD : va_D (fun _ => True) [(a_g, .inl (cI, 38, .inl ga))] := hD
  have hl := lv_entry ([.ref a_g, .int x1, .int x2]) (n := 6) (Nat.le_of_ble_eq_true rfl)
  rw [lg_entry_eq]
  generalize (lg_sl ([.ref a_g, .int x1, .int x2]) ++ List.replicate (6 - (lg_sl ([.ref a_g, .int x1, .int x2])).length) Slot.unset).toArray = ls at hl ⊢
  have hl : lv_has ls 6 [(0, .ref a_g), (1, .int x1), (2, .int x2)] := hl
  unfold f_L_come at h
  refine lv_iconst (v := 1) hx hb dL_come_0 (by decide) ?_
  refine lv_iload_n hx hb dL_come_1 rfl (lv_at hl 1 rfl) ?_
  refine lv_ishl hx hb dL_come_2 ?_
  refine lv_istore_n (lv' := [(3, .int ((1 : Int32) <<< (x1 &&& 31))), (0, .ref a_g), (1, .int x1), (2, .int x2)]) hx hb dL_come_3 rfl hl (by decide) rfl (fun ls hl => ?_)
  refine lv_iconst (v := 0) hx hb dL_come_4 (by decide) ?_
  refine lv_istore (lv' := [(4, .int (0 : Int32)), (3, .int ((1 : Int32) <<< (x1 &&& 31))), (0, .ref a_g), (1, .int x1), (2, .int x2)]) hx hb dL_come_5 hl (by decide) rfl (fun ls hl => ?_)
  obtain ⟨y3_7, i_7, h⟩ := ob1_inv h
  have after_7 : ∀ (H : Heap) (locs : List Loc) (ls : Array Slot), va_P (dC, dI) vwCl [(a_g, .inl (cI, 38, .inl ga))] H → va_D (fun _ => True) [(a_g, .inl (cI, 38, .inl ga))] → va_S noA s.heap H locs → lv_has ls 6 [(3, .int y3_7)] → W p l e (headSpec wsL_come ({ frames := 0, cells := 0, slots := 0, locals := 0 } : Room)).room s m ([.ref a_g, .int x1, .int x2] : List Value).toArray below meth c H locs 0 0 (MQ below (kQ (some (.int r)) True (fun _ => True) noA) ([.ref a_g, .int x1, .int x2] : List Value).toArray s 0 0 noA) (F0 m 75 ls []) := by
    intro H locs ls hP hD hS hl
    refine lv_iload_n hx hb dL_come_75 rfl (lv_at hl 0 rfl) ?_
    obtain rfl := Option.some.inj h
    exact W.iret hx hb hr (fun t ht _ => kQ.mk ht trivial trivial (hS.F ht)) hS.2.2 dL_come_76
  have lp_7 : ∀ (n : Nat) (x3_7 : Int32) (x4_7 : Int32), it (u2 (L_L_come_7 ga x2)) n (x3_7, x4_7) = some y3_7 → ∀ (H : Heap) (locs : List Loc) (ls : Array Slot), va_P (dC, dI) vwCl [(a_g, .inl (cI, 38, .inl ga))] H → va_D (fun _ => True) [(a_g, .inl (cI, 38, .inl ga))] → va_S noA s.heap H locs → lv_has ls 6 [(0, .ref a_g), (2, .int x2), (3, .int x3_7), (4, .int x4_7)] → W p l e (headSpec wsL_come ({ frames := 0, cells := 0, slots := 0, locals := 0 } : Room)).room s m ([.ref a_g, .int x1, .int x2] : List Value).toArray below meth c H locs 0 0 (MQ below (kQ (some (.int r)) True (fun _ => True) noA) ([.ref a_g, .int x1, .int x2] : List Value).toArray s 0 0 noA) (F0 m 7 ls []) := by
    intro n
    induction n with
    | zero => intro x3_7 x4_7 h1 H locs ls hP hD hS hl; exact (it_0 h1).elim
    | succ n ih_7 =>
      intro x3_7 x4_7 h1 H locs ls hP hD hS hl
      obtain ⟨t_7, h1, k1⟩ := it2_inv h1
      unfold L_L_come_7 at h1
      refine lv_iload hx hb dL_come_7 (lv_at hl 3 rfl) ?_
      refine lv_bipush (v := 7) hx hb dL_come_9 (by decide) ?_
      refine lv_icmp_ge (tgt := 75) hx hb dL_come_11 (by decide) (fun c_11 => ?_) (fun c_11 => ?_)
      · have h1 := hp_pos c_11 h1
        cases h1
        obtain rfl := pj1 k1
        exact after_7 _ _ _ hP hD hS (lv_sub hl [2] rfl)
      · have h1 := hp_neg c_11 h1
        refine lv_iconst (v := 0) hx hb dL_come_14 (by decide) ?_
        refine lv_istore (lv' := [(5, .int (0 : Int32)), (0, .ref a_g), (2, .int x2), (3, .int x3_7), (4, .int x4_7)]) hx hb dL_come_15 hl (by decide) rfl (fun ls hl => ?_)
        obtain ⟨y3_17, i_17, h1⟩ := ob1_inv h1
        have after_17 : ∀ (H : Heap) (locs : List Loc) (ls : Array Slot), va_P (dC, dI) vwCl [(a_g, .inl (cI, 38, .inl ga))] H → va_D (fun _ => True) [(a_g, .inl (cI, 38, .inl ga))] → va_S noA s.heap H locs → lv_has ls 6 [(0, .ref a_g), (2, .int x2), (3, .int y3_17), (4, .int x4_7)] → W p l e (headSpec wsL_come ({ frames := 0, cells := 0, slots := 0, locals := 0 } : Room)).room s m ([.ref a_g, .int x1, .int x2] : List Value).toArray below meth c H locs 0 0 (MQ below (kQ (some (.int r)) True (fun _ => True) noA) ([.ref a_g, .int x1, .int x2] : List Value).toArray s 0 0 noA) (F0 m 69 ls []) := by
          intro H locs ls hP hD hS hl
          refine lv_iinc (v := (x4_7 + (1 : Int32))) (lv' := [(4, .int (x4_7 + (1 : Int32))), (0, .ref a_g), (2, .int x2), (3, .int y3_17)]) hx hb dL_come_69 hl (k := 3) rfl rfl (by decide) rfl (fun ls hl => ?_)
          refine lv_goto (tgt := 7) hx hb dL_come_72 (by decide) ?_
          cases h1
          exact ih_7 _ _ k1 _ _ _ hP hD hS (lv_sub hl [1, 2, 3, 0] rfl)
        have lp_17 : ∀ (n : Nat) (x3_17 : Int32) (x5_17 : Int32), it (u2 (L_L_come_17 ga x2)) n (x3_17, x5_17) = some y3_17 → ∀ (H : Heap) (locs : List Loc) (ls : Array Slot), va_P (dC, dI) vwCl [(a_g, .inl (cI, 38, .inl ga))] H → va_D (fun _ => True) [(a_g, .inl (cI, 38, .inl ga))] → va_S noA s.heap H locs → lv_has ls 6 [(0, .ref a_g), (2, .int x2), (3, .int x3_17), (4, .int x4_7), (5, .int x5_17)] → W p l e (headSpec wsL_come ({ frames := 0, cells := 0, slots := 0, locals := 0 } : Room)).room s m ([.ref a_g, .int x1, .int x2] : List Value).toArray below meth c H locs 0 0 (MQ below (kQ (some (.int r)) True (fun _ => True) noA) ([.ref a_g, .int x1, .int x2] : List Value).toArray s 0 0 noA) (F0 m 17 ls []) := by
          intro n
          induction n with
          | zero => intro x3_17 x5_17 h2 H locs ls hP hD hS hl; exact (it_0 h2).elim
          | succ n ih_17 =>
            intro x3_17 x5_17 h2 H locs ls hP hD hS hl
            obtain ⟨t_17, h2, k2⟩ := it2_inv h2
            unfold L_L_come_17 at h2
            refine lv_iload hx hb dL_come_17 (lv_at hl 4 rfl) ?_
            refine lv_aload_n hx hb dL_come_19 rfl (lv_at hl 0 rfl) ?_
            refine lv_iconst (v := 1) hx hb dL_come_20 (by decide) ?_
            refine va_iald (D := (dC, dI)) hx hb hK hP 0 0 rfl rfl (by unfold vp_in; decide) dL_come_21 ?_
            refine lv_icmp_ge (tgt := 69) hx hb dL_come_22 (by decide) (fun c_22 => ?_) (fun c_22 => ?_)
            · have h2 := hp_pos c_22 h2
              cases h2
              obtain rfl := pj1 k2
              exact after_17 _ _ _ hP hD hS (lv_sub hl [0, 1, 2, 3] rfl)
            · have h2 := hp_neg c_22 h2
              refine lv_iload_n hx hb dL_come_25 rfl (lv_at hl 2 rfl) ?_
              refine lv_aload_n hx hb dL_come_26 rfl (lv_at hl 0 rfl) ?_
              refine lv_bipush (v := 14) hx hb dL_come_27 (by decide) ?_
              refine lv_iload hx hb dL_come_29 (lv_at hl 4 rfl) ?_
              refine lv_iadd hx hb dL_come_31 ?_
              have g_32 := hg_no h2
              have h2 := hg_yes h2
              refine va_iald (D := (dC, dI)) hx hb hK hP 0 0 rfl rfl g_32 dL_come_32 ?_
              refine lv_ishr hx hb dL_come_33 ?_
              refine lv_iconst (v := 1) hx hb dL_come_34 (by decide) ?_
              refine lv_iand hx hb dL_come_35 ?_
              refine lv_iconst (v := 1) hx hb dL_come_36 (by decide) ?_
              refine lv_icmp_ne (tgt := 63) hx hb dL_come_37 (by decide) (fun c_37 => ?_) (fun c_37 => ?_)
              · have h2 := hp_neg c_37 h2
                refine lv_iinc (v := (x5_17 + (1 : Int32))) (lv' := [(5, .int (x5_17 + (1 : Int32))), (0, .ref a_g), (2, .int x2), (3, .int x3_17), (4, .int x4_7)]) hx hb dL_come_63 hl (k := 4) rfl rfl (by decide) rfl (fun ls hl => ?_)
                refine lv_goto (tgt := 17) hx hb dL_come_66 (by decide) ?_
                cases h2
                exact ih_17 _ _ k2 _ _ _ hP hD hS (lv_sub hl [1, 2, 3, 4, 0] rfl)
              · have h2 := hp_pos c_37 h2
                refine lv_aload_n hx hb dL_come_40 rfl (lv_at hl 0 rfl) ?_
                refine lv_bipush (v := 26) hx hb dL_come_41 (by decide) ?_
                refine lv_iload hx hb dL_come_43 (lv_at hl 4 rfl) ?_
                refine lv_iadd hx hb dL_come_45 ?_
                have g_46 := hg_no h2
                have h2 := hg_yes h2
                refine va_iald (D := (dC, dI)) hx hb hK hP 0 0 rfl rfl g_46 dL_come_46 ?_
                refine lv_iload_n hx hb dL_come_47 rfl (lv_at hl 1 rfl) ?_
                refine lv_icmp_eq (tgt := 63) hx hb dL_come_48 (by decide) (fun c_48 => ?_) (fun c_48 => ?_)
                · have h2 := hp_pos c_48 h2
                  refine lv_iinc (v := (x5_17 + (1 : Int32))) (lv' := [(5, .int (x5_17 + (1 : Int32))), (0, .ref a_g), (2, .int x2), (3, .int x3_17), (4, .int x4_7)]) hx hb dL_come_63 hl (k := 4) rfl rfl (by decide) rfl (fun ls hl => ?_)
                  refine lv_goto (tgt := 17) hx hb dL_come_66 (by decide) ?_
                  cases h2
                  exact ih_17 _ _ k2 _ _ _ hP hD hS (lv_sub hl [1, 2, 3, 4, 0] rfl)
                · have h2 := hp_neg c_48 h2
                  refine lv_iload_n hx hb dL_come_51 rfl (lv_at hl 2 rfl) ?_
                  refine lv_iconst (v := 1) hx hb dL_come_52 (by decide) ?_
                  refine lv_aload_n hx hb dL_come_53 rfl (lv_at hl 0 rfl) ?_
                  refine lv_bipush (v := 26) hx hb dL_come_54 (by decide) ?_
                  refine lv_iload hx hb dL_come_56 (lv_at hl 4 rfl) ?_
                  refine lv_iadd hx hb dL_come_58 ?_
                  have g_59 := hg_no h2
                  have h2 := hg_yes h2
                  refine va_iald (D := (dC, dI)) hx hb hK hP 0 0 rfl rfl g_59 dL_come_59 ?_
                  refine lv_ishl hx hb dL_come_60 ?_
                  refine lv_ior hx hb dL_come_61 ?_
                  refine lv_istore_n (lv' := [(3, .int (x3_17 ||| ((1 : Int32) <<< ((ga ((26 : Int32) + x5_17).toNatClampNeg) &&& 31)))), (0, .ref a_g), (2, .int x2), (4, .int x4_7), (5, .int x5_17)]) hx hb dL_come_62 rfl hl (by decide) rfl (fun ls hl => ?_)
                  refine lv_iinc (v := (x5_17 + (1 : Int32))) (lv' := [(5, .int (x5_17 + (1 : Int32))), (3, .int (x3_17 ||| ((1 : Int32) <<< ((ga ((26 : Int32) + x5_17).toNatClampNeg) &&& 31)))), (0, .ref a_g), (2, .int x2), (4, .int x4_7)]) hx hb dL_come_63 hl (k := 4) rfl rfl (by decide) rfl (fun ls hl => ?_)
                  refine lv_goto (tgt := 17) hx hb dL_come_66 (by decide) ?_
                  cases h2
                  exact ih_17 _ _ k2 _ _ _ hP hD hS (lv_sub hl [2, 3, 1, 4, 0] rfl)
        exact lp_17 FUEL _ _ i_17 _ _ _ hP hD hS (lv_sub hl [1, 2, 3, 4, 0] rfl)
  exact lp_7 FUEL _ _ i_7 _ _ _ hP hD hS (lv_sub hl [2, 4, 1, 0] rfl)
theorem khd_L_before : yL_before.cls = RL ∧ yL_before.cls ≠ "java/lang/invoke/MethodHandle" ∧ yL_before.cls ≠ "java/lang/invoke/VarHandle" ∧ (parseMethodDescriptor yL_before.desc).map (fun d => d.parameters.length) = some 2 := by decide +kernel
set_option maxHeartbeats 8000000 in
set_option maxRecDepth 100000 in
theorem c_L_before (l : Launch) (dC : Nat → ClassId) (dI : Nat → Nat → Nat) (cI cS : ClassId) (a_g : Nat) {ga : Nat → Int32} {x1 : Int32} {r : Int32} (h : f_L_before ga x1 = some r) : Mk l yL_before wsL_before ({ frames := 1, cells := 0, slots := 0, locals := 25 } : Room) (dC, dI) cI cS [(a_g, .inl (cI, 38, .inl ga))] [.ref a_g, .int x1] (some (.int r)) True (fun _ => True) noA := by
  refine Met.ofW (cc := cL_before) (maxL := 4) (ret := (some .int)) (by decide) rfl ?_
  intro p e s m args below meth c s₁ B hml hv
  obtain ⟨rfl, hP, hK, hN, hD⟩ := hv
  have hx := B.exec
  have hb := B.bytes
  have hr := B.returns
  have hts := atoms_spec (ws := wsL_before) B.pre
  have hown : s.vm.findClass RL = some m.cls := findClass_of_methodNamed B.named
  have hlocks := B.notSynchronized
  have hS : va_S noA s.heap s.heap [] := va_S.rf
  have hP : va_P (dC, dI) vwCl [(a_g, .inl (cI, 38, .inl ga))] s.heap := hP
  have hD : va_D (fun _ => True) [(a_g, .inl (cI, 38, .inl ga))] := hD
  have hl := lv_entry ([.ref a_g, .int x1]) (n := 4) (Nat.le_of_ble_eq_true rfl)
  rw [lg_entry_eq]
  generalize (lg_sl ([.ref a_g, .int x1]) ++ List.replicate (4 - (lg_sl ([.ref a_g, .int x1])).length) Slot.unset).toArray = ls at hl ⊢
  have hl : lv_has ls 4 [(0, .ref a_g), (1, .int x1)] := hl
  unfold f_L_before at h
  refine lv_aload_n hx hb dL_before_0 rfl (lv_at hl 0 rfl) ?_
  refine lv_bipush (v := 6) hx hb dL_before_1 (by decide) ?_
  refine lv_iconst (v := -1) hx hb dL_before_3 (by decide) ?_
  obtain ⟨r_4, e_4, h⟩ := ob1_inv h
  refine k_pSi (rest := []) ⟨hx, hb, hml, hown, hts⟩ (c_L_come l dC dI cI cS a_g e_4) (va_cwS 3 hts gL_before_L_come rfl rfl rfl khd_L_come.2 ⟨(Nat.le_of_ble_eq_true rfl), (Nat.le_of_ble_eq_true rfl)⟩) hK hN hP hD hS [0] rfl rfl rfl hl.1 rfl (Nat.le_of_ble_eq_true rfl) dL_before_4 ⟨(Nat.le_of_ble_eq_true rfl), (Nat.le_of_ble_eq_true rfl)⟩ (fun H locs hf_4 hP hS => ?_)
  have hP : va_P (dC, dI) vwCl [(a_g, .inl (cI, 38, .inl ga))] H := hP
  refine lv_iload_n hx hb dL_before_7 rfl (lv_at hl 1 rfl) ?_
  refine lv_ishr hx hb dL_before_8 ?_
  refine lv_iconst (v := 1) hx hb dL_before_9 (by decide) ?_
  refine lv_iand hx hb dL_before_10 ?_
  refine lv_if_ne (tgt := 16) hx hb dL_before_11 (by decide) (fun c_11 => ?_) (fun c_11 => ?_)
  · have h := hp_neg c_11 h
    refine lv_bipush (v := 64) hx hb dL_before_16 (by decide) ?_
    refine lv_istore_n (lv' := [(2, .int (64 : Int32)), (0, .ref a_g), (1, .int x1)]) hx hb dL_before_18 rfl hl (by decide) rfl (fun ls hl => ?_)
    refine lv_iconst (v := 0) hx hb dL_before_19 (by decide) ?_
    refine lv_istore_n (lv' := [(3, .int (0 : Int32)), (2, .int (64 : Int32)), (0, .ref a_g), (1, .int x1)]) hx hb dL_before_20 rfl hl (by decide) rfl (fun ls hl => ?_)
    obtain ⟨y2_21, i_21, h⟩ := ob1_inv h
    have after_21 : ∀ (H : Heap) (locs : List Loc) (ls : Array Slot), va_P (dC, dI) vwCl [(a_g, .inl (cI, 38, .inl ga))] H → va_D (fun _ => True) [(a_g, .inl (cI, 38, .inl ga))] → va_S noA s.heap H locs → lv_has ls 4 [(2, .int y2_21)] → W p l e (headSpec wsL_before ({ frames := 1, cells := 0, slots := 0, locals := 25 } : Room)).room s m ([.ref a_g, .int x1] : List Value).toArray below meth c H locs 0 0 (MQ below (kQ (some (.int r)) True (fun _ => True) noA) ([.ref a_g, .int x1] : List Value).toArray s 0 0 noA) (F0 m 54 ls []) := by
      intro H locs ls hP hD hS hl
      refine lv_iload_n hx hb dL_before_54 rfl (lv_at hl 0 rfl) ?_
      obtain rfl := Option.some.inj h
      exact W.iret hx hb hr (fun t ht _ => kQ.mk ht trivial trivial (hS.F ht)) hS.2.2 dL_before_55
    have lp_21 : ∀ (n : Nat) (x2_21 : Int32) (x3_21 : Int32), it (u2 (L_L_before_21 ga x1)) n (x2_21, x3_21) = some y2_21 → ∀ (H : Heap) (locs : List Loc) (ls : Array Slot), va_P (dC, dI) vwCl [(a_g, .inl (cI, 38, .inl ga))] H → va_D (fun _ => True) [(a_g, .inl (cI, 38, .inl ga))] → va_S noA s.heap H locs → lv_has ls 4 [(0, .ref a_g), (1, .int x1), (2, .int x2_21), (3, .int x3_21)] → W p l e (headSpec wsL_before ({ frames := 1, cells := 0, slots := 0, locals := 25 } : Room)).room s m ([.ref a_g, .int x1] : List Value).toArray below meth c H locs 0 0 (MQ below (kQ (some (.int r)) True (fun _ => True) noA) ([.ref a_g, .int x1] : List Value).toArray s 0 0 noA) (F0 m 21 ls []) := by
      intro n
      induction n with
      | zero => intro x2_21 x3_21 h1 H locs ls hP hD hS hl; exact (it_0 h1).elim
      | succ n ih_21 =>
        intro x2_21 x3_21 h1 H locs ls hP hD hS hl
        obtain ⟨t_21, h1, k1⟩ := it2_inv h1
        unfold L_L_before_21 at h1
        refine lv_iload_n hx hb dL_before_21 rfl (lv_at hl 3 rfl) ?_
        refine lv_aload_n hx hb dL_before_22 rfl (lv_at hl 0 rfl) ?_
        refine lv_iconst (v := 0) hx hb dL_before_23 (by decide) ?_
        refine va_iald (D := (dC, dI)) hx hb hK hP 0 0 rfl rfl (by unfold vp_in; decide) dL_before_24 ?_
        refine lv_icmp_ge (tgt := 54) hx hb dL_before_25 (by decide) (fun c_25 => ?_) (fun c_25 => ?_)
        · have h1 := hp_pos c_25 h1
          cases h1
          obtain rfl := pj1 k1
          exact after_21 _ _ _ hP hD hS (lv_sub hl [2] rfl)
        · have h1 := hp_neg c_25 h1
          refine lv_aload_n hx hb dL_before_28 rfl (lv_at hl 0 rfl) ?_
          refine lv_bipush (v := 6) hx hb dL_before_29 (by decide) ?_
          refine lv_iload_n hx hb dL_before_31 rfl (lv_at hl 3 rfl) ?_
          obtain ⟨r_32, e_32, h1⟩ := ob1_inv h1
          refine k_pSi (rest := []) ⟨hx, hb, hml, hown, hts⟩ (c_L_come l dC dI cI cS a_g e_32) (va_cwS 3 hts gL_before_L_come rfl rfl rfl khd_L_come.2 ⟨(Nat.le_of_ble_eq_true rfl), (Nat.le_of_ble_eq_true rfl)⟩) hK hN hP hD hS [0] rfl rfl rfl hl.1 rfl (Nat.le_of_ble_eq_true rfl) dL_before_32 ⟨(Nat.le_of_ble_eq_true rfl), (Nat.le_of_ble_eq_true rfl)⟩ (fun H locs hf_32 hP hS => ?_)
          have hP : va_P (dC, dI) vwCl [(a_g, .inl (cI, 38, .inl ga))] H := hP
          refine lv_iload_n hx hb dL_before_35 rfl (lv_at hl 1 rfl) ?_
          refine lv_ishr hx hb dL_before_36 ?_
          refine lv_iconst (v := 1) hx hb dL_before_37 (by decide) ?_
          refine lv_iand hx hb dL_before_38 ?_
          refine lv_if_ne (tgt := 48) hx hb dL_before_39 (by decide) (fun c_39 => ?_) (fun c_39 => ?_)
          · have h1 := hp_neg c_39 h1
            refine lv_iinc (v := (x3_21 + (1 : Int32))) (lv' := [(3, .int (x3_21 + (1 : Int32))), (0, .ref a_g), (1, .int x1), (2, .int x2_21)]) hx hb dL_before_48 hl (k := 3) rfl rfl (by decide) rfl (fun ls hl => ?_)
            refine lv_goto (tgt := 21) hx hb dL_before_51 (by decide) ?_
            cases h1
            exact ih_21 _ _ k1 _ _ _ hP hD hS (lv_sub hl [1, 2, 3, 0] rfl)
          · have h1 := hp_pos c_39 h1
            refine lv_iload_n hx hb dL_before_42 rfl (lv_at hl 2 rfl) ?_
            refine lv_iconst (v := 1) hx hb dL_before_43 (by decide) ?_
            refine lv_iload_n hx hb dL_before_44 rfl (lv_at hl 3 rfl) ?_
            refine lv_ishl hx hb dL_before_45 ?_
            refine lv_ior hx hb dL_before_46 ?_
            refine lv_istore_n (lv' := [(2, .int (x2_21 ||| ((1 : Int32) <<< (x3_21 &&& 31)))), (0, .ref a_g), (1, .int x1), (3, .int x3_21)]) hx hb dL_before_47 rfl hl (by decide) rfl (fun ls hl => ?_)
            refine lv_iinc (v := (x3_21 + (1 : Int32))) (lv' := [(3, .int (x3_21 + (1 : Int32))), (2, .int (x2_21 ||| ((1 : Int32) <<< (x3_21 &&& 31)))), (0, .ref a_g), (1, .int x1)]) hx hb dL_before_48 hl (k := 3) rfl rfl (by decide) rfl (fun ls hl => ?_)
            refine lv_goto (tgt := 21) hx hb dL_before_51 (by decide) ?_
            cases h1
            exact ih_21 _ _ k1 _ _ _ hP hD hS (lv_sub hl [2, 3, 1, 0] rfl)
    exact lp_21 FUEL _ _ i_21 _ _ _ hP hD hS (lv_sub hl [2, 3, 1, 0] rfl)
  · have h := hp_pos c_11 h
    refine lv_iconst (v := 0) hx hb dL_before_14 (by decide) ?_
    obtain rfl := Option.some.inj h
    exact W.iret hx hb hr (fun t ht _ => kQ.mk ht trivial trivial (hS.F ht)) hS.2.2 dL_before_15
theorem khd_L_lawful : yL_lawful.cls = RL ∧ yL_lawful.cls ≠ "java/lang/invoke/MethodHandle" ∧ yL_lawful.cls ≠ "java/lang/invoke/VarHandle" ∧ (parseMethodDescriptor yL_lawful.desc).map (fun d => d.parameters.length) = some 2 := by decide +kernel
set_option maxHeartbeats 8000000 in
set_option maxRecDepth 100000 in
theorem c_L_lawful (l : Launch) (dC : Nat → ClassId) (dI : Nat → Nat → Nat) (cI cS : ClassId) (a_g : Nat) {ga : Nat → Int32} {x1 : Int32} {r : Int32} (h : f_L_lawful ga x1 = some r) : Mk l yL_lawful wsL_lawful ({ frames := 2, cells := 0, slots := 0, locals := 48 } : Room) (dC, dI) cI cS [(a_g, .inl (cI, 38, .inl ga))] [.ref a_g, .int x1] (some (.int r)) (r = 0 ∨ r = 1) (fun _ => True) noA := by
  refine Met.ofW (cc := cL_lawful) (maxL := 3) (ret := (some .boolean)) (by decide) rfl ?_
  intro p e s m args below meth c s₁ B hml hv
  obtain ⟨rfl, hP, hK, hN, hD⟩ := hv
  have hx := B.exec
  have hb := B.bytes
  have hr := B.returns
  have hts := atoms_spec (ws := wsL_lawful) B.pre
  have hown : s.vm.findClass RL = some m.cls := findClass_of_methodNamed B.named
  have hlocks := B.notSynchronized
  have hS : va_S noA s.heap s.heap [] := va_S.rf
  have hP : va_P (dC, dI) vwCl [(a_g, .inl (cI, 38, .inl ga))] s.heap := hP
  have hD : va_D (fun _ => True) [(a_g, .inl (cI, 38, .inl ga))] := hD
  have hl := lv_entry ([.ref a_g, .int x1]) (n := 3) (Nat.le_of_ble_eq_true rfl)
  rw [lg_entry_eq]
  generalize (lg_sl ([.ref a_g, .int x1]) ++ List.replicate (3 - (lg_sl ([.ref a_g, .int x1])).length) Slot.unset).toArray = ls at hl ⊢
  have hl : lv_has ls 3 [(0, .ref a_g), (1, .int x1)] := hl
  unfold f_L_lawful at h
  refine lv_aload_n hx hb dL_lawful_0 rfl (lv_at hl 0 rfl) ?_
  refine lv_iload_n hx hb dL_lawful_1 rfl (lv_at hl 1 rfl) ?_
  obtain ⟨r_2, e_2, h⟩ := ob1_inv h
  refine k_pSi (rest := []) ⟨hx, hb, hml, hown, hts⟩ (c_L_before l dC dI cI cS a_g e_2) (va_cwS 2 hts gL_lawful_L_before rfl rfl rfl khd_L_before.2 ⟨(Nat.le_of_ble_eq_true rfl), (Nat.le_of_ble_eq_true rfl)⟩) hK hN hP hD hS [0] rfl rfl rfl hl.1 rfl (Nat.le_of_ble_eq_true rfl) dL_lawful_2 ⟨(Nat.le_of_ble_eq_true rfl), (Nat.le_of_ble_eq_true rfl)⟩ (fun H locs hf_2 hP hS => ?_)
  have hP : va_P (dC, dI) vwCl [(a_g, .inl (cI, 38, .inl ga))] H := hP
  refine lv_istore_n (lv' := [(2, .int r_2), (0, .ref a_g), (1, .int x1)]) hx hb dL_lawful_5 rfl hl (by decide) rfl (fun ls hl => ?_)
  refine lv_iload_n hx hb dL_lawful_6 rfl (lv_at hl 0 rfl) ?_
  refine lv_if_eq (tgt := 24) hx hb dL_lawful_7 (by decide) (fun c_7 => ?_) (fun c_7 => ?_)
  · have h := hp_pos c_7 h
    refine lv_iconst (v := 1) hx hb dL_lawful_24 (by decide) ?_
    refine lv_goto (tgt := 29) hx hb dL_lawful_25 (by decide) ?_
    obtain rfl := Option.some.inj h
    exact W.zret hx hb hr (nb01 (Or.inr rfl)) (fun t ht _ => kQ.mk ht trivial (Or.inr rfl) (hS.F ht)) hS.2.2 dL_lawful_29
  · have h := hp_neg c_7 h
    refine lv_iload_n hx hb dL_lawful_10 rfl (lv_at hl 0 rfl) ?_
    refine lv_aload_n hx hb dL_lawful_11 rfl (lv_at hl 1 rfl) ?_
    refine lv_bipush (v := 8) hx hb dL_lawful_12 (by decide) ?_
    refine lv_iload_n hx hb dL_lawful_14 rfl (lv_at hl 2 rfl) ?_
    refine lv_iadd hx hb dL_lawful_15 ?_
    have g_16 := hg_no h
    have h := hg_yes h
    refine va_iald (D := (dC, dI)) hx hb hK hP 0 0 rfl rfl g_16 dL_lawful_16 ?_
    refine lv_ishr hx hb dL_lawful_17 ?_
    refine lv_iconst (v := 1) hx hb dL_lawful_18 (by decide) ?_
    refine lv_iand hx hb dL_lawful_19 ?_
    refine lv_iconst (v := 1) hx hb dL_lawful_20 (by decide) ?_
    refine lv_icmp_ne (tgt := 28) hx hb dL_lawful_21 (by decide) (fun c_21 => ?_) (fun c_21 => ?_)
    · have h := hp_neg c_21 h
      refine lv_iconst (v := 0) hx hb dL_lawful_28 (by decide) ?_
      obtain rfl := Option.some.inj h
      exact W.zret hx hb hr (nb01 (Or.inl rfl)) (fun t ht _ => kQ.mk ht trivial (Or.inl rfl) (hS.F ht)) hS.2.2 dL_lawful_29
    · have h := hp_pos c_21 h
      refine lv_iconst (v := 1) hx hb dL_lawful_24 (by decide) ?_
      refine lv_goto (tgt := 29) hx hb dL_lawful_25 (by decide) ?_
      obtain rfl := Option.some.inj h
      exact W.zret hx hb hr (nb01 (Or.inr rfl)) (fun t ht _ => kQ.mk ht trivial (Or.inr rfl) (hS.F ht)) hS.2.2 dL_lawful_29
theorem khd_L_unlawful : yL_unlawful.cls = RL ∧ yL_unlawful.cls ≠ "java/lang/invoke/MethodHandle" ∧ yL_unlawful.cls ≠ "java/lang/invoke/VarHandle" ∧ (parseMethodDescriptor yL_unlawful.desc).map (fun d => d.parameters.length) = some 1 := by decide +kernel
set_option maxHeartbeats 8000000 in
set_option maxRecDepth 100000 in
theorem c_L_unlawful (l : Launch) (dC : Nat → ClassId) (dI : Nat → Nat → Nat) (cI cS : ClassId) (a_g : Nat) {ga : Nat → Int32} {r : Int32} (h : f_L_unlawful ga = some r) : Mk l yL_unlawful wsL_unlawful ({ frames := 3, cells := 0, slots := 0, locals := 70 } : Room) (dC, dI) cI cS [(a_g, .inl (cI, 38, .inl ga))] [.ref a_g] (some (.int r)) True (fun _ => True) noA := by
  refine Met.ofW (cc := cL_unlawful) (maxL := 3) (ret := (some .int)) (by decide) rfl ?_
  intro p e s m args below meth c s₁ B hml hv
  obtain ⟨rfl, hP, hK, hN, hD⟩ := hv
  have hx := B.exec
  have hb := B.bytes
  have hr := B.returns
  have hts := atoms_spec (ws := wsL_unlawful) B.pre
  have hown : s.vm.findClass RL = some m.cls := findClass_of_methodNamed B.named
  have hlocks := B.notSynchronized
  have hS : va_S noA s.heap s.heap [] := va_S.rf
  have hP : va_P (dC, dI) vwCl [(a_g, .inl (cI, 38, .inl ga))] s.heap := hP
  have hD : va_D (fun _ => True) [(a_g, .inl (cI, 38, .inl ga))] := hD
  have hl := lv_entry ([.ref a_g]) (n := 3) (Nat.le_of_ble_eq_true rfl)
  rw [lg_entry_eq]
  generalize (lg_sl ([.ref a_g]) ++ List.replicate (3 - (lg_sl ([.ref a_g])).length) Slot.unset).toArray = ls at hl ⊢
  have hl : lv_has ls 3 [(0, .ref a_g)] := hl
  unfold f_L_unlawful at h
  refine lv_iconst (v := 0) hx hb dL_unlawful_0 (by decide) ?_
  refine lv_istore_n (lv' := [(1, .int (0 : Int32)), (0, .ref a_g)]) hx hb dL_unlawful_1 rfl hl (by decide) rfl (fun ls hl => ?_)
  refine lv_iconst (v := 0) hx hb dL_unlawful_2 (by decide) ?_
  refine lv_istore_n (lv' := [(2, .int (0 : Int32)), (1, .int (0 : Int32)), (0, .ref a_g)]) hx hb dL_unlawful_3 rfl hl (by decide) rfl (fun ls hl => ?_)
  obtain ⟨y1_4, i_4, h⟩ := ob1_inv h
  have after_4 : ∀ (H : Heap) (locs : List Loc) (ls : Array Slot), va_P (dC, dI) vwCl [(a_g, .inl (cI, 38, .inl ga))] H → va_D (fun _ => True) [(a_g, .inl (cI, 38, .inl ga))] → va_S noA s.heap H locs → lv_has ls 3 [(1, .int y1_4)] → W p l e (headSpec wsL_unlawful ({ frames := 3, cells := 0, slots := 0, locals := 70 } : Room)).room s m ([.ref a_g] : List Value).toArray below meth c H locs 0 0 (MQ below (kQ (some (.int r)) True (fun _ => True) noA) ([.ref a_g] : List Value).toArray s 0 0 noA) (F0 m 31 ls []) := by
    intro H locs ls hP hD hS hl
    refine lv_iload_n hx hb dL_unlawful_31 rfl (lv_at hl 0 rfl) ?_
    obtain rfl := Option.some.inj h
    exact W.iret hx hb hr (fun t ht _ => kQ.mk ht trivial trivial (hS.F ht)) hS.2.2 dL_unlawful_32
  have lp_4 : ∀ (n : Nat) (x1_4 : Int32) (x2_4 : Int32), it (u2 (L_L_unlawful_4 ga)) n (x1_4, x2_4) = some y1_4 → ∀ (H : Heap) (locs : List Loc) (ls : Array Slot), va_P (dC, dI) vwCl [(a_g, .inl (cI, 38, .inl ga))] H → va_D (fun _ => True) [(a_g, .inl (cI, 38, .inl ga))] → va_S noA s.heap H locs → lv_has ls 3 [(0, .ref a_g), (1, .int x1_4), (2, .int x2_4)] → W p l e (headSpec wsL_unlawful ({ frames := 3, cells := 0, slots := 0, locals := 70 } : Room)).room s m ([.ref a_g] : List Value).toArray below meth c H locs 0 0 (MQ below (kQ (some (.int r)) True (fun _ => True) noA) ([.ref a_g] : List Value).toArray s 0 0 noA) (F0 m 4 ls []) := by
    intro n
    induction n with
    | zero => intro x1_4 x2_4 h1 H locs ls hP hD hS hl; exact (it_0 h1).elim
    | succ n ih_4 =>
      intro x1_4 x2_4 h1 H locs ls hP hD hS hl
      obtain ⟨t_4, h1, k1⟩ := it2_inv h1
      unfold L_L_unlawful_4 at h1
      refine lv_iload_n hx hb dL_unlawful_4 rfl (lv_at hl 2 rfl) ?_
      refine lv_aload_n hx hb dL_unlawful_5 rfl (lv_at hl 0 rfl) ?_
      refine lv_iconst (v := 0) hx hb dL_unlawful_6 (by decide) ?_
      refine va_iald (D := (dC, dI)) hx hb hK hP 0 0 rfl rfl (by unfold vp_in; decide) dL_unlawful_7 ?_
      refine lv_icmp_ge (tgt := 31) hx hb dL_unlawful_8 (by decide) (fun c_8 => ?_) (fun c_8 => ?_)
      · have h1 := hp_pos c_8 h1
        cases h1
        obtain rfl := pj1 k1
        exact after_4 _ _ _ hP hD hS (lv_sub hl [1] rfl)
      · have h1 := hp_neg c_8 h1
        refine lv_aload_n hx hb dL_unlawful_11 rfl (lv_at hl 0 rfl) ?_
        refine lv_iload_n hx hb dL_unlawful_12 rfl (lv_at hl 2 rfl) ?_
        obtain ⟨r_13, e_13, h1⟩ := ob1_inv h1
        refine k_pSi (rest := []) ⟨hx, hb, hml, hown, hts⟩ (c_L_lawful l dC dI cI cS a_g e_13) (va_cwS 2 hts gL_unlawful_L_lawful rfl rfl rfl khd_L_lawful.2 ⟨(Nat.le_of_ble_eq_true rfl), (Nat.le_of_ble_eq_true rfl)⟩) hK hN hP hD hS [0] rfl rfl rfl hl.1 rfl (Nat.le_of_ble_eq_true rfl) dL_unlawful_13 ⟨(Nat.le_of_ble_eq_true rfl), (Nat.le_of_ble_eq_true rfl)⟩ (fun H locs hf_13 hP hS => ?_)
        have hP : va_P (dC, dI) vwCl [(a_g, .inl (cI, 38, .inl ga))] H := hP
        refine lv_if_ne (tgt := 25) hx hb dL_unlawful_16 (by decide) (fun c_16 => ?_) (fun c_16 => ?_)
        · have h1 := hp_neg c_16 h1
          refine lv_iinc (v := (x2_4 + (1 : Int32))) (lv' := [(2, .int (x2_4 + (1 : Int32))), (0, .ref a_g), (1, .int x1_4)]) hx hb dL_unlawful_25 hl (k := 2) rfl rfl (by decide) rfl (fun ls hl => ?_)
          refine lv_goto (tgt := 4) hx hb dL_unlawful_28 (by decide) ?_
          cases h1
          exact ih_4 _ _ k1 _ _ _ hP hD hS (lv_sub hl [1, 2, 0] rfl)
        · have h1 := hp_pos c_16 h1
          refine lv_iload_n hx hb dL_unlawful_19 rfl (lv_at hl 1 rfl) ?_
          refine lv_iconst (v := 1) hx hb dL_unlawful_20 (by decide) ?_
          refine lv_iload_n hx hb dL_unlawful_21 rfl (lv_at hl 2 rfl) ?_
          refine lv_ishl hx hb dL_unlawful_22 ?_
          refine lv_ior hx hb dL_unlawful_23 ?_
          refine lv_istore_n (lv' := [(1, .int (x1_4 ||| ((1 : Int32) <<< (x2_4 &&& 31)))), (0, .ref a_g), (2, .int x2_4)]) hx hb dL_unlawful_24 rfl hl (by decide) rfl (fun ls hl => ?_)
          refine lv_iinc (v := (x2_4 + (1 : Int32))) (lv' := [(2, .int (x2_4 + (1 : Int32))), (1, .int (x1_4 ||| ((1 : Int32) <<< (x2_4 &&& 31)))), (0, .ref a_g)]) hx hb dL_unlawful_25 hl (k := 2) rfl rfl (by decide) rfl (fun ls hl => ?_)
          refine lv_goto (tgt := 4) hx hb dL_unlawful_28 (by decide) ?_
          cases h1
          exact ih_4 _ _ k1 _ _ _ hP hD hS (lv_sub hl [2, 1, 0] rfl)
  exact lp_4 FUEL _ _ i_4 _ _ _ hP hD hS (lv_sub hl [2, 1, 0] rfl)
theorem khd_L_size : yL_size.cls = RL ∧ yL_size.cls ≠ "java/lang/invoke/MethodHandle" ∧ yL_size.cls ≠ "java/lang/invoke/VarHandle" ∧ (parseMethodDescriptor yL_size.desc).map (fun d => d.parameters.length) = some 1 := by decide +kernel
set_option maxHeartbeats 8000000 in
set_option maxRecDepth 100000 in
theorem c_L_size (l : Launch) (dC : Nat → ClassId) (dI : Nat → Nat → Nat) (cI cS : ClassId) {x0 : Int32} {r : Int32} (h : f_L_size x0 = some r) : Mk l yL_size wsL_size ({ frames := 0, cells := 0, slots := 0, locals := 0 } : Room) (dC, dI) cI cS [] [.int x0] (some (.int r)) True (fun _ => True) noA := by
  refine Met.ofW (cc := cL_size) (maxL := 3) (ret := (some .int)) (by decide) rfl ?_
  intro p e s m args below meth c s₁ B hml hv
  obtain ⟨rfl, hP, hK, hN, hD⟩ := hv
  have hx := B.exec
  have hb := B.bytes
  have hr := B.returns
  have hts := atoms_spec (ws := wsL_size) B.pre
  have hown : s.vm.findClass RL = some m.cls := findClass_of_methodNamed B.named
  have hlocks := B.notSynchronized
  have hS : va_S noA s.heap s.heap [] := va_S.rf
  have hP : va_P (dC, dI) vwCl [] s.heap := hP
  have hD : va_D (fun _ => True) [] := hD
  have hl := lv_entry ([.int x0]) (n := 3) (Nat.le_of_ble_eq_true rfl)
  rw [lg_entry_eq]
  generalize (lg_sl ([.int x0]) ++ List.replicate (3 - (lg_sl ([.int x0])).length) Slot.unset).toArray = ls at hl ⊢
  have hl : lv_has ls 3 [(0, .int x0)] := hl
  unfold f_L_size at h
  refine lv_iconst (v := 0) hx hb dL_size_0 (by decide) ?_
  refine lv_istore_n (lv' := [(1, .int (0 : Int32)), (0, .int x0)]) hx hb dL_size_1 rfl hl (by decide) rfl (fun ls hl => ?_)
  refine lv_iload_n hx hb dL_size_2 rfl (lv_at hl 1 rfl) ?_
  refine lv_istore_n (lv' := [(2, .int x0), (1, .int (0 : Int32)), (0, .int x0)]) hx hb dL_size_3 rfl hl (by decide) rfl (fun ls hl => ?_)
  obtain ⟨y1_4, i_4, h⟩ := ob1_inv h
  have after_4 : ∀ (H : Heap) (locs : List Loc) (ls : Array Slot), va_P (dC, dI) vwCl [] H → va_D (fun _ => True) [] → va_S noA s.heap H locs → lv_has ls 3 [(1, .int y1_4)] → W p l e (headSpec wsL_size ({ frames := 0, cells := 0, slots := 0, locals := 0 } : Room)).room s m ([.int x0] : List Value).toArray below meth c H locs 0 0 (MQ below (kQ (some (.int r)) True (fun _ => True) noA) ([.int x0] : List Value).toArray s 0 0 noA) (F0 m 20 ls []) := by
    intro H locs ls hP hD hS hl
    refine lv_iload_n hx hb dL_size_20 rfl (lv_at hl 0 rfl) ?_
    obtain rfl := Option.some.inj h
    exact W.iret hx hb hr (fun t ht _ => kQ.mk ht trivial trivial (hS.F ht)) hS.2.2 dL_size_21
  have lp_4 : ∀ (n : Nat) (x1_4 : Int32) (x2_4 : Int32), it (u2 (L_L_size_4)) n (x1_4, x2_4) = some y1_4 → ∀ (H : Heap) (locs : List Loc) (ls : Array Slot), va_P (dC, dI) vwCl [] H → va_D (fun _ => True) [] → va_S noA s.heap H locs → lv_has ls 3 [(1, .int x1_4), (2, .int x2_4)] → W p l e (headSpec wsL_size ({ frames := 0, cells := 0, slots := 0, locals := 0 } : Room)).room s m ([.int x0] : List Value).toArray below meth c H locs 0 0 (MQ below (kQ (some (.int r)) True (fun _ => True) noA) ([.int x0] : List Value).toArray s 0 0 noA) (F0 m 4 ls []) := by
    intro n
    induction n with
    | zero => intro x1_4 x2_4 h1 H locs ls hP hD hS hl; exact (it_0 h1).elim
    | succ n ih_4 =>
      intro x1_4 x2_4 h1 H locs ls hP hD hS hl
      obtain ⟨t_4, h1, k1⟩ := it2_inv h1
      unfold L_L_size_4 at h1
      refine lv_iload_n hx hb dL_size_4 rfl (lv_at hl 1 rfl) ?_
      refine lv_if_le (tgt := 20) hx hb dL_size_5 (by decide) (fun c_5 => ?_) (fun c_5 => ?_)
      · have h1 := hp_pos c_5 h1
        cases h1
        obtain rfl := pj1 k1
        exact after_4 _ _ _ hP hD hS (lv_sub hl [0] rfl)
      · have h1 := hp_neg c_5 h1
        refine lv_iinc (v := (x1_4 + (1 : Int32))) (lv' := [(1, .int (x1_4 + (1 : Int32))), (2, .int x2_4)]) hx hb dL_size_8 hl (k := 0) rfl rfl (by decide) rfl (fun ls hl => ?_)
        refine lv_iload_n hx hb dL_size_11 rfl (lv_at hl 1 rfl) ?_
        refine lv_iload_n hx hb dL_size_12 rfl (lv_at hl 1 rfl) ?_
        refine lv_iconst (v := 1) hx hb dL_size_13 (by decide) ?_
        refine lv_isub hx hb dL_size_14 ?_
        refine lv_iand hx hb dL_size_15 ?_
        refine lv_istore_n (lv' := [(2, .int (x2_4 &&& (x2_4 - (1 : Int32)))), (1, .int (x1_4 + (1 : Int32)))]) hx hb dL_size_16 rfl hl (by decide) rfl (fun ls hl => ?_)
        refine lv_goto (tgt := 4) hx hb dL_size_17 (by decide) ?_
        cases h1
        exact ih_4 _ _ k1 _ _ _ hP hD hS (lv_sub hl [1, 0] rfl)
  exact lp_4 FUEL _ _ i_4 _ _ _ hP hD hS (lv_sub hl [1, 0] rfl)
theorem khd_L_refer : yL_refer.cls = RL ∧ yL_refer.cls ≠ "java/lang/invoke/MethodHandle" ∧ yL_refer.cls ≠ "java/lang/invoke/VarHandle" ∧ (parseMethodDescriptor yL_refer.desc).map (fun d => d.parameters.length) = some 3 := by decide +kernel
set_option maxHeartbeats 8000000 in
set_option maxRecDepth 100000 in
theorem c_L_refer (l : Launch) (dC : Nat → ClassId) (dI : Nat → Nat → Nat) (cI cS : ClassId) (a_g : Nat) {ga : Nat → Int32} {x1 : Int32} {x2 : Int32} {r : Int32} {z_ga : Nat → Int32} (h : f_L_refer ga x1 x2 = some (r, z_ga)) : Mk l yL_refer wsL_refer ({ frames := 1, cells := 0, slots := 0, locals := 23 } : Room) (dC, dI) cI cS [(a_g, .inl (cI, 38, .inl ga))] [.ref a_g, .int x1, .int x2] (some (.int r)) (r = 0 ∨ r = 1) (fun H => va_P (dC, dI) vwCl [(a_g, .inl (cI, 38, .inl z_ga))] H) (inA (List.map Prod.fst ([(a_g, .inl (cI, 38, .inl ga))] : va_W))) := by
  refine Met.ofW (cc := cL_refer) (maxL := 5) (ret := (some .boolean)) (by decide) rfl ?_
  intro p e s m args below meth c s₁ B hml hv
  obtain ⟨rfl, hP, hK, hN, hD⟩ := hv
  have hx := B.exec
  have hb := B.bytes
  have hr := B.returns
  have hts := atoms_spec (ws := wsL_refer) B.pre
  have hown : s.vm.findClass RL = some m.cls := findClass_of_methodNamed B.named
  have hlocks := B.notSynchronized
  have hS : va_S (inA [a_g]) s.heap s.heap [] := va_S.rf
  have hP : va_P (dC, dI) vwCl [(a_g, .inl (cI, 38, .inl ga))] s.heap := hP
  have hD : va_D (inA [a_g]) [(a_g, .inl (cI, 38, .inl ga))] := va_D_in hD rfl
  have hl := lv_entry ([.ref a_g, .int x1, .int x2]) (n := 5) (Nat.le_of_ble_eq_true rfl)
  rw [lg_entry_eq]
  generalize (lg_sl ([.ref a_g, .int x1, .int x2]) ++ List.replicate (5 - (lg_sl ([.ref a_g, .int x1, .int x2])).length) Slot.unset).toArray = ls at hl ⊢
  have hl : lv_has ls 5 [(0, .ref a_g), (1, .int x1), (2, .int x2)] := hl
  unfold f_L_refer at h
  refine lv_aload_n hx hb dL_refer_0 rfl (lv_at hl 0 rfl) ?_
  refine lv_iload_n hx hb dL_refer_1 rfl (lv_at hl 1 rfl) ?_
  refine lv_iload_n hx hb dL_refer_2 rfl (lv_at hl 2 rfl) ?_
  obtain ⟨r_3, e_3, h⟩ := ob1_inv h
  refine k_pSi (rest := []) ⟨hx, hb, hml, hown, hts⟩ (c_L_place l dC dI cI cS a_g e_3) (va_cwS 3 hts gL_refer_L_place rfl rfl rfl khd_L_place.2 ⟨(Nat.le_of_ble_eq_true rfl), (Nat.le_of_ble_eq_true rfl)⟩) hK hN hP hD hS [0] rfl rfl rfl hl.1 rfl (Nat.le_of_ble_eq_true rfl) dL_refer_3 ⟨(Nat.le_of_ble_eq_true rfl), (Nat.le_of_ble_eq_true rfl)⟩ (fun H locs hf_3 hP hS => ?_)
  have hP : va_P (dC, dI) vwCl [(a_g, .inl (cI, 38, .inl ga))] H := hP
  refine lv_istore_n (lv' := [(3, .int r_3), (0, .ref a_g), (1, .int x1), (2, .int x2)]) hx hb dL_refer_6 rfl hl (by decide) rfl (fun ls hl => ?_)
  refine lv_iload_n hx hb dL_refer_7 rfl (lv_at hl 0 rfl) ?_
  refine lv_if_ge (tgt := 21) hx hb dL_refer_8 (by decide) (fun c_8 => ?_) (fun c_8 => ?_)
  · have h := hp_pos c_8 h
    refine lv_iload_n hx hb dL_refer_21 rfl (lv_at hl 0 rfl) ?_
    refine lv_if_ge (tgt := 52) hx hb dL_refer_22 (by decide) (fun c_22 => ?_) (fun c_22 => ?_)
    · have h := hp_pos c_22 h
      refine lv_aload_n hx hb dL_refer_52 rfl (lv_at hl 1 rfl) ?_
      refine lv_iconst (v := 1) hx hb dL_refer_53 (by decide) ?_
      refine lv_dup2_11 hx hb dL_refer_54 rfl rfl ?_
      refine va_iald (D := (dC, dI)) hx hb hK hP 0 0 rfl rfl (by unfold vp_in; decide) dL_refer_55 ?_
      refine lv_iconst (v := 1) hx hb dL_refer_56 (by decide) ?_
      refine lv_isub hx hb dL_refer_57 ?_
      refine va_iast (D := (dC, dI)) hx hb hK hP hD hS 0 0 rfl rfl (by unfold vp_in; decide) dL_refer_58 (fun H locs hP hD hS => ?_)
      have hP : va_P (dC, dI) vwCl [(a_g, .inl (cI, 38, .inl (upd ga 1 ((ga 1) - (1 : Int32)))))] H := hP
      have hD : va_D (inA [a_g]) [(a_g, .inl (cI, 38, .inl (upd ga 1 ((ga 1) - (1 : Int32)))))] := hD
      refine lv_iload_n hx hb dL_refer_59 rfl (lv_at hl 0 rfl) ?_
      refine lv_istore (lv' := [(4, .int r_3), (3, .int r_3), (0, .ref a_g), (1, .int x1), (2, .int x2)]) hx hb dL_refer_60 hl (by decide) rfl (fun ls hl => ?_)
      obtain ⟨ga_62e, i_62, h⟩ := ob1_inv h
      have after_62 : ∀ (H : Heap) (locs : List Loc) (ls : Array Slot), va_P (dC, dI) vwCl [(a_g, .inl (cI, 38, .inl ga_62e))] H → va_D (inA [a_g]) [(a_g, .inl (cI, 38, .inl ga_62e))] → va_S (inA [a_g]) s.heap H locs → lv_has ls 5 [] → W p l e (headSpec wsL_refer ({ frames := 1, cells := 0, slots := 0, locals := 23 } : Room)).room s m ([.ref a_g, .int x1, .int x2] : List Value).toArray below meth c H locs 0 0 (MQ below (kQ (some (.int r)) (r = 0 ∨ r = 1) (fun H => va_P (dC, dI) vwCl [(a_g, .inl (cI, 38, .inl z_ga))] H) (inA (List.map Prod.fst ([(a_g, .inl (cI, 38, .inl ga))] : va_W)))) ([.ref a_g, .int x1, .int x2] : List Value).toArray s 0 0 (inA (List.map Prod.fst ([(a_g, .inl (cI, 38, .inl ga))] : va_W)))) (F0 m 104 ls []) := by
        intro H locs ls hP hD hS hl
        refine lv_iconst (v := 1) hx hb dL_refer_104 (by decide) ?_
        obtain ⟨rfl, rfl⟩ := pj2 (Option.some.inj h)
        exact W.zret hx hb hr (nb01 (Or.inr rfl)) (fun t ht _ => kQ.mk ht hP (Or.inr rfl) (hS.F ht)) hS.2.2 dL_refer_105
      have lp_62 : ∀ (n : Nat) (x4_62 : Int32) (ga_62 : Nat → Int32), it (u2 (L_L_refer_62)) n (x4_62, ga_62) = some ga_62e → ∀ (H : Heap) (locs : List Loc) (ls : Array Slot), va_P (dC, dI) vwCl [(a_g, .inl (cI, 38, .inl ga_62))] H → va_D (inA [a_g]) [(a_g, .inl (cI, 38, .inl ga_62))] → va_S (inA [a_g]) s.heap H locs → lv_has ls 5 [(0, .ref a_g), (4, .int x4_62)] → W p l e (headSpec wsL_refer ({ frames := 1, cells := 0, slots := 0, locals := 23 } : Room)).room s m ([.ref a_g, .int x1, .int x2] : List Value).toArray below meth c H locs 0 0 (MQ below (kQ (some (.int r)) (r = 0 ∨ r = 1) (fun H => va_P (dC, dI) vwCl [(a_g, .inl (cI, 38, .inl z_ga))] H) (inA (List.map Prod.fst ([(a_g, .inl (cI, 38, .inl ga))] : va_W)))) ([.ref a_g, .int x1, .int x2] : List Value).toArray s 0 0 (inA (List.map Prod.fst ([(a_g, .inl (cI, 38, .inl ga))] : va_W)))) (F0 m 62 ls []) := by
        intro n
        induction n with
        | zero => intro x4_62 ga_62 h1 H locs ls hP hD hS hl; exact (it_0 h1).elim
        | succ n ih_62 =>
          intro x4_62 ga_62 h1 H locs ls hP hD hS hl
          obtain ⟨t_62, h1, k1⟩ := it2_inv h1
          unfold L_L_refer_62 at h1
          refine lv_iload hx hb dL_refer_62 (lv_at hl 1 rfl) ?_
          refine lv_aload_n hx hb dL_refer_64 rfl (lv_at hl 0 rfl) ?_
          refine lv_iconst (v := 1) hx hb dL_refer_65 (by decide) ?_
          refine va_iald (D := (dC, dI)) hx hb hK hP 0 0 rfl rfl (by unfold vp_in; decide) dL_refer_66 ?_
          refine lv_icmp_ge (tgt := 104) hx hb dL_refer_67 (by decide) (fun c_67 => ?_) (fun c_67 => ?_)
          · have h1 := hp_pos c_67 h1
            cases h1
            obtain rfl := pj1 k1
            exact after_62 _ _ _ hP hD hS (lv_sub hl [] rfl)
          · have h1 := hp_neg c_67 h1
            refine lv_aload_n hx hb dL_refer_70 rfl (lv_at hl 0 rfl) ?_
            refine lv_bipush (v := 14) hx hb dL_refer_71 (by decide) ?_
            refine lv_iload hx hb dL_refer_73 (lv_at hl 1 rfl) ?_
            refine lv_iadd hx hb dL_refer_75 ?_
            refine lv_aload_n hx hb dL_refer_76 rfl (lv_at hl 0 rfl) ?_
            refine lv_bipush (v := 15) hx hb dL_refer_77 (by decide) ?_
            refine lv_iload hx hb dL_refer_79 (lv_at hl 1 rfl) ?_
            refine lv_iadd hx hb dL_refer_81 ?_
            have g_82 := hg_no h1
            have h1 := hg_yes h1
            refine va_iald (D := (dC, dI)) hx hb hK hP 0 0 rfl rfl g_82 dL_refer_82 ?_
            have g_83 := hg_no h1
            have h1 := hg_yes h1
            refine va_iast (D := (dC, dI)) hx hb hK hP hD hS 0 0 rfl rfl g_83 dL_refer_83 (fun H locs hP hD hS => ?_)
            have hP : va_P (dC, dI) vwCl [(a_g, .inl (cI, 38, .inl (upd ga_62 ((14 : Int32) + x4_62).toNatClampNeg (ga_62 ((15 : Int32) + x4_62).toNatClampNeg))))] H := hP
            have hD : va_D (inA [a_g]) [(a_g, .inl (cI, 38, .inl (upd ga_62 ((14 : Int32) + x4_62).toNatClampNeg (ga_62 ((15 : Int32) + x4_62).toNatClampNeg))))] := hD
            refine lv_aload_n hx hb dL_refer_84 rfl (lv_at hl 0 rfl) ?_
            refine lv_bipush (v := 26) hx hb dL_refer_85 (by decide) ?_
            refine lv_iload hx hb dL_refer_87 (lv_at hl 1 rfl) ?_
            refine lv_iadd hx hb dL_refer_89 ?_
            refine lv_aload_n hx hb dL_refer_90 rfl (lv_at hl 0 rfl) ?_
            refine lv_bipush (v := 27) hx hb dL_refer_91 (by decide) ?_
            refine lv_iload hx hb dL_refer_93 (lv_at hl 1 rfl) ?_
            refine lv_iadd hx hb dL_refer_95 ?_
            have g_96 := hg_no h1
            have h1 := hg_yes h1
            refine va_iald (D := (dC, dI)) hx hb hK hP 0 0 rfl rfl g_96 dL_refer_96 ?_
            have g_97 := hg_no h1
            have h1 := hg_yes h1
            refine va_iast (D := (dC, dI)) hx hb hK hP hD hS 0 0 rfl rfl g_97 dL_refer_97 (fun H locs hP hD hS => ?_)
            have hP : va_P (dC, dI) vwCl [(a_g, .inl (cI, 38, .inl (upd (upd ga_62 ((14 : Int32) + x4_62).toNatClampNeg (ga_62 ((15 : Int32) + x4_62).toNatClampNeg)) ((26 : Int32) + x4_62).toNatClampNeg ((upd ga_62 ((14 : Int32) + x4_62).toNatClampNeg (ga_62 ((15 : Int32) + x4_62).toNatClampNeg)) ((27 : Int32) + x4_62).toNatClampNeg))))] H := hP
            have hD : va_D (inA [a_g]) [(a_g, .inl (cI, 38, .inl (upd (upd ga_62 ((14 : Int32) + x4_62).toNatClampNeg (ga_62 ((15 : Int32) + x4_62).toNatClampNeg)) ((26 : Int32) + x4_62).toNatClampNeg ((upd ga_62 ((14 : Int32) + x4_62).toNatClampNeg (ga_62 ((15 : Int32) + x4_62).toNatClampNeg)) ((27 : Int32) + x4_62).toNatClampNeg))))] := hD
            refine lv_iinc (v := (x4_62 + (1 : Int32))) (lv' := [(4, .int (x4_62 + (1 : Int32))), (0, .ref a_g)]) hx hb dL_refer_98 hl (k := 1) rfl rfl (by decide) rfl (fun ls hl => ?_)
            refine lv_goto (tgt := 62) hx hb dL_refer_101 (by decide) ?_
            cases h1
            exact ih_62 _ _ k1 _ _ _ hP hD hS (lv_sub hl [1, 0] rfl)
      exact lp_62 FUEL _ _ i_62 _ _ _ hP hD hS (lv_sub hl [2, 0] rfl)
    · have h := hp_neg c_22 h
      refine lv_aload_n hx hb dL_refer_25 rfl (lv_at hl 1 rfl) ?_
      refine lv_bipush (v := 14) hx hb dL_refer_26 (by decide) ?_
      refine lv_aload_n hx hb dL_refer_28 rfl (lv_at hl 1 rfl) ?_
      refine lv_iconst (v := 1) hx hb dL_refer_29 (by decide) ?_
      refine va_iald (D := (dC, dI)) hx hb hK hP 0 0 rfl rfl (by unfold vp_in; decide) dL_refer_30 ?_
      refine lv_iadd hx hb dL_refer_31 ?_
      refine lv_iload_n hx hb dL_refer_32 rfl (lv_at hl 2 rfl) ?_
      have g_33 := hg_no h
      have h := hg_yes h
      refine va_iast (D := (dC, dI)) hx hb hK hP hD hS 0 0 rfl rfl g_33 dL_refer_33 (fun H locs hP hD hS => ?_)
      have hP : va_P (dC, dI) vwCl [(a_g, .inl (cI, 38, .inl (upd ga ((14 : Int32) + (ga 1)).toNatClampNeg x1)))] H := hP
      have hD : va_D (inA [a_g]) [(a_g, .inl (cI, 38, .inl (upd ga ((14 : Int32) + (ga 1)).toNatClampNeg x1)))] := hD
      refine lv_aload_n hx hb dL_refer_34 rfl (lv_at hl 1 rfl) ?_
      refine lv_bipush (v := 26) hx hb dL_refer_35 (by decide) ?_
      refine lv_aload_n hx hb dL_refer_37 rfl (lv_at hl 1 rfl) ?_
      refine lv_iconst (v := 1) hx hb dL_refer_38 (by decide) ?_
      refine va_iald (D := (dC, dI)) hx hb hK hP 0 0 rfl rfl (by unfold vp_in; decide) dL_refer_39 ?_
      refine lv_iadd hx hb dL_refer_40 ?_
      refine lv_iload_n hx hb dL_refer_41 rfl (lv_at hl 3 rfl) ?_
      have g_42 := hg_no h
      have h := hg_yes h
      refine va_iast (D := (dC, dI)) hx hb hK hP hD hS 0 0 rfl rfl g_42 dL_refer_42 (fun H locs hP hD hS => ?_)
      have hP : va_P (dC, dI) vwCl [(a_g, .inl (cI, 38, .inl (upd (upd ga ((14 : Int32) + (ga 1)).toNatClampNeg x1) ((26 : Int32) + ((upd ga ((14 : Int32) + (ga 1)).toNatClampNeg x1) 1)).toNatClampNeg x2)))] H := hP
      have hD : va_D (inA [a_g]) [(a_g, .inl (cI, 38, .inl (upd (upd ga ((14 : Int32) + (ga 1)).toNatClampNeg x1) ((26 : Int32) + ((upd ga ((14 : Int32) + (ga 1)).toNatClampNeg x1) 1)).toNatClampNeg x2)))] := hD
      refine lv_aload_n hx hb dL_refer_43 rfl (lv_at hl 1 rfl) ?_
      refine lv_iconst (v := 1) hx hb dL_refer_44 (by decide) ?_
      refine lv_dup2_11 hx hb dL_refer_45 rfl rfl ?_
      refine va_iald (D := (dC, dI)) hx hb hK hP 0 0 rfl rfl (by unfold vp_in; decide) dL_refer_46 ?_
      refine lv_iconst (v := 1) hx hb dL_refer_47 (by decide) ?_
      refine lv_iadd hx hb dL_refer_48 ?_
      refine va_iast (D := (dC, dI)) hx hb hK hP hD hS 0 0 rfl rfl (by unfold vp_in; decide) dL_refer_49 (fun H locs hP hD hS => ?_)
      have hP : va_P (dC, dI) vwCl [(a_g, .inl (cI, 38, .inl (upd (upd (upd ga ((14 : Int32) + (ga 1)).toNatClampNeg x1) ((26 : Int32) + ((upd ga ((14 : Int32) + (ga 1)).toNatClampNeg x1) 1)).toNatClampNeg x2) 1 (((upd (upd ga ((14 : Int32) + (ga 1)).toNatClampNeg x1) ((26 : Int32) + ((upd ga ((14 : Int32) + (ga 1)).toNatClampNeg x1) 1)).toNatClampNeg x2) 1) + (1 : Int32)))))] H := hP
      have hD : va_D (inA [a_g]) [(a_g, .inl (cI, 38, .inl (upd (upd (upd ga ((14 : Int32) + (ga 1)).toNatClampNeg x1) ((26 : Int32) + ((upd ga ((14 : Int32) + (ga 1)).toNatClampNeg x1) 1)).toNatClampNeg x2) 1 (((upd (upd ga ((14 : Int32) + (ga 1)).toNatClampNeg x1) ((26 : Int32) + ((upd ga ((14 : Int32) + (ga 1)).toNatClampNeg x1) 1)).toNatClampNeg x2) 1) + (1 : Int32)))))] := hD
      refine lv_iconst (v := 1) hx hb dL_refer_50 (by decide) ?_
      obtain ⟨rfl, rfl⟩ := pj2 (Option.some.inj h)
      exact W.zret hx hb hr (nb01 (Or.inr rfl)) (fun t ht _ => kQ.mk ht hP (Or.inr rfl) (hS.F ht)) hS.2.2 dL_refer_51
  · have h := hp_neg c_8 h
    refine lv_aload_n hx hb dL_refer_11 rfl (lv_at hl 1 rfl) ?_
    refine lv_iconst (v := 1) hx hb dL_refer_12 (by decide) ?_
    refine va_iald (D := (dC, dI)) hx hb hK hP 0 0 rfl rfl (by unfold vp_in; decide) dL_refer_13 ?_
    refine lv_bipush (v := 12) hx hb dL_refer_14 (by decide) ?_
    refine lv_icmp_ne (tgt := 21) hx hb dL_refer_16 (by decide) (fun c_16 => ?_) (fun c_16 => ?_)
    · have h := hp_neg c_16 h
      refine lv_iload_n hx hb dL_refer_21 rfl (lv_at hl 0 rfl) ?_
      refine lv_if_ge (tgt := 52) hx hb dL_refer_22 (by decide) (fun c_22 => ?_) (fun c_22 => ?_)
      · have h := hp_pos c_22 h
        refine lv_aload_n hx hb dL_refer_52 rfl (lv_at hl 1 rfl) ?_
        refine lv_iconst (v := 1) hx hb dL_refer_53 (by decide) ?_
        refine lv_dup2_11 hx hb dL_refer_54 rfl rfl ?_
        refine va_iald (D := (dC, dI)) hx hb hK hP 0 0 rfl rfl (by unfold vp_in; decide) dL_refer_55 ?_
        refine lv_iconst (v := 1) hx hb dL_refer_56 (by decide) ?_
        refine lv_isub hx hb dL_refer_57 ?_
        refine va_iast (D := (dC, dI)) hx hb hK hP hD hS 0 0 rfl rfl (by unfold vp_in; decide) dL_refer_58 (fun H locs hP hD hS => ?_)
        have hP : va_P (dC, dI) vwCl [(a_g, .inl (cI, 38, .inl (upd ga 1 ((ga 1) - (1 : Int32)))))] H := hP
        have hD : va_D (inA [a_g]) [(a_g, .inl (cI, 38, .inl (upd ga 1 ((ga 1) - (1 : Int32)))))] := hD
        refine lv_iload_n hx hb dL_refer_59 rfl (lv_at hl 0 rfl) ?_
        refine lv_istore (lv' := [(4, .int r_3), (3, .int r_3), (0, .ref a_g), (1, .int x1), (2, .int x2)]) hx hb dL_refer_60 hl (by decide) rfl (fun ls hl => ?_)
        obtain ⟨ga_62e, i_62, h⟩ := ob1_inv h
        have after_62 : ∀ (H : Heap) (locs : List Loc) (ls : Array Slot), va_P (dC, dI) vwCl [(a_g, .inl (cI, 38, .inl ga_62e))] H → va_D (inA [a_g]) [(a_g, .inl (cI, 38, .inl ga_62e))] → va_S (inA [a_g]) s.heap H locs → lv_has ls 5 [] → W p l e (headSpec wsL_refer ({ frames := 1, cells := 0, slots := 0, locals := 23 } : Room)).room s m ([.ref a_g, .int x1, .int x2] : List Value).toArray below meth c H locs 0 0 (MQ below (kQ (some (.int r)) (r = 0 ∨ r = 1) (fun H => va_P (dC, dI) vwCl [(a_g, .inl (cI, 38, .inl z_ga))] H) (inA (List.map Prod.fst ([(a_g, .inl (cI, 38, .inl ga))] : va_W)))) ([.ref a_g, .int x1, .int x2] : List Value).toArray s 0 0 (inA (List.map Prod.fst ([(a_g, .inl (cI, 38, .inl ga))] : va_W)))) (F0 m 104 ls []) := by
          intro H locs ls hP hD hS hl
          refine lv_iconst (v := 1) hx hb dL_refer_104 (by decide) ?_
          obtain ⟨rfl, rfl⟩ := pj2 (Option.some.inj h)
          exact W.zret hx hb hr (nb01 (Or.inr rfl)) (fun t ht _ => kQ.mk ht hP (Or.inr rfl) (hS.F ht)) hS.2.2 dL_refer_105
        have lp_62 : ∀ (n : Nat) (x4_62 : Int32) (ga_62 : Nat → Int32), it (u2 (L_L_refer_62)) n (x4_62, ga_62) = some ga_62e → ∀ (H : Heap) (locs : List Loc) (ls : Array Slot), va_P (dC, dI) vwCl [(a_g, .inl (cI, 38, .inl ga_62))] H → va_D (inA [a_g]) [(a_g, .inl (cI, 38, .inl ga_62))] → va_S (inA [a_g]) s.heap H locs → lv_has ls 5 [(0, .ref a_g), (4, .int x4_62)] → W p l e (headSpec wsL_refer ({ frames := 1, cells := 0, slots := 0, locals := 23 } : Room)).room s m ([.ref a_g, .int x1, .int x2] : List Value).toArray below meth c H locs 0 0 (MQ below (kQ (some (.int r)) (r = 0 ∨ r = 1) (fun H => va_P (dC, dI) vwCl [(a_g, .inl (cI, 38, .inl z_ga))] H) (inA (List.map Prod.fst ([(a_g, .inl (cI, 38, .inl ga))] : va_W)))) ([.ref a_g, .int x1, .int x2] : List Value).toArray s 0 0 (inA (List.map Prod.fst ([(a_g, .inl (cI, 38, .inl ga))] : va_W)))) (F0 m 62 ls []) := by
          intro n
          induction n with
          | zero => intro x4_62 ga_62 h1 H locs ls hP hD hS hl; exact (it_0 h1).elim
          | succ n ih_62 =>
            intro x4_62 ga_62 h1 H locs ls hP hD hS hl
            obtain ⟨t_62, h1, k1⟩ := it2_inv h1
            unfold L_L_refer_62 at h1
            refine lv_iload hx hb dL_refer_62 (lv_at hl 1 rfl) ?_
            refine lv_aload_n hx hb dL_refer_64 rfl (lv_at hl 0 rfl) ?_
            refine lv_iconst (v := 1) hx hb dL_refer_65 (by decide) ?_
            refine va_iald (D := (dC, dI)) hx hb hK hP 0 0 rfl rfl (by unfold vp_in; decide) dL_refer_66 ?_
            refine lv_icmp_ge (tgt := 104) hx hb dL_refer_67 (by decide) (fun c_67 => ?_) (fun c_67 => ?_)
            · have h1 := hp_pos c_67 h1
              cases h1
              obtain rfl := pj1 k1
              exact after_62 _ _ _ hP hD hS (lv_sub hl [] rfl)
            · have h1 := hp_neg c_67 h1
              refine lv_aload_n hx hb dL_refer_70 rfl (lv_at hl 0 rfl) ?_
              refine lv_bipush (v := 14) hx hb dL_refer_71 (by decide) ?_
              refine lv_iload hx hb dL_refer_73 (lv_at hl 1 rfl) ?_
              refine lv_iadd hx hb dL_refer_75 ?_
              refine lv_aload_n hx hb dL_refer_76 rfl (lv_at hl 0 rfl) ?_
              refine lv_bipush (v := 15) hx hb dL_refer_77 (by decide) ?_
              refine lv_iload hx hb dL_refer_79 (lv_at hl 1 rfl) ?_
              refine lv_iadd hx hb dL_refer_81 ?_
              have g_82 := hg_no h1
              have h1 := hg_yes h1
              refine va_iald (D := (dC, dI)) hx hb hK hP 0 0 rfl rfl g_82 dL_refer_82 ?_
              have g_83 := hg_no h1
              have h1 := hg_yes h1
              refine va_iast (D := (dC, dI)) hx hb hK hP hD hS 0 0 rfl rfl g_83 dL_refer_83 (fun H locs hP hD hS => ?_)
              have hP : va_P (dC, dI) vwCl [(a_g, .inl (cI, 38, .inl (upd ga_62 ((14 : Int32) + x4_62).toNatClampNeg (ga_62 ((15 : Int32) + x4_62).toNatClampNeg))))] H := hP
              have hD : va_D (inA [a_g]) [(a_g, .inl (cI, 38, .inl (upd ga_62 ((14 : Int32) + x4_62).toNatClampNeg (ga_62 ((15 : Int32) + x4_62).toNatClampNeg))))] := hD
              refine lv_aload_n hx hb dL_refer_84 rfl (lv_at hl 0 rfl) ?_
              refine lv_bipush (v := 26) hx hb dL_refer_85 (by decide) ?_
              refine lv_iload hx hb dL_refer_87 (lv_at hl 1 rfl) ?_
              refine lv_iadd hx hb dL_refer_89 ?_
              refine lv_aload_n hx hb dL_refer_90 rfl (lv_at hl 0 rfl) ?_
              refine lv_bipush (v := 27) hx hb dL_refer_91 (by decide) ?_
              refine lv_iload hx hb dL_refer_93 (lv_at hl 1 rfl) ?_
              refine lv_iadd hx hb dL_refer_95 ?_
              have g_96 := hg_no h1
              have h1 := hg_yes h1
              refine va_iald (D := (dC, dI)) hx hb hK hP 0 0 rfl rfl g_96 dL_refer_96 ?_
              have g_97 := hg_no h1
              have h1 := hg_yes h1
              refine va_iast (D := (dC, dI)) hx hb hK hP hD hS 0 0 rfl rfl g_97 dL_refer_97 (fun H locs hP hD hS => ?_)
              have hP : va_P (dC, dI) vwCl [(a_g, .inl (cI, 38, .inl (upd (upd ga_62 ((14 : Int32) + x4_62).toNatClampNeg (ga_62 ((15 : Int32) + x4_62).toNatClampNeg)) ((26 : Int32) + x4_62).toNatClampNeg ((upd ga_62 ((14 : Int32) + x4_62).toNatClampNeg (ga_62 ((15 : Int32) + x4_62).toNatClampNeg)) ((27 : Int32) + x4_62).toNatClampNeg))))] H := hP
              have hD : va_D (inA [a_g]) [(a_g, .inl (cI, 38, .inl (upd (upd ga_62 ((14 : Int32) + x4_62).toNatClampNeg (ga_62 ((15 : Int32) + x4_62).toNatClampNeg)) ((26 : Int32) + x4_62).toNatClampNeg ((upd ga_62 ((14 : Int32) + x4_62).toNatClampNeg (ga_62 ((15 : Int32) + x4_62).toNatClampNeg)) ((27 : Int32) + x4_62).toNatClampNeg))))] := hD
              refine lv_iinc (v := (x4_62 + (1 : Int32))) (lv' := [(4, .int (x4_62 + (1 : Int32))), (0, .ref a_g)]) hx hb dL_refer_98 hl (k := 1) rfl rfl (by decide) rfl (fun ls hl => ?_)
              refine lv_goto (tgt := 62) hx hb dL_refer_101 (by decide) ?_
              cases h1
              exact ih_62 _ _ k1 _ _ _ hP hD hS (lv_sub hl [1, 0] rfl)
        exact lp_62 FUEL _ _ i_62 _ _ _ hP hD hS (lv_sub hl [2, 0] rfl)
      · have h := hp_neg c_22 h
        refine lv_aload_n hx hb dL_refer_25 rfl (lv_at hl 1 rfl) ?_
        refine lv_bipush (v := 14) hx hb dL_refer_26 (by decide) ?_
        refine lv_aload_n hx hb dL_refer_28 rfl (lv_at hl 1 rfl) ?_
        refine lv_iconst (v := 1) hx hb dL_refer_29 (by decide) ?_
        refine va_iald (D := (dC, dI)) hx hb hK hP 0 0 rfl rfl (by unfold vp_in; decide) dL_refer_30 ?_
        refine lv_iadd hx hb dL_refer_31 ?_
        refine lv_iload_n hx hb dL_refer_32 rfl (lv_at hl 2 rfl) ?_
        have g_33 := hg_no h
        have h := hg_yes h
        refine va_iast (D := (dC, dI)) hx hb hK hP hD hS 0 0 rfl rfl g_33 dL_refer_33 (fun H locs hP hD hS => ?_)
        have hP : va_P (dC, dI) vwCl [(a_g, .inl (cI, 38, .inl (upd ga ((14 : Int32) + (ga 1)).toNatClampNeg x1)))] H := hP
        have hD : va_D (inA [a_g]) [(a_g, .inl (cI, 38, .inl (upd ga ((14 : Int32) + (ga 1)).toNatClampNeg x1)))] := hD
        refine lv_aload_n hx hb dL_refer_34 rfl (lv_at hl 1 rfl) ?_
        refine lv_bipush (v := 26) hx hb dL_refer_35 (by decide) ?_
        refine lv_aload_n hx hb dL_refer_37 rfl (lv_at hl 1 rfl) ?_
        refine lv_iconst (v := 1) hx hb dL_refer_38 (by decide) ?_
        refine va_iald (D := (dC, dI)) hx hb hK hP 0 0 rfl rfl (by unfold vp_in; decide) dL_refer_39 ?_
        refine lv_iadd hx hb dL_refer_40 ?_
        refine lv_iload_n hx hb dL_refer_41 rfl (lv_at hl 3 rfl) ?_
        have g_42 := hg_no h
        have h := hg_yes h
        refine va_iast (D := (dC, dI)) hx hb hK hP hD hS 0 0 rfl rfl g_42 dL_refer_42 (fun H locs hP hD hS => ?_)
        have hP : va_P (dC, dI) vwCl [(a_g, .inl (cI, 38, .inl (upd (upd ga ((14 : Int32) + (ga 1)).toNatClampNeg x1) ((26 : Int32) + ((upd ga ((14 : Int32) + (ga 1)).toNatClampNeg x1) 1)).toNatClampNeg x2)))] H := hP
        have hD : va_D (inA [a_g]) [(a_g, .inl (cI, 38, .inl (upd (upd ga ((14 : Int32) + (ga 1)).toNatClampNeg x1) ((26 : Int32) + ((upd ga ((14 : Int32) + (ga 1)).toNatClampNeg x1) 1)).toNatClampNeg x2)))] := hD
        refine lv_aload_n hx hb dL_refer_43 rfl (lv_at hl 1 rfl) ?_
        refine lv_iconst (v := 1) hx hb dL_refer_44 (by decide) ?_
        refine lv_dup2_11 hx hb dL_refer_45 rfl rfl ?_
        refine va_iald (D := (dC, dI)) hx hb hK hP 0 0 rfl rfl (by unfold vp_in; decide) dL_refer_46 ?_
        refine lv_iconst (v := 1) hx hb dL_refer_47 (by decide) ?_
        refine lv_iadd hx hb dL_refer_48 ?_
        refine va_iast (D := (dC, dI)) hx hb hK hP hD hS 0 0 rfl rfl (by unfold vp_in; decide) dL_refer_49 (fun H locs hP hD hS => ?_)
        have hP : va_P (dC, dI) vwCl [(a_g, .inl (cI, 38, .inl (upd (upd (upd ga ((14 : Int32) + (ga 1)).toNatClampNeg x1) ((26 : Int32) + ((upd ga ((14 : Int32) + (ga 1)).toNatClampNeg x1) 1)).toNatClampNeg x2) 1 (((upd (upd ga ((14 : Int32) + (ga 1)).toNatClampNeg x1) ((26 : Int32) + ((upd ga ((14 : Int32) + (ga 1)).toNatClampNeg x1) 1)).toNatClampNeg x2) 1) + (1 : Int32)))))] H := hP
        have hD : va_D (inA [a_g]) [(a_g, .inl (cI, 38, .inl (upd (upd (upd ga ((14 : Int32) + (ga 1)).toNatClampNeg x1) ((26 : Int32) + ((upd ga ((14 : Int32) + (ga 1)).toNatClampNeg x1) 1)).toNatClampNeg x2) 1 (((upd (upd ga ((14 : Int32) + (ga 1)).toNatClampNeg x1) ((26 : Int32) + ((upd ga ((14 : Int32) + (ga 1)).toNatClampNeg x1) 1)).toNatClampNeg x2) 1) + (1 : Int32)))))] := hD
        refine lv_iconst (v := 1) hx hb dL_refer_50 (by decide) ?_
        obtain ⟨rfl, rfl⟩ := pj2 (Option.some.inj h)
        exact W.zret hx hb hr (nb01 (Or.inr rfl)) (fun t ht _ => kQ.mk ht hP (Or.inr rfl) (hS.F ht)) hS.2.2 dL_refer_51
    · have h := hp_pos c_16 h
      refine lv_iconst (v := 0) hx hb dL_refer_19 (by decide) ?_
      obtain ⟨rfl, rfl⟩ := pj2 (Option.some.inj h)
      exact W.zret hx hb hr (nb01 (Or.inl rfl)) (fun t ht _ => kQ.mk ht hP (Or.inl rfl) (hS.F ht)) hS.2.2 dL_refer_20
theorem khd_L_hand : yL_hand.cls = RL ∧ yL_hand.cls ≠ "java/lang/invoke/MethodHandle" ∧ yL_hand.cls ≠ "java/lang/invoke/VarHandle" ∧ (parseMethodDescriptor yL_hand.desc).map (fun d => d.parameters.length) = some 3 := by decide +kernel
set_option maxHeartbeats 8000000 in
set_option maxRecDepth 100000 in
theorem c_L_hand (l : Launch) (dC : Nat → ClassId) (dI : Nat → Nat → Nat) (cI cS : ClassId) (a_g : Nat) {ga : Nat → Int32} {x1 : Int32} {x2 : Int32} {r : Int32} {z_ga : Nat → Int32} (h : f_L_hand ga x1 x2 = some (r, z_ga)) : Mk l yL_hand wsL_hand ({ frames := 1, cells := 0, slots := 0, locals := 23 } : Room) (dC, dI) cI cS [(a_g, .inl (cI, 38, .inl ga))] [.ref a_g, .int x1, .int x2] (some (.int r)) True (fun H => va_P (dC, dI) vwCl [(a_g, .inl (cI, 38, .inl z_ga))] H) (inA (List.map Prod.fst ([(a_g, .inl (cI, 38, .inl ga))] : va_W))) := by
  refine Met.ofW (cc := cL_hand) (maxL := 6) (ret := (some .int)) (by decide) rfl ?_
  intro p e s m args below meth c s₁ B hml hv
  obtain ⟨rfl, hP, hK, hN, hD⟩ := hv
  have hx := B.exec
  have hb := B.bytes
  have hr := B.returns
  have hts := atoms_spec (ws := wsL_hand) B.pre
  have hown : s.vm.findClass RL = some m.cls := findClass_of_methodNamed B.named
  have hlocks := B.notSynchronized
  have hS : va_S (inA [a_g]) s.heap s.heap [] := va_S.rf
  have hP : va_P (dC, dI) vwCl [(a_g, .inl (cI, 38, .inl ga))] s.heap := hP
  have hD : va_D (inA [a_g]) [(a_g, .inl (cI, 38, .inl ga))] := va_D_in hD rfl
  have hl := lv_entry ([.ref a_g, .int x1, .int x2]) (n := 6) (Nat.le_of_ble_eq_true rfl)
  rw [lg_entry_eq]
  generalize (lg_sl ([.ref a_g, .int x1, .int x2]) ++ List.replicate (6 - (lg_sl ([.ref a_g, .int x1, .int x2])).length) Slot.unset).toArray = ls at hl ⊢
  have hl : lv_has ls 6 [(0, .ref a_g), (1, .int x1), (2, .int x2)] := hl
  unfold f_L_hand at h
  refine lv_iconst (v := 0) hx hb dL_hand_0 (by decide) ?_
  refine lv_istore_n (lv' := [(3, .int (0 : Int32)), (0, .ref a_g), (1, .int x1), (2, .int x2)]) hx hb dL_hand_1 rfl hl (by decide) rfl (fun ls hl => ?_)
  refine lv_iconst (v := 0) hx hb dL_hand_2 (by decide) ?_
  refine lv_istore (lv' := [(4, .int (0 : Int32)), (3, .int (0 : Int32)), (0, .ref a_g), (1, .int x1), (2, .int x2)]) hx hb dL_hand_3 hl (by decide) rfl (fun ls hl => ?_)
  refine lv_iconst (v := 0) hx hb dL_hand_5 (by decide) ?_
  refine lv_istore (lv' := [(5, .int (0 : Int32)), (4, .int (0 : Int32)), (3, .int (0 : Int32)), (0, .ref a_g), (1, .int x1), (2, .int x2)]) hx hb dL_hand_6 hl (by decide) rfl (fun ls hl => ?_)
  obtain ⟨y3_8, y4_8, i_8, h⟩ := ob2_inv h
  have after_8 : ∀ (H : Heap) (locs : List Loc) (ls : Array Slot), va_P (dC, dI) vwCl [(a_g, .inl (cI, 38, .inl ga))] H → va_D (inA [a_g]) [(a_g, .inl (cI, 38, .inl ga))] → va_S (inA [a_g]) s.heap H locs → lv_has ls 6 [(0, .ref a_g), (1, .int x1), (2, .int x2), (3, .int y3_8), (4, .int y4_8)] → W p l e (headSpec wsL_hand ({ frames := 1, cells := 0, slots := 0, locals := 23 } : Room)).room s m ([.ref a_g, .int x1, .int x2] : List Value).toArray below meth c H locs 0 0 (MQ below (kQ (some (.int r)) True (fun H => va_P (dC, dI) vwCl [(a_g, .inl (cI, 38, .inl z_ga))] H) (inA (List.map Prod.fst ([(a_g, .inl (cI, 38, .inl ga))] : va_W)))) ([.ref a_g, .int x1, .int x2] : List Value).toArray s 0 0 (inA (List.map Prod.fst ([(a_g, .inl (cI, 38, .inl ga))] : va_W)))) (F0 m 43 ls []) := by
    intro H locs ls hP hD hS hl
    refine lv_aload_n hx hb dL_hand_43 rfl (lv_at hl 0 rfl) ?_
    refine lv_iload_n hx hb dL_hand_44 rfl (lv_at hl 2 rfl) ?_
    refine lv_iload_n hx hb dL_hand_45 rfl (lv_at hl 1 rfl) ?_
    obtain ⟨r_46, e_46, h⟩ := ob1_inv h
    refine k_pSi (rest := []) ⟨hx, hb, hml, hown, hts⟩ (c_L_under l dC dI cI cS a_g e_46) (va_cwS 3 hts gL_hand_L_under rfl rfl rfl khd_L_under.2 ⟨(Nat.le_of_ble_eq_true rfl), (Nat.le_of_ble_eq_true rfl)⟩) hK hN hP hD hS [0] rfl rfl rfl hl.1 rfl (Nat.le_of_ble_eq_true rfl) dL_hand_46 ⟨(Nat.le_of_ble_eq_true rfl), (Nat.le_of_ble_eq_true rfl)⟩ (fun H locs hf_46 hP hS => ?_)
    have hP : va_P (dC, dI) vwCl [(a_g, .inl (cI, 38, .inl ga))] H := hP
    refine lv_if_ne (tgt := 68) hx hb dL_hand_49 (by decide) (fun c_49 => ?_) (fun c_49 => ?_)
    · have h := hp_neg c_49 h
      refine lv_bipush (v := -9) hx hb dL_hand_68 (by decide) ?_
      obtain ⟨rfl, rfl⟩ := pj2 (Option.some.inj h)
      exact W.iret hx hb hr (fun t ht _ => kQ.mk ht hP trivial (hS.F ht)) hS.2.2 dL_hand_70
    · have h := hp_pos c_49 h
      refine lv_iload_n hx hb dL_hand_52 rfl (lv_at hl 3 rfl) ?_
      refine lv_iconst (v := 1) hx hb dL_hand_53 (by decide) ?_
      refine lv_icmp_ne (tgt := 68) hx hb dL_hand_54 (by decide) (fun c_54 => ?_) (fun c_54 => ?_)
      · have h := hp_neg c_54 h
        refine lv_bipush (v := -9) hx hb dL_hand_68 (by decide) ?_
        obtain ⟨rfl, rfl⟩ := pj2 (Option.some.inj h)
        exact W.iret hx hb hr (fun t ht _ => kQ.mk ht hP trivial (hS.F ht)) hS.2.2 dL_hand_70
      · have h := hp_pos c_54 h
        refine lv_aload_n hx hb dL_hand_57 rfl (lv_at hl 0 rfl) ?_
        refine lv_bipush (v := 14) hx hb dL_hand_58 (by decide) ?_
        refine lv_iload hx hb dL_hand_60 (lv_at hl 4 rfl) ?_
        refine lv_iadd hx hb dL_hand_62 ?_
        have g_63 := hg_no h
        have h := hg_yes h
        refine va_iald (D := (dC, dI)) hx hb hK hP 0 0 rfl rfl g_63 dL_hand_63 ?_
        refine lv_iload_n hx hb dL_hand_64 rfl (lv_at hl 2 rfl) ?_
        refine lv_icmp_ne (tgt := 71) hx hb dL_hand_65 (by decide) (fun c_65 => ?_) (fun c_65 => ?_)
        · have h := hp_neg c_65 h
          refine lv_aload_n hx hb dL_hand_71 rfl (lv_at hl 0 rfl) ?_
          refine lv_bipush (v := 14) hx hb dL_hand_72 (by decide) ?_
          refine lv_iload hx hb dL_hand_74 (lv_at hl 4 rfl) ?_
          refine lv_iadd hx hb dL_hand_76 ?_
          have g_77 := hg_no h
          have h := hg_yes h
          refine va_iald (D := (dC, dI)) hx hb hK hP 0 0 rfl rfl g_77 dL_hand_77 ?_
          refine lv_istore (lv' := [(5, .int (ga ((14 : Int32) + y4_8).toNatClampNeg)), (0, .ref a_g), (1, .int x1), (2, .int x2), (3, .int y3_8), (4, .int y4_8)]) hx hb dL_hand_78 hl (by decide) rfl (fun ls hl => ?_)
          refine lv_aload_n hx hb dL_hand_80 rfl (lv_at hl 1 rfl) ?_
          refine lv_bipush (v := 14) hx hb dL_hand_81 (by decide) ?_
          refine lv_iload hx hb dL_hand_83 (lv_at hl 5 rfl) ?_
          refine lv_iadd hx hb dL_hand_85 ?_
          refine lv_iload_n hx hb dL_hand_86 rfl (lv_at hl 3 rfl) ?_
          have g_87 := hg_no h
          have h := hg_yes h
          refine va_iast (D := (dC, dI)) hx hb hK hP hD hS 0 0 rfl rfl g_87 dL_hand_87 (fun H locs hP hD hS => ?_)
          have hP : va_P (dC, dI) vwCl [(a_g, .inl (cI, 38, .inl (upd ga ((14 : Int32) + y4_8).toNatClampNeg x2)))] H := hP
          have hD : va_D (inA [a_g]) [(a_g, .inl (cI, 38, .inl (upd ga ((14 : Int32) + y4_8).toNatClampNeg x2)))] := hD
          refine lv_aload_n hx hb dL_hand_88 rfl (lv_at hl 1 rfl) ?_
          refine lv_bipush (v := 8) hx hb dL_hand_89 (by decide) ?_
          refine lv_iload_n hx hb dL_hand_91 rfl (lv_at hl 2 rfl) ?_
          refine lv_iadd hx hb dL_hand_92 ?_
          refine lv_iload_n hx hb dL_hand_93 rfl (lv_at hl 3 rfl) ?_
          have g_94 := hg_no h
          have h := hg_yes h
          refine va_iast (D := (dC, dI)) hx hb hK hP hD hS 0 0 rfl rfl g_94 dL_hand_94 (fun H locs hP hD hS => ?_)
          have hP : va_P (dC, dI) vwCl [(a_g, .inl (cI, 38, .inl (upd (upd ga ((14 : Int32) + y4_8).toNatClampNeg x2) ((8 : Int32) + x1).toNatClampNeg x2)))] H := hP
          have hD : va_D (inA [a_g]) [(a_g, .inl (cI, 38, .inl (upd (upd ga ((14 : Int32) + y4_8).toNatClampNeg x2) ((8 : Int32) + x1).toNatClampNeg x2)))] := hD
          refine lv_iload hx hb dL_hand_95 (lv_at hl 0 rfl) ?_
          obtain ⟨rfl, rfl⟩ := pj2 (Option.some.inj h)
          exact W.iret hx hb hr (fun t ht _ => kQ.mk ht hP trivial (hS.F ht)) hS.2.2 dL_hand_97
        · have h := hp_pos c_65 h
          refine lv_bipush (v := -9) hx hb dL_hand_68 (by decide) ?_
          obtain ⟨rfl, rfl⟩ := pj2 (Option.some.inj h)
          exact W.iret hx hb hr (fun t ht _ => kQ.mk ht hP trivial (hS.F ht)) hS.2.2 dL_hand_70
  have lp_8 : ∀ (n : Nat) (x3_8 : Int32) (x4_8 : Int32) (x5_8 : Int32), it (u3 (L_L_hand_8 ga x1)) n (x3_8, x4_8, x5_8) = some (y3_8, y4_8) → ∀ (H : Heap) (locs : List Loc) (ls : Array Slot), va_P (dC, dI) vwCl [(a_g, .inl (cI, 38, .inl ga))] H → va_D (inA [a_g]) [(a_g, .inl (cI, 38, .inl ga))] → va_S (inA [a_g]) s.heap H locs → lv_has ls 6 [(0, .ref a_g), (1, .int x1), (2, .int x2), (3, .int x3_8), (4, .int x4_8), (5, .int x5_8)] → W p l e (headSpec wsL_hand ({ frames := 1, cells := 0, slots := 0, locals := 23 } : Room)).room s m ([.ref a_g, .int x1, .int x2] : List Value).toArray below meth c H locs 0 0 (MQ below (kQ (some (.int r)) True (fun H => va_P (dC, dI) vwCl [(a_g, .inl (cI, 38, .inl z_ga))] H) (inA (List.map Prod.fst ([(a_g, .inl (cI, 38, .inl ga))] : va_W)))) ([.ref a_g, .int x1, .int x2] : List Value).toArray s 0 0 (inA (List.map Prod.fst ([(a_g, .inl (cI, 38, .inl ga))] : va_W)))) (F0 m 8 ls []) := by
    intro n
    induction n with
    | zero => intro x3_8 x4_8 x5_8 h1 H locs ls hP hD hS hl; exact (it_0 h1).elim
    | succ n ih_8 =>
      intro x3_8 x4_8 x5_8 h1 H locs ls hP hD hS hl
      obtain ⟨t_8, h1, k1⟩ := it3_inv h1
      unfold L_L_hand_8 at h1
      refine lv_iload hx hb dL_hand_8 (lv_at hl 5 rfl) ?_
      refine lv_aload_n hx hb dL_hand_10 rfl (lv_at hl 0 rfl) ?_
      refine lv_iconst (v := 1) hx hb dL_hand_11 (by decide) ?_
      refine va_iald (D := (dC, dI)) hx hb hK hP 0 0 rfl rfl (by unfold vp_in; decide) dL_hand_12 ?_
      refine lv_icmp_ge (tgt := 43) hx hb dL_hand_13 (by decide) (fun c_13 => ?_) (fun c_13 => ?_)
      · have h1 := hp_pos c_13 h1
        cases h1
        obtain ⟨rfl, rfl⟩ := pj2 k1
        exact after_8 _ _ _ hP hD hS (lv_sub hl [0, 1, 2, 3, 4] rfl)
      · have h1 := hp_neg c_13 h1
        refine lv_aload_n hx hb dL_hand_16 rfl (lv_at hl 0 rfl) ?_
        refine lv_bipush (v := 26) hx hb dL_hand_17 (by decide) ?_
        refine lv_iload hx hb dL_hand_19 (lv_at hl 5 rfl) ?_
        refine lv_iadd hx hb dL_hand_21 ?_
        have g_22 := hg_no h1
        have h1 := hg_yes h1
        refine va_iald (D := (dC, dI)) hx hb hK hP 0 0 rfl rfl g_22 dL_hand_22 ?_
        refine lv_iload_n hx hb dL_hand_23 rfl (lv_at hl 1 rfl) ?_
        refine lv_icmp_eq (tgt := 30) hx hb dL_hand_24 (by decide) (fun c_24 => ?_) (fun c_24 => ?_)
        · have h1 := hp_pos c_24 h1
          refine lv_iinc (v := (x3_8 + (1 : Int32))) (lv' := [(3, .int (x3_8 + (1 : Int32))), (0, .ref a_g), (1, .int x1), (2, .int x2), (4, .int x4_8), (5, .int x5_8)]) hx hb dL_hand_30 hl (k := 3) rfl rfl (by decide) rfl (fun ls hl => ?_)
          refine lv_iload hx hb dL_hand_33 (lv_at hl 5 rfl) ?_
          refine lv_istore (lv' := [(4, .int x5_8), (3, .int (x3_8 + (1 : Int32))), (0, .ref a_g), (1, .int x1), (2, .int x2), (5, .int x5_8)]) hx hb dL_hand_35 hl (by decide) rfl (fun ls hl => ?_)
          refine lv_iinc (v := (x5_8 + (1 : Int32))) (lv' := [(5, .int (x5_8 + (1 : Int32))), (4, .int x5_8), (3, .int (x3_8 + (1 : Int32))), (0, .ref a_g), (1, .int x1), (2, .int x2)]) hx hb dL_hand_37 hl (k := 5) rfl rfl (by decide) rfl (fun ls hl => ?_)
          refine lv_goto (tgt := 8) hx hb dL_hand_40 (by decide) ?_
          cases h1
          exact ih_8 _ _ _ k1 _ _ _ hP hD hS (lv_sub hl [3, 4, 5, 2, 1, 0] rfl)
        · have h1 := hp_neg c_24 h1
          refine lv_goto (tgt := 37) hx hb dL_hand_27 (by decide) ?_
          refine lv_iinc (v := (x5_8 + (1 : Int32))) (lv' := [(5, .int (x5_8 + (1 : Int32))), (0, .ref a_g), (1, .int x1), (2, .int x2), (3, .int x3_8), (4, .int x4_8)]) hx hb dL_hand_37 hl (k := 5) rfl rfl (by decide) rfl (fun ls hl => ?_)
          refine lv_goto (tgt := 8) hx hb dL_hand_40 (by decide) ?_
          cases h1
          exact ih_8 _ _ _ k1 _ _ _ hP hD hS (lv_sub hl [1, 2, 3, 4, 5, 0] rfl)
  exact lp_8 FUEL _ _ _ i_8 _ _ _ hP hD hS (lv_sub hl [3, 4, 5, 2, 1, 0] rfl)
theorem khd_L_can : yL_can.cls = RL ∧ yL_can.cls ≠ "java/lang/invoke/MethodHandle" ∧ yL_can.cls ≠ "java/lang/invoke/VarHandle" ∧ (parseMethodDescriptor yL_can.desc).map (fun d => d.parameters.length) = some 4 := by decide +kernel
set_option maxHeartbeats 8000000 in
set_option maxRecDepth 100000 in
theorem c_L_can (l : Launch) (dC : Nat → ClassId) (dI : Nat → Nat → Nat) (cI cS : ClassId) (a_g : Nat) {ga : Nat → Int32} {x1 : Int32} {x2 : Int32} {x3 : Int32} {r : Int32} (h : f_L_can ga x1 x2 x3 = some r) : Mk l yL_can wsL_can ({ frames := 1, cells := 0, slots := 0, locals := 23 } : Room) (dC, dI) cI cS [(a_g, .inl (cI, 38, .inl ga))] [.ref a_g, .int x1, .int x2, .int x3] (some (.int r)) (r = 0 ∨ r = 1) (fun _ => True) noA := by
  refine Met.ofW (cc := cL_can) (maxL := 8) (ret := (some .boolean)) (by decide) rfl ?_
  intro p e s m args below meth c s₁ B hml hv
  obtain ⟨rfl, hP, hK, hN, hD⟩ := hv
  have hx := B.exec
  have hb := B.bytes
  have hr := B.returns
  have hts := atoms_spec (ws := wsL_can) B.pre
  have hown : s.vm.findClass RL = some m.cls := findClass_of_methodNamed B.named
  have hlocks := B.notSynchronized
  have hS : va_S noA s.heap s.heap [] := va_S.rf
  have hP : va_P (dC, dI) vwCl [(a_g, .inl (cI, 38, .inl ga))] s.heap := hP
  have hD : va_D (fun _ => True) [(a_g, .inl (cI, 38, .inl ga))] := hD
  have hl := lv_entry ([.ref a_g, .int x1, .int x2, .int x3]) (n := 8) (Nat.le_of_ble_eq_true rfl)
  rw [lg_entry_eq]
  generalize (lg_sl ([.ref a_g, .int x1, .int x2, .int x3]) ++ List.replicate (8 - (lg_sl ([.ref a_g, .int x1, .int x2, .int x3])).length) Slot.unset).toArray = ls at hl ⊢
  have hl : lv_has ls 8 [(0, .ref a_g), (1, .int x1), (2, .int x2), (3, .int x3)] := hl
  unfold f_L_can at h
  refine lv_aload_n hx hb dL_can_0 rfl (lv_at hl 0 rfl) ?_
  refine lv_iconst (v := 0) hx hb dL_can_1 (by decide) ?_
  refine va_iald (D := (dC, dI)) hx hb hK hP 0 0 rfl rfl (by unfold vp_in; decide) dL_can_2 ?_
  refine lv_istore (lv' := [(4, .int (ga 0)), (0, .ref a_g), (1, .int x1), (2, .int x2), (3, .int x3)]) hx hb dL_can_3 hl (by decide) rfl (fun ls hl => ?_)
  refine lv_iload_n hx hb dL_can_5 rfl (lv_at hl 3 rfl) ?_
  refine lv_iload_n hx hb dL_can_6 rfl (lv_at hl 4 rfl) ?_
  refine lv_icmp_eq (tgt := 72) hx hb dL_can_7 (by decide) (fun c_7 => ?_) (fun c_7 => ?_)
  · have h := hp_pos c_7 h
    refine lv_iconst (v := 0) hx hb dL_can_72 (by decide) ?_
    obtain rfl := Option.some.inj h
    exact W.zret hx hb hr (nb01 (Or.inl rfl)) (fun t ht _ => kQ.mk ht trivial (Or.inl rfl) (hS.F ht)) hS.2.2 dL_can_73
  · have h := hp_neg c_7 h
    refine lv_iload_n hx hb dL_can_10 rfl (lv_at hl 3 rfl) ?_
    refine lv_if_lt (tgt := 72) hx hb dL_can_11 (by decide) (fun c_11 => ?_) (fun c_11 => ?_)
    · have h := hp_pos c_11 h
      refine lv_iconst (v := 0) hx hb dL_can_72 (by decide) ?_
      obtain rfl := Option.some.inj h
      exact W.zret hx hb hr (nb01 (Or.inl rfl)) (fun t ht _ => kQ.mk ht trivial (Or.inl rfl) (hS.F ht)) hS.2.2 dL_can_73
    · have h := hp_neg c_11 h
      refine lv_iload_n hx hb dL_can_14 rfl (lv_at hl 4 rfl) ?_
      refine lv_if_lt (tgt := 72) hx hb dL_can_15 (by decide) (fun c_15 => ?_) (fun c_15 => ?_)
      · have h := hp_pos c_15 h
        refine lv_iconst (v := 0) hx hb dL_can_72 (by decide) ?_
        obtain rfl := Option.some.inj h
        exact W.zret hx hb hr (nb01 (Or.inl rfl)) (fun t ht _ => kQ.mk ht trivial (Or.inl rfl) (hS.F ht)) hS.2.2 dL_can_73
      · have h := hp_neg c_15 h
        refine lv_iload_n hx hb dL_can_18 rfl (lv_at hl 2 rfl) ?_
        obtain ⟨o_28, K_28, i_28, hk_28, h⟩ := os0_inv h
        have after_28 : K_28 → ∀ (H : Heap) (locs : List Loc) (ls : Array Slot), va_P (dC, dI) vwCl [(a_g, .inl (cI, 38, .inl ga))] H → va_D (fun _ => True) [(a_g, .inl (cI, 38, .inl ga))] → va_S noA s.heap H locs → lv_has ls 8 [(0, .ref a_g), (1, .int x1), (2, .int x2), (3, .int x3), (4, .int (ga 0))] → W p l e (headSpec wsL_can ({ frames := 1, cells := 0, slots := 0, locals := 23 } : Room)).room s m ([.ref a_g, .int x1, .int x2, .int x3] : List Value).toArray below meth c H locs 0 0 (MQ below (kQ (some (.int r)) (r = 0 ∨ r = 1) (fun _ => True) noA) ([.ref a_g, .int x1, .int x2, .int x3] : List Value).toArray s 0 0 noA) (F0 m 28 ls []) := by
          intro  ha H locs ls hP hD hS hl
          have h := hk_28  ha
          refine lv_iload_n hx hb dL_can_28 rfl (lv_at hl 1 rfl) ?_
          obtain ⟨o_44, K_44, i_44, hk_44, h⟩ := os0_inv h
          have after_44 : K_44 → ∀ (H : Heap) (locs : List Loc) (ls : Array Slot), va_P (dC, dI) vwCl [(a_g, .inl (cI, 38, .inl ga))] H → va_D (fun _ => True) [(a_g, .inl (cI, 38, .inl ga))] → va_S noA s.heap H locs → lv_has ls 8 [(0, .ref a_g), (1, .int x1), (2, .int x2), (3, .int x3), (4, .int (ga 0))] → W p l e (headSpec wsL_can ({ frames := 1, cells := 0, slots := 0, locals := 23 } : Room)).room s m ([.ref a_g, .int x1, .int x2, .int x3] : List Value).toArray below meth c H locs 0 0 (MQ below (kQ (some (.int r)) (r = 0 ∨ r = 1) (fun _ => True) noA) ([.ref a_g, .int x1, .int x2, .int x3] : List Value).toArray s 0 0 noA) (F0 m 44 ls []) := by
            intro  ha H locs ls hP hD hS hl
            have h := hk_44  ha
            refine lv_iload_n hx hb dL_can_44 rfl (lv_at hl 1 rfl) ?_
            refine lv_iconst (v := 1) hx hb dL_can_45 (by decide) ?_
            obtain ⟨o_55, K_55, i_55, hk_55, h⟩ := os0_inv h
            have after_55 : K_55 → ∀ (H : Heap) (locs : List Loc) (ls : Array Slot), va_P (dC, dI) vwCl [(a_g, .inl (cI, 38, .inl ga))] H → va_D (fun _ => True) [(a_g, .inl (cI, 38, .inl ga))] → va_S noA s.heap H locs → lv_has ls 8 [(0, .ref a_g), (1, .int x1), (2, .int x2), (3, .int x3), (4, .int (ga 0))] → W p l e (headSpec wsL_can ({ frames := 1, cells := 0, slots := 0, locals := 23 } : Room)).room s m ([.ref a_g, .int x1, .int x2, .int x3] : List Value).toArray below meth c H locs 0 0 (MQ below (kQ (some (.int r)) (r = 0 ∨ r = 1) (fun _ => True) noA) ([.ref a_g, .int x1, .int x2, .int x3] : List Value).toArray s 0 0 noA) (F0 m 55 ls []) := by
              intro  ha H locs ls hP hD hS hl
              have h := hk_55  ha
              refine lv_iload_n hx hb dL_can_55 rfl (lv_at hl 1 rfl) ?_
              refine lv_iconst (v := 1) hx hb dL_can_56 (by decide) ?_
              obtain ⟨o_74, K_74, i_74, hk_74, h⟩ := os0_inv h
              have after_74 : K_74 → ∀ (H : Heap) (locs : List Loc) (ls : Array Slot), va_P (dC, dI) vwCl [(a_g, .inl (cI, 38, .inl ga))] H → va_D (fun _ => True) [(a_g, .inl (cI, 38, .inl ga))] → va_S noA s.heap H locs → lv_has ls 8 [(0, .ref a_g), (1, .int x1), (2, .int x2), (3, .int x3)] → W p l e (headSpec wsL_can ({ frames := 1, cells := 0, slots := 0, locals := 23 } : Room)).room s m ([.ref a_g, .int x1, .int x2, .int x3] : List Value).toArray below meth c H locs 0 0 (MQ below (kQ (some (.int r)) (r = 0 ∨ r = 1) (fun _ => True) noA) ([.ref a_g, .int x1, .int x2, .int x3] : List Value).toArray s 0 0 noA) (F0 m 74 ls []) := by
                intro  ha H locs ls hP hD hS hl
                have h := hk_74  ha
                refine lv_iload_n hx hb dL_can_74 rfl (lv_at hl 1 rfl) ?_
                refine lv_if_ne (tgt := 101) hx hb dL_can_75 (by decide) (fun c_75 => ?_) (fun c_75 => ?_)
                · have h := hp_neg c_75 h
                  refine lv_iload_n hx hb dL_can_101 rfl (lv_at hl 1 rfl) ?_
                  refine lv_iconst (v := 1) hx hb dL_can_102 (by decide) ?_
                  refine lv_icmp_ne (tgt := 127) hx hb dL_can_103 (by decide) (fun c_103 => ?_) (fun c_103 => ?_)
                  · have h := hp_neg c_103 h
                    refine lv_iconst (v := 0) hx hb dL_can_127 (by decide) ?_
                    refine lv_istore (lv' := [(5, .int (0 : Int32)), (0, .ref a_g), (1, .int x1), (2, .int x2), (3, .int x3)]) hx hb dL_can_128 hl (by decide) rfl (fun ls hl => ?_)
                    refine lv_iconst (v := 0) hx hb dL_can_130 (by decide) ?_
                    refine lv_istore (lv' := [(6, .int (0 : Int32)), (5, .int (0 : Int32)), (0, .ref a_g), (1, .int x1), (2, .int x2), (3, .int x3)]) hx hb dL_can_131 hl (by decide) rfl (fun ls hl => ?_)
                    refine lv_iconst (v := 0) hx hb dL_can_133 (by decide) ?_
                    refine lv_istore (lv' := [(7, .int (0 : Int32)), (6, .int (0 : Int32)), (5, .int (0 : Int32)), (0, .ref a_g), (1, .int x1), (2, .int x2), (3, .int x3)]) hx hb dL_can_134 hl (by decide) rfl (fun ls hl => ?_)
                    obtain ⟨y5_136, y6_136, i_136, h⟩ := ob2_inv h
                    have after_136 : ∀ (H : Heap) (locs : List Loc) (ls : Array Slot), va_P (dC, dI) vwCl [(a_g, .inl (cI, 38, .inl ga))] H → va_D (fun _ => True) [(a_g, .inl (cI, 38, .inl ga))] → va_S noA s.heap H locs → lv_has ls 8 [(0, .ref a_g), (2, .int x2), (3, .int x3), (5, .int y5_136), (6, .int y6_136)] → W p l e (headSpec wsL_can ({ frames := 1, cells := 0, slots := 0, locals := 23 } : Room)).room s m ([.ref a_g, .int x1, .int x2, .int x3] : List Value).toArray below meth c H locs 0 0 (MQ below (kQ (some (.int r)) (r = 0 ∨ r = 1) (fun _ => True) noA) ([.ref a_g, .int x1, .int x2, .int x3] : List Value).toArray s 0 0 noA) (F0 m 176 ls []) := by
                      intro H locs ls hP hD hS hl
                      refine lv_aload_n hx hb dL_can_176 rfl (lv_at hl 0 rfl) ?_
                      refine lv_iload_n hx hb dL_can_177 rfl (lv_at hl 2 rfl) ?_
                      refine lv_iload_n hx hb dL_can_178 rfl (lv_at hl 1 rfl) ?_
                      obtain ⟨r_179, e_179, h⟩ := ob1_inv h
                      refine k_pSi (rest := []) ⟨hx, hb, hml, hown, hts⟩ (c_L_under l dC dI cI cS a_g e_179) (va_cwS 3 hts gL_can_L_under rfl rfl rfl khd_L_under.2 ⟨(Nat.le_of_ble_eq_true rfl), (Nat.le_of_ble_eq_true rfl)⟩) hK hN hP hD hS [0] rfl rfl rfl hl.1 rfl (Nat.le_of_ble_eq_true rfl) dL_can_179 ⟨(Nat.le_of_ble_eq_true rfl), (Nat.le_of_ble_eq_true rfl)⟩ (fun H locs hf_179 hP hS => ?_)
                      have hP : va_P (dC, dI) vwCl [(a_g, .inl (cI, 38, .inl ga))] H := hP
                      refine lv_if_ne (tgt := 201) hx hb dL_can_182 (by decide) (fun c_182 => ?_) (fun c_182 => ?_)
                      · have h := hp_neg c_182 h
                        refine lv_iconst (v := 0) hx hb dL_can_201 (by decide) ?_
                        obtain rfl := Option.some.inj h
                        exact W.zret hx hb hr (nb01 (Or.inl rfl)) (fun t ht _ => kQ.mk ht trivial (Or.inl rfl) (hS.F ht)) hS.2.2 dL_can_202
                      · have h := hp_pos c_182 h
                        refine lv_iload hx hb dL_can_185 (lv_at hl 3 rfl) ?_
                        refine lv_iconst (v := 1) hx hb dL_can_187 (by decide) ?_
                        refine lv_icmp_ne (tgt := 201) hx hb dL_can_188 (by decide) (fun c_188 => ?_) (fun c_188 => ?_)
                        · have h := hp_neg c_188 h
                          refine lv_iconst (v := 0) hx hb dL_can_201 (by decide) ?_
                          obtain rfl := Option.some.inj h
                          exact W.zret hx hb hr (nb01 (Or.inl rfl)) (fun t ht _ => kQ.mk ht trivial (Or.inl rfl) (hS.F ht)) hS.2.2 dL_can_202
                        · have h := hp_pos c_188 h
                          refine lv_iload hx hb dL_can_191 (lv_at hl 4 rfl) ?_
                          refine lv_iload_n hx hb dL_can_193 rfl (lv_at hl 2 rfl) ?_
                          refine lv_icmp_eq (tgt := 201) hx hb dL_can_194 (by decide) (fun c_194 => ?_) (fun c_194 => ?_)
                          · have h := hp_pos c_194 h
                            refine lv_iconst (v := 0) hx hb dL_can_201 (by decide) ?_
                            obtain rfl := Option.some.inj h
                            exact W.zret hx hb hr (nb01 (Or.inl rfl)) (fun t ht _ => kQ.mk ht trivial (Or.inl rfl) (hS.F ht)) hS.2.2 dL_can_202
                          · have h := hp_neg c_194 h
                            refine lv_iconst (v := 1) hx hb dL_can_197 (by decide) ?_
                            refine lv_goto (tgt := 202) hx hb dL_can_198 (by decide) ?_
                            obtain rfl := Option.some.inj h
                            exact W.zret hx hb hr (nb01 (Or.inr rfl)) (fun t ht _ => kQ.mk ht trivial (Or.inr rfl) (hS.F ht)) hS.2.2 dL_can_202
                    have lp_136 : ∀ (n : Nat) (x5_136 : Int32) (x6_136 : Int32) (x7_136 : Int32), it (u3 (L_L_can_136 ga x2)) n (x5_136, x6_136, x7_136) = some (y5_136, y6_136) → ∀ (H : Heap) (locs : List Loc) (ls : Array Slot), va_P (dC, dI) vwCl [(a_g, .inl (cI, 38, .inl ga))] H → va_D (fun _ => True) [(a_g, .inl (cI, 38, .inl ga))] → va_S noA s.heap H locs → lv_has ls 8 [(0, .ref a_g), (2, .int x2), (3, .int x3), (5, .int x5_136), (6, .int x6_136), (7, .int x7_136)] → W p l e (headSpec wsL_can ({ frames := 1, cells := 0, slots := 0, locals := 23 } : Room)).room s m ([.ref a_g, .int x1, .int x2, .int x3] : List Value).toArray below meth c H locs 0 0 (MQ below (kQ (some (.int r)) (r = 0 ∨ r = 1) (fun _ => True) noA) ([.ref a_g, .int x1, .int x2, .int x3] : List Value).toArray s 0 0 noA) (F0 m 136 ls []) := by
                      intro n
                      induction n with
                      | zero => intro x5_136 x6_136 x7_136 h1 H locs ls hP hD hS hl; exact (it_0 h1).elim
                      | succ n ih_136 =>
                        intro x5_136 x6_136 x7_136 h1 H locs ls hP hD hS hl
                        obtain ⟨t_136, h1, k1⟩ := it3_inv h1
                        unfold L_L_can_136 at h1
                        refine lv_iload hx hb dL_can_136 (lv_at hl 5 rfl) ?_
                        refine lv_aload_n hx hb dL_can_138 rfl (lv_at hl 0 rfl) ?_
                        refine lv_iconst (v := 1) hx hb dL_can_139 (by decide) ?_
                        refine va_iald (D := (dC, dI)) hx hb hK hP 0 0 rfl rfl (by unfold vp_in; decide) dL_can_140 ?_
                        refine lv_icmp_ge (tgt := 176) hx hb dL_can_141 (by decide) (fun c_141 => ?_) (fun c_141 => ?_)
                        · have h1 := hp_pos c_141 h1
                          cases h1
                          obtain ⟨rfl, rfl⟩ := pj2 k1
                          exact after_136 _ _ _ hP hD hS (lv_sub hl [0, 1, 2, 3, 4] rfl)
                        · have h1 := hp_neg c_141 h1
                          refine lv_aload_n hx hb dL_can_144 rfl (lv_at hl 0 rfl) ?_
                          refine lv_bipush (v := 26) hx hb dL_can_145 (by decide) ?_
                          refine lv_iload hx hb dL_can_147 (lv_at hl 5 rfl) ?_
                          refine lv_iadd hx hb dL_can_149 ?_
                          have g_150 := hg_no h1
                          have h1 := hg_yes h1
                          refine va_iald (D := (dC, dI)) hx hb hK hP 0 0 rfl rfl g_150 dL_can_150 ?_
                          refine lv_iload_n hx hb dL_can_151 rfl (lv_at hl 1 rfl) ?_
                          refine lv_icmp_eq (tgt := 158) hx hb dL_can_152 (by decide) (fun c_152 => ?_) (fun c_152 => ?_)
                          · have h1 := hp_pos c_152 h1
                            refine lv_iinc (v := (x5_136 + (1 : Int32))) (lv' := [(5, .int (x5_136 + (1 : Int32))), (0, .ref a_g), (2, .int x2), (3, .int x3), (6, .int x6_136), (7, .int x7_136)]) hx hb dL_can_158 hl (k := 3) rfl rfl (by decide) rfl (fun ls hl => ?_)
                            refine lv_aload_n hx hb dL_can_161 rfl (lv_at hl 1 rfl) ?_
                            refine lv_bipush (v := 14) hx hb dL_can_162 (by decide) ?_
                            refine lv_iload hx hb dL_can_164 (lv_at hl 5 rfl) ?_
                            refine lv_iadd hx hb dL_can_166 ?_
                            have g_167 := hg_no h1
                            have h1 := hg_yes h1
                            refine va_iald (D := (dC, dI)) hx hb hK hP 0 0 rfl rfl g_167 dL_can_167 ?_
                            refine lv_istore (lv' := [(6, .int (ga ((14 : Int32) + x7_136).toNatClampNeg)), (5, .int (x5_136 + (1 : Int32))), (0, .ref a_g), (2, .int x2), (3, .int x3), (7, .int x7_136)]) hx hb dL_can_168 hl (by decide) rfl (fun ls hl => ?_)
                            refine lv_iinc (v := (x7_136 + (1 : Int32))) (lv' := [(7, .int (x7_136 + (1 : Int32))), (6, .int (ga ((14 : Int32) + x7_136).toNatClampNeg)), (5, .int (x5_136 + (1 : Int32))), (0, .ref a_g), (2, .int x2), (3, .int x3)]) hx hb dL_can_170 hl (k := 5) rfl rfl (by decide) rfl (fun ls hl => ?_)
                            refine lv_goto (tgt := 136) hx hb dL_can_173 (by decide) ?_
                            cases h1
                            exact ih_136 _ _ _ k1 _ _ _ hP hD hS (lv_sub hl [3, 4, 5, 2, 1, 0] rfl)
                          · have h1 := hp_neg c_152 h1
                            refine lv_goto (tgt := 170) hx hb dL_can_155 (by decide) ?_
                            refine lv_iinc (v := (x7_136 + (1 : Int32))) (lv' := [(7, .int (x7_136 + (1 : Int32))), (0, .ref a_g), (2, .int x2), (3, .int x3), (5, .int x5_136), (6, .int x6_136)]) hx hb dL_can_170 hl (k := 5) rfl rfl (by decide) rfl (fun ls hl => ?_)
                            refine lv_goto (tgt := 136) hx hb dL_can_173 (by decide) ?_
                            cases h1
                            exact ih_136 _ _ _ k1 _ _ _ hP hD hS (lv_sub hl [1, 2, 3, 4, 5, 0] rfl)
                    exact lp_136 FUEL _ _ _ i_136 _ _ _ hP hD hS (lv_sub hl [3, 5, 6, 2, 1, 0] rfl)
                  · have h := hp_pos c_103 h
                    refine lv_iload_n hx hb dL_can_106 rfl (lv_at hl 3 rfl) ?_
                    refine lv_bipush (v := 6) hx hb dL_can_107 (by decide) ?_
                    refine lv_icmp_eq (tgt := 121) hx hb dL_can_109 (by decide) (fun c_109 => ?_) (fun c_109 => ?_)
                    · have h := hp_pos c_109 h
                      refine lv_iconst (v := 1) hx hb dL_can_121 (by decide) ?_
                      refine lv_goto (tgt := 126) hx hb dL_can_122 (by decide) ?_
                      obtain rfl := Option.some.inj h
                      exact W.zret hx hb hr (nb01 (Or.inr rfl)) (fun t ht _ => kQ.mk ht trivial (Or.inr rfl) (hS.F ht)) hS.2.2 dL_can_126
                    · have h := hp_neg c_109 h
                      refine lv_aload_n hx hb dL_can_112 rfl (lv_at hl 0 rfl) ?_
                      refine lv_iload_n hx hb dL_can_113 rfl (lv_at hl 3 rfl) ?_
                      refine lv_iload_n hx hb dL_can_114 rfl (lv_at hl 2 rfl) ?_
                      obtain ⟨r_115, e_115, h⟩ := ob1_inv h
                      refine k_pSi (rest := []) ⟨hx, hb, hml, hown, hts⟩ (c_L_under l dC dI cI cS a_g e_115) (va_cwS 3 hts gL_can_L_under rfl rfl rfl khd_L_under.2 ⟨(Nat.le_of_ble_eq_true rfl), (Nat.le_of_ble_eq_true rfl)⟩) hK hN hP hD hS [0] rfl rfl rfl hl.1 rfl (Nat.le_of_ble_eq_true rfl) dL_can_115 ⟨(Nat.le_of_ble_eq_true rfl), (Nat.le_of_ble_eq_true rfl)⟩ (fun H locs hf_115 hP hS => ?_)
                      have hP : va_P (dC, dI) vwCl [(a_g, .inl (cI, 38, .inl ga))] H := hP
                      refine lv_if_ne (tgt := 125) hx hb dL_can_118 (by decide) (fun c_118 => ?_) (fun c_118 => ?_)
                      · have h := hp_neg c_118 h
                        refine lv_iconst (v := 0) hx hb dL_can_125 (by decide) ?_
                        obtain rfl := Option.some.inj h
                        exact W.zret hx hb hr (nb01 (Or.inl rfl)) (fun t ht _ => kQ.mk ht trivial (Or.inl rfl) (hS.F ht)) hS.2.2 dL_can_126
                      · have h := hp_pos c_118 h
                        refine lv_iconst (v := 1) hx hb dL_can_121 (by decide) ?_
                        refine lv_goto (tgt := 126) hx hb dL_can_122 (by decide) ?_
                        obtain rfl := Option.some.inj h
                        exact W.zret hx hb hr (nb01 (Or.inr rfl)) (fun t ht _ => kQ.mk ht trivial (Or.inr rfl) (hS.F ht)) hS.2.2 dL_can_126
                · have h := hp_pos c_75 h
                  refine lv_aload_n hx hb dL_can_78 rfl (lv_at hl 0 rfl) ?_
                  refine lv_iconst (v := 1) hx hb dL_can_79 (by decide) ?_
                  refine va_iald (D := (dC, dI)) hx hb hK hP 0 0 rfl rfl (by unfold vp_in; decide) dL_can_80 ?_
                  refine lv_bipush (v := 12) hx hb dL_can_81 (by decide) ?_
                  refine lv_icmp_lt (tgt := 95) hx hb dL_can_83 (by decide) (fun c_83 => ?_) (fun c_83 => ?_)
                  · have h := hp_pos c_83 h
                    refine lv_iconst (v := 1) hx hb dL_can_95 (by decide) ?_
                    refine lv_goto (tgt := 100) hx hb dL_can_96 (by decide) ?_
                    obtain rfl := Option.some.inj h
                    exact W.zret hx hb hr (nb01 (Or.inr rfl)) (fun t ht _ => kQ.mk ht trivial (Or.inr rfl) (hS.F ht)) hS.2.2 dL_can_100
                  · have h := hp_neg c_83 h
                    refine lv_aload_n hx hb dL_can_86 rfl (lv_at hl 0 rfl) ?_
                    refine lv_iload_n hx hb dL_can_87 rfl (lv_at hl 2 rfl) ?_
                    refine lv_iload_n hx hb dL_can_88 rfl (lv_at hl 3 rfl) ?_
                    obtain ⟨r_89, e_89, h⟩ := ob1_inv h
                    refine k_pSi (rest := []) ⟨hx, hb, hml, hown, hts⟩ (c_L_place l dC dI cI cS a_g e_89) (va_cwS 3 hts gL_can_L_place rfl rfl rfl khd_L_place.2 ⟨(Nat.le_of_ble_eq_true rfl), (Nat.le_of_ble_eq_true rfl)⟩) hK hN hP hD hS [0] rfl rfl rfl hl.1 rfl (Nat.le_of_ble_eq_true rfl) dL_can_89 ⟨(Nat.le_of_ble_eq_true rfl), (Nat.le_of_ble_eq_true rfl)⟩ (fun H locs hf_89 hP hS => ?_)
                    have hP : va_P (dC, dI) vwCl [(a_g, .inl (cI, 38, .inl ga))] H := hP
                    refine lv_if_lt (tgt := 99) hx hb dL_can_92 (by decide) (fun c_92 => ?_) (fun c_92 => ?_)
                    · have h := hp_pos c_92 h
                      refine lv_iconst (v := 0) hx hb dL_can_99 (by decide) ?_
                      obtain rfl := Option.some.inj h
                      exact W.zret hx hb hr (nb01 (Or.inl rfl)) (fun t ht _ => kQ.mk ht trivial (Or.inl rfl) (hS.F ht)) hS.2.2 dL_can_100
                    · have h := hp_neg c_92 h
                      refine lv_iconst (v := 1) hx hb dL_can_95 (by decide) ?_
                      refine lv_goto (tgt := 100) hx hb dL_can_96 (by decide) ?_
                      obtain rfl := Option.some.inj h
                      exact W.zret hx hb hr (nb01 (Or.inr rfl)) (fun t ht _ => kQ.mk ht trivial (Or.inr rfl) (hS.F ht)) hS.2.2 dL_can_100
              have h1 := i_74
              refine lv_icmp_ne (tgt := 74) hx hb dL_can_57 (by decide) (fun c_57 => ?_) (fun c_57 => ?_)
              · have h1 := hp_neg c_57 h1
                obtain rfl := Option.some.inj h1
                exact after_74  h _ _ _ hP hD hS (lv_sub hl [0, 1, 2, 3] rfl)
              · have h1 := hp_pos c_57 h1
                refine lv_iload_n hx hb dL_can_60 rfl (lv_at hl 3 rfl) ?_
                refine lv_iload hx hb dL_can_61 (lv_at hl 4 rfl) ?_
                refine lv_icmp_lt (tgt := 74) hx hb dL_can_63 (by decide) (fun c_63 => ?_) (fun c_63 => ?_)
                · have h1 := hp_pos c_63 h1
                  obtain rfl := Option.some.inj h1
                  exact after_74  h _ _ _ hP hD hS (lv_sub hl [0, 1, 2, 3] rfl)
                · have h1 := hp_neg c_63 h1
                  refine lv_iload_n hx hb dL_can_66 rfl (lv_at hl 3 rfl) ?_
                  refine lv_bipush (v := 6) hx hb dL_can_67 (by decide) ?_
                  refine lv_icmp_eq (tgt := 74) hx hb dL_can_69 (by decide) (fun c_69 => ?_) (fun c_69 => ?_)
                  · have h1 := hp_pos c_69 h1
                    obtain rfl := Option.some.inj h1
                    exact after_74  h _ _ _ hP hD hS (lv_sub hl [0, 1, 2, 3] rfl)
                  · have h1 := hp_neg c_69 h1
                    refine lv_iconst (v := 0) hx hb dL_can_72 (by decide) ?_
                    obtain rfl := Option.some.inj h1
                    have h := congrArg some h
                    obtain rfl := Option.some.inj h
                    exact W.zret hx hb hr (nb01 (Or.inl rfl)) (fun t ht _ => kQ.mk ht trivial (Or.inl rfl) (hS.F ht)) hS.2.2 dL_can_73
            have h1 := i_55
            refine lv_icmp_eq (tgt := 55) hx hb dL_can_46 (by decide) (fun c_46 => ?_) (fun c_46 => ?_)
            · have h1 := hp_pos c_46 h1
              obtain rfl := Option.some.inj h1
              exact after_55  h _ _ _ hP hD hS (lv_sub hl [0, 1, 2, 3, 4] rfl)
            · have h1 := hp_neg c_46 h1
              refine lv_iload_n hx hb dL_can_49 rfl (lv_at hl 3 rfl) ?_
              refine lv_iload hx hb dL_can_50 (lv_at hl 4 rfl) ?_
              refine lv_icmp_ge (tgt := 72) hx hb dL_can_52 (by decide) (fun c_52 => ?_) (fun c_52 => ?_)
              · have h1 := hp_pos c_52 h1
                refine lv_iconst (v := 0) hx hb dL_can_72 (by decide) ?_
                obtain rfl := Option.some.inj h1
                have h := congrArg some h
                obtain rfl := Option.some.inj h
                exact W.zret hx hb hr (nb01 (Or.inl rfl)) (fun t ht _ => kQ.mk ht trivial (Or.inl rfl) (hS.F ht)) hS.2.2 dL_can_73
              · have h1 := hp_neg c_52 h1
                obtain rfl := Option.some.inj h1
                exact after_55  h _ _ _ hP hD hS (lv_sub hl [0, 1, 2, 3, 4] rfl)
          have h1 := i_44
          refine lv_if_ne (tgt := 44) hx hb dL_can_29 (by decide) (fun c_29 => ?_) (fun c_29 => ?_)
          · have h1 := hp_neg c_29 h1
            obtain rfl := Option.some.inj h1
            exact after_44  h _ _ _ hP hD hS (lv_sub hl [0, 1, 2, 3, 4] rfl)
          · have h1 := hp_pos c_29 h1
            refine lv_iload_n hx hb dL_can_32 rfl (lv_at hl 2 rfl) ?_
            refine lv_iload hx hb dL_can_33 (lv_at hl 4 rfl) ?_
            refine lv_icmp_lt (tgt := 44) hx hb dL_can_35 (by decide) (fun c_35 => ?_) (fun c_35 => ?_)
            · have h1 := hp_pos c_35 h1
              obtain rfl := Option.some.inj h1
              exact after_44  h _ _ _ hP hD hS (lv_sub hl [0, 1, 2, 3, 4] rfl)
            · have h1 := hp_neg c_35 h1
              refine lv_iload_n hx hb dL_can_38 rfl (lv_at hl 2 rfl) ?_
              refine lv_bipush (v := 6) hx hb dL_can_39 (by decide) ?_
              refine lv_icmp_ne (tgt := 72) hx hb dL_can_41 (by decide) (fun c_41 => ?_) (fun c_41 => ?_)
              · have h1 := hp_neg c_41 h1
                refine lv_iconst (v := 0) hx hb dL_can_72 (by decide) ?_
                obtain rfl := Option.some.inj h1
                have h := congrArg some h
                obtain rfl := Option.some.inj h
                exact W.zret hx hb hr (nb01 (Or.inl rfl)) (fun t ht _ => kQ.mk ht trivial (Or.inl rfl) (hS.F ht)) hS.2.2 dL_can_73
              · have h1 := hp_pos c_41 h1
                obtain rfl := Option.some.inj h1
                exact after_44  h _ _ _ hP hD hS (lv_sub hl [0, 1, 2, 3, 4] rfl)
        have h1 := i_28
        refine lv_if_eq (tgt := 28) hx hb dL_can_19 (by decide) (fun c_19 => ?_) (fun c_19 => ?_)
        · have h1 := hp_pos c_19 h1
          obtain rfl := Option.some.inj h1
          exact after_28  h _ _ _ hP hD hS (lv_sub hl [1, 2, 3, 4, 0] rfl)
        · have h1 := hp_neg c_19 h1
          refine lv_iload_n hx hb dL_can_22 rfl (lv_at hl 3 rfl) ?_
          refine lv_iload hx hb dL_can_23 (lv_at hl 0 rfl) ?_
          refine lv_icmp_ge (tgt := 72) hx hb dL_can_25 (by decide) (fun c_25 => ?_) (fun c_25 => ?_)
          · have h1 := hp_pos c_25 h1
            refine lv_iconst (v := 0) hx hb dL_can_72 (by decide) ?_
            obtain rfl := Option.some.inj h1
            have h := congrArg some h
            obtain rfl := Option.some.inj h
            exact W.zret hx hb hr (nb01 (Or.inl rfl)) (fun t ht _ => kQ.mk ht trivial (Or.inl rfl) (hS.F ht)) hS.2.2 dL_can_73
          · have h1 := hp_neg c_25 h1
            obtain rfl := Option.some.inj h1
            exact after_28  h _ _ _ hP hD hS (lv_sub hl [1, 2, 3, 4, 0] rfl)
