theorem khd_L_change : yL_change.cls = RL ∧ yL_change.cls ≠ "java/lang/invoke/MethodHandle" ∧ yL_change.cls ≠ "java/lang/invoke/VarHandle" ∧ (parseMethodDescriptor yL_change.desc).map (fun d => d.parameters.length) = some 3 := by decide +kernel
set_option maxHeartbeats 8000000 in
set_option maxRecDepth 100000 in
theorem c_L_change (l : Launch) (dC : Nat → ClassId) (dI : Nat → Nat → Nat) (cI cS : ClassId) (ad : Nat → Nat) (a_g : Nat) {ga : Nat → Int32} {SS : SG} {x1 : Int32} {r : Int32} {z_ga : Nat → Int32} {z_SS : SG} (h : f_L_change ga SS x1 = some (r, z_ga, z_SS)) : MkG l yL_change wsL_change ({ frames := 4, cells := 0, slots := 0, locals := 91 } : Room) (dC, dI) cI cS ad SS [(a_g, .inl (cI, 38, .inl ga))] xT [.ref (ad 0), .int x1, .ref a_g] (some (.int r)) (r = 0 ∨ r = 1) z_SS [(a_g, .inl (cI, 38, .inl z_ga))] := by
  refine Met.ofW (cc := cL_change) (maxL := 7) (ret := (some .boolean)) (by decide) rfl ?_
  intro p e s m args below meth c s₁ B hml hv
  obtain ⟨rfl, w, hI, hP, hK, hN, hD, hX⟩ := hv
  have hx := B.exec
  have hb := B.bytes
  have hr := B.returns
  have hts := atoms_spec (ws := wsL_change) B.pre
  have hown : s.vm.findClass RL = some m.cls := findClass_of_methodNamed B.named
  have hlocks := B.notSynchronized
  have hS : va_S (inA (a_g :: AL ad)) s.heap s.heap [] := va_S.rf
  have hP : va_P (dC, dI) vwCl ((a_g, .inl (cI, 38, .inl ga)) :: w) s.heap := hP
  have hD : va_D (inA (a_g :: AL ad)) ((a_g, .inl (cI, 38, .inl ga)) :: w) := gD_in (A := [(a_g, .inl (cI, 38, .inl ga))]) (L := [a_g]) hI hD rfl
  have hl := lv_entry ([.ref (ad 0), .int x1, .ref a_g]) (n := 7) (Nat.le_of_ble_eq_true rfl)
  rw [lg_entry_eq]
  generalize (lg_sl ([.ref (ad 0), .int x1, .ref a_g]) ++ List.replicate (7 - (lg_sl ([.ref (ad 0), .int x1, .ref a_g])).length) Slot.unset).toArray = ls at hl ⊢
  have hl : lv_has ls 7 [(0, .ref (ad 0)), (1, .int x1), (2, .ref a_g)] := hl
  unfold f_L_change at h
  refine lv_iconst (v := 0) hx hb dL_change_0 (by decide) ?_
  refine lv_istore_n (lv' := [(3, .int (0 : Int32)), (0, .ref (ad 0)), (1, .int x1), (2, .ref a_g)]) hx hb dL_change_1 rfl hl (by decide) rfl (fun ls hl => ?_)
  obtain ⟨ga_2e, SS_2e, i_2, h⟩ := ob2_inv h
  have after_2 : ∀ (w : va_W) (H : Heap) (locs : List Loc) (ls : Array Slot), gI cI cS ad SS_2e w → va_P (dC, dI) vwCl ((a_g, .inl (cI, 38, .inl ga_2e)) :: w) H → va_D (inA (a_g :: AL ad)) ((a_g, .inl (cI, 38, .inl ga_2e)) :: w) → va_S (inA (a_g :: AL ad)) s.heap H locs → lv_has ls 7 [(0, .ref (ad 0)), (1, .int x1), (2, .ref a_g)] → W p l e (headSpec wsL_change ({ frames := 4, cells := 0, slots := 0, locals := 91 } : Room)).room s m ([.ref (ad 0), .int x1, .ref a_g] : List Value).toArray below meth c H locs 0 0 (MQ below (kQ (some (.int r)) (r = 0 ∨ r = 1) (kB2 (dC, dI) cI cS ad z_SS [(a_g, .inl (cI, 38, .inl z_ga))]) (inA (List.map Prod.fst ([(a_g, .inl (cI, 38, .inl ga))] : va_W) ++ AL ad))) ([.ref (ad 0), .int x1, .ref a_g] : List Value).toArray s 0 0 (inA (List.map Prod.fst ([(a_g, .inl (cI, 38, .inl ga))] : va_W) ++ AL ad))) (F0 m 143 ls []) := by
    intro w H locs ls hI hP hD hS hl
    refine lv_iload_n hx hb dL_change_143 rfl (lv_at hl 1 rfl) ?_
    refine lv_iconst (v := 5) hx hb dL_change_144 (by decide) ?_
    refine lv_ishr hx hb dL_change_145 ?_
    refine lv_aload_n hx hb dL_change_146 rfl (lv_at hl 2 rfl) ?_
    refine lv_iconst (v := 0) hx hb dL_change_147 (by decide) ?_
    refine va_iald (D := (dC, dI)) hx hb hK hP 0 0 rfl rfl (by unfold vp_in; decide) dL_change_148 ?_
    obtain ⟨r_149, e_149, h⟩ := ob1_inv h
    refine k_pSi (rest := []) ⟨hx, hb, hml, hown, hts⟩ (c_L_some l dC dI cI cS e_149) (va_cwS 2 hts gL_change_L_some rfl rfl rfl khd_L_some.2 ⟨(Nat.le_of_ble_eq_true rfl), (Nat.le_of_ble_eq_true rfl)⟩) hK hN hP hD hS [] rfl rfl rfl hl.1 rfl (Nat.le_of_ble_eq_true rfl) dL_change_149 ⟨(Nat.le_of_ble_eq_true rfl), (Nat.le_of_ble_eq_true rfl)⟩ (fun H locs hf_149 hP hS => ?_)
    have hP : va_P (dC, dI) vwCl ((a_g, .inl (cI, 38, .inl ga_2e)) :: w) H := hP
    refine lv_istore_n (lv' := [(3, .int r_149), (0, .ref (ad 0)), (1, .int x1), (2, .ref a_g)]) hx hb dL_change_152 rfl hl (by decide) rfl (fun ls hl => ?_)
    refine lv_iload_n hx hb dL_change_153 rfl (lv_at hl 2 rfl) ?_
    refine lv_bipush (v := 6) hx hb dL_change_154 (by decide) ?_
    refine lv_ishr hx hb dL_change_156 ?_
    refine lv_iconst (v := 3) hx hb dL_change_157 (by decide) ?_
    obtain ⟨r_158, e_158, h⟩ := ob1_inv h
    refine k_pSi (rest := []) ⟨hx, hb, hml, hown, hts⟩ (c_L_some l dC dI cI cS e_158) (va_cwS 2 hts gL_change_L_some rfl rfl rfl khd_L_some.2 ⟨(Nat.le_of_ble_eq_true rfl), (Nat.le_of_ble_eq_true rfl)⟩) hK hN hP hD hS [] rfl rfl rfl hl.1 rfl (Nat.le_of_ble_eq_true rfl) dL_change_158 ⟨(Nat.le_of_ble_eq_true rfl), (Nat.le_of_ble_eq_true rfl)⟩ (fun H locs hf_158 hP hS => ?_)
    have hP : va_P (dC, dI) vwCl ((a_g, .inl (cI, 38, .inl ga_2e)) :: w) H := hP
    obtain ⟨u0_179, i_179, h⟩ := ob1_inv h
    have after_179 : ∀ (w : va_W) (H : Heap) (locs : List Loc) (ls : Array Slot), gI cI cS ad SS_2e w → va_P (dC, dI) vwCl ((a_g, .inl (cI, 38, .inl ga_2e)) :: w) H → va_D (inA (a_g :: AL ad)) ((a_g, .inl (cI, 38, .inl ga_2e)) :: w) → va_S (inA (a_g :: AL ad)) s.heap H locs → lv_has ls 7 [(0, .ref (ad 0)), (1, .int x1), (2, .ref a_g), (3, .int r_149)] → W p l e (headSpec wsL_change ({ frames := 4, cells := 0, slots := 0, locals := 91 } : Room)).room s m ([.ref (ad 0), .int x1, .ref a_g] : List Value).toArray below meth c H locs 0 0 (MQ below (kQ (some (.int r)) (r = 0 ∨ r = 1) (kB2 (dC, dI) cI cS ad z_SS [(a_g, .inl (cI, 38, .inl z_ga))]) (inA (List.map Prod.fst ([(a_g, .inl (cI, 38, .inl ga))] : va_W) ++ AL ad))) ([.ref (ad 0), .int x1, .ref a_g] : List Value).toArray s 0 0 (inA (List.map Prod.fst ([(a_g, .inl (cI, 38, .inl ga))] : va_W) ++ AL ad))) (F0 m 179 ls [.int u0_179]) := by
      intro w H locs ls hI hP hD hS hl
      refine lv_istore (lv' := [(4, .int u0_179), (0, .ref (ad 0)), (1, .int x1), (2, .ref a_g), (3, .int r_149)]) hx hb dL_change_179 hl (by decide) rfl (fun ls hl => ?_)
      refine lv_iload_n hx hb dL_change_181 rfl (lv_at hl 4 rfl) ?_
      refine lv_iload hx hb dL_change_182 (lv_at hl 0 rfl) ?_
      refine lv_icmp_ne (tgt := 189) hx hb dL_change_184 (by decide) (fun c_184 => ?_) (fun c_184 => ?_)
      · have h := hp_neg c_184 h
        refine lv_iload_n hx hb dL_change_189 rfl (lv_at hl 2 rfl) ?_
        refine lv_bipush (v := 9) hx hb dL_change_190 (by decide) ?_
        refine lv_ishr hx hb dL_change_192 ?_
        refine lv_iconst (v := 2) hx hb dL_change_193 (by decide) ?_
        obtain ⟨r_194, e_194, h⟩ := ob1_inv h
        refine k_pSi (rest := []) ⟨hx, hb, hml, hown, hts⟩ (c_L_some l dC dI cI cS e_194) (va_cwS 2 hts gL_change_L_some rfl rfl rfl khd_L_some.2 ⟨(Nat.le_of_ble_eq_true rfl), (Nat.le_of_ble_eq_true rfl)⟩) hK hN hP hD hS [] rfl rfl rfl hl.1 rfl (Nat.le_of_ble_eq_true rfl) dL_change_194 ⟨(Nat.le_of_ble_eq_true rfl), (Nat.le_of_ble_eq_true rfl)⟩ (fun H locs hf_194 hP hS => ?_)
        have hP : va_P (dC, dI) vwCl ((a_g, .inl (cI, 38, .inl ga_2e)) :: w) H := hP
        refine lv_if_ne (tgt := 267) hx hb dL_change_197 (by decide) (fun c_197 => ?_) (fun c_197 => ?_)
        · have h := hp_neg c_197 h
          refine lv_iload hx hb dL_change_267 (lv_at hl 0 rfl) ?_
          refine lv_bipush (v := 6) hx hb dL_change_269 (by decide) ?_
          refine lv_icmp_ne (tgt := 291) hx hb dL_change_271 (by decide) (fun c_271 => ?_) (fun c_271 => ?_)
          · have h := hp_neg c_271 h
            refine lv_aload_n hx hb dL_change_291 rfl (lv_at hl 3 rfl) ?_
            refine lv_iload_n hx hb dL_change_292 rfl (lv_at hl 4 rfl) ?_
            refine lv_iload hx hb dL_change_293 (lv_at hl 0 rfl) ?_
            obtain ⟨r_295, r_295_ga, e_295, h⟩ := ob2_inv h
            refine k_wSi (rest := []) (ws' := ((a_g, .inl (cI, 38, .inl r_295_ga)) :: w)) ⟨hx, hb, hml, hown, hts⟩ (c_L_hand l dC dI cI cS a_g e_295) (va_cwS 3 hts gL_change_L_hand rfl rfl rfl khd_L_hand.2 ⟨(Nat.le_of_ble_eq_true rfl), (Nat.le_of_ble_eq_true rfl)⟩) hK hN hP hD hS [0] rfl rfl rfl hl.1 rfl (Nat.le_of_ble_eq_true rfl) dL_change_295 ⟨(Nat.le_of_ble_eq_true rfl), (Nat.le_of_ble_eq_true rfl)⟩ rfl rfl (fun H locs hf_295 hP hS => ?_)
            have hP : va_P (dC, dI) vwCl ((a_g, .inl (cI, 38, .inl r_295_ga)) :: w) H := hP
            have hD : va_D (inA (a_g :: AL ad)) ((a_g, .inl (cI, 38, .inl r_295_ga)) :: w) := va_D_fst hD rfl
            refine lv_istore (lv' := [(5, .int r_295), (4, .int u0_179), (0, .ref (ad 0)), (1, .int x1), (2, .ref a_g), (3, .int r_149)]) hx hb dL_change_298 hl (by decide) rfl (fun ls hl => ?_)
            refine lv_aload_n hx hb dL_change_300 rfl (lv_at hl 2 rfl) ?_
            refine lv_iload_n hx hb dL_change_301 rfl (lv_at hl 5 rfl) ?_
            refine lv_iload hx hb dL_change_302 (lv_at hl 1 rfl) ?_
            obtain ⟨r_304, r_304_S, e_304, h⟩ := ob2_inv h
            refine k_GVi (pre := [(a_g, .inl (cI, 38, .inl r_295_ga))]) (rest := []) ⟨hx, hb, hml, hown, hts⟩ (A_X4_hand l dC dI cI cS ad e_304) (cwV 2 hts gL_change_X4_hand rfl rfl rfl khd_X4_hand ⟨(Nat.le_of_ble_eq_true rfl), (Nat.le_of_ble_eq_true rfl)⟩) hK hN hI hP hD hS rfl hl.1 rfl (Nat.le_of_ble_eq_true rfl) dL_change_304 ⟨(Nat.le_of_ble_eq_true rfl), (Nat.le_of_ble_eq_true rfl)⟩ (fun H locs w hI hP hD hS => ?_)
            have hP : va_P (dC, dI) vwCl ((a_g, .inl (cI, 38, .inl r_295_ga)) :: w) H := hP
            have hD : va_D (inA (a_g :: AL ad)) ((a_g, .inl (cI, 38, .inl r_295_ga)) :: w) := hD
            refine lv_iload hx hb dL_change_307 (lv_at hl 0 rfl) ?_
            obtain ⟨u0_319, i_319, h⟩ := ob1_inv h
            have after_319 : ∀ (w : va_W) (H : Heap) (locs : List Loc) (ls : Array Slot), gI cI cS ad r_304_S w → va_P (dC, dI) vwCl ((a_g, .inl (cI, 38, .inl r_295_ga)) :: w) H → va_D (inA (a_g :: AL ad)) ((a_g, .inl (cI, 38, .inl r_295_ga)) :: w) → va_S (inA (a_g :: AL ad)) s.heap H locs → lv_has ls 7 [] → W p l e (headSpec wsL_change ({ frames := 4, cells := 0, slots := 0, locals := 91 } : Room)).room s m ([.ref (ad 0), .int x1, .ref a_g] : List Value).toArray below meth c H locs 0 0 (MQ below (kQ (some (.int r)) (r = 0 ∨ r = 1) (kB2 (dC, dI) cI cS ad z_SS [(a_g, .inl (cI, 38, .inl z_ga))]) (inA (List.map Prod.fst ([(a_g, .inl (cI, 38, .inl ga))] : va_W) ++ AL ad))) ([.ref (ad 0), .int x1, .ref a_g] : List Value).toArray s 0 0 (inA (List.map Prod.fst ([(a_g, .inl (cI, 38, .inl ga))] : va_W) ++ AL ad))) (F0 m 319 ls [.int u0_319, .int r_304]) := by
              intro w H locs ls hI hP hD hS hl
              refine lv_icmp_ne (tgt := 326) hx hb dL_change_319 (by decide) (fun c_319 => ?_) (fun c_319 => ?_)
              · have h := hp_neg c_319 h
                cases h
              · have h := hp_pos c_319 h
                refine lv_iconst (v := 1) hx hb dL_change_322 (by decide) ?_
                refine lv_goto (tgt := 327) hx hb dL_change_323 (by decide) ?_
                obtain ⟨rfl, rfl, rfl⟩ := pj3 (Option.some.inj h)
                exact W.zret hx hb hr (nb01 (Or.inr rfl)) (fun t ht _ => kQ.mk ht ⟨w, hI, hP⟩ (Or.inr rfl) (hS.F ht)) hS.2.2 dL_change_327
            have h1 := i_319
            refine lv_if_ge (tgt := 317) hx hb dL_change_309 (by decide) (fun c_309 => ?_) (fun c_309 => ?_)
            · have h1 := hp_pos c_309 h1
              refine lv_iload hx hb dL_change_317 (lv_at hl 0 rfl) ?_
              obtain rfl := Option.some.inj h1
              exact after_319 _ _ _ _ hI hP hD hS (lv_sub hl [] rfl)
            · have h1 := hp_neg c_309 h1
              refine lv_bipush (v := -3) hx hb dL_change_312 (by decide) ?_
              refine lv_goto (tgt := 319) hx hb dL_change_314 (by decide) ?_
              obtain rfl := Option.some.inj h1
              exact after_319 _ _ _ _ hI hP hD hS (lv_sub hl [] rfl)
          · have h := hp_pos c_271 h
            refine lv_aload_n hx hb dL_change_274 rfl (lv_at hl 1 rfl) ?_
            refine lv_iload_n hx hb dL_change_275 rfl (lv_at hl 4 rfl) ?_
            refine lv_iload hx hb dL_change_276 (lv_at hl 0 rfl) ?_
            obtain ⟨r_278, r_278_S, e_278, h⟩ := ob2_inv h
            refine k_GVi (pre := [(a_g, .inl (cI, 38, .inl ga_2e))]) (rest := []) ⟨hx, hb, hml, hown, hts⟩ (A_X4_hand l dC dI cI cS ad e_278) (cwV 2 hts gL_change_X4_hand rfl rfl rfl khd_X4_hand ⟨(Nat.le_of_ble_eq_true rfl), (Nat.le_of_ble_eq_true rfl)⟩) hK hN hI hP hD hS rfl hl.1 rfl (Nat.le_of_ble_eq_true rfl) dL_change_278 ⟨(Nat.le_of_ble_eq_true rfl), (Nat.le_of_ble_eq_true rfl)⟩ (fun H locs w hI hP hD hS => ?_)
            have hP : va_P (dC, dI) vwCl ((a_g, .inl (cI, 38, .inl ga_2e)) :: w) H := hP
            have hD : va_D (inA (a_g :: AL ad)) ((a_g, .inl (cI, 38, .inl ga_2e)) :: w) := hD
            refine lv_iconst (v := -1) hx hb dL_change_281 (by decide) ?_
            refine lv_icmp_ne (tgt := 289) hx hb dL_change_282 (by decide) (fun c_282 => ?_) (fun c_282 => ?_)
            · have h := hp_neg c_282 h
              cases h
            · have h := hp_pos c_282 h
              refine lv_iconst (v := 1) hx hb dL_change_285 (by decide) ?_
              refine lv_goto (tgt := 290) hx hb dL_change_286 (by decide) ?_
              obtain ⟨rfl, rfl, rfl⟩ := pj3 (Option.some.inj h)
              exact W.zret hx hb hr (nb01 (Or.inr rfl)) (fun t ht _ => kQ.mk ht ⟨w, hI, hP⟩ (Or.inr rfl) (hS.F ht)) hS.2.2 dL_change_290
        · have h := hp_pos c_197 h
          refine lv_iload hx hb dL_change_200 (lv_at hl 0 rfl) ?_
          refine lv_bipush (v := 6) hx hb dL_change_202 (by decide) ?_
          obtain ⟨u0_222, i_222, h⟩ := ob1_inv h
          have after_222 : ∀ (w : va_W) (H : Heap) (locs : List Loc) (ls : Array Slot), gI cI cS ad SS_2e w → va_P (dC, dI) vwCl ((a_g, .inl (cI, 38, .inl ga_2e)) :: w) H → va_D (inA (a_g :: AL ad)) ((a_g, .inl (cI, 38, .inl ga_2e)) :: w) → va_S (inA (a_g :: AL ad)) s.heap H locs → lv_has ls 7 [(0, .ref (ad 0)), (2, .ref a_g), (3, .int r_149), (4, .int u0_179)] → W p l e (headSpec wsL_change ({ frames := 4, cells := 0, slots := 0, locals := 91 } : Room)).room s m ([.ref (ad 0), .int x1, .ref a_g] : List Value).toArray below meth c H locs 0 0 (MQ below (kQ (some (.int r)) (r = 0 ∨ r = 1) (kB2 (dC, dI) cI cS ad z_SS [(a_g, .inl (cI, 38, .inl z_ga))]) (inA (List.map Prod.fst ([(a_g, .inl (cI, 38, .inl ga))] : va_W) ++ AL ad))) ([.ref (ad 0), .int x1, .ref a_g] : List Value).toArray s 0 0 (inA (List.map Prod.fst ([(a_g, .inl (cI, 38, .inl ga))] : va_W) ++ AL ad))) (F0 m 222 ls [.int u0_222]) := by
            intro w H locs ls hI hP hD hS hl
            refine lv_istore (lv' := [(5, .int u0_222), (0, .ref (ad 0)), (2, .ref a_g), (3, .int r_149), (4, .int u0_179)]) hx hb dL_change_222 hl (by decide) rfl (fun ls hl => ?_)
            refine lv_aload_n hx hb dL_change_224 rfl (lv_at hl 1 rfl) ?_
            refine lv_iload_n hx hb dL_change_225 rfl (lv_at hl 3 rfl) ?_
            refine lv_iload hx hb dL_change_226 (lv_at hl 4 rfl) ?_
            obtain ⟨r_228, r_228_S, e_228, h⟩ := ob2_inv h
            refine k_GVi (pre := [(a_g, .inl (cI, 38, .inl ga_2e))]) (rest := []) ⟨hx, hb, hml, hown, hts⟩ (A_X4_own l dC dI cI cS ad e_228) (cwV 2 hts gL_change_X4_own rfl rfl rfl khd_X4_own ⟨(Nat.le_of_ble_eq_true rfl), (Nat.le_of_ble_eq_true rfl)⟩) hK hN hI hP hD hS rfl hl.1 rfl (Nat.le_of_ble_eq_true rfl) dL_change_228 ⟨(Nat.le_of_ble_eq_true rfl), (Nat.le_of_ble_eq_true rfl)⟩ (fun H locs w hI hP hD hS => ?_)
            have hP : va_P (dC, dI) vwCl ((a_g, .inl (cI, 38, .inl ga_2e)) :: w) H := hP
            have hD : va_D (inA (a_g :: AL ad)) ((a_g, .inl (cI, 38, .inl ga_2e)) :: w) := hD
            refine lv_iload hx hb dL_change_231 (lv_at hl 0 rfl) ?_
            obtain ⟨u0_247, i_247, h⟩ := ob1_inv h
            have after_247 : ∀ (w : va_W) (H : Heap) (locs : List Loc) (ls : Array Slot), gI cI cS ad r_228_S w → va_P (dC, dI) vwCl ((a_g, .inl (cI, 38, .inl ga_2e)) :: w) H → va_D (inA (a_g :: AL ad)) ((a_g, .inl (cI, 38, .inl ga_2e)) :: w) → va_S (inA (a_g :: AL ad)) s.heap H locs → lv_has ls 7 [(2, .ref a_g), (3, .int r_149), (4, .int u0_179), (5, .int u0_222)] → W p l e (headSpec wsL_change ({ frames := 4, cells := 0, slots := 0, locals := 91 } : Room)).room s m ([.ref (ad 0), .int x1, .ref a_g] : List Value).toArray below meth c H locs 0 0 (MQ below (kQ (some (.int r)) (r = 0 ∨ r = 1) (kB2 (dC, dI) cI cS ad z_SS [(a_g, .inl (cI, 38, .inl z_ga))]) (inA (List.map Prod.fst ([(a_g, .inl (cI, 38, .inl ga))] : va_W) ++ AL ad))) ([.ref (ad 0), .int x1, .ref a_g] : List Value).toArray s 0 0 (inA (List.map Prod.fst ([(a_g, .inl (cI, 38, .inl ga))] : va_W) ++ AL ad))) (F0 m 247 ls [.int u0_247, .int r_228]) := by
              intro w H locs ls hI hP hD hS hl
              refine lv_icmp_eq (tgt := 252) hx hb dL_change_247 (by decide) (fun c_247 => ?_) (fun c_247 => ?_)
              · have h := hp_pos c_247 h
                refine lv_iload hx hb dL_change_252 (lv_at hl 3 rfl) ?_
                refine lv_if_eq (tgt := 265) hx hb dL_change_254 (by decide) (fun c_254 => ?_) (fun c_254 => ?_)
                · have h := hp_pos c_254 h
                  refine lv_iconst (v := 1) hx hb dL_change_265 (by decide) ?_
                  obtain ⟨rfl, rfl, rfl⟩ := pj3 (Option.some.inj h)
                  exact W.zret hx hb hr (nb01 (Or.inr rfl)) (fun t ht _ => kQ.mk ht ⟨w, hI, hP⟩ (Or.inr rfl) (hS.F ht)) hS.2.2 dL_change_266
                · have h := hp_neg c_254 h
                  refine lv_aload_n hx hb dL_change_257 rfl (lv_at hl 0 rfl) ?_
                  refine lv_bipush (v := 8) hx hb dL_change_258 (by decide) ?_
                  refine lv_iload_n hx hb dL_change_260 rfl (lv_at hl 1 rfl) ?_
                  refine lv_iadd hx hb dL_change_261 ?_
                  refine lv_iload hx hb dL_change_262 (lv_at hl 2 rfl) ?_
                  have g_264 := hg_no h
                  have h := hg_yes h
                  refine va_iast (D := (dC, dI)) hx hb hK hP hD hS 0 0 rfl rfl g_264 dL_change_264 (fun H locs hP hD hS => ?_)
                  have hP : va_P (dC, dI) vwCl ((a_g, .inl (cI, 38, .inl (upd ga_2e ((8 : Int32) + r_149).toNatClampNeg u0_179))) :: w) H := hP
                  have hD : va_D (inA (a_g :: AL ad)) ((a_g, .inl (cI, 38, .inl (upd ga_2e ((8 : Int32) + r_149).toNatClampNeg u0_179))) :: w) := hD
                  refine lv_iconst (v := 1) hx hb dL_change_265 (by decide) ?_
                  obtain ⟨rfl, rfl, rfl⟩ := pj3 (Option.some.inj h)
                  exact W.zret hx hb hr (nb01 (Or.inr rfl)) (fun t ht _ => kQ.mk ht ⟨w, hI, hP⟩ (Or.inr rfl) (hS.F ht)) hS.2.2 dL_change_266
              · have h := hp_neg c_247 h
                cases h
            have h1 := i_247
            refine lv_if_eq (tgt := 245) hx hb dL_change_233 (by decide) (fun c_233 => ?_) (fun c_233 => ?_)
            · have h1 := hp_pos c_233 h1
              refine lv_bipush (v := -3) hx hb dL_change_245 (by decide) ?_
              obtain rfl := Option.some.inj h1
              exact after_247 _ _ _ _ hI hP hD hS (lv_sub hl [2, 3, 4, 0] rfl)
            · have h1 := hp_neg c_233 h1
              refine lv_aload_n hx hb dL_change_236 rfl (lv_at hl 2 rfl) ?_
              refine lv_bipush (v := 8) hx hb dL_change_237 (by decide) ?_
              refine lv_iload_n hx hb dL_change_239 rfl (lv_at hl 3 rfl) ?_
              refine lv_iadd hx hb dL_change_240 ?_
              have g_241 := hg_no h1
              have h1 := hg_yes h1
              refine va_iald (D := (dC, dI)) hx hb hK hP 0 0 rfl rfl g_241 dL_change_241 ?_
              refine lv_goto (tgt := 247) hx hb dL_change_242 (by decide) ?_
              obtain rfl := Option.some.inj h1
              exact after_247 _ _ _ _ hI hP hD hS (lv_sub hl [2, 3, 4, 0] rfl)
          have h1 := i_222
          refine lv_icmp_eq (tgt := 217) hx hb dL_change_204 (by decide) (fun c_204 => ?_) (fun c_204 => ?_)
          · have h1 := hp_pos c_204 h1
            refine lv_iconst (v := 1) hx hb dL_change_217 (by decide) ?_
            refine lv_goto (tgt := 222) hx hb dL_change_218 (by decide) ?_
            obtain rfl := Option.some.inj h1
            exact after_222 _ _ _ _ hI hP hD hS (lv_sub hl [1, 3, 4, 0] rfl)
          · have h1 := hp_neg c_204 h1
            refine lv_aload_n hx hb dL_change_207 rfl (lv_at hl 3 rfl) ?_
            refine lv_iload hx hb dL_change_208 (lv_at hl 0 rfl) ?_
            refine lv_iload_n hx hb dL_change_210 rfl (lv_at hl 4 rfl) ?_
            obtain ⟨r_211, e_211, h1⟩ := ob1_inv h1
            refine k_pSi (rest := []) ⟨hx, hb, hml, hown, hts⟩ (c_L_under l dC dI cI cS a_g e_211) (va_cwS 3 hts gL_change_L_under rfl rfl rfl khd_L_under.2 ⟨(Nat.le_of_ble_eq_true rfl), (Nat.le_of_ble_eq_true rfl)⟩) hK hN hP hD hS [0] rfl rfl rfl hl.1 rfl (Nat.le_of_ble_eq_true rfl) dL_change_211 ⟨(Nat.le_of_ble_eq_true rfl), (Nat.le_of_ble_eq_true rfl)⟩ (fun H locs hf_211 hP hS => ?_)
            have hP : va_P (dC, dI) vwCl ((a_g, .inl (cI, 38, .inl ga_2e)) :: w) H := hP
            refine lv_if_ne (tgt := 221) hx hb dL_change_214 (by decide) (fun c_214 => ?_) (fun c_214 => ?_)
            · have h1 := hp_neg c_214 h1
              refine lv_iconst (v := 0) hx hb dL_change_221 (by decide) ?_
              obtain rfl := Option.some.inj h1
              exact after_222 _ _ _ _ hI hP hD hS (lv_sub hl [1, 3, 4, 0] rfl)
            · have h1 := hp_pos c_214 h1
              refine lv_iconst (v := 1) hx hb dL_change_217 (by decide) ?_
              refine lv_goto (tgt := 222) hx hb dL_change_218 (by decide) ?_
              obtain rfl := Option.some.inj h1
              exact after_222 _ _ _ _ hI hP hD hS (lv_sub hl [1, 3, 4, 0] rfl)
      · have h := hp_pos c_184 h
        refine lv_iconst (v := 1) hx hb dL_change_187 (by decide) ?_
        obtain ⟨rfl, rfl, rfl⟩ := pj3 (Option.some.inj h)
        exact W.zret hx hb hr (nb01 (Or.inr rfl)) (fun t ht _ => kQ.mk ht ⟨w, hI, hP⟩ (Or.inr rfl) (hS.F ht)) hS.2.2 dL_change_188
    have h1 := i_179
    refine lv_if_ne (tgt := 169) hx hb dL_change_161 (by decide) (fun c_161 => ?_) (fun c_161 => ?_)
    · have h1 := hp_neg c_161 h1
      refine lv_iload_n hx hb dL_change_169 rfl (lv_at hl 2 rfl) ?_
      refine lv_bipush (v := 7) hx hb dL_change_170 (by decide) ?_
      refine lv_ishr hx hb dL_change_172 ?_
      refine lv_aload_n hx hb dL_change_173 rfl (lv_at hl 3 rfl) ?_
      refine lv_iconst (v := 0) hx hb dL_change_174 (by decide) ?_
      refine va_iald (D := (dC, dI)) hx hb hK hP 0 0 rfl rfl (by unfold vp_in; decide) dL_change_175 ?_
      obtain ⟨r_176, e_176, h1⟩ := ob1_inv h1
      refine k_pSi (rest := []) ⟨hx, hb, hml, hown, hts⟩ (c_L_some l dC dI cI cS e_176) (va_cwS 2 hts gL_change_L_some rfl rfl rfl khd_L_some.2 ⟨(Nat.le_of_ble_eq_true rfl), (Nat.le_of_ble_eq_true rfl)⟩) hK hN hP hD hS [] rfl rfl rfl hl.1 rfl (Nat.le_of_ble_eq_true rfl) dL_change_176 ⟨(Nat.le_of_ble_eq_true rfl), (Nat.le_of_ble_eq_true rfl)⟩ (fun H locs hf_176 hP hS => ?_)
      have hP : va_P (dC, dI) vwCl ((a_g, .inl (cI, 38, .inl ga_2e)) :: w) H := hP
      obtain rfl := Option.some.inj h1
      exact after_179 _ _ _ _ hI hP hD hS (lv_sub hl [1, 2, 3, 0] rfl)
    · have h1 := hp_pos c_161 h1
      refine lv_bipush (v := 6) hx hb dL_change_164 (by decide) ?_
      refine lv_goto (tgt := 179) hx hb dL_change_166 (by decide) ?_
      obtain rfl := Option.some.inj h1
      exact after_179 _ _ _ _ hI hP hD hS (lv_sub hl [1, 2, 3, 0] rfl)
  have lp_2 : ∀ (n : Nat) (x3_2 : Int32) (ga_2 : Nat → Int32) (SS_2 : SG), it (u3 (L_L_change_2 x1)) n (x3_2, ga_2, SS_2) = some (ga_2e, SS_2e) → ∀ (w : va_W) (H : Heap) (locs : List Loc) (ls : Array Slot), gI cI cS ad SS_2 w → va_P (dC, dI) vwCl ((a_g, .inl (cI, 38, .inl ga_2)) :: w) H → va_D (inA (a_g :: AL ad)) ((a_g, .inl (cI, 38, .inl ga_2)) :: w) → va_S (inA (a_g :: AL ad)) s.heap H locs → lv_has ls 7 [(0, .ref (ad 0)), (1, .int x1), (2, .ref a_g), (3, .int x3_2)] → W p l e (headSpec wsL_change ({ frames := 4, cells := 0, slots := 0, locals := 91 } : Room)).room s m ([.ref (ad 0), .int x1, .ref a_g] : List Value).toArray below meth c H locs 0 0 (MQ below (kQ (some (.int r)) (r = 0 ∨ r = 1) (kB2 (dC, dI) cI cS ad z_SS [(a_g, .inl (cI, 38, .inl z_ga))]) (inA (List.map Prod.fst ([(a_g, .inl (cI, 38, .inl ga))] : va_W) ++ AL ad))) ([.ref (ad 0), .int x1, .ref a_g] : List Value).toArray s 0 0 (inA (List.map Prod.fst ([(a_g, .inl (cI, 38, .inl ga))] : va_W) ++ AL ad))) (F0 m 2 ls []) := by
    intro n
    induction n with
    | zero => intro x3_2 ga_2 SS_2 h1 w H locs ls hI hP hD hS hl; exact (it_0 h1).elim
    | succ n ih_2 =>
      intro x3_2 ga_2 SS_2 h1 w H locs ls hI hP hD hS hl
      obtain ⟨t_2, h1, k1⟩ := it3_inv h1
      unfold L_L_change_2 at h1
      refine lv_iload_n hx hb dL_change_2 rfl (lv_at hl 3 rfl) ?_
      refine lv_iconst (v := 2) hx hb dL_change_3 (by decide) ?_
      refine lv_icmp_ge (tgt := 143) hx hb dL_change_4 (by decide) (fun c_4 => ?_) (fun c_4 => ?_)
      · have h1 := hp_pos c_4 h1
        cases h1
        obtain ⟨rfl, rfl⟩ := pj2 k1
        exact after_2 _ _ _ _ hI hP hD hS (lv_sub hl [0, 1, 2] rfl)
      · have h1 := hp_neg c_4 h1
        refine lv_aload_n hx hb dL_change_7 rfl (lv_at hl 2 rfl) ?_
        refine lv_iconst (v := 0) hx hb dL_change_8 (by decide) ?_
        refine va_iald (D := (dC, dI)) hx hb hK hP 0 0 rfl rfl (by unfold vp_in; decide) dL_change_9 ?_
        refine lv_if_le (tgt := 143) hx hb dL_change_10 (by decide) (fun c_10 => ?_) (fun c_10 => ?_)
        · have h1 := hp_pos c_10 h1
          cases h1
          obtain ⟨rfl, rfl⟩ := pj2 k1
          exact after_2 _ _ _ _ hI hP hD hS (lv_sub hl [0, 1, 2] rfl)
        · have h1 := hp_neg c_10 h1
          refine lv_iload_n hx hb dL_change_13 rfl (lv_at hl 1 rfl) ?_
          refine lv_iconst (v := 1) hx hb dL_change_14 (by decide) ?_
          refine lv_iload_n hx hb dL_change_15 rfl (lv_at hl 3 rfl) ?_
          refine lv_iadd hx hb dL_change_16 ?_
          refine lv_ishr hx hb dL_change_17 ?_
          refine lv_aload_n hx hb dL_change_18 rfl (lv_at hl 2 rfl) ?_
          refine lv_iconst (v := 0) hx hb dL_change_19 (by decide) ?_
          refine va_iald (D := (dC, dI)) hx hb hK hP 0 0 rfl rfl (by unfold vp_in; decide) dL_change_20 ?_
          obtain ⟨r_21, e_21, h1⟩ := ob1_inv h1
          refine k_pSi (rest := []) ⟨hx, hb, hml, hown, hts⟩ (c_L_some l dC dI cI cS e_21) (va_cwS 2 hts gL_change_L_some rfl rfl rfl khd_L_some.2 ⟨(Nat.le_of_ble_eq_true rfl), (Nat.le_of_ble_eq_true rfl)⟩) hK hN hP hD hS [] rfl rfl rfl hl.1 rfl (Nat.le_of_ble_eq_true rfl) dL_change_21 ⟨(Nat.le_of_ble_eq_true rfl), (Nat.le_of_ble_eq_true rfl)⟩ (fun H locs hf_21 hP hS => ?_)
          have hP : va_P (dC, dI) vwCl ((a_g, .inl (cI, 38, .inl ga_2)) :: w) H := hP
          refine lv_istore (lv' := [(4, .int r_21), (0, .ref (ad 0)), (1, .int x1), (2, .ref a_g), (3, .int x3_2)]) hx hb dL_change_24 hl (by decide) rfl (fun ls hl => ?_)
          refine lv_iload_n hx hb dL_change_26 rfl (lv_at hl 2 rfl) ?_
          refine lv_iconst (v := 3) hx hb dL_change_27 (by decide) ?_
          refine lv_iload_n hx hb dL_change_28 rfl (lv_at hl 4 rfl) ?_
          refine lv_iadd hx hb dL_change_29 ?_
          refine lv_ishr hx hb dL_change_30 ?_
          refine lv_iconst (v := 3) hx hb dL_change_31 (by decide) ?_
          obtain ⟨r_32, e_32, h1⟩ := ob1_inv h1
          refine k_pSi (rest := []) ⟨hx, hb, hml, hown, hts⟩ (c_L_some l dC dI cI cS e_32) (va_cwS 2 hts gL_change_L_some rfl rfl rfl khd_L_some.2 ⟨(Nat.le_of_ble_eq_true rfl), (Nat.le_of_ble_eq_true rfl)⟩) hK hN hP hD hS [] rfl rfl rfl hl.1 rfl (Nat.le_of_ble_eq_true rfl) dL_change_32 ⟨(Nat.le_of_ble_eq_true rfl), (Nat.le_of_ble_eq_true rfl)⟩ (fun H locs hf_32 hP hS => ?_)
          have hP : va_P (dC, dI) vwCl ((a_g, .inl (cI, 38, .inl ga_2)) :: w) H := hP
          obtain ⟨u0_54, i_54, h1⟩ := ob1_inv h1
          have after_54 : ∀ (w : va_W) (H : Heap) (locs : List Loc) (ls : Array Slot), gI cI cS ad SS_2 w → va_P (dC, dI) vwCl ((a_g, .inl (cI, 38, .inl ga_2)) :: w) H → va_D (inA (a_g :: AL ad)) ((a_g, .inl (cI, 38, .inl ga_2)) :: w) → va_S (inA (a_g :: AL ad)) s.heap H locs → lv_has ls 7 [(0, .ref (ad 0)), (1, .int x1), (2, .ref a_g), (3, .int x3_2), (4, .int r_21)] → W p l e (headSpec wsL_change ({ frames := 4, cells := 0, slots := 0, locals := 91 } : Room)).room s m ([.ref (ad 0), .int x1, .ref a_g] : List Value).toArray below meth c H locs 0 0 (MQ below (kQ (some (.int r)) (r = 0 ∨ r = 1) (kB2 (dC, dI) cI cS ad z_SS [(a_g, .inl (cI, 38, .inl z_ga))]) (inA (List.map Prod.fst ([(a_g, .inl (cI, 38, .inl ga))] : va_W) ++ AL ad))) ([.ref (ad 0), .int x1, .ref a_g] : List Value).toArray s 0 0 (inA (List.map Prod.fst ([(a_g, .inl (cI, 38, .inl ga))] : va_W) ++ AL ad))) (F0 m 54 ls [.int u0_54]) := by
            intro w H locs ls hI hP hD hS hl
            refine lv_istore (lv' := [(5, .int u0_54), (0, .ref (ad 0)), (1, .int x1), (2, .ref a_g), (3, .int x3_2), (4, .int r_21)]) hx hb dL_change_54 hl (by decide) rfl (fun ls hl => ?_)
            refine lv_iload hx hb dL_change_56 (lv_at hl 0 rfl) ?_
            refine lv_iload hx hb dL_change_58 (lv_at hl 5 rfl) ?_
            refine lv_icmp_ne (tgt := 101) hx hb dL_change_60 (by decide) (fun c_60 => ?_) (fun c_60 => ?_)
            · have h1 := hp_neg c_60 h1
              refine lv_aload_n hx hb dL_change_101 rfl (lv_at hl 3 rfl) ?_
              refine lv_iload hx hb dL_change_102 (lv_at hl 0 rfl) ?_
              refine lv_iload hx hb dL_change_104 (lv_at hl 5 rfl) ?_
              obtain ⟨r_106, r_106_ga, e_106, h1⟩ := ob2_inv h1
              refine k_wSi (rest := []) (ws' := ((a_g, .inl (cI, 38, .inl r_106_ga)) :: w)) ⟨hx, hb, hml, hown, hts⟩ (c_L_refer l dC dI cI cS a_g e_106) (va_cwS 3 hts gL_change_L_refer rfl rfl rfl khd_L_refer.2 ⟨(Nat.le_of_ble_eq_true rfl), (Nat.le_of_ble_eq_true rfl)⟩) hK hN hP hD hS [0] rfl rfl rfl hl.1 rfl (Nat.le_of_ble_eq_true rfl) dL_change_106 ⟨(Nat.le_of_ble_eq_true rfl), (Nat.le_of_ble_eq_true rfl)⟩ rfl rfl (fun H locs hf_106 hP hS => ?_)
              have hP : va_P (dC, dI) vwCl ((a_g, .inl (cI, 38, .inl r_106_ga)) :: w) H := hP
              have hD : va_D (inA (a_g :: AL ad)) ((a_g, .inl (cI, 38, .inl r_106_ga)) :: w) := va_D_fst hD rfl
              refine lv_istore (lv' := [(6, .int r_106), (5, .int u0_54), (0, .ref (ad 0)), (1, .int x1), (2, .ref a_g), (3, .int x3_2), (4, .int r_21)]) hx hb dL_change_109 hl (by decide) rfl (fun ls hl => ?_)
              refine lv_aload_n hx hb dL_change_111 rfl (lv_at hl 2 rfl) ?_
              refine lv_iload hx hb dL_change_112 (lv_at hl 1 rfl) ?_
              refine lv_iload hx hb dL_change_114 (lv_at hl 6 rfl) ?_
              obtain ⟨r_116, r_116_S, e_116, h1⟩ := ob2_inv h1
              refine k_GVi (pre := [(a_g, .inl (cI, 38, .inl r_106_ga))]) (rest := []) ⟨hx, hb, hml, hown, hts⟩ (A_X4_refer l dC dI cI cS ad e_116) (cwV 2 hts gL_change_X4_refer rfl rfl rfl khd_X4_refer ⟨(Nat.le_of_ble_eq_true rfl), (Nat.le_of_ble_eq_true rfl)⟩) hK hN hI hP hD hS rfl hl.1 rfl (Nat.le_of_ble_eq_true rfl) dL_change_116 ⟨(Nat.le_of_ble_eq_true rfl), (Nat.le_of_ble_eq_true rfl)⟩ (fun H locs w hI hP hD hS => ?_)
              have hP : va_P (dC, dI) vwCl ((a_g, .inl (cI, 38, .inl r_106_ga)) :: w) H := hP
              have hD : va_D (inA (a_g :: AL ad)) ((a_g, .inl (cI, 38, .inl r_106_ga)) :: w) := hD
              refine lv_iload hx hb dL_change_119 (lv_at hl 0 rfl) ?_
              obtain ⟨u0_132, i_132, h1⟩ := ob1_inv h1
              have after_132 : ∀ (w : va_W) (H : Heap) (locs : List Loc) (ls : Array Slot), gI cI cS ad r_116_S w → va_P (dC, dI) vwCl ((a_g, .inl (cI, 38, .inl r_106_ga)) :: w) H → va_D (inA (a_g :: AL ad)) ((a_g, .inl (cI, 38, .inl r_106_ga)) :: w) → va_S (inA (a_g :: AL ad)) s.heap H locs → lv_has ls 7 [(0, .ref (ad 0)), (1, .int x1), (2, .ref a_g), (3, .int x3_2)] → W p l e (headSpec wsL_change ({ frames := 4, cells := 0, slots := 0, locals := 91 } : Room)).room s m ([.ref (ad 0), .int x1, .ref a_g] : List Value).toArray below meth c H locs 0 0 (MQ below (kQ (some (.int r)) (r = 0 ∨ r = 1) (kB2 (dC, dI) cI cS ad z_SS [(a_g, .inl (cI, 38, .inl z_ga))]) (inA (List.map Prod.fst ([(a_g, .inl (cI, 38, .inl ga))] : va_W) ++ AL ad))) ([.ref (ad 0), .int x1, .ref a_g] : List Value).toArray s 0 0 (inA (List.map Prod.fst ([(a_g, .inl (cI, 38, .inl ga))] : va_W) ++ AL ad))) (F0 m 132 ls [.int u0_132, .int r_116]) := by
                intro w H locs ls hI hP hD hS hl
                refine lv_icmp_eq (tgt := 137) hx hb dL_change_132 (by decide) (fun c_132 => ?_) (fun c_132 => ?_)
                · have h1 := hp_pos c_132 h1
                  refine lv_iinc (v := (x3_2 + (1 : Int32))) (lv' := [(3, .int (x3_2 + (1 : Int32))), (0, .ref (ad 0)), (1, .int x1), (2, .ref a_g)]) hx hb dL_change_137 hl (k := 3) rfl rfl (by decide) rfl (fun ls hl => ?_)
                  refine lv_goto (tgt := 2) hx hb dL_change_140 (by decide) ?_
                  cases h1
                  exact ih_2 _ _ _ k1 _ _ _ _ hI hP hD hS (lv_sub hl [1, 2, 3, 0] rfl)
                · have h1 := hp_neg c_132 h1
                  cases h1
              have h2 := i_132
              refine lv_if_eq (tgt := 130) hx hb dL_change_121 (by decide) (fun c_121 => ?_) (fun c_121 => ?_)
              · have h2 := hp_pos c_121 h2
                refine lv_bipush (v := -4) hx hb dL_change_130 (by decide) ?_
                obtain rfl := Option.some.inj h2
                exact after_132 _ _ _ _ hI hP hD hS (lv_sub hl [2, 3, 4, 5] rfl)
              · have h2 := hp_neg c_121 h2
                refine lv_aload_n hx hb dL_change_124 rfl (lv_at hl 4 rfl) ?_
                refine lv_iconst (v := 1) hx hb dL_change_125 (by decide) ?_
                refine va_iald (D := (dC, dI)) hx hb hK hP 0 0 rfl rfl (by unfold vp_in; decide) dL_change_126 ?_
                refine lv_goto (tgt := 132) hx hb dL_change_127 (by decide) ?_
                obtain rfl := Option.some.inj h2
                exact after_132 _ _ _ _ hI hP hD hS (lv_sub hl [2, 3, 4, 5] rfl)
            · have h1 := hp_pos c_60 h1
              refine lv_aload_n hx hb dL_change_63 rfl (lv_at hl 1 rfl) ?_
              refine lv_iload hx hb dL_change_64 (lv_at hl 0 rfl) ?_
              refine lv_iload hx hb dL_change_66 (lv_at hl 5 rfl) ?_
              obtain ⟨r_68, r_68_S, e_68, h1⟩ := ob2_inv h1
              refine k_GVi (pre := [(a_g, .inl (cI, 38, .inl ga_2))]) (rest := []) ⟨hx, hb, hml, hown, hts⟩ (A_X4_refer l dC dI cI cS ad e_68) (cwV 2 hts gL_change_X4_refer rfl rfl rfl khd_X4_refer ⟨(Nat.le_of_ble_eq_true rfl), (Nat.le_of_ble_eq_true rfl)⟩) hK hN hI hP hD hS rfl hl.1 rfl (Nat.le_of_ble_eq_true rfl) dL_change_68 ⟨(Nat.le_of_ble_eq_true rfl), (Nat.le_of_ble_eq_true rfl)⟩ (fun H locs w hI hP hD hS => ?_)
              have hP : va_P (dC, dI) vwCl ((a_g, .inl (cI, 38, .inl ga_2)) :: w) H := hP
              have hD : va_D (inA (a_g :: AL ad)) ((a_g, .inl (cI, 38, .inl ga_2)) :: w) := hD
              refine lv_iconst (v := -1) hx hb dL_change_71 (by decide) ?_
              refine lv_icmp_ne (tgt := 99) hx hb dL_change_72 (by decide) (fun c_72 => ?_) (fun c_72 => ?_)
              · have h1 := hp_neg c_72 h1
                cases h1
              · have h1 := hp_pos c_72 h1
                refine lv_aload_n hx hb dL_change_75 rfl (lv_at hl 1 rfl) ?_
                refine lv_iload hx hb dL_change_76 (lv_at hl 0 rfl) ?_
                refine lv_iload hx hb dL_change_78 (lv_at hl 5 rfl) ?_
                obtain ⟨r_80, r_80_S, e_80, h1⟩ := ob2_inv h1
                refine k_GVi (pre := [(a_g, .inl (cI, 38, .inl ga_2))]) (rest := []) ⟨hx, hb, hml, hown, hts⟩ (A_X4_own l dC dI cI cS ad e_80) (cwV 2 hts gL_change_X4_own rfl rfl rfl khd_X4_own ⟨(Nat.le_of_ble_eq_true rfl), (Nat.le_of_ble_eq_true rfl)⟩) hK hN hI hP hD hS rfl hl.1 rfl (Nat.le_of_ble_eq_true rfl) dL_change_80 ⟨(Nat.le_of_ble_eq_true rfl), (Nat.le_of_ble_eq_true rfl)⟩ (fun H locs w hI hP hD hS => ?_)
                have hP : va_P (dC, dI) vwCl ((a_g, .inl (cI, 38, .inl ga_2)) :: w) H := hP
                have hD : va_D (inA (a_g :: AL ad)) ((a_g, .inl (cI, 38, .inl ga_2)) :: w) := hD
                refine lv_iconst (v := -1) hx hb dL_change_83 (by decide) ?_
                refine lv_icmp_ne (tgt := 99) hx hb dL_change_84 (by decide) (fun c_84 => ?_) (fun c_84 => ?_)
                · have h1 := hp_neg c_84 h1
                  cases h1
                · have h1 := hp_pos c_84 h1
                  refine lv_aload_n hx hb dL_change_87 rfl (lv_at hl 1 rfl) ?_
                  refine lv_iload hx hb dL_change_88 (lv_at hl 0 rfl) ?_
                  refine lv_iload hx hb dL_change_90 (lv_at hl 5 rfl) ?_
                  obtain ⟨r_92, r_92_S, e_92, h1⟩ := ob2_inv h1
                  refine k_GVi (pre := [(a_g, .inl (cI, 38, .inl ga_2))]) (rest := []) ⟨hx, hb, hml, hown, hts⟩ (A_X4_hand l dC dI cI cS ad e_92) (cwV 2 hts gL_change_X4_hand rfl rfl rfl khd_X4_hand ⟨(Nat.le_of_ble_eq_true rfl), (Nat.le_of_ble_eq_true rfl)⟩) hK hN hI hP hD hS rfl hl.1 rfl (Nat.le_of_ble_eq_true rfl) dL_change_92 ⟨(Nat.le_of_ble_eq_true rfl), (Nat.le_of_ble_eq_true rfl)⟩ (fun H locs w hI hP hD hS => ?_)
                  have hP : va_P (dC, dI) vwCl ((a_g, .inl (cI, 38, .inl ga_2)) :: w) H := hP
                  have hD : va_D (inA (a_g :: AL ad)) ((a_g, .inl (cI, 38, .inl ga_2)) :: w) := hD
                  refine lv_iconst (v := -1) hx hb dL_change_95 (by decide) ?_
                  refine lv_icmp_eq (tgt := 137) hx hb dL_change_96 (by decide) (fun c_96 => ?_) (fun c_96 => ?_)
                  · have h1 := hp_pos c_96 h1
                    refine lv_iinc (v := (x3_2 + (1 : Int32))) (lv' := [(3, .int (x3_2 + (1 : Int32))), (5, .int u0_54), (0, .ref (ad 0)), (1, .int x1), (2, .ref a_g), (4, .int r_21)]) hx hb dL_change_137 hl (k := 4) rfl rfl (by decide) rfl (fun ls hl => ?_)
                    refine lv_goto (tgt := 2) hx hb dL_change_140 (by decide) ?_
                    cases h1
                    exact ih_2 _ _ _ k1 _ _ _ _ hI hP hD hS (lv_sub hl [2, 3, 4, 0] rfl)
                  · have h1 := hp_neg c_96 h1
                    cases h1
          have h2 := i_54
          refine lv_if_ne (tgt := 43) hx hb dL_change_35 (by decide) (fun c_35 => ?_) (fun c_35 => ?_)
          · have h2 := hp_neg c_35 h2
            refine lv_iload_n hx hb dL_change_43 rfl (lv_at hl 2 rfl) ?_
            refine lv_iconst (v := 4) hx hb dL_change_44 (by decide) ?_
            refine lv_iload_n hx hb dL_change_45 rfl (lv_at hl 4 rfl) ?_
            refine lv_iadd hx hb dL_change_46 ?_
            refine lv_ishr hx hb dL_change_47 ?_
            refine lv_aload_n hx hb dL_change_48 rfl (lv_at hl 3 rfl) ?_
            refine lv_iconst (v := 0) hx hb dL_change_49 (by decide) ?_
            refine va_iald (D := (dC, dI)) hx hb hK hP 0 0 rfl rfl (by unfold vp_in; decide) dL_change_50 ?_
            obtain ⟨r_51, e_51, h2⟩ := ob1_inv h2
            refine k_pSi (rest := []) ⟨hx, hb, hml, hown, hts⟩ (c_L_some l dC dI cI cS e_51) (va_cwS 2 hts gL_change_L_some rfl rfl rfl khd_L_some.2 ⟨(Nat.le_of_ble_eq_true rfl), (Nat.le_of_ble_eq_true rfl)⟩) hK hN hP hD hS [] rfl rfl rfl hl.1 rfl (Nat.le_of_ble_eq_true rfl) dL_change_51 ⟨(Nat.le_of_ble_eq_true rfl), (Nat.le_of_ble_eq_true rfl)⟩ (fun H locs hf_51 hP hS => ?_)
            have hP : va_P (dC, dI) vwCl ((a_g, .inl (cI, 38, .inl ga_2)) :: w) H := hP
            obtain rfl := Option.some.inj h2
            exact after_54 _ _ _ _ hI hP hD hS (lv_sub hl [1, 2, 3, 4, 0] rfl)
          · have h2 := hp_pos c_35 h2
            refine lv_bipush (v := 6) hx hb dL_change_38 (by decide) ?_
            refine lv_goto (tgt := 54) hx hb dL_change_40 (by decide) ?_
            obtain rfl := Option.some.inj h2
            exact after_54 _ _ _ _ hI hP hD hS (lv_sub hl [1, 2, 3, 4, 0] rfl)
  exact lp_2 FUEL _ _ _ i_2 _ _ _ _ hI hP hD hS (lv_sub hl [1, 2, 3, 0] rfl)
theorem khd_L_put : yL_put.cls = RL ∧ yL_put.cls ≠ "java/lang/invoke/MethodHandle" ∧ yL_put.cls ≠ "java/lang/invoke/VarHandle" ∧ (parseMethodDescriptor yL_put.desc).map (fun d => d.parameters.length) = some 4 := by decide +kernel
set_option maxHeartbeats 8000000 in
set_option maxRecDepth 100000 in
theorem c_L_put (l : Launch) (dC : Nat → ClassId) (dI : Nat → Nat → Nat) (cI cS : ClassId) (ad : Nat → Nat) (a_g : Nat) {b L : Nat} {xs : Nat → Int32} (hbg : b ≠ a_g ∧ b ∉ AL ad) {ga : Nat → Int32} {SS : SG} {x2 : Int32} {r : Int32} {z_ga : Nat → Int32} {z_SS : SG} (h : f_L_put L xs ga SS x2 = some (r, z_ga, z_SS)) : MkG l yL_put wsL_put ({ frames := 3, cells := 0, slots := 0, locals := 70 } : Room) (dC, dI) cI cS ad SS [(a_g, .inl (cI, 38, .inl ga))] (xS b L xs) [.ref (ad 0), .ref b, .int x2, .ref a_g] (some (.int r)) True z_SS [(a_g, .inl (cI, 38, .inl z_ga))] := by
  refine Met.ofW (cc := cL_put) (maxL := 11) (ret := (some .int)) (by decide) rfl ?_
  intro p e s m args below meth c s₁ B hml hv
  obtain ⟨rfl, w, hI, hP, hK, hN, hD, hX⟩ := hv
  have hx := B.exec
  have hb := B.bytes
  have hr := B.returns
  have hts := atoms_spec (ws := wsL_put) B.pre
  have hown : s.vm.findClass RL = some m.cls := findClass_of_methodNamed B.named
  have hlocks := B.notSynchronized
  have hS : va_S (inA (a_g :: AL ad)) s.heap s.heap [] := va_S.rf
  have hP : va_P (dC, dI) vwCl ((a_g, .inl (cI, 38, .inl ga)) :: w) s.heap := hP
  have hD : va_D (inA (a_g :: AL ad)) ((a_g, .inl (cI, 38, .inl ga)) :: w) := gD_in (A := [(a_g, .inl (cI, 38, .inl ga))]) (L := [a_g]) hI hD rfl
  have hX : va_X b L xs s s.heap := hX
  have hbl := xS_lt hX
  have hbA : ¬ (inA (a_g :: AL ad)) b := fun q => (List.mem_cons.mp q).elim hbg.1 hbg.2
  have hl := lv_entry ([.ref (ad 0), .ref b, .int x2, .ref a_g]) (n := 11) (Nat.le_of_ble_eq_true rfl)
  rw [lg_entry_eq]
  generalize (lg_sl ([.ref (ad 0), .ref b, .int x2, .ref a_g]) ++ List.replicate (11 - (lg_sl ([.ref (ad 0), .ref b, .int x2, .ref a_g])).length) Slot.unset).toArray = ls at hl ⊢
  have hl : lv_has ls 11 [(0, .ref (ad 0)), (1, .ref b), (2, .int x2), (3, .ref a_g)] := hl
  unfold f_L_put at h
  refine lv_aload_n hx hb dL_put_0 rfl (lv_at hl 1 rfl) ?_
  refine lv_iload_n hx hb dL_put_1 rfl (lv_at hl 2 rfl) ?_
  obtain ⟨r_2, e_2, h⟩ := ob1_inv h
  refine k_XSi (rest := []) ⟨hx, hb, hml, hown, hts⟩ (c_L_cell l e_2) (va_cwS 2 hts gL_put_L_cell rfl rfl rfl khd_L_cell.2 ⟨(Nat.le_of_ble_eq_true rfl), (Nat.le_of_ble_eq_true rfl)⟩) (hX.kept (hS.2.1 b hbl hbA)) hP hS rfl hl.1 rfl (Nat.le_of_ble_eq_true rfl) dL_put_2 ⟨(Nat.le_of_ble_eq_true rfl), (Nat.le_of_ble_eq_true rfl)⟩ (fun H locs hP hS => ?_)
  have hP : va_P (dC, dI) vwCl ((a_g, .inl (cI, 38, .inl ga)) :: w) H := hP
  refine lv_istore (lv' := [(4, .int r_2), (0, .ref (ad 0)), (1, .ref b), (2, .int x2), (3, .ref a_g)]) hx hb dL_put_5 hl (by decide) rfl (fun ls hl => ?_)
  refine lv_iconst (v := 0) hx hb dL_put_7 (by decide) ?_
  refine lv_istore (lv' := [(5, .int (0 : Int32)), (4, .int r_2), (0, .ref (ad 0)), (1, .ref b), (2, .int x2), (3, .ref a_g)]) hx hb dL_put_8 hl (by decide) rfl (fun ls hl => ?_)
  obtain ⟨ga_10e, i_10, h⟩ := ob1_inv h
  have after_10 : ∀ (w : va_W) (H : Heap) (locs : List Loc) (ls : Array Slot), gI cI cS ad SS w → va_P (dC, dI) vwCl ((a_g, .inl (cI, 38, .inl ga_10e)) :: w) H → va_D (inA (a_g :: AL ad)) ((a_g, .inl (cI, 38, .inl ga_10e)) :: w) → va_S (inA (a_g :: AL ad)) s.heap H locs → lv_has ls 11 [(0, .ref (ad 0)), (1, .ref b), (2, .int x2), (3, .ref a_g), (4, .int r_2)] → W p l e (headSpec wsL_put ({ frames := 3, cells := 0, slots := 0, locals := 70 } : Room)).room s m ([.ref (ad 0), .ref b, .int x2, .ref a_g] : List Value).toArray below meth c H locs 0 0 (MQ below (kQ (some (.int r)) True (kB2 (dC, dI) cI cS ad z_SS [(a_g, .inl (cI, 38, .inl z_ga))]) (inA (List.map Prod.fst ([(a_g, .inl (cI, 38, .inl ga))] : va_W) ++ AL ad))) ([.ref (ad 0), .ref b, .int x2, .ref a_g] : List Value).toArray s 0 0 (inA (List.map Prod.fst ([(a_g, .inl (cI, 38, .inl ga))] : va_W) ++ AL ad))) (F0 m 28 ls []) := by
    intro w H locs ls hI hP hD hS hl
    refine lv_aload_n hx hb dL_put_28 rfl (lv_at hl 3 rfl) ?_
    refine lv_iconst (v := 0) hx hb dL_put_29 (by decide) ?_
    refine lv_iconst (v := 1) hx hb dL_put_30 (by decide) ?_
    refine lv_iload hx hb dL_put_31 (lv_at hl 4 rfl) ?_
    refine lv_bipush (v := 6) hx hb dL_put_33 (by decide) ?_
    obtain ⟨r_35, e_35, h⟩ := ob1_inv h
    refine k_pSi (rest := [.int (1 : Int32), .int (0 : Int32), .ref a_g]) ⟨hx, hb, hml, hown, hts⟩ (c_L_some l dC dI cI cS e_35) (va_cwS 2 hts gL_put_L_some rfl rfl rfl khd_L_some.2 ⟨(Nat.le_of_ble_eq_true rfl), (Nat.le_of_ble_eq_true rfl)⟩) hK hN hP hD hS [] rfl rfl rfl hl.1 rfl (Nat.le_of_ble_eq_true rfl) dL_put_35 ⟨(Nat.le_of_ble_eq_true rfl), (Nat.le_of_ble_eq_true rfl)⟩ (fun H locs hf_35 hP hS => ?_)
    have hP : va_P (dC, dI) vwCl ((a_g, .inl (cI, 38, .inl ga_10e)) :: w) H := hP
    refine lv_iadd hx hb dL_put_38 ?_
    refine va_iast (D := (dC, dI)) hx hb hK hP hD hS 0 0 rfl rfl (by unfold vp_in; decide) dL_put_39 (fun H locs hP hD hS => ?_)
    have hP : va_P (dC, dI) vwCl ((a_g, .inl (cI, 38, .inl (upd ga_10e 0 ((1 : Int32) + r_35)))) :: w) H := hP
    have hD : va_D (inA (a_g :: AL ad)) ((a_g, .inl (cI, 38, .inl (upd ga_10e 0 ((1 : Int32) + r_35)))) :: w) := hD
    refine lv_aload_n hx hb dL_put_40 rfl (lv_at hl 0 rfl) ?_
    refine lv_iconst (v := 0) hx hb dL_put_41 (by decide) ?_
    refine lv_iconst (v := 0) hx hb dL_put_42 (by decide) ?_
    refine lv_bipush (v := 60) hx hb dL_put_43 (by decide) ?_
    obtain ⟨r_45, r_45_S, e_45, h⟩ := ob2_inv h
    refine k_GVi (pre := [(a_g, .inl (cI, 38, .inl (upd ga_10e 0 ((1 : Int32) + r_35))))]) (rest := []) ⟨hx, hb, hml, hown, hts⟩ (A_X4_sheet l dC dI cI cS ad e_45) (cwV 3 hts gL_put_X4_sheet rfl rfl rfl khd_X4_sheet ⟨(Nat.le_of_ble_eq_true rfl), (Nat.le_of_ble_eq_true rfl)⟩) hK hN hI hP hD hS rfl hl.1 rfl (Nat.le_of_ble_eq_true rfl) dL_put_45 ⟨(Nat.le_of_ble_eq_true rfl), (Nat.le_of_ble_eq_true rfl)⟩ (fun H locs w hI hP hD hS => ?_)
    have hP : va_P (dC, dI) vwCl ((a_g, .inl (cI, 38, .inl (upd ga_10e 0 ((1 : Int32) + r_35)))) :: w) H := hP
    have hD : va_D (inA (a_g :: AL ad)) ((a_g, .inl (cI, 38, .inl (upd ga_10e 0 ((1 : Int32) + r_35)))) :: w) := hD
    refine lv_iconst (v := 1) hx hb dL_put_48 (by decide) ?_
    refine lv_icmp_ne (tgt := 64) hx hb dL_put_49 (by decide) (fun c_49 => ?_) (fun c_49 => ?_)
    · have h := hp_neg c_49 h
      cases h
    · have h := hp_pos c_49 h
      refine lv_aload_n hx hb dL_put_52 rfl (lv_at hl 0 rfl) ?_
      refine lv_iconst (v := 0) hx hb dL_put_53 (by decide) ?_
      refine lv_iconst (v := 0) hx hb dL_put_54 (by decide) ?_
      refine lv_bipush (v := 111) hx hb dL_put_55 (by decide) ?_
      obtain ⟨r_57, r_57_S, e_57, h⟩ := ob2_inv h
      refine k_GVi (pre := [(a_g, .inl (cI, 38, .inl (upd ga_10e 0 ((1 : Int32) + r_35))))]) (rest := []) ⟨hx, hb, hml, hown, hts⟩ (A_X4_put l dC dI cI cS ad e_57) (cwV 3 hts gL_put_X4_put rfl rfl rfl khd_X4_put ⟨(Nat.le_of_ble_eq_true rfl), (Nat.le_of_ble_eq_true rfl)⟩) hK hN hI hP hD hS rfl hl.1 rfl (Nat.le_of_ble_eq_true rfl) dL_put_57 ⟨(Nat.le_of_ble_eq_true rfl), (Nat.le_of_ble_eq_true rfl)⟩ (fun H locs w hI hP hD hS => ?_)
      have hP : va_P (dC, dI) vwCl ((a_g, .inl (cI, 38, .inl (upd ga_10e 0 ((1 : Int32) + r_35)))) :: w) H := hP
      have hD : va_D (inA (a_g :: AL ad)) ((a_g, .inl (cI, 38, .inl (upd ga_10e 0 ((1 : Int32) + r_35)))) :: w) := hD
      refine lv_iconst (v := 1) hx hb dL_put_60 (by decide) ?_
      refine lv_icmp_eq (tgt := 67) hx hb dL_put_61 (by decide) (fun c_61 => ?_) (fun c_61 => ?_)
      · have h := hp_pos c_61 h
        refine lv_iconst (v := 1) hx hb dL_put_67 (by decide) ?_
        refine lv_istore (lv' := [(5, .int (1 : Int32)), (0, .ref (ad 0)), (1, .ref b), (2, .int x2), (3, .ref a_g), (4, .int r_2)]) hx hb dL_put_68 hl (by decide) rfl (fun ls hl => ?_)
        refine lv_iconst (v := 0) hx hb dL_put_70 (by decide) ?_
        refine lv_istore (lv' := [(6, .int (0 : Int32)), (5, .int (1 : Int32)), (0, .ref (ad 0)), (1, .ref b), (2, .int x2), (3, .ref a_g), (4, .int r_2)]) hx hb dL_put_71 hl (by decide) rfl (fun ls hl => ?_)
        obtain ⟨y5_73, ga_73e, SS_73e, i_73, h⟩ := ob3_inv h
        have after_73 : ∀ (w : va_W) (H : Heap) (locs : List Loc) (ls : Array Slot), gI cI cS ad SS_73e w → va_P (dC, dI) vwCl ((a_g, .inl (cI, 38, .inl ga_73e)) :: w) H → va_D (inA (a_g :: AL ad)) ((a_g, .inl (cI, 38, .inl ga_73e)) :: w) → va_S (inA (a_g :: AL ad)) s.heap H locs → lv_has ls 11 [(0, .ref (ad 0)), (1, .ref b), (2, .int x2), (3, .ref a_g), (4, .int r_2), (5, .int y5_73)] → W p l e (headSpec wsL_put ({ frames := 3, cells := 0, slots := 0, locals := 70 } : Room)).room s m ([.ref (ad 0), .ref b, .int x2, .ref a_g] : List Value).toArray below meth c H locs 0 0 (MQ below (kQ (some (.int r)) True (kB2 (dC, dI) cI cS ad z_SS [(a_g, .inl (cI, 38, .inl z_ga))]) (inA (List.map Prod.fst ([(a_g, .inl (cI, 38, .inl ga))] : va_W) ++ AL ad))) ([.ref (ad 0), .ref b, .int x2, .ref a_g] : List Value).toArray s 0 0 (inA (List.map Prod.fst ([(a_g, .inl (cI, 38, .inl ga))] : va_W) ++ AL ad))) (F0 m 269 ls []) := by
          intro w H locs ls hI hP hD hS hl
          refine lv_iload hx hb dL_put_269 (lv_at hl 4 rfl) ?_
          refine lv_iconst (v := 3) hx hb dL_put_271 (by decide) ?_
          refine lv_ishr hx hb dL_put_272 ?_
          refine lv_bipush (v := 13) hx hb dL_put_273 (by decide) ?_
          obtain ⟨r_275, e_275, h⟩ := ob1_inv h
          refine k_pSi (rest := []) ⟨hx, hb, hml, hown, hts⟩ (c_L_some l dC dI cI cS e_275) (va_cwS 2 hts gL_put_L_some rfl rfl rfl khd_L_some.2 ⟨(Nat.le_of_ble_eq_true rfl), (Nat.le_of_ble_eq_true rfl)⟩) hK hN hP hD hS [] rfl rfl rfl hl.1 rfl (Nat.le_of_ble_eq_true rfl) dL_put_275 ⟨(Nat.le_of_ble_eq_true rfl), (Nat.le_of_ble_eq_true rfl)⟩ (fun H locs hf_275 hP hS => ?_)
          have hP : va_P (dC, dI) vwCl ((a_g, .inl (cI, 38, .inl ga_73e)) :: w) H := hP
          refine lv_istore (lv' := [(6, .int r_275), (0, .ref (ad 0)), (1, .ref b), (2, .int x2), (3, .ref a_g), (4, .int r_2), (5, .int y5_73)]) hx hb dL_put_278 hl (by decide) rfl (fun ls hl => ?_)
          refine lv_iconst (v := 0) hx hb dL_put_280 (by decide) ?_
          refine lv_istore (lv' := [(7, .int (0 : Int32)), (6, .int r_275), (0, .ref (ad 0)), (1, .ref b), (2, .int x2), (3, .ref a_g), (4, .int r_2), (5, .int y5_73)]) hx hb dL_put_281 hl (by decide) rfl (fun ls hl => ?_)
          obtain ⟨y5_283, ga_283e, SS_283e, i_283, h⟩ := ob3_inv h
          have after_283 : ∀ (w : va_W) (H : Heap) (locs : List Loc) (ls : Array Slot), gI cI cS ad SS_283e w → va_P (dC, dI) vwCl ((a_g, .inl (cI, 38, .inl ga_283e)) :: w) H → va_D (inA (a_g :: AL ad)) ((a_g, .inl (cI, 38, .inl ga_283e)) :: w) → va_S (inA (a_g :: AL ad)) s.heap H locs → lv_has ls 11 [(5, .int y5_283)] → W p l e (headSpec wsL_put ({ frames := 3, cells := 0, slots := 0, locals := 70 } : Room)).room s m ([.ref (ad 0), .ref b, .int x2, .ref a_g] : List Value).toArray below meth c H locs 0 0 (MQ below (kQ (some (.int r)) True (kB2 (dC, dI) cI cS ad z_SS [(a_g, .inl (cI, 38, .inl z_ga))]) (inA (List.map Prod.fst ([(a_g, .inl (cI, 38, .inl ga))] : va_W) ++ AL ad))) ([.ref (ad 0), .ref b, .int x2, .ref a_g] : List Value).toArray s 0 0 (inA (List.map Prod.fst ([(a_g, .inl (cI, 38, .inl ga))] : va_W) ++ AL ad))) (F0 m 501 ls []) := by
            intro w H locs ls hI hP hD hS hl
            refine lv_iload hx hb dL_put_501 (lv_at hl 0 rfl) ?_
            obtain ⟨rfl, rfl, rfl⟩ := pj3 (Option.some.inj h)
            exact W.iret hx hb hr (fun t ht _ => kQ.mk ht ⟨w, hI, hP⟩ trivial (hS.F ht)) hS.2.2 dL_put_503
          have lp_283 : ∀ (n : Nat) (x5_283 : Int32) (x7_283 : Int32) (ga_283 : Nat → Int32) (SS_283 : SG), it (u4 (L_L_put_283 L xs x2 r_275)) n (x5_283, x7_283, ga_283, SS_283) = some (y5_283, ga_283e, SS_283e) → ∀ (w : va_W) (H : Heap) (locs : List Loc) (ls : Array Slot), gI cI cS ad SS_283 w → va_P (dC, dI) vwCl ((a_g, .inl (cI, 38, .inl ga_283)) :: w) H → va_D (inA (a_g :: AL ad)) ((a_g, .inl (cI, 38, .inl ga_283)) :: w) → va_S (inA (a_g :: AL ad)) s.heap H locs → lv_has ls 11 [(0, .ref (ad 0)), (1, .ref b), (2, .int x2), (3, .ref a_g), (5, .int x5_283), (6, .int r_275), (7, .int x7_283)] → W p l e (headSpec wsL_put ({ frames := 3, cells := 0, slots := 0, locals := 70 } : Room)).room s m ([.ref (ad 0), .ref b, .int x2, .ref a_g] : List Value).toArray below meth c H locs 0 0 (MQ below (kQ (some (.int r)) True (kB2 (dC, dI) cI cS ad z_SS [(a_g, .inl (cI, 38, .inl z_ga))]) (inA (List.map Prod.fst ([(a_g, .inl (cI, 38, .inl ga))] : va_W) ++ AL ad))) ([.ref (ad 0), .ref b, .int x2, .ref a_g] : List Value).toArray s 0 0 (inA (List.map Prod.fst ([(a_g, .inl (cI, 38, .inl ga))] : va_W) ++ AL ad))) (F0 m 283 ls []) := by
            intro n
            induction n with
            | zero => intro x5_283 x7_283 ga_283 SS_283 h1 w H locs ls hI hP hD hS hl; exact (it_0 h1).elim
            | succ n ih_283 =>
              intro x5_283 x7_283 ga_283 SS_283 h1 w H locs ls hI hP hD hS hl
              obtain ⟨t_283, h1, k1⟩ := it4_inv h1
              unfold L_L_put_283 at h1
              refine lv_iload hx hb dL_put_283 (lv_at hl 6 rfl) ?_
              refine lv_bipush (v := 20) hx hb dL_put_285 (by decide) ?_
              refine lv_icmp_ge (tgt := 501) hx hb dL_put_287 (by decide) (fun c_287 => ?_) (fun c_287 => ?_)
              · have h1 := hp_pos c_287 h1
                cases h1
                obtain ⟨rfl, rfl, rfl⟩ := pj3 k1
                exact after_283 _ _ _ _ hI hP hD hS (lv_sub hl [4] rfl)
              · have h1 := hp_neg c_287 h1
                refine lv_aload_n hx hb dL_put_290 rfl (lv_at hl 3 rfl) ?_
                refine lv_iconst (v := 1) hx hb dL_put_291 (by decide) ?_
                refine va_iald (D := (dC, dI)) hx hb hK hP 0 0 rfl rfl (by unfold vp_in; decide) dL_put_292 ?_
                refine lv_iload hx hb dL_put_293 (lv_at hl 5 rfl) ?_
                refine lv_icmp_ge (tgt := 501) hx hb dL_put_295 (by decide) (fun c_295 => ?_) (fun c_295 => ?_)
                · have h1 := hp_pos c_295 h1
                  cases h1
                  obtain ⟨rfl, rfl, rfl⟩ := pj3 k1
                  exact after_283 _ _ _ _ hI hP hD hS (lv_sub hl [4] rfl)
                · have h1 := hp_neg c_295 h1
                  refine lv_aload_n hx hb dL_put_298 rfl (lv_at hl 1 rfl) ?_
                  refine lv_iload_n hx hb dL_put_299 rfl (lv_at hl 2 rfl) ?_
                  refine lv_iconst (v := 2) hx hb dL_put_300 (by decide) ?_
                  refine lv_iadd hx hb dL_put_301 ?_
                  refine lv_iload hx hb dL_put_302 (lv_at hl 6 rfl) ?_
                  refine lv_iconst (v := 5) hx hb dL_put_304 (by decide) ?_
                  refine lv_idiv hx hb dL_put_305 (by decide) ?_
                  refine lv_iadd hx hb dL_put_306 ?_
                  obtain ⟨r_307, e_307, h1⟩ := ob1_inv h1
                  refine k_XSi (rest := []) ⟨hx, hb, hml, hown, hts⟩ (c_L_cell l e_307) (va_cwS 2 hts gL_put_L_cell rfl rfl rfl khd_L_cell.2 ⟨(Nat.le_of_ble_eq_true rfl), (Nat.le_of_ble_eq_true rfl)⟩) (hX.kept (hS.2.1 b hbl hbA)) hP hS rfl hl.1 rfl (Nat.le_of_ble_eq_true rfl) dL_put_307 ⟨(Nat.le_of_ble_eq_true rfl), (Nat.le_of_ble_eq_true rfl)⟩ (fun H locs hP hS => ?_)
                  have hP : va_P (dC, dI) vwCl ((a_g, .inl (cI, 38, .inl ga_283)) :: w) H := hP
                  refine lv_iload hx hb dL_put_310 (lv_at hl 6 rfl) ?_
                  refine lv_iconst (v := 5) hx hb dL_put_312 (by decide) ?_
                  refine lv_irem hx hb dL_put_313 (by decide) ?_
                  refine lv_bipush (v := 6) hx hb dL_put_314 (by decide) ?_
                  refine lv_imul hx hb dL_put_316 ?_
                  refine lv_ishr hx hb dL_put_317 ?_
                  refine lv_istore (lv' := [(8, .int (r_307 >>> (((x7_283 - x7_283 / (5 : Int32) * (5 : Int32)) * (6 : Int32)) &&& 31))), (0, .ref (ad 0)), (1, .ref b), (2, .int x2), (3, .ref a_g), (5, .int x5_283), (6, .int r_275), (7, .int x7_283)]) hx hb dL_put_318 hl (by decide) rfl (fun ls hl => ?_)
                  refine lv_iload hx hb dL_put_320 (lv_at hl 0 rfl) ?_
                  refine lv_iconst (v := 3) hx hb dL_put_322 (by decide) ?_
                  obtain ⟨r_323, e_323, h1⟩ := ob1_inv h1
                  refine k_pSi (rest := []) ⟨hx, hb, hml, hown, hts⟩ (c_L_some l dC dI cI cS e_323) (va_cwS 2 hts gL_put_L_some rfl rfl rfl khd_L_some.2 ⟨(Nat.le_of_ble_eq_true rfl), (Nat.le_of_ble_eq_true rfl)⟩) hK hN hP hD hS [] rfl rfl rfl hl.1 rfl (Nat.le_of_ble_eq_true rfl) dL_put_323 ⟨(Nat.le_of_ble_eq_true rfl), (Nat.le_of_ble_eq_true rfl)⟩ (fun H locs hf_323 hP hS => ?_)
                  have hP : va_P (dC, dI) vwCl ((a_g, .inl (cI, 38, .inl ga_283)) :: w) H := hP
                  obtain ⟨u0_344, i_344, h1⟩ := ob1_inv h1
                  have after_344 : ∀ (w : va_W) (H : Heap) (locs : List Loc) (ls : Array Slot), gI cI cS ad SS_283 w → va_P (dC, dI) vwCl ((a_g, .inl (cI, 38, .inl ga_283)) :: w) H → va_D (inA (a_g :: AL ad)) ((a_g, .inl (cI, 38, .inl ga_283)) :: w) → va_S (inA (a_g :: AL ad)) s.heap H locs → lv_has ls 11 [(0, .ref (ad 0)), (1, .ref b), (2, .int x2), (3, .ref a_g), (5, .int x5_283), (6, .int r_275), (7, .int x7_283), (8, .int (r_307 >>> (((x7_283 - x7_283 / (5 : Int32) * (5 : Int32)) * (6 : Int32)) &&& 31)))] → W p l e (headSpec wsL_put ({ frames := 3, cells := 0, slots := 0, locals := 70 } : Room)).room s m ([.ref (ad 0), .ref b, .int x2, .ref a_g] : List Value).toArray below meth c H locs 0 0 (MQ below (kQ (some (.int r)) True (kB2 (dC, dI) cI cS ad z_SS [(a_g, .inl (cI, 38, .inl z_ga))]) (inA (List.map Prod.fst ([(a_g, .inl (cI, 38, .inl ga))] : va_W) ++ AL ad))) ([.ref (ad 0), .ref b, .int x2, .ref a_g] : List Value).toArray s 0 0 (inA (List.map Prod.fst ([(a_g, .inl (cI, 38, .inl ga))] : va_W) ++ AL ad))) (F0 m 344 ls [.int u0_344]) := by
                    intro w H locs ls hI hP hD hS hl
                    refine lv_istore (lv' := [(9, .int u0_344), (0, .ref (ad 0)), (1, .ref b), (2, .int x2), (3, .ref a_g), (5, .int x5_283), (6, .int r_275), (7, .int x7_283), (8, .int (r_307 >>> (((x7_283 - x7_283 / (5 : Int32) * (5 : Int32)) * (6 : Int32)) &&& 31)))]) hx hb dL_put_344 hl (by decide) rfl (fun ls hl => ?_)
                    refine lv_iload hx hb dL_put_346 (lv_at hl 8 rfl) ?_
                    refine lv_iconst (v := 3) hx hb dL_put_348 (by decide) ?_
                    refine lv_ishr hx hb dL_put_349 ?_
                    refine lv_aload_n hx hb dL_put_350 rfl (lv_at hl 4 rfl) ?_
                    refine lv_iconst (v := 0) hx hb dL_put_351 (by decide) ?_
                    refine va_iald (D := (dC, dI)) hx hb hK hP 0 0 rfl rfl (by unfold vp_in; decide) dL_put_352 ?_
                    obtain ⟨r_353, e_353, h1⟩ := ob1_inv h1
                    refine k_pSi (rest := []) ⟨hx, hb, hml, hown, hts⟩ (c_L_some l dC dI cI cS e_353) (va_cwS 2 hts gL_put_L_some rfl rfl rfl khd_L_some.2 ⟨(Nat.le_of_ble_eq_true rfl), (Nat.le_of_ble_eq_true rfl)⟩) hK hN hP hD hS [] rfl rfl rfl hl.1 rfl (Nat.le_of_ble_eq_true rfl) dL_put_353 ⟨(Nat.le_of_ble_eq_true rfl), (Nat.le_of_ble_eq_true rfl)⟩ (fun H locs hf_353 hP hS => ?_)
                    have hP : va_P (dC, dI) vwCl ((a_g, .inl (cI, 38, .inl ga_283)) :: w) H := hP
                    refine lv_istore (lv' := [(10, .int r_353), (9, .int u0_344), (0, .ref (ad 0)), (1, .ref b), (2, .int x2), (3, .ref a_g), (5, .int x5_283), (6, .int r_275), (7, .int x7_283), (8, .int (r_307 >>> (((x7_283 - x7_283 / (5 : Int32) * (5 : Int32)) * (6 : Int32)) &&& 31)))]) hx hb dL_put_356 hl (by decide) rfl (fun ls hl => ?_)
                    refine lv_iload hx hb dL_put_358 (lv_at hl 9 rfl) ?_
                    refine lv_iconst (v := 2) hx hb dL_put_360 (by decide) ?_
                    refine lv_ishr hx hb dL_put_361 ?_
                    refine lv_iconst (v := 3) hx hb dL_put_362 (by decide) ?_
                    obtain ⟨r_363, e_363, h1⟩ := ob1_inv h1
                    refine k_pSi (rest := []) ⟨hx, hb, hml, hown, hts⟩ (c_L_some l dC dI cI cS e_363) (va_cwS 2 hts gL_put_L_some rfl rfl rfl khd_L_some.2 ⟨(Nat.le_of_ble_eq_true rfl), (Nat.le_of_ble_eq_true rfl)⟩) hK hN hP hD hS [] rfl rfl rfl hl.1 rfl (Nat.le_of_ble_eq_true rfl) dL_put_363 ⟨(Nat.le_of_ble_eq_true rfl), (Nat.le_of_ble_eq_true rfl)⟩ (fun H locs hf_363 hP hS => ?_)
                    have hP : va_P (dC, dI) vwCl ((a_g, .inl (cI, 38, .inl ga_283)) :: w) H := hP
                    obtain ⟨v9_378, i_378, h1⟩ := ob1_inv h1
                    have after_378 : ∀ (w : va_W) (H : Heap) (locs : List Loc) (ls : Array Slot), gI cI cS ad SS_283 w → va_P (dC, dI) vwCl ((a_g, .inl (cI, 38, .inl ga_283)) :: w) H → va_D (inA (a_g :: AL ad)) ((a_g, .inl (cI, 38, .inl ga_283)) :: w) → va_S (inA (a_g :: AL ad)) s.heap H locs → lv_has ls 11 [(0, .ref (ad 0)), (1, .ref b), (2, .int x2), (3, .ref a_g), (5, .int x5_283), (6, .int r_275), (7, .int x7_283), (9, .int v9_378), (10, .int r_353)] → W p l e (headSpec wsL_put ({ frames := 3, cells := 0, slots := 0, locals := 70 } : Room)).room s m ([.ref (ad 0), .ref b, .int x2, .ref a_g] : List Value).toArray below meth c H locs 0 0 (MQ below (kQ (some (.int r)) True (kB2 (dC, dI) cI cS ad z_SS [(a_g, .inl (cI, 38, .inl z_ga))]) (inA (List.map Prod.fst ([(a_g, .inl (cI, 38, .inl ga))] : va_W) ++ AL ad))) ([.ref (ad 0), .ref b, .int x2, .ref a_g] : List Value).toArray s 0 0 (inA (List.map Prod.fst ([(a_g, .inl (cI, 38, .inl ga))] : va_W) ++ AL ad))) (F0 m 378 ls []) := by
                      intro w H locs ls hI hP hD hS hl
                      refine lv_iload hx hb dL_put_378 (lv_at hl 7 rfl) ?_
                      refine lv_iload hx hb dL_put_380 (lv_at hl 8 rfl) ?_
                      refine lv_icmp_eq (tgt := 495) hx hb dL_put_382 (by decide) (fun c_382 => ?_) (fun c_382 => ?_)
                      · have h1 := hp_pos c_382 h1
                        refine lv_iinc (v := (x7_283 + (1 : Int32))) (lv' := [(7, .int (x7_283 + (1 : Int32))), (0, .ref (ad 0)), (1, .ref b), (2, .int x2), (3, .ref a_g), (5, .int x5_283), (6, .int r_275), (9, .int v9_378), (10, .int r_353)]) hx hb dL_put_495 hl (k := 6) rfl rfl (by decide) rfl (fun ls hl => ?_)
                        refine lv_goto (tgt := 283) hx hb dL_put_498 (by decide) ?_
                        cases h1
                        exact ih_283 _ _ _ _ k1 _ _ _ _ hI hP hD hS (lv_sub hl [1, 2, 3, 4, 5, 6, 0] rfl)
                      · have h1 := hp_neg c_382 h1
                        refine lv_aload_n hx hb dL_put_385 rfl (lv_at hl 3 rfl) ?_
                        refine lv_iload hx hb dL_put_386 (lv_at hl 7 rfl) ?_
                        refine lv_iload hx hb dL_put_388 (lv_at hl 8 rfl) ?_
                        obtain ⟨r_390, e_390, h1⟩ := ob1_inv h1
                        refine k_pSi (rest := []) ⟨hx, hb, hml, hown, hts⟩ (c_L_place l dC dI cI cS a_g e_390) (va_cwS 3 hts gL_put_L_place rfl rfl rfl khd_L_place.2 ⟨(Nat.le_of_ble_eq_true rfl), (Nat.le_of_ble_eq_true rfl)⟩) hK hN hP hD hS [0] rfl rfl rfl hl.1 rfl (Nat.le_of_ble_eq_true rfl) dL_put_390 ⟨(Nat.le_of_ble_eq_true rfl), (Nat.le_of_ble_eq_true rfl)⟩ (fun H locs hf_390 hP hS => ?_)
                        have hP : va_P (dC, dI) vwCl ((a_g, .inl (cI, 38, .inl ga_283)) :: w) H := hP
                        refine lv_if_lt (tgt := 399) hx hb dL_put_393 (by decide) (fun c_393 => ?_) (fun c_393 => ?_)
                        · have h1 := hp_pos c_393 h1
                          refine lv_aload_n hx hb dL_put_399 rfl (lv_at hl 3 rfl) ?_
                          refine lv_bipush (v := 14) hx hb dL_put_400 (by decide) ?_
                          refine lv_aload_n hx hb dL_put_402 rfl (lv_at hl 3 rfl) ?_
                          refine lv_iconst (v := 1) hx hb dL_put_403 (by decide) ?_
                          refine va_iald (D := (dC, dI)) hx hb hK hP 0 0 rfl rfl (by unfold vp_in; decide) dL_put_404 ?_
                          refine lv_iadd hx hb dL_put_405 ?_
                          refine lv_iload hx hb dL_put_406 (lv_at hl 7 rfl) ?_
                          have g_408 := hg_no h1
                          have h1 := hg_yes h1
                          refine va_iast (D := (dC, dI)) hx hb hK hP hD hS 0 0 rfl rfl g_408 dL_put_408 (fun H locs hP hD hS => ?_)
                          have hP : va_P (dC, dI) vwCl ((a_g, .inl (cI, 38, .inl (upd ga_283 ((14 : Int32) + (ga_283 1)).toNatClampNeg v9_378))) :: w) H := hP
                          have hD : va_D (inA (a_g :: AL ad)) ((a_g, .inl (cI, 38, .inl (upd ga_283 ((14 : Int32) + (ga_283 1)).toNatClampNeg v9_378))) :: w) := hD
                          refine lv_aload_n hx hb dL_put_409 rfl (lv_at hl 3 rfl) ?_
                          refine lv_bipush (v := 26) hx hb dL_put_410 (by decide) ?_
                          refine lv_aload_n hx hb dL_put_412 rfl (lv_at hl 3 rfl) ?_
                          refine lv_iconst (v := 1) hx hb dL_put_413 (by decide) ?_
                          refine va_iald (D := (dC, dI)) hx hb hK hP 0 0 rfl rfl (by unfold vp_in; decide) dL_put_414 ?_
                          refine lv_iadd hx hb dL_put_415 ?_
                          refine lv_iload hx hb dL_put_416 (lv_at hl 8 rfl) ?_
                          have g_418 := hg_no h1
                          have h1 := hg_yes h1
                          refine va_iast (D := (dC, dI)) hx hb hK hP hD hS 0 0 rfl rfl g_418 dL_put_418 (fun H locs hP hD hS => ?_)
                          have hP : va_P (dC, dI) vwCl ((a_g, .inl (cI, 38, .inl (upd (upd ga_283 ((14 : Int32) + (ga_283 1)).toNatClampNeg v9_378) ((26 : Int32) + ((upd ga_283 ((14 : Int32) + (ga_283 1)).toNatClampNeg v9_378) 1)).toNatClampNeg r_353))) :: w) H := hP
                          have hD : va_D (inA (a_g :: AL ad)) ((a_g, .inl (cI, 38, .inl (upd (upd ga_283 ((14 : Int32) + (ga_283 1)).toNatClampNeg v9_378) ((26 : Int32) + ((upd ga_283 ((14 : Int32) + (ga_283 1)).toNatClampNeg v9_378) 1)).toNatClampNeg r_353))) :: w) := hD
                          refine lv_aload_n hx hb dL_put_419 rfl (lv_at hl 3 rfl) ?_
                          refine lv_iconst (v := 1) hx hb dL_put_420 (by decide) ?_
                          refine lv_dup2_11 hx hb dL_put_421 rfl rfl ?_
                          refine va_iald (D := (dC, dI)) hx hb hK hP 0 0 rfl rfl (by unfold vp_in; decide) dL_put_422 ?_
                          refine lv_iconst (v := 1) hx hb dL_put_423 (by decide) ?_
                          refine lv_iadd hx hb dL_put_424 ?_
                          refine va_iast (D := (dC, dI)) hx hb hK hP hD hS 0 0 rfl rfl (by unfold vp_in; decide) dL_put_425 (fun H locs hP hD hS => ?_)
                          have hP : va_P (dC, dI) vwCl ((a_g, .inl (cI, 38, .inl (upd (upd (upd ga_283 ((14 : Int32) + (ga_283 1)).toNatClampNeg v9_378) ((26 : Int32) + ((upd ga_283 ((14 : Int32) + (ga_283 1)).toNatClampNeg v9_378) 1)).toNatClampNeg r_353) 1 (((upd (upd ga_283 ((14 : Int32) + (ga_283 1)).toNatClampNeg v9_378) ((26 : Int32) + ((upd ga_283 ((14 : Int32) + (ga_283 1)).toNatClampNeg v9_378) 1)).toNatClampNeg r_353) 1) + (1 : Int32))))) :: w) H := hP
                          have hD : va_D (inA (a_g :: AL ad)) ((a_g, .inl (cI, 38, .inl (upd (upd (upd ga_283 ((14 : Int32) + (ga_283 1)).toNatClampNeg v9_378) ((26 : Int32) + ((upd ga_283 ((14 : Int32) + (ga_283 1)).toNatClampNeg v9_378) 1)).toNatClampNeg r_353) 1 (((upd (upd ga_283 ((14 : Int32) + (ga_283 1)).toNatClampNeg v9_378) ((26 : Int32) + ((upd ga_283 ((14 : Int32) + (ga_283 1)).toNatClampNeg v9_378) 1)).toNatClampNeg r_353) 1) + (1 : Int32))))) :: w) := hD
                          refine lv_aload_n hx hb dL_put_426 rfl (lv_at hl 0 rfl) ?_
                          refine lv_iconst (v := 0) hx hb dL_put_427 (by decide) ?_
                          refine lv_iload hx hb dL_put_428 (lv_at hl 4 rfl) ?_
                          refine lv_iinc (v := (x5_283 + (1 : Int32))) (lv' := [(5, .int (x5_283 + (1 : Int32))), (0, .ref (ad 0)), (1, .ref b), (2, .int x2), (3, .ref a_g), (6, .int r_275), (7, .int x7_283), (9, .int v9_378), (10, .int r_353)]) hx hb dL_put_430 hl (k := 4) rfl rfl (by decide) rfl (fun ls hl => ?_)
                          refine lv_bipush (v := 44) hx hb dL_put_433 (by decide) ?_
                          obtain ⟨r_435, r_435_S, e_435, h1⟩ := ob2_inv h1
                          refine k_GVi (pre := [(a_g, .inl (cI, 38, .inl (upd (upd (upd ga_283 ((14 : Int32) + (ga_283 1)).toNatClampNeg v9_378) ((26 : Int32) + ((upd ga_283 ((14 : Int32) + (ga_283 1)).toNatClampNeg v9_378) 1)).toNatClampNeg r_353) 1 (((upd (upd ga_283 ((14 : Int32) + (ga_283 1)).toNatClampNeg v9_378) ((26 : Int32) + ((upd ga_283 ((14 : Int32) + (ga_283 1)).toNatClampNeg v9_378) 1)).toNatClampNeg r_353) 1) + (1 : Int32)))))]) (rest := []) ⟨hx, hb, hml, hown, hts⟩ (A_X4_put l dC dI cI cS ad e_435) (cwV 3 hts gL_put_X4_put rfl rfl rfl khd_X4_put ⟨(Nat.le_of_ble_eq_true rfl), (Nat.le_of_ble_eq_true rfl)⟩) hK hN hI hP hD hS rfl hl.1 rfl (Nat.le_of_ble_eq_true rfl) dL_put_435 ⟨(Nat.le_of_ble_eq_true rfl), (Nat.le_of_ble_eq_true rfl)⟩ (fun H locs w hI hP hD hS => ?_)
                          have hP : va_P (dC, dI) vwCl ((a_g, .inl (cI, 38, .inl (upd (upd (upd ga_283 ((14 : Int32) + (ga_283 1)).toNatClampNeg v9_378) ((26 : Int32) + ((upd ga_283 ((14 : Int32) + (ga_283 1)).toNatClampNeg v9_378) 1)).toNatClampNeg r_353) 1 (((upd (upd ga_283 ((14 : Int32) + (ga_283 1)).toNatClampNeg v9_378) ((26 : Int32) + ((upd ga_283 ((14 : Int32) + (ga_283 1)).toNatClampNeg v9_378) 1)).toNatClampNeg r_353) 1) + (1 : Int32))))) :: w) H := hP
                          have hD : va_D (inA (a_g :: AL ad)) ((a_g, .inl (cI, 38, .inl (upd (upd (upd ga_283 ((14 : Int32) + (ga_283 1)).toNatClampNeg v9_378) ((26 : Int32) + ((upd ga_283 ((14 : Int32) + (ga_283 1)).toNatClampNeg v9_378) 1)).toNatClampNeg r_353) 1 (((upd (upd ga_283 ((14 : Int32) + (ga_283 1)).toNatClampNeg v9_378) ((26 : Int32) + ((upd ga_283 ((14 : Int32) + (ga_283 1)).toNatClampNeg v9_378) 1)).toNatClampNeg r_353) 1) + (1 : Int32))))) :: w) := hD
                          refine lv_iconst (v := 1) hx hb dL_put_438 (by decide) ?_
                          refine lv_icmp_ne (tgt := 492) hx hb dL_put_439 (by decide) (fun c_439 => ?_) (fun c_439 => ?_)
                          · have h1 := hp_neg c_439 h1
                            cases h1
                          · have h1 := hp_pos c_439 h1
                            refine lv_aload_n hx hb dL_put_442 rfl (lv_at hl 1 rfl) ?_
                            refine lv_iconst (v := 0) hx hb dL_put_443 (by decide) ?_
                            refine lv_iload hx hb dL_put_444 (lv_at hl 0 rfl) ?_
                            refine lv_iinc (v := ((x5_283 + (1 : Int32)) + (1 : Int32))) (lv' := [(5, .int ((x5_283 + (1 : Int32)) + (1 : Int32))), (0, .ref (ad 0)), (1, .ref b), (2, .int x2), (3, .ref a_g), (6, .int r_275), (7, .int x7_283), (9, .int v9_378), (10, .int r_353)]) hx hb dL_put_446 hl (k := 0) rfl rfl (by decide) rfl (fun ls hl => ?_)
                            refine lv_iload hx hb dL_put_449 (lv_at hl 7 rfl) ?_
                            refine lv_bipush (v := 6) hx hb dL_put_451 (by decide) ?_
                            obtain ⟨u0_466, i_466, h1⟩ := ob1_inv h1
                            have after_466 : ∀ (w : va_W) (H : Heap) (locs : List Loc) (ls : Array Slot), gI cI cS ad r_435_S w → va_P (dC, dI) vwCl ((a_g, .inl (cI, 38, .inl (upd (upd (upd ga_283 ((14 : Int32) + (ga_283 1)).toNatClampNeg v9_378) ((26 : Int32) + ((upd ga_283 ((14 : Int32) + (ga_283 1)).toNatClampNeg v9_378) 1)).toNatClampNeg r_353) 1 (((upd (upd ga_283 ((14 : Int32) + (ga_283 1)).toNatClampNeg v9_378) ((26 : Int32) + ((upd ga_283 ((14 : Int32) + (ga_283 1)).toNatClampNeg v9_378) 1)).toNatClampNeg r_353) 1) + (1 : Int32))))) :: w) H → va_D (inA (a_g :: AL ad)) ((a_g, .inl (cI, 38, .inl (upd (upd (upd ga_283 ((14 : Int32) + (ga_283 1)).toNatClampNeg v9_378) ((26 : Int32) + ((upd ga_283 ((14 : Int32) + (ga_283 1)).toNatClampNeg v9_378) 1)).toNatClampNeg r_353) 1 (((upd (upd ga_283 ((14 : Int32) + (ga_283 1)).toNatClampNeg v9_378) ((26 : Int32) + ((upd ga_283 ((14 : Int32) + (ga_283 1)).toNatClampNeg v9_378) 1)).toNatClampNeg r_353) 1) + (1 : Int32))))) :: w) → va_S (inA (a_g :: AL ad)) s.heap H locs → lv_has ls 11 [(0, .ref (ad 0)), (1, .ref b), (2, .int x2), (3, .ref a_g), (5, .int ((x5_283 + (1 : Int32)) + (1 : Int32))), (6, .int r_275), (7, .int x7_283), (10, .int r_353)] → W p l e (headSpec wsL_put ({ frames := 3, cells := 0, slots := 0, locals := 70 } : Room)).room s m ([.ref (ad 0), .ref b, .int x2, .ref a_g] : List Value).toArray below meth c H locs 0 0 (MQ below (kQ (some (.int r)) True (kB2 (dC, dI) cI cS ad z_SS [(a_g, .inl (cI, 38, .inl z_ga))]) (inA (List.map Prod.fst ([(a_g, .inl (cI, 38, .inl ga))] : va_W) ++ AL ad))) ([.ref (ad 0), .ref b, .int x2, .ref a_g] : List Value).toArray s 0 0 (inA (List.map Prod.fst ([(a_g, .inl (cI, 38, .inl ga))] : va_W) ++ AL ad))) (F0 m 466 ls [.int u0_466, .int (x5_283 + (1 : Int32)), .int (0 : Int32), .ref (ad 0)]) := by
                              intro w H locs ls hI hP hD hS hl
                              obtain ⟨r_466, r_466_S, e_466, h1⟩ := ob2_inv h1
                              refine k_GVi (pre := [(a_g, .inl (cI, 38, .inl (upd (upd (upd ga_283 ((14 : Int32) + (ga_283 1)).toNatClampNeg v9_378) ((26 : Int32) + ((upd ga_283 ((14 : Int32) + (ga_283 1)).toNatClampNeg v9_378) 1)).toNatClampNeg r_353) 1 (((upd (upd ga_283 ((14 : Int32) + (ga_283 1)).toNatClampNeg v9_378) ((26 : Int32) + ((upd ga_283 ((14 : Int32) + (ga_283 1)).toNatClampNeg v9_378) 1)).toNatClampNeg r_353) 1) + (1 : Int32)))))]) (rest := []) ⟨hx, hb, hml, hown, hts⟩ (A_X4_put l dC dI cI cS ad e_466) (cwV 3 hts gL_put_X4_put rfl rfl rfl khd_X4_put ⟨(Nat.le_of_ble_eq_true rfl), (Nat.le_of_ble_eq_true rfl)⟩) hK hN hI hP hD hS rfl hl.1 rfl (Nat.le_of_ble_eq_true rfl) dL_put_466 ⟨(Nat.le_of_ble_eq_true rfl), (Nat.le_of_ble_eq_true rfl)⟩ (fun H locs w hI hP hD hS => ?_)
                              have hP : va_P (dC, dI) vwCl ((a_g, .inl (cI, 38, .inl (upd (upd (upd ga_283 ((14 : Int32) + (ga_283 1)).toNatClampNeg v9_378) ((26 : Int32) + ((upd ga_283 ((14 : Int32) + (ga_283 1)).toNatClampNeg v9_378) 1)).toNatClampNeg r_353) 1 (((upd (upd ga_283 ((14 : Int32) + (ga_283 1)).toNatClampNeg v9_378) ((26 : Int32) + ((upd ga_283 ((14 : Int32) + (ga_283 1)).toNatClampNeg v9_378) 1)).toNatClampNeg r_353) 1) + (1 : Int32))))) :: w) H := hP
                              have hD : va_D (inA (a_g :: AL ad)) ((a_g, .inl (cI, 38, .inl (upd (upd (upd ga_283 ((14 : Int32) + (ga_283 1)).toNatClampNeg v9_378) ((26 : Int32) + ((upd ga_283 ((14 : Int32) + (ga_283 1)).toNatClampNeg v9_378) 1)).toNatClampNeg r_353) 1 (((upd (upd ga_283 ((14 : Int32) + (ga_283 1)).toNatClampNeg v9_378) ((26 : Int32) + ((upd ga_283 ((14 : Int32) + (ga_283 1)).toNatClampNeg v9_378) 1)).toNatClampNeg r_353) 1) + (1 : Int32))))) :: w) := hD
                              refine lv_iconst (v := 1) hx hb dL_put_469 (by decide) ?_
                              refine lv_icmp_ne (tgt := 492) hx hb dL_put_470 (by decide) (fun c_470 => ?_) (fun c_470 => ?_)
                              · have h1 := hp_neg c_470 h1
                                cases h1
                              · have h1 := hp_pos c_470 h1
                                refine lv_aload_n hx hb dL_put_473 rfl (lv_at hl 0 rfl) ?_
                                refine lv_iconst (v := 0) hx hb dL_put_474 (by decide) ?_
                                refine lv_iload hx hb dL_put_475 (lv_at hl 4 rfl) ?_
                                refine lv_iinc (v := (((x5_283 + (1 : Int32)) + (1 : Int32)) + (1 : Int32))) (lv' := [(5, .int (((x5_283 + (1 : Int32)) + (1 : Int32)) + (1 : Int32))), (0, .ref (ad 0)), (1, .ref b), (2, .int x2), (3, .ref a_g), (6, .int r_275), (7, .int x7_283), (10, .int r_353)]) hx hb dL_put_477 hl (k := 4) rfl rfl (by decide) rfl (fun ls hl => ?_)
                                refine lv_bipush (v := 48) hx hb dL_put_480 (by decide) ?_
                                refine lv_iload hx hb dL_put_482 (lv_at hl 7 rfl) ?_
                                refine lv_iadd hx hb dL_put_484 ?_
                                obtain ⟨r_485, r_485_S, e_485, h1⟩ := ob2_inv h1
                                refine k_GVi (pre := [(a_g, .inl (cI, 38, .inl (upd (upd (upd ga_283 ((14 : Int32) + (ga_283 1)).toNatClampNeg v9_378) ((26 : Int32) + ((upd ga_283 ((14 : Int32) + (ga_283 1)).toNatClampNeg v9_378) 1)).toNatClampNeg r_353) 1 (((upd (upd ga_283 ((14 : Int32) + (ga_283 1)).toNatClampNeg v9_378) ((26 : Int32) + ((upd ga_283 ((14 : Int32) + (ga_283 1)).toNatClampNeg v9_378) 1)).toNatClampNeg r_353) 1) + (1 : Int32)))))]) (rest := []) ⟨hx, hb, hml, hown, hts⟩ (A_X4_put l dC dI cI cS ad e_485) (cwV 3 hts gL_put_X4_put rfl rfl rfl khd_X4_put ⟨(Nat.le_of_ble_eq_true rfl), (Nat.le_of_ble_eq_true rfl)⟩) hK hN hI hP hD hS rfl hl.1 rfl (Nat.le_of_ble_eq_true rfl) dL_put_485 ⟨(Nat.le_of_ble_eq_true rfl), (Nat.le_of_ble_eq_true rfl)⟩ (fun H locs w hI hP hD hS => ?_)
                                have hP : va_P (dC, dI) vwCl ((a_g, .inl (cI, 38, .inl (upd (upd (upd ga_283 ((14 : Int32) + (ga_283 1)).toNatClampNeg v9_378) ((26 : Int32) + ((upd ga_283 ((14 : Int32) + (ga_283 1)).toNatClampNeg v9_378) 1)).toNatClampNeg r_353) 1 (((upd (upd ga_283 ((14 : Int32) + (ga_283 1)).toNatClampNeg v9_378) ((26 : Int32) + ((upd ga_283 ((14 : Int32) + (ga_283 1)).toNatClampNeg v9_378) 1)).toNatClampNeg r_353) 1) + (1 : Int32))))) :: w) H := hP
                                have hD : va_D (inA (a_g :: AL ad)) ((a_g, .inl (cI, 38, .inl (upd (upd (upd ga_283 ((14 : Int32) + (ga_283 1)).toNatClampNeg v9_378) ((26 : Int32) + ((upd ga_283 ((14 : Int32) + (ga_283 1)).toNatClampNeg v9_378) 1)).toNatClampNeg r_353) 1 (((upd (upd ga_283 ((14 : Int32) + (ga_283 1)).toNatClampNeg v9_378) ((26 : Int32) + ((upd ga_283 ((14 : Int32) + (ga_283 1)).toNatClampNeg v9_378) 1)).toNatClampNeg r_353) 1) + (1 : Int32))))) :: w) := hD
                                refine lv_iconst (v := 1) hx hb dL_put_488 (by decide) ?_
                                refine lv_icmp_eq (tgt := 495) hx hb dL_put_489 (by decide) (fun c_489 => ?_) (fun c_489 => ?_)
                                · have h1 := hp_pos c_489 h1
                                  refine lv_iinc (v := (x7_283 + (1 : Int32))) (lv' := [(7, .int (x7_283 + (1 : Int32))), (5, .int (((x5_283 + (1 : Int32)) + (1 : Int32)) + (1 : Int32))), (0, .ref (ad 0)), (1, .ref b), (2, .int x2), (3, .ref a_g), (6, .int r_275), (10, .int r_353)]) hx hb dL_put_495 hl (k := 6) rfl rfl (by decide) rfl (fun ls hl => ?_)
                                  refine lv_goto (tgt := 283) hx hb dL_put_498 (by decide) ?_
                                  cases h1
                                  exact ih_283 _ _ _ _ k1 _ _ _ _ hI hP hD hS (lv_sub hl [2, 3, 4, 5, 1, 6, 0] rfl)
                                · have h1 := hp_neg c_489 h1
                                  cases h1
                            have h2 := i_466
                            refine lv_icmp_ne (tgt := 461) hx hb dL_put_453 (by decide) (fun c_453 => ?_) (fun c_453 => ?_)
                            · have h2 := hp_neg c_453 h2
                              refine lv_bipush (v := 48) hx hb dL_put_461 (by decide) ?_
                              refine lv_iload hx hb dL_put_463 (lv_at hl 7 rfl) ?_
                              refine lv_iadd hx hb dL_put_465 ?_
                              obtain rfl := Option.some.inj h2
                              exact after_466 _ _ _ _ hI hP hD hS (lv_sub hl [1, 2, 3, 4, 0, 5, 6, 8] rfl)
                            · have h2 := hp_pos c_453 h2
                              refine lv_bipush (v := 119) hx hb dL_put_456 (by decide) ?_
                              refine lv_goto (tgt := 466) hx hb dL_put_458 (by decide) ?_
                              obtain rfl := Option.some.inj h2
                              exact after_466 _ _ _ _ hI hP hD hS (lv_sub hl [1, 2, 3, 4, 0, 5, 6, 8] rfl)
                        · have h1 := hp_neg c_393 h1
                          refine lv_goto (tgt := 495) hx hb dL_put_396 (by decide) ?_
                          refine lv_iinc (v := (x7_283 + (1 : Int32))) (lv' := [(7, .int (x7_283 + (1 : Int32))), (0, .ref (ad 0)), (1, .ref b), (2, .int x2), (3, .ref a_g), (5, .int x5_283), (6, .int r_275), (9, .int v9_378), (10, .int r_353)]) hx hb dL_put_495 hl (k := 6) rfl rfl (by decide) rfl (fun ls hl => ?_)
                          refine lv_goto (tgt := 283) hx hb dL_put_498 (by decide) ?_
                          cases h1
                          exact ih_283 _ _ _ _ k1 _ _ _ _ hI hP hD hS (lv_sub hl [1, 2, 3, 4, 5, 6, 0] rfl)
                    have h2 := i_378
                    refine lv_if_ne (tgt := 378) hx hb dL_put_366 (by decide) (fun c_366 => ?_) (fun c_366 => ?_)
                    · have h2 := hp_neg c_366 h2
                      obtain rfl := Option.some.inj h2
                      exact after_378 _ _ _ _ hI hP hD hS (lv_sub hl [2, 3, 4, 5, 6, 7, 8, 1, 0] rfl)
                    · have h2 := hp_pos c_366 h2
                      refine lv_aload_n hx hb dL_put_369 rfl (lv_at hl 5 rfl) ?_
                      refine lv_bipush (v := 8) hx hb dL_put_370 (by decide) ?_
                      refine lv_iload hx hb dL_put_372 (lv_at hl 0 rfl) ?_
                      refine lv_iadd hx hb dL_put_374 ?_
                      have g_375 := hg_no h2
                      have h2 := hg_yes h2
                      refine va_iald (D := (dC, dI)) hx hb hK hP 0 0 rfl rfl g_375 dL_put_375 ?_
                      refine lv_istore (lv' := [(9, .int (ga_283 ((8 : Int32) + r_353).toNatClampNeg)), (10, .int r_353), (0, .ref (ad 0)), (1, .ref b), (2, .int x2), (3, .ref a_g), (5, .int x5_283), (6, .int r_275), (7, .int x7_283), (8, .int (r_307 >>> (((x7_283 - x7_283 / (5 : Int32) * (5 : Int32)) * (6 : Int32)) &&& 31)))]) hx hb dL_put_376 hl (by decide) rfl (fun ls hl => ?_)
                      obtain rfl := Option.some.inj h2
                      exact after_378 _ _ _ _ hI hP hD hS (lv_sub hl [2, 3, 4, 5, 6, 7, 8, 0, 1] rfl)
                  have h2 := i_344
                  refine lv_if_ne (tgt := 334) hx hb dL_put_326 (by decide) (fun c_326 => ?_) (fun c_326 => ?_)
                  · have h2 := hp_neg c_326 h2
                    refine lv_iload hx hb dL_put_334 (lv_at hl 0 rfl) ?_
                    refine lv_iconst (v := 1) hx hb dL_put_336 (by decide) ?_
                    refine lv_ishr hx hb dL_put_337 ?_
                    refine lv_aload_n hx hb dL_put_338 rfl (lv_at hl 4 rfl) ?_
                    refine lv_iconst (v := 0) hx hb dL_put_339 (by decide) ?_
                    refine va_iald (D := (dC, dI)) hx hb hK hP 0 0 rfl rfl (by unfold vp_in; decide) dL_put_340 ?_
                    obtain ⟨r_341, e_341, h2⟩ := ob1_inv h2
                    refine k_pSi (rest := []) ⟨hx, hb, hml, hown, hts⟩ (c_L_some l dC dI cI cS e_341) (va_cwS 2 hts gL_put_L_some rfl rfl rfl khd_L_some.2 ⟨(Nat.le_of_ble_eq_true rfl), (Nat.le_of_ble_eq_true rfl)⟩) hK hN hP hD hS [] rfl rfl rfl hl.1 rfl (Nat.le_of_ble_eq_true rfl) dL_put_341 ⟨(Nat.le_of_ble_eq_true rfl), (Nat.le_of_ble_eq_true rfl)⟩ (fun H locs hf_341 hP hS => ?_)
                    have hP : va_P (dC, dI) vwCl ((a_g, .inl (cI, 38, .inl ga_283)) :: w) H := hP
                    obtain rfl := Option.some.inj h2
                    exact after_344 _ _ _ _ hI hP hD hS (lv_sub hl [1, 2, 3, 4, 5, 6, 7, 0] rfl)
                  · have h2 := hp_pos c_326 h2
                    refine lv_bipush (v := 6) hx hb dL_put_329 (by decide) ?_
                    refine lv_goto (tgt := 344) hx hb dL_put_331 (by decide) ?_
                    obtain rfl := Option.some.inj h2
                    exact after_344 _ _ _ _ hI hP hD hS (lv_sub hl [1, 2, 3, 4, 5, 6, 7, 0] rfl)
          exact lp_283 FUEL _ _ _ _ i_283 _ _ _ _ hI hP hD hS (lv_sub hl [2, 3, 4, 5, 7, 1, 0] rfl)
        have lp_73 : ∀ (n : Nat) (x5_73 : Int32) (x6_73 : Int32) (ga_73 : Nat → Int32) (SS_73 : SG), it (u4 (L_L_put_73 L xs x2)) n (x5_73, x6_73, ga_73, SS_73) = some (y5_73, ga_73e, SS_73e) → ∀ (w : va_W) (H : Heap) (locs : List Loc) (ls : Array Slot), gI cI cS ad SS_73 w → va_P (dC, dI) vwCl ((a_g, .inl (cI, 38, .inl ga_73)) :: w) H → va_D (inA (a_g :: AL ad)) ((a_g, .inl (cI, 38, .inl ga_73)) :: w) → va_S (inA (a_g :: AL ad)) s.heap H locs → lv_has ls 11 [(0, .ref (ad 0)), (1, .ref b), (2, .int x2), (3, .ref a_g), (4, .int r_2), (5, .int x5_73), (6, .int x6_73)] → W p l e (headSpec wsL_put ({ frames := 3, cells := 0, slots := 0, locals := 70 } : Room)).room s m ([.ref (ad 0), .ref b, .int x2, .ref a_g] : List Value).toArray below meth c H locs 0 0 (MQ below (kQ (some (.int r)) True (kB2 (dC, dI) cI cS ad z_SS [(a_g, .inl (cI, 38, .inl z_ga))]) (inA (List.map Prod.fst ([(a_g, .inl (cI, 38, .inl ga))] : va_W) ++ AL ad))) ([.ref (ad 0), .ref b, .int x2, .ref a_g] : List Value).toArray s 0 0 (inA (List.map Prod.fst ([(a_g, .inl (cI, 38, .inl ga))] : va_W) ++ AL ad))) (F0 m 73 ls []) := by
          intro n
          induction n with
          | zero => intro x5_73 x6_73 ga_73 SS_73 h1 w H locs ls hI hP hD hS hl; exact (it_0 h1).elim
          | succ n ih_73 =>
            intro x5_73 x6_73 ga_73 SS_73 h1 w H locs ls hI hP hD hS hl
            obtain ⟨t_73, h1, k1⟩ := it4_inv h1
            unfold L_L_put_73 at h1
            refine lv_iload hx hb dL_put_73 (lv_at hl 6 rfl) ?_
            refine lv_aload_n hx hb dL_put_75 rfl (lv_at hl 3 rfl) ?_
            refine lv_iconst (v := 0) hx hb dL_put_76 (by decide) ?_
            refine va_iald (D := (dC, dI)) hx hb hK hP 0 0 rfl rfl (by unfold vp_in; decide) dL_put_77 ?_
            refine lv_icmp_ge (tgt := 269) hx hb dL_put_78 (by decide) (fun c_78 => ?_) (fun c_78 => ?_)
            · have h1 := hp_pos c_78 h1
              cases h1
              obtain ⟨rfl, rfl, rfl⟩ := pj3 k1
              exact after_73 _ _ _ _ hI hP hD hS (lv_sub hl [0, 1, 2, 3, 4, 5] rfl)
            · have h1 := hp_neg c_78 h1
              refine lv_aload_n hx hb dL_put_81 rfl (lv_at hl 1 rfl) ?_
              refine lv_iload_n hx hb dL_put_82 rfl (lv_at hl 2 rfl) ?_
              refine lv_iconst (v := 1) hx hb dL_put_83 (by decide) ?_
              refine lv_iadd hx hb dL_put_84 ?_
              obtain ⟨r_85, e_85, h1⟩ := ob1_inv h1
              refine k_XSi (rest := []) ⟨hx, hb, hml, hown, hts⟩ (c_L_cell l e_85) (va_cwS 2 hts gL_put_L_cell rfl rfl rfl khd_L_cell.2 ⟨(Nat.le_of_ble_eq_true rfl), (Nat.le_of_ble_eq_true rfl)⟩) (hX.kept (hS.2.1 b hbl hbA)) hP hS rfl hl.1 rfl (Nat.le_of_ble_eq_true rfl) dL_put_85 ⟨(Nat.le_of_ble_eq_true rfl), (Nat.le_of_ble_eq_true rfl)⟩ (fun H locs hP hS => ?_)
              have hP : va_P (dC, dI) vwCl ((a_g, .inl (cI, 38, .inl ga_73)) :: w) H := hP
              refine lv_iconst (v := 5) hx hb dL_put_88 (by decide) ?_
              refine lv_iload hx hb dL_put_89 (lv_at hl 6 rfl) ?_
              refine lv_imul hx hb dL_put_91 ?_
              refine lv_ishr hx hb dL_put_92 ?_
              refine lv_istore (lv' := [(7, .int (r_85 >>> (((5 : Int32) * x6_73) &&& 31))), (0, .ref (ad 0)), (1, .ref b), (2, .int x2), (3, .ref a_g), (4, .int r_2), (5, .int x5_73), (6, .int x6_73)]) hx hb dL_put_93 hl (by decide) rfl (fun ls hl => ?_)
              refine lv_aload_n hx hb dL_put_95 rfl (lv_at hl 4 rfl) ?_
              refine lv_iconst (v := 2) hx hb dL_put_96 (by decide) ?_
              refine lv_iload hx hb dL_put_97 (lv_at hl 7 rfl) ?_
              refine lv_iadd hx hb dL_put_99 ?_
              refine lv_iload hx hb dL_put_100 (lv_at hl 0 rfl) ?_
              refine lv_iconst (v := 4) hx hb dL_put_102 (by decide) ?_
              obtain ⟨r_103, e_103, h1⟩ := ob1_inv h1
              refine k_pSi (rest := [.int ((2 : Int32) + x6_73), .ref a_g]) ⟨hx, hb, hml, hown, hts⟩ (c_L_some l dC dI cI cS e_103) (va_cwS 2 hts gL_put_L_some rfl rfl rfl khd_L_some.2 ⟨(Nat.le_of_ble_eq_true rfl), (Nat.le_of_ble_eq_true rfl)⟩) hK hN hP hD hS [] rfl rfl rfl hl.1 rfl (Nat.le_of_ble_eq_true rfl) dL_put_103 ⟨(Nat.le_of_ble_eq_true rfl), (Nat.le_of_ble_eq_true rfl)⟩ (fun H locs hf_103 hP hS => ?_)
              have hP : va_P (dC, dI) vwCl ((a_g, .inl (cI, 38, .inl ga_73)) :: w) H := hP
              refine lv_iconst (v := 3) hx hb dL_put_106 (by decide) ?_
              obtain ⟨u0_120, i_120, h1⟩ := ob1_inv h1
              have after_120 : ∀ (w : va_W) (H : Heap) (locs : List Loc) (ls : Array Slot), gI cI cS ad SS_73 w → va_P (dC, dI) vwCl ((a_g, .inl (cI, 38, .inl ga_73)) :: w) H → va_D (inA (a_g :: AL ad)) ((a_g, .inl (cI, 38, .inl ga_73)) :: w) → va_S (inA (a_g :: AL ad)) s.heap H locs → lv_has ls 11 [(0, .ref (ad 0)), (1, .ref b), (2, .int x2), (3, .ref a_g), (4, .int r_2), (5, .int x5_73), (6, .int x6_73), (7, .int (r_85 >>> (((5 : Int32) * x6_73) &&& 31)))] → W p l e (headSpec wsL_put ({ frames := 3, cells := 0, slots := 0, locals := 70 } : Room)).room s m ([.ref (ad 0), .ref b, .int x2, .ref a_g] : List Value).toArray below meth c H locs 0 0 (MQ below (kQ (some (.int r)) True (kB2 (dC, dI) cI cS ad z_SS [(a_g, .inl (cI, 38, .inl z_ga))]) (inA (List.map Prod.fst ([(a_g, .inl (cI, 38, .inl ga))] : va_W) ++ AL ad))) ([.ref (ad 0), .ref b, .int x2, .ref a_g] : List Value).toArray s 0 0 (inA (List.map Prod.fst ([(a_g, .inl (cI, 38, .inl ga))] : va_W) ++ AL ad))) (F0 m 120 ls [.int u0_120, .int ((2 : Int32) + x6_73), .ref a_g]) := by
                intro w H locs ls hI hP hD hS hl
                have g_120 := hg_no h1
                have h1 := hg_yes h1
                refine va_iast (D := (dC, dI)) hx hb hK hP hD hS 0 0 rfl rfl g_120 dL_put_120 (fun H locs hP hD hS => ?_)
                have hP : va_P (dC, dI) vwCl ((a_g, .inl (cI, 38, .inl (upd ga_73 ((2 : Int32) + x6_73).toNatClampNeg u0_120))) :: w) H := hP
                have hD : va_D (inA (a_g :: AL ad)) ((a_g, .inl (cI, 38, .inl (upd ga_73 ((2 : Int32) + x6_73).toNatClampNeg u0_120))) :: w) := hD
                refine lv_aload_n hx hb dL_put_121 rfl (lv_at hl 3 rfl) ?_
                refine lv_bipush (v := 8) hx hb dL_put_122 (by decide) ?_
                refine lv_iload hx hb dL_put_124 (lv_at hl 6 rfl) ?_
                refine lv_iadd hx hb dL_put_126 ?_
                refine lv_iload hx hb dL_put_127 (lv_at hl 6 rfl) ?_
                obtain ⟨u0_157, i_157, h1⟩ := ob1_inv h1
                have after_157 : ∀ (w : va_W) (H : Heap) (locs : List Loc) (ls : Array Slot), gI cI cS ad SS_73 w → va_P (dC, dI) vwCl ((a_g, .inl (cI, 38, .inl (upd ga_73 ((2 : Int32) + x6_73).toNatClampNeg u0_120))) :: w) H → va_D (inA (a_g :: AL ad)) ((a_g, .inl (cI, 38, .inl (upd ga_73 ((2 : Int32) + x6_73).toNatClampNeg u0_120))) :: w) → va_S (inA (a_g :: AL ad)) s.heap H locs → lv_has ls 11 [(0, .ref (ad 0)), (1, .ref b), (2, .int x2), (3, .ref a_g), (4, .int r_2), (5, .int x5_73), (6, .int x6_73)] → W p l e (headSpec wsL_put ({ frames := 3, cells := 0, slots := 0, locals := 70 } : Room)).room s m ([.ref (ad 0), .ref b, .int x2, .ref a_g] : List Value).toArray below meth c H locs 0 0 (MQ below (kQ (some (.int r)) True (kB2 (dC, dI) cI cS ad z_SS [(a_g, .inl (cI, 38, .inl z_ga))]) (inA (List.map Prod.fst ([(a_g, .inl (cI, 38, .inl ga))] : va_W) ++ AL ad))) ([.ref (ad 0), .ref b, .int x2, .ref a_g] : List Value).toArray s 0 0 (inA (List.map Prod.fst ([(a_g, .inl (cI, 38, .inl ga))] : va_W) ++ AL ad))) (F0 m 157 ls [.int u0_157, .int ((8 : Int32) + x6_73), .ref a_g]) := by
                  intro w H locs ls hI hP hD hS hl
                  have g_157 := hg_no h1
                  have h1 := hg_yes h1
                  refine va_iast (D := (dC, dI)) hx hb hK hP hD hS 0 0 rfl rfl g_157 dL_put_157 (fun H locs hP hD hS => ?_)
                  have hP : va_P (dC, dI) vwCl ((a_g, .inl (cI, 38, .inl (upd (upd ga_73 ((2 : Int32) + x6_73).toNatClampNeg u0_120) ((8 : Int32) + x6_73).toNatClampNeg u0_157))) :: w) H := hP
                  have hD : va_D (inA (a_g :: AL ad)) ((a_g, .inl (cI, 38, .inl (upd (upd ga_73 ((2 : Int32) + x6_73).toNatClampNeg u0_120) ((8 : Int32) + x6_73).toNatClampNeg u0_157))) :: w) := hD
                  refine lv_aload_n hx hb dL_put_158 rfl (lv_at hl 0 rfl) ?_
                  refine lv_iconst (v := 0) hx hb dL_put_159 (by decide) ?_
                  refine lv_iload hx hb dL_put_160 (lv_at hl 5 rfl) ?_
                  refine lv_iinc (v := (x5_73 + (1 : Int32))) (lv' := [(5, .int (x5_73 + (1 : Int32))), (0, .ref (ad 0)), (1, .ref b), (2, .int x2), (3, .ref a_g), (4, .int r_2), (6, .int x6_73)]) hx hb dL_put_162 hl (k := 5) rfl rfl (by decide) rfl (fun ls hl => ?_)
                  refine lv_bipush (v := 59) hx hb dL_put_165 (by decide) ?_
                  obtain ⟨r_167, r_167_S, e_167, h1⟩ := ob2_inv h1
                  refine k_GVi (pre := [(a_g, .inl (cI, 38, .inl (upd (upd ga_73 ((2 : Int32) + x6_73).toNatClampNeg u0_120) ((8 : Int32) + x6_73).toNatClampNeg u0_157)))]) (rest := []) ⟨hx, hb, hml, hown, hts⟩ (A_X4_put l dC dI cI cS ad e_167) (cwV 3 hts gL_put_X4_put rfl rfl rfl khd_X4_put ⟨(Nat.le_of_ble_eq_true rfl), (Nat.le_of_ble_eq_true rfl)⟩) hK hN hI hP hD hS rfl hl.1 rfl (Nat.le_of_ble_eq_true rfl) dL_put_167 ⟨(Nat.le_of_ble_eq_true rfl), (Nat.le_of_ble_eq_true rfl)⟩ (fun H locs w hI hP hD hS => ?_)
                  have hP : va_P (dC, dI) vwCl ((a_g, .inl (cI, 38, .inl (upd (upd ga_73 ((2 : Int32) + x6_73).toNatClampNeg u0_120) ((8 : Int32) + x6_73).toNatClampNeg u0_157))) :: w) H := hP
                  have hD : va_D (inA (a_g :: AL ad)) ((a_g, .inl (cI, 38, .inl (upd (upd ga_73 ((2 : Int32) + x6_73).toNatClampNeg u0_120) ((8 : Int32) + x6_73).toNatClampNeg u0_157))) :: w) := hD
                  refine lv_iconst (v := 1) hx hb dL_put_170 (by decide) ?_
                  refine lv_icmp_ne (tgt := 260) hx hb dL_put_171 (by decide) (fun c_171 => ?_) (fun c_171 => ?_)
                  · have h1 := hp_neg c_171 h1
                    cases h1
                  · have h1 := hp_pos c_171 h1
                    refine lv_aload_n hx hb dL_put_174 rfl (lv_at hl 1 rfl) ?_
                    refine lv_iconst (v := 0) hx hb dL_put_175 (by decide) ?_
                    refine lv_iload hx hb dL_put_176 (lv_at hl 0 rfl) ?_
                    refine lv_iinc (v := ((x5_73 + (1 : Int32)) + (1 : Int32))) (lv' := [(5, .int ((x5_73 + (1 : Int32)) + (1 : Int32))), (0, .ref (ad 0)), (1, .ref b), (2, .int x2), (3, .ref a_g), (4, .int r_2), (6, .int x6_73)]) hx hb dL_put_178 hl (k := 0) rfl rfl (by decide) rfl (fun ls hl => ?_)
                    refine lv_aload_n hx hb dL_put_181 rfl (lv_at hl 4 rfl) ?_
                    refine lv_iconst (v := 2) hx hb dL_put_182 (by decide) ?_
                    refine lv_iload hx hb dL_put_183 (lv_at hl 6 rfl) ?_
                    refine lv_iadd hx hb dL_put_185 ?_
                    have g_186 := hg_no h1
                    have h1 := hg_yes h1
                    refine va_iald (D := (dC, dI)) hx hb hK hP 0 0 rfl rfl g_186 dL_put_186 ?_
                    obtain ⟨u0_212, i_212, h1⟩ := ob1_inv h1
                    have after_212 : ∀ (w : va_W) (H : Heap) (locs : List Loc) (ls : Array Slot), gI cI cS ad r_167_S w → va_P (dC, dI) vwCl ((a_g, .inl (cI, 38, .inl (upd (upd ga_73 ((2 : Int32) + x6_73).toNatClampNeg u0_120) ((8 : Int32) + x6_73).toNatClampNeg u0_157))) :: w) H → va_D (inA (a_g :: AL ad)) ((a_g, .inl (cI, 38, .inl (upd (upd ga_73 ((2 : Int32) + x6_73).toNatClampNeg u0_120) ((8 : Int32) + x6_73).toNatClampNeg u0_157))) :: w) → va_S (inA (a_g :: AL ad)) s.heap H locs → lv_has ls 11 [(0, .ref (ad 0)), (1, .ref b), (2, .int x2), (3, .ref a_g), (4, .int r_2), (5, .int ((x5_73 + (1 : Int32)) + (1 : Int32))), (6, .int x6_73)] → W p l e (headSpec wsL_put ({ frames := 3, cells := 0, slots := 0, locals := 70 } : Room)).room s m ([.ref (ad 0), .ref b, .int x2, .ref a_g] : List Value).toArray below meth c H locs 0 0 (MQ below (kQ (some (.int r)) True (kB2 (dC, dI) cI cS ad z_SS [(a_g, .inl (cI, 38, .inl z_ga))]) (inA (List.map Prod.fst ([(a_g, .inl (cI, 38, .inl ga))] : va_W) ++ AL ad))) ([.ref (ad 0), .ref b, .int x2, .ref a_g] : List Value).toArray s 0 0 (inA (List.map Prod.fst ([(a_g, .inl (cI, 38, .inl ga))] : va_W) ++ AL ad))) (F0 m 212 ls [.int u0_212, .int (x5_73 + (1 : Int32)), .int (0 : Int32), .ref (ad 0)]) := by
                      intro w H locs ls hI hP hD hS hl
                      obtain ⟨r_212, r_212_S, e_212, h1⟩ := ob2_inv h1
                      refine k_GVi (pre := [(a_g, .inl (cI, 38, .inl (upd (upd ga_73 ((2 : Int32) + x6_73).toNatClampNeg u0_120) ((8 : Int32) + x6_73).toNatClampNeg u0_157)))]) (rest := []) ⟨hx, hb, hml, hown, hts⟩ (A_X4_put l dC dI cI cS ad e_212) (cwV 3 hts gL_put_X4_put rfl rfl rfl khd_X4_put ⟨(Nat.le_of_ble_eq_true rfl), (Nat.le_of_ble_eq_true rfl)⟩) hK hN hI hP hD hS rfl hl.1 rfl (Nat.le_of_ble_eq_true rfl) dL_put_212 ⟨(Nat.le_of_ble_eq_true rfl), (Nat.le_of_ble_eq_true rfl)⟩ (fun H locs w hI hP hD hS => ?_)
                      have hP : va_P (dC, dI) vwCl ((a_g, .inl (cI, 38, .inl (upd (upd ga_73 ((2 : Int32) + x6_73).toNatClampNeg u0_120) ((8 : Int32) + x6_73).toNatClampNeg u0_157))) :: w) H := hP
                      have hD : va_D (inA (a_g :: AL ad)) ((a_g, .inl (cI, 38, .inl (upd (upd ga_73 ((2 : Int32) + x6_73).toNatClampNeg u0_120) ((8 : Int32) + x6_73).toNatClampNeg u0_157))) :: w) := hD
                      refine lv_iconst (v := 1) hx hb dL_put_215 (by decide) ?_
                      refine lv_icmp_ne (tgt := 260) hx hb dL_put_216 (by decide) (fun c_216 => ?_) (fun c_216 => ?_)
                      · have h1 := hp_neg c_216 h1
                        cases h1
                      · have h1 := hp_pos c_216 h1
                        refine lv_aload_n hx hb dL_put_219 rfl (lv_at hl 0 rfl) ?_
                        refine lv_iconst (v := 0) hx hb dL_put_220 (by decide) ?_
                        refine lv_iload hx hb dL_put_221 (lv_at hl 5 rfl) ?_
                        refine lv_iinc (v := (((x5_73 + (1 : Int32)) + (1 : Int32)) + (1 : Int32))) (lv' := [(5, .int (((x5_73 + (1 : Int32)) + (1 : Int32)) + (1 : Int32))), (0, .ref (ad 0)), (1, .ref b), (2, .int x2), (3, .ref a_g), (4, .int r_2), (6, .int x6_73)]) hx hb dL_put_223 hl (k := 5) rfl rfl (by decide) rfl (fun ls hl => ?_)
                        refine lv_aload_n hx hb dL_put_226 rfl (lv_at hl 4 rfl) ?_
                        refine lv_bipush (v := 8) hx hb dL_put_227 (by decide) ?_
                        refine lv_iload hx hb dL_put_229 (lv_at hl 6 rfl) ?_
                        refine lv_iadd hx hb dL_put_231 ?_
                        have g_232 := hg_no h1
                        have h1 := hg_yes h1
                        refine va_iald (D := (dC, dI)) hx hb hK hP 0 0 rfl rfl g_232 dL_put_232 ?_
                        refine lv_bipush (v := 6) hx hb dL_put_233 (by decide) ?_
                        obtain ⟨u0_253, i_253, h1⟩ := ob1_inv h1
                        have after_253 : ∀ (w : va_W) (H : Heap) (locs : List Loc) (ls : Array Slot), gI cI cS ad r_212_S w → va_P (dC, dI) vwCl ((a_g, .inl (cI, 38, .inl (upd (upd ga_73 ((2 : Int32) + x6_73).toNatClampNeg u0_120) ((8 : Int32) + x6_73).toNatClampNeg u0_157))) :: w) H → va_D (inA (a_g :: AL ad)) ((a_g, .inl (cI, 38, .inl (upd (upd ga_73 ((2 : Int32) + x6_73).toNatClampNeg u0_120) ((8 : Int32) + x6_73).toNatClampNeg u0_157))) :: w) → va_S (inA (a_g :: AL ad)) s.heap H locs → lv_has ls 11 [(0, .ref (ad 0)), (1, .ref b), (2, .int x2), (3, .ref a_g), (4, .int r_2), (5, .int (((x5_73 + (1 : Int32)) + (1 : Int32)) + (1 : Int32))), (6, .int x6_73)] → W p l e (headSpec wsL_put ({ frames := 3, cells := 0, slots := 0, locals := 70 } : Room)).room s m ([.ref (ad 0), .ref b, .int x2, .ref a_g] : List Value).toArray below meth c H locs 0 0 (MQ below (kQ (some (.int r)) True (kB2 (dC, dI) cI cS ad z_SS [(a_g, .inl (cI, 38, .inl z_ga))]) (inA (List.map Prod.fst ([(a_g, .inl (cI, 38, .inl ga))] : va_W) ++ AL ad))) ([.ref (ad 0), .ref b, .int x2, .ref a_g] : List Value).toArray s 0 0 (inA (List.map Prod.fst ([(a_g, .inl (cI, 38, .inl ga))] : va_W) ++ AL ad))) (F0 m 253 ls [.int u0_253, .int ((x5_73 + (1 : Int32)) + (1 : Int32)), .int (0 : Int32), .ref (ad 0)]) := by
                          intro w H locs ls hI hP hD hS hl
                          obtain ⟨r_253, r_253_S, e_253, h1⟩ := ob2_inv h1
                          refine k_GVi (pre := [(a_g, .inl (cI, 38, .inl (upd (upd ga_73 ((2 : Int32) + x6_73).toNatClampNeg u0_120) ((8 : Int32) + x6_73).toNatClampNeg u0_157)))]) (rest := []) ⟨hx, hb, hml, hown, hts⟩ (A_X4_put l dC dI cI cS ad e_253) (cwV 3 hts gL_put_X4_put rfl rfl rfl khd_X4_put ⟨(Nat.le_of_ble_eq_true rfl), (Nat.le_of_ble_eq_true rfl)⟩) hK hN hI hP hD hS rfl hl.1 rfl (Nat.le_of_ble_eq_true rfl) dL_put_253 ⟨(Nat.le_of_ble_eq_true rfl), (Nat.le_of_ble_eq_true rfl)⟩ (fun H locs w hI hP hD hS => ?_)
                          have hP : va_P (dC, dI) vwCl ((a_g, .inl (cI, 38, .inl (upd (upd ga_73 ((2 : Int32) + x6_73).toNatClampNeg u0_120) ((8 : Int32) + x6_73).toNatClampNeg u0_157))) :: w) H := hP
                          have hD : va_D (inA (a_g :: AL ad)) ((a_g, .inl (cI, 38, .inl (upd (upd ga_73 ((2 : Int32) + x6_73).toNatClampNeg u0_120) ((8 : Int32) + x6_73).toNatClampNeg u0_157))) :: w) := hD
                          refine lv_iconst (v := 1) hx hb dL_put_256 (by decide) ?_
                          refine lv_icmp_eq (tgt := 263) hx hb dL_put_257 (by decide) (fun c_257 => ?_) (fun c_257 => ?_)
                          · have h1 := hp_pos c_257 h1
                            refine lv_iinc (v := (x6_73 + (1 : Int32))) (lv' := [(6, .int (x6_73 + (1 : Int32))), (0, .ref (ad 0)), (1, .ref b), (2, .int x2), (3, .ref a_g), (4, .int r_2), (5, .int (((x5_73 + (1 : Int32)) + (1 : Int32)) + (1 : Int32)))]) hx hb dL_put_263 hl (k := 6) rfl rfl (by decide) rfl (fun ls hl => ?_)
                            refine lv_goto (tgt := 73) hx hb dL_put_266 (by decide) ?_
                            cases h1
                            exact ih_73 _ _ _ _ k1 _ _ _ _ hI hP hD hS (lv_sub hl [1, 2, 3, 4, 5, 6, 0] rfl)
                          · have h1 := hp_neg c_257 h1
                            cases h1
                        have h2 := i_253
                        refine lv_icmp_ne (tgt := 243) hx hb dL_put_235 (by decide) (fun c_235 => ?_) (fun c_235 => ?_)
                        · have h2 := hp_neg c_235 h2
                          refine lv_bipush (v := 48) hx hb dL_put_243 (by decide) ?_
                          refine lv_aload_n hx hb dL_put_245 rfl (lv_at hl 4 rfl) ?_
                          refine lv_bipush (v := 8) hx hb dL_put_246 (by decide) ?_
                          refine lv_iload hx hb dL_put_248 (lv_at hl 6 rfl) ?_
                          refine lv_iadd hx hb dL_put_250 ?_
                          have g_251 := hg_no h2
                          have h2 := hg_yes h2
                          refine va_iald (D := (dC, dI)) hx hb hK hP 0 0 rfl rfl g_251 dL_put_251 ?_
                          refine lv_iadd hx hb dL_put_252 ?_
                          obtain rfl := Option.some.inj h2
                          exact after_253 _ _ _ _ hI hP hD hS (lv_sub hl [1, 2, 3, 4, 5, 0, 6] rfl)
                        · have h2 := hp_pos c_235 h2
                          refine lv_bipush (v := 119) hx hb dL_put_238 (by decide) ?_
                          refine lv_goto (tgt := 253) hx hb dL_put_240 (by decide) ?_
                          obtain rfl := Option.some.inj h2
                          exact after_253 _ _ _ _ hI hP hD hS (lv_sub hl [1, 2, 3, 4, 5, 0, 6] rfl)
                    have h2 := i_212
                    refine lv_if_ne (tgt := 195) hx hb dL_put_187 (by decide) (fun c_187 => ?_) (fun c_187 => ?_)
                    · have h2 := hp_neg c_187 h2
                      refine lv_aload_n hx hb dL_put_195 rfl (lv_at hl 4 rfl) ?_
                      refine lv_iconst (v := 2) hx hb dL_put_196 (by decide) ?_
                      refine lv_iload hx hb dL_put_197 (lv_at hl 6 rfl) ?_
                      refine lv_iadd hx hb dL_put_199 ?_
                      have g_200 := hg_no h2
                      have h2 := hg_yes h2
                      refine va_iald (D := (dC, dI)) hx hb hK hP 0 0 rfl rfl g_200 dL_put_200 ?_
                      refine lv_iconst (v := 1) hx hb dL_put_201 (by decide) ?_
                      refine lv_icmp_ne (tgt := 210) hx hb dL_put_202 (by decide) (fun c_202 => ?_) (fun c_202 => ?_)
                      · have h2 := hp_neg c_202 h2
                        refine lv_bipush (v := 100) hx hb dL_put_210 (by decide) ?_
                        obtain rfl := Option.some.inj h2
                        exact after_212 _ _ _ _ hI hP hD hS (lv_sub hl [1, 2, 3, 4, 5, 0, 6] rfl)
                      · have h2 := hp_pos c_202 h2
                        refine lv_bipush (v := 103) hx hb dL_put_205 (by decide) ?_
                        refine lv_goto (tgt := 212) hx hb dL_put_207 (by decide) ?_
                        obtain rfl := Option.some.inj h2
                        exact after_212 _ _ _ _ hI hP hD hS (lv_sub hl [1, 2, 3, 4, 5, 0, 6] rfl)
                    · have h2 := hp_pos c_187 h2
                      refine lv_bipush (v := 112) hx hb dL_put_190 (by decide) ?_
                      refine lv_goto (tgt := 212) hx hb dL_put_192 (by decide) ?_
                      obtain rfl := Option.some.inj h2
                      exact after_212 _ _ _ _ hI hP hD hS (lv_sub hl [1, 2, 3, 4, 5, 0, 6] rfl)
                have h2 := i_157
                refine lv_if_eq (tgt := 143) hx hb dL_put_129 (by decide) (fun c_129 => ?_) (fun c_129 => ?_)
                · have h2 := hp_pos c_129 h2
                  refine lv_bipush (v := 6) hx hb dL_put_143 (by decide) ?_
                  refine lv_goto (tgt := 157) hx hb dL_put_145 (by decide) ?_
                  obtain rfl := Option.some.inj h2
                  exact after_157 _ _ _ _ hI hP hD hS (lv_sub hl [0, 1, 2, 3, 4, 5, 6] rfl)
                · have h2 := hp_neg c_129 h2
                  refine lv_iload hx hb dL_put_132 (lv_at hl 7 rfl) ?_
                  refine lv_iconst (v := 2) hx hb dL_put_134 (by decide) ?_
                  refine lv_ishr hx hb dL_put_135 ?_
                  refine lv_iconst (v := 3) hx hb dL_put_136 (by decide) ?_
                  obtain ⟨r_137, e_137, h2⟩ := ob1_inv h2
                  refine k_pSi (rest := [.int ((8 : Int32) + x6_73), .ref a_g]) ⟨hx, hb, hml, hown, hts⟩ (c_L_some l dC dI cI cS e_137) (va_cwS 2 hts gL_put_L_some rfl rfl rfl khd_L_some.2 ⟨(Nat.le_of_ble_eq_true rfl), (Nat.le_of_ble_eq_true rfl)⟩) hK hN hP hD hS [] rfl rfl rfl hl.1 rfl (Nat.le_of_ble_eq_true rfl) dL_put_137 ⟨(Nat.le_of_ble_eq_true rfl), (Nat.le_of_ble_eq_true rfl)⟩ (fun H locs hf_137 hP hS => ?_)
                  have hP : va_P (dC, dI) vwCl ((a_g, .inl (cI, 38, .inl (upd ga_73 ((2 : Int32) + x6_73).toNatClampNeg u0_120))) :: w) H := hP
                  refine lv_if_ne (tgt := 148) hx hb dL_put_140 (by decide) (fun c_140 => ?_) (fun c_140 => ?_)
                  · have h2 := hp_neg c_140 h2
                    refine lv_iload hx hb dL_put_148 (lv_at hl 7 rfl) ?_
                    refine lv_iconst (v := 3) hx hb dL_put_150 (by decide) ?_
                    refine lv_ishr hx hb dL_put_151 ?_
                    refine lv_iload hx hb dL_put_152 (lv_at hl 6 rfl) ?_
                    obtain ⟨r_154, e_154, h2⟩ := ob1_inv h2
                    refine k_pSi (rest := [.int ((8 : Int32) + x6_73), .ref a_g]) ⟨hx, hb, hml, hown, hts⟩ (c_L_some l dC dI cI cS e_154) (va_cwS 2 hts gL_put_L_some rfl rfl rfl khd_L_some.2 ⟨(Nat.le_of_ble_eq_true rfl), (Nat.le_of_ble_eq_true rfl)⟩) hK hN hP hD hS [] rfl rfl rfl hl.1 rfl (Nat.le_of_ble_eq_true rfl) dL_put_154 ⟨(Nat.le_of_ble_eq_true rfl), (Nat.le_of_ble_eq_true rfl)⟩ (fun H locs hf_154 hP hS => ?_)
                    have hP : va_P (dC, dI) vwCl ((a_g, .inl (cI, 38, .inl (upd ga_73 ((2 : Int32) + x6_73).toNatClampNeg u0_120))) :: w) H := hP
                    obtain rfl := Option.some.inj h2
                    exact after_157 _ _ _ _ hI hP hD hS (lv_sub hl [0, 1, 2, 3, 4, 5, 6] rfl)
                  · have h2 := hp_pos c_140 h2
                    refine lv_bipush (v := 6) hx hb dL_put_143 (by decide) ?_
                    refine lv_goto (tgt := 157) hx hb dL_put_145 (by decide) ?_
                    obtain rfl := Option.some.inj h2
                    exact after_157 _ _ _ _ hI hP hD hS (lv_sub hl [0, 1, 2, 3, 4, 5, 6] rfl)
              have h2 := i_120
              refine lv_icmp_ne (tgt := 114) hx hb dL_put_107 (by decide) (fun c_107 => ?_) (fun c_107 => ?_)
              · have h2 := hp_neg c_107 h2
                refine lv_iload hx hb dL_put_114 (lv_at hl 0 rfl) ?_
                refine lv_iconst (v := 4) hx hb dL_put_116 (by decide) ?_
                obtain ⟨r_117, e_117, h2⟩ := ob1_inv h2
                refine k_pSi (rest := [.int ((2 : Int32) + x6_73), .ref a_g]) ⟨hx, hb, hml, hown, hts⟩ (c_L_some l dC dI cI cS e_117) (va_cwS 2 hts gL_put_L_some rfl rfl rfl khd_L_some.2 ⟨(Nat.le_of_ble_eq_true rfl), (Nat.le_of_ble_eq_true rfl)⟩) hK hN hP hD hS [] rfl rfl rfl hl.1 rfl (Nat.le_of_ble_eq_true rfl) dL_put_117 ⟨(Nat.le_of_ble_eq_true rfl), (Nat.le_of_ble_eq_true rfl)⟩ (fun H locs hf_117 hP hS => ?_)
                have hP : va_P (dC, dI) vwCl ((a_g, .inl (cI, 38, .inl ga_73)) :: w) H := hP
                obtain rfl := Option.some.inj h2
                exact after_120 _ _ _ _ hI hP hD hS (lv_sub hl [1, 2, 3, 4, 5, 6, 7, 0] rfl)
              · have h2 := hp_pos c_107 h2
                refine lv_iconst (v := 0) hx hb dL_put_110 (by decide) ?_
                refine lv_goto (tgt := 120) hx hb dL_put_111 (by decide) ?_
                obtain rfl := Option.some.inj h2
                exact after_120 _ _ _ _ hI hP hD hS (lv_sub hl [1, 2, 3, 4, 5, 6, 7, 0] rfl)
        exact lp_73 FUEL _ _ _ _ i_73 _ _ _ _ hI hP hD hS (lv_sub hl [2, 3, 4, 5, 6, 1, 0] rfl)
      · have h := hp_neg c_61 h
        cases h
  have lp_10 : ∀ (n : Nat) (x5_10 : Int32) (ga_10 : Nat → Int32), it (u2 (L_L_put_10)) n (x5_10, ga_10) = some ga_10e → ∀ (w : va_W) (H : Heap) (locs : List Loc) (ls : Array Slot), gI cI cS ad SS w → va_P (dC, dI) vwCl ((a_g, .inl (cI, 38, .inl ga_10)) :: w) H → va_D (inA (a_g :: AL ad)) ((a_g, .inl (cI, 38, .inl ga_10)) :: w) → va_S (inA (a_g :: AL ad)) s.heap H locs → lv_has ls 11 [(0, .ref (ad 0)), (1, .ref b), (2, .int x2), (3, .ref a_g), (4, .int r_2), (5, .int x5_10)] → W p l e (headSpec wsL_put ({ frames := 3, cells := 0, slots := 0, locals := 70 } : Room)).room s m ([.ref (ad 0), .ref b, .int x2, .ref a_g] : List Value).toArray below meth c H locs 0 0 (MQ below (kQ (some (.int r)) True (kB2 (dC, dI) cI cS ad z_SS [(a_g, .inl (cI, 38, .inl z_ga))]) (inA (List.map Prod.fst ([(a_g, .inl (cI, 38, .inl ga))] : va_W) ++ AL ad))) ([.ref (ad 0), .ref b, .int x2, .ref a_g] : List Value).toArray s 0 0 (inA (List.map Prod.fst ([(a_g, .inl (cI, 38, .inl ga))] : va_W) ++ AL ad))) (F0 m 10 ls []) := by
    intro n
    induction n with
    | zero => intro x5_10 ga_10 h1 w H locs ls hI hP hD hS hl; exact (it_0 h1).elim
    | succ n ih_10 =>
      intro x5_10 ga_10 h1 w H locs ls hI hP hD hS hl
      obtain ⟨t_10, h1, k1⟩ := it2_inv h1
      unfold L_L_put_10 at h1
      refine lv_iload hx hb dL_put_10 (lv_at hl 5 rfl) ?_
      refine lv_bipush (v := 38) hx hb dL_put_12 (by decide) ?_
      refine lv_icmp_ge (tgt := 28) hx hb dL_put_14 (by decide) (fun c_14 => ?_) (fun c_14 => ?_)
      · have h1 := hp_pos c_14 h1
        cases h1
        obtain rfl := pj1 k1
        exact after_10 _ _ _ _ hI hP hD hS (lv_sub hl [0, 1, 2, 3, 4] rfl)
      · have h1 := hp_neg c_14 h1
        refine lv_aload_n hx hb dL_put_17 rfl (lv_at hl 3 rfl) ?_
        refine lv_iload hx hb dL_put_18 (lv_at hl 5 rfl) ?_
        refine lv_iconst (v := 0) hx hb dL_put_20 (by decide) ?_
        have g_21 := hg_no h1
        have h1 := hg_yes h1
        refine va_iast (D := (dC, dI)) hx hb hK hP hD hS 0 0 rfl rfl g_21 dL_put_21 (fun H locs hP hD hS => ?_)
        have hP : va_P (dC, dI) vwCl ((a_g, .inl (cI, 38, .inl (upd ga_10 x5_10.toNatClampNeg (0 : Int32)))) :: w) H := hP
        have hD : va_D (inA (a_g :: AL ad)) ((a_g, .inl (cI, 38, .inl (upd ga_10 x5_10.toNatClampNeg (0 : Int32)))) :: w) := hD
        refine lv_iinc (v := (x5_10 + (1 : Int32))) (lv' := [(5, .int (x5_10 + (1 : Int32))), (0, .ref (ad 0)), (1, .ref b), (2, .int x2), (3, .ref a_g), (4, .int r_2)]) hx hb dL_put_22 hl (k := 5) rfl rfl (by decide) rfl (fun ls hl => ?_)
        refine lv_goto (tgt := 10) hx hb dL_put_25 (by decide) ?_
        cases h1
        exact ih_10 _ _ k1 _ _ _ _ hI hP hD hS (lv_sub hl [1, 2, 3, 4, 5, 0] rfl)
  exact lp_10 FUEL _ _ i_10 _ _ _ _ hI hP hD hS (lv_sub hl [2, 3, 4, 5, 1, 0] rfl)
