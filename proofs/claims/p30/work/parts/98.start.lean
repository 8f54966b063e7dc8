/-! from the end to the front -/
theorem gP_sw {D : va_G} {cl : List vw_C} {a b : va_W} {H : Heap} (h : va_P D cl (a ++ b) H) : va_P D cl (b ++ a) H := (gP_r h).app (gP_l h)
theorem gD_sw {A : Nat → Prop} {a b : va_W} (h : va_D A (a ++ b)) : va_D A (b ++ a) := va_D.app (gD_r h) (gD_l h) (fun i j p q hi hj e => gD_x h hj hi e.symm)
set_option maxHeartbeats 16000000 in
set_option maxRecDepth 100000 in
/-- THE LAW, from its entry -/
theorem whole_start {p : Program} {e : Env} {s : State} {m : MethodId} {below : List Frame} {meth : Method} {c : Code} (l : Launch) (hflags : l.flags = flags0) {b L : Nat} {xs : Nat → Int32} (hL : L ≤ 260) (C0 : lw_At p s m meth c b L xs) : W p l e room_1 s m #[Value.ref b] below meth c s.heap [] 0 0 (lw_Z below #[Value.ref b] s) (entryFrame m ([Value.ref b] : List Value).toArray 19) := by
  obtain ⟨hx, hb, hr, hml, hown, hts, hX, hbl, hlocks, hgv⟩ := id C0
  have htl : ∀ w ∈ wsL_law, w.before #[Value.ref b] s = true := fun w h => hts w (wsL_law_in w h)
  have hA : ∀ q : Nat, s.heap.size ≤ q → (fun q : Nat => s.heap.size ≤ q) q := fun _ h => h
  have hbA : ¬ (fun q : Nat => s.heap.size ≤ q) b := Nat.not_le.mpr hbl
  obtain ⟨c0, iS0, hKn0⟩ := u_known (C := RX0) (T := TX0) (N := 4) (n := 4) hts inX0 (hts (.instantiable RX0 4) (List.mem_append_right _ (List.mem_of_getElem? (i := 47) (by decide +kernel))))
  obtain ⟨c1, iS1, hKn1⟩ := u_known (C := RX1) (T := TX1) (N := 3) (n := 3) hts inX1 (hts (.instantiable RX1 3) (List.mem_append_right _ (List.mem_of_getElem? (i := 67) (by decide +kernel))))
  obtain ⟨c2, iS2, hKn2⟩ := u_known (C := RX2) (T := TX2) (N := 5) (n := 5) hts inX2 (hts (.instantiable RX2 5) (List.mem_append_right _ (List.mem_of_getElem? (i := 83) (by decide +kernel))))
  obtain ⟨c3, iS3, hKn3⟩ := u_known (C := RX3) (T := TX3) (N := 7) (n := 7) hts inX3 (hts (.instantiable RX3 7) (List.mem_append_right _ (List.mem_of_getElem? (i := 18) (by decide +kernel))))
  obtain ⟨c4, iS4, hKn4⟩ := u_known (C := RX4) (T := TX4) (N := 7) (n := 7) hts inX4 (hts (.instantiable RX4 7) (List.mem_append_right _ (List.mem_of_getElem? (i := 10) (by decide +kernel))))
  obtain ⟨cI, kI, compI, fI1, fI2, fI3⟩ := Cond.arrayClass_spec (hts (.arrayClass .int) (List.mem_append_right _ (List.mem_of_getElem? (i := 45) (by decide +kernel))))
  have hov : va_AO "OwnedThings$Sheet" s := va_AO.of (hts (.arrayOver (.object "OwnedThings$Sheet")) (List.mem_append_right _ (List.mem_of_getElem? (i := 66) (by decide +kernel))))
  obtain ⟨compS, cS, kS, gS1, gS2, gS3, gS4, gS5⟩ := Cond.arrayOver_spec hov
  have hN : Nst s := ⟨va_Nw.of rfl (hts (.methodLinkNest RX3 81 yX4_bit "OwnedThings") (List.mem_append_right _ (List.mem_of_getElem? (i := 262) (by decide +kernel)))), va_Nw.of rfl (hts (.methodLinkNest RX3 87 yX4_holds "OwnedThings") (List.mem_append_right _ (List.mem_of_getElem? (i := 269) (by decide +kernel)))), trivial⟩
  obtain ⟨dC, dI, hKc⟩ : ∃ (dC : Nat → ClassId) (dI : Nat → Nat → Nat), ∀ (k : Nat) (q : vw_C), vwCl[k]? = some q → u_Kn s q.1 q.2.1 q.2.2 (dC k) (dI k) := by
    refine ⟨fun k => if k = 0 then c0 else if k = 1 then c1 else if k = 2 then c2 else if k = 3 then c3 else c4, fun k => if k = 0 then iS0 else if k = 1 then iS1 else if k = 2 then iS2 else if k = 3 then iS3 else iS4, ?_⟩
    intro k q hq
    match k, hq with
    | 0, hq => cases hq; exact hKn0
    | 1, hq => cases hq; exact hKn1
    | 2, hq => cases hq; exact hKn2
    | 3, hq => cases hq; exact hKn3
    | 4, hq => cases hq; exact hKn4
    | k + 5, hq => simp [vwCl] at hq
  have hS : va_S (fun q : Nat => s.heap.size ≤ q) s.heap s.heap [] := va_S.rf
  have hK : va_K (dC, dI) vwCl (tyW cI cS) s := by
    refine ⟨hKc, fun k q h => ?_⟩
    match k, h with
    | 0, h => cases h; exact ⟨fun n z => ⟨fun k h => (by cases h), kI, fI2, compI, fI3⟩, fI1⟩
    | 1, h => cases h; exact ⟨fun n z => ⟨fun k h => (by cases h), kS, gS3, compS, gS4⟩, kS, compS, gS3, gS4, gS1, gS5⟩
    | k + 2, h => simp [tyW] at h
  have hP : va_P (dC, dI) vwCl [] s.heap := fun k q h => by simp at h
  have hD : va_D (fun q : Nat => s.heap.size ≤ q) [] := ⟨fun i j p q h => by simp at h, fun k q h => by simp at h⟩
  have hl := lv_entry ([.ref b]) (n := 19) (Nat.le_of_ble_eq_true rfl)
  rw [lg_entry_eq]
  generalize (lg_sl ([.ref b]) ++ List.replicate (19 - (lg_sl ([.ref b])).length) Slot.unset).toArray = ls at hl ⊢
  have hl : lv_has ls 19 [(0, .ref b)] := hl
  refine va_new (D := (dC, dI)) (ci := 4) (fs := [.null, .null, .null, .null, .null, .int 0, .int 0]) (C := RX4) (T := TX4) (N := 7) hx hb hts inX4 tyX4 tyX4_ok hown (hts (.classLink R_law 20 RX4) (List.mem_append_right _ (List.mem_of_getElem? (i := 9) (by decide +kernel)))) (hts (.instantiable RX4 7) (List.mem_append_right _ (List.mem_of_getElem? (i := 10) (by decide +kernel)))) (hts (.initialized RX4) (List.mem_append_right _ (List.mem_of_getElem? (i := 1) (by decide +kernel)))) hK hP hD hS hA rfl dfX4 (Nat.le_of_ble_eq_true rfl) (Nat.le_of_ble_eq_true rfl) dL_law_0 (fun qo H hP hD hS => ?_)
  refine W.widen (k := 1) (n := 7) (Nat.le_of_ble_eq_true rfl) (Nat.le_of_ble_eq_true rfl) ?_
  have hP : va_P (dC, dI) vwCl [(qo, .inr (4, [.null, .null, .null, .null, .null, .int 0, .int 0]))] H := hP
  have hD : va_D (fun q : Nat => s.heap.size ≤ q) [(qo, .inr (4, [.null, .null, .null, .null, .null, .int 0, .int 0]))] := hD
  refine lv_dup hx hb dL_law_3 rfl ?_
  have hPc := hP.sub (ws' := [(qo, .inr (4, [.null, .null, .null, .null, .null, .int 0, .int 0]))]) [0] rfl
  have hDc := hD.sub (ws' := [(qo, .inr (4, [.null, .null, .null, .null, .null, .int 0, .int 0]))]) [0] (by decide) rfl
  have hFc := va_free (wc := [(qo, .inr (4, [.null, .null, .null, .null, .null, .int 0, .int 0]))]) hD hS hA [0] rfl
  refine va_callv (va_runI (As := []) (rest := [.ref qo]) ⟨hx, hb, hml, hown, htl⟩ (c_X4_init l dC dI cI cS qo H.size) (cwI 0 htl gL_law_X4_init rfl rfl rfl (hts (.initialized RX4) (List.mem_append_right _ (List.mem_of_getElem? (i := 1) (by decide +kernel)))) (hts (.methodLink R_law 62 yX4_init) (List.mem_append_right _ (List.mem_of_getElem? (i := 11) (by decide +kernel)))) (hts (.instanceMethod yX4_init) (List.mem_append_right _ (List.mem_of_getElem? (i := 12) (by decide +kernel)))) rfl (by decide +kernel) ⟨(Nat.le_of_ble_eq_true rfl), (Nat.le_of_ble_eq_true rfl)⟩) ⟨fun a U g mk q => by obtain ⟨q0, q1, qP, qK, qD, qO⟩ := q; exact ⟨q0, q1, qP, va_K.moved (u := U) (U := U.calling g mk a) (Vm.Alike.refl U.vm) qK, qD, va_AO.moved (u := U) (U := U.calling g mk a) (Vm.Alike.refl U.vm) qO⟩, fun U hU hW => ⟨rfl, by rw [hU], by rw [hU]; exact hPc, va_K.moved hW.alike hK, hDc.weaken (fun _ _ _ _ => trivial), hov.moved hW.alike⟩⟩ rfl rfl hl.1 rfl (lv_room (Nat.le_of_ble_eq_true rfl)) dL_law_4 ⟨(Nat.le_of_ble_eq_true rfl), (Nat.le_of_ble_eq_true rfl)⟩) hS (fun q _ h => hFc q h) hFc (fun u t H1 locs ht hvm hw hB hz1 hk1 hS => ?_)
  obtain ⟨hP1, -, hD1⟩ := hB
  rw [ht] at hP1
  obtain ⟨u4, rfl⟩ : ∃ z, z = u := ⟨_, rfl⟩
  obtain ⟨hP, hD⟩ := va_join (wr := []) (w1 := [(qo, .inr (4, [.ref (u4 0), .ref (u4 1), .ref (u4 2), .ref (u4 3), .ref (u4 4), .int 0, .int 0])), ((u4 3), .inl (cS, 4, .inr (.inr (.inr (.inr (fun j => some (u4 (20 + j)))))))), ((u4 2), .inr (0, [.int 0, .ref (u4 5), .ref (u4 6), .ref (u4 7)])), ((u4 5), .inl (cI, 8, .inl (fun _ => 0))), ((u4 6), .inl (cI, 8, .inl (fun _ => 0))), ((u4 7), .inl (cI, 8, .inl (fun _ => 0))), ((u4 4), .inr (2, [.ref (u4 20), .int 0, .int 0, .int 0, .ref (u4 1)])), ((u4 0), .inr (3, [.int 0, .int 0, .ref (u4 8), .ref (u4 9), .ref (u4 10), .ref (u4 11), .ref (u4 12)])), ((u4 8), .inl (cI, 6, .inl (fun _ => 0))), ((u4 9), .inl (cI, 6, .inl (fun _ => 0))), ((u4 10), .inl (cI, 12, .inl (fun _ => 0))), ((u4 11), .inl (cI, 12, .inl (fun _ => 0))), ((u4 12), .inl (cI, 7, .inl (fun _ => 0))), ((u4 1), .inr (3, [.int 0, .int 0, .ref (u4 13), .ref (u4 14), .ref (u4 15), .ref (u4 16), .ref (u4 17)])), ((u4 13), .inl (cI, 6, .inl (fun _ => 0))), ((u4 14), .inl (cI, 6, .inl (fun _ => 0))), ((u4 15), .inl (cI, 12, .inl (fun _ => 0))), ((u4 16), .inl (cI, 12, .inl (fun _ => 0))), ((u4 17), .inl (cI, 7, .inl (fun _ => 0))), ((u4 20), .inr (1, [.int 0, .int (-1), .ref (u4 24)])), ((u4 24), .inl (cI, 60, .inl (fun _ => 0))), ((u4 21), .inr (1, [.int 0, .int (-1), .ref (u4 25)])), ((u4 25), .inl (cI, 60, .inl (fun _ => 0))), ((u4 22), .inr (1, [.int 0, .int (-1), .ref (u4 26)])), ((u4 26), .inl (cI, 60, .inl (fun _ => 0))), ((u4 23), .inr (1, [.int 0, .int (-1), .ref (u4 27)])), ((u4 27), .inl (cI, 60, .inl (fun _ => 0)))]) hP hD [0] [] rfl rfl (by decide) (by decide) hk1 hFc hP1 hD1
  generalize H1 = H at hP hS ⊢
  refine W.widen (k := 27) (n := 396) (Nat.le_of_ble_eq_true rfl) (Nat.le_of_ble_eq_true rfl) ?_
  obtain ⟨ad, had⟩ : ∃ ad : Nat → Nat, ad = fun k => if k = 0 then qo else u4 (k - 1) := ⟨_, rfl⟩
  obtain ⟨w, hw0⟩ : ∃ w : va_W, w = gW cI cS ad (u4 20) 0 0 0 0 0 0 0 0 0 0 (fun _ => 0) (fun _ => 0) (fun _ => 0) (fun _ => 0) (fun _ => 0) (fun _ => 0) (fun _ => 0) (fun _ => 0) (fun _ => 0) (fun _ => 0) (fun _ => 0) (fun _ => 0) (fun _ => 0) (fun _ => 0) (fun _ => -1) (fun _ _ => 0) := ⟨_, rfl⟩
  have hI : gI cI cS ad (((0, 0, fun _ => 0, fun _ => 6, fun _ => 0, fun _ => 0), fun _ => 0, fun _ => -1, fun _ _ => 0) : SG) w := ⟨(u4 20), 0, 0, 0, 0, 0, 0, 0, 0, 0, 0, (fun _ => 0), (fun _ => 0), (fun _ => 0), (fun _ => 0), (fun _ => 0), (fun _ => 0), (fun _ => 0), (fun _ => 0), (fun _ => 0), (fun _ => 0), (fun _ => 0), (fun _ => 0), (fun _ => 0), (fun _ => 0), (fun _ => -1), (fun _ _ => 0), ⟨⟨⟨by decide, by decide, fun q hq => absurd hq (Nat.not_lt_zero q)⟩, fun t ht => absurd ht (Nat.not_lt_zero t), fun t _ => rfl, fun t ht => absurd ht (Nat.not_lt_zero t)⟩, ⟨rfl, rfl, fun i hi => absurd hi (Nat.not_lt_zero i), fun i hi => absurd hi (Nat.not_lt_zero i), fun i hi => absurd hi (Nat.not_lt_zero i), fun i hi => absurd hi (Nat.not_lt_zero i)⟩, rfl, rfl, rfl⟩, hw0⟩
  have hsh : (fun (j : Nat) => some (ad (21 + j))) = (fun (j : Nat) => some (u4 (20 + j))) := funext (fun j => by rw [had]; show some (if 21 + j = 0 then qo else u4 (21 + j - 1)) = _; rw [if_neg (by omega), show 21 + j - 1 = 20 + j by omega])
  have hww : [(qo, .inr (4, [.ref (u4 0), .ref (u4 1), .ref (u4 2), .ref (u4 3), .ref (u4 4), .int 0, .int 0])), ((u4 3), .inl (cS, 4, .inr (.inr (.inr (.inr (fun j => some (u4 (20 + j)))))))), ((u4 2), .inr (0, [.int 0, .ref (u4 5), .ref (u4 6), .ref (u4 7)])), ((u4 5), .inl (cI, 8, .inl (fun _ => 0))), ((u4 6), .inl (cI, 8, .inl (fun _ => 0))), ((u4 7), .inl (cI, 8, .inl (fun _ => 0))), ((u4 4), .inr (2, [.ref (u4 20), .int 0, .int 0, .int 0, .ref (u4 1)])), ((u4 0), .inr (3, [.int 0, .int 0, .ref (u4 8), .ref (u4 9), .ref (u4 10), .ref (u4 11), .ref (u4 12)])), ((u4 8), .inl (cI, 6, .inl (fun _ => 0))), ((u4 9), .inl (cI, 6, .inl (fun _ => 0))), ((u4 10), .inl (cI, 12, .inl (fun _ => 0))), ((u4 11), .inl (cI, 12, .inl (fun _ => 0))), ((u4 12), .inl (cI, 7, .inl (fun _ => 0))), ((u4 1), .inr (3, [.int 0, .int 0, .ref (u4 13), .ref (u4 14), .ref (u4 15), .ref (u4 16), .ref (u4 17)])), ((u4 13), .inl (cI, 6, .inl (fun _ => 0))), ((u4 14), .inl (cI, 6, .inl (fun _ => 0))), ((u4 15), .inl (cI, 12, .inl (fun _ => 0))), ((u4 16), .inl (cI, 12, .inl (fun _ => 0))), ((u4 17), .inl (cI, 7, .inl (fun _ => 0))), ((u4 20), .inr (1, [.int 0, .int (-1), .ref (u4 24)])), ((u4 24), .inl (cI, 60, .inl (fun _ => 0))), ((u4 21), .inr (1, [.int 0, .int (-1), .ref (u4 25)])), ((u4 25), .inl (cI, 60, .inl (fun _ => 0))), ((u4 22), .inr (1, [.int 0, .int (-1), .ref (u4 26)])), ((u4 26), .inl (cI, 60, .inl (fun _ => 0))), ((u4 23), .inr (1, [.int 0, .int (-1), .ref (u4 27)])), ((u4 27), .inl (cI, 60, .inl (fun _ => 0)))] = w := by
    rw [hw0]
    unfold gW
    rw [hsh, had]
    rfl
  have hP : va_P (dC, dI) vwCl w H := by rw [← hww]; exact hP
  have hD : va_D (fun q : Nat => s.heap.size ≤ q) w := by rw [← hww]; exact hD
  have hqo : qo = ad 0 := by rw [had]; rfl
  clear hww hw0 hPc hDc hFc hP1 hD1
  refine lv_astore_n (lv' := [(1, .ref qo), (0, .ref b)]) hx hb dL_law_7 rfl hl (by decide) rfl (fun ls hl => ?_)
  refine lv_bipush (v := 38) hx hb dL_law_8 (by decide) ?_
  refine va_newa (D := (dC, dI)) (atype := .int) (a0 := (38, .inl (fun _ => 0))) hx hb (hts (.arrayClass .int) (List.mem_append_right _ (List.mem_of_getElem? (i := 45) (by decide +kernel)))) rfl hK hP hD hS hA (fun _ => rfl) (by decide) (by decide) (Nat.le_of_ble_eq_true rfl) (Nat.le_of_ble_eq_true rfl) (Nat.le_of_ble_eq_true rfl) dL_law_10 (fun qg cqg H hK1 hP hD hS => ?_)
  obtain rfl := k_sameI hK1
  refine W.widen (k := 28) (n := 434) (Nat.le_of_ble_eq_true rfl) (Nat.le_of_ble_eq_true rfl) ?_
  have hP : va_P (dC, dI) vwCl (w ++ [(qg, .inl (cI, 38, .inl (fun _ => 0)))]) H := hP
  have hD : va_D (fun q : Nat => s.heap.size ≤ q) (w ++ [(qg, .inl (cI, 38, .inl (fun _ => 0)))]) := hD
  refine lv_astore_n (lv' := [(2, .ref qg), (1, .ref qo), (0, .ref b)]) hx hb dL_law_12 rfl hl (by decide) rfl (fun ls hl => ?_)
  refine lv_bipush (v := 38) hx hb dL_law_13 (by decide) ?_
  refine va_newa (D := (dC, dI)) (atype := .int) (a0 := (38, .inl (fun _ => 0))) hx hb (hts (.arrayClass .int) (List.mem_append_right _ (List.mem_of_getElem? (i := 45) (by decide +kernel)))) rfl hK hP hD hS hA (fun _ => rfl) (by decide) (by decide) (Nat.le_of_ble_eq_true rfl) (Nat.le_of_ble_eq_true rfl) (Nat.le_of_ble_eq_true rfl) dL_law_15 (fun qk cqk H hK1 hP hD hS => ?_)
  obtain rfl := k_sameI hK1
  refine W.widen (k := 29) (n := 472) (Nat.le_of_ble_eq_true rfl) (Nat.le_of_ble_eq_true rfl) ?_
  have hP : va_P (dC, dI) vwCl (w ++ [(qg, .inl (cI, 38, .inl (fun _ => 0)))] ++ [(qk, .inl (cI, 38, .inl (fun _ => 0)))]) H := hP
  have hD : va_D (fun q : Nat => s.heap.size ≤ q) (w ++ [(qg, .inl (cI, 38, .inl (fun _ => 0)))] ++ [(qk, .inl (cI, 38, .inl (fun _ => 0)))]) := hD
  refine lv_astore_n (lv' := [(3, .ref qk), (2, .ref qg), (1, .ref qo), (0, .ref b)]) hx hb dL_law_17 rfl hl (by decide) rfl (fun ls hl => ?_)
  rw [List.append_assoc] at hP hD
  have hP : va_P (dC, dI) vwCl ((qg, .inl (cI, 38, .inl (fun _ => 0))) :: (qk, .inl (cI, 38, .inl (fun _ => 0))) :: w) H := gP_sw hP
  have hD : va_D (fun q : Nat => s.heap.size ≤ q) ((qg, .inl (cI, 38, .inl (fun _ => 0))) :: (qk, .inl (cI, 38, .inl (fun _ => 0))) :: w) := gD_sw hD
  have hbg : b ≠ qg ∧ b ∉ AL ad := by
    refine ⟨fun z => hbA (by rw [z]; exact hD.2 0 _ rfl), fun z => ?_⟩
    rw [← gI_al hI] at z
    obtain ⟨q', hq', he⟩ := List.mem_map.mp z
    obtain ⟨j, hj⟩ := List.getElem?_of_mem hq'
    exact hbA (by rw [← he]; exact hD.2 (j + 2) q' hj)
  rw [hqo] at hl
  exact law_walk C0 hK hN hbg (law_ok (W := (0, 0, fun _ => 0, fun _ => 6, fun _ => 0, fun _ => 0)) (sl := fun _ => 0) (sn := fun _ => -1) (sc := fun _ _ => 0) (fun _ => 0) (fun _ => 0) hL rfl) w H _ ls hI hP hD hS (lv_sub hl [0, 1, 2, 3] rfl)
