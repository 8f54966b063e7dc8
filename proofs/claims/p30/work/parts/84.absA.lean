/-! THE OBJECT AS ONE BLOCK -/
def AL (ad : Nat → Nat) : List Nat := [(ad 0), (ad 4), (ad 3), (ad 6), (ad 7), (ad 8), (ad 5), (ad 1), (ad 9), (ad 10), (ad 11), (ad 12), (ad 13), (ad 2), (ad 14), (ad 15), (ad 16), (ad 17), (ad 18), (ad (21 + 0)), (ad (25 + 0)), (ad (21 + 1)), (ad (25 + 1)), (ad (21 + 2)), (ad (25 + 2)), (ad (21 + 3)), (ad (25 + 3))]
def gW (cI cS : ClassId) (ad : Nat → Nat) (q_row : Nat) (o_traced : Int32) (o_lastFault : Int32) (d_count : Int32) (rd_start : Int32) (rd_length : Int32) (rd_at : Int32) (n_count : Int32) (n_references : Int32) (t_count : Int32) (t_references : Int32) (d_one : Nat → Int32) (d_other : Nat → Int32) (d_less : Nat → Int32) (n_kind : Nat → Int32) (n_owner : Nat → Int32) (n_from : Nat → Int32) (n_to : Nat → Int32) (n_away : Nat → Int32) (t_kind : Nat → Int32) (t_owner : Nat → Int32) (t_from : Nat → Int32) (t_to : Nat → Int32) (t_away : Nat → Int32) (sl : Nat → Int32) (sn : Nat → Int32) (sc : Nat → Nat → Int32) : va_W := [((ad 0), .inr (4, [.ref (ad 1), .ref (ad 2), .ref (ad 3), .ref (ad 4), .ref (ad 5), .int o_traced, .int o_lastFault])), ((ad 4), .inl (cS, 4, .inr (.inr (.inr (.inr (fun j => some (ad (21 + j)))))))), ((ad 3), .inr (0, [.int d_count, .ref (ad 6), .ref (ad 7), .ref (ad 8)])), ((ad 6), .inl (cI, 8, .inl d_one)), ((ad 7), .inl (cI, 8, .inl d_other)), ((ad 8), .inl (cI, 8, .inl d_less)), ((ad 5), .inr (2, [.ref q_row, .int rd_start, .int rd_length, .int rd_at, .ref (ad 2)])), ((ad 1), .inr (3, [.int n_count, .int n_references, .ref (ad 9), .ref (ad 10), .ref (ad 11), .ref (ad 12), .ref (ad 13)])), ((ad 9), .inl (cI, 6, .inl n_kind)), ((ad 10), .inl (cI, 6, .inl n_owner)), ((ad 11), .inl (cI, 12, .inl n_from)), ((ad 12), .inl (cI, 12, .inl n_to)), ((ad 13), .inl (cI, 7, .inl n_away)), ((ad 2), .inr (3, [.int t_count, .int t_references, .ref (ad 14), .ref (ad 15), .ref (ad 16), .ref (ad 17), .ref (ad 18)])), ((ad 14), .inl (cI, 6, .inl t_kind)), ((ad 15), .inl (cI, 6, .inl t_owner)), ((ad 16), .inl (cI, 12, .inl t_from)), ((ad 17), .inl (cI, 12, .inl t_to)), ((ad 18), .inl (cI, 7, .inl t_away)), ((ad (21 + 0)), .inr (1, [.int (sl 0), .int (sn 0), .ref (ad (25 + 0))])), ((ad (25 + 0)), .inl (cI, 60, .inl (sc 0))), ((ad (21 + 1)), .inr (1, [.int (sl 1), .int (sn 1), .ref (ad (25 + 1))])), ((ad (25 + 1)), .inl (cI, 60, .inl (sc 1))), ((ad (21 + 2)), .inr (1, [.int (sl 2), .int (sn 2), .ref (ad (25 + 2))])), ((ad (25 + 2)), .inl (cI, 60, .inl (sc 2))), ((ad (21 + 3)), .inr (1, [.int (sl 3), .int (sn 3), .ref (ad (25 + 3))])), ((ad (25 + 3)), .inl (cI, 60, .inl (sc 3)))]
def gI (cI cS : ClassId) (ad : Nat → Nat) (S : SG) (w : va_W) : Prop := ∃ (q_row : Nat) (o_traced : Int32) (o_lastFault : Int32) (d_count : Int32) (rd_start : Int32) (rd_length : Int32) (rd_at : Int32) (n_count : Int32) (n_references : Int32) (t_count : Int32) (t_references : Int32) (d_one : Nat → Int32) (d_other : Nat → Int32) (d_less : Nat → Int32) (n_kind : Nat → Int32) (n_owner : Nat → Int32) (n_from : Nat → Int32) (n_to : Nat → Int32) (n_away : Nat → Int32) (t_kind : Nat → Int32) (t_owner : Nat → Int32) (t_from : Nat → Int32) (t_to : Nat → Int32) (t_away : Nat → Int32) (sl : Nat → Int32) (sn : Nat → Int32) (sc : Nat → Nat → Int32), gJ S n_count n_references n_kind n_owner n_from n_to sl sn sc ∧ w = gW cI cS ad q_row o_traced o_lastFault d_count rd_start rd_length rd_at n_count n_references t_count t_references d_one d_other d_less n_kind n_owner n_from n_to n_away t_kind t_owner t_from t_to t_away sl sn sc
theorem gI_al {cI cS : ClassId} {ad : Nat → Nat} {S : SG} {w : va_W} (h : gI cI cS ad S w) : w.map Prod.fst = AL ad := by
  obtain ⟨_, _, _, _, _, _, _, _, _, _, _, _, _, _, _, _, _, _, _, _, _, _, _, _, _, _, _, -, rfl⟩ := h
  rfl
theorem gI_rec {cI cS : ClassId} {ad : Nat → Nat} {S : SG} {w : va_W} (h : gI cI cS ad S w) : ∃ fs, w[0]? = some (ad 0, .inr (4, fs)) := by
  obtain ⟨_, _, _, _, _, _, _, _, _, _, _, _, _, _, _, _, _, _, _, _, _, _, _, _, _, _, _, -, rfl⟩ := h
  exact ⟨_, rfl⟩
/-! contracts over the block and arrays beside it -/
theorem gx_r {a b : va_W} {k : Nat} {q : Nat × va_E} (h : b[k]? = some q) : (a ++ b)[a.length + k]? = some q := by
  rw [List.getElem?_append_right (Nat.le_add_right _ _), Nat.add_sub_cancel_left]; exact h
theorem gx_l {a b : va_W} {k : Nat} {q : Nat × va_E} (h : a[k]? = some q) : (a ++ b)[k]? = some q := by
  rw [List.getElem?_append_left (List.getElem?_eq_some_iff.mp h).1]; exact h
theorem gP_r {D : va_G} {cl : List vw_C} {a b : va_W} {H : Heap} (h : va_P D cl (a ++ b) H) : va_P D cl b H := fun _ q hk => h _ q (gx_r hk)
theorem gP_l {D : va_G} {cl : List vw_C} {a b : va_W} {H : Heap} (h : va_P D cl (a ++ b) H) : va_P D cl a H := fun _ q hk => h _ q (gx_l hk)
theorem gD_r {A : Nat → Prop} {a b : va_W} (h : va_D A (a ++ b)) : va_D A b := ⟨fun i j p q hi hj e => by
  have := h.1 (a.length + i) (a.length + j) p q (gx_r hi) (gx_r hj) e
  omega, fun _ q hk => h.2 _ q (gx_r hk)⟩
theorem gD_l {A : Nat → Prop} {a b : va_W} (h : va_D A (a ++ b)) : va_D A a := ⟨fun i j p q hi hj e => h.1 i j p q (gx_l hi) (gx_l hj) e, fun _ q hk => h.2 _ q (gx_l hk)⟩
theorem gD_x {A : Nat → Prop} {a b : va_W} (h : va_D A (a ++ b)) {i j : Nat} {p q : Nat × va_E} (hi : a[i]? = some p) (hj : b[j]? = some q) : p.1 ≠ q.1 := fun e => by
  have h1 := h.1 i (a.length + j) p q (gx_l hi) (gx_r hj) e
  have h2 := (List.getElem?_eq_some_iff.mp hi).1
  omega
theorem g_at {is : List Nat} {ws w : va_W} (hs : is.map (fun i => ws[i]?) = w.map some) {k : Nat} {q : Nat × va_E} (hq : w[k]? = some q) : ∃ i, is[k]? = some i ∧ ws[i]? = some q := by
  have h1 : (is.map (fun i => ws[i]?))[k]? = some (some q) := by rw [hs, List.getElem?_map, hq]; rfl
  rw [List.getElem?_map] at h1
  cases hi : is[k]? with
  | none => rw [hi] at h1; cases h1
  | some i => rw [hi] at h1; exact ⟨i, rfl, Option.some.inj h1⟩
theorem gD_sub {A0 : Nat → Prop} {pre A w : va_W} (hD : va_D A0 (pre ++ w)) (is : List Nat) (hnd : va_nd is = true) (hsm : is.map (fun i => pre[i]?) = A.map some) : va_D (fun _ => True) (A ++ w) := by
  refine va_D.app (((gD_l hD).sub is hnd hsm).weaken (fun _ _ _ _ => trivial)) ((gD_r hD).weaken (fun _ _ _ _ => trivial)) (fun i j p q hp hq => ?_)
  obtain ⟨k, -, hk⟩ := g_at hsm hp
  exact gD_x hD hk hq
theorem gD_in {cI cS : ClassId} {ad : Nat → Nat} {S : SG} {A0 : Nat → Prop} {A w : va_W} {L : List Nat} (hI : gI cI cS ad S w) (hD : va_D A0 (A ++ w)) (e : A.map Prod.fst = L) : va_D (inA (L ++ AL ad)) (A ++ w) := va_D_in hD (by rw [List.map_append, gI_al hI, e])
def xT : State → Prop := fun _ => True
def xS (b L : Nat) (xs : Nat → Int32) : State → Prop := fun U => va_X b L xs U U.heap
theorem xS_lt {b L : Nat} {xs : Nat → Int32} {s : State} (h : va_X b L xs s s.heap) : b < s.heap.size := by
  obtain ⟨scr, h1, -⟩ := h
  exact (Array.getElem?_eq_some_iff.mp h1).1
def xB (X : State → Prop) : Prop := ∀ (a : Array Value) (U : State) (g : JFrame) (mk : MethodId), X U → X (U.calling g mk a)
theorem xT_b : xB xT := fun _ _ _ _ _ => trivial
theorem xS_b {b L : Nat} {xs : Nat → Int32} : xB (xS b L xs) := fun a U g mk h => va_X.moved (u := U) (U := U.calling g mk a) (Vm.Alike.refl U.vm) h
def kG (D : va_G) (cI cS : ClassId) (ad : Nat → Nat) (S : SG) (A : va_W) (X : State → Prop) (U : State) : Prop := ∃ w, gI cI cS ad S w ∧ va_P D vwCl (A ++ w) U.heap ∧ va_K D vwCl (tyW cI cS) U ∧ Nst U ∧ va_D (fun _ => True) (A ++ w) ∧ X U
abbrev kB2 (D : va_G) (cI cS : ClassId) (ad : Nat → Nat) (S : SG) (A : va_W) (H : Heap) : Prop := ∃ w, gI cI cS ad S w ∧ va_P D vwCl (A ++ w) H
def MkG (l : Launch) (y : MethodName) (wy : List Cond) (rm : Room) (D : va_G) (cI cS : ClassId) (ad : Nat → Nat) (S : SG) (A : va_W) (X : State → Prop) (av : List Value) (o : Option Value) (fact : Prop) (S' : SG) (A' : va_W) : Prop := Met l y wy rm (va_Pc av (kG D cI cS ad S A X)) (kQ o fact (kB2 D cI cS ad S' A') (inA (A.map Prod.fst ++ AL ad))) 0 0 (inA (A.map Prod.fst ++ AL ad))
theorem kG_blind {D : va_G} {cI cS : ClassId} {ad : Nat → Nat} {S : SG} {A : va_W} {X : State → Prop} {av : List Value} (hX : xB X) : FrameBlind (va_Pc av (kG D cI cS ad S A X)) := fun a U g mk q => by
  obtain ⟨q0, w, q1, q2, q3, q4, q5, q6⟩ := q
  exact ⟨q0, w, q1, q2, va_K.moved (u := U) (U := U.calling g mk a) (Vm.Alike.refl U.vm) q3, Nst.same rfl q4, q5, hX a U g mk q6⟩
section MKG
variable {l : Launch} {y : MethodName} {wy : List Cond} {rm : Room} {D : va_G} {cI cS : ClassId} {ad : Nat → Nat} {S S' : SG} {av : List Value} {o : Option Value} {fact : Prop}
theorem MkG_p (is : List Nat) (hnd : va_nd is = true) (h : ∀ w, gI cI cS ad S w → ∃ (wc : va_W) (B : Heap → Prop), Mk l y wy rm D cI cS wc av o fact B noA ∧ is.map (fun i => w[i]?) = wc.map some) : MkG l y wy rm D cI cS ad S [] xT av o fact S [] := by
  intro p e hl hf hc s m args below hi ha hP hk0
  obtain ⟨hav, w, hI, hP, hK, hN, hD, -⟩ := hP
  obtain ⟨wc, B, hM, hsm⟩ := h w hI
  have hP : va_P D vwCl w s.heap := hP
  have hD : va_D (fun _ => True) w := hD
  obtain ⟨n, o', h1, h2, h3, ⟨⟨ho, hfa, hB⟩, hz, hkp⟩, L, hL1, hL2⟩ := hM p e hl hf hc s m args below hi ha ⟨hav, va_P_subm hP is hsm, hK, hN, (hD.sub is hnd hsm).weaken (fun _ _ _ _ => trivial)⟩ hk0
  exact ⟨n, o', h1, h2, h3, ⟨⟨ho, hfa, w, hI, k_keep hP hkp⟩, hz, fun q h1 _ => hkp q h1 (fun z => z)⟩, L, hL1, fun q hq => (hL2 q hq).elim⟩
theorem MkG_w (is : List Nat) (hnd : va_nd is = true) (h : ∀ w, gI cI cS ad S w → ∃ (wc w1 w' : va_W), Mk l y wy rm D cI cS wc av o fact (fun H => va_P D vwCl w1 H) (inA (wc.map Prod.fst)) ∧ is.map (fun i => w[i]?) = wc.map some ∧ is.length = w1.length ∧ setAll w is w1 = w' ∧ gI cI cS ad S' w') : MkG l y wy rm D cI cS ad S [] xT av o fact S' [] := by
  intro p e hl hf hc s m args below hi ha hP hk0
  obtain ⟨hav, w, hI, hP, hK, hN, hD, -⟩ := hP
  obtain ⟨wc, w1, w', hM, hsm, hle, hws, hI'⟩ := h w hI
  have hP : va_P D vwCl w s.heap := hP
  have hD : va_D (fun _ => True) w := hD
  have hin : ∀ q, inA (wc.map Prod.fst) q → inA (AL ad) q := k_inA (L := []) (va_D_in hD (gI_al hI)) is hsm
  obtain ⟨n, o', h1, h2, h3, ⟨⟨ho, hfa, hB⟩, hz, hkp⟩, L, hL1, hL2⟩ := hM p e hl hf hc s m args below hi ha ⟨hav, va_P_subm hP is hsm, hK, hN, (hD.sub is hnd hsm).weaken (fun _ _ _ _ => trivial)⟩ hk0
  exact ⟨n, o', h1, h2, h3, ⟨⟨ho, hfa, w', hI', k_put hP hD is hnd hsm hle hws hB hkp⟩, hz, fun q h1 h2 => hkp q h1 (fun z => h2 (hin q z))⟩, L, hL1, fun q hq => hin _ (hL2 q hq)⟩
theorem MkG_e (is : List Nat) (hnd : va_nd is = true) (h : ∀ w, gI cI cS ad S w → ∃ (wc : va_W) (w1 w' : Nat → va_W), Mk l y wy rm D cI cS wc av o fact (fun H => ∃ q, va_P D vwCl (w1 q) H) (inA (wc.map Prod.fst)) ∧ is.map (fun i => w[i]?) = wc.map some ∧ (∀ q, is.length = (w1 q).length) ∧ (∀ q, setAll w is (w1 q) = w' q) ∧ ∀ q, gI cI cS ad S' (w' q)) : MkG l y wy rm D cI cS ad S [] xT av o fact S' [] := by
  intro p e hl hf hc s m args below hi ha hP hk0
  obtain ⟨hav, w, hI, hP, hK, hN, hD, -⟩ := hP
  obtain ⟨wc, w1, w', hM, hsm, hle, hws, hI'⟩ := h w hI
  have hP : va_P D vwCl w s.heap := hP
  have hD : va_D (fun _ => True) w := hD
  have hin : ∀ q, inA (wc.map Prod.fst) q → inA (AL ad) q := k_inA (L := []) (va_D_in hD (gI_al hI)) is hsm
  obtain ⟨n, o', h1, h2, h3, ⟨⟨ho, hfa, q0, hB⟩, hz, hkp⟩, L, hL1, hL2⟩ := hM p e hl hf hc s m args below hi ha ⟨hav, va_P_subm hP is hsm, hK, hN, (hD.sub is hnd hsm).weaken (fun _ _ _ _ => trivial)⟩ hk0
  exact ⟨n, o', h1, h2, h3, ⟨⟨ho, hfa, w' q0, hI' q0, k_put hP hD is hnd hsm (hle q0) (hws q0) hB hkp⟩, hz, fun q h1 h2 => hkp q h1 (fun z => h2 (hin q z))⟩, L, hL1, fun q hq => hin _ (hL2 q hq)⟩
end MKG
section KG
variable {p : Program} {l : Launch} {e : Env} {R : Room} {s : State} {m : MethodId} {args : Array Value} {below : List Frame} {meth : Method} {c : Code} {H : Heap} {locs : List Loc} {cells slots : Nat} {Q : State → Prop}
variable {pc : Nat} {ls : Array Slot} {rest st0 : List Value} {a : Array Value} {A0 : Nat → Prop} {H0 : Heap} {D : va_G} {cI cS : ClassId}
variable {y : MethodName} {bytes cc : ByteArray} {maxL nL n index : Nat} {ret : Option FieldType} {wy : List Cond} {rm : Room} {Ts : List Cond} {own C : String} {As : List Value} {o : Option Value} {fact : Prop} {B : Heap → Prop} {ws : va_W}
variable {ad : Nat → Nat} {S0 S1 : SG} {A A' pre pre' w : va_W} {X : State → Prop}
theorem k_Gin (hI : gI cI cS ad S0 w) (hD : va_D A0 (pre ++ w)) (is : List Nat) (hsm : is.map (fun i => pre[i]?) = A.map some) : ∀ q, inA (A.map Prod.fst ++ AL ad) q → A0 q := by
  intro q z
  rcases List.mem_append.mp (show q ∈ A.map Prod.fst ++ AL ad from z) with z | z
  · obtain ⟨q', hq', he⟩ := List.mem_map.mp z
    obtain ⟨j, hj⟩ := List.getElem?_of_mem hq'
    obtain ⟨i, -, hi⟩ := g_at hsm hj
    rw [← he]
    exact hD.2 i q' (gx_l hi)
  · rw [← gI_al hI] at z
    obtain ⟨q', hq', he⟩ := List.mem_map.mp z
    obtain ⟨j, hj⟩ := List.getElem?_of_mem hq'
    rw [← he]
    exact hD.2 _ q' (gx_r hj)
theorem k_Gput {H1 : Heap} (hI : gI cI cS ad S0 w) (hP : va_P D vwCl (pre ++ w) H) (hD : va_D A0 (pre ++ w)) (is : List Nat) (hsm : is.map (fun i => pre[i]?) = A.map some) (hl : is.length = A'.length) (hws : setAll pre is A' = pre') (hP1 : va_P D vwCl A' H1) (hk : ∀ q : Nat, q < H.size → ¬ inA (A.map Prod.fst ++ AL ad) q → H1[q]? = H[q]?) : va_P D vwCl pre' H1 := by
  intro k q hq
  rw [← hws] at hq
  rcases setAll_get is A' pre k q hl hq with ⟨j, h1, h2⟩ | ⟨h1, h2⟩
  · exact hP1 j q h2
  · refine ((gP_l hP) k q h2).kept (hk q.1 ((gP_l hP) k q h2).lt (fun z => ?_))
    rcases List.mem_append.mp (show q.1 ∈ A.map Prod.fst ++ AL ad from z) with z | z
    · obtain ⟨q', hq', he⟩ := List.mem_map.mp z
      obtain ⟨j, hj⟩ := List.getElem?_of_mem hq'
      obtain ⟨i, hi1, hi⟩ := g_at hsm hj
      have h5 := hD.1 i k q' q (gx_l hi) (gx_l h2) he
      exact h1 (h5 ▸ List.mem_of_getElem? hi1)
    · rw [← gI_al hI] at z
      obtain ⟨q', hq', he⟩ := List.mem_map.mp z
      obtain ⟨j, hj⟩ := List.getElem?_of_mem hq'
      exact gD_x hD h2 hj he.symm
theorem k_Grun (hr : va_Run p l e R s m args below meth c H locs cells slots 0 0 (F0 m pc ls st0) rest (kQ o fact (kB2 D cI cS ad S1 A') (inA (A.map Prod.fst ++ AL ad)) a) (inA (A.map Prod.fst ++ AL ad))) (hI : gI cI cS ad S0 w) (hP : va_P D vwCl (pre ++ w) H) (hD : va_D A0 (pre ++ w)) (hS : va_S A0 H0 H locs) (is : List Nat) (hsm : is.map (fun i => pre[i]?) = A.map some) (hl : is.length = A'.length) (hws : setAll pre is A' = pre') (hfst : pre'.map Prod.fst = pre.map Prod.fst)
    (kk : ∀ (H1 : Heap) (locs1 : List Loc) (w' : va_W), fact → gI cI cS ad S1 w' → va_P D vwCl (pre' ++ w') H1 → va_D A0 (pre' ++ w') → va_S A0 H0 H1 locs1 → W p l e R s m args below meth c H1 locs1 cells slots Q (F0 m (pc + 3) ls (o.toList ++ rest))) : W p l e R s m args below meth c H locs cells slots Q (F0 m pc ls st0) :=
  k_run hr hS (k_Gin hI hD is hsm) (fun H1 locs1 hfa hB hk hS1 => by
    obtain ⟨w', hI', hB⟩ := hB
    exact kk H1 locs1 w' hfa hI' ((k_Gput hI hP hD is hsm hl hws (gP_l hB) hk).app (gP_r hB)) (va_D_fst hD (by rw [List.map_append, List.map_append, hfst, gI_al hI, gI_al hI'])) hS1)
theorem k_Gpre (hX : ∀ U : State, U.heap = H → s.WarmedH U.vm → X U) (hK : va_K D vwCl (tyW cI cS) s) (hN : Nst s) (hI : gI cI cS ad S0 w) (hP : va_P D vwCl (pre ++ w) H) (hD : va_D A0 (pre ++ w)) (is : List Nat) (hnd : va_nd is = true) (hsm : is.map (fun i => pre[i]?) = A.map some) (av : List Value) : ∀ U : State, U.heap = H → s.WarmedH U.vm → va_Pc av (kG D cI cS ad S0 A X) av.toArray U := fun U hU hW => ⟨rfl, w, hI, by rw [hU]; exact (va_P_subm (gP_l hP) is hsm).app (gP_r hP), va_K.moved hW.alike hK, hN.warm hW, gD_sub hD is hnd hsm, hX U hU hW⟩
theorem k_Grecv (hK : va_K D vwCl (tyW cI cS) s) (hI : gI cI cS ad S0 w) (hP : va_P D vwCl (pre ++ w) H) : ∃ cell : Cell, H[ad 0]? = some cell ∧ cell.vm.isStatics = false ∧ s.vm.findClass RX4 = some cell.cls := by
  obtain ⟨fs, hf⟩ := gI_rec hI
  exact k_recv hK (gP_r hP) (i := 0) (ci := 4) (fs := fs) hf (q := (RX4, TX4, 7)) rfl rfl
theorem k_GVi {rv : Int32} (S : CallFix p m c cc nL s args Ts own) (hM : MkG l y wy rm D cI cS ad S0 [] xT (.ref (ad 0) :: As) (some (.int rv)) fact S1 []) (cw : CallW R s args own RX4 index y bytes maxL ret wy rm 0 0 n) (hK : va_K D vwCl (tyW cI cS) s) (hN : Nst s) (hI : gI cI cS ad S0 w) (hP : va_P D vwCl (pre ++ w) H) (hD : va_D A0 (pre ++ w)) (hS : va_S A0 H0 H locs) (hn : As.length = n) (hsize : ls.size = nL) (hst : st0 = As.reverse ++ .ref (ad 0) :: rest) (hroom : (rest.map fun v => v.category).sum ≤ 8) (hdg : decode cc pc = .ok (.invokevirtual index, 3)) (hf : cells + 0 ≤ R.cells ∧ slots + 0 ≤ R.slots)
    (kk : ∀ (H1 : Heap) (locs1 : List Loc) (w' : va_W), gI cI cS ad S1 w' → va_P D vwCl (pre ++ w') H1 → va_D A0 (pre ++ w') → va_S A0 H0 H1 locs1 → W p l e R s m args below meth c H1 locs1 cells slots Q (F0 m (pc + 3) ls (.int rv :: rest))) : W p l e R s m args below meth c H locs cells slots Q (F0 m pc ls st0) :=
  k_Grun (A := []) (A' := []) (va_runV S hM cw ⟨kG_blind xT_b, k_Grecv hK hI hP, k_Gpre (fun _ _ _ => trivial) hK hN hI hP hD [] rfl rfl _⟩ rfl hn hsize hst (lv_room hroom) hdg hf) hI hP hD hS [] rfl rfl rfl rfl (fun H1 locs1 w' _ => kk H1 locs1 w')
theorem k_GVl {rv : Int64} (S : CallFix p m c cc nL s args Ts own) (hM : MkG l y wy rm D cI cS ad S0 [] xT (.ref (ad 0) :: As) (some (.long rv)) fact S1 []) (cw : CallW R s args own RX4 index y bytes maxL ret wy rm 0 0 n) (hK : va_K D vwCl (tyW cI cS) s) (hN : Nst s) (hI : gI cI cS ad S0 w) (hP : va_P D vwCl (pre ++ w) H) (hD : va_D A0 (pre ++ w)) (hS : va_S A0 H0 H locs) (hn : As.length = n) (hsize : ls.size = nL) (hst : st0 = As.reverse ++ .ref (ad 0) :: rest) (hroom : (rest.map fun v => v.category).sum ≤ 8) (hdg : decode cc pc = .ok (.invokevirtual index, 3)) (hf : cells + 0 ≤ R.cells ∧ slots + 0 ≤ R.slots)
    (kk : ∀ (H1 : Heap) (locs1 : List Loc) (w' : va_W), gI cI cS ad S1 w' → va_P D vwCl (pre ++ w') H1 → va_D A0 (pre ++ w') → va_S A0 H0 H1 locs1 → W p l e R s m args below meth c H1 locs1 cells slots Q (F0 m (pc + 3) ls (.long rv :: rest))) : W p l e R s m args below meth c H locs cells slots Q (F0 m pc ls st0) :=
  k_Grun (A := []) (A' := []) (va_runV S hM cw ⟨kG_blind xT_b, k_Grecv hK hI hP, k_Gpre (fun _ _ _ => trivial) hK hN hI hP hD [] rfl rfl _⟩ rfl hn hsize hst (lv_room hroom) hdg hf) hI hP hD hS [] rfl rfl rfl rfl (fun H1 locs1 w' _ => kk H1 locs1 w')
theorem k_GSi {rv : Int32} (S : CallFix p m c cc nL s args Ts own) (hM : MkG l y wy rm D cI cS ad S0 A X As (some (.int rv)) fact S1 A') (cw : CallB R s args own index y bytes maxL ret wy rm 0 0 n ∧ (Cond.static y).before args s = true) (hK : va_K D vwCl (tyW cI cS) s) (hN : Nst s) (hI : gI cI cS ad S0 w) (hP : va_P D vwCl (pre ++ w) H) (hD : va_D A0 (pre ++ w)) (hS : va_S A0 H0 H locs) (is : List Nat) (hnd : va_nd is = true) (hsm : is.map (fun i => pre[i]?) = A.map some) (hl : is.length = A'.length) (hws : setAll pre is A' = pre') (hfst : pre'.map Prod.fst = pre.map Prod.fst) (hXb : xB X) (hX : ∀ U : State, U.heap = H → s.WarmedH U.vm → X U) (hn : As.length = n) (hsize : ls.size = nL) (hst : st0 = As.reverse ++ rest) (hroom : (rest.map fun v => v.category).sum ≤ 8) (hdg : decode cc pc = .ok (.invokestatic index, 3)) (hf : cells + 0 ≤ R.cells ∧ slots + 0 ≤ R.slots)
    (kk : ∀ (H1 : Heap) (locs1 : List Loc) (w' : va_W), fact → gI cI cS ad S1 w' → va_P D vwCl (pre' ++ w') H1 → va_D A0 (pre' ++ w') → va_S A0 H0 H1 locs1 → W p l e R s m args below meth c H1 locs1 cells slots Q (F0 m (pc + 3) ls (.int rv :: rest))) : W p l e R s m args below meth c H locs cells slots Q (F0 m pc ls st0) :=
  k_Grun (va_runS S hM cw ⟨kG_blind hXb, k_Gpre hX hK hN hI hP hD is hnd hsm _⟩ rfl hn hsize hst (lv_room hroom) hdg hf) hI hP hD hS is hsm hl hws hfst kk
theorem k_XSi {rv : Int32} {b L : Nat} {xs : Nat → Int32} (S : CallFix p m c cc nL s args Ts own) (hM : Met l y wy rm (va_Pc As (xS b L xs)) (kQ (some (.int rv)) fact B noA) 0 0 noA) (cw : CallB R s args own index y bytes maxL ret wy rm 0 0 n ∧ (Cond.static y).before args s = true) (hX : va_X b L xs s H) (hP : va_P D vwCl ws H) (hS : va_S A0 H0 H locs) (hn : As.length = n) (hsize : ls.size = nL) (hst : st0 = As.reverse ++ rest) (hroom : (rest.map fun v => v.category).sum ≤ 8) (hdg : decode cc pc = .ok (.invokestatic index, 3)) (hf : cells + 0 ≤ R.cells ∧ slots + 0 ≤ R.slots)
    (kk : ∀ (H1 : Heap) (locs1 : List Loc), va_P D vwCl ws H1 → va_S A0 H0 H1 locs1 → W p l e R s m args below meth c H1 locs1 cells slots Q (F0 m (pc + 3) ls (.int rv :: rest))) : W p l e R s m args below meth c H locs cells slots Q (F0 m pc ls st0) :=
  k_run (va_runS S hM cw ⟨fun a U g mk q => ⟨q.1, xS_b a U g mk q.2⟩, fun U hU hW => ⟨rfl, by show va_X b L xs U U.heap; rw [hU]; exact va_X.moved hW.alike hX⟩⟩ rfl hn hsize hst (lv_room hroom) hdg hf) hS (fun _ z => z.elim) (fun H1 locs1 _ _ hk hS1 => kk H1 locs1 (k_keep hP hk) hS1)
theorem lg_self (v : Int64) : lg_cmp v v = 0 := by
  unfold lg_cmp
  simp
end KG
