/-! THINGS BY A TEXT, in the abstract state; sheets and cells -/
def tkd (k : Nat) : Int32 := if k = 0 then 112 else if k = 1 then 103 else 100
def twh (o : Nat) : Int32 := if o = 6 then 119 else nI (48 + o)
def TXT (c : Nat → Int32) (n r : Nat) (kd ow fr to : Nat → Nat) : Prop := c 0 = 111 ∧ (∀ t, t < n → c (1 + 3 * t) = 59 ∧ c (2 + 3 * t) = tkd (kd t) ∧ c (3 + 3 * t) = twh (ow t)) ∧ ∀ q, q < r → c (1 + 3 * n + 3 * q) = 44 ∧ c (2 + 3 * n + 3 * q) = twh (fr q) ∧ c (3 + 3 * n + 3 * q) = nI (48 + to q)
def GOK (n r : Nat) (kd ow fr to : Nat → Nat) : Prop := 1 ≤ n ∧ Web n r fr to ∧ ownS n kd ow ∧ ∀ q, q < r → fr q ≠ to q ∧ ∀ p, p < q → ¬ (fr p = fr q ∧ to p = to q)
theorem RI_nx {n : Nat} {f : Nat → Nat} {a : Nat → Int32} (h : RI n f a) : RI (n + 1) f (upd a n (nI (f n))) := fun i hi => by
  by_cases e : i = n
  · subst e; rw [pk_us]
  · rw [pk_un e]; exact h i (by omega)
theorem kdS_t : ∀ k, k ≤ 2 → kdS (tkd k) = some k := by decide
theorem whS_d : ∀ c, c < 7 → ∀ o, o < c → whS c (nI (48 + o)) = some o := by decide
theorem whS_t {c o : Nat} (hc : c ≤ 6) (h : o < c ∨ o = 6) : whS c (twh o) = some o := by
  unfold twh
  by_cases e : o = 6
  · rw [if_pos e, e]; rfl
  · rw [if_neg e]; exact whS_d c (by omega) o (by omega)
theorem sub48n {t : Nat} : nI (48 + t) - 48 = nI t := by
  rw [show (48 : Int32) = nI 48 from rfl, nI_sb (by omega), Nat.add_sub_cancel_left]
theorem tgS_t {n o r t : Nat} {fr to : Nat → Nat} (hn : n ≤ 6) (ht : t < n) (hot : t ≠ o) (hf : ¬ fnd r fr to o t < r) : tgS n o r fr to (nI (48 + t)) = some t := by
  unfold tgS
  rw [sub48n, isT_nI hn ht, if_pos rfl, cl_nI (by omega), if_neg hot, if_neg hf]
theorem rowFault_ok {L la a b : Nat} (hL : L ≤ 60) (hab : a + b ≤ L) : f_X1_rowFault (nI la) (nI L) (nI la) (nI a) (nI b) = some 0 := by
  unfold f_X1_rowFault
  obtain ⟨c, h1, h2⟩ := hasCells_e (i := nI a) (n := nI b) hL
  have hc : c = true := h2.mpr ⟨a, b, rfl, rfl, hab⟩
  rw [hasRow_yes hL, ob1_s, bT, if_pos rfl, if_pos (le_nlt.mpr (nI_pos (by omega))), h1, ob1_s, hc, bT]
section TELL
variable {n r : Nat} {kd ow fr to : Nat → Nat} {T : Nat → Int32}
theorem TX_of {b : Nat} (hb : b ≤ 60) : TX 0 b 0 T T T (nI 60) := ⟨fun j hj => by rw [nI_ad, Nat.zero_add]; exact valueAt_c (Nat.le_refl 60) (by omega), fun j hj => by rw [Nat.zero_add], by omega, by omega⟩
theorem cd_in {b j : Nat} (h : j < b) : cd b T j = T j := if_pos h
theorem readThings {b : Nat} (hG : GOK n r kd ow fr to) (hT : TXT T n r kd ow fr to) (hb : b = 1 + 3 * n + 3 * r) (K0 A0 : Nat → Int32) : ∃ K A, f_X2_areThingsRead (nI 0) (nI b) (nI 1) (nI 60) T 0 K0 A0 = some (1, nI (1 + 3 * n), nI n, K, A) ∧ RI n kd K ∧ RI n ow A := by
  obtain ⟨hn1, hw, hown, -⟩ := hG
  have hn := hw.1
  have hr := hw.2.1
  obtain ⟨hT0, hT1, hT2⟩ := hT
  have htx : TX 0 b 0 T T T (nI 60) := TX_of (by omega)
  have key : ∀ m k fuel K A, k + m = n → m < fuel → RI k kd K → RI k ow A → ∃ K' A' res, it (u5 (L_X2_areThingsRead_2 (nI 0) (nI b) (nI 60) T)) fuel (nI k, nI (1 + 3 * k), nI k, K, A) = some res ∧ (res = .inl (nI (1 + 3 * n), nI n, K', A') ∨ res = .inr (1, nI (1 + 3 * n), nI n, K', A')) ∧ RI n kd K' ∧ RI n ow A' := by
    intro m
    induction m with
    | zero =>
      intro k fuel K A hk hf h1 h2
      obtain ⟨fu, rfl⟩ : ∃ f', fuel = f' + 1 := ⟨fuel - 1, by omega⟩
      have hkn : k = n := by omega
      subst hkn
      by_cases h6 : 6 ≤ k
      · refine ⟨K, A, .inl (nI (1 + 3 * k), nI k, K, A), ?_, Or.inl rfl, h1, h2⟩
        rw [it, show u5 (L_X2_areThingsRead_2 (nI 0) (nI b) (nI 60) T) (nI k, nI (1 + 3 * k), nI k, K, A) = some (.inr (.inl (nI (1 + 3 * k), nI k, K, A))) from ?_]
        show L_X2_areThingsRead_2 (nI 0) (nI b) (nI 60) T (nI k) (nI (1 + 3 * k)) (nI k) K A = _
        unfold L_X2_areThingsRead_2
        rw [L6, ifleT h6 (by omega)]
      · refine ⟨K, A, .inr (1, nI (1 + 3 * k), nI k, K, A), ?_, Or.inr rfl, h1, h2⟩
        rw [it, show u5 (L_X2_areThingsRead_2 (nI 0) (nI b) (nI 60) T) (nI k, nI (1 + 3 * k), nI k, K, A) = some (.inr (.inr (1, nI (1 + 3 * k), nI k, K, A))) from ?_]
        show L_X2_areThingsRead_2 (nI 0) (nI b) (nI 60) T (nI k) (nI (1 + 3 * k)) (nI k) K A = _
        unfold L_X2_areThingsRead_2
        have hne : ¬ cd b T (1 + 3 * k) = 59 := by
          by_cases hr0 : r = 0
          · have : ¬ 1 + 3 * k < b := by omega
            unfold cd
            rw [if_neg this]; decide
          · rw [cd_in (by omega), show T (1 + 3 * k) = 44 from (hT2 0 (by omega)).1]; decide
        rw [L6, ifleF (by omega) (by omega), L0, ifleF (by omega) (by omega), codeHere_c htx (by omega), ob1_s, if_neg hne]
    | succ m ih =>
      intro k fuel K A hk hf h1 h2
      obtain ⟨fu, rfl⟩ : ∃ f', fuel = f' + 1 := ⟨fuel - 1, by omega⟩
      have hkn : k < n := by omega
      obtain ⟨t1, t2, t3⟩ := hT1 k hkn
      obtain ⟨o1, o2⟩ := hown.1 k hkn
      obtain ⟨K', A', res, g1, g2, g3, g4⟩ := ih (k + 1) fu _ _ (by omega) (by omega) (RI_nx h1) (RI_nx h2)
      refine ⟨K', A', res, ?_, g2, g3, g4⟩
      have hrd : f_X2_isThingRead (nI 0) (nI b) (nI (1 + 3 * k)) (nI 60) T (nI k) K A = some (1, nI (1 + 3 * k + 3), nI (k + 1), upd K k (nI (kd k)), upd A k (nI (ow k))) := by
        rw [isThingRead_c htx (by omega) (by omega), cd_in (by omega), if_pos t1, cd_in (by omega), show 1 + 3 * k + 1 = 2 + 3 * k by omega, t2, kdS_t _ o1, show 1 + 3 * k + 2 = 3 + 3 * k by omega, cd_in (by omega), t3, whS_t (by omega) o2]
      rw [it, show u5 (L_X2_areThingsRead_2 (nI 0) (nI b) (nI 60) T) (nI k, nI (1 + 3 * k), nI k, K, A) = some (.inl (nI (k + 1), nI (1 + 3 * (k + 1)), nI (k + 1), upd K k (nI (kd k)), upd A k (nI (ow k)))) from ?_]
      · exact g1
      show L_X2_areThingsRead_2 (nI 0) (nI b) (nI 60) T (nI k) (nI (1 + 3 * k)) (nI k) K A = _
      unfold L_X2_areThingsRead_2
      rw [L6, ifleF (by omega) (by omega), hrd, ob5_s]
      have e3 : 1 + 3 * k + 3 = 1 + 3 * (k + 1) := by omega
      by_cases hk0 : k = 0
      · rw [L0, ifleT (by omega) (by omega), if_neg (show ¬ (1 : Int32) = nI 0 by decide), L1, nI_ad, e3]
      · rw [L0, ifleF (by omega) (by omega), codeHere_c htx (by omega), ob1_s, cd_in (by omega), if_pos t1, if_neg (show ¬ (1 : Int32) = nI 0 by decide), L1, nI_ad, e3]
  obtain ⟨K', A', res, g1, g2, g3, g4⟩ := key n 0 FUEL K0 A0 (by omega) (FUEL_gt (by omega)) (fun i hi => by omega) (fun i hi => by omega)
  refine ⟨K', A', ?_, g3, g4⟩
  unfold f_X2_areThingsRead
  rw [show ((0 : Int32), nI 1, (0 : Int32), K0, A0) = (nI 0, nI (1 + 3 * 0), nI 0, K0, A0) from rfl, g1]
  rcases g2 with rfl | rfl
  · rw [os4_l]
  · rw [os4_r]
theorem readRefs {b : Nat} (hG : GOK n r kd ow fr to) (hT : TXT T n r kd ow fr to) (hb : b = 1 + 3 * n + 3 * r) (F0 G0 : Nat → Int32) : ∃ F G, f_X2_areReferencesRead (nI 0) (nI b) (nI (1 + 3 * n)) (nI 60) T (nI n) 0 F0 G0 = some (1, nI b, nI r, F, G) ∧ RI r fr F ∧ RI r to G := by
  obtain ⟨hn1, hw, hown, hd⟩ := hG
  have hn := hw.1
  have hr := hw.2.1
  obtain ⟨hT0, hT1, hT2⟩ := hT
  have htx : TX 0 b 0 T T T (nI 60) := TX_of (by omega)
  have key : ∀ m q fuel F G, q + m = r → m < fuel → RI q fr F → RI q to G → ∃ F' G', it (u5 (L_X2_areReferencesRead_2 (nI 0) (nI b) (nI 60) T (nI n))) fuel (nI q, nI (1 + 3 * n + 3 * q), nI q, F, G) = some (.inl (nI b, nI r, F', G')) ∧ RI r fr F' ∧ RI r to G' := by
    intro m
    induction m with
    | zero =>
      intro q fuel F G hk hf h1 h2
      obtain ⟨fu, rfl⟩ : ∃ f', fuel = f' + 1 := ⟨fuel - 1, by omega⟩
      have hkn : q = r := by omega
      subst hkn
      refine ⟨F, G, ?_, h1, h2⟩
      rw [it, show u5 (L_X2_areReferencesRead_2 (nI 0) (nI b) (nI 60) T (nI n)) (nI q, nI (1 + 3 * n + 3 * q), nI q, F, G) = some (.inr (.inl (nI b, nI q, F, G))) from ?_]
      show L_X2_areReferencesRead_2 (nI 0) (nI b) (nI 60) T (nI n) (nI q) (nI (1 + 3 * n + 3 * q)) (nI q) F G = _
      unfold L_X2_areReferencesRead_2
      rw [← hb]
      by_cases h12 : 12 ≤ q
      · rw [L12, ifleT h12 (by omega)]
      · rw [L12, ifleF (by omega) (by omega), ifleT (Nat.le_refl b) (by omega)]
    | succ m ih =>
      intro q fuel F G hk hf h1 h2
      obtain ⟨fu, rfl⟩ : ∃ f', fuel = f' + 1 := ⟨fuel - 1, by omega⟩
      have hqr : q < r := by omega
      obtain ⟨t1, t2, t3⟩ := hT2 q hqr
      obtain ⟨w1, w2⟩ := hw.2.2 q hqr
      obtain ⟨d1, d2⟩ := hd q hqr
      have hwq : Web n q fr to := ⟨hn, by omega, fun p hp => hw.2.2 p (by omega)⟩
      have hnf : ¬ fnd q fr to (fr q) (to q) < q := by
        intro hh
        obtain ⟨p, hp, e1, e2⟩ := fnd_lt.mp hh
        exact d2 p hp ⟨e1, e2⟩
      obtain ⟨F', G', g1, g2, g3⟩ := ih (q + 1) fu _ _ (by omega) (by omega) (RI_nx h1) (RI_nx h2)
      refine ⟨F', G', ?_, g2, g3⟩
      have hrd : f_X2_isReferenceRead (nI 0) (nI b) (nI (1 + 3 * n + 3 * q)) (nI 60) T (nI n) (nI q) F G = some (1, nI (1 + 3 * n + 3 * q + 3), nI (q + 1), upd F q (nI (fr q)), upd G q (nI (to q))) := by
        rw [isReferenceRead_c htx (by omega) hwq (by omega) h1 h2, cd_in (by omega), if_pos t1, cd_in (by omega), show 1 + 3 * n + 3 * q + 1 = 2 + 3 * n + 3 * q by omega, t2, whS_t hn w1, show 1 + 3 * n + 3 * q + 2 = 3 + 3 * n + 3 * q by omega, cd_in (by omega), t3]
        dsimp only
        rw [tgS_t hn w2 (Ne.symm d1) hnf]
      rw [it, show u5 (L_X2_areReferencesRead_2 (nI 0) (nI b) (nI 60) T (nI n)) (nI q, nI (1 + 3 * n + 3 * q), nI q, F, G) = some (.inl (nI (q + 1), nI (1 + 3 * n + 3 * (q + 1)), nI (q + 1), upd F q (nI (fr q)), upd G q (nI (to q)))) from ?_]
      · exact g1
      show L_X2_areReferencesRead_2 (nI 0) (nI b) (nI 60) T (nI n) (nI q) (nI (1 + 3 * n + 3 * q)) (nI q) F G = _
      unfold L_X2_areReferencesRead_2
      have e3 : 1 + 3 * n + 3 * q + 3 = 1 + 3 * n + 3 * (q + 1) := by omega
      rw [L12, ifleF (by omega) (by omega), ifleF (by omega) (by omega), hrd, ob5_s, if_neg (show ¬ (1 : Int32) = 0 by decide), L1, nI_ad, e3]
  obtain ⟨F', G', g1, g2, g3⟩ := key r 0 FUEL F0 G0 (by omega) (FUEL_gt (by omega)) (fun i hi => by omega) (fun i hi => by omega)
  refine ⟨F', G', ?_, g2, g3⟩
  unfold f_X2_areReferencesRead
  rw [show ((0 : Int32), nI (1 + 3 * n), (0 : Int32), F0, G0) = (nI 0, nI (1 + 3 * n + 3 * 0), nI 0, F0, G0) from rfl, g1, os4_l]
theorem firstFault_ok {b : Nat} (hG : GOK n r kd ow fr to) (hT : TXT T n r kd ow fr to) (hb : b = 1 + 3 * n + 3 * r) (K0 A0 F0 G0 : Nat → Int32) : ∃ K A F G, f_X2_firstFault (nI 60) T K0 A0 F0 G0 (nI 0) (nI b) = some (-1, nI 0, nI b, nI b, nI n, nI r, K, A, F, G) ∧ RI n kd K ∧ RI n ow A ∧ RI r fr F ∧ RI r to G := by
  obtain ⟨K, A, h1, h2, h3⟩ := readThings hG hT hb K0 A0
  obtain ⟨F, G, h4, h5, h6⟩ := readRefs hG hT hb F0 G0
  have hn := hG.2.1.1
  have hr := hG.2.1.2.1
  have htx : TX 0 b 0 T T T (nI 60) := TX_of (by omega)
  refine ⟨K, A, F, G, ?_, h2, h3, h5, h6⟩
  unfold f_X2_firstFault
  rw [show f_X3_clear = some ((0 : Int32), (0 : Int32)) from rfl, ob2_s]
  have e0 := isTaken_c htx (j := 0) (by omega) 111
  rw [show f_X2_isTaken (nI 0) (nI b) (0 : Int32) (nI 60) T (111 : Int32) = some (1, nI 1) from ?_, ob2_s, if_neg (show ¬ (1 : Int32) = 0 by decide), h1, ob5_s, if_neg (show ¬ (1 : Int32) = 0 by decide), h4, ob5_s, if_neg (show ¬ (1 : Int32) = 0 by decide), if_pos rfl]
  rw [show (0 : Int32) = nI 0 from rfl, e0, cd_in (by omega), if_pos hT.1]
end TELL
def thOK (S : SG) (ga : Nat → Int32) (x y z w : Int32) (n r : Nat) (kd ow fr to : Nat → Nat) : Prop := x = 0 ∧ y = 0 ∧ z = 0 ∧ w = nI (1 + 3 * n + 3 * r) ∧ S.2.1 0 = 0 ∧ S.2.2.1 0 = nI 60 ∧ GOK n r kd ow fr to ∧ TXT (S.2.2.2 0) n r kd ow fr to
def gaN (ga : Nat → Int32) : Nat := (ga 0).toNatClampNeg
def gaR (ga : Nat → Int32) : Nat := (ga 1).toNatClampNeg
def gaK (ga : Nat → Int32) : Nat → Nat := fun t => (ga (2 + t)).toNatClampNeg
def gaO (ga : Nat → Int32) : Nat → Nat := fun t => if t < gaN ga then (ga (8 + t)).toNatClampNeg else 6
def gaF (ga : Nat → Int32) : Nat → Nat := fun q => (ga (14 + q)).toNatClampNeg
def gaT (ga : Nat → Int32) : Nat → Nat := fun q => (ga (26 + q)).toNatClampNeg
noncomputable def F_things (S : SG) (ga : Nat → Int32) (x y z w : Int32) : Option (Int32 × SG) := @ite _ (thOK S ga x y z w (gaN ga) (gaR ga) (gaK ga) (gaO ga) (gaF ga) (gaT ga)) (Classical.propDecidable _) (some (nI (gaN ga), ((gaN ga, gaR ga, gaK ga, gaO ga, gaF ga, gaT ga), S.2))) none
theorem pJ_things {S : SG} {d_count : Int32} {rd_start : Int32} {rd_length : Int32} {rd_at : Int32} {n_count : Int32} {n_references : Int32} {t_count : Int32} {t_references : Int32} {n_kind : Nat → Int32} {n_owner : Nat → Int32} {n_from : Nat → Int32} {n_to : Nat → Int32} {t_kind : Nat → Int32} {t_owner : Nat → Int32} {t_from : Nat → Int32} {t_to : Nat → Int32} {sl : Nat → Int32} {sn : Nat → Int32} {sc : Nat → Nat → Int32} {ga : Nat → Int32} {x1 x2 x3 x4 : Int32} {r : Int32} {S' : SG} (hJ : gJ S n_count n_references n_kind n_owner n_from n_to sl sn sc) (h : F_things S ga x1 x2 x3 x4 = some (r, S')) : ∃ (z_o_lastFault : Int32) (z_d_count : Int32) (z_rd_start : Int32) (z_rd_length : Int32) (z_rd_at : Int32) (z_n_count : Int32) (z_n_references : Int32) (z_n_kind : Nat → Int32) (z_n_owner : Nat → Int32) (z_n_from : Nat → Int32) (z_n_to : Nat → Int32) (z_t_count : Int32) (z_t_references : Int32) (z_t_kind : Nat → Int32) (z_t_owner : Nat → Int32) (z_t_from : Nat → Int32) (z_t_to : Nat → Int32), f_X4_things d_count rd_start rd_length rd_at n_count n_references n_kind n_owner n_from n_to t_count t_references t_kind t_owner t_from t_to sl sn sc x1 x2 x3 x4 = some (r, z_o_lastFault, z_d_count, z_rd_start, z_rd_length, z_rd_at, z_n_count, z_n_references, z_n_kind, z_n_owner, z_n_from, z_n_to, z_t_count, z_t_references, z_t_kind, z_t_owner, z_t_from, z_t_to) ∧ gJ S' z_n_count z_n_references z_n_kind z_n_owner z_n_from z_n_to sl sn sc := by
  obtain ⟨W, sl', sn', sc'⟩ := S
  obtain ⟨hA, hw, rfl, rfl, rfl⟩ := hJ
  unfold F_things at h
  by_cases e : thOK (W, sl', sn', sc') ga x1 x2 x3 x4 (gaN ga) (gaR ga) (gaK ga) (gaO ga) (gaF ga) (gaT ga)
  case neg => rw [if_neg e] at h; cases h
  rw [if_pos e] at h
  cases h
  generalize gaN ga = n at e ⊢
  generalize gaR ga = nr at e ⊢
  generalize gaK ga = kd at e ⊢
  generalize gaO ga = ow at e ⊢
  generalize gaF ga = fr at e ⊢
  generalize gaT ga = to at e ⊢
  obtain ⟨rfl, rfl, rfl, rfl, e1, e2, e3, e4⟩ := e
  have e1 : sl' 0 = 0 := e1
  have e2 : sn' 0 = nI 60 := e2
  have e4 : TXT (sc' 0) n nr kd ow fr to := e4
  have hn := e3.2.1.1
  have hr := e3.2.1.2.1
  have hAD : AD n nr kd ow fr to := ownS_ad e3.2.2.1 e3.2.1
  obtain ⟨K, A, F, G, g1, g2, g3, g4, g5⟩ := firstFault_ok e3 e4 rfl t_kind t_owner t_from t_to
  obtain ⟨K3, A3, F3, G3, hbe, j1, j2, j3, j4⟩ := become_c hn hr (⟨rfl, rfl, g2, g3, g4, g5⟩ : WR n nr kd ow fr to (nI n) (nI nr) K A F G) n_kind n_owner n_from n_to
  have hdl : ∃ v, f_X0_dropLast d_count d_count = some v := by
    unfold f_X0_dropLast
    by_cases q1 : d_count < 0
    · exact ⟨_, by rw [if_pos q1]⟩
    · rw [if_neg q1]
      by_cases q2 : d_count < d_count
      · exact ⟨_, by rw [if_pos q2]⟩
      · exact ⟨_, by rw [if_neg q2]⟩
  obtain ⟨v, hv⟩ := hdl
  refine ⟨0, v, nI 0, nI (1 + 3 * n + 3 * nr), nI (1 + 3 * n + 3 * nr), nI n, nI nr, K3, A3, F3, G3, nI n, nI nr, K, A, F, G, ?_, hAD, ⟨rfl, rfl, j1, j2, j3, j4⟩, rfl, rfl, rfl⟩
  show f_X4_things d_count rd_start rd_length rd_at n_count n_references n_kind n_owner n_from n_to t_count t_references t_kind t_owner t_from t_to sl' sn' sc' 0 0 0 (nI (1 + 3 * n + 3 * nr)) = _
  unfold f_X4_things
  rw [isSheet_c, ob1_s, show btw (0 : Int32) 0 3 = true by decide, bT, isLane_c, ob1_s, show btw (0 : Int32) 0 2 = true by decide, bT, L0, cl_nI (by omega), ifgd2 (by omega) (by omega)]
  have hrf : f_X1_rowFault (sl' 0) (sn' 0) (nI 0) (nI 0) (nI (1 + 3 * n + 3 * nr)) = some (nI 0) := by
    rw [e1, e2]
    exact rowFault_ok (la := 0) (L := 60) (a := 0) (Nat.le_refl 60) (by omega)
  rw [hrf, ob1_s, if_pos rfl, ifgd2 (by omega) (by omega), e2, g1, ob10_s, if_pos rfl, hbe, ob6_s, rsize_c, ob1_s, hv, ob1_s, size_c, ob1_s]
theorem sheet_ok {sl sn : Nat → Int32} {sc : Nat → Nat → Int32} {k la L : Nat} (hk : k < 4) (hla : la ≤ 2) (hL : L ≤ 60) : ∃ z f, f_X4_sheet sl sn sc (nI k) (nI la) (nI L) = some (1, f, va_up sl k (nI la), va_up sn k (nI L), va_up sc k z) := by
  have e1 : ∃ w, it (u2 (L_X1_renew_23 (nI L))) FUEL ((0 : Int32), sc k) = some w ∧ True := by
    refine it_goes (body := u2 (L_X1_renew_23 (nI L))) (fun i s => s.1 = nI i) (fun w => True) L ?_ ?_ FUEL (FUEL_gt (by omega)) _ rfl
    · rintro i ⟨y, F⟩ hi h1
      simp only at h1
      subst h1
      left
      refine ⟨(nI (i + 1), upd F i 0), ?_, rfl⟩
      show L_X1_renew_23 (nI L) (nI i) F = _
      unfold L_X1_renew_23
      rw [ifleF hi (by omega), cl_nI (by omega), ifgd0 (by omega) (by omega), L1, nI_ad]
    · rintro ⟨y, F⟩ h1
      simp only at h1
      subst h1
      refine ⟨F, ?_, trivial⟩
      show L_X1_renew_23 (nI L) (nI L) F = _
      unfold L_X1_renew_23
      rw [ifleT (by omega) (by omega)]
  obtain ⟨z, e1, -⟩ := e1
  refine ⟨z, 0, ?_⟩
  unfold f_X4_sheet
  have b1 : ∀ k, k < 4 → btw (nI k) 0 3 = true := by decide
  have b2 : ∀ k, k < 3 → btw (nI k) 0 2 = true := by decide
  rw [isSheet_c, ob1_s, b1 k hk, bT, isLane_c, ob1_s, b2 la (by omega), bT, L60, ifleT hL (by omega), if_pos (le_nlt.mpr (nI_pos (by omega))), cl_nI (by omega), ifgd0 (by omega) (by omega)]
  unfold f_X1_renew
  rw [if_neg (nI_pos (by omega)), L60, ifleT hL (by omega), e1, ob1_s, ob3_s]
theorem put_ok {sl sn : Nat → Int32} {sc : Nat → Nat → Int32} {k la L a : Nat} {z : Int32} (hk : k < 4) (hla : la ≤ 2) (hL : L ≤ 60) (h1 : sl k = nI la) (h2 : sn k = nI L) (ha : a < L) : ∃ f, f_X4_put sl sn sc (nI k) (nI a) z = some (1, f, va_up sc k (upd (sc k) a (cutL la z))) := by
  refine ⟨0, ?_⟩
  unfold f_X4_put
  have b1 : ∀ k, k < 4 → btw (nI k) 0 3 = true := by decide
  rw [isSheet_c, ob1_s, b1 k hk, bT, cl_nI (by omega), ifgd0 (by omega) (by omega), show f_X1_laneOf (sl k) = some (sl k) from rfl, ob1_s, h1, h2, show (1 : Int32) = nI 1 from rfl, rowFault_ok hL (by omega), ob1_s, if_pos rfl]
  unfold f_X1_setAt
  rw [if_neg (nI_pos (by omega)), ifleF ha (by omega), cut_lane hla, ob1_s, cl_nI (by omega), ifgd0 (by omega) (by omega), ob1_s]
