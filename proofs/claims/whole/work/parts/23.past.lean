def pIx (nx j : Nat) : Nat := (nx + 15 - j) % 16
abbrev oP5 (h nx c : Nat) : PCell := .inr (5, [.ref (h + 1), .int (nI nx), .int (nI c)])
abbrev aQ (k n : Nat) (f : Nat → Option Nat) : PCell := .inl (k, n, .inr (.inr (.inr (.inr f))))
def past0 (G : PH) (h nx c : Nat) (f : Nat → Option Nat) : Prop := nx < 16 ∧ c ≤ 16 ∧ G[h]? = some (oP5 h nx c) ∧ G[h + 1]? = some (aQ 3 16 f) ∧ (∀ i, i < 16 → f i = some (h + 2 + 7 * i)) ∧ ∀ i, i < 16 → ∃ ρ, isRiver G (h + 2 + 7 * i) ρ
def isPast (G : PH) (h c : Nat) (ps : Nat → Riv) : Prop := ∃ nx f, past0 G h nx c f ∧ ∀ j, j < c → isRiver G (h + 2 + 7 * pIx nx j) (ps j)
theorem past0.fr {G G' : PH} {h nx c a n : Nat} {f : Nat → Option Nat} (k : past0 G h nx c f) (hF : Fr G G' a n) (hd : h + 114 ≤ a ∨ a + n ≤ h) : past0 G' h nx c f := by
  obtain ⟨h1, h2, h3, h4, h5, h6⟩ := k
  exact ⟨h1, h2, hF.at h3 (by omega), hF.at h4 (by omega), h5, fun i hi => by obtain ⟨ρ, hρ⟩ := h6 i hi; exact ⟨ρ, hρ.fr hF (by omega)⟩⟩
theorem pIx_lt (nx j : Nat) : pIx nx j < 16 := Nat.mod_lt _ (by decide)
theorem isPast.fr {G G' : PH} {h c a n : Nat} {ps : Nat → Riv} (k : isPast G h c ps) (hF : Fr G G' a n) (hd : h + 114 ≤ a ∨ a + n ≤ h) : isPast G' h c ps := by
  obtain ⟨nx, f, k1, k2⟩ := k
  exact ⟨nx, f, k1.fr hF hd, fun j hj => (k2 j hj).fr hF (by have := pIx_lt nx j; omega)⟩
theorem isPast.at {G : PH} {h c : Nat} {ps : Nat → Riv} (k : isPast G h c ps) : ∃ nx, G[h]? = some (oP5 h nx c) := by obtain ⟨nx, f, k1, _⟩ := k; exact ⟨nx, k1.2.2.1⟩
theorem isPast.le {G : PH} {h c : Nat} {ps : Nat → Riv} (k : isPast G h c ps) : c ≤ 16 := by obtain ⟨nx, f, k1, _⟩ := k; exact k1.2.1
def psA (ps : Nat → Riv) (ρ : Riv) : Nat → Riv
  | 0 => ρ
  | j + 1 => ps j
theorem ifm16 : ∀ a, a < 16 → ∀ d, d < 17 → ifm (nI a - nI d) 16 = nI ((a + 16 - d) % 16) := by decide +kernel
theorem imin_nI {a b : Nat} (ha : a < 2 ^ 31) (hb : b < 2 ^ 31) : imin (nI a) (nI b) = nI (min a b) := by
  unfold imin
  by_cases h : b < a
  · rw [if_pos (nI_lt h ha), Nat.min_eq_right (by omega)]
  · rw [if_neg (nI_nlt (Nat.not_lt.mp h) hb), Nat.min_eq_left (by omega)]
theorem t_riverAt (l : Launch) {G : PH} {h nx c i : Nat} {f : Nat → Option Nat} (k : past0 G h nx c f) (hi : i < 16) : Tri l mX5_riverAt 0 0 [.ref h, .int (nI i)] G (fun w G' => w = some (.ref (h + 2 + 7 * i)) ∧ G' = G) := by
  refine Tri.intro (L := [_, _]) okX5_riverAt.1 (Nat.le_of_ble_eq_true rfl) rfl ?_
  refine P_iload_n dX5_riverAt_0 rfl ?_
  refine P_iconst dX5_riverAt_1 ci_0 ?_
  refine P_aload_n dX5_riverAt_2 rfl ?_
  refine P_get dX5_riverAt_3 flX5_11 k.2.2.1 rfl ?_
  refine P_alen (v := nI 16) dX5_riverAt_6 k.2.2.2.1 (fun _ => rfl) rfl ?_
  refine P_iconst dX5_riverAt_7 ci_1 ?_
  refine P_isub dX5_riverAt_8 ?_
  refine P_callSNp (M' := mX9_outOf) (host := RX9) dX5_riverAt_9 (fun _ _ h => h.2.2.1) okX9_outOf ⟨Nat.le_of_ble_eq_true rfl, Nat.le_of_ble_eq_true rfl⟩ (t_outOf l) rfl rfl (Nat.le_of_ble_eq_true rfl) ⟨Nat.le_of_ble_eq_true rfl, Nat.le_of_ble_eq_true rfl⟩ ?_
  refine P_if_eq (tgt := 19) dX5_riverAt_12 (by decide) (fun c12 => ?_) (fun c12 => ?_)
  · refine P_aload_n dX5_riverAt_19 rfl ?_
    refine P_get dX5_riverAt_20 flX5_11 k.2.2.1 rfl ?_
    refine P_iload_n dX5_riverAt_23 rfl ?_
    refine P_aald3 dX5_riverAt_24 k.2.2.2.1 (vp_in_nI hi (by decide)) ?_
    rw [nI_clamp (by omega), k.2.2.2.2.1 i hi]
    exact P_aret (o := some (h + 2 + 7 * i)) dX5_riverAt_25 rfl ⟨Nat.le_refl _, Nat.le_refl _⟩ ⟨rfl, rfl⟩
  · exact absurd ((b2p _).mpr (by intro z; rcases z with z | z; exact nI_pos (by omega) z; exact absurd z (by rw [show nI 16 - 1 = nI 15 by decide +kernel]; exact nI_nlt (by omega) (by decide)))) c12
theorem t_deedCount (l : Launch) {G : PH} {h c : Nat} {ps : Nat → Riv} (k : isPast G h c ps) : Tri l mX5_deedCount 0 0 [.ref h] G (fun w G' => w = some (.int (nI c)) ∧ G' = G) := by
  obtain ⟨nx, f, k1, k2⟩ := k
  refine Tri.intro (L := [_]) okX5_deedCount.1 (Nat.le_of_ble_eq_true rfl) rfl ?_
  refine P_aload_n dX5_deedCount_0 rfl ?_
  refine P_get dX5_deedCount_1 flX5_21 k1.2.2.1 rfl ?_
  exact P_iret dX5_deedCount_4 rfl ⟨Nat.le_refl _, Nat.le_refl _⟩ ⟨rfl, rfl⟩
theorem t_forget (l : Launch) {G : PH} {h c : Nat} {ps : Nat → Riv} (k : isPast G h c ps) : Tri l mX5_forget 0 0 [.ref h] G (fun w G' => w = none ∧ isPast G' h 0 ps ∧ Fr G G' h 1) := by
  obtain ⟨nx, f, ⟨h1, h2, h3, h4, h5, h6⟩, k2⟩ := k
  refine Tri.intro (L := [_]) okX5_forget.1 (Nat.le_of_ble_eq_true rfl) rfl ?_
  refine P_aload_n dX5_forget_0 rfl ?_
  refine P_iconst dX5_forget_1 ci_0 ?_
  refine P_putI dX5_forget_2 flX5_21 h3 (Nat.le_of_ble_eq_true rfl) ?_
  exact P_vret dX5_forget_5 rfl ⟨Nat.le_refl _, Nat.le_refl _⟩ ⟨rfl, ⟨nx, f, ⟨h1, Nat.zero_le _, set_at h3, set_ne h4 (by omega), h5, fun i hi => by obtain ⟨ρ, hρ⟩ := h6 i hi; exact ⟨ρ, hρ.fr (Fr.set (a := h) (n := 1) (by omega) (by omega)) (by omega)⟩⟩, fun j hj => absurd hj (Nat.not_lt_zero _)⟩, Fr.set (by omega) (by omega)⟩
theorem rem_ok {G G1 G2 : PH} {h nx c : Nat} {ps : Nat → Riv} {ρ : Riv} (h1 : nx < 16) (h2 : c ≤ 16) (k2 : ∀ j, j < c → isRiver G (h + 2 + 7 * pIx nx j) (ps j)) (hR : isRiver G1 (h + 2 + 7 * nx) ρ) (hF1 : Fr G G1 (h + 2 + 7 * nx) 7) (hF2 : Fr G1 G2 h 1) : ∀ j, j < min 16 (c + 1) → isRiver G2 (h + 2 + 7 * pIx ((nx + 1) % 16) j) (psA ps ρ j) := by
  intro j hj
  cases j with
  | zero =>
    have e : pIx ((nx + 1) % 16) 0 = nx := by unfold pIx; omega
    rw [e]
    exact hR.fr hF2 (by omega)
  | succ j =>
    have e : pIx ((nx + 1) % 16) (j + 1) = pIx nx j := by unfold pIx; omega
    have hne : pIx nx j ≠ nx := by unfold pIx; omega
    rw [e]
    exact ((k2 j (by omega)).fr hF1 (by omega)).fr hF2 (by omega)
set_option maxHeartbeats 4000000 in
set_option maxRecDepth 100000 in
theorem t_remember (l : Launch) {G : PH} {h a c : Nat} {ps : Nat → Riv} {ρ : Riv} (k : isPast G h c ps) (hR : isRiver G a ρ) (hd : a + 7 ≤ h ∨ h + 114 ≤ a) : Tri l mX5_remember 0 0 [.ref h, .ref a] G (fun w G' => w = none ∧ isPast G' h (min 16 (c + 1)) (psA ps ρ) ∧ Fr G G' h 114) := by
  obtain ⟨nx, f, k1, k2⟩ := k
  obtain ⟨h1, h2, h3, h4, h5, h6⟩ := id k1
  obtain ⟨ρ0, hρ0⟩ := h6 nx h1
  refine Tri.intro (L := [_, _, _]) okX5_remember.1 (Nat.le_of_ble_eq_true rfl) rfl ?_
  refine P_aload_n dX5_remember_0 rfl ?_
  refine P_aload_n dX5_remember_1 rfl ?_
  refine P_get dX5_remember_2 flX5_17 h3 rfl ?_
  refine P_callVp dX5_remember_5 lkX5_25 okX5_riverAt ⟨Nat.le_of_ble_eq_true rfl, Nat.le_of_ble_eq_true rfl⟩ (t_riverAt l k1 h1) rfl rfl h3 (Nat.le_of_ble_eq_true rfl) ⟨Nat.le_of_ble_eq_true rfl, Nat.le_of_ble_eq_true rfl⟩ ?_
  refine P_astore_n (L' := [_, _, _]) dX5_remember_8 (Nat.le_of_ble_eq_true rfl) rfl ?_
  refine P_aload_n dX5_remember_9 rfl ?_
  refine P_ifnonnull (tgt := 14) dX5_remember_10 (by decide) ?_
  refine P_aload_n dX5_remember_14 rfl ?_
  refine P_aload_n dX5_remember_15 rfl ?_
  refine P_callV dX5_remember_16 lkX5_29 okX6_copyFrom ⟨Nat.le_of_ble_eq_true rfl, Nat.le_of_ble_eq_true rfl⟩ (t_copyR l hρ0 hR (by omega)) rfl rfl hρ0.at (Nat.le_of_ble_eq_true rfl) ⟨Nat.le_of_ble_eq_true rfl, Nat.le_of_ble_eq_true rfl⟩ (fun v16 G16 q16 => ?_)
  obtain ⟨rfl, hR1, hF1⟩ := q16
  refine P_aload_n dX5_remember_19 rfl ?_
  refine P_aload_n dX5_remember_20 rfl ?_
  refine P_get dX5_remember_21 flX5_17 (hF1.at h3 (by omega)) rfl ?_
  refine P_iconst dX5_remember_24 ci_1 ?_
  refine P_iadd dX5_remember_25 ?_
  refine P_bipush dX5_remember_26 bp_16 ?_
  refine P_irem dX5_remember_28 (by decide) ?_
  rw [nI_1, show (16 : Int32) = nI 16 from rfl, pk_rem (by omega) (by decide) (by decide)]
  refine P_putI dX5_remember_29 flX5_17 (hF1.at h3 (by omega)) (Nat.le_of_ble_eq_true rfl) ?_
  refine P_aload_n dX5_remember_32 rfl ?_
  refine P_bipush dX5_remember_33 bp_16 ?_
  refine P_aload_n dX5_remember_35 rfl ?_
  refine P_get dX5_remember_36 flX5_21 (set_at (hF1.at h3 (by omega))) rfl ?_
  refine P_iconst dX5_remember_39 ci_1 ?_
  refine P_iadd dX5_remember_40 ?_
  rw [nI_1]
  refine P_callSp dX5_remember_41 lkX5_33 okJ9_min_7cf53 ⟨Nat.le_of_ble_eq_true rfl, Nat.le_of_ble_eq_true rfl⟩ (t_imin l) rfl rfl (Nat.le_of_ble_eq_true rfl) ⟨Nat.le_of_ble_eq_true rfl, Nat.le_of_ble_eq_true rfl⟩ ?_
  rw [show (16 : Int32) = nI 16 from rfl, imin_nI (by decide) (by omega)]
  refine P_putI dX5_remember_44 flX5_21 (set_at (hF1.at h3 (by omega))) (Nat.le_of_ble_eq_true rfl) ?_
  have hF2 : Fr G16 ((G16.set h (.inr (5, [.ref (h + 1), .int (nI ((nx + 1) % 16)), .int (nI c)]))).set h (.inr (5, [.ref (h + 1), .int (nI ((nx + 1) % 16)), .int (nI (min 16 (c + 1)))]))) h 1 := (Fr.set (by omega) (by omega)).tr (Fr.set (by omega) (by omega))
  exact P_vret dX5_remember_47 rfl ⟨Nat.le_refl _, Nat.le_refl _⟩ ⟨rfl, ⟨(nx + 1) % 16, f, ⟨Nat.mod_lt _ (by decide), Nat.min_le_left _ _, set_at (set_at (hF1.at h3 (by omega))), hF2.at (hF1.at h4 (by omega)) (by omega), h5, fun i hi => by by_cases e : i = nx; subst e; exact ⟨ρ, hR1.fr hF2 (by omega)⟩; obtain ⟨ρ9, hρ9⟩ := h6 i hi; exact ⟨ρ9, (hρ9.fr hF1 (by omega)).fr hF2 (by omega)⟩⟩, rem_ok h1 h2 k2 hR1 hF1 hF2⟩, (hF1.wide (by omega) (by omega)).tr (hF2.wide (by omega) (by omega))⟩
set_option maxHeartbeats 4000000 in
set_option maxRecDepth 100000 in
theorem t_restore (l : Launch) {G : PH} {h a c d : Nat} {ps : Nat → Riv} {ρ : Riv} (k : isPast G h c ps) (hR : isRiver G a ρ) (hd : a + 7 ≤ h ∨ h + 114 ≤ a) (hd1 : 1 ≤ d) (hdc : d ≤ c) : Tri l mX5_restore 0 0 [.ref h, .int (nI d), .ref a] G (fun w G' => w = none ∧ isRiver G' a (ps (d - 1)) ∧ isPast G' h (c - d) (fun j => ps (d + j)) ∧ Fr2 G G' h 114 a 7) := by
  obtain ⟨nx, f, k1, k2⟩ := k
  obtain ⟨h1, h2, h3, h4, h5, h6⟩ := id k1
  have hpx : pIx nx (d - 1) = (nx + 16 - d) % 16 := by unfold pIx; congr 1; omega
  have hk := k2 (d - 1) (by omega)
  rw [hpx] at hk
  have hlt : (nx + 16 - d) % 16 < 16 := Nat.mod_lt _ (by decide)
  refine Tri.intro (L := [_, _, _, _, _]) okX5_restore.1 (Nat.le_of_ble_eq_true rfl) rfl ?_
  refine P_iload_n dX5_restore_0 rfl ?_
  refine P_aload_n dX5_restore_1 rfl ?_
  refine P_get dX5_restore_2 flX5_21 h3 rfl ?_
  refine P_icmp_le (tgt := 9) dX5_restore_5 (by decide) (fun c5 => ?_) (fun c5 => ?_)
  · refine P_aload_n dX5_restore_9 rfl ?_
    refine P_get dX5_restore_10 flX5_17 h3 rfl ?_
    refine P_iload_n dX5_restore_13 rfl ?_
    refine P_isub dX5_restore_14 ?_
    refine P_bipush dX5_restore_15 bp_16 ?_
    refine P_callSp dX5_restore_17 lkX5_39 okJ9_floorMod_7cf53 ⟨Nat.le_of_ble_eq_true rfl, Nat.le_of_ble_eq_true rfl⟩ (t_ifm l (by decide)) rfl rfl (Nat.le_of_ble_eq_true rfl) ⟨Nat.le_of_ble_eq_true rfl, Nat.le_of_ble_eq_true rfl⟩ ?_
    rw [ifm16 nx h1 d (by omega)]
    refine P_istore_n (L' := [_, _, _, _, _]) dX5_restore_20 (Nat.le_of_ble_eq_true rfl) rfl ?_
    refine P_aload_n dX5_restore_21 rfl ?_
    refine P_iload_n dX5_restore_22 rfl ?_
    refine P_callVp dX5_restore_23 lkX5_25 okX5_riverAt ⟨Nat.le_of_ble_eq_true rfl, Nat.le_of_ble_eq_true rfl⟩ (t_riverAt l k1 hlt) rfl rfl h3 (Nat.le_of_ble_eq_true rfl) ⟨Nat.le_of_ble_eq_true rfl, Nat.le_of_ble_eq_true rfl⟩ ?_
    refine P_astore (L' := [_, _, _, _, _]) dX5_restore_26 (Nat.le_of_ble_eq_true rfl) rfl ?_
    refine P_aload dX5_restore_28 rfl ?_
    refine P_ifnonnull (tgt := 34) dX5_restore_30 (by decide) ?_
    refine P_aload_n dX5_restore_34 rfl ?_
    refine P_aload dX5_restore_35 rfl ?_
    refine P_callV dX5_restore_37 lkX5_29 okX6_copyFrom ⟨Nat.le_of_ble_eq_true rfl, Nat.le_of_ble_eq_true rfl⟩ (t_copyR l hR hk (by omega)) rfl rfl hR.at (Nat.le_of_ble_eq_true rfl) ⟨Nat.le_of_ble_eq_true rfl, Nat.le_of_ble_eq_true rfl⟩ (fun v37 G37 q37 => ?_)
    obtain ⟨rfl, hR1, hF1⟩ := q37
    refine P_aload_n dX5_restore_40 rfl ?_
    refine P_iload_n dX5_restore_41 rfl ?_
    refine P_putI dX5_restore_42 flX5_17 (hF1.at h3 (by omega)) (Nat.le_of_ble_eq_true rfl) ?_
    refine P_aload_n dX5_restore_45 rfl ?_
    refine P_dup dX5_restore_46 rfl ?_
    refine P_get dX5_restore_47 flX5_21 (set_at (hF1.at h3 (by omega))) rfl ?_
    refine P_iload_n dX5_restore_50 rfl ?_
    refine P_isub dX5_restore_51 ?_
    rw [pk_sub hdc]
    refine P_putI dX5_restore_52 flX5_21 (set_at (hF1.at h3 (by omega))) (Nat.le_of_ble_eq_true rfl) ?_
    have hF2 : Fr G37 ((G37.set h (.inr (5, [.ref (h + 1), .int (nI ((nx + 16 - d) % 16)), .int (nI c)]))).set h (.inr (5, [.ref (h + 1), .int (nI ((nx + 16 - d) % 16)), .int (nI (c - d))]))) h 1 := (Fr.set (by omega) (by omega)).tr (Fr.set (by omega) (by omega))
    exact P_vret dX5_restore_55 rfl ⟨Nat.le_refl _, Nat.le_refl _⟩ ⟨rfl, hR1.fr hF2 (by omega), ⟨(nx + 16 - d) % 16, f, ⟨hlt, by omega, set_at (set_at (hF1.at h3 (by omega))), hF2.at (hF1.at h4 (by omega)) (by omega), h5, fun i hi => by obtain ⟨ρ9, hρ9⟩ := h6 i hi; exact ⟨ρ9, (hρ9.fr hF1 (by omega)).fr hF2 (by omega)⟩⟩, fun j hj => by have e : pIx ((nx + 16 - d) % 16) j = pIx nx (d + j) := by { unfold pIx; omega }; have hl := pIx_lt nx (d + j); rw [e]; exact ((k2 (d + j) (by omega)).fr hF1 (by omega)).fr hF2 (by omega)⟩, hF1.r2.tr (hF2.wide (b := h) (m := 114) (by omega) (by omega)).l2⟩
  · exact absurd (nI_le hdc (by omega)) c5
def isImage (G : PH) (h : Nat) (o : Option (Riv × Nat)) : Prop := ∃ s k ρ, G[h]? = some (.inr (4, [.ref (h + 1), .int s, .int k])) ∧ isRiver G (h + 1) ρ ∧ match o with
  | none => k = 0
  | some q => k = 1 ∧ ρ = q.1 ∧ s = nI q.2
theorem isImage.fr {G G' : PH} {h a n : Nat} {o : Option (Riv × Nat)} (k : isImage G h o) (hF : Fr G G' a n) (hd : h + 8 ≤ a ∨ a + n ≤ h) : isImage G' h o := by
  obtain ⟨s, kk, ρ, h1, h2, h3⟩ := k
  exact ⟨s, kk, ρ, hF.at h1 (by omega), h2.fr hF (by omega), h3⟩
theorem isImage.at {G : PH} {h : Nat} {o : Option (Riv × Nat)} (k : isImage G h o) : ∃ fs, G[h]? = some (.inr (4, fs)) := by obtain ⟨s, kk, ρ, h1, _⟩ := k; exact ⟨_, h1⟩
theorem t_isKept (l : Launch) {G : PH} {h : Nat} {o : Option (Riv × Nat)} (k : isImage G h o) : Tri l mX4_isKept 0 0 [.ref h] G (fun w G' => w = some (.int (if o.isSome then 1 else 0)) ∧ G' = G) := by
  obtain ⟨s, kk, ρ, h1, h2, h3⟩ := k
  have e : kk = (if o.isSome then 1 else 0) := by cases o; exact h3; exact h3.1
  subst e
  refine Tri.intro (L := [_]) okX4_isKept.1 (Nat.le_of_ble_eq_true rfl) rfl ?_
  refine P_aload_n dX4_isKept_0 rfl ?_
  refine P_get dX4_isKept_1 flX4_20 h1 rfl ?_
  exact P_zret dX4_isKept_4 rfl ⟨Nat.le_refl _, Nat.le_refl _⟩ (by first | exact Or.inl rfl | exact Or.inr rfl | exact ite01 _) ⟨rfl, rfl⟩
theorem t_fill (l : Launch) {G : PH} {h a b s : Nat} {o : Option (Riv × Nat)} {ρ : Riv} (k : isImage G h o) (hR : isRiver G a ρ) (hs : G[b]? = some (oW s)) (hd : a + 7 ≤ h ∨ h + 8 ≤ a) (hd2 : b < h ∨ h + 8 ≤ b) : Tri l mX4_fill 0 0 [.ref h, .ref a, .ref b] G (fun w G' => w = none ∧ isImage G' h (some (ρ, s)) ∧ Fr G G' h 8) := by
  obtain ⟨s0, kk, ρ0, h1, h2, h3⟩ := k
  refine Tri.intro (L := [_, _, _]) okX4_fill.1 (Nat.le_of_ble_eq_true rfl) rfl ?_
  refine P_aload_n dX4_fill_0 rfl ?_
  refine P_get dX4_fill_1 flX4_10 h1 rfl ?_
  refine P_aload_n dX4_fill_4 rfl ?_
  refine P_callV dX4_fill_5 lkX4_24 okX6_copyFrom ⟨Nat.le_of_ble_eq_true rfl, Nat.le_of_ble_eq_true rfl⟩ (t_copyR l h2 hR (by omega)) rfl rfl h2.at (Nat.le_of_ble_eq_true rfl) ⟨Nat.le_of_ble_eq_true rfl, Nat.le_of_ble_eq_true rfl⟩ (fun v5 G5 q5 => ?_)
  obtain ⟨rfl, hR1, hF1⟩ := q5
  refine P_aload_n dX4_fill_8 rfl ?_
  refine P_aload_n dX4_fill_9 rfl ?_
  refine P_callVp dX4_fill_10 lkX4_28 okX2_value ⟨Nat.le_of_ble_eq_true rfl, Nat.le_of_ble_eq_true rfl⟩ (t_value l (hF1.at hs (by omega))) rfl rfl (hF1.at hs (by omega)) (Nat.le_of_ble_eq_true rfl) ⟨Nat.le_of_ble_eq_true rfl, Nat.le_of_ble_eq_true rfl⟩ ?_
  refine P_putI dX4_fill_13 flX4_16 (hF1.at h1 (by omega)) (Nat.le_of_ble_eq_true rfl) ?_
  refine P_aload_n dX4_fill_16 rfl ?_
  refine P_iconst dX4_fill_17 ci_1 ?_
  refine P_putZ dX4_fill_18 flX4_20 (set_at (hF1.at h1 (by omega))) (Nat.le_of_ble_eq_true rfl) (by first | exact Or.inl rfl | exact Or.inr rfl) ?_
  have hF2 : Fr G5 ((G5.set h (.inr (4, [.ref (h + 1), .int (nI s), .int kk]))).set h (.inr (4, [.ref (h + 1), .int (nI s), .int 1]))) h 1 := (Fr.set (by omega) (by omega)).tr (Fr.set (by omega) (by omega))
  exact P_vret dX4_fill_21 rfl ⟨Nat.le_refl _, Nat.le_refl _⟩ ⟨rfl, ⟨nI s, 1, ρ, set_at (set_at (hF1.at h1 (by omega))), hR1.fr hF2 (by omega), rfl, rfl, rfl⟩, (hF1.wide (by omega) (by omega)).tr (hF2.wide (by omega) (by omega))⟩
theorem t_bringBack (l : Launch) {G : PH} {h a b s s0 : Nat} {ρ ρ0 : Riv} (k : isImage G h (some (ρ, s))) (hR : isRiver G a ρ0) (hs : G[b]? = some (oW s0)) (hd : a + 7 ≤ h ∨ h + 8 ≤ a) (hd2 : b < h ∨ h + 8 ≤ b) (hd3 : b < a ∨ a + 7 ≤ b) : Tri l mX4_bringBack 0 0 [.ref h, .ref a, .ref b] G (fun w G' => w = none ∧ isRiver G' a ρ ∧ G'[b]? = some (oW s) ∧ Fr2 G G' a 7 b 1) := by
  obtain ⟨s9, kk, ρ9, h1, h2, rfl, rfl, rfl⟩ := k
  refine Tri.intro (L := [_, _, _]) okX4_bringBack.1 (Nat.le_of_ble_eq_true rfl) rfl ?_
  refine P_aload_n dX4_bringBack_0 rfl ?_
  refine P_aload_n dX4_bringBack_1 rfl ?_
  refine P_get dX4_bringBack_2 flX4_10 h1 rfl ?_
  refine P_callV dX4_bringBack_5 lkX4_24 okX6_copyFrom ⟨Nat.le_of_ble_eq_true rfl, Nat.le_of_ble_eq_true rfl⟩ (t_copyR l hR h2 (by omega)) rfl rfl hR.at (Nat.le_of_ble_eq_true rfl) ⟨Nat.le_of_ble_eq_true rfl, Nat.le_of_ble_eq_true rfl⟩ (fun v5 G5 q5 => ?_)
  obtain ⟨rfl, hR1, hF1⟩ := q5
  refine P_aload_n dX4_bringBack_8 rfl ?_
  refine P_aload_n dX4_bringBack_9 rfl ?_
  refine P_get dX4_bringBack_10 flX4_16 (hF1.at h1 (by omega)) rfl ?_
  refine P_callV dX4_bringBack_13 lkX4_34 okX2_setValue ⟨Nat.le_of_ble_eq_true rfl, Nat.le_of_ble_eq_true rfl⟩ (t_setValue l (hF1.at hs (by omega))) rfl rfl (hF1.at hs (by omega)) (Nat.le_of_ble_eq_true rfl) ⟨Nat.le_of_ble_eq_true rfl, Nat.le_of_ble_eq_true rfl⟩ (fun v13 G13 q13 => ?_)
  obtain ⟨rfl, hv, hF2⟩ := q13
  exact P_vret dX4_bringBack_16 rfl ⟨Nat.le_refl _, Nat.le_refl _⟩ ⟨rfl, hR1.fr hF2 (by omega), hv, hF1.l2.tr hF2.r2⟩
