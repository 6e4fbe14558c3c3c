theorem agr_S {ρ : Riv} {f1 f2 f3 : Nat → Int64} {r t : Nat} {v : Int32} (ka : rAgr ρ f1 f2 f3) (ht : t < 24) : rAgr (rvS ρ r t v) f1 (vp_updL f2 (r * 24 + t) v.toInt64) f3 := by
  intro a ha
  refine ⟨(ka a ha).1, fun b hb => ⟨?_, ((ka a ha).2 b hb).2⟩⟩
  by_cases e : a = r ∧ b = t
  · obtain ⟨rfl, rfl⟩ := e
    show vp_updL f2 _ _ _ = (up2 (rS ρ) a b v a b).toInt64
    rw [up2_s, pk_uLs]
  · show vp_updL f2 _ _ _ = (up2 (rS ρ) r t v a b).toInt64
    rw [up2_n e, pk_uLn (by omega)]
    exact ((ka a ha).2 b hb).1
theorem agr_E {ρ : Riv} {f1 f2 f3 : Nat → Int64} {r t : Nat} {v : Int32} (ka : rAgr ρ f1 f2 f3) (ht : t < 24) : rAgr (rvE ρ r t v) f1 f2 (vp_updL f3 (r * 24 + t) v.toInt64) := by
  intro a ha
  refine ⟨(ka a ha).1, fun b hb => ⟨((ka a ha).2 b hb).1, ?_⟩⟩
  by_cases e : a = r ∧ b = t
  · obtain ⟨rfl, rfl⟩ := e
    show vp_updL f3 _ _ _ = (up2 (rE ρ) a b v a b).toInt64
    rw [up2_s, pk_uLs]
  · show vp_updL f3 _ _ _ = (up2 (rE ρ) r t v a b).toInt64
    rw [up2_n e, pk_uLn (by omega)]
    exact ((ka a ha).2 b hb).2
theorem agr_f {g : Nat → Nat → Int32} {f1 : Nat → Int64} {n r i : Nat} {v : Int32} (ka : ∀ a, a < n → ∀ b, b < 4 → f1 (a * 4 + b) = (g a b).toInt64) (hi : i < 4) : ∀ a, a < n → ∀ b, b < 4 → vp_updL f1 (r * 4 + i) v.toInt64 (a * 4 + b) = (up2 g r i v a b).toInt64 := by
  intro a ha b hb
  by_cases e : a = r ∧ b = i
  · obtain ⟨rfl, rfl⟩ := e
    rw [up2_s, pk_uLs]
  · rw [up2_n e, pk_uLn (by omega)]
    exact ka a ha b hb
theorem agr_W {ρ : Riv} {f1 f2 f3 : Nat → Int64} {r : Nat} {k x : Int32} (ka : rAgr ρ f1 f2 f3) : rAgr (rvW ρ r k x) (vp_updL (vp_updL f1 (r * 4 + 1) k.toInt64) (r * 4 + 2) x.toInt64) f2 f3 := by
  intro a ha
  exact ⟨agr_f (n := rN ρ) (i := 2) (agr_f (n := rN ρ) (i := 1) (fun a ha => (ka a ha).1) (by decide)) (by decide) a ha, (ka a ha).2⟩
theorem t_timeCount (l : Launch) {G : PH} {h : Nat} {ρ : Riv} (hR : isRiver G h ρ) : Tri l mX6_timeCount 0 0 [.ref h] G (fun w G' => w = some (.int (nI (rT ρ))) ∧ G' = G) := by
  refine Tri.intro (L := [_]) okX6_timeCount.1 (Nat.le_of_ble_eq_true rfl) rfl ?_
  refine P_aload_n dX6_timeCount_0 rfl ?_
  refine P_get dX6_timeCount_1 flX6_26 hR.at rfl ?_
  exact P_iret dX6_timeCount_4 rfl ⟨Nat.le_refl _, Nat.le_refl _⟩ ⟨rfl, rfl⟩
theorem t_timeStep (l : Launch) {G : PH} {h : Nat} {ρ : Riv} (hR : isRiver G h ρ) : Tri l mX6_timeStep 0 0 [.ref h] G (fun w G' => w = some (.int (nI (rD ρ))) ∧ G' = G) := by
  refine Tri.intro (L := [_]) okX6_timeStep.1 (Nat.le_of_ble_eq_true rfl) rfl ?_
  refine P_aload_n dX6_timeStep_0 rfl ?_
  refine P_get dX6_timeStep_1 flX6_30 hR.at rfl ?_
  exact P_iret dX6_timeStep_4 rfl ⟨Nat.le_refl _, Nat.le_refl _⟩ ⟨rfl, rfl⟩
theorem t_reachCount (l : Launch) {G : PH} {h : Nat} {ρ : Riv} (hR : isRiver G h ρ) : Tri l mX6_reachCount 0 0 [.ref h] G (fun w G' => w = some (.int (nI (rN ρ))) ∧ G' = G) := by
  refine Tri.intro (L := [_]) okX6_reachCount.1 (Nat.le_of_ble_eq_true rfl) rfl ?_
  refine P_aload_n dX6_reachCount_0 rfl ?_
  refine P_get dX6_reachCount_1 flX6_33 hR.at rfl ?_
  exact P_iret dX6_reachCount_4 rfl ⟨Nat.le_refl _, Nat.le_refl _⟩ ⟨rfl, rfl⟩
theorem t_setT (l : Launch) {G : PH} {h : Nat} {ρ : Riv} {t : Nat} (hR : isRiver G h ρ) (h1 : 2 ≤ t) (h2 : t ≤ 24) : Tri l mX6_setTimeCount 0 0 [.ref h, .int (nI t)] G (fun w G' => w = none ∧ isRiver G' h (rvT ρ t) ∧ Fr G G' h 7) := by
  obtain ⟨f1, f2, f3, k, ka, kb⟩ := hR
  refine Tri.intro (L := [_, _]) okX6_setTimeCount.1 (Nat.le_of_ble_eq_true rfl) rfl ?_
  refine P_aload_n dX6_setTimeCount_0 rfl ?_
  refine P_iload_n dX6_setTimeCount_1 rfl ?_
  refine P_putI dX6_setTimeCount_2 flX6_26 k.1 (Nat.le_of_ble_eq_true rfl) ?_
  exact P_vret dX6_setTimeCount_5 rfl ⟨Nat.le_refl _, Nat.le_refl _⟩ ⟨rfl, ⟨f1, f2, f3, ⟨set_at k.1, k.2.1.fr (Fr.set (a := h) (n := 1) (by omega) (by omega)) (by omega), k.2.2.1.fr (Fr.set (a := h) (n := 1) (by omega) (by omega)) (by omega), k.2.2.2.fr (Fr.set (a := h) (n := 1) (by omega) (by omega)) (by omega)⟩, ka, ⟨h1, h2, kb.2.2⟩⟩, Fr.set (by omega) (by omega)⟩
theorem t_setD (l : Launch) {G : PH} {h : Nat} {ρ : Riv} {t : Nat} (hR : isRiver G h ρ) (h1 : 1 ≤ t) (h2 : t ≤ 9) : Tri l mX6_setTimeStep 0 0 [.ref h, .int (nI t)] G (fun w G' => w = none ∧ isRiver G' h (rvD ρ t) ∧ Fr G G' h 7) := by
  obtain ⟨f1, f2, f3, k, ka, kb⟩ := hR
  refine Tri.intro (L := [_, _]) okX6_setTimeStep.1 (Nat.le_of_ble_eq_true rfl) rfl ?_
  refine P_aload_n dX6_setTimeStep_0 rfl ?_
  refine P_iload_n dX6_setTimeStep_1 rfl ?_
  refine P_putI dX6_setTimeStep_2 flX6_30 k.1 (Nat.le_of_ble_eq_true rfl) ?_
  exact P_vret dX6_setTimeStep_5 rfl ⟨Nat.le_refl _, Nat.le_refl _⟩ ⟨rfl, ⟨f1, f2, f3, ⟨set_at k.1, k.2.1.fr (Fr.set (a := h) (n := 1) (by omega) (by omega)) (by omega), k.2.2.1.fr (Fr.set (a := h) (n := 1) (by omega) (by omega)) (by omega), k.2.2.2.fr (Fr.set (a := h) (n := 1) (by omega) (by omega)) (by omega)⟩, ka, ⟨kb.1, kb.2.1, h1, h2, kb.2.2.2.2⟩⟩, Fr.set (by omega) (by omega)⟩
theorem t_hasReach (l : Launch) {G : PH} {h : Nat} {ρ : Riv} {r : Int32} (hR : isRiver G h ρ) : Tri l mX6_hasReach 0 0 [.ref h, .int r] G (fun w G' => w = some (.int (if inN r (rN ρ) then 1 else 0)) ∧ G' = G) := by
  refine Tri.intro (L := [_, _]) okX6_hasReach.1 (Nat.le_of_ble_eq_true rfl) rfl ?_
  refine P_iload_n dX6_hasReach_0 rfl ?_
  refine P_if_lt (tgt := 16) dX6_hasReach_1 (by decide) (fun c1 => ?_) (fun c1 => ?_)
  · refine P_iconst dX6_hasReach_16 ci_0 ?_
    exact P_zret dX6_hasReach_17 rfl ⟨Nat.le_refl _, Nat.le_refl _⟩ (by first | exact Or.inl rfl | exact Or.inr rfl) ⟨by first | (simp [inN, c1, c9]; done) | (simp [inN, c1]; done), rfl⟩
  · refine P_iload_n dX6_hasReach_4 rfl ?_
    refine P_aload_n dX6_hasReach_5 rfl ?_
    refine P_get dX6_hasReach_6 flX6_33 hR.at rfl ?_
    refine P_icmp_ge (tgt := 16) dX6_hasReach_9 (by decide) (fun c9 => ?_) (fun c9 => ?_)
    · refine P_iconst dX6_hasReach_16 ci_0 ?_
      exact P_zret dX6_hasReach_17 rfl ⟨Nat.le_refl _, Nat.le_refl _⟩ (by first | exact Or.inl rfl | exact Or.inr rfl) ⟨by first | (simp [inN, c1, c9]; done) | (simp [inN, c1]; done), rfl⟩
    · refine P_iconst dX6_hasReach_12 ci_1 ?_
      refine P_goto (tgt := 17) dX6_hasReach_13 (by decide) ?_
      exact P_zret dX6_hasReach_17 rfl ⟨Nat.le_refl _, Nat.le_refl _⟩ (by first | exact Or.inl rfl | exact Or.inr rfl) ⟨by first | (simp [inN, c1, c9]; done) | (simp [inN, c1]; done), rfl⟩
theorem t_hasTime (l : Launch) {G : PH} {h : Nat} {ρ : Riv} {r : Int32} (hR : isRiver G h ρ) : Tri l mX6_hasTime 0 0 [.ref h, .int r] G (fun w G' => w = some (.int (if inN r (rT ρ) then 1 else 0)) ∧ G' = G) := by
  refine Tri.intro (L := [_, _]) okX6_hasTime.1 (Nat.le_of_ble_eq_true rfl) rfl ?_
  refine P_iload_n dX6_hasTime_0 rfl ?_
  refine P_if_lt (tgt := 16) dX6_hasTime_1 (by decide) (fun c1 => ?_) (fun c1 => ?_)
  · refine P_iconst dX6_hasTime_16 ci_0 ?_
    exact P_zret dX6_hasTime_17 rfl ⟨Nat.le_refl _, Nat.le_refl _⟩ (by first | exact Or.inl rfl | exact Or.inr rfl) ⟨by first | (simp [inN, c1, c9]; done) | (simp [inN, c1]; done), rfl⟩
  · refine P_iload_n dX6_hasTime_4 rfl ?_
    refine P_aload_n dX6_hasTime_5 rfl ?_
    refine P_get dX6_hasTime_6 flX6_26 hR.at rfl ?_
    refine P_icmp_ge (tgt := 16) dX6_hasTime_9 (by decide) (fun c9 => ?_) (fun c9 => ?_)
    · refine P_iconst dX6_hasTime_16 ci_0 ?_
      exact P_zret dX6_hasTime_17 rfl ⟨Nat.le_refl _, Nat.le_refl _⟩ (by first | exact Or.inl rfl | exact Or.inr rfl) ⟨by first | (simp [inN, c1, c9]; done) | (simp [inN, c1]; done), rfl⟩
    · refine P_iconst dX6_hasTime_12 ci_1 ?_
      refine P_goto (tgt := 17) dX6_hasTime_13 (by decide) ?_
      exact P_zret dX6_hasTime_17 rfl ⟨Nat.le_refl _, Nat.le_refl _⟩ (by first | exact Or.inl rfl | exact Or.inr rfl) ⟨by first | (simp [inN, c1, c9]; done) | (simp [inN, c1]; done), rfl⟩
theorem t_featureOf (l : Launch) {G : PH} {h : Nat} {ρ : Riv} {r : Nat} (i : Nat) (hR : isRiver G h ρ) (hr : r < rN ρ) (hi : i < 4) : Tri l mX6_featureOf 0 0 [.ref h, .int (nI r), .int (nI i)] G (fun w G' => w = some (.int (rF ρ r i)) ∧ G' = G) := by
  have hR0 := hR; obtain ⟨f1, f2, f3, k, ka, kb⟩ := hR; have hN : rN ρ ≤ 6 := kb.2.2.2.2
  refine Tri.intro (L := [_, _, _]) okX6_featureOf.1 (Nat.le_of_ble_eq_true rfl) rfl ?_
  refine P_aload_n dX6_featureOf_0 rfl ?_
  refine P_get dX6_featureOf_1 flX6_14 k.1 rfl ?_
  refine P_iload_n dX6_featureOf_4 rfl ?_
  refine P_iload_n dX6_featureOf_5 rfl ?_
  refine P_callVp dX6_featureOf_6 lkX6_47 okX1_at ⟨Nat.le_of_ble_eq_true rfl, Nat.le_of_ble_eq_true rfl⟩ (t_at l k.2.1 (by omega) hi) rfl rfl k.2.1.1 (Nat.le_of_ble_eq_true rfl) ⟨Nat.le_of_ble_eq_true rfl, Nat.le_of_ble_eq_true rfl⟩ ?_
  rw [(ka r hr).1 i hi]
  refine P_l2i dX6_featureOf_9 ?_
  rw [i64_32]
  exact P_iret dX6_featureOf_10 rfl ⟨Nat.le_refl _, Nat.le_refl _⟩ ⟨rfl, rfl⟩
theorem t_sideAt (l : Launch) {G : PH} {h : Nat} {ρ : Riv} {r t : Nat} (hR : isRiver G h ρ) (hr : r < rN ρ) (ht : t < 24) : Tri l mX6_sideAt 0 0 [.ref h, .int (nI r), .int (nI t)] G (fun w G' => w = some (.int (rS ρ r t)) ∧ G' = G) := by
  have hR0 := hR; obtain ⟨f1, f2, f3, k, ka, kb⟩ := hR; have hN : rN ρ ≤ 6 := kb.2.2.2.2
  refine Tri.intro (L := [_, _, _]) okX6_sideAt.1 (Nat.le_of_ble_eq_true rfl) rfl ?_
  refine P_aload_n dX6_sideAt_0 rfl ?_
  refine P_get dX6_sideAt_1 flX6_20 k.1 rfl ?_
  refine P_iload_n dX6_sideAt_4 rfl ?_
  refine P_iload_n dX6_sideAt_5 rfl ?_
  refine P_callVp dX6_sideAt_6 lkX6_47 okX1_at ⟨Nat.le_of_ble_eq_true rfl, Nat.le_of_ble_eq_true rfl⟩ (t_at l k.2.2.1 (by omega) ht) rfl rfl k.2.2.1.1 (Nat.le_of_ble_eq_true rfl) ⟨Nat.le_of_ble_eq_true rfl, Nat.le_of_ble_eq_true rfl⟩ ?_
  rw [((ka r hr).2 t ht).1]
  refine P_l2i dX6_sideAt_9 ?_
  rw [i64_32]
  exact P_iret dX6_sideAt_10 rfl ⟨Nat.le_refl _, Nat.le_refl _⟩ ⟨rfl, rfl⟩
theorem t_seenAt (l : Launch) {G : PH} {h : Nat} {ρ : Riv} {r t : Nat} (hR : isRiver G h ρ) (hr : r < rN ρ) (ht : t < 24) : Tri l mX6_seenAt 0 0 [.ref h, .int (nI r), .int (nI t)] G (fun w G' => w = some (.int (rE ρ r t)) ∧ G' = G) := by
  have hR0 := hR; obtain ⟨f1, f2, f3, k, ka, kb⟩ := hR; have hN : rN ρ ≤ 6 := kb.2.2.2.2
  refine Tri.intro (L := [_, _, _]) okX6_seenAt.1 (Nat.le_of_ble_eq_true rfl) rfl ?_
  refine P_aload_n dX6_seenAt_0 rfl ?_
  refine P_get dX6_seenAt_1 flX6_23 k.1 rfl ?_
  refine P_iload_n dX6_seenAt_4 rfl ?_
  refine P_iload_n dX6_seenAt_5 rfl ?_
  refine P_callVp dX6_seenAt_6 lkX6_47 okX1_at ⟨Nat.le_of_ble_eq_true rfl, Nat.le_of_ble_eq_true rfl⟩ (t_at l k.2.2.2 (by omega) ht) rfl rfl k.2.2.2.1 (Nat.le_of_ble_eq_true rfl) ⟨Nat.le_of_ble_eq_true rfl, Nat.le_of_ble_eq_true rfl⟩ ?_
  rw [((ka r hr).2 t ht).2]
  refine P_l2i dX6_seenAt_9 ?_
  rw [i64_32]
  exact P_iret dX6_seenAt_10 rfl ⟨Nat.le_refl _, Nat.le_refl _⟩ ⟨rfl, rfl⟩
theorem t_setSide (l : Launch) {G : PH} {h : Nat} {ρ : Riv} {r t : Nat} {v : Int32} (hR : isRiver G h ρ) (hr : r < rN ρ) (ht : t < 24) : Tri l mX6_setSide 0 0 [.ref h, .int (nI r), .int (nI t), .int v] G (fun w G' => w = none ∧ isRiver G' h (rvS ρ r t v) ∧ Fr G G' h 7) := by
  have hR0 := hR; obtain ⟨f1, f2, f3, k, ka, kb⟩ := hR; have hN : rN ρ ≤ 6 := kb.2.2.2.2
  refine Tri.intro (L := [_, _, _, _]) okX6_setSide.1 (Nat.le_of_ble_eq_true rfl) rfl ?_
  refine P_aload_n dX6_setSide_0 rfl ?_
  refine P_get dX6_setSide_1 flX6_20 k.1 rfl ?_
  refine P_iload_n dX6_setSide_4 rfl ?_
  refine P_iload_n dX6_setSide_5 rfl ?_
  refine P_iload_n dX6_setSide_6 rfl ?_
  refine P_i2l dX6_setSide_7 ?_
  refine P_callV dX6_setSide_8 lkX6_51 okX1_put ⟨Nat.le_of_ble_eq_true rfl, Nat.le_of_ble_eq_true rfl⟩ (t_put l k.2.2.1 (by omega) ht) rfl rfl k.2.2.1.1 (Nat.le_of_ble_eq_true rfl) ⟨Nat.le_of_ble_eq_true rfl, Nat.le_of_ble_eq_true rfl⟩ (fun v8 G8 q8 => ?_)
  obtain ⟨rfl, kk, hF⟩ := q8
  exact P_vret dX6_setSide_11 rfl ⟨Nat.le_refl _, Nat.le_refl _⟩ ⟨rfl, ⟨f1, _, f3, ⟨hF.at k.1 (by omega), k.2.1.fr hF (by omega), kk, k.2.2.2.fr hF (by omega)⟩, agr_S ka ht, kb⟩, hF.wide (by omega) (by omega)⟩
theorem t_setSeen (l : Launch) {G : PH} {h : Nat} {ρ : Riv} {r t : Nat} {v : Int32} (hR : isRiver G h ρ) (hr : r < rN ρ) (ht : t < 24) : Tri l mX6_setSeen 0 0 [.ref h, .int (nI r), .int (nI t), .int v] G (fun w G' => w = none ∧ isRiver G' h (rvE ρ r t v) ∧ Fr G G' h 7) := by
  have hR0 := hR; obtain ⟨f1, f2, f3, k, ka, kb⟩ := hR; have hN : rN ρ ≤ 6 := kb.2.2.2.2
  refine Tri.intro (L := [_, _, _, _]) okX6_setSeen.1 (Nat.le_of_ble_eq_true rfl) rfl ?_
  refine P_aload_n dX6_setSeen_0 rfl ?_
  refine P_get dX6_setSeen_1 flX6_23 k.1 rfl ?_
  refine P_iload_n dX6_setSeen_4 rfl ?_
  refine P_iload_n dX6_setSeen_5 rfl ?_
  refine P_iload_n dX6_setSeen_6 rfl ?_
  refine P_i2l dX6_setSeen_7 ?_
  refine P_callV dX6_setSeen_8 lkX6_51 okX1_put ⟨Nat.le_of_ble_eq_true rfl, Nat.le_of_ble_eq_true rfl⟩ (t_put l k.2.2.2 (by omega) ht) rfl rfl k.2.2.2.1 (Nat.le_of_ble_eq_true rfl) ⟨Nat.le_of_ble_eq_true rfl, Nat.le_of_ble_eq_true rfl⟩ (fun v8 G8 q8 => ?_)
  obtain ⟨rfl, kk, hF⟩ := q8
  exact P_vret dX6_setSeen_11 rfl ⟨Nat.le_refl _, Nat.le_refl _⟩ ⟨rfl, ⟨f1, f2, _, ⟨hF.at k.1 (by omega), k.2.1.fr hF (by omega), k.2.2.1.fr hF (by omega), kk⟩, agr_E ka ht, kb⟩, hF.wide (by omega) (by omega)⟩
theorem t_setW0 (l : Launch) {G : PH} {h T D N r : Nat} {f1 f2 f3 : Nat → Int64} {k0 x0 : Int32} (k : riv0 G h T D N f1 f2 f3) (hr : r < 6) : Tri l mX6_setWeights 0 0 [.ref h, .int (nI r), .int k0, .int x0] G (fun w G' => w = none ∧ riv0 G' h T D N (vp_updL (vp_updL f1 (r * 4 + 1) k0.toInt64) (r * 4 + 2) x0.toInt64) f2 f3 ∧ Fr G G' h 7) := by
  refine Tri.intro (L := [_, _, _, _]) okX6_setWeights.1 (Nat.le_of_ble_eq_true rfl) rfl ?_
  refine P_aload_n dX6_setWeights_0 rfl ?_
  refine P_get dX6_setWeights_1 flX6_14 k.1 rfl ?_
  refine P_iload_n dX6_setWeights_4 rfl ?_
  refine P_iconst dX6_setWeights_5 ci_1 ?_
  refine P_iload_n dX6_setWeights_6 rfl ?_
  refine P_i2l dX6_setWeights_7 ?_
  refine P_callV dX6_setWeights_8 lkX6_51 okX1_put ⟨Nat.le_of_ble_eq_true rfl, Nat.le_of_ble_eq_true rfl⟩ (t_put (c := 1) l k.2.1 hr (by decide)) rfl rfl k.2.1.1 (Nat.le_of_ble_eq_true rfl) ⟨Nat.le_of_ble_eq_true rfl, Nat.le_of_ble_eq_true rfl⟩ (fun v8 G8 q8 => ?_)
  obtain ⟨rfl, kk1, hF1⟩ := q8
  refine P_aload_n dX6_setWeights_11 rfl ?_
  refine P_get dX6_setWeights_12 flX6_14 (hF1.at k.1 (by omega)) rfl ?_
  refine P_iload_n dX6_setWeights_15 rfl ?_
  refine P_iconst dX6_setWeights_16 ci_2 ?_
  refine P_iload_n dX6_setWeights_17 rfl ?_
  refine P_i2l dX6_setWeights_18 ?_
  refine P_callV dX6_setWeights_19 lkX6_51 okX1_put ⟨Nat.le_of_ble_eq_true rfl, Nat.le_of_ble_eq_true rfl⟩ (t_put (c := 2) l kk1 hr (by decide)) rfl rfl kk1.1 (Nat.le_of_ble_eq_true rfl) ⟨Nat.le_of_ble_eq_true rfl, Nat.le_of_ble_eq_true rfl⟩ (fun v19 G19 q19 => ?_)
  obtain ⟨rfl, kk2, hF2⟩ := q19
  exact P_vret dX6_setWeights_22 rfl ⟨Nat.le_refl _, Nat.le_refl _⟩ ⟨rfl, ⟨(hF1.tr hF2).at k.1 (by omega), kk2, k.2.2.1.fr (hF1.tr hF2) (by omega), k.2.2.2.fr (hF1.tr hF2) (by omega)⟩, (hF1.tr hF2).wide (by omega) (by omega)⟩
theorem Tri.mono {l : Launch} {M : MD} {mc ms : Nat} {av : List Value} {G : PH} {Q Q' : Option Value → PH → Prop} (h : Tri l M mc ms av G Q) (hq : ∀ v G', Q v G' → Q' v G') : Tri l M mc ms av G Q' := by
  intro E
  intro p e a b c s m args below f1 f2 f3 f4
  obtain ⟨t, o, h1, h2, h3, ⟨⟨v, G', e1, e2, e3, e4⟩, e5⟩, h5⟩ := h E p e a b c s m args below f1 f2 f3 f4
  exact ⟨t, o, h1, h2, h3, ⟨⟨v, G', e1, hq v G' e2, e3, e4⟩, e5⟩, h5⟩
theorem t_setW (l : Launch) {G : PH} {h : Nat} {ρ : Riv} {r : Nat} {k0 x0 : Int32} (hR : isRiver G h ρ) (hr : r < rN ρ) : Tri l mX6_setWeights 0 0 [.ref h, .int (nI r), .int k0, .int x0] G (fun w G' => w = none ∧ isRiver G' h (rvW ρ r k0 x0) ∧ Fr G G' h 7) := by
  obtain ⟨f1, f2, f3, k, ka, kb⟩ := hR
  have hN : rN ρ ≤ 6 := kb.2.2.2.2
  exact (t_setW0 l k (by omega)).mono (fun v G' q => ⟨q.1, ⟨_, f2, f3, q.2.1, agr_W ka, kb⟩, q.2.2⟩)
theorem t_clearR (l : Launch) {G : PH} {h : Nat} {ρ : Riv} (hR : isRiver G h ρ) : Tri l mX6_clear 0 0 [.ref h] G (fun w G' => w = none ∧ isRiver G' h ((12, 1, 0), ρ.2) ∧ Fr G G' h 7) := by
  obtain ⟨f1, f2, f3, k, ka, kb⟩ := hR
  have hF := (Fr.set (G := G) (a := h) (n := 1) (i := h) (c := .inr (6, [.ref (h + 1), .ref (h + 3), .ref (h + 5), .int (nI 12), .int (nI (rD ρ)), .int (nI (rN ρ))])) (by omega) (by omega)).tr ((Fr.set (a := h) (n := 1) (i := h) (c := .inr (6, [.ref (h + 1), .ref (h + 3), .ref (h + 5), .int (nI 12), .int (nI 1), .int (nI (rN ρ))])) (by omega) (by omega)).tr (Fr.set (a := h) (n := 1) (i := h) (c := .inr (6, [.ref (h + 1), .ref (h + 3), .ref (h + 5), .int (nI 12), .int (nI 1), .int (nI 0)])) (by omega) (by omega)))
  refine Tri.intro (L := [_]) okX6_clear.1 (Nat.le_of_ble_eq_true rfl) rfl ?_
  refine P_aload_n dX6_clear_0 rfl ?_
  refine P_bipush dX6_clear_1 bp_12 ?_
  refine P_putI dX6_clear_3 flX6_26 k.1 (Nat.le_of_ble_eq_true rfl) ?_
  refine P_aload_n dX6_clear_6 rfl ?_
  refine P_iconst dX6_clear_7 ci_1 ?_
  refine P_putI dX6_clear_8 flX6_30 (set_at k.1) (Nat.le_of_ble_eq_true rfl) ?_
  refine P_aload_n dX6_clear_11 rfl ?_
  refine P_iconst dX6_clear_12 ci_0 ?_
  refine P_putI dX6_clear_13 flX6_33 (set_at (set_at k.1)) (Nat.le_of_ble_eq_true rfl) ?_
  exact P_vret dX6_clear_16 rfl ⟨Nat.le_refl _, Nat.le_refl _⟩ ⟨rfl, ⟨f1, f2, f3, ⟨set_at (set_at (set_at k.1)), k.2.1.fr hF (by omega), k.2.2.1.fr hF (by omega), k.2.2.2.fr hF (by omega)⟩, (fun r hr => absurd hr (Nat.not_lt_zero r)), ⟨Nat.le_of_ble_eq_true rfl, Nat.le_of_ble_eq_true rfl, Nat.le_of_ble_eq_true rfl, Nat.le_of_ble_eq_true rfl, Nat.le_of_ble_eq_true rfl⟩⟩, hF.wide (by omega) (by omega)⟩
set_option maxHeartbeats 4000000 in
set_option maxRecDepth 100000 in
theorem t_copyR (l : Launch) {G : PH} {h h' : Nat} {ρ0 ρ : Riv} (hR : isRiver G h ρ0) (hR' : isRiver G h' ρ) (hd : h + 7 ≤ h' ∨ h' + 7 ≤ h) : Tri l mX6_copyFrom 0 0 [.ref h, .ref h'] G (fun w G' => w = none ∧ isRiver G' h ρ ∧ Fr G G' h 7) := by
  obtain ⟨f1, f2, f3, k, ka0, kb0⟩ := hR
  obtain ⟨g1, g2, g3, g, ka, kb⟩ := hR'
  refine Tri.intro (L := [_, _]) okX6_copyFrom.1 (Nat.le_of_ble_eq_true rfl) rfl ?_
  refine P_aload_n dX6_copyFrom_0 rfl ?_
  refine P_get dX6_copyFrom_1 flX6_14 k.1 rfl ?_
  refine P_aload_n dX6_copyFrom_4 rfl ?_
  refine P_get dX6_copyFrom_5 flX6_14 g.1 rfl ?_
  refine P_callV dX6_copyFrom_8 lkX6_36 okX1_copyFrom ⟨Nat.le_of_ble_eq_true rfl, Nat.le_of_ble_eq_true rfl⟩ (t_copyCells l k.2.1 g.2.1) rfl rfl k.2.1.1 (Nat.le_of_ble_eq_true rfl) ⟨Nat.le_of_ble_eq_true rfl, Nat.le_of_ble_eq_true rfl⟩ (fun v8 G8 q8 => ?_)
  obtain ⟨rfl, p1, c1, e1, hG1⟩ := q8
  have hF1 := hG1.wide (b := h + 1) (m := 6) (by omega) (by omega)
  refine P_aload_n dX6_copyFrom_11 rfl ?_
  refine P_get dX6_copyFrom_12 flX6_20 (hF1.at k.1 (by omega)) rfl ?_
  refine P_aload_n dX6_copyFrom_15 rfl ?_
  refine P_get dX6_copyFrom_16 flX6_20 (hF1.at g.1 (by omega)) rfl ?_
  refine P_callV dX6_copyFrom_19 lkX6_36 okX1_copyFrom ⟨Nat.le_of_ble_eq_true rfl, Nat.le_of_ble_eq_true rfl⟩ (t_copyCells l (k.2.2.1.fr hG1 (by omega)) (g.2.2.1.fr hF1 (by omega))) rfl rfl (k.2.2.1.fr hG1 (by omega)).1 (Nat.le_of_ble_eq_true rfl) ⟨Nat.le_of_ble_eq_true rfl, Nat.le_of_ble_eq_true rfl⟩ (fun v19 G19 q19 => ?_)
  obtain ⟨rfl, p2, c2, e2, hG2⟩ := q19
  have hF2 := hF1.tr (hG2.wide (b := h + 1) (m := 6) (by omega) (by omega))
  refine P_aload_n dX6_copyFrom_22 rfl ?_
  refine P_get dX6_copyFrom_23 flX6_23 (hF2.at k.1 (by omega)) rfl ?_
  refine P_aload_n dX6_copyFrom_26 rfl ?_
  refine P_get dX6_copyFrom_27 flX6_23 (hF2.at g.1 (by omega)) rfl ?_
  refine P_callV dX6_copyFrom_30 lkX6_36 okX1_copyFrom ⟨Nat.le_of_ble_eq_true rfl, Nat.le_of_ble_eq_true rfl⟩ (t_copyCells l ((k.2.2.2.fr hG1 (by omega)).fr hG2 (by omega)) (g.2.2.2.fr hF2 (by omega))) rfl rfl ((k.2.2.2.fr hG1 (by omega)).fr hG2 (by omega)).1 (Nat.le_of_ble_eq_true rfl) ⟨Nat.le_of_ble_eq_true rfl, Nat.le_of_ble_eq_true rfl⟩ (fun v30 G30 q30 => ?_)
  obtain ⟨rfl, p3, c3, e3, hG3⟩ := q30
  have hF3 := hF2.tr (hG3.wide (b := h + 1) (m := 6) (by omega) (by omega))
  refine P_aload_n dX6_copyFrom_33 rfl ?_
  refine P_aload_n dX6_copyFrom_34 rfl ?_
  refine P_get dX6_copyFrom_35 flX6_26 (hF3.at g.1 (by omega)) rfl ?_
  refine P_putI dX6_copyFrom_38 flX6_26 (hF3.at k.1 (by omega)) (Nat.le_of_ble_eq_true rfl) ?_
  have hF4 := Fr.set (G := G30) (a := h) (n := 1) (i := h) (c := .inr (6, [.ref (h + 1), .ref (h + 3), .ref (h + 5), .int (nI (rT ρ)), .int (nI (rD ρ0)), .int (nI (rN ρ0))])) (by omega) (by omega)
  refine P_aload_n dX6_copyFrom_41 rfl ?_
  refine P_aload_n dX6_copyFrom_42 rfl ?_
  refine P_get dX6_copyFrom_43 flX6_30 (hF4.at (hF3.at g.1 (by omega)) (by omega)) rfl ?_
  refine P_putI dX6_copyFrom_46 flX6_30 (set_at (hF3.at k.1 (by omega))) (Nat.le_of_ble_eq_true rfl) ?_
  have hF5 := hF4.tr (Fr.set (a := h) (n := 1) (i := h) (c := .inr (6, [.ref (h + 1), .ref (h + 3), .ref (h + 5), .int (nI (rT ρ)), .int (nI (rD ρ)), .int (nI (rN ρ0))])) (by omega) (by omega))
  refine P_aload_n dX6_copyFrom_49 rfl ?_
  refine P_aload_n dX6_copyFrom_50 rfl ?_
  refine P_get dX6_copyFrom_51 flX6_33 (hF5.at (hF3.at g.1 (by omega)) (by omega)) rfl ?_
  refine P_putI dX6_copyFrom_54 flX6_33 (set_at (set_at (hF3.at k.1 (by omega)))) (Nat.le_of_ble_eq_true rfl) ?_
  have hF6 := hF5.tr (Fr.set (a := h) (n := 1) (i := h) (c := .inr (6, [.ref (h + 1), .ref (h + 3), .ref (h + 5), .int (nI (rT ρ)), .int (nI (rD ρ)), .int (nI (rN ρ))])) (by omega) (by omega))
  have hN : rN ρ ≤ 6 := kb.2.2.2.2
  exact P_vret dX6_copyFrom_57 rfl ⟨Nat.le_refl _, Nat.le_refl _⟩ ⟨rfl, ⟨p1, p2, p3, ⟨set_at (set_at (set_at (hF3.at k.1 (by omega)))), ((c1.fr hG2 (by omega)).fr hG3 (by omega)).fr hF6 (by omega), (c2.fr hG3 (by omega)).fr hF6 (by omega), c3.fr hF6 (by omega)⟩, (fun r hr => ⟨fun i hi => by rw [e1 _ (by omega)]; exact (ka r hr).1 i hi, fun t ht => ⟨by rw [e2 _ (by omega)]; exact ((ka r hr).2 t ht).1, by rw [e3 _ (by omega)]; exact ((ka r hr).2 t ht).2⟩⟩), kb⟩, (hF3.wide (by omega) (by omega)).tr (hF6.wide (by omega) (by omega))⟩
theorem t_weightA (l : Launch) {G : PH} {d k x : Int32}  : Tri l mX6_weightA 0 0 [.int d, .int k, .int x] G (fun w G' => w = some (.int (wA d k x)) ∧ G' = G) := by
  refine Tri.intro (L := [_, _, _]) okX6_weightA.1 (Nat.le_of_ble_eq_true rfl) rfl ?_
  refine P_bipush dX6_weightA_0 bp_10 ?_
  refine P_iload_n dX6_weightA_2 rfl ?_
  refine P_imul dX6_weightA_3 ?_
  refine P_iload_n dX6_weightA_4 rfl ?_
  refine P_iload_n dX6_weightA_5 rfl ?_
  refine P_imul dX6_weightA_6 ?_
  refine P_isub dX6_weightA_7 ?_
  exact P_iret dX6_weightA_8 rfl ⟨Nat.le_refl _, Nat.le_refl _⟩ ⟨rfl, rfl⟩
theorem t_weightB (l : Launch) {G : PH} {d k x : Int32}  : Tri l mX6_weightB 0 0 [.int d, .int k, .int x] G (fun w G' => w = some (.int (wB d k x)) ∧ G' = G) := by
  refine Tri.intro (L := [_, _, _]) okX6_weightB.1 (Nat.le_of_ble_eq_true rfl) rfl ?_
  refine P_bipush dX6_weightB_0 bp_10 ?_
  refine P_iload_n dX6_weightB_2 rfl ?_
  refine P_imul dX6_weightB_3 ?_
  refine P_iload_n dX6_weightB_4 rfl ?_
  refine P_iload_n dX6_weightB_5 rfl ?_
  refine P_imul dX6_weightB_6 ?_
  refine P_iadd dX6_weightB_7 ?_
  exact P_iret dX6_weightB_8 rfl ⟨Nat.le_refl _, Nat.le_refl _⟩ ⟨rfl, rfl⟩
theorem t_weightC (l : Launch) {G : PH} {d k x : Int32}  : Tri l mX6_weightC 0 0 [.int d, .int k, .int x] G (fun w G' => w = some (.int (wC d k x)) ∧ G' = G) := by
  refine Tri.intro (L := [_, _, _]) okX6_weightC.1 (Nat.le_of_ble_eq_true rfl) rfl ?_
  refine P_bipush dX6_weightC_0 bp_20 ?_
  refine P_iload_n dX6_weightC_2 rfl ?_
  refine P_imul dX6_weightC_3 ?_
  refine P_iload_n dX6_weightC_4 rfl ?_
  refine P_iload_n dX6_weightC_5 rfl ?_
  refine P_imul dX6_weightC_6 ?_
  refine P_isub dX6_weightC_7 ?_
  refine P_bipush dX6_weightC_8 bp_10 ?_
  refine P_iload_n dX6_weightC_10 rfl ?_
  refine P_imul dX6_weightC_11 ?_
  refine P_isub dX6_weightC_12 ?_
  exact P_iret dX6_weightC_13 rfl ⟨Nat.le_refl _, Nat.le_refl _⟩ ⟨rfl, rfl⟩
theorem t_weightM (l : Launch) {G : PH} {d k x : Int32}  : Tri l mX6_weightM 0 0 [.int d, .int k, .int x] G (fun w G' => w = some (.int (wM d k x)) ∧ G' = G) := by
  refine Tri.intro (L := [_, _, _]) okX6_weightM.1 (Nat.le_of_ble_eq_true rfl) rfl ?_
  refine P_bipush dX6_weightM_0 bp_20 ?_
  refine P_iload_n dX6_weightM_2 rfl ?_
  refine P_imul dX6_weightM_3 ?_
  refine P_iload_n dX6_weightM_4 rfl ?_
  refine P_iload_n dX6_weightM_5 rfl ?_
  refine P_imul dX6_weightM_6 ?_
  refine P_isub dX6_weightM_7 ?_
  refine P_bipush dX6_weightM_8 bp_10 ?_
  refine P_iload_n dX6_weightM_10 rfl ?_
  refine P_imul dX6_weightM_11 ?_
  refine P_iadd dX6_weightM_12 ?_
  exact P_iret dX6_weightM_13 rfl ⟨Nat.le_refl _, Nat.le_refl _⟩ ⟨rfl, rfl⟩
theorem t_areLawful (l : Launch) {G : PH} {d k x : Int32}  : Tri l mX6_areLawful 0 0 [.int d, .int k, .int x] G (fun w G' => w = some (.int (if lawP d k x then 1 else 0)) ∧ G' = G) := by
  refine Tri.intro (L := [_, _, _]) okX6_areLawful.1 (Nat.le_of_ble_eq_true rfl) rfl ?_
  refine P_iload_n dX6_areLawful_0 rfl ?_
  refine P_iload_n dX6_areLawful_1 rfl ?_
  refine P_iload_n dX6_areLawful_2 rfl ?_
  refine P_callSp dX6_areLawful_3 lkX6_40 okX6_weightA ⟨Nat.le_of_ble_eq_true rfl, Nat.le_of_ble_eq_true rfl⟩ (t_weightA l) rfl rfl (Nat.le_of_ble_eq_true rfl) ⟨Nat.le_of_ble_eq_true rfl, Nat.le_of_ble_eq_true rfl⟩ ?_
  refine P_if_lt (tgt := 22) dX6_areLawful_6 (by decide) (fun c6 => ?_) (fun c6 => ?_)
  · refine P_iconst dX6_areLawful_22 ci_0 ?_
    exact P_zret dX6_areLawful_23 rfl ⟨Nat.le_refl _, Nat.le_refl _⟩ (by first | exact Or.inl rfl | exact Or.inr rfl) ⟨by first | (simp [lawP, c6, c15]; done) | (simp [lawP, c6]; done), rfl⟩
  · refine P_iload_n dX6_areLawful_9 rfl ?_
    refine P_iload_n dX6_areLawful_10 rfl ?_
    refine P_iload_n dX6_areLawful_11 rfl ?_
    refine P_callSp dX6_areLawful_12 lkX6_44 okX6_weightC ⟨Nat.le_of_ble_eq_true rfl, Nat.le_of_ble_eq_true rfl⟩ (t_weightC l) rfl rfl (Nat.le_of_ble_eq_true rfl) ⟨Nat.le_of_ble_eq_true rfl, Nat.le_of_ble_eq_true rfl⟩ ?_
    refine P_if_lt (tgt := 22) dX6_areLawful_15 (by decide) (fun c15 => ?_) (fun c15 => ?_)
    · refine P_iconst dX6_areLawful_22 ci_0 ?_
      exact P_zret dX6_areLawful_23 rfl ⟨Nat.le_refl _, Nat.le_refl _⟩ (by first | exact Or.inl rfl | exact Or.inr rfl) ⟨by first | (simp [lawP, c6, c15]; done) | (simp [lawP, c6]; done), rfl⟩
    · refine P_iconst dX6_areLawful_18 ci_1 ?_
      refine P_goto (tgt := 23) dX6_areLawful_19 (by decide) ?_
      exact P_zret dX6_areLawful_23 rfl ⟨Nat.le_refl _, Nat.le_refl _⟩ (by first | exact Or.inl rfl | exact Or.inr rfl) ⟨by first | (simp [lawP, c6, c15]; done) | (simp [lawP, c6]; done), rfl⟩
theorem ite01 (c : Prop) [Decidable c] : (if c then (1 : Int32) else 0) = 0 ∨ (if c then (1 : Int32) else 0) = 1 := by by_cases h : c <;> simp [h]
theorem t_isLawful (l : Launch) {G : PH} {h : Nat} {ρ : Riv} {r : Nat} (hR : isRiver G h ρ) (hr : r < rN ρ) : Tri l mX6_isLawful 0 0 [.ref h, .int (nI r)] G (fun w G' => w = some (.int (if lawR ρ r then 1 else 0)) ∧ G' = G) := by
  refine Tri.intro (L := [_, _]) okX6_isLawful.1 (Nat.le_of_ble_eq_true rfl) rfl ?_
  refine P_aload_n dX6_isLawful_0 rfl ?_
  refine P_get dX6_isLawful_1 flX6_30 hR.at rfl ?_
  refine P_aload_n dX6_isLawful_4 rfl ?_
  refine P_iload_n dX6_isLawful_5 rfl ?_
  refine P_iconst dX6_isLawful_6 ci_1 ?_
  refine P_callVp dX6_isLawful_7 lkX6_55 okX6_featureOf ⟨Nat.le_of_ble_eq_true rfl, Nat.le_of_ble_eq_true rfl⟩ (t_featureOf l 1 hR hr (by decide)) rfl rfl hR.at (Nat.le_of_ble_eq_true rfl) ⟨Nat.le_of_ble_eq_true rfl, Nat.le_of_ble_eq_true rfl⟩ ?_
  refine P_aload_n dX6_isLawful_10 rfl ?_
  refine P_iload_n dX6_isLawful_11 rfl ?_
  refine P_iconst dX6_isLawful_12 ci_2 ?_
  refine P_callVp dX6_isLawful_13 lkX6_55 okX6_featureOf ⟨Nat.le_of_ble_eq_true rfl, Nat.le_of_ble_eq_true rfl⟩ (t_featureOf l 2 hR hr (by decide)) rfl rfl hR.at (Nat.le_of_ble_eq_true rfl) ⟨Nat.le_of_ble_eq_true rfl, Nat.le_of_ble_eq_true rfl⟩ ?_
  refine P_callSp dX6_isLawful_16 lkX6_59 okX6_areLawful ⟨Nat.le_of_ble_eq_true rfl, Nat.le_of_ble_eq_true rfl⟩ (t_areLawful l) rfl rfl (Nat.le_of_ble_eq_true rfl) ⟨Nat.le_of_ble_eq_true rfl, Nat.le_of_ble_eq_true rfl⟩ ?_
  exact P_zret dX6_isLawful_19 rfl ⟨Nat.le_refl _, Nat.le_refl _⟩ (by first | exact Or.inl rfl | exact Or.inr rfl | exact ite01 _) ⟨rfl, rfl⟩
theorem t_hasRoom (l : Launch) {G : PH} {h : Nat} {ρ : Riv} (hR : isRiver G h ρ) : Tri l mX6_hasRoomForReach 0 0 [.ref h] G (fun w G' => w = some (.int (if rN ρ < 6 then 1 else 0)) ∧ G' = G) := by
  have hN : rN ρ ≤ 6 := hR.bd.2.2.2.2
  refine Tri.intro (L := [_]) okX6_hasRoomForReach.1 (Nat.le_of_ble_eq_true rfl) rfl ?_
  refine P_aload_n dX6_hasRoomForReach_0 rfl ?_
  refine P_get dX6_hasRoomForReach_1 flX6_33 hR.at rfl ?_
  refine P_bipush dX6_hasRoomForReach_4 bp_6 ?_
  refine P_icmp_ge (tgt := 13) dX6_hasRoomForReach_6 (by decide) (fun c6 => ?_) (fun c6 => ?_)
  · have e : ¬ rN ρ < 6 := fun q => nI_ge q (by omega) c6
    refine P_iconst dX6_hasRoomForReach_13 ci_0 ?_
    exact P_zret dX6_hasRoomForReach_14 rfl ⟨Nat.le_refl _, Nat.le_refl _⟩ (by first | exact Or.inl rfl | exact Or.inr rfl) ⟨by simp [e], rfl⟩
  · have e : rN ρ < 6 := Nat.not_le.mp fun q => c6 (nI_le (a := 6) q (by omega))
    refine P_iconst dX6_hasRoomForReach_9 ci_1 ?_
    refine P_goto (tgt := 14) dX6_hasRoomForReach_10 (by decide) ?_
    exact P_zret dX6_hasRoomForReach_14 rfl ⟨Nat.le_refl _, Nat.le_refl _⟩ (by first | exact Or.inl rfl | exact Or.inr rfl) ⟨by simp [e], rfl⟩
set_option maxRecDepth 100000 in
theorem lp_lawfulCount (l : Launch) {G : PH} {h : Nat} {ρ : Riv} (hR : isRiver G h ρ) : ∀ (n : Nat) (i : Nat), rN ρ - i < n → i ≤ rN ρ → WP mX6_lawfulCount l (rmM mX6_lawfulCount 0 0) (ZM 0 0 (fun w G' => w = some (.int (lawC ρ (rN ρ))) ∧ G' = G)) XT 0 0 4 [some (.ref h), some (.int (lawC ρ i)), some (.int (nI i))] [] G := by
  intro n
  induction n with
  | zero => intro i hn hi; exact absurd hn (Nat.not_lt_zero _)
  | succ n ih =>
    intro i hn hi
    have hN : rN ρ ≤ 6 := hR.bd.2.2.2.2
    refine P_iload_n dX6_lawfulCount_4 rfl ?_
    refine P_aload_n dX6_lawfulCount_5 rfl ?_
    refine P_get dX6_lawfulCount_6 flX6_33 hR.at rfl ?_
    refine P_icmp_ge (tgt := 29) dX6_lawfulCount_9 (by decide) (fun c9 => ?_) (fun c9 => ?_)
    · have hi2 : i = rN ρ := Nat.le_antisymm hi (Nat.not_lt.mp fun q => nI_ge q (by omega) c9)
      subst hi2
      refine P_iload_n dX6_lawfulCount_29 rfl ?_
      exact P_iret dX6_lawfulCount_30 rfl ⟨Nat.le_refl _, Nat.le_refl _⟩ ⟨rfl, rfl⟩
    · have hlt : i < rN ρ := Nat.not_le.mp fun q => c9 (nI_le q (by omega))
      refine P_aload_n dX6_lawfulCount_12 rfl ?_
      refine P_iload_n dX6_lawfulCount_13 rfl ?_
      refine P_callVp dX6_lawfulCount_14 lkX6_63 okX6_isLawful ⟨Nat.le_of_ble_eq_true rfl, Nat.le_of_ble_eq_true rfl⟩ (t_isLawful l hR hlt) rfl rfl hR.at (Nat.le_of_ble_eq_true rfl) ⟨Nat.le_of_ble_eq_true rfl, Nat.le_of_ble_eq_true rfl⟩ ?_
      refine P_if_eq (tgt := 23) dX6_lawfulCount_17 (by decide) (fun c17 => ?_) (fun c17 => ?_)
      · have e : ¬ lawR ρ i := fun q => by rw [if_pos q] at c17; exact absurd c17 (by decide)
        have e2 : lawC ρ i = lawC ρ (i + 1) := by show _ = lawC ρ i + (if lawR ρ i then 1 else 0); rw [if_neg e]; simp
        rw [e2]
        refine P_iinc (L' := [_, _, _]) dX6_lawfulCount_23 rfl (ii_1 _) (Nat.le_of_ble_eq_true rfl) rfl ?_
        rw [nI_1]
        refine P_goto (tgt := 4) dX6_lawfulCount_26 (by decide) ?_
        exact ih (i + 1) (by omega) hlt
      · have e : lawR ρ i := Classical.byContradiction fun q => c17 (by rw [if_neg q])
        refine P_iinc (L' := [_, _, _]) dX6_lawfulCount_20 rfl (ii_1 _) (Nat.le_of_ble_eq_true rfl) rfl ?_
        rw [show lawC ρ i + 1 = lawC ρ (i + 1) by show _ = lawC ρ i + (if lawR ρ i then 1 else 0); rw [if_pos e]]
        refine P_iinc (L' := [_, _, _]) dX6_lawfulCount_23 rfl (ii_1 _) (Nat.le_of_ble_eq_true rfl) rfl ?_
        rw [nI_1]
        refine P_goto (tgt := 4) dX6_lawfulCount_26 (by decide) ?_
        exact ih (i + 1) (by omega) hlt
theorem t_lawfulCount (l : Launch) {G : PH} {h : Nat} {ρ : Riv} (hR : isRiver G h ρ) : Tri l mX6_lawfulCount 0 0 [.ref h] G (fun w G' => w = some (.int (lawC ρ (rN ρ))) ∧ G' = G) := by
  refine Tri.intro (L := [_, _, _]) okX6_lawfulCount.1 (Nat.le_of_ble_eq_true rfl) rfl ?_
  refine P_iconst dX6_lawfulCount_0 ci_0 ?_
  refine P_istore_n (L' := [_, _, _]) dX6_lawfulCount_1 (Nat.le_of_ble_eq_true rfl) rfl ?_
  refine P_iconst dX6_lawfulCount_2 ci_0 ?_
  refine P_istore_n (L' := [_, _, _]) dX6_lawfulCount_3 (Nat.le_of_ble_eq_true rfl) rfl ?_
  exact lp_lawfulCount l hR (rN ρ + 1) 0 (by omega) (Nat.zero_le _)
set_option maxRecDepth 100000 in
theorem lp_partsOfAll (l : Launch) {G : PH} {h : Nat} {ρ : Riv} (hR : isRiver G h ρ) : ∀ (n : Nat) (i : Nat), rN ρ - i < n → i ≤ rN ρ → WP mX6_partsOfAll l (rmM mX6_partsOfAll 0 0) (ZM 0 0 (fun w G' => w = some (.int (pSum ρ (rN ρ))) ∧ G' = G)) XT 0 0 4 [some (.ref h), some (.int (pSum ρ i)), some (.int (nI i))] [] G := by
  intro n
  induction n with
  | zero => intro i hn hi; exact absurd hn (Nat.not_lt_zero _)
  | succ n ih =>
    intro i hn hi
    have hN : rN ρ ≤ 6 := hR.bd.2.2.2.2
    obtain ⟨f1, f2, f3, k, ka, kb⟩ := id hR
    refine P_iload_n dX6_partsOfAll_4 rfl ?_
    refine P_aload_n dX6_partsOfAll_5 rfl ?_
    refine P_get dX6_partsOfAll_6 flX6_33 hR.at rfl ?_
    refine P_icmp_ge (tgt := 31) dX6_partsOfAll_9 (by decide) (fun c9 => ?_) (fun c9 => ?_)
    · have hi2 : i = rN ρ := Nat.le_antisymm hi (Nat.not_lt.mp fun q => nI_ge q (by omega) c9)
      subst hi2
      refine P_iload_n dX6_partsOfAll_31 rfl ?_
      exact P_iret dX6_partsOfAll_32 rfl ⟨Nat.le_refl _, Nat.le_refl _⟩ ⟨rfl, rfl⟩
    · have hlt : i < rN ρ := Nat.not_le.mp fun q => c9 (nI_le q (by omega))
      refine P_iload_n dX6_partsOfAll_12 rfl ?_
      refine P_aload_n dX6_partsOfAll_13 rfl ?_
      refine P_get dX6_partsOfAll_14 flX6_14 hR.at rfl ?_
      refine P_iload_n dX6_partsOfAll_17 rfl ?_
      refine P_iconst dX6_partsOfAll_18 ci_3 ?_
      refine P_callVp dX6_partsOfAll_19 lkX6_47 okX1_at ⟨Nat.le_of_ble_eq_true rfl, Nat.le_of_ble_eq_true rfl⟩ (t_at l (c := 3) k.2.1 (by omega) (by decide)) rfl rfl k.2.1.1 (Nat.le_of_ble_eq_true rfl) ⟨Nat.le_of_ble_eq_true rfl, Nat.le_of_ble_eq_true rfl⟩ ?_
      rw [(ka i hlt).1 3 (by decide)]
      refine P_l2i dX6_partsOfAll_22 ?_
      rw [i64_32]
      refine P_iadd dX6_partsOfAll_23 ?_
      refine P_istore_n (L' := [_, _, _]) dX6_partsOfAll_24 (Nat.le_of_ble_eq_true rfl) rfl ?_
      refine P_iinc (L' := [_, _, _]) dX6_partsOfAll_25 rfl (ii_1 _) (Nat.le_of_ble_eq_true rfl) rfl ?_
      rw [nI_1]
      refine P_goto (tgt := 4) dX6_partsOfAll_28 (by decide) ?_
      exact ih (i + 1) (by omega) hlt
theorem t_partsOfAll (l : Launch) {G : PH} {h : Nat} {ρ : Riv} (hR : isRiver G h ρ) : Tri l mX6_partsOfAll 0 0 [.ref h] G (fun w G' => w = some (.int (pSum ρ (rN ρ))) ∧ G' = G) := by
  refine Tri.intro (L := [_, _, _]) okX6_partsOfAll.1 (Nat.le_of_ble_eq_true rfl) rfl ?_
  refine P_iconst dX6_partsOfAll_0 ci_0 ?_
  refine P_istore_n (L' := [_, _, _]) dX6_partsOfAll_1 (Nat.le_of_ble_eq_true rfl) rfl ?_
  refine P_iconst dX6_partsOfAll_2 ci_0 ?_
  refine P_istore_n (L' := [_, _, _]) dX6_partsOfAll_3 (Nat.le_of_ble_eq_true rfl) rfl ?_
  exact lp_partsOfAll l hR (rN ρ + 1) 0 (by omega) (Nat.zero_le _)
theorem t_roomParts (l : Launch) {G : PH} {h : Nat} {ρ : Riv} (hR : isRiver G h ρ) : Tri l mX6_roomForParts 0 0 [.ref h] G (fun w G' => w = some (.int (8 - pSum ρ (rN ρ))) ∧ G' = G) := by
  refine Tri.intro (L := [_]) okX6_roomForParts.1 (Nat.le_of_ble_eq_true rfl) rfl ?_
  refine P_bipush dX6_roomForParts_0 bp_8 ?_
  refine P_aload_n dX6_roomForParts_2 rfl ?_
  refine P_callVp dX6_roomForParts_3 lkX6_67 okX6_partsOfAll ⟨Nat.le_of_ble_eq_true rfl, Nat.le_of_ble_eq_true rfl⟩ (t_partsOfAll l hR) rfl rfl hR.at (Nat.le_of_ble_eq_true rfl) ⟨Nat.le_of_ble_eq_true rfl, Nat.le_of_ble_eq_true rfl⟩ ?_
  refine P_isub dX6_roomForParts_6 ?_
  exact P_iret dX6_roomForParts_7 rfl ⟨Nat.le_refl _, Nat.le_refl _⟩ ⟨rfl, rfl⟩
theorem t_dropR (l : Launch) {G : PH} {h : Nat} {ρ : Riv} (hR : isRiver G h ρ) (h0 : 0 < rN ρ) : Tri l mX6_dropReach 0 0 [.ref h] G (fun w G' => w = none ∧ isRiver G' h (rvN ρ (rN ρ - 1)) ∧ Fr G G' h 7) := by
  have hR0 := hR; obtain ⟨f1, f2, f3, k, ka, kb⟩ := hR; have hN : rN ρ ≤ 6 := kb.2.2.2.2
  refine Tri.intro (L := [_]) okX6_dropReach.1 (Nat.le_of_ble_eq_true rfl) rfl ?_
  refine P_aload_n dX6_dropReach_0 rfl ?_
  refine P_get dX6_dropReach_1 flX6_33 k.1 rfl ?_
  refine P_if_le (tgt := 17) dX6_dropReach_4 (by decide) (fun c4 => ?_) (fun c4 => ?_)
  · exact absurd c4 (nI_nle h0 (by omega))
  · refine P_aload_n dX6_dropReach_7 rfl ?_
    refine P_dup dX6_dropReach_8 rfl ?_
    refine P_get dX6_dropReach_9 flX6_33 k.1 rfl ?_
    refine P_iconst dX6_dropReach_12 ci_1 ?_
    refine P_isub dX6_dropReach_13 ?_
    rw [show nI (rN ρ) - 1 = nI (rN ρ - 1) from pk_sub (b := 1) (by omega)]
    refine P_putI dX6_dropReach_14 flX6_33 k.1 (Nat.le_of_ble_eq_true rfl) ?_
    exact P_vret dX6_dropReach_17 rfl ⟨Nat.le_refl _, Nat.le_refl _⟩ ⟨rfl, ⟨f1, f2, f3, ⟨set_at k.1, k.2.1.fr (Fr.set (a := h) (n := 1) (by omega) (by omega)) (by omega), k.2.2.1.fr (Fr.set (a := h) (n := 1) (by omega) (by omega)) (by omega), k.2.2.2.fr (Fr.set (a := h) (n := 1) (by omega) (by omega)) (by omega)⟩, (fun r hr => ka r (by have : r < rN ρ - 1 := hr; omega)), ⟨kb.1, kb.2.1, kb.2.2.1, kb.2.2.2.1, (by show rN ρ - 1 ≤ 6; omega)⟩⟩, Fr.set (by omega) (by omega)⟩
