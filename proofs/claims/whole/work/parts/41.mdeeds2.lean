set_option maxHeartbeats 4000000 in
set_option maxRecDepth 100000 in
theorem d_times (l : Launch) {G : PH} {σ : Sg} {t0 : Int32} (k : Mod G σ) (hv : sVal σ) : Tri l mX10_times 0 0 [.ref 164, .int t0] G (fun a9 G' => a9 = some (.int (spTimes σ t0).1) ∧ Mod G' (spTimes σ t0).2 ∧ Fr G G' 164 17) := by
  obtain ⟨o, f, kO⟩ := id k
  obtain ⟨hk, h1, h2, h3, h4, h5, kR, ⟨⟨fi, fo, fs, fa, fb, km⟩, ⟨gs, gf, kl⟩, ⟨fm, kmd⟩⟩⟩ := id kO
  have hb := hv.1.1; have hvr := hv.1.2; have hN : rN (gR σ) ≤ 6 := hb.2.2.2.2; have hT : rT (gR σ) ≤ 24 := hb.2.1; have hT2 : 2 ≤ rT (gR σ) := hb.1
  refine Tri.intro (L := [_, _, _]) okX10_times.1 (Nat.le_of_ble_eq_true rfl) rfl ?_
  refine P_iload_n dX10_times_0 rfl ?_
  refine P_iconst dX10_times_1 ci_2 ?_
  refine P_bipush dX10_times_2 bp_24 ?_
  refine P_callSp dX10_times_4 lkX10_68 okX10_in ⟨Nat.le_of_ble_eq_true rfl, Nat.le_of_ble_eq_true rfl⟩ (m_in l) rfl rfl (Nat.le_of_ble_eq_true rfl) ⟨Nat.le_of_ble_eq_true rfl, Nat.le_of_ble_eq_true rfl⟩ ?_
  refine P_if_ne (tgt := 13) dX10_times_7 (by decide) (fun c7 => ?_) (fun c7 => ?_)
  · obtain ⟨t, ht1, ht2, rfl⟩ := ob_nat (a := 2) (b := 24) (by omega) (by omega) (b2w c7)
    have hs : spTimes σ (nI t) = (nI (rT (gR σ)), deed σ (rvT (gR σ) t)) := by unfold spTimes; rw [if_neg (b2w c7), nI_clamp (by omega)]
    refine P_aload_n dX10_times_13 rfl ?_
    refine P_callV dX10_times_14 lkX10_255 okX10_notes ⟨Nat.le_of_ble_eq_true rfl, Nat.le_of_ble_eq_true rfl⟩ (m_notes l kO hv) rfl rfl hk.1 (Nat.le_of_ble_eq_true rfl) ⟨Nat.le_of_ble_eq_true rfl, Nat.le_of_ble_eq_true rfl⟩ (fun v14 G14 q14 => ?_)
    obtain ⟨rfl, ⟨o1, kO1⟩, hFn⟩ := q14
    have hk1 : mst G14 o1 f (gR σ) := kO1.1; have hFw : Fr G G14 164 17 := hFn.wide (by omega) (by omega)
    refine P_aload_n dX10_times_17 rfl ?_
    refine P_get dX10_times_18 flX10_7 hk1.1 rfl ?_
    refine P_iconst dX10_times_21 ci_0 ?_
    refine P_iald dX10_times_22 hk1.2.1 (vp_in_nI (show 0 < 315 by decide) (by decide)) ?_
    rw [show f (Int32.toNatClampNeg 0) = nI (rT (gR σ)) from hk1.2.2.1.1]
    refine P_istore_n (L' := [_, _, _]) dX10_times_23 (Nat.le_of_ble_eq_true rfl) rfl ?_
    refine P_aload_n dX10_times_24 rfl ?_
    refine P_get dX10_times_25 flX10_7 hk1.1 rfl ?_
    refine P_iconst dX10_times_28 ci_0 ?_
    refine P_iload_n dX10_times_29 rfl ?_
    refine P_iast dX10_times_30 hk1.2.1 (vp_in_nI (show 0 < 315 by decide) (by decide)) ?_
    rw [show Int32.toNatClampNeg 0 = 0 from rfl]
    refine P_iload_n dX10_times_31 rfl ?_
    exact P_iret dX10_times_32 rfl ⟨Nat.le_refl _, Nat.le_refl _⟩ ⟨by rw [hs], by rw [hs]; exact ⟨_, _, kO1.st (ρ := rvT (gR σ) t) (Fr.set (a := 165) (n := 1) (by omega) (by omega)) (set_at hk1.2.1) (rRow_T hk1.2.2.1 t) (sOk_T hv.1 ht1 ht2).1⟩, (hFw.tr (frM (by decide) (by decide)))⟩
  · have hs : spTimes σ t0 = (OUTS, σ) := by unfold spTimes; rw [if_pos (b2z c7)]
    refine P_ldc dX10_times_10 kcX10_161 ?_
    exact P_iret dX10_times_12 rfl ⟨Nat.le_refl _, Nat.le_refl _⟩ ⟨by rw [hs], by rw [hs]; exact k, Fr.rf⟩
set_option maxHeartbeats 4000000 in
set_option maxRecDepth 100000 in
theorem d_step (l : Launch) {G : PH} {σ : Sg} {t0 : Int32} (k : Mod G σ) (hv : sVal σ) : Tri l mX10_step 0 0 [.ref 164, .int t0] G (fun a9 G' => a9 = some (.int (spStep σ t0).1) ∧ Mod G' (spStep σ t0).2 ∧ Fr G G' 164 17) := by
  obtain ⟨o, f, kO⟩ := id k
  obtain ⟨hk, h1, h2, h3, h4, h5, kR, ⟨⟨fi, fo, fs, fa, fb, km⟩, ⟨gs, gf, kl⟩, ⟨fm, kmd⟩⟩⟩ := id kO
  have hb := hv.1.1; have hvr := hv.1.2; have hN : rN (gR σ) ≤ 6 := hb.2.2.2.2; have hT : rT (gR σ) ≤ 24 := hb.2.1; have hT2 : 2 ≤ rT (gR σ) := hb.1
  refine Tri.intro (L := [_, _, _]) okX10_step.1 (Nat.le_of_ble_eq_true rfl) rfl ?_
  refine P_iload_n dX10_step_0 rfl ?_
  refine P_iconst dX10_step_1 ci_1 ?_
  refine P_bipush dX10_step_2 bp_9 ?_
  refine P_callSp dX10_step_4 lkX10_68 okX10_in ⟨Nat.le_of_ble_eq_true rfl, Nat.le_of_ble_eq_true rfl⟩ (m_in l) rfl rfl (Nat.le_of_ble_eq_true rfl) ⟨Nat.le_of_ble_eq_true rfl, Nat.le_of_ble_eq_true rfl⟩ ?_
  refine P_if_ne (tgt := 13) dX10_step_7 (by decide) (fun c7 => ?_) (fun c7 => ?_)
  · obtain ⟨t, ht1, ht2, rfl⟩ := ob_nat (a := 1) (b := 9) (by omega) (by omega) (b2w c7)
    have hs : spStep σ (nI t) = (nI (rD (gR σ)), deed σ (rvD (gR σ) t)) := by unfold spStep; rw [if_neg (b2w c7), nI_clamp (by omega)]
    refine P_aload_n dX10_step_13 rfl ?_
    refine P_callV dX10_step_14 lkX10_255 okX10_notes ⟨Nat.le_of_ble_eq_true rfl, Nat.le_of_ble_eq_true rfl⟩ (m_notes l kO hv) rfl rfl hk.1 (Nat.le_of_ble_eq_true rfl) ⟨Nat.le_of_ble_eq_true rfl, Nat.le_of_ble_eq_true rfl⟩ (fun v14 G14 q14 => ?_)
    obtain ⟨rfl, ⟨o1, kO1⟩, hFn⟩ := q14
    have hk1 : mst G14 o1 f (gR σ) := kO1.1; have hFw : Fr G G14 164 17 := hFn.wide (by omega) (by omega)
    refine P_aload_n dX10_step_17 rfl ?_
    refine P_get dX10_step_18 flX10_7 hk1.1 rfl ?_
    refine P_iconst dX10_step_21 ci_1 ?_
    refine P_iald dX10_step_22 hk1.2.1 (vp_in_nI (show 1 < 315 by decide) (by decide)) ?_
    rw [show f (Int32.toNatClampNeg 1) = nI (rD (gR σ)) from hk1.2.2.1.2.1]
    refine P_istore_n (L' := [_, _, _]) dX10_step_23 (Nat.le_of_ble_eq_true rfl) rfl ?_
    refine P_aload_n dX10_step_24 rfl ?_
    refine P_get dX10_step_25 flX10_7 hk1.1 rfl ?_
    refine P_iconst dX10_step_28 ci_1 ?_
    refine P_iload_n dX10_step_29 rfl ?_
    refine P_iast dX10_step_30 hk1.2.1 (vp_in_nI (show 1 < 315 by decide) (by decide)) ?_
    rw [show Int32.toNatClampNeg 1 = 1 from rfl]
    refine P_iload_n dX10_step_31 rfl ?_
    exact P_iret dX10_step_32 rfl ⟨Nat.le_refl _, Nat.le_refl _⟩ ⟨by rw [hs], by rw [hs]; exact ⟨_, _, kO1.st (ρ := rvD (gR σ) t) (Fr.set (a := 165) (n := 1) (by omega) (by omega)) (set_at hk1.2.1) (rRow_D hk1.2.2.1 t) (sOk_D hv.1 ht1 ht2).1⟩, (hFw.tr (frM (by decide) (by decide)))⟩
  · have hs : spStep σ t0 = (OUTS, σ) := by unfold spStep; rw [if_pos (b2z c7)]
    refine P_ldc dX10_step_10 kcX10_161 ?_
    exact P_iret dX10_step_12 rfl ⟨Nat.le_refl _, Nat.le_refl _⟩ ⟨by rw [hs], by rw [hs]; exact k, Fr.rf⟩
set_option maxHeartbeats 4000000 in
set_option maxRecDepth 100000 in
theorem d_change (l : Launch) {G : PH} {σ : Sg} {r0 kk0 xx0 : Int32} (k : Mod G σ) (hv : sVal σ) : Tri l mX10_change 0 0 [.ref 164, .int r0, .int kk0, .int xx0] G (fun a9 G' => a9 = some (.int (spChange σ r0 kk0 xx0).1) ∧ Mod G' (spChange σ r0 kk0 xx0).2 ∧ Fr G G' 164 17) := by
  obtain ⟨o, f, kO⟩ := id k
  obtain ⟨hk, h1, h2, h3, h4, h5, kR, ⟨⟨fi, fo, fs, fa, fb, km⟩, ⟨gs, gf, kl⟩, ⟨fm, kmd⟩⟩⟩ := id kO
  have hb := hv.1.1; have hvr := hv.1.2; have hN : rN (gR σ) ≤ 6 := hb.2.2.2.2; have hT : rT (gR σ) ≤ 24 := hb.2.1; have hT2 : 2 ≤ rT (gR σ) := hb.1
  refine Tri.intro (L := [_, _, _, _]) okX10_change.1 (Nat.le_of_ble_eq_true rfl) rfl ?_
  refine P_aload_n dX10_change_0 rfl ?_
  refine P_iload_n dX10_change_1 rfl ?_
  refine P_callVp dX10_change_2 lkX10_157 okX10_isReach ⟨Nat.le_of_ble_eq_true rfl, Nat.le_of_ble_eq_true rfl⟩ (m_isReach l hk.1 hk.2.1 hk.2.2.1 hb) rfl rfl hk.1 (Nat.le_of_ble_eq_true rfl) ⟨Nat.le_of_ble_eq_true rfl, Nat.le_of_ble_eq_true rfl⟩ ?_
  refine P_if_ne (tgt := 11) dX10_change_5 (by decide) (fun c5 => ?_) (fun c5 => ?_)
  · obtain ⟨j, hj, rfl⟩ := inN_of (b2y c5) (by omega)
    have ej := inN_nI hj (n := rN (gR σ)) (by omega)
    refine P_iload_n dX10_change_11 rfl ?_
    refine P_iconst dX10_change_12 ci_0 ?_
    refine P_bipush dX10_change_13 bp_20 ?_
    refine P_callSp dX10_change_15 lkX10_68 okX10_in ⟨Nat.le_of_ble_eq_true rfl, Nat.le_of_ble_eq_true rfl⟩ (m_in l) rfl rfl (Nat.le_of_ble_eq_true rfl) ⟨Nat.le_of_ble_eq_true rfl, Nat.le_of_ble_eq_true rfl⟩ ?_
    refine P_if_eq (tgt := 31) dX10_change_18 (by decide) (fun c18 => ?_) (fun c18 => ?_)
    · have hs : spChange σ (nI j) kk0 xx0 = (OUTS, σ) := by unfold spChange; rw [if_pos ej, if_pos (Or.inl (b2z c18))]
      refine P_ldc dX10_change_31 kcX10_161 ?_
      exact P_iret dX10_change_33 rfl ⟨Nat.le_refl _, Nat.le_refl _⟩ ⟨by rw [hs], by rw [hs]; exact k, Fr.rf⟩
    · refine P_iload_n dX10_change_21 rfl ?_
      refine P_iconst dX10_change_22 ci_0 ?_
      refine P_bipush dX10_change_23 bp_10 ?_
      refine P_callSp dX10_change_25 lkX10_68 okX10_in ⟨Nat.le_of_ble_eq_true rfl, Nat.le_of_ble_eq_true rfl⟩ (m_in l) rfl rfl (Nat.le_of_ble_eq_true rfl) ⟨Nat.le_of_ble_eq_true rfl, Nat.le_of_ble_eq_true rfl⟩ ?_
      refine P_if_ne (tgt := 34) dX10_change_28 (by decide) (fun c28 => ?_) (fun c28 => ?_)
      · have hs : spChange σ (nI j) kk0 xx0 = (if lawP (nI (rD (gR σ))) kk0 xx0 then 1 else 0, deed σ (rvW (gR σ) j kk0 xx0)) := by unfold spChange; rw [if_pos ej, if_neg (fun z => z.elim (b2w c18) (b2w c28)), nI_clamp (by omega)]
        refine P_aload_n dX10_change_34 rfl ?_
        refine P_callV dX10_change_35 lkX10_255 okX10_notes ⟨Nat.le_of_ble_eq_true rfl, Nat.le_of_ble_eq_true rfl⟩ (m_notes l kO hv) rfl rfl hk.1 (Nat.le_of_ble_eq_true rfl) ⟨Nat.le_of_ble_eq_true rfl, Nat.le_of_ble_eq_true rfl⟩ (fun v35 G35 q35 => ?_)
        obtain ⟨rfl, ⟨o1, kO1⟩, hFn⟩ := q35
        have hk1 : mst G35 o1 f (gR σ) := kO1.1; have hFw : Fr G G35 164 17 := hFn.wide (by omega) (by omega)
        refine P_aload_n dX10_change_38 rfl ?_
        refine P_get dX10_change_39 flX10_7 hk1.1 rfl ?_
        refine P_iload_n dX10_change_42 rfl ?_
        refine P_iconst dX10_change_43 ci_1 ?_
        refine P_callSp dX10_change_44 lkX10_64 okX10_placeOf ⟨Nat.le_of_ble_eq_true rfl, Nat.le_of_ble_eq_true rfl⟩ (m_placeOf (i := 1) l) rfl rfl (Nat.le_of_ble_eq_true rfl) ⟨Nat.le_of_ble_eq_true rfl, Nat.le_of_ble_eq_true rfl⟩ ?_
        refine P_iload_n dX10_change_47 rfl ?_
        refine P_iast dX10_change_48 hk1.2.1 (vp_in_nI (by omega) (by decide)) ?_
        rw [nI_clamp (by omega)]
        have kO2 : (G35.set 165 (aI 315 (upd f (3 + 52 * j + 1) kk0)))[164]? = some (oM o1) ∧ (G35.set 165 (aI 315 (upd f (3 + 52 * j + 1) kk0)))[165]? = some (aI 315 (upd f (3 + 52 * j + 1) kk0)) := ⟨set_ne hk1.1 (by decide), set_at hk1.2.1⟩
        refine P_aload_n dX10_change_49 rfl ?_
        refine P_get dX10_change_50 flX10_7 kO2.1 rfl ?_
        refine P_iload_n dX10_change_53 rfl ?_
        refine P_iconst dX10_change_54 ci_2 ?_
        refine P_callSp dX10_change_55 lkX10_64 okX10_placeOf ⟨Nat.le_of_ble_eq_true rfl, Nat.le_of_ble_eq_true rfl⟩ (m_placeOf (i := 2) l) rfl rfl (Nat.le_of_ble_eq_true rfl) ⟨Nat.le_of_ble_eq_true rfl, Nat.le_of_ble_eq_true rfl⟩ ?_
        refine P_iload_n dX10_change_58 rfl ?_
        refine P_iast dX10_change_59 kO2.2 (vp_in_nI (by omega) (by decide)) ?_
        rw [nI_clamp (by omega)]
        have kO3 := kO1.st (ρ := rvW (gR σ) j kk0 xx0) ((Fr.set (a := 165) (n := 1) (by omega) (by omega)).tr (Fr.set (a := 165) (n := 1) (by omega) (by omega))) (set_at kO2.2) (rRow_W hk1.2.2.1 j kk0 xx0) hb
        refine P_aload_n dX10_change_60 rfl ?_
        refine P_iload_n dX10_change_61 rfl ?_
        refine P_iload_n dX10_change_62 rfl ?_
        refine P_callVp dX10_change_63 lkX10_132 okX10_isLawful ⟨Nat.le_of_ble_eq_true rfl, Nat.le_of_ble_eq_true rfl⟩ (m_isLawful l kO3.1.1 kO3.1.2.1 kO3.1.2.2.1) rfl rfl kO3.1.1 (Nat.le_of_ble_eq_true rfl) ⟨Nat.le_of_ble_eq_true rfl, Nat.le_of_ble_eq_true rfl⟩ ?_
        refine P_if_eq (tgt := 73) dX10_change_66 (by decide) (fun c66 => ?_) (fun c66 => ?_)
        · have hl := (b2p _).mp c66
          refine P_iconst dX10_change_73 ci_0 ?_
          exact P_iret dX10_change_74 rfl ⟨Nat.le_refl _, Nat.le_refl _⟩ ⟨by rw [hs]; first | exact congrArg (fun z => some (Value.int z)) (if_pos hl).symm | exact congrArg (fun z => some (Value.int z)) (if_neg hl).symm, by rw [hs]; exact ⟨_, _, kO3⟩, hFw.tr ((frM (by decide) (by decide)).tr (frM (by decide) (by decide)))⟩
        · have hl := b2y c66
          refine P_iconst dX10_change_69 ci_1 ?_
          refine P_goto (tgt := 74) dX10_change_70 (by decide) ?_
          exact P_iret dX10_change_74 rfl ⟨Nat.le_refl _, Nat.le_refl _⟩ ⟨by rw [hs]; first | exact congrArg (fun z => some (Value.int z)) (if_pos hl).symm | exact congrArg (fun z => some (Value.int z)) (if_neg hl).symm, by rw [hs]; exact ⟨_, _, kO3⟩, hFw.tr ((frM (by decide) (by decide)).tr (frM (by decide) (by decide)))⟩
      · have hs : spChange σ (nI j) kk0 xx0 = (OUTS, σ) := by unfold spChange; rw [if_pos ej, if_pos (Or.inr (b2z c28))]
        refine P_ldc dX10_change_31 kcX10_161 ?_
        exact P_iret dX10_change_33 rfl ⟨Nat.le_refl _, Nat.le_refl _⟩ ⟨by rw [hs], by rw [hs]; exact k, Fr.rf⟩
  · have e := (b2p _).mp c5
    have hs : spChange σ r0 kk0 xx0 = (UNK, σ) := by unfold spChange; rw [if_neg e]
    refine P_ldc dX10_change_8 kcX10_160 ?_
    exact P_iret dX10_change_10 rfl ⟨Nat.le_refl _, Nat.le_refl _⟩ ⟨by rw [hs], by rw [hs]; exact k, Fr.rf⟩
set_option maxHeartbeats 4000000 in
set_option maxRecDepth 100000 in
theorem m_tells_side (l : Launch) {G : PH} {σ : Sg} {r0 t0 v0 : Int32} (k : Mod G σ) (hv : sVal σ) : Tri l mX10_tells 0 0 [.ref 164, .int r0, .int t0, .int 4, .int v0] G (fun a9 G' => a9 = some (.int (spSide σ r0 t0 v0).1) ∧ Mod G' (spSide σ r0 t0 v0).2 ∧ Fr G G' 164 17) := by
  obtain ⟨o, f, kO⟩ := id k
  obtain ⟨hk, h1, h2, h3, h4, h5, kR, ⟨⟨fi, fo, fs, fa, fb, km⟩, ⟨gs, gf, kl⟩, ⟨fm, kmd⟩⟩⟩ := id kO
  have hb := hv.1.1; have hvr := hv.1.2; have hN : rN (gR σ) ≤ 6 := hb.2.2.2.2; have hT : rT (gR σ) ≤ 24 := hb.2.1; have hT2 : 2 ≤ rT (gR σ) := hb.1
  refine Tri.intro (L := [_, _, _, _, _, _]) okX10_tells.1 (Nat.le_of_ble_eq_true rfl) rfl ?_
  refine P_aload_n dX10_tells_0 rfl ?_
  refine P_iload_n dX10_tells_1 rfl ?_
  refine P_callVp dX10_tells_2 lkX10_157 okX10_isReach ⟨Nat.le_of_ble_eq_true rfl, Nat.le_of_ble_eq_true rfl⟩ (m_isReach l hk.1 hk.2.1 hk.2.2.1 hb) rfl rfl hk.1 (Nat.le_of_ble_eq_true rfl) ⟨Nat.le_of_ble_eq_true rfl, Nat.le_of_ble_eq_true rfl⟩ ?_
  refine P_if_eq (tgt := 16) dX10_tells_5 (by decide) (fun c5 => ?_) (fun c5 => ?_)
  · have e := (b2p _).mp c5
    have hs : spSide σ r0 t0 v0 = (UNK, σ) := by unfold spSide; rw [if_neg (fun z => e z.1)]
    refine P_ldc dX10_tells_16 kcX10_160 ?_
    exact P_iret dX10_tells_18 rfl ⟨Nat.le_refl _, Nat.le_refl _⟩ ⟨by rw [hs], by rw [hs]; exact k, Fr.rf⟩
  · obtain ⟨j, hj, rfl⟩ := inN_of (b2y c5) (by omega)
    refine P_aload_n dX10_tells_8 rfl ?_
    refine P_iload_n dX10_tells_9 rfl ?_
    refine P_callVp dX10_tells_10 lkX10_171 okX10_isTime ⟨Nat.le_of_ble_eq_true rfl, Nat.le_of_ble_eq_true rfl⟩ (m_isTime l hk.1 hk.2.1 hk.2.2.1 hb) rfl rfl hk.1 (Nat.le_of_ble_eq_true rfl) ⟨Nat.le_of_ble_eq_true rfl, Nat.le_of_ble_eq_true rfl⟩ ?_
    refine P_if_ne (tgt := 19) dX10_tells_13 (by decide) (fun c13 => ?_) (fun c13 => ?_)
    · obtain ⟨i, hi, rfl⟩ := inN_of (b2y c13) (by omega)
      have ej : inN (nI j) (rN (gR σ)) ∧ inN (nI i) (rT (gR σ)) := ⟨inN_nI hj (by omega), inN_nI hi (by omega)⟩
      refine P_iload dX10_tells_19 rfl ?_
      refine P_iconst dX10_tells_21 ci_0 ?_
      refine P_sipush dX10_tells_22 sp_9999 ?_
      refine P_callSp dX10_tells_25 lkX10_68 okX10_in ⟨Nat.le_of_ble_eq_true rfl, Nat.le_of_ble_eq_true rfl⟩ (m_in l) rfl rfl (Nat.le_of_ble_eq_true rfl) ⟨Nat.le_of_ble_eq_true rfl, Nat.le_of_ble_eq_true rfl⟩ ?_
      refine P_if_ne (tgt := 34) dX10_tells_28 (by decide) (fun c28 => ?_) (fun c28 => ?_)
      · have hs : spSide σ (nI j) (nI i) v0 = (rS (gR σ) j i, deed σ (rvS (gR σ) j i v0)) := by unfold spSide; rw [if_pos ej, if_neg (b2w c28), nI_clamp (by omega), nI_clamp (by omega)]
        refine P_aload_n dX10_tells_34 rfl ?_
        refine P_callV dX10_tells_35 lkX10_255 okX10_notes ⟨Nat.le_of_ble_eq_true rfl, Nat.le_of_ble_eq_true rfl⟩ (m_notes l kO hv) rfl rfl hk.1 (Nat.le_of_ble_eq_true rfl) ⟨Nat.le_of_ble_eq_true rfl, Nat.le_of_ble_eq_true rfl⟩ (fun v35 G35 q35 => ?_)
        obtain ⟨rfl, ⟨o1, kO1⟩, hFn⟩ := q35
        have hk1 : mst G35 o1 f (gR σ) := kO1.1; have hFw : Fr G G35 164 17 := hFn.wide (by omega) (by omega)
        refine P_aload_n dX10_tells_38 rfl ?_
        refine P_iload_n dX10_tells_39 rfl ?_
        refine P_iload_n dX10_tells_40 rfl ?_
        refine P_iload_n dX10_tells_41 rfl ?_
        refine P_iadd dX10_tells_42 ?_
        rw [ix4]
        refine P_callVp dX10_tells_43 lkX10_95 okX10_of ⟨Nat.le_of_ble_eq_true rfl, Nat.le_of_ble_eq_true rfl⟩ (m_of l hk1.1 hk1.2.1 (by omega)) rfl rfl hk1.1 (Nat.le_of_ble_eq_true rfl) ⟨Nat.le_of_ble_eq_true rfl, Nat.le_of_ble_eq_true rfl⟩ ?_
        rw [((hk1.2.2.1.2.2.2 j hj).2 i (by omega)).1]
        refine P_istore (L' := [_, _, _, _, _, _]) dX10_tells_46 (Nat.le_of_ble_eq_true rfl) rfl ?_
        refine P_aload_n dX10_tells_48 rfl ?_
        refine P_get dX10_tells_49 flX10_7 hk1.1 rfl ?_
        refine P_iload_n dX10_tells_52 rfl ?_
        refine P_iload_n dX10_tells_53 rfl ?_
        refine P_iload_n dX10_tells_54 rfl ?_
        refine P_iadd dX10_tells_55 ?_
        rw [ix4]
        refine P_callSp dX10_tells_56 lkX10_64 okX10_placeOf ⟨Nat.le_of_ble_eq_true rfl, Nat.le_of_ble_eq_true rfl⟩ (m_placeOf l) rfl rfl (Nat.le_of_ble_eq_true rfl) ⟨Nat.le_of_ble_eq_true rfl, Nat.le_of_ble_eq_true rfl⟩ ?_
        refine P_iload dX10_tells_59 rfl ?_
        refine P_iast dX10_tells_61 hk1.2.1 (vp_in_nI (by omega) (by decide)) ?_
        rw [nI_clamp (by omega)]
        refine P_iload dX10_tells_62 rfl ?_
        exact P_iret dX10_tells_64 rfl ⟨Nat.le_refl _, Nat.le_refl _⟩ ⟨by rw [hs], by rw [hs]; exact ⟨_, _, kO1.st (ρ := rvS (gR σ) j i v0) (Fr.set (a := 165) (n := 1) (by omega) (by omega)) (set_at hk1.2.1) (rRow_S hk1.2.2.1 (by omega) v0) hb⟩, (hFw.tr (frM (by decide) (by decide)))⟩
      · have hs : spSide σ (nI j) (nI i) v0 = (OUTS, σ) := by unfold spSide; rw [if_pos ej, if_pos (b2z c28)]
        refine P_ldc dX10_tells_31 kcX10_161 ?_
        exact P_iret dX10_tells_33 rfl ⟨Nat.le_refl _, Nat.le_refl _⟩ ⟨by rw [hs], by rw [hs]; exact k, Fr.rf⟩
    · have e := (b2p _).mp c13
      have hs : spSide σ (nI j) t0 v0 = (UNK, σ) := by unfold spSide; rw [if_neg (fun z => e z.2)]
      refine P_ldc dX10_tells_16 kcX10_160 ?_
      exact P_iret dX10_tells_18 rfl ⟨Nat.le_refl _, Nat.le_refl _⟩ ⟨by rw [hs], by rw [hs]; exact k, Fr.rf⟩
theorem d_side (l : Launch) {G : PH} {σ : Sg} {r0 t0 v0 : Int32} (k : Mod G σ) (hv : sVal σ) : Tri l mX10_side 0 0 [.ref 164, .int r0, .int t0, .int v0] G (fun a9 G' => a9 = some (.int (spSide σ r0 t0 v0).1) ∧ Mod G' (spSide σ r0 t0 v0).2 ∧ Fr G G' 164 17) := by
  obtain ⟨o, f, kO⟩ := id k
  refine Tri.intro (L := [_, _, _, _]) okX10_side.1 (Nat.le_of_ble_eq_true rfl) rfl ?_
  refine P_aload_n dX10_side_0 rfl ?_
  refine P_iload_n dX10_side_1 rfl ?_
  refine P_iload_n dX10_side_2 rfl ?_
  refine P_iconst dX10_side_3 ci_4 ?_
  refine P_iload_n dX10_side_4 rfl ?_
  refine P_callV dX10_side_5 lkX10_270 okX10_tells ⟨Nat.le_of_ble_eq_true rfl, Nat.le_of_ble_eq_true rfl⟩ (m_tells_side l k hv) rfl rfl kO.1.1 (Nat.le_of_ble_eq_true rfl) ⟨Nat.le_of_ble_eq_true rfl, Nat.le_of_ble_eq_true rfl⟩ (fun v5 G5 q5 => ?_)
  obtain ⟨rfl, k5, hF5⟩ := q5
  exact P_iret dX10_side_8 rfl ⟨Nat.le_refl _, Nat.le_refl _⟩ ⟨rfl, k5, hF5⟩
set_option maxHeartbeats 4000000 in
set_option maxRecDepth 100000 in
theorem m_tells_seen (l : Launch) {G : PH} {σ : Sg} {r0 t0 v0 : Int32} (k : Mod G σ) (hv : sVal σ) : Tri l mX10_tells 0 0 [.ref 164, .int r0, .int t0, .int 28, .int v0] G (fun a9 G' => a9 = some (.int (spSeen σ r0 t0 v0).1) ∧ Mod G' (spSeen σ r0 t0 v0).2 ∧ Fr G G' 164 17) := by
  obtain ⟨o, f, kO⟩ := id k
  obtain ⟨hk, h1, h2, h3, h4, h5, kR, ⟨⟨fi, fo, fs, fa, fb, km⟩, ⟨gs, gf, kl⟩, ⟨fm, kmd⟩⟩⟩ := id kO
  have hb := hv.1.1; have hvr := hv.1.2; have hN : rN (gR σ) ≤ 6 := hb.2.2.2.2; have hT : rT (gR σ) ≤ 24 := hb.2.1; have hT2 : 2 ≤ rT (gR σ) := hb.1
  refine Tri.intro (L := [_, _, _, _, _, _]) okX10_tells.1 (Nat.le_of_ble_eq_true rfl) rfl ?_
  refine P_aload_n dX10_tells_0 rfl ?_
  refine P_iload_n dX10_tells_1 rfl ?_
  refine P_callVp dX10_tells_2 lkX10_157 okX10_isReach ⟨Nat.le_of_ble_eq_true rfl, Nat.le_of_ble_eq_true rfl⟩ (m_isReach l hk.1 hk.2.1 hk.2.2.1 hb) rfl rfl hk.1 (Nat.le_of_ble_eq_true rfl) ⟨Nat.le_of_ble_eq_true rfl, Nat.le_of_ble_eq_true rfl⟩ ?_
  refine P_if_eq (tgt := 16) dX10_tells_5 (by decide) (fun c5 => ?_) (fun c5 => ?_)
  · have e := (b2p _).mp c5
    have hs : spSeen σ r0 t0 v0 = (UNK, σ) := by unfold spSeen; rw [if_neg (fun z => e z.1)]
    refine P_ldc dX10_tells_16 kcX10_160 ?_
    exact P_iret dX10_tells_18 rfl ⟨Nat.le_refl _, Nat.le_refl _⟩ ⟨by rw [hs], by rw [hs]; exact k, Fr.rf⟩
  · obtain ⟨j, hj, rfl⟩ := inN_of (b2y c5) (by omega)
    refine P_aload_n dX10_tells_8 rfl ?_
    refine P_iload_n dX10_tells_9 rfl ?_
    refine P_callVp dX10_tells_10 lkX10_171 okX10_isTime ⟨Nat.le_of_ble_eq_true rfl, Nat.le_of_ble_eq_true rfl⟩ (m_isTime l hk.1 hk.2.1 hk.2.2.1 hb) rfl rfl hk.1 (Nat.le_of_ble_eq_true rfl) ⟨Nat.le_of_ble_eq_true rfl, Nat.le_of_ble_eq_true rfl⟩ ?_
    refine P_if_ne (tgt := 19) dX10_tells_13 (by decide) (fun c13 => ?_) (fun c13 => ?_)
    · obtain ⟨i, hi, rfl⟩ := inN_of (b2y c13) (by omega)
      have ej : inN (nI j) (rN (gR σ)) ∧ inN (nI i) (rT (gR σ)) := ⟨inN_nI hj (by omega), inN_nI hi (by omega)⟩
      refine P_iload dX10_tells_19 rfl ?_
      refine P_iconst dX10_tells_21 ci_0 ?_
      refine P_sipush dX10_tells_22 sp_9999 ?_
      refine P_callSp dX10_tells_25 lkX10_68 okX10_in ⟨Nat.le_of_ble_eq_true rfl, Nat.le_of_ble_eq_true rfl⟩ (m_in l) rfl rfl (Nat.le_of_ble_eq_true rfl) ⟨Nat.le_of_ble_eq_true rfl, Nat.le_of_ble_eq_true rfl⟩ ?_
      refine P_if_ne (tgt := 34) dX10_tells_28 (by decide) (fun c28 => ?_) (fun c28 => ?_)
      · have hs : spSeen σ (nI j) (nI i) v0 = (rE (gR σ) j i, deed σ (rvE (gR σ) j i v0)) := by unfold spSeen; rw [if_pos ej, if_neg (b2w c28), nI_clamp (by omega), nI_clamp (by omega)]
        refine P_aload_n dX10_tells_34 rfl ?_
        refine P_callV dX10_tells_35 lkX10_255 okX10_notes ⟨Nat.le_of_ble_eq_true rfl, Nat.le_of_ble_eq_true rfl⟩ (m_notes l kO hv) rfl rfl hk.1 (Nat.le_of_ble_eq_true rfl) ⟨Nat.le_of_ble_eq_true rfl, Nat.le_of_ble_eq_true rfl⟩ (fun v35 G35 q35 => ?_)
        obtain ⟨rfl, ⟨o1, kO1⟩, hFn⟩ := q35
        have hk1 : mst G35 o1 f (gR σ) := kO1.1; have hFw : Fr G G35 164 17 := hFn.wide (by omega) (by omega)
        refine P_aload_n dX10_tells_38 rfl ?_
        refine P_iload_n dX10_tells_39 rfl ?_
        refine P_iload_n dX10_tells_40 rfl ?_
        refine P_iload_n dX10_tells_41 rfl ?_
        refine P_iadd dX10_tells_42 ?_
        rw [ix28]
        refine P_callVp dX10_tells_43 lkX10_95 okX10_of ⟨Nat.le_of_ble_eq_true rfl, Nat.le_of_ble_eq_true rfl⟩ (m_of l hk1.1 hk1.2.1 (by omega)) rfl rfl hk1.1 (Nat.le_of_ble_eq_true rfl) ⟨Nat.le_of_ble_eq_true rfl, Nat.le_of_ble_eq_true rfl⟩ ?_
        rw [((hk1.2.2.1.2.2.2 j hj).2 i (by omega)).2]
        refine P_istore (L' := [_, _, _, _, _, _]) dX10_tells_46 (Nat.le_of_ble_eq_true rfl) rfl ?_
        refine P_aload_n dX10_tells_48 rfl ?_
        refine P_get dX10_tells_49 flX10_7 hk1.1 rfl ?_
        refine P_iload_n dX10_tells_52 rfl ?_
        refine P_iload_n dX10_tells_53 rfl ?_
        refine P_iload_n dX10_tells_54 rfl ?_
        refine P_iadd dX10_tells_55 ?_
        rw [ix28]
        refine P_callSp dX10_tells_56 lkX10_64 okX10_placeOf ⟨Nat.le_of_ble_eq_true rfl, Nat.le_of_ble_eq_true rfl⟩ (m_placeOf l) rfl rfl (Nat.le_of_ble_eq_true rfl) ⟨Nat.le_of_ble_eq_true rfl, Nat.le_of_ble_eq_true rfl⟩ ?_
        refine P_iload dX10_tells_59 rfl ?_
        refine P_iast dX10_tells_61 hk1.2.1 (vp_in_nI (by omega) (by decide)) ?_
        rw [nI_clamp (by omega)]
        refine P_iload dX10_tells_62 rfl ?_
        exact P_iret dX10_tells_64 rfl ⟨Nat.le_refl _, Nat.le_refl _⟩ ⟨by rw [hs], by rw [hs]; exact ⟨_, _, kO1.st (ρ := rvE (gR σ) j i v0) (Fr.set (a := 165) (n := 1) (by omega) (by omega)) (set_at hk1.2.1) (rRow_E hk1.2.2.1 (by omega) v0) hb⟩, (hFw.tr (frM (by decide) (by decide)))⟩
      · have hs : spSeen σ (nI j) (nI i) v0 = (OUTS, σ) := by unfold spSeen; rw [if_pos ej, if_pos (b2z c28)]
        refine P_ldc dX10_tells_31 kcX10_161 ?_
        exact P_iret dX10_tells_33 rfl ⟨Nat.le_refl _, Nat.le_refl _⟩ ⟨by rw [hs], by rw [hs]; exact k, Fr.rf⟩
    · have e := (b2p _).mp c13
      have hs : spSeen σ (nI j) t0 v0 = (UNK, σ) := by unfold spSeen; rw [if_neg (fun z => e z.2)]
      refine P_ldc dX10_tells_16 kcX10_160 ?_
      exact P_iret dX10_tells_18 rfl ⟨Nat.le_refl _, Nat.le_refl _⟩ ⟨by rw [hs], by rw [hs]; exact k, Fr.rf⟩
theorem d_seen (l : Launch) {G : PH} {σ : Sg} {r0 t0 v0 : Int32} (k : Mod G σ) (hv : sVal σ) : Tri l mX10_seen 0 0 [.ref 164, .int r0, .int t0, .int v0] G (fun a9 G' => a9 = some (.int (spSeen σ r0 t0 v0).1) ∧ Mod G' (spSeen σ r0 t0 v0).2 ∧ Fr G G' 164 17) := by
  obtain ⟨o, f, kO⟩ := id k
  refine Tri.intro (L := [_, _, _, _]) okX10_seen.1 (Nat.le_of_ble_eq_true rfl) rfl ?_
  refine P_aload_n dX10_seen_0 rfl ?_
  refine P_iload_n dX10_seen_1 rfl ?_
  refine P_iload_n dX10_seen_2 rfl ?_
  refine P_bipush dX10_seen_3 bp_28 ?_
  refine P_iload_n dX10_seen_5 rfl ?_
  refine P_callV dX10_seen_6 lkX10_270 okX10_tells ⟨Nat.le_of_ble_eq_true rfl, Nat.le_of_ble_eq_true rfl⟩ (m_tells_seen l k hv) rfl rfl kO.1.1 (Nat.le_of_ble_eq_true rfl) ⟨Nat.le_of_ble_eq_true rfl, Nat.le_of_ble_eq_true rfl⟩ (fun v6 G6 q6 => ?_)
  obtain ⟨rfl, k5, hF5⟩ := q6
  exact P_iret dX10_seen_9 rfl ⟨Nat.le_refl _, Nat.le_refl _⟩ ⟨rfl, k5, hF5⟩
set_option maxHeartbeats 4000000 in
set_option maxRecDepth 100000 in
theorem d_take (l : Launch) {G : PH} {σ : Sg} (k : Mod G σ) (hv : sVal σ) : Tri l mX10_take 0 0 [.ref 164] G (fun a9 G' => a9 = some (.int (spTake σ).1) ∧ Mod G' (spTake σ).2 ∧ Fr G G' 164 17) := by
  obtain ⟨o, f, kO⟩ := id k
  obtain ⟨hk, h1, h2, h3, h4, h5, kR, ⟨⟨fi, fo, fs, fa, fb, km⟩, ⟨gs, gf, kl⟩, ⟨fm, kmd⟩⟩⟩ := id kO
  have hb := hv.1.1; have hvr := hv.1.2; have hN : rN (gR σ) ≤ 6 := hb.2.2.2.2; have hT : rT (gR σ) ≤ 24 := hb.2.1; have hT2 : 2 ≤ rT (gR σ) := hb.1
  refine Tri.intro (L := [_]) okX10_take.1 (Nat.le_of_ble_eq_true rfl) rfl ?_
  refine P_aload_n dX10_take_0 rfl ?_
  refine P_get dX10_take_1 flX10_7 hk.1 rfl ?_
  refine P_iconst dX10_take_4 ci_2 ?_
  refine P_iald dX10_take_5 hk.2.1 (vp_in_nI (show 2 < 315 by decide) (by decide)) ?_
  rw [show f (Int32.toNatClampNeg 2) = nI (rN (gR σ)) from hk.2.2.1.2.2.1]
  refine P_if_ne (tgt := 13) dX10_take_6 (by decide) (fun c6 => ?_) (fun c6 => ?_)
  · have h0 : 0 < rN (gR σ) := Nat.pos_of_ne_zero fun z => c6 (by rw [z]; rfl)
    have hs : spTake σ = (nI (rN (gR σ) - 1), deed σ (rvN (gR σ) (rN (gR σ) - 1))) := by unfold spTake; rw [if_neg (Nat.pos_iff_ne_zero.mp h0)]
    refine P_aload_n dX10_take_13 rfl ?_
    refine P_callV dX10_take_14 lkX10_255 okX10_notes ⟨Nat.le_of_ble_eq_true rfl, Nat.le_of_ble_eq_true rfl⟩ (m_notes l kO hv) rfl rfl hk.1 (Nat.le_of_ble_eq_true rfl) ⟨Nat.le_of_ble_eq_true rfl, Nat.le_of_ble_eq_true rfl⟩ (fun v14 G14 q14 => ?_)
    obtain ⟨rfl, ⟨o1, kO1⟩, hFn⟩ := q14
    have hk1 : mst G14 o1 f (gR σ) := kO1.1; have hFw : Fr G G14 164 17 := hFn.wide (by omega) (by omega)
    refine P_aload_n dX10_take_17 rfl ?_
    refine P_get dX10_take_18 flX10_7 hk1.1 rfl ?_
    refine P_iconst dX10_take_21 ci_2 ?_
    refine P_dup2 dX10_take_22 rfl rfl ?_
    refine P_iald dX10_take_23 hk1.2.1 (vp_in_nI (show 2 < 315 by decide) (by decide)) ?_
    rw [show f (Int32.toNatClampNeg 2) = nI (rN (gR σ)) from hk.2.2.1.2.2.1]
    refine P_iconst dX10_take_24 ci_1 ?_
    refine P_isub dX10_take_25 ?_
    rw [show nI (rN (gR σ)) - 1 = nI (rN (gR σ) - 1) from pk_sub (b := 1) h0]
    refine P_iast dX10_take_26 hk1.2.1 (vp_in_nI (show 2 < 315 by decide) (by decide)) ?_
    rw [show Int32.toNatClampNeg 2 = 2 from rfl]
    refine P_aload_n dX10_take_27 rfl ?_
    refine P_get dX10_take_28 flX10_7 (set_ne hk1.1 (by decide)) rfl ?_
    refine P_iconst dX10_take_31 ci_2 ?_
    refine P_iald dX10_take_32 (set_at hk1.2.1) (vp_in_nI (show 2 < 315 by decide) (by decide)) ?_
    rw [show upd f 2 (nI (rN (gR σ) - 1)) (Int32.toNatClampNeg 2) = nI (rN (gR σ) - 1) from upd_a]
    exact P_iret dX10_take_33 rfl ⟨Nat.le_refl _, Nat.le_refl _⟩ ⟨by rw [hs], by rw [hs]; exact ⟨_, _, kO1.st (ρ := rvN (gR σ) (rN (gR σ) - 1)) (Fr.set (a := 165) (n := 1) (by omega) (by omega)) (set_at hk1.2.1) (rRow_N hk1.2.2.1 (Nat.sub_le _ _)) (sOk_N hv.1 (Nat.sub_le _ _)).1⟩, (hFw.tr (frM (by decide) (by decide)))⟩
  · have h0 : rN (gR σ) = 0 := Classical.byContradiction fun z => nI_ne0 (Nat.pos_of_ne_zero z) (by omega) c6
    have hs : spTake σ = (NOTT, σ) := by unfold spTake; rw [if_pos h0]
    refine P_ldcw dX10_take_9 kcX10_276 ?_
    exact P_iret dX10_take_12 rfl ⟨Nat.le_refl _, Nat.le_refl _⟩ ⟨by rw [hs], by rw [hs]; exact k, Fr.rf⟩
abbrev oEn (o : MV) (e : Int32) : MV := (mD o, mS o, e, mL o, mF o, mK o, mX o, mA o, mW o, mT o, mZ o, mO o, mB o)
abbrev oSd (o : MV) (e : Int32) : MV := (mD o, e, mE o, mL o, mF o, mK o, mX o, mA o, mW o, mT o, mZ o, mO o, mB o)
abbrev oLt (o : MV) (e : Int32) : MV := (mD o, mS o, mE o, e, mF o, mK o, mX o, mA o, mW o, mT o, mZ o, mO o, mB o)
theorem d_tear (l : Launch) {G : PH} {σ : Sg} (k : Mod G σ) (hv : sVal σ) : Tri l mX10_tear 0 0 [.ref 164] G (fun a9 G' => a9 = some (.int (spTear σ).1) ∧ Mod G' (spTear σ).2 ∧ Fr G G' 164 17) := by
  obtain ⟨o, f, kO⟩ := id k
  obtain ⟨hk, h1, h2, h3, h4, h5, kR, ⟨⟨fi, fo, fs, fa, fb, km⟩, ⟨gs, gf, kl⟩, ⟨fm, kmd⟩⟩⟩ := id kO
  have hb := hv.1.1; have hvr := hv.1.2; have hN : rN (gR σ) ≤ 6 := hb.2.2.2.2; have hT : rT (gR σ) ≤ 24 := hb.2.1; have hT2 : 2 ≤ rT (gR σ) := hb.1
  refine Tri.intro (L := [_, _]) okX10_tear.1 (Nat.le_of_ble_eq_true rfl) rfl ?_
  refine P_aload_n dX10_tear_0 rfl ?_
  refine P_get dX10_tear_1 flX10_258 hk.1 rfl ?_
  refine P_istore_n (L' := [_, _]) dX10_tear_4 (Nat.le_of_ble_eq_true rfl) rfl ?_
  refine P_aload_n dX10_tear_5 rfl ?_
  refine P_iconst dX10_tear_6 ci_0 ?_
  refine P_putI dX10_tear_7 flX10_258 hk.1 (Nat.le_of_ble_eq_true rfl) ?_
  refine P_iload_n dX10_tear_10 rfl ?_
  exact P_iret dX10_tear_11 rfl ⟨Nat.le_refl _, Nat.le_refl _⟩ ⟨by rw [h3]; rfl, ⟨_, _, kO.ob (σ' := sgB σ 0 (gB σ)) (o' := oEn o 0) rfl h1 h2 rfl h4 h5 ⟨kR.1, kR.2.1, by obtain ⟨a, b, c, d, e, g, -⟩ := kR.2.2.1; exact ⟨a, b, c, d, e, g, fun i hi => absurd hi (Nat.not_lt_zero _)⟩, kR.2.2.2⟩⟩, frM (by decide) (by decide)⟩
theorem d_seed (l : Launch) {G : PH} {σ : Sg} {v0 : Int32} (k : Mod G σ) (hv : sVal σ) : Tri l mX10_seed 0 0 [.ref 164, .int v0] G (fun a9 G' => a9 = some (.int (spSeed σ v0).1) ∧ Mod G' (spSeed σ v0).2 ∧ Fr G G' 164 17) := by
  obtain ⟨o, f, kO⟩ := id k
  obtain ⟨hk, h1, h2, h3, h4, h5, kR, ⟨⟨fi, fo, fs, fa, fb, km⟩, ⟨gs, gf, kl⟩, ⟨fm, kmd⟩⟩⟩ := id kO
  have hb := hv.1.1; have hvr := hv.1.2; have hN : rN (gR σ) ≤ 6 := hb.2.2.2.2; have hT : rT (gR σ) ≤ 24 := hb.2.1; have hT2 : 2 ≤ rT (gR σ) := hb.1
  refine Tri.intro (L := [_, _, _]) okX10_seed.1 (Nat.le_of_ble_eq_true rfl) rfl ?_
  refine P_iload_n dX10_seed_0 rfl ?_
  refine P_if_ge (tgt := 7) dX10_seed_1 (by decide) (fun c1 => ?_) (fun c1 => ?_)
  · have e : ¬ v0 < 0 := Int32.not_lt.mpr c1
    obtain ⟨n9, hn9, rfl⟩ := nI_of e
    have hs : spSeed σ (nI n9) = (nI (gS σ), sgS σ n9) := by unfold spSeed; rw [if_neg e, nI_clamp (by omega)]
    refine P_aload_n dX10_seed_7 rfl ?_
    refine P_get dX10_seed_8 flX10_267 hk.1 rfl ?_
    refine P_istore_n (L' := [_, _, _]) dX10_seed_11 (Nat.le_of_ble_eq_true rfl) rfl ?_
    refine P_aload_n dX10_seed_12 rfl ?_
    refine P_iload_n dX10_seed_13 rfl ?_
    refine P_putI dX10_seed_14 flX10_267 hk.1 (Nat.le_of_ble_eq_true rfl) ?_
    refine P_iload_n dX10_seed_17 rfl ?_
    exact P_iret dX10_seed_18 rfl ⟨Nat.le_refl _, Nat.le_refl _⟩ ⟨by rw [hs, h2], by rw [hs]; exact ⟨_, _, kO.ob (σ' := sgS σ n9) (o' := oSd o (nI n9)) rfl h1 rfl h3 h4 h5 kR⟩, frM (by decide) (by decide)⟩
  · have hs : spSeed σ v0 = (OUTS, σ) := by unfold spSeed; rw [if_pos (Int32.not_le.mp c1)]
    refine P_ldc dX10_seed_4 kcX10_161 ?_
    exact P_iret dX10_seed_6 rfl ⟨Nat.le_refl _, Nat.le_refl _⟩ ⟨by rw [hs], by rw [hs]; exact k, Fr.rf⟩
theorem d_fault (l : Launch) {G : PH} {σ : Sg} (k : Mod G σ) : Tri l mX10_fault 0 0 [.ref 164] G (fun a9 G' => a9 = some (.int (gF σ)) ∧ Mod G' σ ∧ Fr G G' 164 17) := by
  obtain ⟨o, f, kO⟩ := id k
  refine Tri.intro (L := [_]) okX10_fault.1 (Nat.le_of_ble_eq_true rfl) rfl ?_
  refine P_aload_n dX10_fault_0 rfl ?_
  refine P_get dX10_fault_1 flX10_36 kO.1.1 rfl ?_
  exact P_iret dX10_fault_4 rfl ⟨Nat.le_refl _, Nat.le_refl _⟩ ⟨congrArg (fun z => some (Value.int z)) kO.2.2.2.2.2.1, k, Fr.rf⟩
set_option maxHeartbeats 4000000 in
set_option maxRecDepth 100000 in
theorem d_feed (l : Launch) {G : PH} {σ : Sg} {c : Int32} (k : Mod G σ) (hv : sVal σ) : Tri l mX10_feed 0 0 [.ref 164, .int c] G (fun a9 G' => a9 = some (.int (spFeed σ c).1) ∧ Mod G' (spFeed σ c).2 ∧ Fr G G' 164 17) := by
  obtain ⟨o, f, kO⟩ := id k
  obtain ⟨hk, h1, h2, h3, h4, h5, kR, ⟨⟨fi, fo, fs, fa, fb, km⟩, ⟨gs, gf, kl⟩, ⟨fm, kmd⟩⟩⟩ := id kO
  have hb := hv.1.1; have hvr := hv.1.2; have hN : rN (gR σ) ≤ 6 := hb.2.2.2.2; have hT : rT (gR σ) ≤ 24 := hb.2.1; have hT2 : 2 ≤ rT (gR σ) := hb.1
  obtain ⟨fX, kX, hX⟩ := kR.2.2.2
  have h200 : gN σ ≤ 200 := hv.2.1
  refine Tri.intro (L := [_, _]) okX10_feed.1 (Nat.le_of_ble_eq_true rfl) rfl ?_
  refine P_iload_n dX10_feed_0 rfl ?_
  refine P_iconst dX10_feed_1 ci_0 ?_
  refine P_sipush dX10_feed_2 sp_255 ?_
  refine P_callSp dX10_feed_5 lkX10_68 okX10_in ⟨Nat.le_of_ble_eq_true rfl, Nat.le_of_ble_eq_true rfl⟩ (m_in l) rfl rfl (Nat.le_of_ble_eq_true rfl) ⟨Nat.le_of_ble_eq_true rfl, Nat.le_of_ble_eq_true rfl⟩ ?_
  refine P_if_ne (tgt := 14) dX10_feed_8 (by decide) (fun c8 => ?_) (fun c8 => ?_)
  · have e := b2w c8
    refine P_aload_n dX10_feed_14 rfl ?_
    refine P_get dX10_feed_15 flX10_193 hk.1 rfl ?_
    refine P_sipush dX10_feed_18 sp_200 ?_
    refine P_icmp_ne (tgt := 27) dX10_feed_21 (by decide) (fun c21 => ?_) (fun c21 => ?_)
    · have hlt : gN σ < 200 := Nat.lt_of_le_of_ne h200 fun z => c21 (by rw [h4, z]; rfl)
      have hs : spFeed σ c = (nI (gN σ + 1), sgT σ (gN σ + 1) (upd (gX σ) (gN σ) c) (gF σ)) := by unfold spFeed; rw [if_neg e, if_pos hlt]
      refine P_aload_n dX10_feed_27 rfl ?_
      refine P_get dX10_feed_28 flX10_33 hk.1 rfl ?_
      refine P_aload_n dX10_feed_31 rfl ?_
      refine P_get dX10_feed_32 flX10_193 hk.1 rfl ?_
      refine P_iload_n dX10_feed_35 rfl ?_
      refine P_iast dX10_feed_36 kX (by rw [h4]; exact vp_in_nI hlt (by decide)) ?_
      rw [show (mL o).toNatClampNeg = gN σ by rw [h4, nI_clamp (by omega)]]
      have hob1 : (G.set 172 (aI 200 (upd fX (gN σ) c)))[164]? = some (oM o) := set_ne hk.1 (by decide)
      refine P_aload_n dX10_feed_37 rfl ?_
      refine P_dup dX10_feed_38 rfl ?_
      refine P_get dX10_feed_39 flX10_193 hob1 rfl ?_
      refine P_iconst dX10_feed_42 ci_1 ?_
      refine P_iadd dX10_feed_43 ?_
      rw [h4, nI_1]
      refine P_putI dX10_feed_44 flX10_193 hob1 (Nat.le_of_ble_eq_true rfl) ?_
      refine P_aload_n dX10_feed_47 rfl ?_
      refine P_get dX10_feed_48 flX10_193 (set_at hob1) rfl ?_
      have hsc : mScr ((G.set 172 (aI 200 (upd fX (gN σ) c))).set 164 (oM (oLt o (nI (gN σ + 1))))) := mScr.fr (mScr.fr ⟨⟨_, _, _, _, _, km⟩, ⟨_, _, kl⟩, _, kmd⟩ (Fr.set (a := 172) (n := 1) (by omega) (by omega)) (by decide)) (Fr.set (a := 164) (n := 1) (by omega) (by omega)) (by decide)
      have hFz : ∀ x, x ≠ 172 → x ≠ 164 → ((G.set 172 (aI 200 (upd fX (gN σ) c))).set 164 (oM (oLt o (nI (gN σ + 1)))))[x]? = G[x]? := fun x a b => (List.getElem?_set_ne b.symm).trans (List.getElem?_set_ne a.symm)
      have hnew : ∀ i, i < gN σ + 1 → upd fX (gN σ) c i = upd (gX σ) (gN σ) c i := fun i hi => by
        by_cases e9 : i = gN σ
        · rw [e9, upd_a, upd_a]
        · rw [upd_n e9, upd_n e9]; exact hX i (by omega)
      exact P_iret dX10_feed_51 rfl ⟨Nat.le_refl _, Nat.le_refl _⟩ ⟨by rw [hs], by rw [hs]; exact ⟨oLt o (nI (gN σ + 1)), f, ⟨set_at hob1, set_ne (set_ne hk.2.1 (by decide)) (by decide), hk.2.2⟩, h1, h2, h3, rfl, h5, ⟨kR.1.sm (hFz _ (by decide) (by decide)), kR.2.1.sm (hFz _ (by decide) (by decide)) (hFz _ (by decide) (by decide)), kR.2.2.1.sm (hFz _ (by decide) (by decide)) (hFz _ (by decide) (by decide)) (hFz _ (by decide) (by decide)), ⟨_, set_ne (set_at kX) (by decide), hnew⟩⟩, hsc⟩, (frM (by decide) (by decide)).tr (frM (by decide) (by decide))⟩
    · have hge : ¬ gN σ < 200 := fun z => by rw [h4] at c21; have := (nI_eq (b := 200) (by omega) (by decide)).mp c21; omega
      have hs : spFeed σ c = (FUL, σ) := by unfold spFeed; rw [if_neg e, if_neg hge]
      refine P_ldc dX10_feed_24 kcX10_196 ?_
      exact P_iret dX10_feed_26 rfl ⟨Nat.le_refl _, Nat.le_refl _⟩ ⟨by rw [hs], by rw [hs]; exact k, Fr.rf⟩
  · have hs : spFeed σ c = (OUTS, σ) := by unfold spFeed; rw [if_pos (b2z c8)]
    refine P_ldc dX10_feed_11 kcX10_161 ?_
    exact P_iret dX10_feed_13 rfl ⟨Nat.le_refl _, Nat.le_refl _⟩ ⟨by rw [hs], by rw [hs]; exact k, Fr.rf⟩
