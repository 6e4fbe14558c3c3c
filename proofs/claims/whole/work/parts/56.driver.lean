set_option maxHeartbeats 4000000 in
set_option maxRecDepth 100000 in
theorem d_river (l : Launch) {G : PH} {σ : Sg} (k : Mod G σ) (hv : sVal σ) (htx : ∀ i, i < gN σ → ¬ gX σ i = -1) : Tri l mX10_river 0 0 [.ref 164] G (fun a9 G' => a9 = some (.int (spRiver σ).1) ∧ Mod G' (spRiver σ).2 ∧ Fr G G' 164 17) := by
  obtain ⟨o, f, kO⟩ := id k
  obtain ⟨hk, h1, h2, h3, h4, h5, kR, ⟨⟨fi, fo, fs, fa, fb, km⟩, ⟨gs, gf, kl⟩, ⟨fm, kmd⟩⟩⟩ := id kO
  have hb := hv.1.1; have hvr := hv.1.2; have hN : rN (gR σ) ≤ 6 := hb.2.2.2.2; have hT : rT (gR σ) ≤ 24 := hb.2.1; have hT2 : 2 ≤ rT (gR σ) := hb.1
  obtain ⟨fX, kX, hX⟩ := kR.2.2.2
  have kp : mpr G o fX (gN σ) (gX σ) := ⟨hk.1, kX, hX, h4, hv.2.1⟩
  refine Tri.intro (L := [_]) okX10_river.1 (Nat.le_of_ble_eq_true rfl) rfl ?_
  refine P_aload_n dX10_river_0 rfl ?_
  refine P_callV dX10_river_1 lkX10_252 okX10_readsAll ⟨Nat.le_of_ble_eq_true rfl, Nat.le_of_ble_eq_true rfl⟩ (m_readsAll l kp kmd htx) rfl rfl hk.1 (Nat.le_of_ble_eq_true rfl) ⟨Nat.le_of_ble_eq_true rfl, Nat.le_of_ble_eq_true rfl⟩ (fun v1 G1 q1 => ?_)
  obtain ⟨rfl, ⟨o1, f1, kb1, kd1, hS1, hR⟩, hF1⟩ := q1
  have hFw : Fr G G1 164 17 := ⟨hF1.1, fun x hx => hF1.2 x (by omega) (by omega)⟩
  have hMod : ∀ fl : Int32, ModO (G1.set 164 (oM (mD o1, mS o1, mE o1, 0, fl, mK o1, mX o1, mA o1, mW o1, mT o1, mZ o1, mO o1, mB o1))) (sgT σ 0 (gX σ) fl) (mD o1, mS o1, mE o1, 0, fl, mK o1, mX o1, mA o1, mW o1, mT o1, mZ o1, mO o1, mB o1) f := fun fl => ⟨⟨set_at kb1, set_ne ((hF1.2 165 (by decide) (by decide)).trans hk.2.1) (by decide), hk.2.2⟩, hS1.1.trans h1, hS1.2.1.trans h2, hS1.2.2.1.trans h3, rfl, rfl, mRest.sm (G := G) ⟨kR.1, kR.2.1, kR.2.2.1, ⟨fX, kX, fun i hi => absurd hi (Nat.not_lt_zero _)⟩⟩ (fun x a b => (List.getElem?_set_ne (by omega)).trans (hF1.2 x (by omega) (by omega))), mScr.fr (G := G1) ⟨⟨_, _, _, _, _, ⟨(hF1.2 173 (by decide) (by decide)).trans km.1, (hF1.2 174 (by decide) (by decide)).trans km.2.1, (hF1.2 175 (by decide) (by decide)).trans km.2.2.1, (hF1.2 176 (by decide) (by decide)).trans km.2.2.2.1, (hF1.2 177 (by decide) (by decide)).trans km.2.2.2.2⟩⟩, ⟨_, _, (hF1.2 178 (by decide) (by decide)).trans kl.1, (hF1.2 179 (by decide) (by decide)).trans kl.2⟩, _, kd1⟩ (Fr.set (a := 164) (n := 1) (by omega) (by omega)) (by decide)⟩
  cases hprs : prs (gN σ) (gX σ) 201 (0, rZ, false, false) with
  | inl e =>
    rw [hprs] at hR
    have hs : spRiver σ = (-10 - nI e.1, sgT σ 0 (gX σ) (nI e.2)) := by unfold spRiver; rw [hprs]
    refine P_aload_n dX10_river_4 rfl ?_
    refine P_iconst dX10_river_5 ci_0 ?_
    refine P_putI dX10_river_6 flX10_193 kb1 (Nat.le_of_ble_eq_true rfl) ?_
    refine P_aload_n dX10_river_9 rfl ?_
    refine P_aload_n dX10_river_10 rfl ?_
    refine P_get dX10_river_11 flX10_200 (show (G1.set 164 (oM (mD o1, mS o1, mE o1, 0, mF o1, mK o1, mX o1, mA o1, mW o1, mT o1, mZ o1, mO o1, mB o1)))[164]? = some (oM (mD o1, mS o1, mE o1, 0, mF o1, mK o1, mX o1, mA o1, mW o1, mT o1, mZ o1, mO o1, mB o1)) from set_at kb1) rfl ?_
    refine P_if_le (tgt := 24) dX10_river_14 (by decide) (fun c14 => ?_) (fun c14 => ?_)
    · exact absurd c14 (by show ¬ mW o1 ≤ 0; rw [hR.1]; exact nI_nle hR.2.1 (by have := hR.2.2.1; omega))
    · refine P_aload_n dX10_river_17 rfl ?_
      refine P_get dX10_river_18 flX10_197 (show (G1.set 164 (oM (mD o1, mS o1, mE o1, 0, mF o1, mK o1, mX o1, mA o1, mW o1, mT o1, mZ o1, mO o1, mB o1)))[164]? = some (oM (mD o1, mS o1, mE o1, 0, mF o1, mK o1, mX o1, mA o1, mW o1, mT o1, mZ o1, mO o1, mB o1)) from set_at kb1) rfl ?_
      refine P_goto (tgt := 25) dX10_river_21 (by decide) ?_
      refine P_putI dX10_river_25 flX10_36 (show (G1.set 164 (oM (mD o1, mS o1, mE o1, 0, mF o1, mK o1, mX o1, mA o1, mW o1, mT o1, mZ o1, mO o1, mB o1)))[164]? = some (oM (mD o1, mS o1, mE o1, 0, mF o1, mK o1, mX o1, mA o1, mW o1, mT o1, mZ o1, mO o1, mB o1)) from set_at kb1) (Nat.le_of_ble_eq_true rfl) ?_
      rw [List.set_set]
      obtain ⟨o3, eo3⟩ : ∃ o3 : MV, o3 = (mD o1, mS o1, mE o1, 0, mA o1, mK o1, mX o1, mA o1, mW o1, mT o1, mZ o1, mO o1, mB o1) := ⟨_, rfl⟩
      have kO3 : ModO (G1.set 164 (oM o3)) (sgT σ 0 (gX σ) (mA o1)) o3 f := by rw [eo3]; exact hMod _
      have eW3 : mW o3 = mW o1 := by rw [eo3]
      have kd3 : (G1.set 164 (oM o3))[180]? = some (aI 315 f1) := set_ne kd1 (by decide)
      have hF3 : Fr G (G1.set 164 (oM o3)) 164 17 := hFw.tr (frM (by decide) (by decide))
      generalize hG3 : G1.set 164 (oM o3) = G3 at kO3 kd3 hF3
      suffices hgo : WP mX10_river l (rmM mX10_river 0 0) (ZM 0 0 (fun a9 G' => a9 = some (.int (spRiver σ).1) ∧ Mod G' (spRiver σ).2 ∧ Fr G G' 164 17)) XT 0 0 28 [some (.ref 164)] [] G3 by rw [← hG3, eo3] at hgo; exact hgo
      clear hG3 eo3
      refine P_aload_n dX10_river_28 rfl ?_
      refine P_get dX10_river_29 flX10_200 kO3.1.1 rfl ?_
      refine P_if_le (tgt := 43) dX10_river_32 (by decide) (fun c32 => ?_) (fun c32 => ?_)
      · exact absurd c32 (by rw [eW3, hR.1]; exact nI_nle hR.2.1 (by have := hR.2.2.1; omega))
      · refine P_bipush dX10_river_35 bp_m10 ?_
        refine P_aload_n dX10_river_37 rfl ?_
        refine P_get dX10_river_38 flX10_200 kO3.1.1 rfl ?_
        refine P_isub dX10_river_41 ?_
        exact P_iret dX10_river_42 rfl ⟨Nat.le_refl _, Nat.le_refl _⟩ ⟨by rw [hs, eW3, hR.1], by rw [hs, show nI e.2 = mA o1 from hR.2.2.2.symm]; exact ⟨_, _, kO3⟩, hF3⟩
  | inr ρ9 =>
    rw [hprs] at hR
    have hok9 := prs_ok _ _ _ (by exact sOk_Z) hprs
    have hs : spRiver σ = (nI (rN ρ9), sgT (deed σ ρ9) 0 (gX σ) (-1)) := by unfold spRiver; rw [hprs]
    refine P_aload_n dX10_river_4 rfl ?_
    refine P_iconst dX10_river_5 ci_0 ?_
    refine P_putI dX10_river_6 flX10_193 kb1 (Nat.le_of_ble_eq_true rfl) ?_
    refine P_aload_n dX10_river_9 rfl ?_
    refine P_aload_n dX10_river_10 rfl ?_
    refine P_get dX10_river_11 flX10_200 (show (G1.set 164 (oM (mD o1, mS o1, mE o1, 0, mF o1, mK o1, mX o1, mA o1, mW o1, mT o1, mZ o1, mO o1, mB o1)))[164]? = some (oM (mD o1, mS o1, mE o1, 0, mF o1, mK o1, mX o1, mA o1, mW o1, mT o1, mZ o1, mO o1, mB o1)) from set_at kb1) rfl ?_
    refine P_if_le (tgt := 24) dX10_river_14 (by decide) (fun c14 => ?_) (fun c14 => ?_)
    · refine P_iconst dX10_river_24 ci_m1 ?_
      refine P_putI dX10_river_25 flX10_36 (show (G1.set 164 (oM (mD o1, mS o1, mE o1, 0, mF o1, mK o1, mX o1, mA o1, mW o1, mT o1, mZ o1, mO o1, mB o1)))[164]? = some (oM (mD o1, mS o1, mE o1, 0, mF o1, mK o1, mX o1, mA o1, mW o1, mT o1, mZ o1, mO o1, mB o1)) from set_at kb1) (Nat.le_of_ble_eq_true rfl) ?_
      rw [List.set_set]
      obtain ⟨o3, eo3⟩ : ∃ o3 : MV, o3 = (mD o1, mS o1, mE o1, 0, -1, mK o1, mX o1, mA o1, mW o1, mT o1, mZ o1, mO o1, mB o1) := ⟨_, rfl⟩
      have kO3 : ModO (G1.set 164 (oM o3)) (sgT σ 0 (gX σ) (-1)) o3 f := by rw [eo3]; exact hMod _
      have eW3 : mW o3 = mW o1 := by rw [eo3]
      have kd3 : (G1.set 164 (oM o3))[180]? = some (aI 315 f1) := set_ne kd1 (by decide)
      have hF3 : Fr G (G1.set 164 (oM o3)) 164 17 := hFw.tr (frM (by decide) (by decide))
      generalize hG3 : G1.set 164 (oM o3) = G3 at kO3 kd3 hF3
      suffices hgo : WP mX10_river l (rmM mX10_river 0 0) (ZM 0 0 (fun a9 G' => a9 = some (.int (spRiver σ).1) ∧ Mod G' (spRiver σ).2 ∧ Fr G G' 164 17)) XT 0 0 28 [some (.ref 164)] [] G3 by rw [← hG3, eo3] at hgo; exact hgo
      clear hG3 eo3
      refine P_aload_n dX10_river_28 rfl ?_
      refine P_get dX10_river_29 flX10_200 kO3.1.1 rfl ?_
      refine P_if_le (tgt := 43) dX10_river_32 (by decide) (fun c32 => ?_) (fun c32 => ?_)
      · have hv3 : sVal (sgT σ 0 (gX σ) (-1)) := sVal_T hv (Nat.zero_le _)
        refine P_aload_n dX10_river_43 rfl ?_
        refine P_callV dX10_river_44 lkX10_255 okX10_notes ⟨Nat.le_of_ble_eq_true rfl, Nat.le_of_ble_eq_true rfl⟩ (m_notes l kO3 hv3) rfl rfl kO3.1.1 (Nat.le_of_ble_eq_true rfl) ⟨Nat.le_of_ble_eq_true rfl, Nat.le_of_ble_eq_true rfl⟩ (fun v44 G44 q44 => ?_)
        obtain ⟨rfl, ⟨o4, kO4⟩, hF4⟩ := q44
        have kd4 := hF4.at kd3 (by decide)
        refine P_aload_n dX10_river_47 rfl ?_
        refine P_get dX10_river_48 flX10_61 kO4.1.1 rfl ?_
        refine P_iconst dX10_river_51 ci_0 ?_
        refine P_aload_n dX10_river_52 rfl ?_
        refine P_get dX10_river_53 flX10_7 kO4.1.1 rfl ?_
        refine P_iconst dX10_river_56 ci_0 ?_
        refine P_sipush dX10_river_57 sp_315 ?_
        refine P_callS dX10_river_60 lkX10_75 okX10_bring ⟨Nat.le_of_ble_eq_true rfl, Nat.le_of_ble_eq_true rfl⟩ (m_bring (i := 0) (j := 0) (n0 := 315) l kd4 kO4.1.2.1 (by decide) (by decide) (by decide) (by decide) (by decide)) rfl rfl (Nat.le_of_ble_eq_true rfl) ⟨Nat.le_of_ble_eq_true rfl, Nat.le_of_ble_eq_true rfl⟩ (fun v60 G60 q60 => ?_)
        obtain ⟨rfl, kS9, hF9⟩ := q60
        have hrow : rRow ρ9 (brg f1 f 0 0 315) := hR.2.1.cg hok9.1.2.2.2.2 (fun i hi => by unfold brg; rw [if_pos (by omega)]; congr 1; omega)
        refine P_aload_n dX10_river_63 rfl ?_
        refine P_get dX10_river_64 flX10_7 (hF9.at kO4.1.1 (by decide)) rfl ?_
        refine P_iconst dX10_river_67 ci_2 ?_
        refine P_iald dX10_river_68 kS9 (vp_in_nI (show 2 < 315 by decide) (by decide)) ?_
        rw [show brg f1 f 0 0 315 (Int32.toNatClampNeg 2) = nI (rN ρ9) from hrow.2.2.1]
        exact P_iret dX10_river_69 rfl ⟨Nat.le_refl _, Nat.le_refl _⟩ ⟨by rw [hs], by rw [hs]; exact ⟨_, _, kO4.st hF9 kS9 hrow hok9.1⟩, hF3.tr ((hF4.wide (by omega) (by omega)).tr (hF9.wide (by omega) (by omega)))⟩
      · exact absurd (show mW o3 ≤ 0 by rw [eW3, hR.1]; exact Int32.le_refl _) c32
    · exact absurd (show mW o1 ≤ 0 by rw [hR.1]; exact Int32.le_refl _) c14
