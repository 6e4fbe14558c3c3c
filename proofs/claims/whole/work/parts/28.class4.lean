set_option maxHeartbeats 4000000 in
set_option maxRecDepth 100000 in
theorem c_times (l : Launch) {G : PH} {σ : Sg} {t0 : Int32} (k : Cls G σ) (hv : sVal σ) : Tri l mX9_times 0 0 [.ref 0, .int t0] G (fun a9 G' => a9 = some (.int (spTimes σ t0).1) ∧ Cls G' (spTimes σ t0).2 ∧ Fr G G' 0 164) := by
  obtain ⟨k0, k1, ⟨r2, k2⟩, ⟨qT, qD, fi, fo, fs, fl, fh, k3⟩, ⟨a1, a2, a3, k4⟩, ⟨b1, b2, b3, b4, b5, k5⟩, k6, k7, k8, ⟨fI, k9, e0, e1⟩, k10, k11⟩ := id k
  have hb := hv.1.1; have hvr := hv.1.2; have hN : rN (gR σ) ≤ 6 := hb.2.2.2.2; have hT : rT (gR σ) ≤ 24 := hb.2.1; have hT2 : 2 ≤ rT (gR σ) := hb.1
  refine Tri.intro (L := [_, _, _]) okX9_times.1 (Nat.le_of_ble_eq_true rfl) rfl ?_
  refine P_iload_n dX9_times_0 rfl ?_
  refine P_iconst dX9_times_1 ci_2 ?_
  refine P_bipush dX9_times_2 bp_24 ?_
  refine P_callSp dX9_times_4 lkX9_72 okX9_outOf ⟨Nat.le_of_ble_eq_true rfl, Nat.le_of_ble_eq_true rfl⟩ (t_outOf l) rfl rfl (Nat.le_of_ble_eq_true rfl) ⟨Nat.le_of_ble_eq_true rfl, Nat.le_of_ble_eq_true rfl⟩ ?_
  refine P_if_eq (tgt := 13) dX9_times_7 (by decide) (fun c7 => ?_) (fun c7 => ?_)
  · have e := (b2p _).mp c7
    obtain ⟨t, ht1, ht2, rfl⟩ := ob_nat (a := 2) (b := 24) (by omega) (by omega) ((b2p _).mp c7)
    have hs : spTimes σ (nI t) = (nI (rT (gR σ)), deed σ (rvT (gR σ) t)) := by unfold spTimes; rw [if_neg e, nI_clamp (by omega)]
    refine P_aload_n dX9_times_13 rfl ?_
    refine P_get dX9_times_14 flX9_50 k0 rfl ?_
    refine P_aload_n dX9_times_17 rfl ?_
    refine P_get dX9_times_18 flX9_10 k0 rfl ?_
    refine P_callV dX9_times_21 lkX9_100 okX5_remember ⟨Nat.le_of_ble_eq_true rfl, Nat.le_of_ble_eq_true rfl⟩ (t_remember l k7 k1 (by omega)) rfl rfl k7.at.choose_spec (Nat.le_of_ble_eq_true rfl) ⟨Nat.le_of_ble_eq_true rfl, Nat.le_of_ble_eq_true rfl⟩ (fun v21 G21 q21 => ?_)
    obtain ⟨rfl, y1, hFa⟩ := q21
    have ka := k.past hFa y1; have k0 := hFa.at k0 (by omega); have k1 := k1.fr hFa (by omega); have k3 := k3.fr hFa (by omega); have k8 := hFa.at k8 (by omega)
    refine P_aload_n dX9_times_24 rfl ?_
    refine P_get dX9_times_25 flX9_10 k0 rfl ?_
    refine P_callVp dX9_times_28 lkX9_110 okX6_timeCount ⟨Nat.le_of_ble_eq_true rfl, Nat.le_of_ble_eq_true rfl⟩ (t_timeCount l k1) rfl rfl k1.at (Nat.le_of_ble_eq_true rfl) ⟨Nat.le_of_ble_eq_true rfl, Nat.le_of_ble_eq_true rfl⟩ ?_
    refine P_istore_n (L' := [_, _, _]) dX9_times_31 (Nat.le_of_ble_eq_true rfl) rfl ?_
    refine P_aload_n dX9_times_32 rfl ?_
    refine P_get dX9_times_33 flX9_10 k0 rfl ?_
    refine P_iload_n dX9_times_36 rfl ?_
    refine P_callV dX9_times_37 lkX9_257 okX6_setTimeCount ⟨Nat.le_of_ble_eq_true rfl, Nat.le_of_ble_eq_true rfl⟩ (t_setT l k1 ht1 ht2) rfl rfl k1.at (Nat.le_of_ble_eq_true rfl) ⟨Nat.le_of_ble_eq_true rfl, Nat.le_of_ble_eq_true rfl⟩ (fun v37 G37 q37 => ?_)
    obtain ⟨rfl, y2, hFb⟩ := q37
    have kb := ka.now hFb y2; have k0 := hFb.at k0 (by omega)
    refine P_iload_n dX9_times_40 rfl ?_
    exact P_iret dX9_times_41 rfl ⟨Nat.le_refl _, Nat.le_refl _⟩ ⟨by rw [hs], by rw [hs]; exact kb, (hFa.wide (by omega) (by omega)).tr (hFb.wide (by omega) (by omega))⟩
  · have e := b2y c7
    have hs : spTimes σ t0 = (OUTS, σ) := by unfold spTimes; rw [if_pos e]
    refine P_ldc dX9_times_10 kcX9_76 ?_
    exact P_iret dX9_times_12 rfl ⟨Nat.le_refl _, Nat.le_refl _⟩ ⟨by rw [hs], by rw [hs]; exact k, Fr.rf⟩
set_option maxHeartbeats 4000000 in
set_option maxRecDepth 100000 in
theorem c_step (l : Launch) {G : PH} {σ : Sg} {t0 : Int32} (k : Cls G σ) (hv : sVal σ) : Tri l mX9_step 0 0 [.ref 0, .int t0] G (fun a9 G' => a9 = some (.int (spStep σ t0).1) ∧ Cls G' (spStep σ t0).2 ∧ Fr G G' 0 164) := by
  obtain ⟨k0, k1, ⟨r2, k2⟩, ⟨qT, qD, fi, fo, fs, fl, fh, k3⟩, ⟨a1, a2, a3, k4⟩, ⟨b1, b2, b3, b4, b5, k5⟩, k6, k7, k8, ⟨fI, k9, e0, e1⟩, k10, k11⟩ := id k
  have hb := hv.1.1; have hvr := hv.1.2; have hN : rN (gR σ) ≤ 6 := hb.2.2.2.2; have hT : rT (gR σ) ≤ 24 := hb.2.1; have hT2 : 2 ≤ rT (gR σ) := hb.1
  refine Tri.intro (L := [_, _, _]) okX9_step.1 (Nat.le_of_ble_eq_true rfl) rfl ?_
  refine P_iload_n dX9_step_0 rfl ?_
  refine P_iconst dX9_step_1 ci_1 ?_
  refine P_bipush dX9_step_2 bp_9 ?_
  refine P_callSp dX9_step_4 lkX9_72 okX9_outOf ⟨Nat.le_of_ble_eq_true rfl, Nat.le_of_ble_eq_true rfl⟩ (t_outOf l) rfl rfl (Nat.le_of_ble_eq_true rfl) ⟨Nat.le_of_ble_eq_true rfl, Nat.le_of_ble_eq_true rfl⟩ ?_
  refine P_if_eq (tgt := 13) dX9_step_7 (by decide) (fun c7 => ?_) (fun c7 => ?_)
  · have e := (b2p _).mp c7
    obtain ⟨t, ht1, ht2, rfl⟩ := ob_nat (a := 1) (b := 9) (by omega) (by omega) ((b2p _).mp c7)
    have hs : spStep σ (nI t) = (nI (rD (gR σ)), deed σ (rvD (gR σ) t)) := by unfold spStep; rw [if_neg e, nI_clamp (by omega)]
    refine P_aload_n dX9_step_13 rfl ?_
    refine P_get dX9_step_14 flX9_50 k0 rfl ?_
    refine P_aload_n dX9_step_17 rfl ?_
    refine P_get dX9_step_18 flX9_10 k0 rfl ?_
    refine P_callV dX9_step_21 lkX9_100 okX5_remember ⟨Nat.le_of_ble_eq_true rfl, Nat.le_of_ble_eq_true rfl⟩ (t_remember l k7 k1 (by omega)) rfl rfl k7.at.choose_spec (Nat.le_of_ble_eq_true rfl) ⟨Nat.le_of_ble_eq_true rfl, Nat.le_of_ble_eq_true rfl⟩ (fun v21 G21 q21 => ?_)
    obtain ⟨rfl, y1, hFa⟩ := q21
    have ka := k.past hFa y1; have k0 := hFa.at k0 (by omega); have k1 := k1.fr hFa (by omega); have k3 := k3.fr hFa (by omega); have k8 := hFa.at k8 (by omega)
    refine P_aload_n dX9_step_24 rfl ?_
    refine P_get dX9_step_25 flX9_10 k0 rfl ?_
    refine P_callVp dX9_step_28 lkX9_113 okX6_timeStep ⟨Nat.le_of_ble_eq_true rfl, Nat.le_of_ble_eq_true rfl⟩ (t_timeStep l k1) rfl rfl k1.at (Nat.le_of_ble_eq_true rfl) ⟨Nat.le_of_ble_eq_true rfl, Nat.le_of_ble_eq_true rfl⟩ ?_
    refine P_istore_n (L' := [_, _, _]) dX9_step_31 (Nat.le_of_ble_eq_true rfl) rfl ?_
    refine P_aload_n dX9_step_32 rfl ?_
    refine P_get dX9_step_33 flX9_10 k0 rfl ?_
    refine P_iload_n dX9_step_36 rfl ?_
    refine P_callV dX9_step_37 lkX9_260 okX6_setTimeStep ⟨Nat.le_of_ble_eq_true rfl, Nat.le_of_ble_eq_true rfl⟩ (t_setD l k1 ht1 ht2) rfl rfl k1.at (Nat.le_of_ble_eq_true rfl) ⟨Nat.le_of_ble_eq_true rfl, Nat.le_of_ble_eq_true rfl⟩ (fun v37 G37 q37 => ?_)
    obtain ⟨rfl, y2, hFb⟩ := q37
    have kb := ka.now hFb y2; have k0 := hFb.at k0 (by omega)
    refine P_iload_n dX9_step_40 rfl ?_
    exact P_iret dX9_step_41 rfl ⟨Nat.le_refl _, Nat.le_refl _⟩ ⟨by rw [hs], by rw [hs]; exact kb, (hFa.wide (by omega) (by omega)).tr (hFb.wide (by omega) (by omega))⟩
  · have e := b2y c7
    have hs : spStep σ t0 = (OUTS, σ) := by unfold spStep; rw [if_pos e]
    refine P_ldc dX9_step_10 kcX9_76 ?_
    exact P_iret dX9_step_12 rfl ⟨Nat.le_refl _, Nat.le_refl _⟩ ⟨by rw [hs], by rw [hs]; exact k, Fr.rf⟩
set_option maxHeartbeats 4000000 in
set_option maxRecDepth 100000 in
theorem c_reach (l : Launch) {G : PH} {σ : Sg} {b0 kk0 xx0 q0 : Int32} (k : Cls G σ) (hv : sVal σ) : Tri l mX9_reach 0 0 [.ref 0, .int b0, .int kk0, .int xx0, .int q0] G (fun a9 G' => a9 = some (.int (spReach σ b0 kk0 xx0 q0).1) ∧ Cls G' (spReach σ b0 kk0 xx0 q0).2 ∧ Fr G G' 0 164) := by
  obtain ⟨k0, k1, ⟨r2, k2⟩, ⟨qT, qD, fi, fo, fs, fl, fh, k3⟩, ⟨a1, a2, a3, k4⟩, ⟨b1, b2, b3, b4, b5, k5⟩, k6, k7, k8, ⟨fI, k9, e0, e1⟩, k10, k11⟩ := id k
  have hb := hv.1.1; have hvr := hv.1.2; have hN : rN (gR σ) ≤ 6 := hb.2.2.2.2; have hT : rT (gR σ) ≤ 24 := hb.2.1; have hT2 : 2 ≤ rT (gR σ) := hb.1
  refine Tri.intro (L := [_, _, _, _, _]) okX9_reach.1 (Nat.le_of_ble_eq_true rfl) rfl ?_
  refine P_iload_n dX9_reach_0 rfl ?_
  refine P_iconst dX9_reach_1 ci_m1 ?_
  refine P_icmp_eq (tgt := 19) dX9_reach_2 (by decide) (fun c2 => ?_) (fun c2 => ?_)
  · have e1 : ¬ (¬ b0 = -1 ∧ ¬ inN b0 (rN (gR σ))) := fun z => z.1 c2
    refine P_iload_n dX9_reach_19 rfl ?_
    refine P_iconst dX9_reach_20 ci_0 ?_
    refine P_bipush dX9_reach_21 bp_20 ?_
    refine P_callSp dX9_reach_23 lkX9_72 okX9_outOf ⟨Nat.le_of_ble_eq_true rfl, Nat.le_of_ble_eq_true rfl⟩ (t_outOf l) rfl rfl (Nat.le_of_ble_eq_true rfl) ⟨Nat.le_of_ble_eq_true rfl, Nat.le_of_ble_eq_true rfl⟩ ?_
    refine P_if_ne (tgt := 49) dX9_reach_26 (by decide) (fun c26 => ?_) (fun c26 => ?_)
    · have hs : spReach σ b0 kk0 xx0 q0 = (OUTS, σ) := by unfold spReach; rw [if_neg e1, if_pos (Or.inl (b2y c26))]
      refine P_ldc dX9_reach_49 kcX9_76 ?_
      exact P_iret dX9_reach_51 rfl ⟨Nat.le_refl _, Nat.le_refl _⟩ ⟨by rw [hs], by rw [hs]; exact k, Fr.rf⟩
    · refine P_iload_n dX9_reach_29 rfl ?_
      refine P_iconst dX9_reach_30 ci_0 ?_
      refine P_bipush dX9_reach_31 bp_10 ?_
      refine P_callSp dX9_reach_33 lkX9_72 okX9_outOf ⟨Nat.le_of_ble_eq_true rfl, Nat.le_of_ble_eq_true rfl⟩ (t_outOf l) rfl rfl (Nat.le_of_ble_eq_true rfl) ⟨Nat.le_of_ble_eq_true rfl, Nat.le_of_ble_eq_true rfl⟩ ?_
      refine P_if_ne (tgt := 49) dX9_reach_36 (by decide) (fun c36 => ?_) (fun c36 => ?_)
      · have hs : spReach σ b0 kk0 xx0 q0 = (OUTS, σ) := by unfold spReach; rw [if_neg e1, if_pos (Or.inr (Or.inl (b2y c36)))]
        refine P_ldc dX9_reach_49 kcX9_76 ?_
        exact P_iret dX9_reach_51 rfl ⟨Nat.le_refl _, Nat.le_refl _⟩ ⟨by rw [hs], by rw [hs]; exact k, Fr.rf⟩
      · refine P_iload dX9_reach_39 rfl ?_
        refine P_iconst dX9_reach_41 ci_1 ?_
        refine P_iconst dX9_reach_42 ci_4 ?_
        refine P_callSp dX9_reach_43 lkX9_72 okX9_outOf ⟨Nat.le_of_ble_eq_true rfl, Nat.le_of_ble_eq_true rfl⟩ (t_outOf l) rfl rfl (Nat.le_of_ble_eq_true rfl) ⟨Nat.le_of_ble_eq_true rfl, Nat.le_of_ble_eq_true rfl⟩ ?_
        refine P_if_eq (tgt := 52) dX9_reach_46 (by decide) (fun c46 => ?_) (fun c46 => ?_)
        · have e2 : ¬ (oB3 kk0 0 20 ∨ oB3 xx0 0 10 ∨ oB3 q0 1 4) := fun z => z.elim ((b2p _).mp c26) (fun z => z.elim ((b2p _).mp c36) ((b2p _).mp c46))
          refine P_aload_n dX9_reach_52 rfl ?_
          refine P_get dX9_reach_53 flX9_10 k0 rfl ?_
          refine P_callVp dX9_reach_56 lkX9_263 okX6_hasRoomForReach ⟨Nat.le_of_ble_eq_true rfl, Nat.le_of_ble_eq_true rfl⟩ (t_hasRoom l k1) rfl rfl k1.at (Nat.le_of_ble_eq_true rfl) ⟨Nat.le_of_ble_eq_true rfl, Nat.le_of_ble_eq_true rfl⟩ ?_
          refine P_if_eq (tgt := 74) dX9_reach_59 (by decide) (fun c59 => ?_) (fun c59 => ?_)
          · have hs : spReach σ b0 kk0 xx0 q0 = (FUL, σ) := by unfold spReach; rw [if_neg e1, if_neg e2, if_pos (Or.inl ((b2p _).mp c59))]
            refine P_ldc dX9_reach_74 kcX9_81 ?_
            exact P_iret dX9_reach_76 rfl ⟨Nat.le_refl _, Nat.le_refl _⟩ ⟨by rw [hs], by rw [hs]; exact k, Fr.rf⟩
          · refine P_iload dX9_reach_62 rfl ?_
            refine P_aload_n dX9_reach_64 rfl ?_
            refine P_get dX9_reach_65 flX9_10 k0 rfl ?_
            refine P_callVp dX9_reach_68 lkX9_266 okX6_roomForParts ⟨Nat.le_of_ble_eq_true rfl, Nat.le_of_ble_eq_true rfl⟩ (t_roomParts l k1) rfl rfl k1.at (Nat.le_of_ble_eq_true rfl) ⟨Nat.le_of_ble_eq_true rfl, Nat.le_of_ble_eq_true rfl⟩ ?_
            refine P_icmp_le (tgt := 77) dX9_reach_71 (by decide) (fun c71 => ?_) (fun c71 => ?_)
            · have h6 := b2y c59
              have hs : spReach σ b0 kk0 xx0 q0 = (nI (rN (gR σ)), deed σ (rvA (gR σ) b0 kk0 xx0 q0)) := by unfold spReach; rw [if_neg e1, if_neg e2, if_neg (fun z => z.elim (fun y => y h6) (fun y => y c71))]
              refine P_aload_n dX9_reach_77 rfl ?_
              refine P_get dX9_reach_78 flX9_50 k0 rfl ?_
              refine P_aload_n dX9_reach_81 rfl ?_
              refine P_get dX9_reach_82 flX9_10 k0 rfl ?_
              refine P_callV dX9_reach_85 lkX9_100 okX5_remember ⟨Nat.le_of_ble_eq_true rfl, Nat.le_of_ble_eq_true rfl⟩ (t_remember l k7 k1 (by omega)) rfl rfl k7.at.choose_spec (Nat.le_of_ble_eq_true rfl) ⟨Nat.le_of_ble_eq_true rfl, Nat.le_of_ble_eq_true rfl⟩ (fun v85 G85 q85 => ?_)
              obtain ⟨rfl, y1, hFa⟩ := q85
              have ka := k.past hFa y1; have k0 := hFa.at k0 (by omega); have k1 := k1.fr hFa (by omega); have k3 := k3.fr hFa (by omega); have k8 := hFa.at k8 (by omega)
              refine P_aload_n dX9_reach_88 rfl ?_
              refine P_get dX9_reach_89 flX9_10 k0 rfl ?_
              refine P_iload_n dX9_reach_92 rfl ?_
              refine P_iload_n dX9_reach_93 rfl ?_
              refine P_iload_n dX9_reach_94 rfl ?_
              refine P_iload dX9_reach_95 rfl ?_
              refine P_callV dX9_reach_97 lkX9_269 okX6_addReach ⟨Nat.le_of_ble_eq_true rfl, Nat.le_of_ble_eq_true rfl⟩ (t_addR l k1 h6) rfl rfl k1.at (Nat.le_of_ble_eq_true rfl) ⟨Nat.le_of_ble_eq_true rfl, Nat.le_of_ble_eq_true rfl⟩ (fun v97 G97 q97 => ?_)
              obtain ⟨rfl, y2, hFb⟩ := q97
              have kb := ka.now hFb y2; have k0 := hFb.at k0 (by omega)
              refine P_aload_n dX9_reach_100 rfl ?_
              refine P_get dX9_reach_101 flX9_10 k0 rfl ?_
              refine P_callVp dX9_reach_104 lkX9_107 okX6_reachCount ⟨Nat.le_of_ble_eq_true rfl, Nat.le_of_ble_eq_true rfl⟩ (t_reachCount l y2) rfl rfl y2.at (Nat.le_of_ble_eq_true rfl) ⟨Nat.le_of_ble_eq_true rfl, Nat.le_of_ble_eq_true rfl⟩ ?_
              refine P_iconst dX9_reach_107 ci_1 ?_
              refine P_isub dX9_reach_108 ?_
              rw [show nI (rN (rvA (gR σ) b0 kk0 xx0 q0)) - 1 = nI (rN (gR σ)) from nI_pred _]
              exact P_iret dX9_reach_109 rfl ⟨Nat.le_refl _, Nat.le_refl _⟩ ⟨by rw [hs], by rw [hs]; exact kb, (hFa.wide (by omega) (by omega)).tr (hFb.wide (by omega) (by omega))⟩
            · have hs : spReach σ b0 kk0 xx0 q0 = (FUL, σ) := by unfold spReach; rw [if_neg e1, if_neg e2, if_pos (Or.inr c71)]
              refine P_ldc dX9_reach_74 kcX9_81 ?_
              exact P_iret dX9_reach_76 rfl ⟨Nat.le_refl _, Nat.le_refl _⟩ ⟨by rw [hs], by rw [hs]; exact k, Fr.rf⟩
        · have hs : spReach σ b0 kk0 xx0 q0 = (OUTS, σ) := by unfold spReach; rw [if_neg e1, if_pos (Or.inr (Or.inr (b2y c46)))]
          refine P_ldc dX9_reach_49 kcX9_76 ?_
          exact P_iret dX9_reach_51 rfl ⟨Nat.le_refl _, Nat.le_refl _⟩ ⟨by rw [hs], by rw [hs]; exact k, Fr.rf⟩
  · refine P_aload_n dX9_reach_5 rfl ?_
    refine P_get dX9_reach_6 flX9_10 k0 rfl ?_
    refine P_iload_n dX9_reach_9 rfl ?_
    refine P_callVp dX9_reach_10 lkX9_138 okX6_hasReach ⟨Nat.le_of_ble_eq_true rfl, Nat.le_of_ble_eq_true rfl⟩ (t_hasReach l k1) rfl rfl k1.at (Nat.le_of_ble_eq_true rfl) ⟨Nat.le_of_ble_eq_true rfl, Nat.le_of_ble_eq_true rfl⟩ ?_
    refine P_if_ne (tgt := 19) dX9_reach_13 (by decide) (fun c13 => ?_) (fun c13 => ?_)
    · have e1 : ¬ (¬ b0 = -1 ∧ ¬ inN b0 (rN (gR σ))) := fun z => z.2 (b2y c13)
      refine P_iload_n dX9_reach_19 rfl ?_
      refine P_iconst dX9_reach_20 ci_0 ?_
      refine P_bipush dX9_reach_21 bp_20 ?_
      refine P_callSp dX9_reach_23 lkX9_72 okX9_outOf ⟨Nat.le_of_ble_eq_true rfl, Nat.le_of_ble_eq_true rfl⟩ (t_outOf l) rfl rfl (Nat.le_of_ble_eq_true rfl) ⟨Nat.le_of_ble_eq_true rfl, Nat.le_of_ble_eq_true rfl⟩ ?_
      refine P_if_ne (tgt := 49) dX9_reach_26 (by decide) (fun c26 => ?_) (fun c26 => ?_)
      · have hs : spReach σ b0 kk0 xx0 q0 = (OUTS, σ) := by unfold spReach; rw [if_neg e1, if_pos (Or.inl (b2y c26))]
        refine P_ldc dX9_reach_49 kcX9_76 ?_
        exact P_iret dX9_reach_51 rfl ⟨Nat.le_refl _, Nat.le_refl _⟩ ⟨by rw [hs], by rw [hs]; exact k, Fr.rf⟩
      · refine P_iload_n dX9_reach_29 rfl ?_
        refine P_iconst dX9_reach_30 ci_0 ?_
        refine P_bipush dX9_reach_31 bp_10 ?_
        refine P_callSp dX9_reach_33 lkX9_72 okX9_outOf ⟨Nat.le_of_ble_eq_true rfl, Nat.le_of_ble_eq_true rfl⟩ (t_outOf l) rfl rfl (Nat.le_of_ble_eq_true rfl) ⟨Nat.le_of_ble_eq_true rfl, Nat.le_of_ble_eq_true rfl⟩ ?_
        refine P_if_ne (tgt := 49) dX9_reach_36 (by decide) (fun c36 => ?_) (fun c36 => ?_)
        · have hs : spReach σ b0 kk0 xx0 q0 = (OUTS, σ) := by unfold spReach; rw [if_neg e1, if_pos (Or.inr (Or.inl (b2y c36)))]
          refine P_ldc dX9_reach_49 kcX9_76 ?_
          exact P_iret dX9_reach_51 rfl ⟨Nat.le_refl _, Nat.le_refl _⟩ ⟨by rw [hs], by rw [hs]; exact k, Fr.rf⟩
        · refine P_iload dX9_reach_39 rfl ?_
          refine P_iconst dX9_reach_41 ci_1 ?_
          refine P_iconst dX9_reach_42 ci_4 ?_
          refine P_callSp dX9_reach_43 lkX9_72 okX9_outOf ⟨Nat.le_of_ble_eq_true rfl, Nat.le_of_ble_eq_true rfl⟩ (t_outOf l) rfl rfl (Nat.le_of_ble_eq_true rfl) ⟨Nat.le_of_ble_eq_true rfl, Nat.le_of_ble_eq_true rfl⟩ ?_
          refine P_if_eq (tgt := 52) dX9_reach_46 (by decide) (fun c46 => ?_) (fun c46 => ?_)
          · have e2 : ¬ (oB3 kk0 0 20 ∨ oB3 xx0 0 10 ∨ oB3 q0 1 4) := fun z => z.elim ((b2p _).mp c26) (fun z => z.elim ((b2p _).mp c36) ((b2p _).mp c46))
            refine P_aload_n dX9_reach_52 rfl ?_
            refine P_get dX9_reach_53 flX9_10 k0 rfl ?_
            refine P_callVp dX9_reach_56 lkX9_263 okX6_hasRoomForReach ⟨Nat.le_of_ble_eq_true rfl, Nat.le_of_ble_eq_true rfl⟩ (t_hasRoom l k1) rfl rfl k1.at (Nat.le_of_ble_eq_true rfl) ⟨Nat.le_of_ble_eq_true rfl, Nat.le_of_ble_eq_true rfl⟩ ?_
            refine P_if_eq (tgt := 74) dX9_reach_59 (by decide) (fun c59 => ?_) (fun c59 => ?_)
            · have hs : spReach σ b0 kk0 xx0 q0 = (FUL, σ) := by unfold spReach; rw [if_neg e1, if_neg e2, if_pos (Or.inl ((b2p _).mp c59))]
              refine P_ldc dX9_reach_74 kcX9_81 ?_
              exact P_iret dX9_reach_76 rfl ⟨Nat.le_refl _, Nat.le_refl _⟩ ⟨by rw [hs], by rw [hs]; exact k, Fr.rf⟩
            · refine P_iload dX9_reach_62 rfl ?_
              refine P_aload_n dX9_reach_64 rfl ?_
              refine P_get dX9_reach_65 flX9_10 k0 rfl ?_
              refine P_callVp dX9_reach_68 lkX9_266 okX6_roomForParts ⟨Nat.le_of_ble_eq_true rfl, Nat.le_of_ble_eq_true rfl⟩ (t_roomParts l k1) rfl rfl k1.at (Nat.le_of_ble_eq_true rfl) ⟨Nat.le_of_ble_eq_true rfl, Nat.le_of_ble_eq_true rfl⟩ ?_
              refine P_icmp_le (tgt := 77) dX9_reach_71 (by decide) (fun c71 => ?_) (fun c71 => ?_)
              · have h6 := b2y c59
                have hs : spReach σ b0 kk0 xx0 q0 = (nI (rN (gR σ)), deed σ (rvA (gR σ) b0 kk0 xx0 q0)) := by unfold spReach; rw [if_neg e1, if_neg e2, if_neg (fun z => z.elim (fun y => y h6) (fun y => y c71))]
                refine P_aload_n dX9_reach_77 rfl ?_
                refine P_get dX9_reach_78 flX9_50 k0 rfl ?_
                refine P_aload_n dX9_reach_81 rfl ?_
                refine P_get dX9_reach_82 flX9_10 k0 rfl ?_
                refine P_callV dX9_reach_85 lkX9_100 okX5_remember ⟨Nat.le_of_ble_eq_true rfl, Nat.le_of_ble_eq_true rfl⟩ (t_remember l k7 k1 (by omega)) rfl rfl k7.at.choose_spec (Nat.le_of_ble_eq_true rfl) ⟨Nat.le_of_ble_eq_true rfl, Nat.le_of_ble_eq_true rfl⟩ (fun v85 G85 q85 => ?_)
                obtain ⟨rfl, y1, hFa⟩ := q85
                have ka := k.past hFa y1; have k0 := hFa.at k0 (by omega); have k1 := k1.fr hFa (by omega); have k3 := k3.fr hFa (by omega); have k8 := hFa.at k8 (by omega)
                refine P_aload_n dX9_reach_88 rfl ?_
                refine P_get dX9_reach_89 flX9_10 k0 rfl ?_
                refine P_iload_n dX9_reach_92 rfl ?_
                refine P_iload_n dX9_reach_93 rfl ?_
                refine P_iload_n dX9_reach_94 rfl ?_
                refine P_iload dX9_reach_95 rfl ?_
                refine P_callV dX9_reach_97 lkX9_269 okX6_addReach ⟨Nat.le_of_ble_eq_true rfl, Nat.le_of_ble_eq_true rfl⟩ (t_addR l k1 h6) rfl rfl k1.at (Nat.le_of_ble_eq_true rfl) ⟨Nat.le_of_ble_eq_true rfl, Nat.le_of_ble_eq_true rfl⟩ (fun v97 G97 q97 => ?_)
                obtain ⟨rfl, y2, hFb⟩ := q97
                have kb := ka.now hFb y2; have k0 := hFb.at k0 (by omega)
                refine P_aload_n dX9_reach_100 rfl ?_
                refine P_get dX9_reach_101 flX9_10 k0 rfl ?_
                refine P_callVp dX9_reach_104 lkX9_107 okX6_reachCount ⟨Nat.le_of_ble_eq_true rfl, Nat.le_of_ble_eq_true rfl⟩ (t_reachCount l y2) rfl rfl y2.at (Nat.le_of_ble_eq_true rfl) ⟨Nat.le_of_ble_eq_true rfl, Nat.le_of_ble_eq_true rfl⟩ ?_
                refine P_iconst dX9_reach_107 ci_1 ?_
                refine P_isub dX9_reach_108 ?_
                rw [show nI (rN (rvA (gR σ) b0 kk0 xx0 q0)) - 1 = nI (rN (gR σ)) from nI_pred _]
                exact P_iret dX9_reach_109 rfl ⟨Nat.le_refl _, Nat.le_refl _⟩ ⟨by rw [hs], by rw [hs]; exact kb, (hFa.wide (by omega) (by omega)).tr (hFb.wide (by omega) (by omega))⟩
              · have hs : spReach σ b0 kk0 xx0 q0 = (FUL, σ) := by unfold spReach; rw [if_neg e1, if_neg e2, if_pos (Or.inr c71)]
                refine P_ldc dX9_reach_74 kcX9_81 ?_
                exact P_iret dX9_reach_76 rfl ⟨Nat.le_refl _, Nat.le_refl _⟩ ⟨by rw [hs], by rw [hs]; exact k, Fr.rf⟩
          · have hs : spReach σ b0 kk0 xx0 q0 = (OUTS, σ) := by unfold spReach; rw [if_neg e1, if_pos (Or.inr (Or.inr (b2y c46)))]
            refine P_ldc dX9_reach_49 kcX9_76 ?_
            exact P_iret dX9_reach_51 rfl ⟨Nat.le_refl _, Nat.le_refl _⟩ ⟨by rw [hs], by rw [hs]; exact k, Fr.rf⟩
    · have e := (b2p _).mp c13
      have hs : spReach σ b0 kk0 xx0 q0 = (UNK, σ) := by unfold spReach; rw [if_pos ⟨c2, e⟩]
      refine P_ldc dX9_reach_16 kcX9_142 ?_
      exact P_iret dX9_reach_18 rfl ⟨Nat.le_refl _, Nat.le_refl _⟩ ⟨by rw [hs], by rw [hs]; exact k, Fr.rf⟩
set_option maxHeartbeats 4000000 in
set_option maxRecDepth 100000 in
theorem c_change (l : Launch) {G : PH} {σ : Sg} {r0 kk0 xx0 : Int32} (k : Cls G σ) (hv : sVal σ) : Tri l mX9_change 0 0 [.ref 0, .int r0, .int kk0, .int xx0] G (fun a9 G' => a9 = some (.int (spChange σ r0 kk0 xx0).1) ∧ Cls G' (spChange σ r0 kk0 xx0).2 ∧ Fr G G' 0 164) := by
  obtain ⟨k0, k1, ⟨r2, k2⟩, ⟨qT, qD, fi, fo, fs, fl, fh, k3⟩, ⟨a1, a2, a3, k4⟩, ⟨b1, b2, b3, b4, b5, k5⟩, k6, k7, k8, ⟨fI, k9, e0, e1⟩, k10, k11⟩ := id k
  have hb := hv.1.1; have hvr := hv.1.2; have hN : rN (gR σ) ≤ 6 := hb.2.2.2.2; have hT : rT (gR σ) ≤ 24 := hb.2.1; have hT2 : 2 ≤ rT (gR σ) := hb.1
  refine Tri.intro (L := [_, _, _, _]) okX9_change.1 (Nat.le_of_ble_eq_true rfl) rfl ?_
  refine P_aload_n dX9_change_0 rfl ?_
  refine P_get dX9_change_1 flX9_10 k0 rfl ?_
  refine P_iload_n dX9_change_4 rfl ?_
  refine P_callVp dX9_change_5 lkX9_138 okX6_hasReach ⟨Nat.le_of_ble_eq_true rfl, Nat.le_of_ble_eq_true rfl⟩ (t_hasReach l k1) rfl rfl k1.at (Nat.le_of_ble_eq_true rfl) ⟨Nat.le_of_ble_eq_true rfl, Nat.le_of_ble_eq_true rfl⟩ ?_
  refine P_if_ne (tgt := 14) dX9_change_8 (by decide) (fun c8 => ?_) (fun c8 => ?_)
  · obtain ⟨j, hj, rfl⟩ := inN_of (b2y c8) (by omega)
    have ej := inN_nI hj (n := rN (gR σ)) (by omega)
    refine P_iload_n dX9_change_14 rfl ?_
    refine P_iconst dX9_change_15 ci_0 ?_
    refine P_bipush dX9_change_16 bp_20 ?_
    refine P_callSp dX9_change_18 lkX9_72 okX9_outOf ⟨Nat.le_of_ble_eq_true rfl, Nat.le_of_ble_eq_true rfl⟩ (t_outOf l) rfl rfl (Nat.le_of_ble_eq_true rfl) ⟨Nat.le_of_ble_eq_true rfl, Nat.le_of_ble_eq_true rfl⟩ ?_
    refine P_if_ne (tgt := 34) dX9_change_21 (by decide) (fun c21 => ?_) (fun c21 => ?_)
    · have hs : spChange σ (nI j) kk0 xx0 = (OUTS, σ) := by unfold spChange; rw [if_pos ej, if_pos (Or.inl (b2y c21))]
      refine P_ldc dX9_change_34 kcX9_76 ?_
      exact P_iret dX9_change_36 rfl ⟨Nat.le_refl _, Nat.le_refl _⟩ ⟨by rw [hs], by rw [hs]; exact k, Fr.rf⟩
    · refine P_iload_n dX9_change_24 rfl ?_
      refine P_iconst dX9_change_25 ci_0 ?_
      refine P_bipush dX9_change_26 bp_10 ?_
      refine P_callSp dX9_change_28 lkX9_72 okX9_outOf ⟨Nat.le_of_ble_eq_true rfl, Nat.le_of_ble_eq_true rfl⟩ (t_outOf l) rfl rfl (Nat.le_of_ble_eq_true rfl) ⟨Nat.le_of_ble_eq_true rfl, Nat.le_of_ble_eq_true rfl⟩ ?_
      refine P_if_eq (tgt := 37) dX9_change_31 (by decide) (fun c31 => ?_) (fun c31 => ?_)
      · have hs : spChange σ (nI j) kk0 xx0 = (if lawP (nI (rD (gR σ))) kk0 xx0 then 1 else 0, deed σ (rvW (gR σ) j kk0 xx0)) := by unfold spChange; rw [if_pos ej, if_neg (fun z => z.elim ((b2p _).mp c21) ((b2p _).mp c31)), nI_clamp (by omega)]
        refine P_aload_n dX9_change_37 rfl ?_
        refine P_get dX9_change_38 flX9_50 k0 rfl ?_
        refine P_aload_n dX9_change_41 rfl ?_
        refine P_get dX9_change_42 flX9_10 k0 rfl ?_
        refine P_callV dX9_change_45 lkX9_100 okX5_remember ⟨Nat.le_of_ble_eq_true rfl, Nat.le_of_ble_eq_true rfl⟩ (t_remember l k7 k1 (by omega)) rfl rfl k7.at.choose_spec (Nat.le_of_ble_eq_true rfl) ⟨Nat.le_of_ble_eq_true rfl, Nat.le_of_ble_eq_true rfl⟩ (fun v45 G45 q45 => ?_)
        obtain ⟨rfl, y1, hFa⟩ := q45
        have ka := k.past hFa y1; have k0 := hFa.at k0 (by omega); have k1 := k1.fr hFa (by omega); have k3 := k3.fr hFa (by omega); have k8 := hFa.at k8 (by omega)
        refine P_aload_n dX9_change_48 rfl ?_
        refine P_get dX9_change_49 flX9_10 k0 rfl ?_
        refine P_iload_n dX9_change_52 rfl ?_
        refine P_iload_n dX9_change_53 rfl ?_
        refine P_iload_n dX9_change_54 rfl ?_
        refine P_callV dX9_change_55 lkX9_253 okX6_setWeights ⟨Nat.le_of_ble_eq_true rfl, Nat.le_of_ble_eq_true rfl⟩ (t_setW l k1 hj) rfl rfl k1.at (Nat.le_of_ble_eq_true rfl) ⟨Nat.le_of_ble_eq_true rfl, Nat.le_of_ble_eq_true rfl⟩ (fun v55 G55 q55 => ?_)
        obtain ⟨rfl, y2, hFb⟩ := q55
        have kb := ka.now hFb y2; have k0 := hFb.at k0 (by omega)
        refine P_aload_n dX9_change_58 rfl ?_
        refine P_get dX9_change_59 flX9_10 k0 rfl ?_
        refine P_iload_n dX9_change_62 rfl ?_
        refine P_callVp dX9_change_63 lkX9_147 okX6_isLawful ⟨Nat.le_of_ble_eq_true rfl, Nat.le_of_ble_eq_true rfl⟩ (t_isLawful l y2 hj) rfl rfl y2.at (Nat.le_of_ble_eq_true rfl) ⟨Nat.le_of_ble_eq_true rfl, Nat.le_of_ble_eq_true rfl⟩ ?_
        have hlw : lawR (rvW (gR σ) j kk0 xx0) j = lawP (nI (rD (gR σ))) kk0 xx0 := by show lawP _ _ _ = _; rw [show rF (rvW (gR σ) j kk0 xx0) j 1 = kk0 from (up2_ne (by omega)).trans (up2_eq ⟨rfl, rfl⟩), show rF (rvW (gR σ) j kk0 xx0) j 2 = xx0 from up2_eq ⟨rfl, rfl⟩]; rfl
        refine P_if_eq (tgt := 73) dX9_change_66 (by decide) (fun c66 => ?_) (fun c66 => ?_)
        · have hl := (b2p _).mp c66
          rw [hlw] at hl
          refine P_iconst dX9_change_73 ci_0 ?_
          exact P_iret dX9_change_74 rfl ⟨Nat.le_refl _, Nat.le_refl _⟩ ⟨by rw [hs]; first | rw [if_pos hl] | rw [if_neg hl], by rw [hs]; exact kb, (hFa.wide (by omega) (by omega)).tr (hFb.wide (by omega) (by omega))⟩
        · have hl := b2y c66
          rw [hlw] at hl
          refine P_iconst dX9_change_69 ci_1 ?_
          refine P_goto (tgt := 74) dX9_change_70 (by decide) ?_
          exact P_iret dX9_change_74 rfl ⟨Nat.le_refl _, Nat.le_refl _⟩ ⟨by rw [hs]; first | rw [if_pos hl] | rw [if_neg hl], by rw [hs]; exact kb, (hFa.wide (by omega) (by omega)).tr (hFb.wide (by omega) (by omega))⟩
      · have hs : spChange σ (nI j) kk0 xx0 = (OUTS, σ) := by unfold spChange; rw [if_pos ej, if_pos (Or.inr (b2y c31))]
        refine P_ldc dX9_change_34 kcX9_76 ?_
        exact P_iret dX9_change_36 rfl ⟨Nat.le_refl _, Nat.le_refl _⟩ ⟨by rw [hs], by rw [hs]; exact k, Fr.rf⟩
  · have e := (b2p _).mp c8
    have hs : spChange σ r0 kk0 xx0 = (UNK, σ) := by unfold spChange; rw [if_neg e]
    refine P_ldc dX9_change_11 kcX9_142 ?_
    exact P_iret dX9_change_13 rfl ⟨Nat.le_refl _, Nat.le_refl _⟩ ⟨by rw [hs], by rw [hs]; exact k, Fr.rf⟩
set_option maxHeartbeats 4000000 in
set_option maxRecDepth 100000 in
theorem c_side (l : Launch) {G : PH} {σ : Sg} {r0 t0 v0 : Int32} (k : Cls G σ) (hv : sVal σ) : Tri l mX9_side 0 0 [.ref 0, .int r0, .int t0, .int v0] G (fun a9 G' => a9 = some (.int (spSide σ r0 t0 v0).1) ∧ Cls G' (spSide σ r0 t0 v0).2 ∧ Fr G G' 0 164) := by
  obtain ⟨k0, k1, ⟨r2, k2⟩, ⟨qT, qD, fi, fo, fs, fl, fh, k3⟩, ⟨a1, a2, a3, k4⟩, ⟨b1, b2, b3, b4, b5, k5⟩, k6, k7, k8, ⟨fI, k9, e0, e1⟩, k10, k11⟩ := id k
  have hb := hv.1.1; have hvr := hv.1.2; have hN : rN (gR σ) ≤ 6 := hb.2.2.2.2; have hT : rT (gR σ) ≤ 24 := hb.2.1; have hT2 : 2 ≤ rT (gR σ) := hb.1
  refine Tri.intro (L := [_, _, _, _, _]) okX9_side.1 (Nat.le_of_ble_eq_true rfl) rfl ?_
  refine P_aload_n dX9_side_0 rfl ?_
  refine P_get dX9_side_1 flX9_10 k0 rfl ?_
  refine P_iload_n dX9_side_4 rfl ?_
  refine P_callVp dX9_side_5 lkX9_138 okX6_hasReach ⟨Nat.le_of_ble_eq_true rfl, Nat.le_of_ble_eq_true rfl⟩ (t_hasReach l k1) rfl rfl k1.at (Nat.le_of_ble_eq_true rfl) ⟨Nat.le_of_ble_eq_true rfl, Nat.le_of_ble_eq_true rfl⟩ ?_
  refine P_if_eq (tgt := 22) dX9_side_8 (by decide) (fun c8 => ?_) (fun c8 => ?_)
  · have e := (b2p _).mp c8
    have hs : spSide σ r0 t0 v0 = (UNK, σ) := by unfold spSide; rw [if_neg (fun z => e z.1)]
    refine P_ldc dX9_side_22 kcX9_142 ?_
    exact P_iret dX9_side_24 rfl ⟨Nat.le_refl _, Nat.le_refl _⟩ ⟨by rw [hs], by rw [hs]; exact k, Fr.rf⟩
  · obtain ⟨j, hj, rfl⟩ := inN_of (b2y c8) (by omega)
    refine P_aload_n dX9_side_11 rfl ?_
    refine P_get dX9_side_12 flX9_10 k0 rfl ?_
    refine P_iload_n dX9_side_15 rfl ?_
    refine P_callVp dX9_side_16 lkX9_198 okX6_hasTime ⟨Nat.le_of_ble_eq_true rfl, Nat.le_of_ble_eq_true rfl⟩ (t_hasTime l k1) rfl rfl k1.at (Nat.le_of_ble_eq_true rfl) ⟨Nat.le_of_ble_eq_true rfl, Nat.le_of_ble_eq_true rfl⟩ ?_
    refine P_if_ne (tgt := 25) dX9_side_19 (by decide) (fun c19 => ?_) (fun c19 => ?_)
    · obtain ⟨i, hi, rfl⟩ := inN_of (b2y c19) (by omega)
      have ej : inN (nI j) (rN (gR σ)) ∧ inN (nI i) (rT (gR σ)) := ⟨inN_nI hj (by omega), inN_nI hi (by omega)⟩
      refine P_iload_n dX9_side_25 rfl ?_
      refine P_iconst dX9_side_26 ci_0 ?_
      refine P_sipush dX9_side_27 sp_9999 ?_
      refine P_callSp dX9_side_30 lkX9_72 okX9_outOf ⟨Nat.le_of_ble_eq_true rfl, Nat.le_of_ble_eq_true rfl⟩ (t_outOf l) rfl rfl (Nat.le_of_ble_eq_true rfl) ⟨Nat.le_of_ble_eq_true rfl, Nat.le_of_ble_eq_true rfl⟩ ?_
      refine P_if_eq (tgt := 39) dX9_side_33 (by decide) (fun c33 => ?_) (fun c33 => ?_)
      · have hs : spSide σ (nI j) (nI i) v0 = (rS (gR σ) j i, deed σ (rvS (gR σ) j i v0)) := by unfold spSide; rw [if_pos ej, if_neg ((b2p _).mp c33), nI_clamp (by omega), nI_clamp (by omega)]
        refine P_aload_n dX9_side_39 rfl ?_
        refine P_get dX9_side_40 flX9_50 k0 rfl ?_
        refine P_aload_n dX9_side_43 rfl ?_
        refine P_get dX9_side_44 flX9_10 k0 rfl ?_
        refine P_callV dX9_side_47 lkX9_100 okX5_remember ⟨Nat.le_of_ble_eq_true rfl, Nat.le_of_ble_eq_true rfl⟩ (t_remember l k7 k1 (by omega)) rfl rfl k7.at.choose_spec (Nat.le_of_ble_eq_true rfl) ⟨Nat.le_of_ble_eq_true rfl, Nat.le_of_ble_eq_true rfl⟩ (fun v47 G47 q47 => ?_)
        obtain ⟨rfl, y1, hFa⟩ := q47
        have ka := k.past hFa y1; have k0 := hFa.at k0 (by omega); have k1 := k1.fr hFa (by omega); have k3 := k3.fr hFa (by omega); have k8 := hFa.at k8 (by omega)
        refine P_aload_n dX9_side_50 rfl ?_
        refine P_get dX9_side_51 flX9_10 k0 rfl ?_
        refine P_iload_n dX9_side_54 rfl ?_
        refine P_iload_n dX9_side_55 rfl ?_
        refine P_callVp dX9_side_56 lkX9_203 okX6_sideAt ⟨Nat.le_of_ble_eq_true rfl, Nat.le_of_ble_eq_true rfl⟩ (t_sideAt l k1 hj (by omega)) rfl rfl k1.at (Nat.le_of_ble_eq_true rfl) ⟨Nat.le_of_ble_eq_true rfl, Nat.le_of_ble_eq_true rfl⟩ ?_
        refine P_istore (L' := [_, _, _, _, _]) dX9_side_59 (Nat.le_of_ble_eq_true rfl) rfl ?_
        refine P_aload_n dX9_side_61 rfl ?_
        refine P_get dX9_side_62 flX9_10 k0 rfl ?_
        refine P_iload_n dX9_side_65 rfl ?_
        refine P_iload_n dX9_side_66 rfl ?_
        refine P_iload_n dX9_side_67 rfl ?_
        refine P_callV dX9_side_68 lkX9_273 okX6_setSide ⟨Nat.le_of_ble_eq_true rfl, Nat.le_of_ble_eq_true rfl⟩ (t_setSide l k1 hj (by omega)) rfl rfl k1.at (Nat.le_of_ble_eq_true rfl) ⟨Nat.le_of_ble_eq_true rfl, Nat.le_of_ble_eq_true rfl⟩ (fun v68 G68 q68 => ?_)
        obtain ⟨rfl, y2, hFb⟩ := q68
        have kb := ka.now hFb y2; have k0 := hFb.at k0 (by omega)
        refine P_iload dX9_side_71 rfl ?_
        exact P_iret dX9_side_73 rfl ⟨Nat.le_refl _, Nat.le_refl _⟩ ⟨by rw [hs], by rw [hs]; exact kb, (hFa.wide (by omega) (by omega)).tr (hFb.wide (by omega) (by omega))⟩
      · have hs : spSide σ (nI j) (nI i) v0 = (OUTS, σ) := by unfold spSide; rw [if_pos ej, if_pos (b2y c33)]
        refine P_ldc dX9_side_36 kcX9_76 ?_
        exact P_iret dX9_side_38 rfl ⟨Nat.le_refl _, Nat.le_refl _⟩ ⟨by rw [hs], by rw [hs]; exact k, Fr.rf⟩
    · have e := (b2p _).mp c19
      have hs : spSide σ (nI j) t0 v0 = (UNK, σ) := by unfold spSide; rw [if_neg (fun z => e z.2)]
      refine P_ldc dX9_side_22 kcX9_142 ?_
      exact P_iret dX9_side_24 rfl ⟨Nat.le_refl _, Nat.le_refl _⟩ ⟨by rw [hs], by rw [hs]; exact k, Fr.rf⟩
set_option maxHeartbeats 4000000 in
set_option maxRecDepth 100000 in
theorem c_seen (l : Launch) {G : PH} {σ : Sg} {r0 t0 v0 : Int32} (k : Cls G σ) (hv : sVal σ) : Tri l mX9_seen 0 0 [.ref 0, .int r0, .int t0, .int v0] G (fun a9 G' => a9 = some (.int (spSeen σ r0 t0 v0).1) ∧ Cls G' (spSeen σ r0 t0 v0).2 ∧ Fr G G' 0 164) := by
  obtain ⟨k0, k1, ⟨r2, k2⟩, ⟨qT, qD, fi, fo, fs, fl, fh, k3⟩, ⟨a1, a2, a3, k4⟩, ⟨b1, b2, b3, b4, b5, k5⟩, k6, k7, k8, ⟨fI, k9, e0, e1⟩, k10, k11⟩ := id k
  have hb := hv.1.1; have hvr := hv.1.2; have hN : rN (gR σ) ≤ 6 := hb.2.2.2.2; have hT : rT (gR σ) ≤ 24 := hb.2.1; have hT2 : 2 ≤ rT (gR σ) := hb.1
  refine Tri.intro (L := [_, _, _, _, _]) okX9_seen.1 (Nat.le_of_ble_eq_true rfl) rfl ?_
  refine P_aload_n dX9_seen_0 rfl ?_
  refine P_get dX9_seen_1 flX9_10 k0 rfl ?_
  refine P_iload_n dX9_seen_4 rfl ?_
  refine P_callVp dX9_seen_5 lkX9_138 okX6_hasReach ⟨Nat.le_of_ble_eq_true rfl, Nat.le_of_ble_eq_true rfl⟩ (t_hasReach l k1) rfl rfl k1.at (Nat.le_of_ble_eq_true rfl) ⟨Nat.le_of_ble_eq_true rfl, Nat.le_of_ble_eq_true rfl⟩ ?_
  refine P_if_eq (tgt := 22) dX9_seen_8 (by decide) (fun c8 => ?_) (fun c8 => ?_)
  · have e := (b2p _).mp c8
    have hs : spSeen σ r0 t0 v0 = (UNK, σ) := by unfold spSeen; rw [if_neg (fun z => e z.1)]
    refine P_ldc dX9_seen_22 kcX9_142 ?_
    exact P_iret dX9_seen_24 rfl ⟨Nat.le_refl _, Nat.le_refl _⟩ ⟨by rw [hs], by rw [hs]; exact k, Fr.rf⟩
  · obtain ⟨j, hj, rfl⟩ := inN_of (b2y c8) (by omega)
    refine P_aload_n dX9_seen_11 rfl ?_
    refine P_get dX9_seen_12 flX9_10 k0 rfl ?_
    refine P_iload_n dX9_seen_15 rfl ?_
    refine P_callVp dX9_seen_16 lkX9_198 okX6_hasTime ⟨Nat.le_of_ble_eq_true rfl, Nat.le_of_ble_eq_true rfl⟩ (t_hasTime l k1) rfl rfl k1.at (Nat.le_of_ble_eq_true rfl) ⟨Nat.le_of_ble_eq_true rfl, Nat.le_of_ble_eq_true rfl⟩ ?_
    refine P_if_ne (tgt := 25) dX9_seen_19 (by decide) (fun c19 => ?_) (fun c19 => ?_)
    · obtain ⟨i, hi, rfl⟩ := inN_of (b2y c19) (by omega)
      have ej : inN (nI j) (rN (gR σ)) ∧ inN (nI i) (rT (gR σ)) := ⟨inN_nI hj (by omega), inN_nI hi (by omega)⟩
      refine P_iload_n dX9_seen_25 rfl ?_
      refine P_iconst dX9_seen_26 ci_0 ?_
      refine P_sipush dX9_seen_27 sp_9999 ?_
      refine P_callSp dX9_seen_30 lkX9_72 okX9_outOf ⟨Nat.le_of_ble_eq_true rfl, Nat.le_of_ble_eq_true rfl⟩ (t_outOf l) rfl rfl (Nat.le_of_ble_eq_true rfl) ⟨Nat.le_of_ble_eq_true rfl, Nat.le_of_ble_eq_true rfl⟩ ?_
      refine P_if_eq (tgt := 39) dX9_seen_33 (by decide) (fun c33 => ?_) (fun c33 => ?_)
      · have hs : spSeen σ (nI j) (nI i) v0 = (rE (gR σ) j i, deed σ (rvE (gR σ) j i v0)) := by unfold spSeen; rw [if_pos ej, if_neg ((b2p _).mp c33), nI_clamp (by omega), nI_clamp (by omega)]
        refine P_aload_n dX9_seen_39 rfl ?_
        refine P_get dX9_seen_40 flX9_50 k0 rfl ?_
        refine P_aload_n dX9_seen_43 rfl ?_
        refine P_get dX9_seen_44 flX9_10 k0 rfl ?_
        refine P_callV dX9_seen_47 lkX9_100 okX5_remember ⟨Nat.le_of_ble_eq_true rfl, Nat.le_of_ble_eq_true rfl⟩ (t_remember l k7 k1 (by omega)) rfl rfl k7.at.choose_spec (Nat.le_of_ble_eq_true rfl) ⟨Nat.le_of_ble_eq_true rfl, Nat.le_of_ble_eq_true rfl⟩ (fun v47 G47 q47 => ?_)
        obtain ⟨rfl, y1, hFa⟩ := q47
        have ka := k.past hFa y1; have k0 := hFa.at k0 (by omega); have k1 := k1.fr hFa (by omega); have k3 := k3.fr hFa (by omega); have k8 := hFa.at k8 (by omega)
        refine P_aload_n dX9_seen_50 rfl ?_
        refine P_get dX9_seen_51 flX9_10 k0 rfl ?_
        refine P_iload_n dX9_seen_54 rfl ?_
        refine P_iload_n dX9_seen_55 rfl ?_
        refine P_callVp dX9_seen_56 lkX9_206 okX6_seenAt ⟨Nat.le_of_ble_eq_true rfl, Nat.le_of_ble_eq_true rfl⟩ (t_seenAt l k1 hj (by omega)) rfl rfl k1.at (Nat.le_of_ble_eq_true rfl) ⟨Nat.le_of_ble_eq_true rfl, Nat.le_of_ble_eq_true rfl⟩ ?_
        refine P_istore (L' := [_, _, _, _, _]) dX9_seen_59 (Nat.le_of_ble_eq_true rfl) rfl ?_
        refine P_aload_n dX9_seen_61 rfl ?_
        refine P_get dX9_seen_62 flX9_10 k0 rfl ?_
        refine P_iload_n dX9_seen_65 rfl ?_
        refine P_iload_n dX9_seen_66 rfl ?_
        refine P_iload_n dX9_seen_67 rfl ?_
        refine P_callV dX9_seen_68 lkX9_276 okX6_setSeen ⟨Nat.le_of_ble_eq_true rfl, Nat.le_of_ble_eq_true rfl⟩ (t_setSeen l k1 hj (by omega)) rfl rfl k1.at (Nat.le_of_ble_eq_true rfl) ⟨Nat.le_of_ble_eq_true rfl, Nat.le_of_ble_eq_true rfl⟩ (fun v68 G68 q68 => ?_)
        obtain ⟨rfl, y2, hFb⟩ := q68
        have kb := ka.now hFb y2; have k0 := hFb.at k0 (by omega)
        refine P_iload dX9_seen_71 rfl ?_
        exact P_iret dX9_seen_73 rfl ⟨Nat.le_refl _, Nat.le_refl _⟩ ⟨by rw [hs], by rw [hs]; exact kb, (hFa.wide (by omega) (by omega)).tr (hFb.wide (by omega) (by omega))⟩
      · have hs : spSeen σ (nI j) (nI i) v0 = (OUTS, σ) := by unfold spSeen; rw [if_pos ej, if_pos (b2y c33)]
        refine P_ldc dX9_seen_36 kcX9_76 ?_
        exact P_iret dX9_seen_38 rfl ⟨Nat.le_refl _, Nat.le_refl _⟩ ⟨by rw [hs], by rw [hs]; exact k, Fr.rf⟩
    · have e := (b2p _).mp c19
      have hs : spSeen σ (nI j) t0 v0 = (UNK, σ) := by unfold spSeen; rw [if_neg (fun z => e z.2)]
      refine P_ldc dX9_seen_22 kcX9_142 ?_
      exact P_iret dX9_seen_24 rfl ⟨Nat.le_refl _, Nat.le_refl _⟩ ⟨by rw [hs], by rw [hs]; exact k, Fr.rf⟩
set_option maxHeartbeats 4000000 in
set_option maxRecDepth 100000 in
theorem c_take (l : Launch) {G : PH} {σ : Sg} (k : Cls G σ) (hv : sVal σ) : Tri l mX9_take 0 0 [.ref 0] G (fun a9 G' => a9 = some (.int (spTake σ).1) ∧ Cls G' (spTake σ).2 ∧ Fr G G' 0 164) := by
  obtain ⟨k0, k1, ⟨r2, k2⟩, ⟨qT, qD, fi, fo, fs, fl, fh, k3⟩, ⟨a1, a2, a3, k4⟩, ⟨b1, b2, b3, b4, b5, k5⟩, k6, k7, k8, ⟨fI, k9, e0, e1⟩, k10, k11⟩ := id k
  have hb := hv.1.1; have hvr := hv.1.2; have hN : rN (gR σ) ≤ 6 := hb.2.2.2.2; have hT : rT (gR σ) ≤ 24 := hb.2.1; have hT2 : 2 ≤ rT (gR σ) := hb.1
  refine Tri.intro (L := [_]) okX9_take.1 (Nat.le_of_ble_eq_true rfl) rfl ?_
  refine P_aload_n dX9_take_0 rfl ?_
  refine P_get dX9_take_1 flX9_10 k0 rfl ?_
  refine P_callVp dX9_take_4 lkX9_107 okX6_reachCount ⟨Nat.le_of_ble_eq_true rfl, Nat.le_of_ble_eq_true rfl⟩ (t_reachCount l k1) rfl rfl k1.at (Nat.le_of_ble_eq_true rfl) ⟨Nat.le_of_ble_eq_true rfl, Nat.le_of_ble_eq_true rfl⟩ ?_
  refine P_if_ne (tgt := 14) dX9_take_7 (by decide) (fun c7 => ?_) (fun c7 => ?_)
  · have h0 : 0 < rN (gR σ) := Nat.pos_of_ne_zero fun z => c7 (by rw [z]; rfl)
    have hs : spTake σ = (nI (rN (gR σ) - 1), deed σ (rvN (gR σ) (rN (gR σ) - 1))) := by unfold spTake; rw [if_neg (Nat.pos_iff_ne_zero.mp h0)]
    refine P_aload_n dX9_take_14 rfl ?_
    refine P_get dX9_take_15 flX9_50 k0 rfl ?_
    refine P_aload_n dX9_take_18 rfl ?_
    refine P_get dX9_take_19 flX9_10 k0 rfl ?_
    refine P_callV dX9_take_22 lkX9_100 okX5_remember ⟨Nat.le_of_ble_eq_true rfl, Nat.le_of_ble_eq_true rfl⟩ (t_remember l k7 k1 (by omega)) rfl rfl k7.at.choose_spec (Nat.le_of_ble_eq_true rfl) ⟨Nat.le_of_ble_eq_true rfl, Nat.le_of_ble_eq_true rfl⟩ (fun v22 G22 q22 => ?_)
    obtain ⟨rfl, y1, hFa⟩ := q22
    have ka := k.past hFa y1; have k0 := hFa.at k0 (by omega); have k1 := k1.fr hFa (by omega); have k3 := k3.fr hFa (by omega); have k8 := hFa.at k8 (by omega)
    refine P_aload_n dX9_take_25 rfl ?_
    refine P_get dX9_take_26 flX9_10 k0 rfl ?_
    refine P_callV dX9_take_29 lkX9_291 okX6_dropReach ⟨Nat.le_of_ble_eq_true rfl, Nat.le_of_ble_eq_true rfl⟩ (t_dropR l k1 h0) rfl rfl k1.at (Nat.le_of_ble_eq_true rfl) ⟨Nat.le_of_ble_eq_true rfl, Nat.le_of_ble_eq_true rfl⟩ (fun v29 G29 q29 => ?_)
    obtain ⟨rfl, y2, hFb⟩ := q29
    have kb := ka.now hFb y2; have k0 := hFb.at k0 (by omega)
    refine P_aload_n dX9_take_32 rfl ?_
    refine P_get dX9_take_33 flX9_10 k0 rfl ?_
    refine P_callVp dX9_take_36 lkX9_107 okX6_reachCount ⟨Nat.le_of_ble_eq_true rfl, Nat.le_of_ble_eq_true rfl⟩ (t_reachCount l y2) rfl rfl y2.at (Nat.le_of_ble_eq_true rfl) ⟨Nat.le_of_ble_eq_true rfl, Nat.le_of_ble_eq_true rfl⟩ ?_
    exact P_iret dX9_take_39 rfl ⟨Nat.le_refl _, Nat.le_refl _⟩ ⟨by rw [hs]; rfl, by rw [hs]; exact kb, (hFa.wide (by omega) (by omega)).tr (hFb.wide (by omega) (by omega))⟩
  · have h0 : rN (gR σ) = 0 := Classical.byContradiction fun z => nI_ne0 (Nat.pos_of_ne_zero z) (by omega) c7
    have hs : spTake σ = (NOTT, σ) := by unfold spTake; rw [if_pos h0]
    refine P_ldcw dX9_take_10 kcX9_290 ?_
    exact P_iret dX9_take_13 rfl ⟨Nat.le_refl _, Nat.le_refl _⟩ ⟨by rw [hs], by rw [hs]; exact k, Fr.rf⟩
set_option maxHeartbeats 4000000 in
set_option maxRecDepth 100000 in
theorem c_write (l : Launch) {G : PH} {σ : Sg} {r0 t0 : Int32} {v0 : Int64} (k : Cls G σ) (hv : sVal σ) : Tri l mX9_write 0 0 [.ref 0, .int r0, .int t0, .long v0] G (fun a9 G' => a9 = some (.int (spWrite σ r0 t0 v0).1) ∧ Cls G' (spWrite σ r0 t0 v0).2 ∧ Fr G G' 0 164) := by
  obtain ⟨k0, k1, ⟨r2, k2⟩, ⟨qT, qD, fi, fo, fs, fl, fh, k3⟩, ⟨a1, a2, a3, k4⟩, ⟨b1, b2, b3, b4, b5, k5⟩, k6, k7, k8, ⟨fI, k9, e0, e1⟩, k10, k11⟩ := id k
  have hb := hv.1.1; have hvr := hv.1.2; have hN : rN (gR σ) ≤ 6 := hb.2.2.2.2; have hT : rT (gR σ) ≤ 24 := hb.2.1; have hT2 : 2 ≤ rT (gR σ) := hb.1
  refine Tri.intro (L := [_, _, _, _, _]) okX9_write.1 (Nat.le_of_ble_eq_true rfl) rfl ?_
  refine P_aload_n dX9_write_0 rfl ?_
  refine P_get dX9_write_1 flX9_10 k0 rfl ?_
  refine P_iload_n dX9_write_4 rfl ?_
  refine P_callVp dX9_write_5 lkX9_138 okX6_hasReach ⟨Nat.le_of_ble_eq_true rfl, Nat.le_of_ble_eq_true rfl⟩ (t_hasReach l k1) rfl rfl k1.at (Nat.le_of_ble_eq_true rfl) ⟨Nat.le_of_ble_eq_true rfl, Nat.le_of_ble_eq_true rfl⟩ ?_
  refine P_if_eq (tgt := 22) dX9_write_8 (by decide) (fun c8 => ?_) (fun c8 => ?_)
  · have e := (b2p _).mp c8
    have hs : spWrite σ r0 t0 v0 = (UNK, σ) := by unfold spWrite; rw [if_neg (fun z => e z.1)]
    refine P_ldc dX9_write_22 kcX9_142 ?_
    exact P_iret dX9_write_24 rfl ⟨Nat.le_refl _, Nat.le_refl _⟩ ⟨by rw [hs], by rw [hs]; exact k, Fr.rf⟩
  · obtain ⟨j, hj, rfl⟩ := inN_of (b2y c8) (by omega)
    refine P_aload_n dX9_write_11 rfl ?_
    refine P_get dX9_write_12 flX9_10 k0 rfl ?_
    refine P_iload_n dX9_write_15 rfl ?_
    refine P_callVp dX9_write_16 lkX9_198 okX6_hasTime ⟨Nat.le_of_ble_eq_true rfl, Nat.le_of_ble_eq_true rfl⟩ (t_hasTime l k1) rfl rfl k1.at (Nat.le_of_ble_eq_true rfl) ⟨Nat.le_of_ble_eq_true rfl, Nat.le_of_ble_eq_true rfl⟩ ?_
    refine P_if_ne (tgt := 25) dX9_write_19 (by decide) (fun c19 => ?_) (fun c19 => ?_)
    · obtain ⟨i, hi, rfl⟩ := inN_of (b2y c19) (by omega)
      have ej : inN (nI j) (rN (gR σ)) ∧ inN (nI i) (rT (gR σ)) := ⟨inN_nI hj (by omega), inN_nI hi (by omega)⟩
      refine P_aload_n dX9_write_25 rfl ?_
      refine P_get dX9_write_26 flX9_43 k0 rfl ?_
      refine P_callVp dX9_write_29 lkX9_301 okX0_isFull ⟨Nat.le_of_ble_eq_true rfl, Nat.le_of_ble_eq_true rfl⟩ (t_bookFull l k6) rfl rfl k6.2.1 (Nat.le_of_ble_eq_true rfl) ⟨Nat.le_of_ble_eq_true rfl, Nat.le_of_ble_eq_true rfl⟩ ?_
      refine P_if_eq (tgt := 38) dX9_write_32 (by decide) (fun c32 => ?_) (fun c32 => ?_)
      · have hc := b2z c32
        have hs : spWrite σ (nI j) (nI i) v0 = (nI (gC σ + 1), sgB σ (gC σ + 1) (bkA (gB σ) (gC σ) j i v0)) := by unfold spWrite; rw [if_pos ej, if_pos hc, nI_clamp (by omega), nI_clamp (by omega)]
        refine P_aload_n dX9_write_38 rfl ?_
        refine P_get dX9_write_39 flX9_43 k0 rfl ?_
        refine P_iload_n dX9_write_42 rfl ?_
        refine P_iload_n dX9_write_43 rfl ?_
        refine P_lload_n dX9_write_44 rfl ?_
        refine P_callV dX9_write_45 lkX9_302 okX0_add ⟨Nat.le_of_ble_eq_true rfl, Nat.le_of_ble_eq_true rfl⟩ (t_bookAdd l k6 hc (by omega) (by omega)) rfl rfl k6.2.1 (Nat.le_of_ble_eq_true rfl) ⟨Nat.le_of_ble_eq_true rfl, Nat.le_of_ble_eq_true rfl⟩ (fun v45 G45 q45 => ?_)
        obtain ⟨rfl, y1, hFa⟩ := q45
        have ka := k.book hFa y1; have k0 := hFa.at k0 (by omega)
        refine P_aload_n dX9_write_48 rfl ?_
        refine P_get dX9_write_49 flX9_43 k0 rfl ?_
        refine P_callVp dX9_write_52 lkX9_122 okX0_entryCount ⟨Nat.le_of_ble_eq_true rfl, Nat.le_of_ble_eq_true rfl⟩ (t_entryCount l y1) rfl rfl y1.2.1 (Nat.le_of_ble_eq_true rfl) ⟨Nat.le_of_ble_eq_true rfl, Nat.le_of_ble_eq_true rfl⟩ ?_
        exact P_iret dX9_write_55 rfl ⟨Nat.le_refl _, Nat.le_refl _⟩ ⟨by rw [hs], by rw [hs]; exact ka, hFa.wide (by omega) (by omega)⟩
      · have hs : spWrite σ (nI j) (nI i) v0 = (FUL, σ) := by unfold spWrite; rw [if_pos ej, if_neg (b2w c32)]
        refine P_ldc dX9_write_35 kcX9_81 ?_
        exact P_iret dX9_write_37 rfl ⟨Nat.le_refl _, Nat.le_refl _⟩ ⟨by rw [hs], by rw [hs]; exact k, Fr.rf⟩
    · have e := (b2p _).mp c19
      have hs : spWrite σ (nI j) t0 v0 = (UNK, σ) := by unfold spWrite; rw [if_neg (fun z => e z.2)]
      refine P_ldc dX9_write_22 kcX9_142 ?_
      exact P_iret dX9_write_24 rfl ⟨Nat.le_refl _, Nat.le_refl _⟩ ⟨by rw [hs], by rw [hs]; exact k, Fr.rf⟩
set_option maxHeartbeats 4000000 in
set_option maxRecDepth 100000 in
theorem c_tear (l : Launch) {G : PH} {σ : Sg} (k : Cls G σ) (hv : sVal σ) : Tri l mX9_tear 0 0 [.ref 0] G (fun a9 G' => a9 = some (.int (spTear σ).1) ∧ Cls G' (spTear σ).2 ∧ Fr G G' 0 164) := by
  obtain ⟨k0, k1, ⟨r2, k2⟩, ⟨qT, qD, fi, fo, fs, fl, fh, k3⟩, ⟨a1, a2, a3, k4⟩, ⟨b1, b2, b3, b4, b5, k5⟩, k6, k7, k8, ⟨fI, k9, e0, e1⟩, k10, k11⟩ := id k
  have hb := hv.1.1; have hvr := hv.1.2; have hN : rN (gR σ) ≤ 6 := hb.2.2.2.2; have hT : rT (gR σ) ≤ 24 := hb.2.1; have hT2 : 2 ≤ rT (gR σ) := hb.1
  refine Tri.intro (L := [_, _]) okX9_tear.1 (Nat.le_of_ble_eq_true rfl) rfl ?_
  refine P_aload_n dX9_tear_0 rfl ?_
  refine P_get dX9_tear_1 flX9_43 k0 rfl ?_
  refine P_callVp dX9_tear_4 lkX9_122 okX0_entryCount ⟨Nat.le_of_ble_eq_true rfl, Nat.le_of_ble_eq_true rfl⟩ (t_entryCount l k6) rfl rfl k6.2.1 (Nat.le_of_ble_eq_true rfl) ⟨Nat.le_of_ble_eq_true rfl, Nat.le_of_ble_eq_true rfl⟩ ?_
  refine P_istore_n (L' := [_, _]) dX9_tear_7 (Nat.le_of_ble_eq_true rfl) rfl ?_
  refine P_aload_n dX9_tear_8 rfl ?_
  refine P_get dX9_tear_9 flX9_43 k0 rfl ?_
  refine P_callV dX9_tear_12 lkX9_306 okX0_clear ⟨Nat.le_of_ble_eq_true rfl, Nat.le_of_ble_eq_true rfl⟩ (t_bookClear l k6) rfl rfl k6.2.1 (Nat.le_of_ble_eq_true rfl) ⟨Nat.le_of_ble_eq_true rfl, Nat.le_of_ble_eq_true rfl⟩ (fun v12 G12 q12 => ?_)
  obtain ⟨rfl, y1, hFa⟩ := q12
  refine P_iload_n dX9_tear_15 rfl ?_
  exact P_iret dX9_tear_16 rfl ⟨Nat.le_refl _, Nat.le_refl _⟩ ⟨rfl, k.book (hFa.wide (by omega) (by omega)) y1, hFa.wide (by omega) (by omega)⟩
set_option maxHeartbeats 4000000 in
set_option maxRecDepth 100000 in
theorem c_seed (l : Launch) {G : PH} {σ : Sg} {v0 : Int32} (k : Cls G σ) (hv : sVal σ) : Tri l mX9_seed 0 0 [.ref 0, .int v0] G (fun a9 G' => a9 = some (.int (spSeed σ v0).1) ∧ Cls G' (spSeed σ v0).2 ∧ Fr G G' 0 164) := by
  obtain ⟨k0, k1, ⟨r2, k2⟩, ⟨qT, qD, fi, fo, fs, fl, fh, k3⟩, ⟨a1, a2, a3, k4⟩, ⟨b1, b2, b3, b4, b5, k5⟩, k6, k7, k8, ⟨fI, k9, e0, e1⟩, k10, k11⟩ := id k
  have hb := hv.1.1; have hvr := hv.1.2; have hN : rN (gR σ) ≤ 6 := hb.2.2.2.2; have hT : rT (gR σ) ≤ 24 := hb.2.1; have hT2 : 2 ≤ rT (gR σ) := hb.1
  refine Tri.intro (L := [_, _, _]) okX9_seed.1 (Nat.le_of_ble_eq_true rfl) rfl ?_
  refine P_iload_n dX9_seed_0 rfl ?_
  refine P_if_ge (tgt := 7) dX9_seed_1 (by decide) (fun c1 => ?_) (fun c1 => ?_)
  · have e : ¬ v0 < 0 := Int32.not_lt.mpr c1
    obtain ⟨n9, hn9, rfl⟩ := nI_of e
    have hs : spSeed σ (nI n9) = (nI (gS σ), sgS σ n9) := by unfold spSeed; rw [if_neg e, nI_clamp (by omega)]
    refine P_aload_n dX9_seed_7 rfl ?_
    refine P_get dX9_seed_8 flX9_57 k0 rfl ?_
    refine P_callVp dX9_seed_11 lkX9_135 okX2_value ⟨Nat.le_of_ble_eq_true rfl, Nat.le_of_ble_eq_true rfl⟩ (t_value l k8) rfl rfl k8 (Nat.le_of_ble_eq_true rfl) ⟨Nat.le_of_ble_eq_true rfl, Nat.le_of_ble_eq_true rfl⟩ ?_
    refine P_istore_n (L' := [_, _, _]) dX9_seed_14 (Nat.le_of_ble_eq_true rfl) rfl ?_
    refine P_aload_n dX9_seed_15 rfl ?_
    refine P_get dX9_seed_16 flX9_57 k0 rfl ?_
    refine P_iload_n dX9_seed_19 rfl ?_
    refine P_callV dX9_seed_20 lkX9_307 okX2_setValue ⟨Nat.le_of_ble_eq_true rfl, Nat.le_of_ble_eq_true rfl⟩ (t_setValue l k8) rfl rfl k8 (Nat.le_of_ble_eq_true rfl) ⟨Nat.le_of_ble_eq_true rfl, Nat.le_of_ble_eq_true rfl⟩ (fun v20 G20 q20 => ?_)
    obtain ⟨rfl, y1, hFa⟩ := q20
    refine P_iload_n dX9_seed_23 rfl ?_
    exact P_iret dX9_seed_24 rfl ⟨Nat.le_refl _, Nat.le_refl _⟩ ⟨by rw [hs], by rw [hs]; exact k.draw hFa y1, hFa.wide (by omega) (by omega)⟩
  · have hs : spSeed σ v0 = (OUTS, σ) := by unfold spSeed; rw [if_pos (Int32.not_le.mp c1)]
    refine P_ldc dX9_seed_4 kcX9_76 ?_
    exact P_iret dX9_seed_6 rfl ⟨Nat.le_refl _, Nat.le_refl _⟩ ⟨by rw [hs], by rw [hs]; exact k, Fr.rf⟩
