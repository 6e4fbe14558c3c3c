set_option maxHeartbeats 4000000 in
set_option maxRecDepth 100000 in
theorem c_weight (l : Launch) {G : PH} {σ : Sg} {r0 wh : Int32} (k : Cls G σ) (hv : sVal σ) : Tri l mX9_weight 0 0 [.ref 0, .int r0, .int wh] G (fun a9 G' => a9 = some (.int (spWeight σ r0 wh)) ∧ Cls G' σ ∧ Fr G G' 0 164) := by
  obtain ⟨k0, k1, ⟨r2, k2⟩, ⟨qT, qD, fi, fo, fs, fl, fh, k3⟩, ⟨a1, a2, a3, k4⟩, ⟨b1, b2, b3, b4, b5, k5⟩, k6, k7, k8, ⟨fI, k9, e0, e1⟩, k10, k11⟩ := id k
  have hb := hv.1.1; have hvr := hv.1.2; have hN : rN (gR σ) ≤ 6 := hb.2.2.2.2; have hT : rT (gR σ) ≤ 24 := hb.2.1; have hT2 : 2 ≤ rT (gR σ) := hb.1
  refine Tri.intro (L := [_, _, _, _, _, _]) okX9_weight.1 (Nat.le_of_ble_eq_true rfl) rfl ?_
  refine P_aload_n dX9_weight_0 rfl ?_
  refine P_get dX9_weight_1 flX9_10 k0 rfl ?_
  refine P_iload_n dX9_weight_4 rfl ?_
  refine P_callVp dX9_weight_5 lkX9_138 okX6_hasReach ⟨Nat.le_of_ble_eq_true rfl, Nat.le_of_ble_eq_true rfl⟩ (t_hasReach l k1) rfl rfl k1.at (Nat.le_of_ble_eq_true rfl) ⟨Nat.le_of_ble_eq_true rfl, Nat.le_of_ble_eq_true rfl⟩ ?_
  refine P_if_ne (tgt := 14) dX9_weight_8 (by decide) (fun c8 => ?_) (fun c8 => ?_)
  · obtain ⟨j, hj, rfl⟩ := inN_of (b2y c8) (by omega)
    have hs0 : ∀ w, spWeight σ (nI j) w = spWgt (gR σ) j w := fun w => by unfold spWeight; rw [if_pos (inN_nI hj (by omega)), nI_clamp (by omega)]
    refine P_aload_n dX9_weight_14 rfl ?_
    refine P_get dX9_weight_15 flX9_10 k0 rfl ?_
    refine P_callVp dX9_weight_18 lkX9_113 okX6_timeStep ⟨Nat.le_of_ble_eq_true rfl, Nat.le_of_ble_eq_true rfl⟩ (t_timeStep l k1) rfl rfl k1.at (Nat.le_of_ble_eq_true rfl) ⟨Nat.le_of_ble_eq_true rfl, Nat.le_of_ble_eq_true rfl⟩ ?_
    refine P_istore_n (L' := [_, _, _, _, _, _]) dX9_weight_21 (Nat.le_of_ble_eq_true rfl) rfl ?_
    refine P_aload_n dX9_weight_22 rfl ?_
    refine P_get dX9_weight_23 flX9_10 k0 rfl ?_
    refine P_iload_n dX9_weight_26 rfl ?_
    refine P_iconst dX9_weight_27 ci_1 ?_
    refine P_callVp dX9_weight_28 lkX9_143 okX6_featureOf ⟨Nat.le_of_ble_eq_true rfl, Nat.le_of_ble_eq_true rfl⟩ (t_featureOf l 1 k1 hj (by decide)) rfl rfl k1.at (Nat.le_of_ble_eq_true rfl) ⟨Nat.le_of_ble_eq_true rfl, Nat.le_of_ble_eq_true rfl⟩ ?_
    refine P_istore (L' := [_, _, _, _, _, _]) dX9_weight_31 (Nat.le_of_ble_eq_true rfl) rfl ?_
    refine P_aload_n dX9_weight_33 rfl ?_
    refine P_get dX9_weight_34 flX9_10 k0 rfl ?_
    refine P_iload_n dX9_weight_37 rfl ?_
    refine P_iconst dX9_weight_38 ci_2 ?_
    refine P_callVp dX9_weight_39 lkX9_143 okX6_featureOf ⟨Nat.le_of_ble_eq_true rfl, Nat.le_of_ble_eq_true rfl⟩ (t_featureOf l 2 k1 hj (by decide)) rfl rfl k1.at (Nat.le_of_ble_eq_true rfl) ⟨Nat.le_of_ble_eq_true rfl, Nat.le_of_ble_eq_true rfl⟩ ?_
    refine P_istore (L' := [_, _, _, _, _, _]) dX9_weight_42 (Nat.le_of_ble_eq_true rfl) rfl ?_
    refine P_iload_n dX9_weight_44 rfl ?_
    by_cases w0 : wh = 0
    · subst w0
      refine P_tabIn (off := 31) (tgt := 76) dX9_weight_45 (by decide) (by decide) (by decide) (by decide) ?_
      have hs : spWeight σ (nI j) 0 = wA (nI (rD (gR σ))) (rF (gR σ) j 1) (rF (gR σ) j 2) + 1000 := (hs0 _).trans (by unfold spWgt; rw [if_pos rfl])
      refine P_iload_n dX9_weight_76 rfl ?_
      refine P_iload dX9_weight_77 rfl ?_
      refine P_iload dX9_weight_79 rfl ?_
      refine P_callSp dX9_weight_81 lkX9_185 okX6_weightA ⟨Nat.le_of_ble_eq_true rfl, Nat.le_of_ble_eq_true rfl⟩ (t_weightA l) rfl rfl (Nat.le_of_ble_eq_true rfl) ⟨Nat.le_of_ble_eq_true rfl, Nat.le_of_ble_eq_true rfl⟩ ?_
      refine P_sipush dX9_weight_84 sp_1000 ?_
      refine P_iadd dX9_weight_87 ?_
      exact P_iret dX9_weight_88 rfl ⟨Nat.le_refl _, Nat.le_refl _⟩ ⟨by rw [hs], k, Fr.rf⟩
    by_cases w1 : wh = 1
    · subst w1
      refine P_tabIn (off := 44) (tgt := 89) dX9_weight_45 (by decide) (by decide) (by decide) (by decide) ?_
      have hs : spWeight σ (nI j) 1 = wB (nI (rD (gR σ))) (rF (gR σ) j 1) (rF (gR σ) j 2) := (hs0 _).trans (by unfold spWgt; rw [if_neg (by decide), if_pos rfl])
      refine P_iload_n dX9_weight_89 rfl ?_
      refine P_iload dX9_weight_90 rfl ?_
      refine P_iload dX9_weight_92 rfl ?_
      refine P_callSp dX9_weight_94 lkX9_189 okX6_weightB ⟨Nat.le_of_ble_eq_true rfl, Nat.le_of_ble_eq_true rfl⟩ (t_weightB l) rfl rfl (Nat.le_of_ble_eq_true rfl) ⟨Nat.le_of_ble_eq_true rfl, Nat.le_of_ble_eq_true rfl⟩ ?_
      exact P_iret dX9_weight_97 rfl ⟨Nat.le_refl _, Nat.le_refl _⟩ ⟨by rw [hs], k, Fr.rf⟩
    by_cases w2 : wh = 2
    · subst w2
      refine P_tabIn (off := 53) (tgt := 98) dX9_weight_45 (by decide) (by decide) (by decide) (by decide) ?_
      have hs : spWeight σ (nI j) 2 = wC (nI (rD (gR σ))) (rF (gR σ) j 1) (rF (gR σ) j 2) + 1000 := (hs0 _).trans (by unfold spWgt; rw [if_neg (by decide), if_neg (by decide), if_pos rfl])
      refine P_iload_n dX9_weight_98 rfl ?_
      refine P_iload dX9_weight_99 rfl ?_
      refine P_iload dX9_weight_101 rfl ?_
      refine P_callSp dX9_weight_103 lkX9_192 okX6_weightC ⟨Nat.le_of_ble_eq_true rfl, Nat.le_of_ble_eq_true rfl⟩ (t_weightC l) rfl rfl (Nat.le_of_ble_eq_true rfl) ⟨Nat.le_of_ble_eq_true rfl, Nat.le_of_ble_eq_true rfl⟩ ?_
      refine P_sipush dX9_weight_106 sp_1000 ?_
      refine P_iadd dX9_weight_109 ?_
      exact P_iret dX9_weight_110 rfl ⟨Nat.le_refl _, Nat.le_refl _⟩ ⟨by rw [hs], k, Fr.rf⟩
    by_cases w3 : wh = 3
    · subst w3
      refine P_tabIn (off := 66) (tgt := 111) dX9_weight_45 (by decide) (by decide) (by decide) (by decide) ?_
      have hs : spWeight σ (nI j) 3 = wM (nI (rD (gR σ))) (rF (gR σ) j 1) (rF (gR σ) j 2) := (hs0 _).trans (by unfold spWgt; rw [if_neg (by decide), if_neg (by decide), if_neg (by decide), if_pos rfl])
      refine P_iload_n dX9_weight_111 rfl ?_
      refine P_iload dX9_weight_112 rfl ?_
      refine P_iload dX9_weight_114 rfl ?_
      refine P_callSp dX9_weight_116 lkX9_195 okX6_weightM ⟨Nat.le_of_ble_eq_true rfl, Nat.le_of_ble_eq_true rfl⟩ (t_weightM l) rfl rfl (Nat.le_of_ble_eq_true rfl) ⟨Nat.le_of_ble_eq_true rfl, Nat.le_of_ble_eq_true rfl⟩ ?_
      exact P_iret dX9_weight_119 rfl ⟨Nat.le_refl _, Nat.le_refl _⟩ ⟨by rw [hs], k, Fr.rf⟩
    refine P_tabOut (tgt := 120) dX9_weight_45 (tabo (n := 3) (fun j hj => by rcases (by omega : j = 0 ∨ j = 1 ∨ j = 2 ∨ j = 3) with rfl | rfl | rfl | rfl <;> assumption)) (by decide) ?_
    have hs : spWeight σ (nI j) wh = OUTS := (hs0 _).trans (by unfold spWgt; rw [if_neg w0, if_neg w1, if_neg w2, if_neg w3])
    refine P_ldc dX9_weight_120 kcX9_76 ?_
    exact P_iret dX9_weight_122 rfl ⟨Nat.le_refl _, Nat.le_refl _⟩ ⟨by rw [hs], k, Fr.rf⟩
  · have e := (b2p _).mp c8
    have hs : spWeight σ r0 wh = UNK := by unfold spWeight; rw [if_neg e]
    refine P_ldc dX9_weight_11 kcX9_142 ?_
    exact P_iret dX9_weight_13 rfl ⟨Nat.le_refl _, Nat.le_refl _⟩ ⟨by rw [hs], k, Fr.rf⟩
set_option maxHeartbeats 4000000 in
set_option maxRecDepth 100000 in
theorem c_flow (l : Launch) {G : PH} {σ : Sg} {r0 t0 wh : Int32} (k : Cls G σ) (hv : sVal σ) : Tri l mX9_flow 0 0 [.ref 0, .int r0, .int t0, .int wh] G (fun a9 G' => a9 = some (.long (spFlow σ r0 t0 wh)) ∧ Cls G' σ ∧ Fr G G' 0 164) := by
  obtain ⟨k0, k1, ⟨r2, k2⟩, ⟨qT, qD, fi, fo, fs, fl, fh, k3⟩, ⟨a1, a2, a3, k4⟩, ⟨b1, b2, b3, b4, b5, k5⟩, k6, k7, k8, ⟨fI, k9, e0, e1⟩, k10, k11⟩ := id k
  have hb := hv.1.1; have hvr := hv.1.2; have hN : rN (gR σ) ≤ 6 := hb.2.2.2.2; have hT : rT (gR σ) ≤ 24 := hb.2.1; have hT2 : 2 ≤ rT (gR σ) := hb.1
  refine Tri.intro (L := [_, _, _, _]) okX9_flow.1 (Nat.le_of_ble_eq_true rfl) rfl ?_
  refine P_aload_n dX9_flow_0 rfl ?_
  refine P_get dX9_flow_1 flX9_10 k0 rfl ?_
  refine P_iload_n dX9_flow_4 rfl ?_
  refine P_callVp dX9_flow_5 lkX9_138 okX6_hasReach ⟨Nat.le_of_ble_eq_true rfl, Nat.le_of_ble_eq_true rfl⟩ (t_hasReach l k1) rfl rfl k1.at (Nat.le_of_ble_eq_true rfl) ⟨Nat.le_of_ble_eq_true rfl, Nat.le_of_ble_eq_true rfl⟩ ?_
  refine P_if_eq (tgt := 22) dX9_flow_8 (by decide) (fun c8 => ?_) (fun c8 => ?_)
  · have e := (b2p _).mp c8
    have hs : spFlow σ r0 t0 wh = -1000000001 := by unfold spFlow; rw [if_neg (fun z => e z.1)]
    refine P_ldc2 dX9_flow_22 kcX9_201 ?_
    exact P_lret dX9_flow_25 rfl ⟨Nat.le_refl _, Nat.le_refl _⟩ ⟨by rw [hs], k, Fr.rf⟩
  · obtain ⟨j, hj, rfl⟩ := inN_of (b2y c8) (by omega)
    refine P_aload_n dX9_flow_11 rfl ?_
    refine P_get dX9_flow_12 flX9_10 k0 rfl ?_
    refine P_iload_n dX9_flow_15 rfl ?_
    refine P_callVp dX9_flow_16 lkX9_198 okX6_hasTime ⟨Nat.le_of_ble_eq_true rfl, Nat.le_of_ble_eq_true rfl⟩ (t_hasTime l k1) rfl rfl k1.at (Nat.le_of_ble_eq_true rfl) ⟨Nat.le_of_ble_eq_true rfl, Nat.le_of_ble_eq_true rfl⟩ ?_
    refine P_if_ne (tgt := 26) dX9_flow_19 (by decide) (fun c19 => ?_) (fun c19 => ?_)
    · obtain ⟨i, hi, rfl⟩ := inN_of (b2y c19) (by omega)
      have hs0 : ∀ w, spFlow σ (nI j) (nI i) w = spFlw (gR σ) j i w := fun w => by unfold spFlow; rw [if_pos ⟨inN_nI hj (by omega), inN_nI hi (by omega)⟩, nI_clamp (by omega), nI_clamp (by omega)]
      refine P_iload_n dX9_flow_26 rfl ?_
      by_cases w0 : wh = 0
      · subst w0
        refine P_tabIn (off := 33) (tgt := 60) dX9_flow_27 (by decide) (by decide) (by decide) (by decide) ?_
        have hs : spFlow σ (nI j) (nI i) 0 = (rS (gR σ) j i).toInt64 := (hs0 _).trans (by unfold spFlw; rw [if_pos rfl])
        refine P_aload_n dX9_flow_60 rfl ?_
        refine P_get dX9_flow_61 flX9_10 k0 rfl ?_
        refine P_iload_n dX9_flow_64 rfl ?_
        refine P_iload_n dX9_flow_65 rfl ?_
        refine P_callVp dX9_flow_66 lkX9_203 okX6_sideAt ⟨Nat.le_of_ble_eq_true rfl, Nat.le_of_ble_eq_true rfl⟩ (t_sideAt l k1 hj (by omega)) rfl rfl k1.at (Nat.le_of_ble_eq_true rfl) ⟨Nat.le_of_ble_eq_true rfl, Nat.le_of_ble_eq_true rfl⟩ ?_
        refine P_i2l dX9_flow_69 ?_
        exact P_lret dX9_flow_70 rfl ⟨Nat.le_refl _, Nat.le_refl _⟩ ⟨by rw [hs], k, Fr.rf⟩
      by_cases w1 : wh = 1
      · subst w1
        refine P_tabIn (off := 44) (tgt := 71) dX9_flow_27 (by decide) (by decide) (by decide) (by decide) ?_
        have hs : spFlow σ (nI j) (nI i) 1 = (rE (gR σ) j i).toInt64 := (hs0 _).trans (by unfold spFlw; rw [if_neg (by decide), if_pos rfl])
        refine P_aload_n dX9_flow_71 rfl ?_
        refine P_get dX9_flow_72 flX9_10 k0 rfl ?_
        refine P_iload_n dX9_flow_75 rfl ?_
        refine P_iload_n dX9_flow_76 rfl ?_
        refine P_callVp dX9_flow_77 lkX9_206 okX6_seenAt ⟨Nat.le_of_ble_eq_true rfl, Nat.le_of_ble_eq_true rfl⟩ (t_seenAt l k1 hj (by omega)) rfl rfl k1.at (Nat.le_of_ble_eq_true rfl) ⟨Nat.le_of_ble_eq_true rfl, Nat.le_of_ble_eq_true rfl⟩ ?_
        refine P_i2l dX9_flow_80 ?_
        exact P_lret dX9_flow_81 rfl ⟨Nat.le_refl _, Nat.le_refl _⟩ ⟨by rw [hs], k, Fr.rf⟩
      by_cases w2 : wh = 2
      · subst w2
        refine P_tabIn (off := 55) (tgt := 82) dX9_flow_27 (by decide) (by decide) (by decide) (by decide) ?_
        have hs : spFlow σ (nI j) (nI i) 2 = PLU + INN (gR σ) j i := (hs0 _).trans (by unfold spFlw; rw [if_neg (by decide), if_neg (by decide), if_pos rfl])
        refine P_aload_n dX9_flow_82 rfl ?_
        refine P_get dX9_flow_83 flX9_22 k0 rfl ?_
        refine P_aload_n dX9_flow_86 rfl ?_
        refine P_get dX9_flow_87 flX9_10 k0 rfl ?_
        refine P_callV dX9_flow_90 lkX9_125 okX7_runAll ⟨Nat.le_of_ble_eq_true rfl, Nat.le_of_ble_eq_true rfl⟩ (t_runAll l k1 k3 (by omega) hvr) rfl rfl k3.1 (Nat.le_of_ble_eq_true rfl) ⟨Nat.le_of_ble_eq_true rfl, Nat.le_of_ble_eq_true rfl⟩ (fun v90 G90 q90 => ?_)
        obtain ⟨rfl, hq, hF1⟩ := q90
        have kk := k.rtg hF1 hq.rout; have k1 := k1.fr hF1 (by omega); have k0 := hF1.at k0 (by omega); have k4 := hF1.at k4 (by omega)
        refine P_ldc2 dX9_flow_93 kcX9_209 ?_
        refine P_aload_n dX9_flow_96 rfl ?_
        refine P_get dX9_flow_97 flX9_22 k0 rfl ?_
        refine P_iload_n dX9_flow_100 rfl ?_
        refine P_iload_n dX9_flow_101 rfl ?_
        refine P_callVp dX9_flow_102 lkX9_211 okX7_inAt ⟨Nat.le_of_ble_eq_true rfl, Nat.le_of_ble_eq_true rfl⟩ (t_inAt l hq hb hj hi) rfl rfl (hq.rout.choose_spec.choose_spec.choose_spec.choose_spec.choose_spec.choose_spec.choose_spec.1) (Nat.le_of_ble_eq_true rfl) ⟨Nat.le_of_ble_eq_true rfl, Nat.le_of_ble_eq_true rfl⟩ ?_
        refine P_ladd dX9_flow_105 ?_
        exact P_lret dX9_flow_106 rfl ⟨Nat.le_refl _, Nat.le_refl _⟩ ⟨by rw [hs], kk, hF1.wide (by omega) (by omega)⟩
      by_cases w3 : wh = 3
      · subst w3
        refine P_tabIn (off := 80) (tgt := 107) dX9_flow_27 (by decide) (by decide) (by decide) (by decide) ?_
        have hs : spFlow σ (nI j) (nI i) 3 = PLU + OUT (gR σ) j i := (hs0 _).trans (by unfold spFlw; rw [if_neg (by decide), if_neg (by decide), if_neg (by decide), if_pos rfl])
        refine P_aload_n dX9_flow_107 rfl ?_
        refine P_get dX9_flow_108 flX9_22 k0 rfl ?_
        refine P_aload_n dX9_flow_111 rfl ?_
        refine P_get dX9_flow_112 flX9_10 k0 rfl ?_
        refine P_callV dX9_flow_115 lkX9_125 okX7_runAll ⟨Nat.le_of_ble_eq_true rfl, Nat.le_of_ble_eq_true rfl⟩ (t_runAll l k1 k3 (by omega) hvr) rfl rfl k3.1 (Nat.le_of_ble_eq_true rfl) ⟨Nat.le_of_ble_eq_true rfl, Nat.le_of_ble_eq_true rfl⟩ (fun v115 G115 q115 => ?_)
        obtain ⟨rfl, hq, hF1⟩ := q115
        have kk := k.rtg hF1 hq.rout; have k1 := k1.fr hF1 (by omega); have k0 := hF1.at k0 (by omega); have k4 := hF1.at k4 (by omega)
        refine P_ldc2 dX9_flow_118 kcX9_209 ?_
        refine P_aload_n dX9_flow_121 rfl ?_
        refine P_get dX9_flow_122 flX9_22 k0 rfl ?_
        refine P_iload_n dX9_flow_125 rfl ?_
        refine P_iload_n dX9_flow_126 rfl ?_
        refine P_callVp dX9_flow_127 lkX9_215 okX7_outAt ⟨Nat.le_of_ble_eq_true rfl, Nat.le_of_ble_eq_true rfl⟩ (t_outAt l hq hb hj hi) rfl rfl (hq.rout.choose_spec.choose_spec.choose_spec.choose_spec.choose_spec.choose_spec.choose_spec.1) (Nat.le_of_ble_eq_true rfl) ⟨Nat.le_of_ble_eq_true rfl, Nat.le_of_ble_eq_true rfl⟩ ?_
        refine P_ladd dX9_flow_130 ?_
        exact P_lret dX9_flow_131 rfl ⟨Nat.le_refl _, Nat.le_refl _⟩ ⟨by rw [hs], kk, hF1.wide (by omega) (by omega)⟩
      by_cases w4 : wh = 4
      · subst w4
        refine P_tabIn (off := 105) (tgt := 132) dX9_flow_27 (by decide) (by decide) (by decide) (by decide) ?_
        have hs : spFlow σ (nI j) (nI i) 4 = PLU + STO (gR σ) j i := (hs0 _).trans (by unfold spFlw; rw [if_neg (by decide), if_neg (by decide), if_neg (by decide), if_neg (by decide), if_pos rfl])
        refine P_aload_n dX9_flow_132 rfl ?_
        refine P_get dX9_flow_133 flX9_22 k0 rfl ?_
        refine P_aload_n dX9_flow_136 rfl ?_
        refine P_get dX9_flow_137 flX9_10 k0 rfl ?_
        refine P_callV dX9_flow_140 lkX9_125 okX7_runAll ⟨Nat.le_of_ble_eq_true rfl, Nat.le_of_ble_eq_true rfl⟩ (t_runAll l k1 k3 (by omega) hvr) rfl rfl k3.1 (Nat.le_of_ble_eq_true rfl) ⟨Nat.le_of_ble_eq_true rfl, Nat.le_of_ble_eq_true rfl⟩ (fun v140 G140 q140 => ?_)
        obtain ⟨rfl, hq, hF1⟩ := q140
        have kk := k.rtg hF1 hq.rout; have k1 := k1.fr hF1 (by omega); have k0 := hF1.at k0 (by omega); have k4 := hF1.at k4 (by omega)
        refine P_ldc2 dX9_flow_143 kcX9_209 ?_
        refine P_aload_n dX9_flow_146 rfl ?_
        refine P_get dX9_flow_147 flX9_22 k0 rfl ?_
        refine P_iload_n dX9_flow_150 rfl ?_
        refine P_iload_n dX9_flow_151 rfl ?_
        refine P_callVp dX9_flow_152 lkX9_218 okX7_storedAt ⟨Nat.le_of_ble_eq_true rfl, Nat.le_of_ble_eq_true rfl⟩ (t_storedAt l hq hb hj hi) rfl rfl (hq.rout.choose_spec.choose_spec.choose_spec.choose_spec.choose_spec.choose_spec.choose_spec.1) (Nat.le_of_ble_eq_true rfl) ⟨Nat.le_of_ble_eq_true rfl, Nat.le_of_ble_eq_true rfl⟩ ?_
        refine P_ladd dX9_flow_155 ?_
        exact P_lret dX9_flow_156 rfl ⟨Nat.le_refl _, Nat.le_refl _⟩ ⟨by rw [hs], kk, hF1.wide (by omega) (by omega)⟩
      refine P_tabOut (tgt := 157) dX9_flow_27 (tabo (n := 4) (fun j hj => by rcases (by omega : j = 0 ∨ j = 1 ∨ j = 2 ∨ j = 3 ∨ j = 4) with rfl | rfl | rfl | rfl | rfl <;> assumption)) (by decide) ?_
      have hs : spFlow σ (nI j) (nI i) wh = -1000000002 := (hs0 _).trans (by unfold spFlw; rw [if_neg w0, if_neg w1, if_neg w2, if_neg w3, if_neg w4])
      refine P_ldc2 dX9_flow_157 kcX9_221 ?_
      exact P_lret dX9_flow_160 rfl ⟨Nat.le_refl _, Nat.le_refl _⟩ ⟨by rw [hs], k, Fr.rf⟩
    · have e := (b2p _).mp c19
      have hs : spFlow σ (nI j) t0 wh = -1000000001 := by unfold spFlow; rw [if_neg (fun z => e z.2)]
      refine P_ldc2 dX9_flow_22 kcX9_201 ?_
      exact P_lret dX9_flow_25 rfl ⟨Nat.le_refl _, Nat.le_refl _⟩ ⟨by rw [hs], k, Fr.rf⟩
set_option maxHeartbeats 4000000 in
set_option maxRecDepth 100000 in
theorem c_fitSum (l : Launch) {G : PH} {σ : Sg} {j : Nat} {wh : Int32} (k : Cls G σ) (hv : sVal σ) (hj : j < rN (gR σ)) (hq : ran G 15 (gR σ)) : Tri l mX9_fittedSum 0 0 [.ref 0, .int (nI j), .int wh] G (fun a9 G' => a9 = some (.long (spFts (gR σ) j wh)) ∧ Cls G' σ ∧ Fr G G' 0 164) := by
  obtain ⟨k0, k1, ⟨r2, k2⟩, ⟨qT, qD, fi, fo, fs, fl, fh, k3⟩, ⟨a1, a2, a3, k4⟩, ⟨b1, b2, b3, b4, b5, k5⟩, k6, k7, k8, ⟨fI, k9, e0, e1⟩, k10, k11⟩ := id k
  have hb := hv.1.1; have hvr := hv.1.2; have hN : rN (gR σ) ≤ 6 := hb.2.2.2.2; have hT : rT (gR σ) ≤ 24 := hb.2.1; have hT2 : 2 ≤ rT (gR σ) := hb.1
  have kk := k
  refine Tri.intro (L := [_, _, _]) okX9_fittedSum.1 (Nat.le_of_ble_eq_true rfl) rfl ?_
  refine P_aload_n dX9_fittedSum_0 rfl ?_
  refine P_get dX9_fittedSum_1 flX9_29 k0 rfl ?_
  refine P_aload_n dX9_fittedSum_4 rfl ?_
  refine P_get dX9_fittedSum_5 flX9_10 k0 rfl ?_
  refine P_aload_n dX9_fittedSum_8 rfl ?_
  refine P_get dX9_fittedSum_9 flX9_22 k0 rfl ?_
  refine P_iload_n dX9_fittedSum_12 rfl ?_
  refine P_callVp dX9_fittedSum_13 lkX9_163 okX3_canFit ⟨Nat.le_of_ble_eq_true rfl, Nat.le_of_ble_eq_true rfl⟩ (t_canFit l k1 hq hj) rfl rfl k4 (Nat.le_of_ble_eq_true rfl) ⟨Nat.le_of_ble_eq_true rfl, Nat.le_of_ble_eq_true rfl⟩ ?_
  refine P_if_ne (tgt := 23) dX9_fittedSum_16 (by decide) (fun c16 => ?_) (fun c16 => ?_)
  · have e := b2y c16
    refine P_iload_n dX9_fittedSum_23 rfl ?_
    refine P_iconst dX9_fittedSum_24 ci_5 ?_
    refine P_icmp_ne (tgt := 54) dX9_fittedSum_25 (by decide) (fun c25 => ?_) (fun c25 => ?_)
    · refine P_iload_n dX9_fittedSum_54 rfl ?_
      refine P_bipush dX9_fittedSum_55 bp_6 ?_
      refine P_icmp_ne (tgt := 95) dX9_fittedSum_57 (by decide) (fun c57 => ?_) (fun c57 => ?_)
      · have hs : spFts (gR σ) j wh = (bsG (gR σ) j).2.2 := by unfold spFts; rw [if_pos e, if_neg c25, if_neg c57]
        refine P_aload_n dX9_fittedSum_95 rfl ?_
        refine P_get dX9_fittedSum_96 flX9_29 k0 rfl ?_
        refine P_aload_n dX9_fittedSum_99 rfl ?_
        refine P_get dX9_fittedSum_100 flX9_10 k0 rfl ?_
        refine P_aload_n dX9_fittedSum_103 rfl ?_
        refine P_get dX9_fittedSum_104 flX9_22 k0 rfl ?_
        refine P_iload_n dX9_fittedSum_107 rfl ?_
        refine P_callV dX9_fittedSum_108 lkX9_175 okX3_findBest ⟨Nat.le_of_ble_eq_true rfl, Nat.le_of_ble_eq_true rfl⟩ (t_findBest (c := 15) l k1 hq k4 (by omega) hj hvr) rfl rfl k4 (Nat.le_of_ble_eq_true rfl) ⟨Nat.le_of_ble_eq_true rfl, Nat.le_of_ble_eq_true rfl⟩ (fun v108 G108 q108 => ?_)
        obtain ⟨rfl, ⟨b, hbs, hb1⟩, hq2, hF2⟩ := q108
        have hbg := bs_get hbs; have kB := kk.fit hF2 hq2.rout ⟨_, _, _, hb1⟩; have k0 := hF2.at k0 (by omega)
        refine P_aload_n dX9_fittedSum_111 rfl ?_
        refine P_get dX9_fittedSum_112 flX9_29 k0 rfl ?_
        refine P_callVp dX9_fittedSum_115 lkX9_249 okX3_bestDifference ⟨Nat.le_of_ble_eq_true rfl, Nat.le_of_ble_eq_true rfl⟩ (t_bestDifference l hb1) rfl rfl hb1 (Nat.le_of_ble_eq_true rfl) ⟨Nat.le_of_ble_eq_true rfl, Nat.le_of_ble_eq_true rfl⟩ ?_
        exact P_lret dX9_fittedSum_118 rfl ⟨Nat.le_refl _, Nat.le_refl _⟩ ⟨by rw [hs, hbg], kB, hF2.wide (by omega) (by omega)⟩
      · have hs : spFts (gR σ) j wh = DF (gR σ) j (rF (gR σ) j 1) (rF (gR σ) j 2) := by unfold spFts; rw [if_pos e, if_neg c25, if_pos c57]
        refine P_aload_n dX9_fittedSum_60 rfl ?_
        refine P_get dX9_fittedSum_61 flX9_29 k0 rfl ?_
        refine P_aload_n dX9_fittedSum_64 rfl ?_
        refine P_get dX9_fittedSum_65 flX9_10 k0 rfl ?_
        refine P_aload_n dX9_fittedSum_68 rfl ?_
        refine P_get dX9_fittedSum_69 flX9_22 k0 rfl ?_
        refine P_iload_n dX9_fittedSum_72 rfl ?_
        refine P_aload_n dX9_fittedSum_73 rfl ?_
        refine P_get dX9_fittedSum_74 flX9_10 k0 rfl ?_
        refine P_iload_n dX9_fittedSum_77 rfl ?_
        refine P_iconst dX9_fittedSum_78 ci_1 ?_
        refine P_callVp dX9_fittedSum_79 lkX9_143 okX6_featureOf ⟨Nat.le_of_ble_eq_true rfl, Nat.le_of_ble_eq_true rfl⟩ (t_featureOf l 1 k1 hj (by decide)) rfl rfl k1.at (Nat.le_of_ble_eq_true rfl) ⟨Nat.le_of_ble_eq_true rfl, Nat.le_of_ble_eq_true rfl⟩ ?_
        refine P_aload_n dX9_fittedSum_82 rfl ?_
        refine P_get dX9_fittedSum_83 flX9_10 k0 rfl ?_
        refine P_iload_n dX9_fittedSum_86 rfl ?_
        refine P_iconst dX9_fittedSum_87 ci_2 ?_
        refine P_callVp dX9_fittedSum_88 lkX9_143 okX6_featureOf ⟨Nat.le_of_ble_eq_true rfl, Nat.le_of_ble_eq_true rfl⟩ (t_featureOf l 2 k1 hj (by decide)) rfl rfl k1.at (Nat.le_of_ble_eq_true rfl) ⟨Nat.le_of_ble_eq_true rfl, Nat.le_of_ble_eq_true rfl⟩ ?_
        refine P_callV dX9_fittedSum_91 lkX9_245 okX3_differenceBy ⟨Nat.le_of_ble_eq_true rfl, Nat.le_of_ble_eq_true rfl⟩ (t_diff l k1 hq hj (by omega) hvr (wM_ok hvr hb hj)) rfl rfl k4 (Nat.le_of_ble_eq_true rfl) ⟨Nat.le_of_ble_eq_true rfl, Nat.le_of_ble_eq_true rfl⟩ (fun v91 G91 q91 => ?_)
        obtain ⟨rfl, hq3, hF3⟩ := q91
        exact P_lret dX9_fittedSum_94 rfl ⟨Nat.le_refl _, Nat.le_refl _⟩ ⟨by rw [hs], k.rtg hF3 hq3.rout, hF3.wide (by omega) (by omega)⟩
    · have hs : spFts (gR σ) j wh = lpS (gR σ) j (rF (gR σ) j 2) := by unfold spFts; rw [if_pos e, if_pos c25]
      refine P_aload_n dX9_fittedSum_28 rfl ?_
      refine P_get dX9_fittedSum_29 flX9_29 k0 rfl ?_
      refine P_aload_n dX9_fittedSum_32 rfl ?_
      refine P_get dX9_fittedSum_33 flX9_10 k0 rfl ?_
      refine P_aload_n dX9_fittedSum_36 rfl ?_
      refine P_get dX9_fittedSum_37 flX9_22 k0 rfl ?_
      refine P_iload_n dX9_fittedSum_40 rfl ?_
      refine P_aload_n dX9_fittedSum_41 rfl ?_
      refine P_get dX9_fittedSum_42 flX9_10 k0 rfl ?_
      refine P_iload_n dX9_fittedSum_45 rfl ?_
      refine P_iconst dX9_fittedSum_46 ci_2 ?_
      refine P_callVp dX9_fittedSum_47 lkX9_143 okX6_featureOf ⟨Nat.le_of_ble_eq_true rfl, Nat.le_of_ble_eq_true rfl⟩ (t_featureOf l 2 k1 hj (by decide)) rfl rfl k1.at (Nat.le_of_ble_eq_true rfl) ⟨Nat.le_of_ble_eq_true rfl, Nat.le_of_ble_eq_true rfl⟩ ?_
      refine P_callVp dX9_fittedSum_50 lkX9_241 okX3_loopBy ⟨Nat.le_of_ble_eq_true rfl, Nat.le_of_ble_eq_true rfl⟩ (t_loopBy l k1 hq hj k4) rfl rfl k4 (Nat.le_of_ble_eq_true rfl) ⟨Nat.le_of_ble_eq_true rfl, Nat.le_of_ble_eq_true rfl⟩ ?_
      exact P_lret dX9_fittedSum_53 rfl ⟨Nat.le_refl _, Nat.le_refl _⟩ ⟨by rw [hs], k, Fr.rf⟩
  · have e := (b2p _).mp c16
    have hs : spFts (gR σ) j wh = -1 := by unfold spFts; rw [if_neg e]
    refine P_ldc2 dX9_fittedSum_19 kcX9_239 ?_
    exact P_lret dX9_fittedSum_22 rfl ⟨Nat.le_refl _, Nat.le_refl _⟩ ⟨by rw [hs], k, Fr.rf⟩
theorem pkT_lt (f : Nat → Int64) : ∀ n, pkT f n ≤ n
  | 0 => Nat.le_refl _
  | n + 1 => by
    unfold pkT
    have := pkT_lt f n
    split <;> omega
set_option maxHeartbeats 4000000 in
set_option maxRecDepth 100000 in
theorem c_sum (l : Launch) {G : PH} {σ : Sg} {r0 wh : Int32} (k : Cls G σ) (hv : sVal σ) : Tri l mX9_sum 0 0 [.ref 0, .int r0, .int wh] G (fun a9 G' => a9 = some (.long (spSum σ r0 wh)) ∧ Cls G' σ ∧ Fr G G' 0 164) := by
  obtain ⟨k0, k1, ⟨r2, k2⟩, ⟨qT, qD, fi, fo, fs, fl, fh, k3⟩, ⟨a1, a2, a3, k4⟩, ⟨b1, b2, b3, b4, b5, k5⟩, k6, k7, k8, ⟨fI, k9, e0, e1⟩, k10, k11⟩ := id k
  have hb := hv.1.1; have hvr := hv.1.2; have hN : rN (gR σ) ≤ 6 := hb.2.2.2.2; have hT : rT (gR σ) ≤ 24 := hb.2.1; have hT2 : 2 ≤ rT (gR σ) := hb.1
  refine Tri.intro (L := [_, _, _]) okX9_sum.1 (Nat.le_of_ble_eq_true rfl) rfl ?_
  refine P_aload_n dX9_sum_0 rfl ?_
  refine P_get dX9_sum_1 flX9_10 k0 rfl ?_
  refine P_iload_n dX9_sum_4 rfl ?_
  refine P_callVp dX9_sum_5 lkX9_138 okX6_hasReach ⟨Nat.le_of_ble_eq_true rfl, Nat.le_of_ble_eq_true rfl⟩ (t_hasReach l k1) rfl rfl k1.at (Nat.le_of_ble_eq_true rfl) ⟨Nat.le_of_ble_eq_true rfl, Nat.le_of_ble_eq_true rfl⟩ ?_
  refine P_if_ne (tgt := 15) dX9_sum_8 (by decide) (fun c8 => ?_) (fun c8 => ?_)
  · obtain ⟨j, hj, rfl⟩ := inN_of (b2y c8) (by omega)
    refine P_iload_n dX9_sum_15 rfl ?_
    refine P_iconst dX9_sum_16 ci_0 ?_
    refine P_bipush dX9_sum_17 bp_7 ?_
    refine P_callSp dX9_sum_19 lkX9_72 okX9_outOf ⟨Nat.le_of_ble_eq_true rfl, Nat.le_of_ble_eq_true rfl⟩ (t_outOf l) rfl rfl (Nat.le_of_ble_eq_true rfl) ⟨Nat.le_of_ble_eq_true rfl, Nat.le_of_ble_eq_true rfl⟩ ?_
    refine P_if_eq (tgt := 29) dX9_sum_22 (by decide) (fun c22 => ?_) (fun c22 => ?_)
    · have e := (b2p _).mp c22
      have hs0 : spSum σ (nI j) wh = spSm (gR σ) j wh := by unfold spSum; rw [if_pos (inN_nI hj (by omega)), if_neg e, nI_clamp (by omega)]
      refine P_aload_n dX9_sum_29 rfl ?_
      refine P_get dX9_sum_30 flX9_22 k0 rfl ?_
      refine P_aload_n dX9_sum_33 rfl ?_
      refine P_get dX9_sum_34 flX9_10 k0 rfl ?_
      refine P_callV dX9_sum_37 lkX9_125 okX7_runAll ⟨Nat.le_of_ble_eq_true rfl, Nat.le_of_ble_eq_true rfl⟩ (t_runAll l k1 k3 (by omega) hvr) rfl rfl k3.1 (Nat.le_of_ble_eq_true rfl) ⟨Nat.le_of_ble_eq_true rfl, Nat.le_of_ble_eq_true rfl⟩ (fun v37 G37 q37 => ?_)
      obtain ⟨rfl, hq, hF1⟩ := q37
      have kk := k.rtg hF1 hq.rout; have k1 := k1.fr hF1 (by omega); have k0 := hF1.at k0 (by omega); have k4 := hF1.at k4 (by omega)
      refine P_iload_n dX9_sum_40 rfl ?_
      by_cases w0 : wh = 0
      · subst w0
        refine P_tabIn (off := 35) (tgt := 76) dX9_sum_41 (by decide) (by decide) (by decide) (by decide) ?_
        have hs : spSum σ (nI j) 0 = PLU + INN (gR σ) j (pkT (INN (gR σ) j) (rT (gR σ) - 1)) := hs0.trans (by unfold spSm; rw [if_pos rfl])
        refine P_ldc2 dX9_sum_76 kcX9_209 ?_
        refine P_aload_n dX9_sum_79 rfl ?_
        refine P_get dX9_sum_80 flX9_22 k0 rfl ?_
        refine P_iload_n dX9_sum_83 rfl ?_
        refine P_aload_n dX9_sum_84 rfl ?_
        refine P_get dX9_sum_85 flX9_22 k0 rfl ?_
        refine P_iload_n dX9_sum_88 rfl ?_
        refine P_callVp dX9_sum_89 lkX9_150 okX7_timeOfPeakIn ⟨Nat.le_of_ble_eq_true rfl, Nat.le_of_ble_eq_true rfl⟩ (t_timePeakIn l hq hb hj) rfl rfl (hq.rout.choose_spec.choose_spec.choose_spec.choose_spec.choose_spec.choose_spec.choose_spec.1) (Nat.le_of_ble_eq_true rfl) ⟨Nat.le_of_ble_eq_true rfl, Nat.le_of_ble_eq_true rfl⟩ ?_
        refine P_callVp dX9_sum_92 lkX9_211 okX7_inAt ⟨Nat.le_of_ble_eq_true rfl, Nat.le_of_ble_eq_true rfl⟩ (t_inAt l hq hb hj (by have := pkT_lt (INN (gR σ) j) (rT (gR σ) - 1); omega)) rfl rfl (hq.rout.choose_spec.choose_spec.choose_spec.choose_spec.choose_spec.choose_spec.choose_spec.1) (Nat.le_of_ble_eq_true rfl) ⟨Nat.le_of_ble_eq_true rfl, Nat.le_of_ble_eq_true rfl⟩ ?_
        refine P_ladd dX9_sum_95 ?_
        exact P_lret dX9_sum_96 rfl ⟨Nat.le_refl _, Nat.le_refl _⟩ ⟨by rw [hs], kk, hF1.wide (by omega) (by omega)⟩
      by_cases w1 : wh = 1
      · subst w1
        refine P_tabIn (off := 56) (tgt := 97) dX9_sum_41 (by decide) (by decide) (by decide) (by decide) ?_
        have hs : spSum σ (nI j) 1 = PLU + OUT (gR σ) j (pkT (OUT (gR σ) j) (rT (gR σ) - 1)) := hs0.trans (by unfold spSm; rw [if_neg (by decide), if_pos rfl])
        refine P_ldc2 dX9_sum_97 kcX9_209 ?_
        refine P_aload_n dX9_sum_100 rfl ?_
        refine P_get dX9_sum_101 flX9_22 k0 rfl ?_
        refine P_iload_n dX9_sum_104 rfl ?_
        refine P_callVp dX9_sum_105 lkX9_223 okX7_peakOut ⟨Nat.le_of_ble_eq_true rfl, Nat.le_of_ble_eq_true rfl⟩ (t_peakOut l hq hb hj) rfl rfl (hq.rout.choose_spec.choose_spec.choose_spec.choose_spec.choose_spec.choose_spec.choose_spec.1) (Nat.le_of_ble_eq_true rfl) ⟨Nat.le_of_ble_eq_true rfl, Nat.le_of_ble_eq_true rfl⟩ ?_
        refine P_ladd dX9_sum_108 ?_
        exact P_lret dX9_sum_109 rfl ⟨Nat.le_refl _, Nat.le_refl _⟩ ⟨by rw [hs], kk, hF1.wide (by omega) (by omega)⟩
      by_cases w2 : wh = 2
      · subst w2
        refine P_tabIn (off := 69) (tgt := 110) dX9_sum_41 (by decide) (by decide) (by decide) (by decide) ?_
        have hs : spSum σ (nI j) 2 = PLU + mnF (OUT (gR σ) j) (rT (gR σ) - 1) := hs0.trans (by unfold spSm; rw [if_neg (by decide), if_neg (by decide), if_pos rfl])
        refine P_ldc2 dX9_sum_110 kcX9_209 ?_
        refine P_aload_n dX9_sum_113 rfl ?_
        refine P_get dX9_sum_114 flX9_22 k0 rfl ?_
        refine P_iload_n dX9_sum_117 rfl ?_
        refine P_callVp dX9_sum_118 lkX9_227 okX7_leastOut ⟨Nat.le_of_ble_eq_true rfl, Nat.le_of_ble_eq_true rfl⟩ (t_leastOut l hq hb hj) rfl rfl (hq.rout.choose_spec.choose_spec.choose_spec.choose_spec.choose_spec.choose_spec.choose_spec.1) (Nat.le_of_ble_eq_true rfl) ⟨Nat.le_of_ble_eq_true rfl, Nat.le_of_ble_eq_true rfl⟩ ?_
        refine P_ladd dX9_sum_121 ?_
        exact P_lret dX9_sum_122 rfl ⟨Nat.le_refl _, Nat.le_refl _⟩ ⟨by rw [hs], kk, hF1.wide (by omega) (by omega)⟩
      by_cases w3 : wh = 3
      · subst w3
        refine P_tabIn (off := 82) (tgt := 123) dX9_sum_41 (by decide) (by decide) (by decide) (by decide) ?_
        have hs : spSum σ (nI j) 3 = PLU + voF (nI (rD (gR σ))).toInt64 (INN (gR σ) j) (rT (gR σ) - 1) := hs0.trans (by unfold spSm; rw [if_neg (by decide), if_neg (by decide), if_neg (by decide), if_pos rfl])
        refine P_ldc2 dX9_sum_123 kcX9_209 ?_
        refine P_aload_n dX9_sum_126 rfl ?_
        refine P_get dX9_sum_127 flX9_22 k0 rfl ?_
        refine P_iload_n dX9_sum_130 rfl ?_
        refine P_callVp dX9_sum_131 lkX9_230 okX7_volumeIn ⟨Nat.le_of_ble_eq_true rfl, Nat.le_of_ble_eq_true rfl⟩ (t_volumeIn l hq hb hj) rfl rfl (hq.rout.choose_spec.choose_spec.choose_spec.choose_spec.choose_spec.choose_spec.choose_spec.1) (Nat.le_of_ble_eq_true rfl) ⟨Nat.le_of_ble_eq_true rfl, Nat.le_of_ble_eq_true rfl⟩ ?_
        refine P_ladd dX9_sum_134 ?_
        exact P_lret dX9_sum_135 rfl ⟨Nat.le_refl _, Nat.le_refl _⟩ ⟨by rw [hs], kk, hF1.wide (by omega) (by omega)⟩
      by_cases w4 : wh = 4
      · subst w4
        refine P_tabIn (off := 95) (tgt := 136) dX9_sum_41 (by decide) (by decide) (by decide) (by decide) ?_
        have hs : spSum σ (nI j) 4 = PLU + voF (nI (rD (gR σ))).toInt64 (OUT (gR σ) j) (rT (gR σ) - 1) := hs0.trans (by unfold spSm; rw [if_neg (by decide), if_neg (by decide), if_neg (by decide), if_neg (by decide), if_pos rfl])
        refine P_ldc2 dX9_sum_136 kcX9_209 ?_
        refine P_aload_n dX9_sum_139 rfl ?_
        refine P_get dX9_sum_140 flX9_22 k0 rfl ?_
        refine P_iload_n dX9_sum_143 rfl ?_
        refine P_callVp dX9_sum_144 lkX9_233 okX7_volumeOut ⟨Nat.le_of_ble_eq_true rfl, Nat.le_of_ble_eq_true rfl⟩ (t_volumeOut l hq hb hj) rfl rfl (hq.rout.choose_spec.choose_spec.choose_spec.choose_spec.choose_spec.choose_spec.choose_spec.1) (Nat.le_of_ble_eq_true rfl) ⟨Nat.le_of_ble_eq_true rfl, Nat.le_of_ble_eq_true rfl⟩ ?_
        refine P_ladd dX9_sum_147 ?_
        exact P_lret dX9_sum_148 rfl ⟨Nat.le_refl _, Nat.le_refl _⟩ ⟨by rw [hs], kk, hF1.wide (by omega) (by omega)⟩
      refine P_tabOut (tgt := 149) dX9_sum_41 (tabo (n := 4) (fun j hj => by rcases (by omega : j = 0 ∨ j = 1 ∨ j = 2 ∨ j = 3 ∨ j = 4) with rfl | rfl | rfl | rfl | rfl <;> assumption)) (by decide) ?_
      have hs : spSum σ (nI j) wh = spFts (gR σ) j wh := hs0.trans (by unfold spSm; rw [if_neg w0, if_neg w1, if_neg w2, if_neg w3, if_neg w4])
      refine P_aload_n dX9_sum_149 rfl ?_
      refine P_iload_n dX9_sum_150 rfl ?_
      refine P_iload_n dX9_sum_151 rfl ?_
      refine P_callV dX9_sum_152 lkX9_236 okX9_fittedSum ⟨Nat.le_of_ble_eq_true rfl, Nat.le_of_ble_eq_true rfl⟩ (c_fitSum l kk hv hj hq) rfl rfl k0 (Nat.le_of_ble_eq_true rfl) ⟨Nat.le_of_ble_eq_true rfl, Nat.le_of_ble_eq_true rfl⟩ (fun v152 G152 q152 => ?_)
      obtain ⟨rfl, kc, hFc⟩ := q152
      exact P_lret dX9_sum_155 rfl ⟨Nat.le_refl _, Nat.le_refl _⟩ ⟨by rw [hs], kc, (hF1.wide (by omega) (by omega)).tr hFc⟩
    · have e := b2y c22
      have hs : spSum σ (nI j) wh = -1000000002 := by unfold spSum; rw [if_pos (inN_nI hj (by omega)), if_pos e]
      refine P_ldc2 dX9_sum_25 kcX9_221 ?_
      exact P_lret dX9_sum_28 rfl ⟨Nat.le_refl _, Nat.le_refl _⟩ ⟨by rw [hs], k, Fr.rf⟩
  · have e := (b2p _).mp c8
    have hs : spSum σ r0 wh = -1000000001 := by unfold spSum; rw [if_neg e]
    refine P_ldc2 dX9_sum_11 kcX9_201 ?_
    exact P_lret dX9_sum_14 rfl ⟨Nat.le_refl _, Nat.le_refl _⟩ ⟨by rw [hs], k, Fr.rf⟩
set_option maxHeartbeats 4000000 in
set_option maxRecDepth 100000 in
theorem c_would (l : Launch) {G : PH} {σ : Sg} {r0 s0 kk0 xx0 : Int32} (k : Cls G σ) (hv : sVal σ) : Tri l mX9_would 0 0 [.ref 0, .int r0, .int s0, .int kk0, .int xx0] G (fun a9 G' => a9 = some (.long (spWould σ r0 s0 kk0 xx0)) ∧ Cls G' σ ∧ Fr G G' 0 164) := by
  obtain ⟨k0, k1, ⟨r2, k2⟩, ⟨qT, qD, fi, fo, fs, fl, fh, k3⟩, ⟨a1, a2, a3, k4⟩, ⟨b1, b2, b3, b4, b5, k5⟩, k6, k7, k8, ⟨fI, k9, e0, e1⟩, k10, k11⟩ := id k
  have hb := hv.1.1; have hvr := hv.1.2; have hN : rN (gR σ) ≤ 6 := hb.2.2.2.2; have hT : rT (gR σ) ≤ 24 := hb.2.1; have hT2 : 2 ≤ rT (gR σ) := hb.1
  refine Tri.intro (L := [_, _, _, _, _]) okX9_would.1 (Nat.le_of_ble_eq_true rfl) rfl ?_
  refine P_aload_n dX9_would_0 rfl ?_
  refine P_get dX9_would_1 flX9_10 k0 rfl ?_
  refine P_iload_n dX9_would_4 rfl ?_
  refine P_callVp dX9_would_5 lkX9_138 okX6_hasReach ⟨Nat.le_of_ble_eq_true rfl, Nat.le_of_ble_eq_true rfl⟩ (t_hasReach l k1) rfl rfl k1.at (Nat.le_of_ble_eq_true rfl) ⟨Nat.le_of_ble_eq_true rfl, Nat.le_of_ble_eq_true rfl⟩ ?_
  refine P_if_eq (tgt := 22) dX9_would_8 (by decide) (fun c8 => ?_) (fun c8 => ?_)
  · have e := (b2p _).mp c8
    have hs : spWould σ r0 s0 kk0 xx0 = -1000000001 := by unfold spWould; rw [if_neg (fun z => e z.1)]
    refine P_ldc2 dX9_would_22 kcX9_201 ?_
    exact P_lret dX9_would_25 rfl ⟨Nat.le_refl _, Nat.le_refl _⟩ ⟨by rw [hs], k, Fr.rf⟩
  · obtain ⟨j, hj, rfl⟩ := inN_of (b2y c8) (by omega)
    refine P_aload_n dX9_would_11 rfl ?_
    refine P_get dX9_would_12 flX9_10 k0 rfl ?_
    refine P_iload_n dX9_would_15 rfl ?_
    refine P_callVp dX9_would_16 lkX9_138 okX6_hasReach ⟨Nat.le_of_ble_eq_true rfl, Nat.le_of_ble_eq_true rfl⟩ (t_hasReach l k1) rfl rfl k1.at (Nat.le_of_ble_eq_true rfl) ⟨Nat.le_of_ble_eq_true rfl, Nat.le_of_ble_eq_true rfl⟩ ?_
    refine P_if_ne (tgt := 26) dX9_would_19 (by decide) (fun c19 => ?_) (fun c19 => ?_)
    · obtain ⟨i, hi, rfl⟩ := inN_of (b2y c19) (by omega)
      refine P_iload_n dX9_would_26 rfl ?_
      refine P_iconst dX9_would_27 ci_0 ?_
      refine P_bipush dX9_would_28 bp_20 ?_
      refine P_callSp dX9_would_30 lkX9_72 okX9_outOf ⟨Nat.le_of_ble_eq_true rfl, Nat.le_of_ble_eq_true rfl⟩ (t_outOf l) rfl rfl (Nat.le_of_ble_eq_true rfl) ⟨Nat.le_of_ble_eq_true rfl, Nat.le_of_ble_eq_true rfl⟩ ?_
      refine P_if_ne (tgt := 47) dX9_would_33 (by decide) (fun c33 => ?_) (fun c33 => ?_)
      · have e := b2y c33
        have hs : spWould σ (nI j) (nI i) kk0 xx0 = -1000000002 := by unfold spWould; rw [if_pos ⟨inN_nI hj (by omega), inN_nI hi (by omega)⟩, if_pos (Or.inl e)]
        refine P_ldc2 dX9_would_47 kcX9_221 ?_
        exact P_lret dX9_would_50 rfl ⟨Nat.le_refl _, Nat.le_refl _⟩ ⟨by rw [hs], k, Fr.rf⟩
      · refine P_iload dX9_would_36 rfl ?_
        refine P_iconst dX9_would_38 ci_0 ?_
        refine P_bipush dX9_would_39 bp_10 ?_
        refine P_callSp dX9_would_41 lkX9_72 okX9_outOf ⟨Nat.le_of_ble_eq_true rfl, Nat.le_of_ble_eq_true rfl⟩ (t_outOf l) rfl rfl (Nat.le_of_ble_eq_true rfl) ⟨Nat.le_of_ble_eq_true rfl, Nat.le_of_ble_eq_true rfl⟩ ?_
        refine P_if_eq (tgt := 51) dX9_would_44 (by decide) (fun c44 => ?_) (fun c44 => ?_)
        · have e1 := (b2p _).mp c33; have e2 := (b2p _).mp c44
          have hs0 : spWould σ (nI j) (nI i) kk0 xx0 = PLU + OUT (rvW (gR σ) i kk0 xx0) j (pkT (OUT (rvW (gR σ) i kk0 xx0) j) (rT (gR σ) - 1)) := by unfold spWould; rw [if_pos ⟨inN_nI hj (by omega), inN_nI hi (by omega)⟩, if_neg (fun z => z.elim e1 e2), nI_clamp (by omega), nI_clamp (by omega)]
          obtain ⟨k9, -, hk2, rfl⟩ := ob_nat (a := 0) (b := 20) (by omega) (by omega) e1
          obtain ⟨x9, -, hx2, rfl⟩ := ob_nat (a := 0) (b := 10) (by omega) (by omega) e2
          refine P_aload_n dX9_would_51 rfl ?_
          refine P_get dX9_would_52 flX9_16 k0 rfl ?_
          refine P_aload_n dX9_would_55 rfl ?_
          refine P_get dX9_would_56 flX9_10 k0 rfl ?_
          refine P_callV dX9_would_59 lkX9_104 okX6_copyFrom ⟨Nat.le_of_ble_eq_true rfl, Nat.le_of_ble_eq_true rfl⟩ (t_copyR l k2 k1 (by omega)) rfl rfl k2.at (Nat.le_of_ble_eq_true rfl) ⟨Nat.le_of_ble_eq_true rfl, Nat.le_of_ble_eq_true rfl⟩ (fun v59 G59 q59 => ?_)
          obtain ⟨rfl, y1, hFa⟩ := q59
          have ka := k.oth hFa ⟨_, y1⟩; have k0 := hFa.at k0 (by omega); have k3 := k3.fr hFa (by omega)
          refine P_aload_n dX9_would_62 rfl ?_
          refine P_get dX9_would_63 flX9_16 k0 rfl ?_
          refine P_iload_n dX9_would_66 rfl ?_
          refine P_iload_n dX9_would_67 rfl ?_
          refine P_iload dX9_would_68 rfl ?_
          refine P_callV dX9_would_70 lkX9_253 okX6_setWeights ⟨Nat.le_of_ble_eq_true rfl, Nat.le_of_ble_eq_true rfl⟩ (t_setW l y1 hi) rfl rfl y1.at (Nat.le_of_ble_eq_true rfl) ⟨Nat.le_of_ble_eq_true rfl, Nat.le_of_ble_eq_true rfl⟩ (fun v70 G70 q70 => ?_)
          obtain ⟨rfl, y2, hFb⟩ := q70
          have kb := ka.oth hFb ⟨_, y2⟩; have k0 := hFb.at k0 (by omega); have k3 := k3.fr hFb (by omega)
          refine P_aload_n dX9_would_73 rfl ?_
          refine P_get dX9_would_74 flX9_22 k0 rfl ?_
          refine P_aload_n dX9_would_77 rfl ?_
          refine P_get dX9_would_78 flX9_16 k0 rfl ?_
          refine P_callV dX9_would_81 lkX9_125 okX7_runAll ⟨Nat.le_of_ble_eq_true rfl, Nat.le_of_ble_eq_true rfl⟩ (t_runAll l y2 k3 (by omega) (rVal_W hvr i hk2 hx2)) rfl rfl k3.1 (Nat.le_of_ble_eq_true rfl) ⟨Nat.le_of_ble_eq_true rfl, Nat.le_of_ble_eq_true rfl⟩ (fun v81 G81 q81 => ?_)
          obtain ⟨rfl, hq, hF1⟩ := q81
          have kc := kb.rtg hF1 hq.rout; have k0 := hF1.at k0 (by omega)
          refine P_ldc2 dX9_would_84 kcX9_209 ?_
          refine P_aload_n dX9_would_87 rfl ?_
          refine P_get dX9_would_88 flX9_22 k0 rfl ?_
          refine P_iload_n dX9_would_91 rfl ?_
          refine P_callVp dX9_would_92 lkX9_223 okX7_peakOut ⟨Nat.le_of_ble_eq_true rfl, Nat.le_of_ble_eq_true rfl⟩ (t_peakOut l hq hb hj) rfl rfl (hq.rout.choose_spec.choose_spec.choose_spec.choose_spec.choose_spec.choose_spec.choose_spec.1) (Nat.le_of_ble_eq_true rfl) ⟨Nat.le_of_ble_eq_true rfl, Nat.le_of_ble_eq_true rfl⟩ ?_
          refine P_ladd dX9_would_95 ?_
          exact P_lret dX9_would_96 rfl ⟨Nat.le_refl _, Nat.le_refl _⟩ ⟨by rw [hs0]; rfl, kc, (hFa.wide (by omega) (by omega)).tr ((hFb.wide (by omega) (by omega)).tr (hF1.wide (by omega) (by omega)))⟩
        · have e := b2y c44
          have hs : spWould σ (nI j) (nI i) kk0 xx0 = -1000000002 := by unfold spWould; rw [if_pos ⟨inN_nI hj (by omega), inN_nI hi (by omega)⟩, if_pos (Or.inr e)]
          refine P_ldc2 dX9_would_47 kcX9_221 ?_
          exact P_lret dX9_would_50 rfl ⟨Nat.le_refl _, Nat.le_refl _⟩ ⟨by rw [hs], k, Fr.rf⟩
    · have e := (b2p _).mp c19
      have hs : spWould σ (nI j) s0 kk0 xx0 = -1000000001 := by unfold spWould; rw [if_neg (fun z => e z.2)]
      refine P_ldc2 dX9_would_22 kcX9_201 ?_
      exact P_lret dX9_would_25 rfl ⟨Nat.le_refl _, Nat.le_refl _⟩ ⟨by rw [hs], k, Fr.rf⟩
