set_option maxHeartbeats 4000000 in
set_option maxRecDepth 100000 in
theorem d_weight (l : Launch) {G : PH} {σ : Sg} {r0 wh : Int32} (k : Mod G σ) (hv : sVal σ) : Tri l mX10_weight 0 0 [.ref 164, .int r0, .int wh] G (fun a9 G' => a9 = some (.int (spWeight σ r0 wh)) ∧ Mod G' σ ∧ Fr G G' 164 17) := by
  obtain ⟨o, f, kO⟩ := id k
  obtain ⟨hk, h1, h2, h3, h4, h5, kR, ⟨⟨fi, fo, fs, fa, fb, km⟩, ⟨gs, gf, kl⟩, ⟨fm, kmd⟩⟩⟩ := id kO
  have hb := hv.1.1; have hvr := hv.1.2; have hN : rN (gR σ) ≤ 6 := hb.2.2.2.2; have hT : rT (gR σ) ≤ 24 := hb.2.1; have hT2 : 2 ≤ rT (gR σ) := hb.1
  refine Tri.intro (L := [_, _, _, _, _]) okX10_weight.1 (Nat.le_of_ble_eq_true rfl) rfl ?_
  refine P_aload_n dX10_weight_0 rfl ?_
  refine P_iload_n dX10_weight_1 rfl ?_
  refine P_callVp dX10_weight_2 lkX10_157 okX10_isReach ⟨Nat.le_of_ble_eq_true rfl, Nat.le_of_ble_eq_true rfl⟩ (m_isReach l hk.1 hk.2.1 hk.2.2.1 hb) rfl rfl hk.1 (Nat.le_of_ble_eq_true rfl) ⟨Nat.le_of_ble_eq_true rfl, Nat.le_of_ble_eq_true rfl⟩ ?_
  refine P_if_ne (tgt := 11) dX10_weight_5 (by decide) (fun c5 => ?_) (fun c5 => ?_)
  · obtain ⟨j, hj, rfl⟩ := inN_of (b2y c5) (by omega)
    have hs0 : ∀ w, spWeight σ (nI j) w = spWgt (gR σ) j w := fun w => by unfold spWeight; rw [if_pos (inN_nI hj (by omega)), nI_clamp (by omega)]
    refine P_aload_n dX10_weight_11 rfl ?_
    refine P_iload_n dX10_weight_12 rfl ?_
    refine P_iconst dX10_weight_13 ci_1 ?_
    refine P_callVp dX10_weight_14 lkX10_95 okX10_of ⟨Nat.le_of_ble_eq_true rfl, Nat.le_of_ble_eq_true rfl⟩ (m_of (i := 1) l hk.1 hk.2.1 (by omega)) rfl rfl hk.1 (Nat.le_of_ble_eq_true rfl) ⟨Nat.le_of_ble_eq_true rfl, Nat.le_of_ble_eq_true rfl⟩ ?_
    rw [(hk.2.2.1.2.2.2 j hj).1 1 (by decide)]
    refine P_istore_n (L' := [_, _, _, _, _]) dX10_weight_17 (Nat.le_of_ble_eq_true rfl) rfl ?_
    refine P_aload_n dX10_weight_18 rfl ?_
    refine P_iload_n dX10_weight_19 rfl ?_
    refine P_iconst dX10_weight_20 ci_2 ?_
    refine P_callVp dX10_weight_21 lkX10_95 okX10_of ⟨Nat.le_of_ble_eq_true rfl, Nat.le_of_ble_eq_true rfl⟩ (m_of (i := 2) l hk.1 hk.2.1 (by omega)) rfl rfl hk.1 (Nat.le_of_ble_eq_true rfl) ⟨Nat.le_of_ble_eq_true rfl, Nat.le_of_ble_eq_true rfl⟩ ?_
    rw [(hk.2.2.1.2.2.2 j hj).1 2 (by decide)]
    refine P_istore (L' := [_, _, _, _, _]) dX10_weight_24 (Nat.le_of_ble_eq_true rfl) rfl ?_
    refine P_iload_n dX10_weight_26 rfl ?_
    by_cases w0 : wh = 0
    · subst w0
      refine P_tabIn (off := 29) (tgt := 56) dX10_weight_27 (by decide) (by decide) (by decide) (by decide) ?_
      have hs : spWeight σ (nI j) 0 = wA (nI (rD (gR σ))) (rF (gR σ) j 1) (rF (gR σ) j 2) + 1000 := (hs0 _).trans (by unfold spWgt; rw [if_pos rfl])
      refine P_aload_n dX10_weight_56 rfl ?_
      refine P_iload_n dX10_weight_57 rfl ?_
      refine P_iload dX10_weight_58 rfl ?_
      refine P_callVp dX10_weight_60 lkX10_79 okX10_weightA ⟨Nat.le_of_ble_eq_true rfl, Nat.le_of_ble_eq_true rfl⟩ (m_weightA l hk.1 hk.2.1 hk.2.2.1) rfl rfl hk.1 (Nat.le_of_ble_eq_true rfl) ⟨Nat.le_of_ble_eq_true rfl, Nat.le_of_ble_eq_true rfl⟩ ?_
      refine P_sipush dX10_weight_63 sp_1000 ?_
      refine P_iadd dX10_weight_66 ?_
      exact P_iret dX10_weight_67 rfl ⟨Nat.le_refl _, Nat.le_refl _⟩ ⟨by rw [hs], k, Fr.rf⟩
    by_cases w1 : wh = 1
    · subst w1
      refine P_tabIn (off := 41) (tgt := 68) dX10_weight_27 (by decide) (by decide) (by decide) (by decide) ?_
      have hs : spWeight σ (nI j) 1 = wB (nI (rD (gR σ))) (rF (gR σ) j 1) (rF (gR σ) j 2) := (hs0 _).trans (by unfold spWgt; rw [if_neg (by decide), if_pos rfl])
      refine P_aload_n dX10_weight_68 rfl ?_
      refine P_iload_n dX10_weight_69 rfl ?_
      refine P_iload dX10_weight_70 rfl ?_
      refine P_callVp dX10_weight_72 lkX10_88 okX10_weightB ⟨Nat.le_of_ble_eq_true rfl, Nat.le_of_ble_eq_true rfl⟩ (m_weightB l hk.1 hk.2.1 hk.2.2.1) rfl rfl hk.1 (Nat.le_of_ble_eq_true rfl) ⟨Nat.le_of_ble_eq_true rfl, Nat.le_of_ble_eq_true rfl⟩ ?_
      exact P_iret dX10_weight_75 rfl ⟨Nat.le_refl _, Nat.le_refl _⟩ ⟨by rw [hs], k, Fr.rf⟩
    by_cases w2 : wh = 2
    · subst w2
      refine P_tabIn (off := 49) (tgt := 76) dX10_weight_27 (by decide) (by decide) (by decide) (by decide) ?_
      have hs : spWeight σ (nI j) 2 = wC (nI (rD (gR σ))) (rF (gR σ) j 1) (rF (gR σ) j 2) + 1000 := (hs0 _).trans (by unfold spWgt; rw [if_neg (by decide), if_neg (by decide), if_pos rfl])
      refine P_aload_n dX10_weight_76 rfl ?_
      refine P_iload_n dX10_weight_77 rfl ?_
      refine P_iload dX10_weight_78 rfl ?_
      refine P_callVp dX10_weight_80 lkX10_82 okX10_weightC ⟨Nat.le_of_ble_eq_true rfl, Nat.le_of_ble_eq_true rfl⟩ (m_weightC l hk.1 hk.2.1 hk.2.2.1) rfl rfl hk.1 (Nat.le_of_ble_eq_true rfl) ⟨Nat.le_of_ble_eq_true rfl, Nat.le_of_ble_eq_true rfl⟩ ?_
      refine P_sipush dX10_weight_83 sp_1000 ?_
      refine P_iadd dX10_weight_86 ?_
      exact P_iret dX10_weight_87 rfl ⟨Nat.le_refl _, Nat.le_refl _⟩ ⟨by rw [hs], k, Fr.rf⟩
    by_cases w3 : wh = 3
    · subst w3
      refine P_tabIn (off := 61) (tgt := 88) dX10_weight_27 (by decide) (by decide) (by decide) (by decide) ?_
      have hs : spWeight σ (nI j) 3 = wM (nI (rD (gR σ))) (rF (gR σ) j 1) (rF (gR σ) j 2) := (hs0 _).trans (by unfold spWgt; rw [if_neg (by decide), if_neg (by decide), if_neg (by decide), if_pos rfl])
      refine P_aload_n dX10_weight_88 rfl ?_
      refine P_iload_n dX10_weight_89 rfl ?_
      refine P_iload dX10_weight_90 rfl ?_
      refine P_callVp dX10_weight_92 lkX10_85 okX10_weightM ⟨Nat.le_of_ble_eq_true rfl, Nat.le_of_ble_eq_true rfl⟩ (m_weightM l hk.1 hk.2.1 hk.2.2.1) rfl rfl hk.1 (Nat.le_of_ble_eq_true rfl) ⟨Nat.le_of_ble_eq_true rfl, Nat.le_of_ble_eq_true rfl⟩ ?_
      exact P_iret dX10_weight_95 rfl ⟨Nat.le_refl _, Nat.le_refl _⟩ ⟨by rw [hs], k, Fr.rf⟩
    refine P_tabOut (tgt := 96) dX10_weight_27 (tabo (n := 3) (fun j hj => by rcases (by omega : j = 0 ∨ j = 1 ∨ j = 2 ∨ j = 3) with rfl | rfl | rfl | rfl <;> assumption)) (by decide) ?_
    have hs : spWeight σ (nI j) wh = OUTS := (hs0 _).trans (by unfold spWgt; rw [if_neg w0, if_neg w1, if_neg w2, if_neg w3])
    refine P_ldc dX10_weight_96 kcX10_161 ?_
    exact P_iret dX10_weight_98 rfl ⟨Nat.le_refl _, Nat.le_refl _⟩ ⟨by rw [hs], k, Fr.rf⟩
  · have e := (b2p _).mp c5
    have hs : spWeight σ r0 wh = UNK := by unfold spWeight; rw [if_neg e]
    refine P_ldc dX10_weight_8 kcX10_160 ?_
    exact P_iret dX10_weight_10 rfl ⟨Nat.le_refl _, Nat.le_refl _⟩ ⟨by rw [hs], k, Fr.rf⟩
set_option maxHeartbeats 4000000 in
set_option maxRecDepth 100000 in
theorem d_flow (l : Launch) {G : PH} {σ : Sg} {r0 t0 wh : Int32} (k : Mod G σ) (hv : sVal σ) : Tri l mX10_flow 0 0 [.ref 164, .int r0, .int t0, .int wh] G (fun a9 G' => a9 = some (.long (spFlow σ r0 t0 wh)) ∧ Mod G' σ ∧ Fr G G' 164 17) := by
  obtain ⟨o, f, kO⟩ := id k
  obtain ⟨hk, h1, h2, h3, h4, h5, kR, ⟨⟨fi, fo, fs, fa, fb, km⟩, ⟨gs, gf, kl⟩, ⟨fm, kmd⟩⟩⟩ := id kO
  have hb := hv.1.1; have hvr := hv.1.2; have hN : rN (gR σ) ≤ 6 := hb.2.2.2.2; have hT : rT (gR σ) ≤ 24 := hb.2.1; have hT2 : 2 ≤ rT (gR σ) := hb.1
  refine Tri.intro (L := [_, _, _, _, _]) okX10_flow.1 (Nat.le_of_ble_eq_true rfl) rfl ?_
  refine P_aload_n dX10_flow_0 rfl ?_
  refine P_iload_n dX10_flow_1 rfl ?_
  refine P_callVp dX10_flow_2 lkX10_157 okX10_isReach ⟨Nat.le_of_ble_eq_true rfl, Nat.le_of_ble_eq_true rfl⟩ (m_isReach l hk.1 hk.2.1 hk.2.2.1 hb) rfl rfl hk.1 (Nat.le_of_ble_eq_true rfl) ⟨Nat.le_of_ble_eq_true rfl, Nat.le_of_ble_eq_true rfl⟩ ?_
  refine P_if_eq (tgt := 16) dX10_flow_5 (by decide) (fun c5 => ?_) (fun c5 => ?_)
  · have e := (b2p _).mp c5
    have hs : spFlow σ r0 t0 wh = -1000000001 := by unfold spFlow; rw [if_neg (fun z => e z.1)]
    refine P_ldc2 dX10_flow_16 kcX10_174 ?_
    exact P_lret dX10_flow_19 rfl ⟨Nat.le_refl _, Nat.le_refl _⟩ ⟨by rw [hs], k, Fr.rf⟩
  · obtain ⟨j, hj, rfl⟩ := inN_of (b2y c5) (by omega)
    refine P_aload_n dX10_flow_8 rfl ?_
    refine P_iload_n dX10_flow_9 rfl ?_
    refine P_callVp dX10_flow_10 lkX10_171 okX10_isTime ⟨Nat.le_of_ble_eq_true rfl, Nat.le_of_ble_eq_true rfl⟩ (m_isTime l hk.1 hk.2.1 hk.2.2.1 hb) rfl rfl hk.1 (Nat.le_of_ble_eq_true rfl) ⟨Nat.le_of_ble_eq_true rfl, Nat.le_of_ble_eq_true rfl⟩ ?_
    refine P_if_ne (tgt := 20) dX10_flow_13 (by decide) (fun c13 => ?_) (fun c13 => ?_)
    · obtain ⟨i, hi, rfl⟩ := inN_of (b2y c13) (by omega)
      have hs0 : ∀ w, spFlow σ (nI j) (nI i) w = spFlw (gR σ) j i w := fun w => by unfold spFlow; rw [if_pos ⟨inN_nI hj (by omega), inN_nI hi (by omega)⟩, nI_clamp (by omega), nI_clamp (by omega)]
      refine P_aload_n dX10_flow_20 rfl ?_
      refine P_callV dX10_flow_21 lkX10_162 okX10_flowsNow ⟨Nat.le_of_ble_eq_true rfl, Nat.le_of_ble_eq_true rfl⟩ (m_flowsNow l hk km hvr) rfl rfl hk.1 (Nat.le_of_ble_eq_true rfl) ⟨Nat.le_of_ble_eq_true rfl, Nat.le_of_ble_eq_true rfl⟩ (fun v21 G21 q21 => ?_)
      obtain ⟨rfl, ⟨fi1, fo1, fs1, fa1, fb1, km1, hg1⟩, hF1⟩ := q21
      have kO1 := kO.fl hF1 ⟨_, _, _, _, _, km1⟩
      have hk1 := kO1.1
      have hw1 : Fr G G21 164 17 := hF1.wide (by omega) (by omega)
      refine P_bipush dX10_flow_24 bp_24 ?_
      refine P_iload_n dX10_flow_26 rfl ?_
      refine P_imul dX10_flow_27 ?_
      refine P_iload_n dX10_flow_28 rfl ?_
      refine P_iadd dX10_flow_29 ?_
      rw [ix24]
      refine P_istore (L' := [_, _, _, _, _]) dX10_flow_30 (Nat.le_of_ble_eq_true rfl) rfl ?_
      refine P_iload_n dX10_flow_32 rfl ?_
      by_cases w0 : wh = 0
      · subst w0
        refine P_tabIn (off := 35) (tgt := 68) dX10_flow_33 (by decide) (by decide) (by decide) (by decide) ?_
        have hs : spFlow σ (nI j) (nI i) 0 = (rS (gR σ) j i).toInt64 := (hs0 _).trans (by unfold spFlw; rw [if_pos rfl])
        refine P_aload_n dX10_flow_68 rfl ?_
        refine P_iload_n dX10_flow_69 rfl ?_
        refine P_iconst dX10_flow_70 ci_4 ?_
        refine P_iload_n dX10_flow_71 rfl ?_
        refine P_iadd dX10_flow_72 ?_
        rw [ix4]
        refine P_callVp dX10_flow_73 lkX10_95 okX10_of ⟨Nat.le_of_ble_eq_true rfl, Nat.le_of_ble_eq_true rfl⟩ (m_of l hk1.1 hk1.2.1 (by omega)) rfl rfl hk1.1 (Nat.le_of_ble_eq_true rfl) ⟨Nat.le_of_ble_eq_true rfl, Nat.le_of_ble_eq_true rfl⟩ ?_
        rw [((hk1.2.2.1.2.2.2 j hj).2 i (by omega)).1]
        refine P_i2l dX10_flow_76 ?_
        exact P_lret dX10_flow_77 rfl ⟨Nat.le_refl _, Nat.le_refl _⟩ ⟨by rw [hs], ⟨_, _, kO1⟩, hw1⟩
      by_cases w1 : wh = 1
      · subst w1
        refine P_tabIn (off := 45) (tgt := 78) dX10_flow_33 (by decide) (by decide) (by decide) (by decide) ?_
        have hs : spFlow σ (nI j) (nI i) 1 = (rE (gR σ) j i).toInt64 := (hs0 _).trans (by unfold spFlw; rw [if_neg (by decide), if_pos rfl])
        refine P_aload_n dX10_flow_78 rfl ?_
        refine P_iload_n dX10_flow_79 rfl ?_
        refine P_bipush dX10_flow_80 bp_28 ?_
        refine P_iload_n dX10_flow_82 rfl ?_
        refine P_iadd dX10_flow_83 ?_
        rw [ix28]
        refine P_callVp dX10_flow_84 lkX10_95 okX10_of ⟨Nat.le_of_ble_eq_true rfl, Nat.le_of_ble_eq_true rfl⟩ (m_of l hk1.1 hk1.2.1 (by omega)) rfl rfl hk1.1 (Nat.le_of_ble_eq_true rfl) ⟨Nat.le_of_ble_eq_true rfl, Nat.le_of_ble_eq_true rfl⟩ ?_
        rw [((hk1.2.2.1.2.2.2 j hj).2 i (by omega)).2]
        refine P_i2l dX10_flow_87 ?_
        exact P_lret dX10_flow_88 rfl ⟨Nat.le_refl _, Nat.le_refl _⟩ ⟨by rw [hs], ⟨_, _, kO1⟩, hw1⟩
      by_cases w2 : wh = 2
      · subst w2
        refine P_tabIn (off := 56) (tgt := 89) dX10_flow_33 (by decide) (by decide) (by decide) (by decide) ?_
        have hs : spFlow σ (nI j) (nI i) 2 = PLU + INN (gR σ) j i := (hs0 _).trans (by unfold spFlw; rw [if_neg (by decide), if_neg (by decide), if_pos rfl])
        refine P_aload_n dX10_flow_89 rfl ?_
        refine P_get dX10_flow_90 flX10_40 hk1.1 rfl ?_
        refine P_iload dX10_flow_93 rfl ?_
        refine P_lald dX10_flow_95 km1.1 (vp_in_nI (by omega) (by decide)) ?_
        rw [nI_clamp (by omega), (hg1 j (Nat.zero_le _) hj i hi).1]
        refine P_ldc2 dX10_flow_96 kcX10_176 ?_
        refine P_ladd dX10_flow_99 ?_
        rw [Int64.add_comm]
        exact P_lret dX10_flow_100 rfl ⟨Nat.le_refl _, Nat.le_refl _⟩ ⟨by rw [hs], ⟨_, _, kO1⟩, hw1⟩
      by_cases w3 : wh = 3
      · subst w3
        refine P_tabIn (off := 68) (tgt := 101) dX10_flow_33 (by decide) (by decide) (by decide) (by decide) ?_
        have hs : spFlow σ (nI j) (nI i) 3 = PLU + OUT (gR σ) j i := (hs0 _).trans (by unfold spFlw; rw [if_neg (by decide), if_neg (by decide), if_neg (by decide), if_pos rfl])
        refine P_aload_n dX10_flow_101 rfl ?_
        refine P_get dX10_flow_102 flX10_43 hk1.1 rfl ?_
        refine P_iload dX10_flow_105 rfl ?_
        refine P_lald dX10_flow_107 km1.2.1 (vp_in_nI (by omega) (by decide)) ?_
        rw [nI_clamp (by omega), (hg1 j (Nat.zero_le _) hj i hi).2.1]
        refine P_ldc2 dX10_flow_108 kcX10_176 ?_
        refine P_ladd dX10_flow_111 ?_
        rw [Int64.add_comm]
        exact P_lret dX10_flow_112 rfl ⟨Nat.le_refl _, Nat.le_refl _⟩ ⟨by rw [hs], ⟨_, _, kO1⟩, hw1⟩
      by_cases w4 : wh = 4
      · subst w4
        refine P_tabIn (off := 80) (tgt := 113) dX10_flow_33 (by decide) (by decide) (by decide) (by decide) ?_
        have hs : spFlow σ (nI j) (nI i) 4 = PLU + STO (gR σ) j i := (hs0 _).trans (by unfold spFlw; rw [if_neg (by decide), if_neg (by decide), if_neg (by decide), if_neg (by decide), if_pos rfl])
        refine P_aload_n dX10_flow_113 rfl ?_
        refine P_get dX10_flow_114 flX10_46 hk1.1 rfl ?_
        refine P_iload dX10_flow_117 rfl ?_
        refine P_lald dX10_flow_119 km1.2.2.1 (vp_in_nI (by omega) (by decide)) ?_
        rw [nI_clamp (by omega), (hg1 j (Nat.zero_le _) hj i hi).2.2]
        refine P_ldc2 dX10_flow_120 kcX10_176 ?_
        refine P_ladd dX10_flow_123 ?_
        rw [Int64.add_comm]
        exact P_lret dX10_flow_124 rfl ⟨Nat.le_refl _, Nat.le_refl _⟩ ⟨by rw [hs], ⟨_, _, kO1⟩, hw1⟩
      refine P_tabOut (tgt := 125) dX10_flow_33 (tabo (n := 4) (fun j hj => by rcases (by omega : j = 0 ∨ j = 1 ∨ j = 2 ∨ j = 3 ∨ j = 4) with rfl | rfl | rfl | rfl | rfl <;> assumption)) (by decide) ?_
      have hs : spFlow σ (nI j) (nI i) wh = -1000000002 := (hs0 _).trans (by unfold spFlw; rw [if_neg w0, if_neg w1, if_neg w2, if_neg w3, if_neg w4])
      refine P_ldc2 dX10_flow_125 kcX10_178 ?_
      exact P_lret dX10_flow_128 rfl ⟨Nat.le_refl _, Nat.le_refl _⟩ ⟨by rw [hs], ⟨_, _, kO1⟩, hw1⟩
    · have e := (b2p _).mp c13
      have hs : spFlow σ (nI j) t0 wh = -1000000001 := by unfold spFlow; rw [if_neg (fun z => e z.2)]
      refine P_ldc2 dX10_flow_16 kcX10_174 ?_
      exact P_lret dX10_flow_19 rfl ⟨Nat.le_refl _, Nat.le_refl _⟩ ⟨by rw [hs], k, Fr.rf⟩
set_option maxHeartbeats 4000000 in
set_option maxRecDepth 100000 in
theorem d_sum (l : Launch) {G : PH} {σ : Sg} {r0 wh : Int32} (k : Mod G σ) (hv : sVal σ) : Tri l mX10_sum 0 0 [.ref 164, .int r0, .int wh] G (fun a9 G' => a9 = some (.long (spSum σ r0 wh)) ∧ Mod G' σ ∧ Fr G G' 164 17) := by
  obtain ⟨o, f, kO⟩ := id k
  obtain ⟨hk, h1, h2, h3, h4, h5, kR, ⟨⟨fi, fo, fs, fa, fb, km⟩, ⟨gs, gf, kl⟩, ⟨fm, kmd⟩⟩⟩ := id kO
  have hb := hv.1.1; have hvr := hv.1.2; have hN : rN (gR σ) ≤ 6 := hb.2.2.2.2; have hT : rT (gR σ) ≤ 24 := hb.2.1; have hT2 : 2 ≤ rT (gR σ) := hb.1
  refine Tri.intro (L := [_, _, _]) okX10_sum.1 (Nat.le_of_ble_eq_true rfl) rfl ?_
  refine P_aload_n dX10_sum_0 rfl ?_
  refine P_iload_n dX10_sum_1 rfl ?_
  refine P_callVp dX10_sum_2 lkX10_157 okX10_isReach ⟨Nat.le_of_ble_eq_true rfl, Nat.le_of_ble_eq_true rfl⟩ (m_isReach l hk.1 hk.2.1 hk.2.2.1 hb) rfl rfl hk.1 (Nat.le_of_ble_eq_true rfl) ⟨Nat.le_of_ble_eq_true rfl, Nat.le_of_ble_eq_true rfl⟩ ?_
  refine P_if_ne (tgt := 12) dX10_sum_5 (by decide) (fun c5 => ?_) (fun c5 => ?_)
  · obtain ⟨j, hj, rfl⟩ := inN_of (b2y c5) (by omega)
    refine P_iload_n dX10_sum_12 rfl ?_
    refine P_iconst dX10_sum_13 ci_0 ?_
    refine P_bipush dX10_sum_14 bp_7 ?_
    refine P_callSp dX10_sum_16 lkX10_68 okX10_in ⟨Nat.le_of_ble_eq_true rfl, Nat.le_of_ble_eq_true rfl⟩ (m_in l) rfl rfl (Nat.le_of_ble_eq_true rfl) ⟨Nat.le_of_ble_eq_true rfl, Nat.le_of_ble_eq_true rfl⟩ ?_
    refine P_if_ne (tgt := 26) dX10_sum_19 (by decide) (fun c19 => ?_) (fun c19 => ?_)
    · have e1 := b2w c19
      have hs0 : spSum σ (nI j) wh = spSm (gR σ) j wh := by unfold spSum; rw [if_pos (inN_nI hj (by omega)), if_neg e1, nI_clamp (by omega)]
      refine P_aload_n dX10_sum_26 rfl ?_
      refine P_callV dX10_sum_27 lkX10_162 okX10_flowsNow ⟨Nat.le_of_ble_eq_true rfl, Nat.le_of_ble_eq_true rfl⟩ (m_flowsNow l hk km hvr) rfl rfl hk.1 (Nat.le_of_ble_eq_true rfl) ⟨Nat.le_of_ble_eq_true rfl, Nat.le_of_ble_eq_true rfl⟩ (fun v27 G27 q27 => ?_)
      obtain ⟨rfl, ⟨fi1, fo1, fs1, fa1, fb1, km1, hg1⟩, hF1⟩ := q27
      have kO1 := kO.fl hF1 ⟨_, _, _, _, _, km1⟩
      have hk1 := kO1.1
      have hw1 : Fr G G27 164 17 := hF1.wide (by omega) (by omega)
      refine P_iload_n dX10_sum_30 rfl ?_
      by_cases w0 : wh = 0
      · subst w0
        refine P_tabIn (off := 33) (tgt := 64) dX10_sum_31 (by decide) (by decide) (by decide) (by decide) ?_
        have hs : spSum σ (nI j) 0 = PLU + INN (gR σ) j (pkT (INN (gR σ) j) (rT (gR σ) - 1)) := hs0.trans (by unfold spSm; rw [if_pos rfl])
        refine P_aload_n dX10_sum_64 rfl ?_
        refine P_aload_n dX10_sum_65 rfl ?_
        refine P_get dX10_sum_66 flX10_40 hk1.1 rfl ?_
        refine P_iload_n dX10_sum_69 rfl ?_
        refine P_callVp dX10_sum_70 lkX10_180 okX10_peak ⟨Nat.le_of_ble_eq_true rfl, Nat.le_of_ble_eq_true rfl⟩ (m_peak l hk1 km1.1 (by omega)) rfl rfl hk1.1 (Nat.le_of_ble_eq_true rfl) ⟨Nat.le_of_ble_eq_true rfl, Nat.le_of_ble_eq_true rfl⟩ ?_
        have eC : pkT (fun i => fi1 (24 * j + i)) (rT (gR σ) - 1) = pkT (INN (gR σ) j) (rT (gR σ) - 1) := pkT_cong (fun i hi => (hg1 j (Nat.zero_le _) hj i (by omega)).1)
        have hp := pkT_le (INN (gR σ) j) (rT (gR σ) - 1)
        rw [eC]
        show WP _ _ _ _ _ _ _ _ _ (.long (fi1 (24 * j + pkT (INN (gR σ) j) (rT (gR σ) - 1))) :: _) _
        rw [(hg1 j (Nat.zero_le _) hj _ (by omega)).1]
        refine P_ldc2 dX10_sum_73 kcX10_176 ?_
        refine P_ladd dX10_sum_76 ?_
        rw [Int64.add_comm]
        exact P_lret dX10_sum_77 rfl ⟨Nat.le_refl _, Nat.le_refl _⟩ ⟨by rw [hs], ⟨_, _, kO1⟩, hw1⟩
      by_cases w1 : wh = 1
      · subst w1
        refine P_tabIn (off := 47) (tgt := 78) dX10_sum_31 (by decide) (by decide) (by decide) (by decide) ?_
        have hs : spSum σ (nI j) 1 = PLU + OUT (gR σ) j (pkT (OUT (gR σ) j) (rT (gR σ) - 1)) := hs0.trans (by unfold spSm; rw [if_neg (by decide), if_pos rfl])
        refine P_aload_n dX10_sum_78 rfl ?_
        refine P_aload_n dX10_sum_79 rfl ?_
        refine P_get dX10_sum_80 flX10_43 hk1.1 rfl ?_
        refine P_iload_n dX10_sum_83 rfl ?_
        refine P_callVp dX10_sum_84 lkX10_180 okX10_peak ⟨Nat.le_of_ble_eq_true rfl, Nat.le_of_ble_eq_true rfl⟩ (m_peak l hk1 km1.2.1 (by omega)) rfl rfl hk1.1 (Nat.le_of_ble_eq_true rfl) ⟨Nat.le_of_ble_eq_true rfl, Nat.le_of_ble_eq_true rfl⟩ ?_
        have eC : pkT (fun i => fo1 (24 * j + i)) (rT (gR σ) - 1) = pkT (OUT (gR σ) j) (rT (gR σ) - 1) := pkT_cong (fun i hi => (hg1 j (Nat.zero_le _) hj i (by omega)).2.1)
        have hp := pkT_le (OUT (gR σ) j) (rT (gR σ) - 1)
        rw [eC]
        show WP _ _ _ _ _ _ _ _ _ (.long (fo1 (24 * j + pkT (OUT (gR σ) j) (rT (gR σ) - 1))) :: _) _
        rw [(hg1 j (Nat.zero_le _) hj _ (by omega)).2.1]
        refine P_ldc2 dX10_sum_87 kcX10_176 ?_
        refine P_ladd dX10_sum_90 ?_
        rw [Int64.add_comm]
        exact P_lret dX10_sum_91 rfl ⟨Nat.le_refl _, Nat.le_refl _⟩ ⟨by rw [hs], ⟨_, _, kO1⟩, hw1⟩
      by_cases w2 : wh = 2
      · subst w2
        refine P_tabIn (off := 61) (tgt := 92) dX10_sum_31 (by decide) (by decide) (by decide) (by decide) ?_
        have hs : spSum σ (nI j) 2 = PLU + mnF (OUT (gR σ) j) (rT (gR σ) - 1) := hs0.trans (by unfold spSm; rw [if_neg (by decide), if_neg (by decide), if_pos rfl])
        refine P_aload_n dX10_sum_92 rfl ?_
        refine P_iload_n dX10_sum_93 rfl ?_
        refine P_callVp dX10_sum_94 lkX10_184 okX10_leastOut ⟨Nat.le_of_ble_eq_true rfl, Nat.le_of_ble_eq_true rfl⟩ (m_leastOut l hk1 km1.2.1 (by omega)) rfl rfl hk1.1 (Nat.le_of_ble_eq_true rfl) ⟨Nat.le_of_ble_eq_true rfl, Nat.le_of_ble_eq_true rfl⟩ ?_
        have eC : mnF (fun i => fo1 (24 * j + i)) (rT (gR σ) - 1) = mnF (OUT (gR σ) j) (rT (gR σ) - 1) := mnF_cong (fun i hi => (hg1 j (Nat.zero_le _) hj i (by omega)).2.1)
        rw [eC]
        refine P_ldc2 dX10_sum_97 kcX10_176 ?_
        refine P_ladd dX10_sum_100 ?_
        rw [Int64.add_comm]
        exact P_lret dX10_sum_101 rfl ⟨Nat.le_refl _, Nat.le_refl _⟩ ⟨by rw [hs], ⟨_, _, kO1⟩, hw1⟩
      by_cases w3 : wh = 3
      · subst w3
        refine P_tabIn (off := 71) (tgt := 102) dX10_sum_31 (by decide) (by decide) (by decide) (by decide) ?_
        have hs : spSum σ (nI j) 3 = PLU + voF (nI (rD (gR σ))).toInt64 (INN (gR σ) j) (rT (gR σ) - 1) := hs0.trans (by unfold spSm; rw [if_neg (by decide), if_neg (by decide), if_neg (by decide), if_pos rfl])
        refine P_aload_n dX10_sum_102 rfl ?_
        refine P_aload_n dX10_sum_103 rfl ?_
        refine P_get dX10_sum_104 flX10_40 hk1.1 rfl ?_
        refine P_iload_n dX10_sum_107 rfl ?_
        refine P_callVp dX10_sum_108 lkX10_187 okX10_volume ⟨Nat.le_of_ble_eq_true rfl, Nat.le_of_ble_eq_true rfl⟩ (m_volume l hk1 km1.1 (by omega)) rfl rfl hk1.1 (Nat.le_of_ble_eq_true rfl) ⟨Nat.le_of_ble_eq_true rfl, Nat.le_of_ble_eq_true rfl⟩ ?_
        have eC : voF (nI (rD (gR σ))).toInt64 (fun i => fi1 (24 * j + i)) (rT (gR σ) - 1) = voF (nI (rD (gR σ))).toInt64 (INN (gR σ) j) (rT (gR σ) - 1) := voF_cong (fun i hi => (hg1 j (Nat.zero_le _) hj i (by omega)).1)
        rw [eC]
        refine P_ldc2 dX10_sum_111 kcX10_176 ?_
        refine P_ladd dX10_sum_114 ?_
        rw [Int64.add_comm]
        exact P_lret dX10_sum_115 rfl ⟨Nat.le_refl _, Nat.le_refl _⟩ ⟨by rw [hs], ⟨_, _, kO1⟩, hw1⟩
      by_cases w4 : wh = 4
      · subst w4
        refine P_tabIn (off := 85) (tgt := 116) dX10_sum_31 (by decide) (by decide) (by decide) (by decide) ?_
        have hs : spSum σ (nI j) 4 = PLU + voF (nI (rD (gR σ))).toInt64 (OUT (gR σ) j) (rT (gR σ) - 1) := hs0.trans (by unfold spSm; rw [if_neg (by decide), if_neg (by decide), if_neg (by decide), if_neg (by decide), if_pos rfl])
        refine P_aload_n dX10_sum_116 rfl ?_
        refine P_aload_n dX10_sum_117 rfl ?_
        refine P_get dX10_sum_118 flX10_43 hk1.1 rfl ?_
        refine P_iload_n dX10_sum_121 rfl ?_
        refine P_callVp dX10_sum_122 lkX10_187 okX10_volume ⟨Nat.le_of_ble_eq_true rfl, Nat.le_of_ble_eq_true rfl⟩ (m_volume l hk1 km1.2.1 (by omega)) rfl rfl hk1.1 (Nat.le_of_ble_eq_true rfl) ⟨Nat.le_of_ble_eq_true rfl, Nat.le_of_ble_eq_true rfl⟩ ?_
        have eC : voF (nI (rD (gR σ))).toInt64 (fun i => fo1 (24 * j + i)) (rT (gR σ) - 1) = voF (nI (rD (gR σ))).toInt64 (OUT (gR σ) j) (rT (gR σ) - 1) := voF_cong (fun i hi => (hg1 j (Nat.zero_le _) hj i (by omega)).2.1)
        rw [eC]
        refine P_ldc2 dX10_sum_125 kcX10_176 ?_
        refine P_ladd dX10_sum_128 ?_
        rw [Int64.add_comm]
        exact P_lret dX10_sum_129 rfl ⟨Nat.le_refl _, Nat.le_refl _⟩ ⟨by rw [hs], ⟨_, _, kO1⟩, hw1⟩
      refine P_tabOut (tgt := 130) dX10_sum_31 (tabo (n := 4) (fun j hj => by rcases (by omega : j = 0 ∨ j = 1 ∨ j = 2 ∨ j = 3 ∨ j = 4) with rfl | rfl | rfl | rfl | rfl <;> assumption)) (by decide) ?_
      have hs : spSum σ (nI j) wh = spFts (gR σ) j wh := hs0.trans (by unfold spSm; rw [if_neg w0, if_neg w1, if_neg w2, if_neg w3, if_neg w4])
      refine P_aload_n dX10_sum_130 rfl ?_
      refine P_iload_n dX10_sum_131 rfl ?_
      refine P_iload_n dX10_sum_132 rfl ?_
      refine P_callV dX10_sum_133 lkX10_190 okX10_fittedSum ⟨Nat.le_of_ble_eq_true rfl, Nat.le_of_ble_eq_true rfl⟩ (m_fittedSum l kO1 hv km1 hj (fun i hi => (hg1 j (Nat.zero_le _) hj i hi).1)) rfl rfl hk1.1 (Nat.le_of_ble_eq_true rfl) ⟨Nat.le_of_ble_eq_true rfl, Nat.le_of_ble_eq_true rfl⟩ (fun v133 G133 q133 => ?_)
      obtain ⟨rfl, kc, hFc⟩ := q133
      exact P_lret dX10_sum_136 rfl ⟨Nat.le_refl _, Nat.le_refl _⟩ ⟨by rw [hs], kc, hw1.tr hFc⟩
    · have e := b2z c19
      have hs : spSum σ (nI j) wh = -1000000002 := by unfold spSum; rw [if_pos (inN_nI hj (by omega)), if_pos e]
      refine P_ldc2 dX10_sum_22 kcX10_178 ?_
      exact P_lret dX10_sum_25 rfl ⟨Nat.le_refl _, Nat.le_refl _⟩ ⟨by rw [hs], k, Fr.rf⟩
  · have e := (b2p _).mp c5
    have hs : spSum σ r0 wh = -1000000001 := by unfold spSum; rw [if_neg e]
    refine P_ldc2 dX10_sum_8 kcX10_174 ?_
    exact P_lret dX10_sum_11 rfl ⟨Nat.le_refl _, Nat.le_refl _⟩ ⟨by rw [hs], k, Fr.rf⟩
set_option maxHeartbeats 4000000 in
set_option maxRecDepth 100000 in
theorem d_would (l : Launch) {G : PH} {σ : Sg} {r0 s0 kk0 xx0 : Int32} (k : Mod G σ) (hv : sVal σ) : Tri l mX10_would 0 0 [.ref 164, .int r0, .int s0, .int kk0, .int xx0] G (fun a9 G' => a9 = some (.long (spWould σ r0 s0 kk0 xx0)) ∧ Mod G' σ ∧ Fr G G' 164 17) := by
  obtain ⟨o, f, kO⟩ := id k
  obtain ⟨hk, h1, h2, h3, h4, h5, kR, ⟨⟨fi, fo, fs, fa, fb, km⟩, ⟨gs, gf, kl⟩, ⟨fm, kmd⟩⟩⟩ := id kO
  have hb := hv.1.1; have hvr := hv.1.2; have hN : rN (gR σ) ≤ 6 := hb.2.2.2.2; have hT : rT (gR σ) ≤ 24 := hb.2.1; have hT2 : 2 ≤ rT (gR σ) := hb.1
  refine Tri.intro (L := [_, _, _, _, _]) okX10_would.1 (Nat.le_of_ble_eq_true rfl) rfl ?_
  refine P_aload_n dX10_would_0 rfl ?_
  refine P_iload_n dX10_would_1 rfl ?_
  refine P_callVp dX10_would_2 lkX10_157 okX10_isReach ⟨Nat.le_of_ble_eq_true rfl, Nat.le_of_ble_eq_true rfl⟩ (m_isReach l hk.1 hk.2.1 hk.2.2.1 hb) rfl rfl hk.1 (Nat.le_of_ble_eq_true rfl) ⟨Nat.le_of_ble_eq_true rfl, Nat.le_of_ble_eq_true rfl⟩ ?_
  refine P_if_eq (tgt := 16) dX10_would_5 (by decide) (fun c5 => ?_) (fun c5 => ?_)
  · have e := (b2p _).mp c5
    have hs : spWould σ r0 s0 kk0 xx0 = -1000000001 := by unfold spWould; rw [if_neg (fun z => e z.1)]
    refine P_ldc2 dX10_would_16 kcX10_174 ?_
    exact P_lret dX10_would_19 rfl ⟨Nat.le_refl _, Nat.le_refl _⟩ ⟨by rw [hs], k, Fr.rf⟩
  · obtain ⟨j, hj, rfl⟩ := inN_of (b2y c5) (by omega)
    refine P_aload_n dX10_would_8 rfl ?_
    refine P_iload_n dX10_would_9 rfl ?_
    refine P_callVp dX10_would_10 lkX10_157 okX10_isReach ⟨Nat.le_of_ble_eq_true rfl, Nat.le_of_ble_eq_true rfl⟩ (m_isReach l hk.1 hk.2.1 hk.2.2.1 hb) rfl rfl hk.1 (Nat.le_of_ble_eq_true rfl) ⟨Nat.le_of_ble_eq_true rfl, Nat.le_of_ble_eq_true rfl⟩ ?_
    refine P_if_ne (tgt := 20) dX10_would_13 (by decide) (fun c13 => ?_) (fun c13 => ?_)
    · obtain ⟨i, hi, rfl⟩ := inN_of (b2y c13) (by omega)
      refine P_iload_n dX10_would_20 rfl ?_
      refine P_iconst dX10_would_21 ci_0 ?_
      refine P_bipush dX10_would_22 bp_20 ?_
      refine P_callSp dX10_would_24 lkX10_68 okX10_in ⟨Nat.le_of_ble_eq_true rfl, Nat.le_of_ble_eq_true rfl⟩ (m_in l) rfl rfl (Nat.le_of_ble_eq_true rfl) ⟨Nat.le_of_ble_eq_true rfl, Nat.le_of_ble_eq_true rfl⟩ ?_
      refine P_if_eq (tgt := 41) dX10_would_27 (by decide) (fun c27 => ?_) (fun c27 => ?_)
      · have e := b2z c27
        have hs : spWould σ (nI j) (nI i) kk0 xx0 = -1000000002 := by unfold spWould; rw [if_pos ⟨inN_nI hj (by omega), inN_nI hi (by omega)⟩, if_pos (Or.inl e)]
        refine P_ldc2 dX10_would_41 kcX10_178 ?_
        exact P_lret dX10_would_44 rfl ⟨Nat.le_refl _, Nat.le_refl _⟩ ⟨by rw [hs], k, Fr.rf⟩
      · refine P_iload dX10_would_30 rfl ?_
        refine P_iconst dX10_would_32 ci_0 ?_
        refine P_bipush dX10_would_33 bp_10 ?_
        refine P_callSp dX10_would_35 lkX10_68 okX10_in ⟨Nat.le_of_ble_eq_true rfl, Nat.le_of_ble_eq_true rfl⟩ (m_in l) rfl rfl (Nat.le_of_ble_eq_true rfl) ⟨Nat.le_of_ble_eq_true rfl, Nat.le_of_ble_eq_true rfl⟩ ?_
        refine P_if_ne (tgt := 45) dX10_would_38 (by decide) (fun c38 => ?_) (fun c38 => ?_)
        · have e1 := b2w c27; have e2 := b2w c38
          have hs : spWould σ (nI j) (nI i) kk0 xx0 = PLU + OUT (rvW (gR σ) i kk0 xx0) j (pkT (OUT (rvW (gR σ) i kk0 xx0) j) (rT (gR σ) - 1)) := by unfold spWould; rw [if_pos ⟨inN_nI hj (by omega), inN_nI hi (by omega)⟩, if_neg (fun z => z.elim e1 e2), nI_clamp (by omega), nI_clamp (by omega)]
          obtain ⟨k9, -, hk2, rfl⟩ := ob_nat (a := 0) (b := 20) (by omega) (by omega) e1
          obtain ⟨x9, -, hx2, rfl⟩ := ob_nat (a := 0) (b := 10) (by omega) (by omega) e2
          refine P_aload_n dX10_would_45 rfl ?_
          refine P_iload_n dX10_would_46 rfl ?_
          refine P_iload_n dX10_would_47 rfl ?_
          refine P_iload dX10_would_48 rfl ?_
          refine P_callV dX10_would_50 lkX10_105 okX10_flows ⟨Nat.le_of_ble_eq_true rfl, Nat.le_of_ble_eq_true rfl⟩ (m_flows l hk km (rQ_W hN hi) (rVal_W hvr i hk2 hx2) hb) rfl rfl hk.1 (Nat.le_of_ble_eq_true rfl) ⟨Nat.le_of_ble_eq_true rfl, Nat.le_of_ble_eq_true rfl⟩ (fun v50 G50 q50 => ?_)
          obtain ⟨rfl, ⟨fi1, fo1, fs1, fa1, fb1, km1, hg1⟩, hF1⟩ := q50
          have kO1 := kO.fl hF1 ⟨_, _, _, _, _, km1⟩
          have hk1 := kO1.1
          have hw1 : Fr G G50 164 17 := hF1.wide (by omega) (by omega)
          refine P_aload_n dX10_would_53 rfl ?_
          refine P_aload_n dX10_would_54 rfl ?_
          refine P_get dX10_would_55 flX10_43 hk1.1 rfl ?_
          refine P_iload_n dX10_would_58 rfl ?_
          refine P_callVp dX10_would_59 lkX10_180 okX10_peak ⟨Nat.le_of_ble_eq_true rfl, Nat.le_of_ble_eq_true rfl⟩ (m_peak l hk1 km1.2.1 (by omega)) rfl rfl hk1.1 (Nat.le_of_ble_eq_true rfl) ⟨Nat.le_of_ble_eq_true rfl, Nat.le_of_ble_eq_true rfl⟩ ?_
          have eC : pkT (fun i => fo1 (24 * j + i)) (rT (gR σ) - 1) = pkT (OUT (rvW (gR σ) i (nI k9) (nI x9)) j) (rT (gR σ) - 1) := pkT_cong (fun i hi => (hg1 j (Nat.zero_le _) hj i (show i < rT (gR σ) by omega)).2.1)
          have hp := pkT_le (OUT (rvW (gR σ) i (nI k9) (nI x9)) j) (rT (gR σ) - 1)
          rw [eC]
          show WP _ _ _ _ _ _ _ _ _ (.long (fo1 (24 * j + pkT (OUT (rvW (gR σ) i (nI k9) (nI x9)) j) (rT (gR σ) - 1))) :: _) _
          rw [(hg1 j (Nat.zero_le _) hj _ (show pkT (OUT (rvW (gR σ) i (nI k9) (nI x9)) j) (rT (gR σ) - 1) < rT (gR σ) by omega)).2.1]
          refine P_ldc2 dX10_would_62 kcX10_176 ?_
          refine P_ladd dX10_would_65 ?_
          rw [Int64.add_comm]
          exact P_lret dX10_would_66 rfl ⟨Nat.le_refl _, Nat.le_refl _⟩ ⟨by rw [hs], ⟨_, _, kO1⟩, hw1⟩
        · have e := b2z c38
          have hs : spWould σ (nI j) (nI i) kk0 xx0 = -1000000002 := by unfold spWould; rw [if_pos ⟨inN_nI hj (by omega), inN_nI hi (by omega)⟩, if_pos (Or.inr e)]
          refine P_ldc2 dX10_would_41 kcX10_178 ?_
          exact P_lret dX10_would_44 rfl ⟨Nat.le_refl _, Nat.le_refl _⟩ ⟨by rw [hs], k, Fr.rf⟩
    · have e := (b2p _).mp c13
      have hs : spWould σ (nI j) s0 kk0 xx0 = -1000000001 := by unfold spWould; rw [if_neg (fun z => e z.2)]
      refine P_ldc2 dX10_would_16 kcX10_174 ?_
      exact P_lret dX10_would_19 rfl ⟨Nat.le_refl _, Nat.le_refl _⟩ ⟨by rw [hs], k, Fr.rf⟩
