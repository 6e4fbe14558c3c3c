theorem oB_nI {v : Int32} {a b : Nat} (ha : a < 2 ^ 31) (hb : b < 2 ^ 31) (h : ¬ oB3 v (nI a) (nI b)) : ∃ j, a ≤ j ∧ j ≤ b ∧ v = nI j := ob_nat ha hb h
theorem rVal_T {ρ : Riv} (h : rVal ρ) (t : Nat) : rVal (rvT ρ t) := h
theorem rVal_D {ρ : Riv} (h : rVal ρ) (t : Nat) : rVal (rvD ρ t) := h
theorem rVal_N {ρ : Riv} (h : rVal ρ) {n : Nat} (hn : n ≤ rN ρ) : rVal (rvN ρ n) := fun r hr => h r (Nat.lt_of_lt_of_le hr hn)
theorem up2_ne {f : Nat → Nat → Int32} {a b x y : Nat} {v : Int32} (h : ¬ (x = a ∧ y = b)) : up2 f a b v x y = f x y := if_neg h
theorem up2_eq {f : Nat → Nat → Int32} {a b x y : Nat} {v : Int32} (h : x = a ∧ y = b) : up2 f a b v x y = v := if_pos h
theorem rVal_W {ρ : Riv} (h : rVal ρ) (r : Nat) {k x : Nat} (hk : k ≤ 20) (hx : x ≤ 10) : rVal (rvW ρ r (nI k) (nI x)) := by
  intro q hq
  obtain ⟨a, b, c, d, e⟩ := h q hq
  have f0 : rF (rvW ρ r (nI k) (nI x)) q 0 = rF ρ q 0 := (up2_ne (by omega)).trans (up2_ne (by omega))
  have f3 : rF (rvW ρ r (nI k) (nI x)) q 3 = rF ρ q 3 := (up2_ne (by omega)).trans (up2_ne (by omega))
  refine ⟨by rw [f0]; exact a, ?_, ?_, by rw [f3]; exact d, e⟩
  · by_cases z : q = r
    · exact ⟨k, hk, (up2_ne (by omega)).trans (up2_eq (by omega))⟩
    · rw [show rF (rvW ρ r (nI k) (nI x)) q 1 = rF ρ q 1 from (up2_ne (by omega)).trans (up2_ne (by omega))]; exact b
  · by_cases z : q = r
    · exact ⟨x, hx, up2_eq (by omega)⟩
    · rw [show rF (rvW ρ r (nI k) (nI x)) q 2 = rF ρ q 2 from (up2_ne (by omega)).trans (up2_ne (by omega))]; exact c
theorem rVal_S {ρ : Riv} (h : rVal ρ) (r t : Nat) {v : Nat} (hv : v ≤ 9999) : rVal (rvS ρ r t (nI v)) := by
  intro q hq
  obtain ⟨a, b, c, d, e⟩ := h q hq
  refine ⟨a, b, c, d, fun u hu => ⟨?_, (e u hu).2⟩⟩
  by_cases z : q = r ∧ u = t
  · exact ⟨v, hv, up2_eq z⟩
  · rw [show rS (rvS ρ r t (nI v)) q u = rS ρ q u from up2_ne z]; exact (e u hu).1
theorem rVal_E {ρ : Riv} (h : rVal ρ) (r t : Nat) {v : Nat} (hv : v ≤ 9999) : rVal (rvE ρ r t (nI v)) := by
  intro q hq
  obtain ⟨a, b, c, d, e⟩ := h q hq
  refine ⟨a, b, c, d, fun u hu => ⟨(e u hu).1, ?_⟩⟩
  by_cases z : q = r ∧ u = t
  · exact ⟨v, hv, up2_eq z⟩
  · rw [show rE (rvE ρ r t (nI v)) q u = rE ρ q u from up2_ne z]; exact (e u hu).2
theorem rVal_A {ρ : Riv} (h : rVal ρ) {b : Int32} {k x q : Nat} (hb : b = -1 ∨ ∃ j, j < rN ρ ∧ b = nI j) (hk : k ≤ 20) (hx : x ≤ 10) (hq1 : 1 ≤ q) (hq : q ≤ 4) : rVal (rvA ρ b (nI k) (nI x) (nI q)) := by
  intro u hu
  have hu : u < rN ρ + 1 := hu
  by_cases z : u = rN ρ
  · subst z
    refine ⟨?_, ⟨k, hk, ?_⟩, ⟨x, hx, up2_eq ⟨rfl, rfl⟩⟩, ⟨q, hq1, hq, ?_⟩, fun t _ => ⟨⟨0, by omega, if_pos rfl⟩, ⟨0, by omega, if_pos rfl⟩⟩⟩
    · have e : rF (rvA ρ b (nI k) (nI x) (nI q)) (rN ρ) 0 = b := (up2_ne (by omega)).trans ((up2_ne (by omega)).trans ((up2_ne (by omega)).trans (up2_eq ⟨rfl, rfl⟩)))
      rw [e]; exact hb
    · exact (up2_ne (by omega)).trans (up2_eq ⟨rfl, rfl⟩)
    · exact (up2_ne (by omega)).trans ((up2_ne (by omega)).trans (up2_eq ⟨rfl, rfl⟩))
  · obtain ⟨a, b', c, d, e⟩ := h u (by omega)
    have f : ∀ i, rF (rvA ρ b (nI k) (nI x) (nI q)) u i = rF ρ u i := fun i => (up2_ne (by omega)).trans ((up2_ne (by omega)).trans ((up2_ne (by omega)).trans (up2_ne (by omega))))
    have g : ∀ t, rS (rvA ρ b (nI k) (nI x) (nI q)) u t = rS ρ u t := fun t => if_neg z
    have g2 : ∀ t, rE (rvA ρ b (nI k) (nI x) (nI q)) u t = rE ρ u t := fun t => if_neg z
    refine ⟨by rw [f]; exact a, by rw [f]; exact b', by rw [f]; exact c, by rw [f]; exact d, fun t ht => ⟨by rw [g]; exact (e t ht).1, by rw [g2]; exact (e t ht).2⟩⟩
set_option maxHeartbeats 4000000 in
set_option maxRecDepth 100000 in
theorem c_fitAt (l : Launch) {G : PH} {σ : Sg} {j : Nat} {wh : Int32} (k : Cls G σ) (hv : sVal σ) (hj : j < rN (gR σ)) : Tri l mX9_fittedAt 0 0 [.ref 0, .int (nI j), .int wh] G (fun a9 G' => a9 = some (.int (spFit (gR σ) j wh)) ∧ Cls G' σ ∧ Fr G G' 0 164) := by
  obtain ⟨k0, k1, ⟨r2, k2⟩, ⟨qT, qD, fi, fo, fs, fl, fh, k3⟩, ⟨a1, a2, a3, k4⟩, ⟨b1, b2, b3, b4, b5, k5⟩, k6, k7, k8, ⟨fI, k9, e0, e1⟩, k10, k11⟩ := id k
  have hb := hv.1.1; have hvr := hv.1.2; have hN : rN (gR σ) ≤ 6 := hb.2.2.2.2; have hT : rT (gR σ) ≤ 24 := hb.2.1; have hT2 : 2 ≤ rT (gR σ) := hb.1
  refine Tri.intro (L := [_, _, _, _]) okX9_fittedAt.1 (Nat.le_of_ble_eq_true rfl) rfl ?_
  refine P_aload_n dX9_fittedAt_0 rfl ?_
  refine P_get dX9_fittedAt_1 flX9_22 k0 rfl ?_
  refine P_aload_n dX9_fittedAt_4 rfl ?_
  refine P_get dX9_fittedAt_5 flX9_10 k0 rfl ?_
  refine P_callV dX9_fittedAt_8 lkX9_125 okX7_runAll ⟨Nat.le_of_ble_eq_true rfl, Nat.le_of_ble_eq_true rfl⟩ (t_runAll l k1 k3 (by omega) hvr) rfl rfl k3.1 (Nat.le_of_ble_eq_true rfl) ⟨Nat.le_of_ble_eq_true rfl, Nat.le_of_ble_eq_true rfl⟩ (fun v8 G8 q8 => ?_)
  obtain ⟨rfl, hq, hF1⟩ := q8
  have kk := k.rtg hF1 hq.rout; have k1 := k1.fr hF1 (by omega); have k0 := hF1.at k0 (by omega); have k4 := hF1.at k4 (by omega)
  refine P_aload_n dX9_fittedAt_11 rfl ?_
  refine P_get dX9_fittedAt_12 flX9_29 k0 rfl ?_
  refine P_aload_n dX9_fittedAt_15 rfl ?_
  refine P_get dX9_fittedAt_16 flX9_10 k0 rfl ?_
  refine P_aload_n dX9_fittedAt_19 rfl ?_
  refine P_get dX9_fittedAt_20 flX9_22 k0 rfl ?_
  refine P_iload_n dX9_fittedAt_23 rfl ?_
  refine P_callVp dX9_fittedAt_24 lkX9_163 okX3_canFit ⟨Nat.le_of_ble_eq_true rfl, Nat.le_of_ble_eq_true rfl⟩ (t_canFit l k1 hq hj) rfl rfl k4 (Nat.le_of_ble_eq_true rfl) ⟨Nat.le_of_ble_eq_true rfl, Nat.le_of_ble_eq_true rfl⟩ ?_
  refine P_if_ne (tgt := 32) dX9_fittedAt_27 (by decide) (fun c27 => ?_) (fun c27 => ?_)
  · have e := b2y c27
    refine P_iload_n dX9_fittedAt_32 rfl ?_
    refine P_bipush dX9_fittedAt_33 bp_8 ?_
    refine P_icmp_eq (tgt := 44) dX9_fittedAt_35 (by decide) (fun c35 => ?_) (fun c35 => ?_)
    · have h89 : wh = 8 ∨ wh = 9 := Or.inl c35
      refine P_aload_n dX9_fittedAt_44 rfl ?_
      refine P_get dX9_fittedAt_45 flX9_29 k0 rfl ?_
      refine P_aload_n dX9_fittedAt_48 rfl ?_
      refine P_get dX9_fittedAt_49 flX9_10 k0 rfl ?_
      refine P_aload_n dX9_fittedAt_52 rfl ?_
      refine P_get dX9_fittedAt_53 flX9_22 k0 rfl ?_
      refine P_iload_n dX9_fittedAt_56 rfl ?_
      refine P_callVp dX9_fittedAt_57 lkX9_167 okX3_narrowestX ⟨Nat.le_of_ble_eq_true rfl, Nat.le_of_ble_eq_true rfl⟩ (t_narrowX l k1 hq hj k4) rfl rfl k4 (Nat.le_of_ble_eq_true rfl) ⟨Nat.le_of_ble_eq_true rfl, Nat.le_of_ble_eq_true rfl⟩ ?_
      refine P_istore_n (L' := [_, _, _, _]) dX9_fittedAt_60 (Nat.le_of_ble_eq_true rfl) rfl ?_
      refine P_iload_n dX9_fittedAt_61 rfl ?_
      refine P_bipush dX9_fittedAt_62 bp_8 ?_
      refine P_icmp_ne (tgt := 71) dX9_fittedAt_64 (by decide) (fun c64 => ?_) (fun c64 => ?_)
      · have hs : spFit (gR σ) j wh = lnS (gR σ) j (nI (nwS (gR σ) j 10).1) := by unfold spFit; rw [if_pos e, if_neg c64, if_pos (h89.resolve_left c64)]
        refine P_aload_n dX9_fittedAt_71 rfl ?_
        refine P_get dX9_fittedAt_72 flX9_29 k0 rfl ?_
        refine P_aload_n dX9_fittedAt_75 rfl ?_
        refine P_get dX9_fittedAt_76 flX9_10 k0 rfl ?_
        refine P_aload_n dX9_fittedAt_79 rfl ?_
        refine P_get dX9_fittedAt_80 flX9_22 k0 rfl ?_
        refine P_iload_n dX9_fittedAt_83 rfl ?_
        refine P_iload_n dX9_fittedAt_84 rfl ?_
        refine P_callVp dX9_fittedAt_85 lkX9_171 okX3_leanBy ⟨Nat.le_of_ble_eq_true rfl, Nat.le_of_ble_eq_true rfl⟩ (t_leanBy l k1 hq hj k4) rfl rfl k4 (Nat.le_of_ble_eq_true rfl) ⟨Nat.le_of_ble_eq_true rfl, Nat.le_of_ble_eq_true rfl⟩ ?_
        exact P_iret dX9_fittedAt_88 rfl ⟨Nat.le_refl _, Nat.le_refl _⟩ ⟨by rw [hs], kk, hF1.wide (by omega) (by omega)⟩
      · have hs : spFit (gR σ) j wh = nI (nwS (gR σ) j 10).1 := by unfold spFit; rw [if_pos e, if_pos c64]
        refine P_iload_n dX9_fittedAt_67 rfl ?_
        refine P_goto (tgt := 88) dX9_fittedAt_68 (by decide) ?_
        exact P_iret dX9_fittedAt_88 rfl ⟨Nat.le_refl _, Nat.le_refl _⟩ ⟨by rw [hs], kk, hF1.wide (by omega) (by omega)⟩
    · refine P_iload_n dX9_fittedAt_38 rfl ?_
      refine P_bipush dX9_fittedAt_39 bp_9 ?_
      refine P_icmp_ne (tgt := 89) dX9_fittedAt_41 (by decide) (fun c41 => ?_) (fun c41 => ?_)
      · have n8 := c35; have n9 := c41
        refine P_aload_n dX9_fittedAt_89 rfl ?_
        refine P_get dX9_fittedAt_90 flX9_29 k0 rfl ?_
        refine P_aload_n dX9_fittedAt_93 rfl ?_
        refine P_get dX9_fittedAt_94 flX9_10 k0 rfl ?_
        refine P_aload_n dX9_fittedAt_97 rfl ?_
        refine P_get dX9_fittedAt_98 flX9_22 k0 rfl ?_
        refine P_iload_n dX9_fittedAt_101 rfl ?_
        refine P_callV dX9_fittedAt_102 lkX9_175 okX3_findBest ⟨Nat.le_of_ble_eq_true rfl, Nat.le_of_ble_eq_true rfl⟩ (t_findBest (c := 15) l k1 hq k4 (by omega) hj hvr) rfl rfl k4 (Nat.le_of_ble_eq_true rfl) ⟨Nat.le_of_ble_eq_true rfl, Nat.le_of_ble_eq_true rfl⟩ (fun v102 G102 q102 => ?_)
        obtain ⟨rfl, ⟨b, hbs, hb1⟩, hq2, hF2⟩ := q102
        have hbg := bs_get hbs; have kB := kk.fit hF2 hq2.rout ⟨_, _, _, hb1⟩; have k0 := hF2.at k0 (by omega)
        refine P_iload_n dX9_fittedAt_105 rfl ?_
        refine P_bipush dX9_fittedAt_106 bp_10 ?_
        refine P_icmp_ne (tgt := 121) dX9_fittedAt_108 (by decide) (fun c108 => ?_) (fun c108 => ?_)
        · have hs : spFit (gR σ) j wh = nI b.2.1 := by unfold spFit; rw [if_pos e, if_neg n8, if_neg n9, if_neg c108, hbg]
          refine P_aload_n dX9_fittedAt_121 rfl ?_
          refine P_get dX9_fittedAt_122 flX9_29 k0 rfl ?_
          refine P_callVp dX9_fittedAt_125 lkX9_182 okX3_bestX ⟨Nat.le_of_ble_eq_true rfl, Nat.le_of_ble_eq_true rfl⟩ (t_bestX l hb1) rfl rfl hb1 (Nat.le_of_ble_eq_true rfl) ⟨Nat.le_of_ble_eq_true rfl, Nat.le_of_ble_eq_true rfl⟩ ?_
          exact P_iret dX9_fittedAt_128 rfl ⟨Nat.le_refl _, Nat.le_refl _⟩ ⟨by rw [hs], kB, (hF1.wide (by omega) (by omega)).tr (hF2.wide (by omega) (by omega))⟩
        · have hs : spFit (gR σ) j wh = nI b.1 := by unfold spFit; rw [if_pos e, if_neg n8, if_neg n9, if_pos c108, hbg]
          refine P_aload_n dX9_fittedAt_111 rfl ?_
          refine P_get dX9_fittedAt_112 flX9_29 k0 rfl ?_
          refine P_callVp dX9_fittedAt_115 lkX9_179 okX3_bestK ⟨Nat.le_of_ble_eq_true rfl, Nat.le_of_ble_eq_true rfl⟩ (t_bestK l hb1) rfl rfl hb1 (Nat.le_of_ble_eq_true rfl) ⟨Nat.le_of_ble_eq_true rfl, Nat.le_of_ble_eq_true rfl⟩ ?_
          refine P_goto (tgt := 128) dX9_fittedAt_118 (by decide) ?_
          exact P_iret dX9_fittedAt_128 rfl ⟨Nat.le_refl _, Nat.le_refl _⟩ ⟨by rw [hs], kB, (hF1.wide (by omega) (by omega)).tr (hF2.wide (by omega) (by omega))⟩
      · have h89 : wh = 8 ∨ wh = 9 := Or.inr c41
        refine P_aload_n dX9_fittedAt_44 rfl ?_
        refine P_get dX9_fittedAt_45 flX9_29 k0 rfl ?_
        refine P_aload_n dX9_fittedAt_48 rfl ?_
        refine P_get dX9_fittedAt_49 flX9_10 k0 rfl ?_
        refine P_aload_n dX9_fittedAt_52 rfl ?_
        refine P_get dX9_fittedAt_53 flX9_22 k0 rfl ?_
        refine P_iload_n dX9_fittedAt_56 rfl ?_
        refine P_callVp dX9_fittedAt_57 lkX9_167 okX3_narrowestX ⟨Nat.le_of_ble_eq_true rfl, Nat.le_of_ble_eq_true rfl⟩ (t_narrowX l k1 hq hj k4) rfl rfl k4 (Nat.le_of_ble_eq_true rfl) ⟨Nat.le_of_ble_eq_true rfl, Nat.le_of_ble_eq_true rfl⟩ ?_
        refine P_istore_n (L' := [_, _, _, _]) dX9_fittedAt_60 (Nat.le_of_ble_eq_true rfl) rfl ?_
        refine P_iload_n dX9_fittedAt_61 rfl ?_
        refine P_bipush dX9_fittedAt_62 bp_8 ?_
        refine P_icmp_ne (tgt := 71) dX9_fittedAt_64 (by decide) (fun c64 => ?_) (fun c64 => ?_)
        · have hs : spFit (gR σ) j wh = lnS (gR σ) j (nI (nwS (gR σ) j 10).1) := by unfold spFit; rw [if_pos e, if_neg c64, if_pos (h89.resolve_left c64)]
          refine P_aload_n dX9_fittedAt_71 rfl ?_
          refine P_get dX9_fittedAt_72 flX9_29 k0 rfl ?_
          refine P_aload_n dX9_fittedAt_75 rfl ?_
          refine P_get dX9_fittedAt_76 flX9_10 k0 rfl ?_
          refine P_aload_n dX9_fittedAt_79 rfl ?_
          refine P_get dX9_fittedAt_80 flX9_22 k0 rfl ?_
          refine P_iload_n dX9_fittedAt_83 rfl ?_
          refine P_iload_n dX9_fittedAt_84 rfl ?_
          refine P_callVp dX9_fittedAt_85 lkX9_171 okX3_leanBy ⟨Nat.le_of_ble_eq_true rfl, Nat.le_of_ble_eq_true rfl⟩ (t_leanBy l k1 hq hj k4) rfl rfl k4 (Nat.le_of_ble_eq_true rfl) ⟨Nat.le_of_ble_eq_true rfl, Nat.le_of_ble_eq_true rfl⟩ ?_
          exact P_iret dX9_fittedAt_88 rfl ⟨Nat.le_refl _, Nat.le_refl _⟩ ⟨by rw [hs], kk, hF1.wide (by omega) (by omega)⟩
        · have hs : spFit (gR σ) j wh = nI (nwS (gR σ) j 10).1 := by unfold spFit; rw [if_pos e, if_pos c64]
          refine P_iload_n dX9_fittedAt_67 rfl ?_
          refine P_goto (tgt := 88) dX9_fittedAt_68 (by decide) ?_
          exact P_iret dX9_fittedAt_88 rfl ⟨Nat.le_refl _, Nat.le_refl _⟩ ⟨by rw [hs], kk, hF1.wide (by omega) (by omega)⟩
  · have e := (b2p _).mp c27
    have hs : spFit (gR σ) j wh = -1 := by unfold spFit; rw [if_neg e]
    refine P_iconst dX9_fittedAt_30 ci_m1 ?_
    exact P_iret dX9_fittedAt_31 rfl ⟨Nat.le_refl _, Nat.le_refl _⟩ ⟨by rw [hs], kk, hF1.wide (by omega) (by omega)⟩
set_option maxHeartbeats 4000000 in
set_option maxRecDepth 100000 in
theorem c_reachAt (l : Launch) {G : PH} {σ : Sg} {r0 wh : Int32} (k : Cls G σ) (hv : sVal σ) : Tri l mX9_reachAt 0 0 [.ref 0, .int r0, .int wh] G (fun a9 G' => a9 = some (.int (spReachAt σ r0 wh)) ∧ Cls G' σ ∧ Fr G G' 0 164) := by
  obtain ⟨k0, k1, ⟨r2, k2⟩, ⟨qT, qD, fi, fo, fs, fl, fh, k3⟩, ⟨a1, a2, a3, k4⟩, ⟨b1, b2, b3, b4, b5, k5⟩, k6, k7, k8, ⟨fI, k9, e0, e1⟩, k10, k11⟩ := id k
  have hb := hv.1.1; have hvr := hv.1.2; have hN : rN (gR σ) ≤ 6 := hb.2.2.2.2; have hT : rT (gR σ) ≤ 24 := hb.2.1; have hT2 : 2 ≤ rT (gR σ) := hb.1
  refine Tri.intro (L := [_, _, _]) okX9_reachAt.1 (Nat.le_of_ble_eq_true rfl) rfl ?_
  refine P_aload_n dX9_reachAt_0 rfl ?_
  refine P_get dX9_reachAt_1 flX9_10 k0 rfl ?_
  refine P_iload_n dX9_reachAt_4 rfl ?_
  refine P_callVp dX9_reachAt_5 lkX9_138 okX6_hasReach ⟨Nat.le_of_ble_eq_true rfl, Nat.le_of_ble_eq_true rfl⟩ (t_hasReach l k1) rfl rfl k1.at (Nat.le_of_ble_eq_true rfl) ⟨Nat.le_of_ble_eq_true rfl, Nat.le_of_ble_eq_true rfl⟩ ?_
  refine P_if_ne (tgt := 14) dX9_reachAt_8 (by decide) (fun c8 => ?_) (fun c8 => ?_)
  · obtain ⟨j, hj, rfl⟩ := inN_of (b2y c8) (by omega)
    have hs0 : ∀ w, spReachAt σ (nI j) w = spRch (gR σ) j w := fun w => by unfold spReachAt; rw [if_pos (inN_nI hj (by omega)), nI_clamp (by omega)]
    refine P_iload_n dX9_reachAt_14 rfl ?_
    by_cases w0 : wh = 0
    · subst w0
      refine P_tabIn (off := 61) (tgt := 76) dX9_reachAt_15 (by decide) (by decide) (by decide) (by decide) ?_
      have hs : spReachAt σ (nI j) 0 = rF (gR σ) j 0 := (hs0 _).trans (by unfold spRch; rw [if_pos rfl])
      refine P_aload_n dX9_reachAt_76 rfl ?_
      refine P_get dX9_reachAt_77 flX9_10 k0 rfl ?_
      refine P_iload_n dX9_reachAt_80 rfl ?_
      refine P_iload_n dX9_reachAt_81 rfl ?_
      refine P_callVp dX9_reachAt_82 lkX9_143 okX6_featureOf ⟨Nat.le_of_ble_eq_true rfl, Nat.le_of_ble_eq_true rfl⟩ (t_featureOf l 0 k1 hj (by decide)) rfl rfl k1.at (Nat.le_of_ble_eq_true rfl) ⟨Nat.le_of_ble_eq_true rfl, Nat.le_of_ble_eq_true rfl⟩ ?_
      exact P_iret dX9_reachAt_85 rfl ⟨Nat.le_refl _, Nat.le_refl _⟩ ⟨by rw [hs], k, Fr.rf⟩
    by_cases w1 : wh = 1
    · subst w1
      refine P_tabIn (off := 61) (tgt := 76) dX9_reachAt_15 (by decide) (by decide) (by decide) (by decide) ?_
      have hs : spReachAt σ (nI j) 1 = rF (gR σ) j 1 := (hs0 _).trans (by unfold spRch; rw [if_neg (by decide), if_pos rfl])
      refine P_aload_n dX9_reachAt_76 rfl ?_
      refine P_get dX9_reachAt_77 flX9_10 k0 rfl ?_
      refine P_iload_n dX9_reachAt_80 rfl ?_
      refine P_iload_n dX9_reachAt_81 rfl ?_
      refine P_callVp dX9_reachAt_82 lkX9_143 okX6_featureOf ⟨Nat.le_of_ble_eq_true rfl, Nat.le_of_ble_eq_true rfl⟩ (t_featureOf l 1 k1 hj (by decide)) rfl rfl k1.at (Nat.le_of_ble_eq_true rfl) ⟨Nat.le_of_ble_eq_true rfl, Nat.le_of_ble_eq_true rfl⟩ ?_
      exact P_iret dX9_reachAt_85 rfl ⟨Nat.le_refl _, Nat.le_refl _⟩ ⟨by rw [hs], k, Fr.rf⟩
    by_cases w2 : wh = 2
    · subst w2
      refine P_tabIn (off := 61) (tgt := 76) dX9_reachAt_15 (by decide) (by decide) (by decide) (by decide) ?_
      have hs : spReachAt σ (nI j) 2 = rF (gR σ) j 2 := (hs0 _).trans (by unfold spRch; rw [if_neg (by decide), if_neg (by decide), if_pos rfl])
      refine P_aload_n dX9_reachAt_76 rfl ?_
      refine P_get dX9_reachAt_77 flX9_10 k0 rfl ?_
      refine P_iload_n dX9_reachAt_80 rfl ?_
      refine P_iload_n dX9_reachAt_81 rfl ?_
      refine P_callVp dX9_reachAt_82 lkX9_143 okX6_featureOf ⟨Nat.le_of_ble_eq_true rfl, Nat.le_of_ble_eq_true rfl⟩ (t_featureOf l 2 k1 hj (by decide)) rfl rfl k1.at (Nat.le_of_ble_eq_true rfl) ⟨Nat.le_of_ble_eq_true rfl, Nat.le_of_ble_eq_true rfl⟩ ?_
      exact P_iret dX9_reachAt_85 rfl ⟨Nat.le_refl _, Nat.le_refl _⟩ ⟨by rw [hs], k, Fr.rf⟩
    by_cases w3 : wh = 3
    · subst w3
      refine P_tabIn (off := 61) (tgt := 76) dX9_reachAt_15 (by decide) (by decide) (by decide) (by decide) ?_
      have hs : spReachAt σ (nI j) 3 = rF (gR σ) j 3 := (hs0 _).trans (by unfold spRch; rw [if_neg (by decide), if_neg (by decide), if_neg (by decide), if_pos rfl])
      refine P_aload_n dX9_reachAt_76 rfl ?_
      refine P_get dX9_reachAt_77 flX9_10 k0 rfl ?_
      refine P_iload_n dX9_reachAt_80 rfl ?_
      refine P_iload_n dX9_reachAt_81 rfl ?_
      refine P_callVp dX9_reachAt_82 lkX9_143 okX6_featureOf ⟨Nat.le_of_ble_eq_true rfl, Nat.le_of_ble_eq_true rfl⟩ (t_featureOf l 3 k1 hj (by decide)) rfl rfl k1.at (Nat.le_of_ble_eq_true rfl) ⟨Nat.le_of_ble_eq_true rfl, Nat.le_of_ble_eq_true rfl⟩ ?_
      exact P_iret dX9_reachAt_85 rfl ⟨Nat.le_refl _, Nat.le_refl _⟩ ⟨by rw [hs], k, Fr.rf⟩
    by_cases w4 : wh = 4
    · subst w4
      refine P_tabIn (off := 71) (tgt := 86) dX9_reachAt_15 (by decide) (by decide) (by decide) (by decide) ?_
      have hs : spReachAt σ (nI j) 4 = (if lawR (gR σ) j then 1 else 0) := (hs0 _).trans (by unfold spRch; rw [if_neg (by decide), if_neg (by decide), if_neg (by decide), if_neg (by decide), if_pos rfl])
      refine P_aload_n dX9_reachAt_86 rfl ?_
      refine P_get dX9_reachAt_87 flX9_10 k0 rfl ?_
      refine P_iload_n dX9_reachAt_90 rfl ?_
      refine P_callVp dX9_reachAt_91 lkX9_147 okX6_isLawful ⟨Nat.le_of_ble_eq_true rfl, Nat.le_of_ble_eq_true rfl⟩ (t_isLawful l k1 hj) rfl rfl k1.at (Nat.le_of_ble_eq_true rfl) ⟨Nat.le_of_ble_eq_true rfl, Nat.le_of_ble_eq_true rfl⟩ ?_
      refine P_if_eq (tgt := 101) dX9_reachAt_94 (by decide) (fun c94 => ?_) (fun c94 => ?_)
      · have hl := (b2p _).mp c94
        refine P_iconst dX9_reachAt_101 ci_0 ?_
        exact P_iret dX9_reachAt_102 rfl ⟨Nat.le_refl _, Nat.le_refl _⟩ ⟨by rw [hs]; first | rw [if_pos hl] | rw [if_neg hl], k, Fr.rf⟩
      · have hl := b2y c94
        refine P_iconst dX9_reachAt_97 ci_1 ?_
        refine P_goto (tgt := 102) dX9_reachAt_98 (by decide) ?_
        exact P_iret dX9_reachAt_102 rfl ⟨Nat.le_refl _, Nat.le_refl _⟩ ⟨by rw [hs]; first | rw [if_pos hl] | rw [if_neg hl], k, Fr.rf⟩
    by_cases w5 : wh = 5
    · subst w5
      refine P_tabIn (off := 88) (tgt := 103) dX9_reachAt_15 (by decide) (by decide) (by decide) (by decide) ?_
      have hs : spReachAt σ (nI j) 5 = nI (pkT (INN (gR σ) j) (rT (gR σ) - 1)) := (hs0 _).trans (by unfold spRch; rw [if_neg (by decide), if_neg (by decide), if_neg (by decide), if_neg (by decide), if_neg (by decide), if_pos rfl])
      refine P_aload_n dX9_reachAt_103 rfl ?_
      refine P_get dX9_reachAt_104 flX9_22 k0 rfl ?_
      refine P_aload_n dX9_reachAt_107 rfl ?_
      refine P_get dX9_reachAt_108 flX9_10 k0 rfl ?_
      refine P_callV dX9_reachAt_111 lkX9_125 okX7_runAll ⟨Nat.le_of_ble_eq_true rfl, Nat.le_of_ble_eq_true rfl⟩ (t_runAll l k1 k3 (by omega) hvr) rfl rfl k3.1 (Nat.le_of_ble_eq_true rfl) ⟨Nat.le_of_ble_eq_true rfl, Nat.le_of_ble_eq_true rfl⟩ (fun v111 G111 q111 => ?_)
      obtain ⟨rfl, hq, hF1⟩ := q111
      have kk := k.rtg hF1 hq.rout; have k1 := k1.fr hF1 (by omega); have k0 := hF1.at k0 (by omega); have k4 := hF1.at k4 (by omega)
      refine P_aload_n dX9_reachAt_114 rfl ?_
      refine P_get dX9_reachAt_115 flX9_22 k0 rfl ?_
      refine P_iload_n dX9_reachAt_118 rfl ?_
      refine P_callVp dX9_reachAt_119 lkX9_150 okX7_timeOfPeakIn ⟨Nat.le_of_ble_eq_true rfl, Nat.le_of_ble_eq_true rfl⟩ (t_timePeakIn l hq hb hj) rfl rfl (hq.rout.choose_spec.choose_spec.choose_spec.choose_spec.choose_spec.choose_spec.choose_spec.1) (Nat.le_of_ble_eq_true rfl) ⟨Nat.le_of_ble_eq_true rfl, Nat.le_of_ble_eq_true rfl⟩ ?_
      exact P_iret dX9_reachAt_122 rfl ⟨Nat.le_refl _, Nat.le_refl _⟩ ⟨by rw [hs], kk, hF1.wide (by omega) (by omega)⟩
    by_cases w6 : wh = 6
    · subst w6
      refine P_tabIn (off := 108) (tgt := 123) dX9_reachAt_15 (by decide) (by decide) (by decide) (by decide) ?_
      have hs : spReachAt σ (nI j) 6 = nI (pkT (OUT (gR σ) j) (rT (gR σ) - 1)) := (hs0 _).trans (by unfold spRch; rw [if_neg (by decide), if_neg (by decide), if_neg (by decide), if_neg (by decide), if_neg (by decide), if_neg (by decide), if_pos rfl])
      refine P_aload_n dX9_reachAt_123 rfl ?_
      refine P_get dX9_reachAt_124 flX9_22 k0 rfl ?_
      refine P_aload_n dX9_reachAt_127 rfl ?_
      refine P_get dX9_reachAt_128 flX9_10 k0 rfl ?_
      refine P_callV dX9_reachAt_131 lkX9_125 okX7_runAll ⟨Nat.le_of_ble_eq_true rfl, Nat.le_of_ble_eq_true rfl⟩ (t_runAll l k1 k3 (by omega) hvr) rfl rfl k3.1 (Nat.le_of_ble_eq_true rfl) ⟨Nat.le_of_ble_eq_true rfl, Nat.le_of_ble_eq_true rfl⟩ (fun v131 G131 q131 => ?_)
      obtain ⟨rfl, hq, hF1⟩ := q131
      have kk := k.rtg hF1 hq.rout; have k1 := k1.fr hF1 (by omega); have k0 := hF1.at k0 (by omega); have k4 := hF1.at k4 (by omega)
      refine P_aload_n dX9_reachAt_134 rfl ?_
      refine P_get dX9_reachAt_135 flX9_22 k0 rfl ?_
      refine P_iload_n dX9_reachAt_138 rfl ?_
      refine P_callVp dX9_reachAt_139 lkX9_154 okX7_timeOfPeakOut ⟨Nat.le_of_ble_eq_true rfl, Nat.le_of_ble_eq_true rfl⟩ (t_timePeakOut l hq hb hj) rfl rfl (hq.rout.choose_spec.choose_spec.choose_spec.choose_spec.choose_spec.choose_spec.choose_spec.1) (Nat.le_of_ble_eq_true rfl) ⟨Nat.le_of_ble_eq_true rfl, Nat.le_of_ble_eq_true rfl⟩ ?_
      exact P_iret dX9_reachAt_142 rfl ⟨Nat.le_refl _, Nat.le_refl _⟩ ⟨by rw [hs], kk, hF1.wide (by omega) (by omega)⟩
    by_cases w7 : wh = 7
    · subst w7
      refine P_tabIn (off := 128) (tgt := 143) dX9_reachAt_15 (by decide) (by decide) (by decide) (by decide) ?_
      have hs : spReachAt σ (nI j) 7 = thC (gR σ) j (rN (gR σ) - j) := (hs0 _).trans (by unfold spRch; rw [if_neg (by decide), if_neg (by decide), if_neg (by decide), if_neg (by decide), if_neg (by decide), if_neg (by decide), if_neg (by decide), if_pos rfl])
      refine P_aload_n dX9_reachAt_143 rfl ?_
      refine P_get dX9_reachAt_144 flX9_10 k0 rfl ?_
      refine P_iload_n dX9_reachAt_147 rfl ?_
      refine P_callVp dX9_reachAt_148 lkX9_157 okX6_countThrough ⟨Nat.le_of_ble_eq_true rfl, Nat.le_of_ble_eq_true rfl⟩ (t_countThrough l k1 hvr hj) rfl rfl k1.at (Nat.le_of_ble_eq_true rfl) ⟨Nat.le_of_ble_eq_true rfl, Nat.le_of_ble_eq_true rfl⟩ ?_
      exact P_iret dX9_reachAt_151 rfl ⟨Nat.le_refl _, Nat.le_refl _⟩ ⟨by rw [hs], k, Fr.rf⟩
    by_cases w8 : wh = 8
    · subst w8
      refine P_tabIn (off := 137) (tgt := 152) dX9_reachAt_15 (by decide) (by decide) (by decide) (by decide) ?_
      have hs : spReachAt σ (nI j) 8 = spFit (gR σ) j 8 := (hs0 _).trans (by unfold spRch; rw [if_neg (by decide), if_neg (by decide), if_neg (by decide), if_neg (by decide), if_neg (by decide), if_neg (by decide), if_neg (by decide), if_neg (by decide), if_pos (by decide)])
      refine P_aload_n dX9_reachAt_152 rfl ?_
      refine P_iload_n dX9_reachAt_153 rfl ?_
      refine P_iload_n dX9_reachAt_154 rfl ?_
      refine P_callV dX9_reachAt_155 lkX9_160 okX9_fittedAt ⟨Nat.le_of_ble_eq_true rfl, Nat.le_of_ble_eq_true rfl⟩ (c_fitAt l k hv hj) rfl rfl k0 (Nat.le_of_ble_eq_true rfl) ⟨Nat.le_of_ble_eq_true rfl, Nat.le_of_ble_eq_true rfl⟩ (fun v155 G155 q155 => ?_)
      obtain ⟨rfl, kc, hFc⟩ := q155
      exact P_iret dX9_reachAt_158 rfl ⟨Nat.le_refl _, Nat.le_refl _⟩ ⟨by rw [hs], kc, hFc⟩
    by_cases w9 : wh = 9
    · subst w9
      refine P_tabIn (off := 137) (tgt := 152) dX9_reachAt_15 (by decide) (by decide) (by decide) (by decide) ?_
      have hs : spReachAt σ (nI j) 9 = spFit (gR σ) j 9 := (hs0 _).trans (by unfold spRch; rw [if_neg (by decide), if_neg (by decide), if_neg (by decide), if_neg (by decide), if_neg (by decide), if_neg (by decide), if_neg (by decide), if_neg (by decide), if_pos (by decide)])
      refine P_aload_n dX9_reachAt_152 rfl ?_
      refine P_iload_n dX9_reachAt_153 rfl ?_
      refine P_iload_n dX9_reachAt_154 rfl ?_
      refine P_callV dX9_reachAt_155 lkX9_160 okX9_fittedAt ⟨Nat.le_of_ble_eq_true rfl, Nat.le_of_ble_eq_true rfl⟩ (c_fitAt l k hv hj) rfl rfl k0 (Nat.le_of_ble_eq_true rfl) ⟨Nat.le_of_ble_eq_true rfl, Nat.le_of_ble_eq_true rfl⟩ (fun v155 G155 q155 => ?_)
      obtain ⟨rfl, kc, hFc⟩ := q155
      exact P_iret dX9_reachAt_158 rfl ⟨Nat.le_refl _, Nat.le_refl _⟩ ⟨by rw [hs], kc, hFc⟩
    by_cases w10 : wh = 10
    · subst w10
      refine P_tabIn (off := 137) (tgt := 152) dX9_reachAt_15 (by decide) (by decide) (by decide) (by decide) ?_
      have hs : spReachAt σ (nI j) 10 = spFit (gR σ) j 10 := (hs0 _).trans (by unfold spRch; rw [if_neg (by decide), if_neg (by decide), if_neg (by decide), if_neg (by decide), if_neg (by decide), if_neg (by decide), if_neg (by decide), if_neg (by decide), if_pos (by decide)])
      refine P_aload_n dX9_reachAt_152 rfl ?_
      refine P_iload_n dX9_reachAt_153 rfl ?_
      refine P_iload_n dX9_reachAt_154 rfl ?_
      refine P_callV dX9_reachAt_155 lkX9_160 okX9_fittedAt ⟨Nat.le_of_ble_eq_true rfl, Nat.le_of_ble_eq_true rfl⟩ (c_fitAt l k hv hj) rfl rfl k0 (Nat.le_of_ble_eq_true rfl) ⟨Nat.le_of_ble_eq_true rfl, Nat.le_of_ble_eq_true rfl⟩ (fun v155 G155 q155 => ?_)
      obtain ⟨rfl, kc, hFc⟩ := q155
      exact P_iret dX9_reachAt_158 rfl ⟨Nat.le_refl _, Nat.le_refl _⟩ ⟨by rw [hs], kc, hFc⟩
    by_cases w11 : wh = 11
    · subst w11
      refine P_tabIn (off := 137) (tgt := 152) dX9_reachAt_15 (by decide) (by decide) (by decide) (by decide) ?_
      have hs : spReachAt σ (nI j) 11 = spFit (gR σ) j 11 := (hs0 _).trans (by unfold spRch; rw [if_neg (by decide), if_neg (by decide), if_neg (by decide), if_neg (by decide), if_neg (by decide), if_neg (by decide), if_neg (by decide), if_neg (by decide), if_pos (by decide)])
      refine P_aload_n dX9_reachAt_152 rfl ?_
      refine P_iload_n dX9_reachAt_153 rfl ?_
      refine P_iload_n dX9_reachAt_154 rfl ?_
      refine P_callV dX9_reachAt_155 lkX9_160 okX9_fittedAt ⟨Nat.le_of_ble_eq_true rfl, Nat.le_of_ble_eq_true rfl⟩ (c_fitAt l k hv hj) rfl rfl k0 (Nat.le_of_ble_eq_true rfl) ⟨Nat.le_of_ble_eq_true rfl, Nat.le_of_ble_eq_true rfl⟩ (fun v155 G155 q155 => ?_)
      obtain ⟨rfl, kc, hFc⟩ := q155
      exact P_iret dX9_reachAt_158 rfl ⟨Nat.le_refl _, Nat.le_refl _⟩ ⟨by rw [hs], kc, hFc⟩
    refine P_tabOut (tgt := 159) dX9_reachAt_15 (tabo (n := 11) (fun j hj => by rcases (by omega : j = 0 ∨ j = 1 ∨ j = 2 ∨ j = 3 ∨ j = 4 ∨ j = 5 ∨ j = 6 ∨ j = 7 ∨ j = 8 ∨ j = 9 ∨ j = 10 ∨ j = 11) with rfl | rfl | rfl | rfl | rfl | rfl | rfl | rfl | rfl | rfl | rfl | rfl <;> assumption)) (by decide) ?_
    have hs : spReachAt σ (nI j) wh = OUTS := (hs0 _).trans (by unfold spRch; rw [if_neg w0, if_neg w1, if_neg w2, if_neg w3, if_neg w4, if_neg w5, if_neg w6, if_neg w7, if_neg (fun z => by rcases z with z | z | z | z <;> exact absurd z (by assumption))])
    refine P_ldc dX9_reachAt_159 kcX9_76 ?_
    exact P_iret dX9_reachAt_161 rfl ⟨Nat.le_refl _, Nat.le_refl _⟩ ⟨by rw [hs], k, Fr.rf⟩
  · have e := (b2p _).mp c8
    have hs : spReachAt σ r0 wh = UNK := by unfold spReachAt; rw [if_neg e]
    refine P_ldc dX9_reachAt_11 kcX9_142 ?_
    exact P_iret dX9_reachAt_13 rfl ⟨Nat.le_refl _, Nat.le_refl _⟩ ⟨by rw [hs], k, Fr.rf⟩
