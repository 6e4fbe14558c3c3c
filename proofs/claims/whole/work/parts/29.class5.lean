theorem Fr.sy {G G' : PH} {a n : Nat} (h : Fr G G' a n) : Fr G' G a n := ⟨h.1.symm, fun x hx => (h.2 x hx).symm⟩
theorem Fr2.cut {G G' : PH} {a n b m : Nat} (h : Fr2 G G' a n b m) (hd : a + n ≤ b ∨ b + m ≤ a) : ∃ G1, Fr G G1 a n ∧ Fr G1 G' b m := by
  refine ⟨List.ofFn (fun i : Fin G.length => if a ≤ i.1 ∧ i.1 < a + n then G'[i.1]'(by rw [h.1]; exact i.2) else G[i.1]'i.2), ⟨List.length_ofFn, fun x hx => ?_⟩, ⟨h.1.trans List.length_ofFn.symm, fun x hx => ?_⟩⟩
  · rw [List.getElem?_ofFn]
    by_cases hl : x < G.length
    · rw [dif_pos hl, if_neg (by show ¬ (a ≤ x ∧ x < a + n); omega), List.getElem?_eq_getElem hl]
    · rw [dif_neg hl, List.getElem?_eq_none (by omega)]
  · rw [List.getElem?_ofFn]
    by_cases hl : x < G.length
    · rw [dif_pos hl]
      by_cases hz : a ≤ x ∧ x < a + n
      · rw [if_pos (show a ≤ (⟨x, hl⟩ : Fin G.length).1 ∧ (⟨x, hl⟩ : Fin G.length).1 < a + n from hz), List.getElem?_eq_getElem (by rw [h.1]; exact hl)]
      · rw [if_neg (show ¬ (a ≤ (⟨x, hl⟩ : Fin G.length).1 ∧ (⟨x, hl⟩ : Fin G.length).1 < a + n) from hz), h.2 x (by omega) hx, List.getElem?_eq_getElem hl]
    · rw [dif_neg hl, List.getElem?_eq_none (by rw [h.1]; omega)]
/-! what holds of every state is kept -/
theorem sVal_deed {σ : Sg} (hv : sVal σ) {ρ : Riv} (h : sOk ρ) : sVal (deed σ ρ) := by
  obtain ⟨h1, h2, h3, h4, h5, h6, h7⟩ := hv
  refine ⟨h, h2, h3, Nat.min_le_left _ _, fun j hj => ?_, h6, h7⟩
  cases j with
  | zero => exact h1
  | succ j =>
    have hj : j + 1 < min 16 (gP σ + 1) := hj
    exact h5 j (by omega)
theorem dr1_eq {τ : Sg} (h0 : ¬ rN (gR τ) = 0) {a b c : Nat} (ea : nxS (gS τ) = a) (eb : nxS a = b) (ec : nxS b = c) : dr1 τ = sgS (deed τ (rvS (gR τ) (a / 65536 % rN (gR τ)) (b / 65536 % rT (gR τ)) (nI (11 * (c / 65536 % 10))))) c := by
  subst ea eb ec
  exact if_neg h0
theorem sVal_seed {σ : Sg} (hv : sVal σ) {c : Nat} (hc : c < 2 ^ 31) : sVal (sgS σ c) := ⟨hv.1, hv.2.1, hv.2.2.1, hv.2.2.2.1, hv.2.2.2.2.1, hc, hv.2.2.2.2.2.2⟩
theorem nx3 (s : Nat) : ∃ a b c, nxS s = a ∧ nxS a = b ∧ nxS b = c ∧ a < 2 ^ 31 ∧ b < 2 ^ 31 ∧ c < 2 ^ 31 := ⟨_, _, _, rfl, rfl, rfl, nxS_lt _, nxS_lt _, nxS_lt _⟩
theorem sVal_dr1 {σ : Sg} (hv : sVal σ) : sVal (dr1 σ) := by
  by_cases h0 : rN (gR σ) = 0
  · rw [show dr1 σ = σ from if_pos h0]; exact hv
  · obtain ⟨a, b, c, ea, eb, ec, la, lb, lc⟩ := nx3 (gS σ)
    rw [dr1_eq h0 ea eb ec]
    have hc : 11 * (c / 65536 % 10) ≤ 9999 := by omega
    have hq := rVal_S hv.1.2 (a / 65536 % rN (gR σ)) (b / 65536 % rT (gR σ)) hc
    have hk : sOk (rvS (gR σ) (a / 65536 % rN (gR σ)) (b / 65536 % rT (gR σ)) (nI (11 * (c / 65536 % 10)))) := ⟨hv.1.1, hq⟩
    exact sVal_seed (sVal_deed hv hk) lc
theorem sVal_drN {σ : Sg} (hv : sVal σ) : ∀ n, sVal (drN σ n)
  | 0 => hv
  | n + 1 => sVal_dr1 (sVal_drN hv n)
theorem drN_stop {σ : Sg} {i : Nat} (h : rN (gR (drN σ i)) = 0) : ∀ m, drN σ (i + m) = drN σ i
  | 0 => rfl
  | m + 1 => by
    show dr1 (drN σ (i + m)) = drN σ i
    rw [drN_stop h m]
    exact if_pos h
theorem shR_1 (ρ : Riv) (r : Nat) : ∀ t, (shR ρ r t).1 = ρ.1
  | 0 => rfl
  | t + 1 => shR_1 ρ r t
theorem jmin_le (a b : Int64) : jmin a b ≤ a := by
  unfold jmin
  split <;> rename_i h
  · exact Int64.le_of_lt h
  · exact Int64.le_refl _
theorem jmax_cl {a b c : Int64} (h : b ≤ c) (ha : a ≤ c) : a ≤ jmax a b ∧ jmax a b ≤ c := by
  unfold jmax
  split <;> rename_i h2
  · exact ⟨Int64.le_of_lt h2, h⟩
  · exact ⟨Int64.le_refl _, ha⟩
theorem shv_nat (o : Int64) : ∃ n : Nat, n ≤ 9999 ∧ (shv o).toInt32 = nI n := by
  obtain ⟨h1, h2⟩ := jmax_cl (a := 0) (jmin_le 9999 o) (by decide)
  have h1 := Int64.le_iff_toInt_le.mp (show 0 ≤ shv o from h1)
  have h2 := Int64.le_iff_toInt_le.mp (show shv o ≤ 9999 from h2)
  have e0 : (0 : Int64).toInt = 0 := rfl
  have e9 : (9999 : Int64).toInt = 9999 := rfl
  rw [e0] at h1
  rw [e9] at h2
  refine ⟨(shv o).toInt.toNat, by omega, Int32.toInt_inj.mp ?_⟩
  rw [nI_toInt (by omega), Int64.toInt_toInt32, Int.bmod_eq_of_le (by omega) (by omega)]
  omega
theorem sOk_shR {ρ : Riv} (h : sOk ρ) (r : Nat) : ∀ t, sOk (shR ρ r t)
  | 0 => h
  | t + 1 => by
    obtain ⟨h1, h2⟩ := sOk_shR h r t
    obtain ⟨n, hn, e⟩ := shv_nat (OUT ρ r t)
    show sOk (rvE (shR ρ r t) r t (shv (OUT ρ r t)).toInt32)
    rw [e]
    exact ⟨h1, rVal_E h2 r t hn⟩
set_option maxRecDepth 100000 in
theorem lp_show (l : Launch) {σ : Sg} {G0 : PH} {j : Nat} (hj : j < rN (gR σ)) (hb : rBd (gR σ)) : ∀ (n : Nat) (G : PH) (t : Nat), rT (gR σ) - t < n → t ≤ rT (gR σ) → Cls G (deed σ (shR (gR σ) j t)) → ran G 15 (gR σ) → Fr G0 G 0 164 → WP mX9_show l (rmM mX9_show 0 0) (ZM 0 0 (fun a9 G' => a9 = some (.int (shC (gR σ) j (rT (gR σ)))) ∧ Cls G' (deed σ (shR (gR σ) j (rT (gR σ)))) ∧ Fr G0 G' 0 164)) XT 0 0 40 [some (.ref 0), some (.int (nI j)), some (.int (shC (gR σ) j t)), some (.int (nI t)), none, none, none, none] [] G := by
  intro n
  induction n with
  | zero => intro G  t hn ht k hq hF0; exact absurd hn (Nat.not_lt_zero _)
  | succ n ih =>
    intro G  t hn ht k hq hF0
    have k0 := k.1; have k1 := k.2.1; have hT : rT (gR σ) ≤ 24 := hb.2.1
    have eT : rT (shR (gR σ) j t) = rT (gR σ) := congrArg (·.1) (shR_1 (gR σ) j t)
    have eN : rN (shR (gR σ) j t) = rN (gR σ) := congrArg (·.2.2) (shR_1 (gR σ) j t)
    refine P_iload_n dX9_show_40 rfl ?_
    refine P_aload_n dX9_show_41 rfl ?_
    refine P_get dX9_show_42 flX9_10 k0 rfl ?_
    refine P_callVp dX9_show_45 lkX9_110 okX6_timeCount ⟨Nat.le_of_ble_eq_true rfl, Nat.le_of_ble_eq_true rfl⟩ (t_timeCount l k1) rfl rfl k1.at (Nat.le_of_ble_eq_true rfl) ⟨Nat.le_of_ble_eq_true rfl, Nat.le_of_ble_eq_true rfl⟩ ?_
    rw [show rT (gR (deed σ (shR (gR σ) j t))) = rT (gR σ) from eT]
    refine P_icmp_ge (tgt := 105) dX9_show_48 (by decide) (fun c48 => ?_) (fun c48 => ?_)
    · have hi2 : t = rT (gR σ) := Nat.le_antisymm ht (Nat.not_lt.mp fun z => nI_ge z (by omega) c48)
      subst hi2
      refine P_iload_n dX9_show_105 rfl ?_
      exact P_iret dX9_show_106 rfl ⟨Nat.le_refl _, Nat.le_refl _⟩ ⟨rfl, k, hF0⟩
    · have hlt : t < rT (gR σ) := Nat.not_le.mp fun z => c48 (nI_le z (by omega))
      refine P_aload_n dX9_show_51 rfl ?_
      refine P_get dX9_show_52 flX9_22 k0 rfl ?_
      refine P_iload_n dX9_show_55 rfl ?_
      refine P_iload_n dX9_show_56 rfl ?_
      refine P_callVp dX9_show_57 lkX9_215 okX7_outAt ⟨Nat.le_of_ble_eq_true rfl, Nat.le_of_ble_eq_true rfl⟩ (t_outAt l hq hb hj hlt) rfl rfl hq.at (Nat.le_of_ble_eq_true rfl) ⟨Nat.le_of_ble_eq_true rfl, Nat.le_of_ble_eq_true rfl⟩ ?_
      refine P_lstore (L' := [_, _, _, _, _, _, _, _]) dX9_show_60 (Nat.le_of_ble_eq_true rfl) rfl ?_
      refine P_lconst dX9_show_62 lc_0 ?_
      refine P_ldc2 dX9_show_63 kcX9_279 ?_
      refine P_lload dX9_show_66 rfl ?_
      refine P_callSp dX9_show_68 lkX9_281 okJ9_min_f86c9 ⟨Nat.le_of_ble_eq_true rfl, Nat.le_of_ble_eq_true rfl⟩ (t_jmin l) rfl rfl (Nat.le_of_ble_eq_true rfl) ⟨Nat.le_of_ble_eq_true rfl, Nat.le_of_ble_eq_true rfl⟩ ?_
      refine P_callSp dX9_show_71 lkX9_287 okJ9_max_f86c9 ⟨Nat.le_of_ble_eq_true rfl, Nat.le_of_ble_eq_true rfl⟩ (t_jmax l) rfl rfl (Nat.le_of_ble_eq_true rfl) ⟨Nat.le_of_ble_eq_true rfl, Nat.le_of_ble_eq_true rfl⟩ ?_
      refine P_lstore (L' := [_, _, _, _, _, _, _, _]) dX9_show_74 (Nat.le_of_ble_eq_true rfl) rfl ?_
      refine P_aload_n dX9_show_76 rfl ?_
      refine P_get dX9_show_77 flX9_10 k0 rfl ?_
      refine P_iload_n dX9_show_80 rfl ?_
      refine P_iload_n dX9_show_81 rfl ?_
      refine P_lload dX9_show_82 rfl ?_
      refine P_l2i dX9_show_84 ?_
      refine P_callV dX9_show_85 lkX9_276 okX6_setSeen ⟨Nat.le_of_ble_eq_true rfl, Nat.le_of_ble_eq_true rfl⟩ (t_setSeen l k1 (eN ▸ hj) (by omega)) rfl rfl k1.at (Nat.le_of_ble_eq_true rfl) ⟨Nat.le_of_ble_eq_true rfl, Nat.le_of_ble_eq_true rfl⟩ (fun v85 G85 q85 => ?_)
      obtain ⟨rfl, y2, hFb⟩ := q85
      have kb : Cls G85 (deed σ (shR (gR σ) j (t + 1))) := k.now hFb y2
      refine P_lload dX9_show_88 rfl ?_
      refine P_lload dX9_show_90 rfl ?_
      refine P_lcmp dX9_show_92 ?_
      refine P_if_eq (tgt := 99) dX9_show_93 (by decide) (fun c93 => ?_) (fun c93 => ?_)
      · rw [lg_cmp_eq] at c93
        have hc : shC (gR σ) j (t + 1) = shC (gR σ) j t := if_pos c93
        refine P_iinc (L' := [_, _, _, _, _, _, _, _]) dX9_show_99 rfl (ii_1 _) (Nat.le_of_ble_eq_true rfl) rfl ?_
        rw [nI_1, ← hc]
        refine P_goto (tgt := 40) dX9_show_102 (by decide) ?_
        refine P_loc ?_ (ih G85 (t + 1) (by omega) hlt kb (hq.fr hFb (by omega)) (hF0.tr (hFb.wide (by omega) (by omega))))
        · simp only [subL, List.head?_cons, List.tail_cons]; and_intros <;> first | rfl | trivial
      · rw [lg_cmp_eq] at c93
        have hc : shC (gR σ) j (t + 1) = shC (gR σ) j t + 1 := if_neg c93
        refine P_iinc (L' := [_, _, _, _, _, _, _, _]) dX9_show_96 rfl (ii_1 _) (Nat.le_of_ble_eq_true rfl) rfl ?_
        refine P_iinc (L' := [_, _, _, _, _, _, _, _]) dX9_show_99 rfl (ii_1 _) (Nat.le_of_ble_eq_true rfl) rfl ?_
        rw [nI_1, ← hc]
        refine P_goto (tgt := 40) dX9_show_102 (by decide) ?_
        refine P_loc ?_ (ih G85 (t + 1) (by omega) hlt kb (hq.fr hFb (by omega)) (hF0.tr (hFb.wide (by omega) (by omega))))
        · simp only [subL, List.head?_cons, List.tail_cons]; and_intros <;> first | rfl | trivial
set_option maxHeartbeats 4000000 in
set_option maxRecDepth 100000 in
theorem c_show (l : Launch) {G : PH} {σ : Sg} {r0 : Int32} (k : Cls G σ) (hv : sVal σ) : Tri l mX9_show 0 0 [.ref 0, .int r0] G (fun a9 G' => a9 = some (.int (spShow σ r0).1) ∧ Cls G' (spShow σ r0).2 ∧ Fr G G' 0 164) := by
  obtain ⟨k0, k1, ⟨r2, k2⟩, ⟨qT, qD, fi, fo, fs, fl, fh, k3⟩, ⟨a1, a2, a3, k4⟩, ⟨b1, b2, b3, b4, b5, k5⟩, k6, k7, k8, ⟨fI, k9, e0, e1⟩, k10, k11⟩ := id k
  have hb := hv.1.1; have hvr := hv.1.2; have hN : rN (gR σ) ≤ 6 := hb.2.2.2.2; have hT : rT (gR σ) ≤ 24 := hb.2.1; have hT2 : 2 ≤ rT (gR σ) := hb.1
  refine Tri.intro (L := [_, _, _, _, _, _, _, _]) okX9_show.1 (Nat.le_of_ble_eq_true rfl) rfl ?_
  refine P_aload_n dX9_show_0 rfl ?_
  refine P_get dX9_show_1 flX9_10 k0 rfl ?_
  refine P_iload_n dX9_show_4 rfl ?_
  refine P_callVp dX9_show_5 lkX9_138 okX6_hasReach ⟨Nat.le_of_ble_eq_true rfl, Nat.le_of_ble_eq_true rfl⟩ (t_hasReach l k1) rfl rfl k1.at (Nat.le_of_ble_eq_true rfl) ⟨Nat.le_of_ble_eq_true rfl, Nat.le_of_ble_eq_true rfl⟩ ?_
  refine P_if_ne (tgt := 14) dX9_show_8 (by decide) (fun c8 => ?_) (fun c8 => ?_)
  · obtain ⟨j, hj, rfl⟩ := inN_of (b2y c8) (by omega)
    have hs : spShow σ (nI j) = (shC (gR σ) j (rT (gR σ)), deed σ (shR (gR σ) j (rT (gR σ)))) := by unfold spShow; rw [if_pos (inN_nI hj (by omega)), nI_clamp (by omega)]
    rw [hs]
    refine P_aload_n dX9_show_14 rfl ?_
    refine P_get dX9_show_15 flX9_50 k0 rfl ?_
    refine P_aload_n dX9_show_18 rfl ?_
    refine P_get dX9_show_19 flX9_10 k0 rfl ?_
    refine P_callV dX9_show_22 lkX9_100 okX5_remember ⟨Nat.le_of_ble_eq_true rfl, Nat.le_of_ble_eq_true rfl⟩ (t_remember l k7 k1 (by omega)) rfl rfl k7.at.choose_spec (Nat.le_of_ble_eq_true rfl) ⟨Nat.le_of_ble_eq_true rfl, Nat.le_of_ble_eq_true rfl⟩ (fun v22 G22 q22 => ?_)
    obtain ⟨rfl, y1, hFa⟩ := q22
    have ka := k.past hFa y1; have k0 := hFa.at k0 (by omega); have k1 := k1.fr hFa (by omega); have k3 := k3.fr hFa (by omega); have k8 := hFa.at k8 (by omega)
    refine P_aload_n dX9_show_25 rfl ?_
    refine P_get dX9_show_26 flX9_22 k0 rfl ?_
    refine P_aload_n dX9_show_29 rfl ?_
    refine P_get dX9_show_30 flX9_10 k0 rfl ?_
    refine P_callV dX9_show_33 lkX9_125 okX7_runAll ⟨Nat.le_of_ble_eq_true rfl, Nat.le_of_ble_eq_true rfl⟩ (t_runAll l k1 k3 (by omega) hvr) rfl rfl k3.1 (Nat.le_of_ble_eq_true rfl) ⟨Nat.le_of_ble_eq_true rfl, Nat.le_of_ble_eq_true rfl⟩ (fun v33 G33 q33 => ?_)
    obtain ⟨rfl, hq, hF1⟩ := q33
    have kc : Cls G33 (deed σ (gR σ)) := ka.rtg hF1 hq.rout
    refine P_iconst dX9_show_36 ci_0 ?_
    refine P_istore_n (L' := [_, _, _, _, _, _, _, _]) dX9_show_37 (Nat.le_of_ble_eq_true rfl) rfl ?_
    refine P_iconst dX9_show_38 ci_0 ?_
    refine P_istore_n (L' := [_, _, _, _, _, _, _, _]) dX9_show_39 (Nat.le_of_ble_eq_true rfl) rfl ?_
    exact P_loc (by simp only [subL, List.head?_cons, List.tail_cons]; and_intros <;> first | rfl | trivial) (lp_show l hj hb (rT (gR σ) + 1) G33 0 (by omega) (Nat.zero_le _) kc hq ((hFa.wide (by omega) (by omega)).tr (hF1.wide (by omega) (by omega))))
  · have e := (b2p _).mp c8
    have hs : spShow σ r0 = (UNK, σ) := by unfold spShow; rw [if_neg e]
    refine P_ldc dX9_show_11 kcX9_142 ?_
    exact P_iret dX9_show_13 rfl ⟨Nat.le_refl _, Nat.le_refl _⟩ ⟨by rw [hs], by rw [hs]; exact k, Fr.rf⟩
set_option maxRecDepth 100000 in
theorem lp_drift (l : Launch) {σ : Sg} {G0 : PH} {n0 : Nat} (hv0 : sVal σ) (hn0 : n0 ≤ 20) : ∀ (n : Nat) (G : PH) (i : Nat), n0 - i < n → i ≤ n0 → Cls G (drN σ i) → Fr G0 G 0 164 → WP mX9_drift l (rmM mX9_drift 0 0) (ZM 0 0 (fun a9 G' => a9 = some (.int (nI (gS (drN σ n0)))) ∧ Cls G' (drN σ n0) ∧ Fr G0 G' 0 164)) XT 0 0 15 [some (.ref 0), some (.int (nI n0)), some (.int (nI i)), none, none] [] G := by
  intro n
  induction n with
  | zero => intro G  i hn hi k hF0; exact absurd hn (Nat.not_lt_zero _)
  | succ n ih =>
    intro G  i hn hi k hF0
    have hv := sVal_drN hv0 i
    generalize hσ : drN σ i = τ at k hv
    obtain ⟨a9, b9, c9, ea, eb, ec, la, lb, lc⟩ := nx3 (gS τ)
    obtain ⟨k0, k1, ⟨r2, k2⟩, ⟨qT, qD, fi, fo, fs, fl, fh, k3⟩, ⟨a1, a2, a3, k4⟩, ⟨b1, b2, b3, b4, b5, k5⟩, k6, k7, k8, ⟨fI, k9, e0, e1⟩, k10, k11⟩ := id k
    have hb := hv.1.1; have hvr := hv.1.2; have hN : rN (gR τ) ≤ 6 := hb.2.2.2.2; have hT : rT (gR τ) ≤ 24 := hb.2.1; have hT2 : 2 ≤ rT (gR τ) := hb.1
    refine P_iload_n dX9_drift_15 rfl ?_
    refine P_iload_n dX9_drift_16 rfl ?_
    refine P_icmp_ge (tgt := 100) dX9_drift_17 (by decide) (fun c17 => ?_) (fun c17 => ?_)
    · have hi2 : i = n0 := Nat.le_antisymm hi (Nat.not_lt.mp fun z => nI_ge z (by omega) c17)
      subst hi2
      refine P_aload_n dX9_drift_100 rfl ?_
      refine P_get dX9_drift_101 flX9_57 k0 rfl ?_
      refine P_callVp dX9_drift_104 lkX9_135 okX2_value ⟨Nat.le_of_ble_eq_true rfl, Nat.le_of_ble_eq_true rfl⟩ (t_value l k8) rfl rfl k8 (Nat.le_of_ble_eq_true rfl) ⟨Nat.le_of_ble_eq_true rfl, Nat.le_of_ble_eq_true rfl⟩ ?_
      exact P_iret dX9_drift_107 rfl ⟨Nat.le_refl _, Nat.le_refl _⟩ ⟨by rw [hσ], by rw [hσ]; exact k, hF0⟩
    · have hlt : i < n0 := Nat.not_le.mp fun z => c17 (nI_le z (by omega))
      refine P_aload_n dX9_drift_20 rfl ?_
      refine P_get dX9_drift_21 flX9_10 k0 rfl ?_
      refine P_callVp dX9_drift_24 lkX9_107 okX6_reachCount ⟨Nat.le_of_ble_eq_true rfl, Nat.le_of_ble_eq_true rfl⟩ (t_reachCount l k1) rfl rfl k1.at (Nat.le_of_ble_eq_true rfl) ⟨Nat.le_of_ble_eq_true rfl, Nat.le_of_ble_eq_true rfl⟩ ?_
      refine P_if_le (tgt := 100) dX9_drift_27 (by decide) (fun c27 => ?_) (fun c27 => ?_)
      · have h0 : rN (gR τ) = 0 := Classical.byContradiction fun z => nI_nle (Nat.pos_of_ne_zero z) (by omega) c27
        obtain ⟨m, rfl⟩ : ∃ m, n0 = i + m := ⟨n0 - i, by omega⟩
        have hσ := (drN_stop (σ := σ) (i := i) (by rw [hσ]; exact h0) m).trans hσ
        refine P_aload_n dX9_drift_100 rfl ?_
        refine P_get dX9_drift_101 flX9_57 k0 rfl ?_
        refine P_callVp dX9_drift_104 lkX9_135 okX2_value ⟨Nat.le_of_ble_eq_true rfl, Nat.le_of_ble_eq_true rfl⟩ (t_value l k8) rfl rfl k8 (Nat.le_of_ble_eq_true rfl) ⟨Nat.le_of_ble_eq_true rfl, Nat.le_of_ble_eq_true rfl⟩ ?_
        exact P_iret dX9_drift_107 rfl ⟨Nat.le_refl _, Nat.le_refl _⟩ ⟨by rw [hσ], by rw [hσ]; exact k, hF0⟩
      · have h0 : 0 < rN (gR τ) := Nat.pos_of_ne_zero fun z => c27 (by rw [z]; exact Int32.le_refl _)
        refine P_aload_n dX9_drift_30 rfl ?_
        refine P_get dX9_drift_31 flX9_50 k0 rfl ?_
        refine P_aload_n dX9_drift_34 rfl ?_
        refine P_get dX9_drift_35 flX9_10 k0 rfl ?_
        refine P_callV dX9_drift_38 lkX9_100 okX5_remember ⟨Nat.le_of_ble_eq_true rfl, Nat.le_of_ble_eq_true rfl⟩ (t_remember l k7 k1 (by omega)) rfl rfl k7.at.choose_spec (Nat.le_of_ble_eq_true rfl) ⟨Nat.le_of_ble_eq_true rfl, Nat.le_of_ble_eq_true rfl⟩ (fun v38 G38 q38 => ?_)
        obtain ⟨rfl, y1, hFa⟩ := q38
        have ka := k.past hFa y1; have k0 := hFa.at k0 (by omega); have k1 := k1.fr hFa (by omega); have k3 := k3.fr hFa (by omega); have k8 := hFa.at k8 (by omega)
        refine P_aload_n dX9_drift_41 rfl ?_
        refine P_get dX9_drift_42 flX9_57 k0 rfl ?_
        refine P_aload_n dX9_drift_45 rfl ?_
        refine P_get dX9_drift_46 flX9_10 k0 rfl ?_
        refine P_callVp dX9_drift_49 lkX9_107 okX6_reachCount ⟨Nat.le_of_ble_eq_true rfl, Nat.le_of_ble_eq_true rfl⟩ (t_reachCount l k1) rfl rfl k1.at (Nat.le_of_ble_eq_true rfl) ⟨Nat.le_of_ble_eq_true rfl, Nat.le_of_ble_eq_true rfl⟩ ?_
        refine P_callV dX9_drift_52 lkX9_294 okX2_next ⟨Nat.le_of_ble_eq_true rfl, Nat.le_of_ble_eq_true rfl⟩ (t_next l k8 hv.2.2.2.2.2.1 h0 (by omega)) rfl rfl k8 (Nat.le_of_ble_eq_true rfl) ⟨Nat.le_of_ble_eq_true rfl, Nat.le_of_ble_eq_true rfl⟩ (fun v52 G52 q52 => ?_)
        rw [ea] at q52
        obtain ⟨rfl, d1, hFb⟩ := q52
        have kb := ka.draw hFb d1; have k0 := hFb.at k0 (by omega); have k1 := k1.fr hFb (by omega)
        refine P_istore_n (L' := [_, _, _, _, _]) dX9_drift_55 (Nat.le_of_ble_eq_true rfl) rfl ?_
        refine P_aload_n dX9_drift_56 rfl ?_
        refine P_get dX9_drift_57 flX9_57 k0 rfl ?_
        refine P_aload_n dX9_drift_60 rfl ?_
        refine P_get dX9_drift_61 flX9_10 k0 rfl ?_
        refine P_callVp dX9_drift_64 lkX9_110 okX6_timeCount ⟨Nat.le_of_ble_eq_true rfl, Nat.le_of_ble_eq_true rfl⟩ (t_timeCount l k1) rfl rfl k1.at (Nat.le_of_ble_eq_true rfl) ⟨Nat.le_of_ble_eq_true rfl, Nat.le_of_ble_eq_true rfl⟩ ?_
        refine P_callV dX9_drift_67 lkX9_294 okX2_next ⟨Nat.le_of_ble_eq_true rfl, Nat.le_of_ble_eq_true rfl⟩ (t_next l d1 la (by omega) (by omega)) rfl rfl d1 (Nat.le_of_ble_eq_true rfl) ⟨Nat.le_of_ble_eq_true rfl, Nat.le_of_ble_eq_true rfl⟩ (fun v67 G67 q67 => ?_)
        rw [eb] at q67
        obtain ⟨rfl, d2, hFc⟩ := q67
        have kc := kb.draw hFc d2; have k0 := hFc.at k0 (by omega); have k1 := k1.fr hFc (by omega)
        refine P_istore (L' := [_, _, _, _, _]) dX9_drift_70 (Nat.le_of_ble_eq_true rfl) rfl ?_
        refine P_aload_n dX9_drift_72 rfl ?_
        refine P_get dX9_drift_73 flX9_10 k0 rfl ?_
        refine P_iload_n dX9_drift_76 rfl ?_
        refine P_iload dX9_drift_77 rfl ?_
        refine P_bipush dX9_drift_79 bp_11 ?_
        refine P_aload_n dX9_drift_81 rfl ?_
        refine P_get dX9_drift_82 flX9_57 k0 rfl ?_
        refine P_bipush dX9_drift_85 bp_10 ?_
        refine P_callV dX9_drift_87 lkX9_294 okX2_next ⟨Nat.le_of_ble_eq_true rfl, Nat.le_of_ble_eq_true rfl⟩ (t_next (m := 10) l d2 lb (by omega) (by omega)) rfl rfl d2 (Nat.le_of_ble_eq_true rfl) ⟨Nat.le_of_ble_eq_true rfl, Nat.le_of_ble_eq_true rfl⟩ (fun v87 G87 q87 => ?_)
        rw [ec] at q87
        obtain ⟨rfl, d3, hFd⟩ := q87
        have kd := kc.draw hFd d3; have k0 := hFd.at k0 (by omega); have k1 := k1.fr hFd (by omega)
        refine P_imul dX9_drift_90 ?_
        rw [show (11 : Int32) * nI (c9 / 65536 % 10) = nI (11 * (c9 / 65536 % 10)) from (Int32.ofNat_mul 11 _).symm]
        refine P_callV dX9_drift_91 lkX9_273 okX6_setSide ⟨Nat.le_of_ble_eq_true rfl, Nat.le_of_ble_eq_true rfl⟩ (t_setSide l k1 (Nat.mod_lt _ h0) (Nat.lt_of_lt_of_le (Nat.mod_lt _ (by omega)) hT)) rfl rfl k1.at (Nat.le_of_ble_eq_true rfl) ⟨Nat.le_of_ble_eq_true rfl, Nat.le_of_ble_eq_true rfl⟩ (fun v91 G91 q91 => ?_)
        obtain ⟨rfl, y9, hFe⟩ := q91
        have ke : Cls G91 (drN σ (i + 1)) := by
          have z := kd.now hFe y9
          show Cls G91 (dr1 (drN σ i))
          rw [hσ, dr1_eq (Nat.pos_iff_ne_zero.mp h0) ea eb ec]
          exact z
        refine P_iinc (L' := [_, _, _, _, _]) dX9_drift_94 rfl (ii_1 _) (Nat.le_of_ble_eq_true rfl) rfl ?_
        rw [nI_1]
        refine P_goto (tgt := 15) dX9_drift_97 (by decide) ?_
        refine P_loc ?_ (ih G91 (i + 1) (by omega) hlt ke (hF0.tr ((hFa.wide (by omega) (by omega)).tr ((hFb.wide (by omega) (by omega)).tr ((hFc.wide (by omega) (by omega)).tr ((hFd.wide (by omega) (by omega)).tr (hFe.wide (by omega) (by omega))))))))
        · simp only [subL, List.head?_cons, List.tail_cons]; and_intros <;> first | rfl | trivial
set_option maxHeartbeats 4000000 in
set_option maxRecDepth 100000 in
theorem c_drift (l : Launch) {G : PH} {σ : Sg} {t0 : Int32} (k : Cls G σ) (hv : sVal σ) : Tri l mX9_drift 0 0 [.ref 0, .int t0] G (fun a9 G' => a9 = some (.int (spDrift σ t0).1) ∧ Cls G' (spDrift σ t0).2 ∧ Fr G G' 0 164) := by
  refine Tri.intro (L := [_, _, _, _, _]) okX9_drift.1 (Nat.le_of_ble_eq_true rfl) rfl ?_
  refine P_iload_n dX9_drift_0 rfl ?_
  refine P_iconst dX9_drift_1 ci_1 ?_
  refine P_bipush dX9_drift_2 bp_20 ?_
  refine P_callSp dX9_drift_4 lkX9_72 okX9_outOf ⟨Nat.le_of_ble_eq_true rfl, Nat.le_of_ble_eq_true rfl⟩ (t_outOf l) rfl rfl (Nat.le_of_ble_eq_true rfl) ⟨Nat.le_of_ble_eq_true rfl, Nat.le_of_ble_eq_true rfl⟩ ?_
  refine P_if_eq (tgt := 13) dX9_drift_7 (by decide) (fun c7 => ?_) (fun c7 => ?_)
  · have e := (b2p _).mp c7
    obtain ⟨t, ht1, ht2, rfl⟩ := ob_nat (a := 1) (b := 20) (by omega) (by omega) e
    have hs : spDrift σ (nI t) = (nI (gS (drN σ t)), drN σ t) := by unfold spDrift; rw [if_neg e, nI_clamp (by omega)]
    rw [hs]
    refine P_iconst dX9_drift_13 ci_0 ?_
    refine P_istore_n (L' := [_, _, _, _, _]) dX9_drift_14 (Nat.le_of_ble_eq_true rfl) rfl ?_
    exact P_loc (by simp only [subL, List.head?_cons, List.tail_cons]; and_intros <;> first | rfl | trivial) (lp_drift l hv ht2 (t + 1) G 0 (by omega) (Nat.zero_le _) k Fr.rf)
  · have e := b2y c7
    have hs : spDrift σ t0 = (OUTS, σ) := by unfold spDrift; rw [if_pos e]
    refine P_ldc dX9_drift_10 kcX9_76 ?_
    exact P_iret dX9_drift_12 rfl ⟨Nat.le_refl _, Nat.le_refl _⟩ ⟨by rw [hs], by rw [hs]; exact k, Fr.rf⟩
set_option maxHeartbeats 4000000 in
set_option maxRecDepth 100000 in
theorem c_undo (l : Launch) {G : PH} {σ : Sg} {t0 : Int32} (k : Cls G σ) (hv : sVal σ) : Tri l mX9_undo 0 0 [.ref 0, .int t0] G (fun a9 G' => a9 = some (.int (spUndo σ t0).1) ∧ Cls G' (spUndo σ t0).2 ∧ Fr G G' 0 164) := by
  obtain ⟨k0, k1, ⟨r2, k2⟩, ⟨qT, qD, fi, fo, fs, fl, fh, k3⟩, ⟨a1, a2, a3, k4⟩, ⟨b1, b2, b3, b4, b5, k5⟩, k6, k7, k8, ⟨fI, k9, e0, e1⟩, k10, k11⟩ := id k
  have hb := hv.1.1; have hvr := hv.1.2; have hN : rN (gR σ) ≤ 6 := hb.2.2.2.2; have hT : rT (gR σ) ≤ 24 := hb.2.1; have hT2 : 2 ≤ rT (gR σ) := hb.1
  have hP : gP σ ≤ 16 := hv.2.2.2.1
  refine Tri.intro (L := [_, _]) okX9_undo.1 (Nat.le_of_ble_eq_true rfl) rfl ?_
  refine P_iload_n dX9_undo_0 rfl ?_
  refine P_iconst dX9_undo_1 ci_1 ?_
  refine P_bipush dX9_undo_2 bp_16 ?_
  refine P_callSp dX9_undo_4 lkX9_72 okX9_outOf ⟨Nat.le_of_ble_eq_true rfl, Nat.le_of_ble_eq_true rfl⟩ (t_outOf l) rfl rfl (Nat.le_of_ble_eq_true rfl) ⟨Nat.le_of_ble_eq_true rfl, Nat.le_of_ble_eq_true rfl⟩ ?_
  refine P_if_eq (tgt := 13) dX9_undo_7 (by decide) (fun c7 => ?_) (fun c7 => ?_)
  · have e := (b2p _).mp c7
    obtain ⟨t, ht1, ht2, rfl⟩ := ob_nat (a := 1) (b := 16) (by omega) (by omega) e
    refine P_iload_n dX9_undo_13 rfl ?_
    refine P_aload_n dX9_undo_14 rfl ?_
    refine P_get dX9_undo_15 flX9_50 k0 rfl ?_
    refine P_callVp dX9_undo_18 lkX9_132 okX5_deedCount ⟨Nat.le_of_ble_eq_true rfl, Nat.le_of_ble_eq_true rfl⟩ (t_deedCount l k7) rfl rfl k7.at.choose_spec (Nat.le_of_ble_eq_true rfl) ⟨Nat.le_of_ble_eq_true rfl, Nat.le_of_ble_eq_true rfl⟩ ?_
    refine P_icmp_le (tgt := 28) dX9_undo_21 (by decide) (fun c21 => ?_) (fun c21 => ?_)
    · have hle : t ≤ gP σ := Nat.not_lt.mp fun z => absurd c21 (nI_ge z (by omega))
      have hs : spUndo σ (nI t) = (nI (rN (gQ σ (t - 1))), sgR (sgP σ (gP σ - t) (fun j => gQ σ (t + j))) (gQ σ (t - 1))) := by unfold spUndo; rw [if_neg e, nI_clamp (by omega), if_neg (Nat.not_lt.mpr hle)]
      refine P_aload_n dX9_undo_28 rfl ?_
      refine P_get dX9_undo_29 flX9_50 k0 rfl ?_
      refine P_iload_n dX9_undo_32 rfl ?_
      refine P_aload_n dX9_undo_33 rfl ?_
      refine P_get dX9_undo_34 flX9_10 k0 rfl ?_
      refine P_callV dX9_undo_37 lkX9_297 okX5_restore ⟨Nat.le_of_ble_eq_true rfl, Nat.le_of_ble_eq_true rfl⟩ (t_restore l k7 k1 (by omega) ht1 hle) rfl rfl k7.at.choose_spec (Nat.le_of_ble_eq_true rfl) ⟨Nat.le_of_ble_eq_true rfl, Nat.le_of_ble_eq_true rfl⟩ (fun v37 G37 q37 => ?_)
      obtain ⟨rfl, y1, y2, hF2⟩ := q37
      obtain ⟨Ga, hFa, hFb⟩ := hF2.cut (by omega)
      have kb := (k.past hFa (y2.fr hFb.sy (by omega))).now hFb y1
      have m0 := kb.1
      refine P_aload_n dX9_undo_40 rfl ?_
      refine P_get dX9_undo_41 flX9_10 m0 rfl ?_
      refine P_callVp dX9_undo_44 lkX9_107 okX6_reachCount ⟨Nat.le_of_ble_eq_true rfl, Nat.le_of_ble_eq_true rfl⟩ (t_reachCount l y1) rfl rfl y1.at (Nat.le_of_ble_eq_true rfl) ⟨Nat.le_of_ble_eq_true rfl, Nat.le_of_ble_eq_true rfl⟩ ?_
      exact P_iret dX9_undo_47 rfl ⟨Nat.le_refl _, Nat.le_refl _⟩ ⟨by rw [hs], by rw [hs]; exact kb, (hFa.wide (by omega) (by omega)).tr (hFb.wide (by omega) (by omega))⟩
    · have hle : gP σ < t := Nat.not_le.mp fun z => c21 (nI_le z (by omega))
      have hs : spUndo σ (nI t) = (NOTT, σ) := by unfold spUndo; rw [if_neg e, nI_clamp (by omega), if_pos hle]
      refine P_ldcw dX9_undo_24 kcX9_290 ?_
      exact P_iret dX9_undo_27 rfl ⟨Nat.le_refl _, Nat.le_refl _⟩ ⟨by rw [hs], by rw [hs]; exact k, Fr.rf⟩
  · have e := b2y c7
    have hs : spUndo σ t0 = (OUTS, σ) := by unfold spUndo; rw [if_pos e]
    refine P_ldc dX9_undo_10 kcX9_76 ?_
    exact P_iret dX9_undo_12 rfl ⟨Nat.le_refl _, Nat.le_refl _⟩ ⟨by rw [hs], by rw [hs]; exact k, Fr.rf⟩
theorem t_imageN (l : Launch) {G : PH} {fI : Nat → Option Nat} {z0 : Int32} {i0 : Int32} (k0 : G[0]? = some (o9 z0)) (k9 : G[147]? = some (aQ 4 2 fI)) (ho : oB3 i0 0 1) : Tri l mX9_imageAt 0 0 [.ref 0, .int i0] G (fun w G' => w = some (.null) ∧ G' = G) := by
  refine Tri.intro (L := [_, _]) okX9_imageAt.1 (Nat.le_of_ble_eq_true rfl) rfl ?_
  refine P_iload_n dX9_imageAt_0 rfl ?_
  refine P_iconst dX9_imageAt_1 ci_0 ?_
  refine P_aload_n dX9_imageAt_2 rfl ?_
  refine P_get dX9_imageAt_3 flX9_63 k0 rfl ?_
  refine P_alen (v := nI 2) dX9_imageAt_6 k9 (fun _ => rfl) rfl ?_
  refine P_iconst dX9_imageAt_7 ci_1 ?_
  refine P_isub dX9_imageAt_8 ?_
  refine P_callSp dX9_imageAt_9 lkX9_72 okX9_outOf ⟨Nat.le_of_ble_eq_true rfl, Nat.le_of_ble_eq_true rfl⟩ (t_outOf l) rfl rfl (Nat.le_of_ble_eq_true rfl) ⟨Nat.le_of_ble_eq_true rfl, Nat.le_of_ble_eq_true rfl⟩ ?_
  refine P_if_eq (tgt := 19) dX9_imageAt_12 (by decide) (fun c12 => ?_) (fun c12 => ?_)
  · exact absurd ho ((b2p _).mp c12)
  · refine P_null dX9_imageAt_15 ?_
    refine P_goto (tgt := 25) dX9_imageAt_16 (by decide) ?_
    exact P_aret (o := none) dX9_imageAt_25 rfl ⟨Nat.le_refl _, Nat.le_refl _⟩ ⟨rfl, rfl⟩
theorem t_image0 (l : Launch) {G : PH} {fI : Nat → Option Nat} {z0 : Int32} (k0 : G[0]? = some (o9 z0)) (k9 : G[147]? = some (aQ 4 2 fI)) (e : fI 0 = some 148) : Tri l mX9_imageAt 0 0 [.ref 0, .int 0] G (fun w G' => w = some (.ref 148) ∧ G' = G) := by
  refine Tri.intro (L := [_, _]) okX9_imageAt.1 (Nat.le_of_ble_eq_true rfl) rfl ?_
  refine P_iload_n dX9_imageAt_0 rfl ?_
  refine P_iconst dX9_imageAt_1 ci_0 ?_
  refine P_aload_n dX9_imageAt_2 rfl ?_
  refine P_get dX9_imageAt_3 flX9_63 k0 rfl ?_
  refine P_alen (v := nI 2) dX9_imageAt_6 k9 (fun _ => rfl) rfl ?_
  refine P_iconst dX9_imageAt_7 ci_1 ?_
  refine P_isub dX9_imageAt_8 ?_
  refine P_callSp dX9_imageAt_9 lkX9_72 okX9_outOf ⟨Nat.le_of_ble_eq_true rfl, Nat.le_of_ble_eq_true rfl⟩ (t_outOf l) rfl rfl (Nat.le_of_ble_eq_true rfl) ⟨Nat.le_of_ble_eq_true rfl, Nat.le_of_ble_eq_true rfl⟩ ?_
  refine P_if_eq (tgt := 19) dX9_imageAt_12 (by decide) (fun c12 => ?_) (fun c12 => ?_)
  · refine P_aload_n dX9_imageAt_19 rfl ?_
    refine P_get dX9_imageAt_20 flX9_63 k0 rfl ?_
    refine P_iload_n dX9_imageAt_23 rfl ?_
    refine P_aald4 dX9_imageAt_24 k9 (vp_in_nI (show 0 < 2 by decide) (by decide)) ?_
    rw [show (0 : Int32).toNatClampNeg = 0 from rfl, e]
    exact P_aret (o := some 148) dX9_imageAt_25 rfl ⟨Nat.le_refl _, Nat.le_refl _⟩ ⟨rfl, rfl⟩
  · exact absurd (b2y c12) (by decide)
theorem t_image1 (l : Launch) {G : PH} {fI : Nat → Option Nat} {z0 : Int32} (k0 : G[0]? = some (o9 z0)) (k9 : G[147]? = some (aQ 4 2 fI)) (e : fI 1 = some 156) : Tri l mX9_imageAt 0 0 [.ref 0, .int 1] G (fun w G' => w = some (.ref 156) ∧ G' = G) := by
  refine Tri.intro (L := [_, _]) okX9_imageAt.1 (Nat.le_of_ble_eq_true rfl) rfl ?_
  refine P_iload_n dX9_imageAt_0 rfl ?_
  refine P_iconst dX9_imageAt_1 ci_0 ?_
  refine P_aload_n dX9_imageAt_2 rfl ?_
  refine P_get dX9_imageAt_3 flX9_63 k0 rfl ?_
  refine P_alen (v := nI 2) dX9_imageAt_6 k9 (fun _ => rfl) rfl ?_
  refine P_iconst dX9_imageAt_7 ci_1 ?_
  refine P_isub dX9_imageAt_8 ?_
  refine P_callSp dX9_imageAt_9 lkX9_72 okX9_outOf ⟨Nat.le_of_ble_eq_true rfl, Nat.le_of_ble_eq_true rfl⟩ (t_outOf l) rfl rfl (Nat.le_of_ble_eq_true rfl) ⟨Nat.le_of_ble_eq_true rfl, Nat.le_of_ble_eq_true rfl⟩ ?_
  refine P_if_eq (tgt := 19) dX9_imageAt_12 (by decide) (fun c12 => ?_) (fun c12 => ?_)
  · refine P_aload_n dX9_imageAt_19 rfl ?_
    refine P_get dX9_imageAt_20 flX9_63 k0 rfl ?_
    refine P_iload_n dX9_imageAt_23 rfl ?_
    refine P_aald4 dX9_imageAt_24 k9 (vp_in_nI (show 1 < 2 by decide) (by decide)) ?_
    rw [show (1 : Int32).toNatClampNeg = 1 from rfl, e]
    exact P_aret (o := some 156) dX9_imageAt_25 rfl ⟨Nat.le_refl _, Nat.le_refl _⟩ ⟨rfl, rfl⟩
  · exact absurd (b2y c12) (by decide)
theorem im_cases {i : Int32} (h : ¬ oB3 i 0 1) : i = 0 ∨ i = 1 := by
  obtain ⟨j, h1, h2, rfl⟩ := ob_nat (a := 0) (b := 1) (by omega) (by omega) h
  rcases (by omega : j = 0 ∨ j = 1) with rfl | rfl
  · exact Or.inl rfl
  · exact Or.inr rfl
set_option maxHeartbeats 4000000 in
set_option maxRecDepth 100000 in
theorem c_keep0 (l : Launch) {G : PH} {σ : Sg} (k : Cls G σ) (hv : sVal σ) : Tri l mX9_keep 0 0 [.ref 0, .int 0] G (fun a9 G' => a9 = some (.int (spKeep σ 0).1) ∧ Cls G' (spKeep σ 0).2 ∧ Fr G G' 0 164) := by
  obtain ⟨k0, k1, ⟨r2, k2⟩, ⟨qT, qD, fi, fo, fs, fl, fh, k3⟩, ⟨a1, a2, a3, k4⟩, ⟨b1, b2, b3, b4, b5, k5⟩, k6, k7, k8, ⟨fI, k9, e0, e1⟩, k10, k11⟩ := id k
  have hb := hv.1.1; have hvr := hv.1.2; have hN : rN (gR σ) ≤ 6 := hb.2.2.2.2; have hT : rT (gR σ) ≤ 24 := hb.2.1; have hT2 : 2 ≤ rT (gR σ) := hb.1
  have hs : spKeep σ 0 = (1, sgP (sgI σ 0 (some (gR σ, gS σ))) 0 (gQ σ)) := if_neg (by decide)
  refine Tri.intro (L := [_, _, _]) okX9_keep.1 (Nat.le_of_ble_eq_true rfl) rfl ?_
  refine P_aload_n dX9_keep_0 rfl ?_
  refine P_iload_n dX9_keep_1 rfl ?_
  refine P_callVp dX9_keep_2 lkX9_310 okX9_imageAt ⟨Nat.le_of_ble_eq_true rfl, Nat.le_of_ble_eq_true rfl⟩ (t_image0 l k0 k9 e0) rfl rfl k0 (Nat.le_of_ble_eq_true rfl) ⟨Nat.le_of_ble_eq_true rfl, Nat.le_of_ble_eq_true rfl⟩ ?_
  refine P_astore_n (L' := [_, _, _]) dX9_keep_5 (Nat.le_of_ble_eq_true rfl) rfl ?_
  refine P_aload_n dX9_keep_6 rfl ?_
  refine P_ifnonnull (tgt := 13) dX9_keep_7 (by decide) ?_
  refine P_aload_n dX9_keep_13 rfl ?_
  refine P_aload_n dX9_keep_14 rfl ?_
  refine P_get dX9_keep_15 flX9_10 k0 rfl ?_
  refine P_aload_n dX9_keep_18 rfl ?_
  refine P_get dX9_keep_19 flX9_57 k0 rfl ?_
  refine P_callV dX9_keep_22 lkX9_314 okX4_fill ⟨Nat.le_of_ble_eq_true rfl, Nat.le_of_ble_eq_true rfl⟩ (t_fill l k10 k1 k8 (by omega) (by omega)) rfl rfl k10.at.choose_spec (Nat.le_of_ble_eq_true rfl) ⟨Nat.le_of_ble_eq_true rfl, Nat.le_of_ble_eq_true rfl⟩ (fun v22 G22 q22 => ?_)
  obtain ⟨rfl, y1, hFa⟩ := q22
  have ka := k.im0 hFa y1
  have m0 := ka.1; have m7 := ka.2.2.2.2.2.2.2.1
  refine P_aload_n dX9_keep_25 rfl ?_
  refine P_get dX9_keep_26 flX9_50 m0 rfl ?_
  refine P_callV dX9_keep_29 lkX9_318 okX5_forget ⟨Nat.le_of_ble_eq_true rfl, Nat.le_of_ble_eq_true rfl⟩ (t_forget l m7) rfl rfl m7.at.choose_spec (Nat.le_of_ble_eq_true rfl) ⟨Nat.le_of_ble_eq_true rfl, Nat.le_of_ble_eq_true rfl⟩ (fun v29 G29 q29 => ?_)
  obtain ⟨rfl, y2, hFb⟩ := q29
  refine P_iconst dX9_keep_32 ci_1 ?_
  exact P_iret dX9_keep_33 rfl ⟨Nat.le_refl _, Nat.le_refl _⟩ ⟨by rw [hs], by rw [hs]; exact ka.past (hFb.wide (by omega) (by omega)) y2, (hFa.wide (by omega) (by omega)).tr (hFb.wide (by omega) (by omega))⟩
set_option maxHeartbeats 4000000 in
set_option maxRecDepth 100000 in
theorem c_back0 (l : Launch) {G : PH} {σ : Sg} (k : Cls G σ) (hv : sVal σ) : Tri l mX9_goBack 0 0 [.ref 0, .int 0] G (fun a9 G' => a9 = some (.int (spBack σ 0).1) ∧ Cls G' (spBack σ 0).2 ∧ Fr G G' 0 164) := by
  obtain ⟨k0, k1, ⟨r2, k2⟩, ⟨qT, qD, fi, fo, fs, fl, fh, k3⟩, ⟨a1, a2, a3, k4⟩, ⟨b1, b2, b3, b4, b5, k5⟩, k6, k7, k8, ⟨fI, k9, e0, e1⟩, k10, k11⟩ := id k
  have hb := hv.1.1; have hvr := hv.1.2; have hN : rN (gR σ) ≤ 6 := hb.2.2.2.2; have hT : rT (gR σ) ≤ 24 := hb.2.1; have hT2 : 2 ≤ rT (gR σ) := hb.1
  refine Tri.intro (L := [_, _, _]) okX9_goBack.1 (Nat.le_of_ble_eq_true rfl) rfl ?_
  refine P_aload_n dX9_goBack_0 rfl ?_
  refine P_iload_n dX9_goBack_1 rfl ?_
  refine P_callVp dX9_goBack_2 lkX9_310 okX9_imageAt ⟨Nat.le_of_ble_eq_true rfl, Nat.le_of_ble_eq_true rfl⟩ (t_image0 l k0 k9 e0) rfl rfl k0 (Nat.le_of_ble_eq_true rfl) ⟨Nat.le_of_ble_eq_true rfl, Nat.le_of_ble_eq_true rfl⟩ ?_
  refine P_astore_n (L' := [_, _, _]) dX9_goBack_5 (Nat.le_of_ble_eq_true rfl) rfl ?_
  refine P_aload_n dX9_goBack_6 rfl ?_
  refine P_ifnonnull (tgt := 13) dX9_goBack_7 (by decide) ?_
  refine P_aload_n dX9_goBack_13 rfl ?_
  refine P_callVp dX9_goBack_14 lkX9_321 okX4_isKept ⟨Nat.le_of_ble_eq_true rfl, Nat.le_of_ble_eq_true rfl⟩ (t_isKept l k10) rfl rfl k10.at.choose_spec (Nat.le_of_ble_eq_true rfl) ⟨Nat.le_of_ble_eq_true rfl, Nat.le_of_ble_eq_true rfl⟩ ?_
  refine P_if_ne (tgt := 24) dX9_goBack_17 (by decide) (fun c17 => ?_) (fun c17 => ?_)
  · obtain ⟨q9, hq9⟩ := Option.isSome_iff_exists.mp (b2y c17)
    have k9x : isImage G 148 (some (q9.1, q9.2)) := hq9 ▸ k10
    have hs : spBack σ 0 = (1, sgP (sgS (sgR σ q9.1) q9.2) 0 (gQ σ)) := by unfold spBack; rw [if_neg (by decide), show (0 : Int32).toNatClampNeg = 0 from rfl, hq9]
    refine P_aload_n dX9_goBack_24 rfl ?_
    refine P_aload_n dX9_goBack_25 rfl ?_
    refine P_get dX9_goBack_26 flX9_10 k0 rfl ?_
    refine P_aload_n dX9_goBack_29 rfl ?_
    refine P_get dX9_goBack_30 flX9_57 k0 rfl ?_
    refine P_callV dX9_goBack_33 lkX9_324 okX4_bringBack ⟨Nat.le_of_ble_eq_true rfl, Nat.le_of_ble_eq_true rfl⟩ (t_bringBack l k9x k1 k8 (by omega) (by omega) (by omega)) rfl rfl k9x.at.choose_spec (Nat.le_of_ble_eq_true rfl) ⟨Nat.le_of_ble_eq_true rfl, Nat.le_of_ble_eq_true rfl⟩ (fun v33 G33 q33 => ?_)
    obtain ⟨rfl, y1, y8, hF2⟩ := q33
    obtain ⟨Ga, hFa, hFb⟩ := hF2.cut (by omega)
    have ka := (k.now hFa (y1.fr hFb.sy (by omega))).draw hFb y8
    have m0 := ka.1; have m7 := ka.2.2.2.2.2.2.2.1
    refine P_aload_n dX9_goBack_36 rfl ?_
    refine P_get dX9_goBack_37 flX9_50 m0 rfl ?_
    refine P_callV dX9_goBack_40 lkX9_318 okX5_forget ⟨Nat.le_of_ble_eq_true rfl, Nat.le_of_ble_eq_true rfl⟩ (t_forget l m7) rfl rfl m7.at.choose_spec (Nat.le_of_ble_eq_true rfl) ⟨Nat.le_of_ble_eq_true rfl, Nat.le_of_ble_eq_true rfl⟩ (fun v40 G40 q40 => ?_)
    obtain ⟨rfl, y2, hFc⟩ := q40
    refine P_iconst dX9_goBack_43 ci_1 ?_
    exact P_iret dX9_goBack_44 rfl ⟨Nat.le_refl _, Nat.le_refl _⟩ ⟨by rw [hs], by rw [hs]; exact ka.past (hFc.wide (by omega) (by omega)) y2, (hFa.wide (by omega) (by omega)).tr ((hFb.wide (by omega) (by omega)).tr (hFc.wide (by omega) (by omega)))⟩
  · have hno : gI σ 0 = none := Option.not_isSome_iff_eq_none.mp ((b2p _).mp c17)
    have hs : spBack σ 0 = (NOTT, σ) := by unfold spBack; rw [if_neg (by decide), show (0 : Int32).toNatClampNeg = 0 from rfl, hno]
    refine P_ldcw dX9_goBack_20 kcX9_290 ?_
    exact P_iret dX9_goBack_23 rfl ⟨Nat.le_refl _, Nat.le_refl _⟩ ⟨by rw [hs], by rw [hs]; exact k, Fr.rf⟩
set_option maxHeartbeats 4000000 in
set_option maxRecDepth 100000 in
theorem c_keep1 (l : Launch) {G : PH} {σ : Sg} (k : Cls G σ) (hv : sVal σ) : Tri l mX9_keep 0 0 [.ref 0, .int 1] G (fun a9 G' => a9 = some (.int (spKeep σ 1).1) ∧ Cls G' (spKeep σ 1).2 ∧ Fr G G' 0 164) := by
  obtain ⟨k0, k1, ⟨r2, k2⟩, ⟨qT, qD, fi, fo, fs, fl, fh, k3⟩, ⟨a1, a2, a3, k4⟩, ⟨b1, b2, b3, b4, b5, k5⟩, k6, k7, k8, ⟨fI, k9, e0, e1⟩, k10, k11⟩ := id k
  have hb := hv.1.1; have hvr := hv.1.2; have hN : rN (gR σ) ≤ 6 := hb.2.2.2.2; have hT : rT (gR σ) ≤ 24 := hb.2.1; have hT2 : 2 ≤ rT (gR σ) := hb.1
  have hs : spKeep σ 1 = (1, sgP (sgI σ 1 (some (gR σ, gS σ))) 0 (gQ σ)) := if_neg (by decide)
  refine Tri.intro (L := [_, _, _]) okX9_keep.1 (Nat.le_of_ble_eq_true rfl) rfl ?_
  refine P_aload_n dX9_keep_0 rfl ?_
  refine P_iload_n dX9_keep_1 rfl ?_
  refine P_callVp dX9_keep_2 lkX9_310 okX9_imageAt ⟨Nat.le_of_ble_eq_true rfl, Nat.le_of_ble_eq_true rfl⟩ (t_image1 l k0 k9 e1) rfl rfl k0 (Nat.le_of_ble_eq_true rfl) ⟨Nat.le_of_ble_eq_true rfl, Nat.le_of_ble_eq_true rfl⟩ ?_
  refine P_astore_n (L' := [_, _, _]) dX9_keep_5 (Nat.le_of_ble_eq_true rfl) rfl ?_
  refine P_aload_n dX9_keep_6 rfl ?_
  refine P_ifnonnull (tgt := 13) dX9_keep_7 (by decide) ?_
  refine P_aload_n dX9_keep_13 rfl ?_
  refine P_aload_n dX9_keep_14 rfl ?_
  refine P_get dX9_keep_15 flX9_10 k0 rfl ?_
  refine P_aload_n dX9_keep_18 rfl ?_
  refine P_get dX9_keep_19 flX9_57 k0 rfl ?_
  refine P_callV dX9_keep_22 lkX9_314 okX4_fill ⟨Nat.le_of_ble_eq_true rfl, Nat.le_of_ble_eq_true rfl⟩ (t_fill l k11 k1 k8 (by omega) (by omega)) rfl rfl k11.at.choose_spec (Nat.le_of_ble_eq_true rfl) ⟨Nat.le_of_ble_eq_true rfl, Nat.le_of_ble_eq_true rfl⟩ (fun v22 G22 q22 => ?_)
  obtain ⟨rfl, y1, hFa⟩ := q22
  have ka := k.im1 hFa y1
  have m0 := ka.1; have m7 := ka.2.2.2.2.2.2.2.1
  refine P_aload_n dX9_keep_25 rfl ?_
  refine P_get dX9_keep_26 flX9_50 m0 rfl ?_
  refine P_callV dX9_keep_29 lkX9_318 okX5_forget ⟨Nat.le_of_ble_eq_true rfl, Nat.le_of_ble_eq_true rfl⟩ (t_forget l m7) rfl rfl m7.at.choose_spec (Nat.le_of_ble_eq_true rfl) ⟨Nat.le_of_ble_eq_true rfl, Nat.le_of_ble_eq_true rfl⟩ (fun v29 G29 q29 => ?_)
  obtain ⟨rfl, y2, hFb⟩ := q29
  refine P_iconst dX9_keep_32 ci_1 ?_
  exact P_iret dX9_keep_33 rfl ⟨Nat.le_refl _, Nat.le_refl _⟩ ⟨by rw [hs], by rw [hs]; exact ka.past (hFb.wide (by omega) (by omega)) y2, (hFa.wide (by omega) (by omega)).tr (hFb.wide (by omega) (by omega))⟩
set_option maxHeartbeats 4000000 in
set_option maxRecDepth 100000 in
theorem c_back1 (l : Launch) {G : PH} {σ : Sg} (k : Cls G σ) (hv : sVal σ) : Tri l mX9_goBack 0 0 [.ref 0, .int 1] G (fun a9 G' => a9 = some (.int (spBack σ 1).1) ∧ Cls G' (spBack σ 1).2 ∧ Fr G G' 0 164) := by
  obtain ⟨k0, k1, ⟨r2, k2⟩, ⟨qT, qD, fi, fo, fs, fl, fh, k3⟩, ⟨a1, a2, a3, k4⟩, ⟨b1, b2, b3, b4, b5, k5⟩, k6, k7, k8, ⟨fI, k9, e0, e1⟩, k10, k11⟩ := id k
  have hb := hv.1.1; have hvr := hv.1.2; have hN : rN (gR σ) ≤ 6 := hb.2.2.2.2; have hT : rT (gR σ) ≤ 24 := hb.2.1; have hT2 : 2 ≤ rT (gR σ) := hb.1
  refine Tri.intro (L := [_, _, _]) okX9_goBack.1 (Nat.le_of_ble_eq_true rfl) rfl ?_
  refine P_aload_n dX9_goBack_0 rfl ?_
  refine P_iload_n dX9_goBack_1 rfl ?_
  refine P_callVp dX9_goBack_2 lkX9_310 okX9_imageAt ⟨Nat.le_of_ble_eq_true rfl, Nat.le_of_ble_eq_true rfl⟩ (t_image1 l k0 k9 e1) rfl rfl k0 (Nat.le_of_ble_eq_true rfl) ⟨Nat.le_of_ble_eq_true rfl, Nat.le_of_ble_eq_true rfl⟩ ?_
  refine P_astore_n (L' := [_, _, _]) dX9_goBack_5 (Nat.le_of_ble_eq_true rfl) rfl ?_
  refine P_aload_n dX9_goBack_6 rfl ?_
  refine P_ifnonnull (tgt := 13) dX9_goBack_7 (by decide) ?_
  refine P_aload_n dX9_goBack_13 rfl ?_
  refine P_callVp dX9_goBack_14 lkX9_321 okX4_isKept ⟨Nat.le_of_ble_eq_true rfl, Nat.le_of_ble_eq_true rfl⟩ (t_isKept l k11) rfl rfl k11.at.choose_spec (Nat.le_of_ble_eq_true rfl) ⟨Nat.le_of_ble_eq_true rfl, Nat.le_of_ble_eq_true rfl⟩ ?_
  refine P_if_ne (tgt := 24) dX9_goBack_17 (by decide) (fun c17 => ?_) (fun c17 => ?_)
  · obtain ⟨q9, hq9⟩ := Option.isSome_iff_exists.mp (b2y c17)
    have k9x : isImage G 156 (some (q9.1, q9.2)) := hq9 ▸ k11
    have hs : spBack σ 1 = (1, sgP (sgS (sgR σ q9.1) q9.2) 0 (gQ σ)) := by unfold spBack; rw [if_neg (by decide), show (1 : Int32).toNatClampNeg = 1 from rfl, hq9]
    refine P_aload_n dX9_goBack_24 rfl ?_
    refine P_aload_n dX9_goBack_25 rfl ?_
    refine P_get dX9_goBack_26 flX9_10 k0 rfl ?_
    refine P_aload_n dX9_goBack_29 rfl ?_
    refine P_get dX9_goBack_30 flX9_57 k0 rfl ?_
    refine P_callV dX9_goBack_33 lkX9_324 okX4_bringBack ⟨Nat.le_of_ble_eq_true rfl, Nat.le_of_ble_eq_true rfl⟩ (t_bringBack l k9x k1 k8 (by omega) (by omega) (by omega)) rfl rfl k9x.at.choose_spec (Nat.le_of_ble_eq_true rfl) ⟨Nat.le_of_ble_eq_true rfl, Nat.le_of_ble_eq_true rfl⟩ (fun v33 G33 q33 => ?_)
    obtain ⟨rfl, y1, y8, hF2⟩ := q33
    obtain ⟨Ga, hFa, hFb⟩ := hF2.cut (by omega)
    have ka := (k.now hFa (y1.fr hFb.sy (by omega))).draw hFb y8
    have m0 := ka.1; have m7 := ka.2.2.2.2.2.2.2.1
    refine P_aload_n dX9_goBack_36 rfl ?_
    refine P_get dX9_goBack_37 flX9_50 m0 rfl ?_
    refine P_callV dX9_goBack_40 lkX9_318 okX5_forget ⟨Nat.le_of_ble_eq_true rfl, Nat.le_of_ble_eq_true rfl⟩ (t_forget l m7) rfl rfl m7.at.choose_spec (Nat.le_of_ble_eq_true rfl) ⟨Nat.le_of_ble_eq_true rfl, Nat.le_of_ble_eq_true rfl⟩ (fun v40 G40 q40 => ?_)
    obtain ⟨rfl, y2, hFc⟩ := q40
    refine P_iconst dX9_goBack_43 ci_1 ?_
    exact P_iret dX9_goBack_44 rfl ⟨Nat.le_refl _, Nat.le_refl _⟩ ⟨by rw [hs], by rw [hs]; exact ka.past (hFc.wide (by omega) (by omega)) y2, (hFa.wide (by omega) (by omega)).tr ((hFb.wide (by omega) (by omega)).tr (hFc.wide (by omega) (by omega)))⟩
  · have hno : gI σ 1 = none := Option.not_isSome_iff_eq_none.mp ((b2p _).mp c17)
    have hs : spBack σ 1 = (NOTT, σ) := by unfold spBack; rw [if_neg (by decide), show (1 : Int32).toNatClampNeg = 1 from rfl, hno]
    refine P_ldcw dX9_goBack_20 kcX9_290 ?_
    exact P_iret dX9_goBack_23 rfl ⟨Nat.le_refl _, Nat.le_refl _⟩ ⟨by rw [hs], by rw [hs]; exact k, Fr.rf⟩
theorem c_keepN (l : Launch) {G : PH} {σ : Sg} {i0 : Int32} (k : Cls G σ) (ho : oB3 i0 0 1) : Tri l mX9_keep 0 0 [.ref 0, .int i0] G (fun a9 G' => a9 = some (.int (spKeep σ i0).1) ∧ Cls G' (spKeep σ i0).2 ∧ Fr G G' 0 164) := by
  obtain ⟨fI, k9, e0, e1⟩ := k.2.2.2.2.2.2.2.2.2.1
  have hs : spKeep σ i0 = (UNK, σ) := if_pos ho
  refine Tri.intro (L := [_, _, _]) okX9_keep.1 (Nat.le_of_ble_eq_true rfl) rfl ?_
  refine P_aload_n dX9_keep_0 rfl ?_
  refine P_iload_n dX9_keep_1 rfl ?_
  refine P_callVp dX9_keep_2 lkX9_310 okX9_imageAt ⟨Nat.le_of_ble_eq_true rfl, Nat.le_of_ble_eq_true rfl⟩ (t_imageN l k.1 k9 ho) rfl rfl k.1 (Nat.le_of_ble_eq_true rfl) ⟨Nat.le_of_ble_eq_true rfl, Nat.le_of_ble_eq_true rfl⟩ ?_
  refine P_astore_nN (L' := [_, _, _]) dX9_keep_5 (Nat.le_of_ble_eq_true rfl) rfl ?_
  refine P_aload_nN dX9_keep_6 rfl ?_
  refine P_ifnonnullN dX9_keep_7 ?_
  refine P_ldc dX9_keep_10 kcX9_142 ?_
  exact P_iret dX9_keep_12 rfl ⟨Nat.le_refl _, Nat.le_refl _⟩ ⟨by rw [hs], by rw [hs]; exact k, Fr.rf⟩
theorem c_keep (l : Launch) {G : PH} {σ : Sg} {i0 : Int32} (k : Cls G σ) (hv : sVal σ) : Tri l mX9_keep 0 0 [.ref 0, .int i0] G (fun a9 G' => a9 = some (.int (spKeep σ i0).1) ∧ Cls G' (spKeep σ i0).2 ∧ Fr G G' 0 164) := by
  by_cases ho : oB3 i0 0 1
  · exact c_keepN l k ho
  · rcases im_cases ho with rfl | rfl
    · exact c_keep0 l k hv
    · exact c_keep1 l k hv
theorem c_backN (l : Launch) {G : PH} {σ : Sg} {i0 : Int32} (k : Cls G σ) (ho : oB3 i0 0 1) : Tri l mX9_goBack 0 0 [.ref 0, .int i0] G (fun a9 G' => a9 = some (.int (spBack σ i0).1) ∧ Cls G' (spBack σ i0).2 ∧ Fr G G' 0 164) := by
  obtain ⟨fI, k9, e0, e1⟩ := k.2.2.2.2.2.2.2.2.2.1
  have hs : spBack σ i0 = (UNK, σ) := if_pos ho
  refine Tri.intro (L := [_, _, _]) okX9_goBack.1 (Nat.le_of_ble_eq_true rfl) rfl ?_
  refine P_aload_n dX9_goBack_0 rfl ?_
  refine P_iload_n dX9_goBack_1 rfl ?_
  refine P_callVp dX9_goBack_2 lkX9_310 okX9_imageAt ⟨Nat.le_of_ble_eq_true rfl, Nat.le_of_ble_eq_true rfl⟩ (t_imageN l k.1 k9 ho) rfl rfl k.1 (Nat.le_of_ble_eq_true rfl) ⟨Nat.le_of_ble_eq_true rfl, Nat.le_of_ble_eq_true rfl⟩ ?_
  refine P_astore_nN (L' := [_, _, _]) dX9_goBack_5 (Nat.le_of_ble_eq_true rfl) rfl ?_
  refine P_aload_nN dX9_goBack_6 rfl ?_
  refine P_ifnonnullN dX9_goBack_7 ?_
  refine P_ldc dX9_goBack_10 kcX9_142 ?_
  exact P_iret dX9_goBack_12 rfl ⟨Nat.le_refl _, Nat.le_refl _⟩ ⟨by rw [hs], by rw [hs]; exact k, Fr.rf⟩
theorem c_back (l : Launch) {G : PH} {σ : Sg} {i0 : Int32} (k : Cls G σ) (hv : sVal σ) : Tri l mX9_goBack 0 0 [.ref 0, .int i0] G (fun a9 G' => a9 = some (.int (spBack σ i0).1) ∧ Cls G' (spBack σ i0).2 ∧ Fr G G' 0 164) := by
  by_cases ho : oB3 i0 0 1
  · exact c_backN l k ho
  · rcases im_cases ho with rfl | rfl
    · exact c_back0 l k hv
    · exact c_back1 l k hv
