set_option maxHeartbeats 4000000 in
set_option maxRecDepth 100000 in
theorem m_readsSide0 (l : Launch) {G : PH} {o : MV} {fx fm : Nat → Int32} {n9 p : Nat} {tx : Nat → Int32} {ρ : Riv} {tt td : Bool} (k : mpr G o fx n9 tx) (kd : G[180]? = some (aI 315 fm)) (hs : pS o n9 (.inr p)) (hp : p < n9) (hm : mdV ρ fm) (eT : mT o = b2 tt) (eZ : mZ o = b2 td) (eO : mO o = b2 (decide (0 < rN ρ))) (hok : sOk ρ) : Tri l mX10_readsSide 0 0 [.ref 164] G (fun w G' => w = none ∧ (∃ o' f', G'[164]? = some (oM o') ∧ G'[180]? = some (aI 315 f') ∧ oU (oRd o (nI (p + 1)) (mW o) (mT o) (mZ o) 1 (mB o)) o' ∧ pS o' n9 (sdR n9 tx p ρ).1 ∧ ∀ q, (sdR n9 tx p ρ).1 = .inr q → mdV (sdR n9 tx p ρ).2 f') ∧ Fr2 G G' 164 1 180 1) := by
  obtain ⟨ew, ea, hpn⟩ := id hs
  have hN6 : rN ρ ≤ 6 := hok.1.2.2.2.2
  have hm2 : fm (Int32.toNatClampNeg 2) = nI (rN ρ) := hm.1.2.2.1
  refine Tri.intro (L := [_, _, _, _]) okX10_readsSide.1 (Nat.le_of_ble_eq_true rfl) rfl ?_
  refine P_aload_n dX10_readsSide_0 rfl ?_
  refine P_dup dX10_readsSide_1 rfl ?_
  refine P_get dX10_readsSide_2 flX10_197 k.1 rfl ?_
  refine P_iconst dX10_readsSide_5 ci_1 ?_
  refine P_iadd dX10_readsSide_6 ?_
  rw [ea, nI_1]
  refine P_putI dX10_readsSide_7 flX10_197 k.1 (Nat.le_of_ble_eq_true rfl) ?_
  refine P_aload_n dX10_readsSide_10 rfl ?_
  refine P_iconst dX10_readsSide_11 ci_1 ?_
  refine P_putZ dX10_readsSide_12 flX10_221 (show (G.set 164 (oM (oRd o (nI (p + 1)) (mW o) (mT o) (mZ o) (mO o) (mB o))))[164]? = some (oM (oRd o (nI (p + 1)) (mW o) (mT o) (mZ o) (mO o) (mB o))) from set_at k.1) (Nat.le_of_ble_eq_true rfl) (by first | exact Or.inl rfl | exact Or.inr rfl) ?_
  rw [List.set_set]
  obtain ⟨o2, eo2⟩ : ∃ o2 : MV, o2 = oRd o (nI (p + 1)) (mW o) (mT o) (mZ o) 1 (mB o) := ⟨_, rfl⟩
  have k2 : mpr (G.set 164 (oM o2)) o2 fx n9 tx := k.ob (by rw [eo2])
  have kd2 : (G.set 164 (oM o2))[180]? = some (aI 315 fm) := set_ne kd (by decide)
  have ew2 : mW o2 = 0 := by rw [eo2]; exact ew
  have eA2 : mA o2 = nI (p + 1) := by rw [eo2]
  have hF2 : Fr2 G (G.set 164 (oM o2)) 164 1 180 1 := (Fr.set (by omega) (by omega)).l2
  generalize hG2 : G.set 164 (oM o2) = G2 at k2 kd2 hF2
  suffices hgo : WP mX10_readsSide l (rmM mX10_readsSide 0 0) (ZM 0 0 (fun w G' => w = none ∧ (∃ o' f', G'[164]? = some (oM o') ∧ G'[180]? = some (aI 315 f') ∧ oU (o2) o' ∧ pS o' n9 (sdR n9 tx p ρ).1 ∧ ∀ q, (sdR n9 tx p ρ).1 = .inr q → mdV (sdR n9 tx p ρ).2 f') ∧ Fr2 G G' 164 1 180 1)) XT 0 0 15 [some (.ref 164), none, none, none] [] G2 by rw [← hG2, eo2] at hgo; exact hgo
  clear hG2 eo2
  refine P_aload_n dX10_readsSide_15 rfl ?_
  refine P_iconst dX10_readsSide_16 ci_0 ?_
  refine P_aload_n dX10_readsSide_17 rfl ?_
  refine P_get dX10_readsSide_18 flX10_61 k2.1 rfl ?_
  refine P_iconst dX10_readsSide_21 ci_2 ?_
  refine P_iald dX10_readsSide_22 kd2 (vp_in_nI (show 2 < 315 by decide) (by decide)) ?_
  rw [hm2]
  refine P_iconst dX10_readsSide_23 ci_1 ?_
  refine P_isub dX10_readsSide_24 ?_
  refine P_callV dX10_readsSide_25 lkX10_224 okX10_number ⟨Nat.le_of_ble_eq_true rfl, Nat.le_of_ble_eq_true rfl⟩ (m_number (σ := .inr (p + 1)) l k2 ⟨ew2, eA2, hp⟩) rfl rfl k2.1 (Nat.le_of_ble_eq_true rfl) ⟨Nat.le_of_ble_eq_true rfl, Nat.le_of_ble_eq_true rfl⟩ (fun v25 G25 q25 => ?_)
  obtain ⟨⟨o3, ko3, hs3, hU3, x, rfl, hx⟩, hF3⟩ := q25
  have hs3 : pS o3 n9 (st3 (num n9 tx 0 (nI (rN ρ) - 1) (p + 1))) := hs3
  have hx : ∀ v s q, num n9 tx 0 (nI (rN ρ) - 1) (p + 1) = .inr (v, s, q) → x = v ∧ mB o3 = nI s := hx
  have k3 := k2.fr hF3 ko3 hU3.1.2.2.2.1
  have kd3 := hF3.at kd2 (by decide)
  refine P_istore_n (L' := [_, _, _, _]) dX10_readsSide_28 (Nat.le_of_ble_eq_true rfl) rfl ?_
  refine P_iconst dX10_readsSide_29 ci_0 ?_
  refine P_istore_n (L' := [_, _, _, _]) dX10_readsSide_30 (Nat.le_of_ble_eq_true rfl) rfl ?_
  cases hnum : num n9 tx 0 (nI (rN ρ) - 1) (p + 1) with
  | inl e =>
    rw [hnum] at hs3
    exact P_loc (by simp only [subL, List.head?_cons, List.tail_cons]; and_intros <;> first | rfl | trivial) (lp_rs0 l k3 kd3 hs3 (show (sdR n9 tx p ρ).1 = .inl e by unfold sdR; rw [hnum]) hU3 (hF2.tr (f180 hF3)))
  | inr y =>
    obtain ⟨v, s, q⟩ := y
    obtain ⟨j, hj, hv⟩ := sd_r hN6 hnum
    rw [hnum] at hs3
    have hxv : x = nI j := (hx _ _ _ hnum).1.trans hv
    rw [hxv]
    exact P_loc (by simp only [subL, List.head?_cons, List.tail_cons]; and_intros <;> first | rfl | trivial) (lp_rside l 26 G25 0 q ρ fm o3 (by omega) k3 kd3 hs3 hm hj hok.1 (Nat.zero_le _) (show sdS n9 tx j 25 0 (.inr q) ρ = sdR n9 tx p ρ by unfold sdR; rw [hnum, hv]; show _ = sdS n9 tx (nI j).toNatClampNeg 25 0 (.inr q) ρ; rw [nI_clamp (by omega)]) hU3 (hF2.tr (f180 hF3)))
theorem m_readsSide (l : Launch) {G : PH} {o : MV} {fx fm : Nat → Int32} {n9 p : Nat} {tx : Nat → Int32} {ρ : Riv} {tt td : Bool} (k : mpr G o fx n9 tx) (kd : G[180]? = some (aI 315 fm)) (hs : pS o n9 (.inr p)) (hp : p < n9) (hm : mdV ρ fm) (eT : mT o = b2 tt) (eZ : mZ o = b2 td) (eO : mO o = b2 (decide (0 < rN ρ))) (hok : sOk ρ) : Tri l mX10_readsSide 0 0 [.ref 164] G (fun w G' => w = none ∧ (∃ o' f' s', G'[164]? = some (oM o') ∧ G'[180]? = some (aI 315 f') ∧ oS o o' ∧ pS o' n9 s' ∧ pR n9 tx (clX n9 tx p ρ tt td) s' o' f') ∧ Fr2 G G' 164 1 180 1) := by
  refine (m_readsSide0 l k kd hs hp hm eT eZ eO hok).mono (fun w G' h => ?_)
  obtain ⟨rfl, ⟨o', f', h1, h2, h3, h4, h5⟩, h6⟩ := h
  refine ⟨rfl, ⟨o', f', (sdR n9 tx p ρ).1, h1, h2, ⟨h3.1.1, h3.1.2.1, h3.1.2.2.1, h3.1.2.2.2.1, h3.1.2.2.2.2⟩, h4, ?_⟩, h6⟩
  unfold pR clX
  cases hc : clS n9 tx (sdR n9 tx p ρ).1 with
  | inl e => rfl
  | inr q =>
    obtain ⟨q0, e0, -⟩ := clS_r hc
    have hn1 : rN (sdR n9 tx p ρ).2 = rN ρ := by
      unfold sdR
      split
      · rfl
      · exact congrArg (·.2.2) (sdS_1 _ _ _ _)
    have hpos : 0 < rN ρ := by
      cases hnum : num n9 tx 0 (nI (rN ρ) - 1) (p + 1) with
      | inl e => unfold sdR at e0; rw [hnum] at e0; cases e0
      | inr y =>
        obtain ⟨v, s, q⟩ := y
        obtain ⟨j, hj, -⟩ := sd_r hok.1.2.2.2.2 hnum
        omega
    exact ⟨_, _, _, rfl, h5 q0 e0, h3.2.1.trans eT, h3.2.2.1.trans eZ, h3.2.2.2.trans (by rw [hn1, decide_eq_true hpos]; rfl)⟩
