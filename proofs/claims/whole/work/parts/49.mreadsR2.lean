theorem rcB_no {n : Nat} {tx : Nat → Int32} {p : Nat} {ρ : Riv} (h : ¬ lt0 n tx (skp n tx (p + 1)) = 45) : st2 (rcB n tx p ρ) = st3 (num n tx 0 (nI (rN ρ) - 1) (p + 1)) ∧ ∀ v q, rcB n tx p ρ = .inr (v, q) → ∃ s, num n tx 0 (nI (rN ρ) - 1) (p + 1) = .inr (v, s, q) := by
  have e : rcB n tx p ρ = match num n tx 0 (nI (rN ρ) - 1) (p + 1) with
    | .inl e => .inl e
    | .inr (v, _, q) => .inr (v, q) := if_neg h
  cases hn : num n tx 0 (nI (rN ρ) - 1) (p + 1) with
  | inl e1 => rw [hn] at e; rw [e]; exact ⟨rfl, fun v q z => by cases z⟩
  | inr y => obtain ⟨v, s, q⟩ := y; rw [hn] at e; rw [e]; exact ⟨rfl, fun v q z => by cases z; exact ⟨s, rfl⟩⟩
set_option maxHeartbeats 4000000 in
set_option maxRecDepth 100000 in
theorem m_readsReach (l : Launch) {G : PH} {o : MV} {fx fm : Nat → Int32} {n9 p : Nat} {tx : Nat → Int32} {ρ : Riv} {tt td : Bool} (k : mpr G o fx n9 tx) (kd : G[180]? = some (aI 315 fm)) (hs : pS o n9 (.inr p)) (hp : p < n9) (hm : mdV ρ fm) (eT : mT o = b2 tt) (eZ : mZ o = b2 td) (eO : mO o = b2 (decide (0 < rN ρ))) (hok : sOk ρ) : Tri l mX10_readsReach 0 0 [.ref 164] G (fun w G' => w = none ∧ (∃ o' f' s', G'[164]? = some (oM o') ∧ G'[180]? = some (aI 315 f') ∧ oS o o' ∧ pS o' n9 s' ∧ pR n9 tx (clR n9 tx p ρ tt td) s' o' f') ∧ Fr2 G G' 164 1 180 1) := by
  obtain ⟨ew, ea, hpn⟩ := id hs
  have hN6 : rN ρ ≤ 6 := hok.1.2.2.2.2
  have hm2 : fm (Int32.toNatClampNeg 2) = nI (rN ρ) := hm.1.2.2.1
  refine Tri.intro (L := [_, _]) okX10_readsReach.1 (Nat.le_of_ble_eq_true rfl) rfl ?_
  refine P_aload_n dX10_readsReach_0 rfl ?_
  refine P_get dX10_readsReach_1 flX10_61 k.1 rfl ?_
  refine P_iconst dX10_readsReach_4 ci_2 ?_
  refine P_iald dX10_readsReach_5 kd (vp_in_nI (show 2 < 315 by decide) (by decide)) ?_
  rw [hm2]
  refine P_bipush dX10_readsReach_6 bp_6 ?_
  refine P_icmp_ne (tgt := 17) dX10_readsReach_8 (by decide) (fun c8 => ?_) (fun c8 => ?_)
  · have h6 : rN ρ < 6 := Nat.lt_of_le_of_ne hN6 fun z => c8 (by rw [z]; rfl)
    refine P_aload_n dX10_readsReach_17 rfl ?_
    refine P_dup dX10_readsReach_18 rfl ?_
    refine P_get dX10_readsReach_19 flX10_197 k.1 rfl ?_
    refine P_iconst dX10_readsReach_22 ci_1 ?_
    refine P_iadd dX10_readsReach_23 ?_
    rw [ea, nI_1]
    refine P_putI dX10_readsReach_24 flX10_197 k.1 (Nat.le_of_ble_eq_true rfl) ?_
    refine P_aload_n dX10_readsReach_27 rfl ?_
    refine P_iconst dX10_readsReach_28 ci_1 ?_
    refine P_putZ dX10_readsReach_29 flX10_221 (show (G.set 164 (oM (oRd o (nI (p + 1)) (mW o) (mT o) (mZ o) (mO o) (mB o))))[164]? = some (oM (oRd o (nI (p + 1)) (mW o) (mT o) (mZ o) (mO o) (mB o))) from set_at k.1) (Nat.le_of_ble_eq_true rfl) (by first | exact Or.inl rfl | exact Or.inr rfl) ?_
    rw [List.set_set]
    obtain ⟨o2, eo2⟩ : ∃ o2 : MV, o2 = oRd o (nI (p + 1)) (mW o) (mT o) (mZ o) 1 (mB o) := ⟨_, rfl⟩
    have k2 : mpr (G.set 164 (oM o2)) o2 fx n9 tx := k.ob (by rw [eo2])
    have kd2 : (G.set 164 (oM o2))[180]? = some (aI 315 fm) := set_ne kd (by decide)
    have ew2 : mW o2 = 0 := by rw [eo2]; exact ew
    have eA2 : mA o2 = nI (p + 1) := by rw [eo2]
    have hS2 : oS o o2 := by rw [eo2]; exact ⟨rfl, rfl, rfl, rfl, rfl⟩
    have eT2 : mT o2 = b2 tt := by rw [eo2]; exact eT
    have eZ2 : mZ o2 = b2 td := by rw [eo2]; exact eZ
    have eO2 : mO o2 = 1 := by rw [eo2]
    have hF2 : Fr2 G (G.set 164 (oM o2)) 164 1 180 1 := (Fr.set (by omega) (by omega)).l2
    generalize hG2 : G.set 164 (oM o2) = G2 at k2 kd2 hF2
    suffices hgo : WP mX10_readsReach l (rmM mX10_readsReach 0 0) (ZM 0 0 (fun w G' => w = none ∧ (∃ o' f' s', G'[164]? = some (oM o') ∧ G'[180]? = some (aI 315 f') ∧ oS o o' ∧ pS o' n9 s' ∧ pR n9 tx (clR n9 tx p ρ tt td) s' o' f') ∧ Fr2 G G' 164 1 180 1)) XT 0 0 32 [some (.ref 164), none] [] G2 by rw [← hG2, eo2] at hgo; exact hgo
    clear hG2 eo2
    refine P_aload_n dX10_readsReach_32 rfl ?_
    refine P_get dX10_readsReach_33 flX10_61 k2.1 rfl ?_
    refine P_iconst dX10_readsReach_36 ci_2 ?_
    refine P_iald dX10_readsReach_37 kd2 (vp_in_nI (show 2 < 315 by decide) (by decide)) ?_
    rw [hm2]
    refine P_istore_n (L' := [_, _]) dX10_readsReach_38 (Nat.le_of_ble_eq_true rfl) rfl ?_
    refine P_aload_n dX10_readsReach_39 rfl ?_
    refine P_callV dX10_readsReach_40 lkX10_203 okX10_next ⟨Nat.le_of_ble_eq_true rfl, Nat.le_of_ble_eq_true rfl⟩ (m_next l k2 eA2 hp) rfl rfl k2.1 (Nat.le_of_ble_eq_true rfl) ⟨Nat.le_of_ble_eq_true rfl, Nat.le_of_ble_eq_true rfl⟩ (fun v40 G40 q40 => ?_)
    obtain ⟨rfl, ko3, hF3⟩ := q40
    have k3 := k2.fr hF3 ko3 rfl
    have kd3 := hF3.at kd2 (by decide)
    refine P_bipush dX10_readsReach_43 bp_45 ?_
    refine P_icmp_ne (tgt := 72) dX10_readsReach_45 (by decide) (fun c45 => ?_) (fun c45 => ?_)
    · obtain ⟨hr1, hr2⟩ := rcB_no (ρ := ρ) c45
      refine P_aload_n dX10_readsReach_72 rfl ?_
      refine P_get dX10_readsReach_73 flX10_61 k3.1 rfl ?_
      refine P_iload_n dX10_readsReach_76 rfl ?_
      refine P_iconst dX10_readsReach_77 ci_0 ?_
      refine P_callSp dX10_readsReach_78 lkX10_64 okX10_placeOf ⟨Nat.le_of_ble_eq_true rfl, Nat.le_of_ble_eq_true rfl⟩ (m_placeOf (i := 0) l) rfl rfl (Nat.le_of_ble_eq_true rfl) ⟨Nat.le_of_ble_eq_true rfl, Nat.le_of_ble_eq_true rfl⟩ ?_
      refine P_aload_n dX10_readsReach_81 rfl ?_
      refine P_iconst dX10_readsReach_82 ci_0 ?_
      refine P_iload_n dX10_readsReach_83 rfl ?_
      refine P_iconst dX10_readsReach_84 ci_1 ?_
      refine P_isub dX10_readsReach_85 ?_
      refine P_callV dX10_readsReach_86 lkX10_224 okX10_number ⟨Nat.le_of_ble_eq_true rfl, Nat.le_of_ble_eq_true rfl⟩ (m_number (σ := .inr (skp n9 tx (p + 1))) l k3 ⟨ew2, rfl, skp_ub tx hp⟩) rfl rfl k3.1 (Nat.le_of_ble_eq_true rfl) ⟨Nat.le_of_ble_eq_true rfl, Nat.le_of_ble_eq_true rfl⟩ (fun v86 G86 q86 => ?_)
      obtain ⟨⟨o5, ko5, hs5, hU5, x1, rfl, hx1⟩, hF5⟩ := q86
      rw [show numS n9 tx 0 (nI (rN ρ) - 1) (.inr (skp n9 tx (p + 1))) = num n9 tx 0 (nI (rN ρ) - 1) (p + 1) from num_skp _ _ _ _ _] at hs5 hx1
      have k5 := k3.fr hF5 ko5 hU5.1.2.2.2.1
      have kd5 := hF5.at kd3 (by decide)
      refine P_iast dX10_readsReach_89 kd5 (vp_in_nI (by omega) (by decide)) ?_
      rw [nI_clamp (by omega)]
      exact lp_rrtail l k5.s180 (set_at kd5) (by rw [hr1]; exact hs5) (fun v q z => by obtain ⟨s, e9⟩ := hr2 v q z; exact (hx1 _ _ _ e9).1) (hS2.tr hU5.1) (hU5.2.1.trans eT2) (hU5.2.2.1.trans eZ2) (hU5.2.2.2.trans eO2) hm h6 hok (hF2.tr ((f180 hF3).tr ((f180 hF5).tr s180)))
    · have hlt : skp n9 tx (p + 1) < n9 := Classical.byContradiction fun z => by rw [show lt0 n9 tx (skp n9 tx (p + 1)) = -1 from if_neg z] at c45; exact absurd c45 (by decide)
      have hrB : rcB n9 tx p ρ = .inr (-1, skp n9 tx (p + 1) + 1) := if_pos c45
      refine P_aload_n dX10_readsReach_48 rfl ?_
      refine P_dup dX10_readsReach_49 rfl ?_
      refine P_get dX10_readsReach_50 flX10_197 ko3 rfl ?_
      refine P_iconst dX10_readsReach_53 ci_1 ?_
      refine P_iadd dX10_readsReach_54 ?_
      rw [show mA (oRd o2 (nI (skp n9 tx (p + 1))) (mW o2) (mT o2) (mZ o2) (mO o2) (mB o2)) + 1 = nI (skp n9 tx (p + 1) + 1) from nI_1 _]
      refine P_putI dX10_readsReach_55 flX10_197 ko3 (Nat.le_of_ble_eq_true rfl) ?_
      have k5 : mpr (G40.set 164 (oM (oRd o2 (nI (skp n9 tx (p + 1) + 1)) (mW o2) (mT o2) (mZ o2) (mO o2) (mB o2)))) (oRd o2 (nI (skp n9 tx (p + 1) + 1)) (mW o2) (mT o2) (mZ o2) (mO o2) (mB o2)) fx n9 tx := k3.ob rfl
      have kd5 : (G40.set 164 (oM (oRd o2 (nI (skp n9 tx (p + 1) + 1)) (mW o2) (mT o2) (mZ o2) (mO o2) (mB o2))))[180]? = some (aI 315 fm) := set_ne kd3 (by decide)
      refine P_aload_n dX10_readsReach_58 rfl ?_
      refine P_get dX10_readsReach_59 flX10_61 k5.1 rfl ?_
      refine P_iload_n dX10_readsReach_62 rfl ?_
      refine P_iconst dX10_readsReach_63 ci_0 ?_
      refine P_callSp dX10_readsReach_64 lkX10_64 okX10_placeOf ⟨Nat.le_of_ble_eq_true rfl, Nat.le_of_ble_eq_true rfl⟩ (m_placeOf (i := 0) l) rfl rfl (Nat.le_of_ble_eq_true rfl) ⟨Nat.le_of_ble_eq_true rfl, Nat.le_of_ble_eq_true rfl⟩ ?_
      refine P_iconst dX10_readsReach_67 ci_m1 ?_
      refine P_iast dX10_readsReach_68 kd5 (vp_in_nI (by omega) (by decide)) ?_
      rw [nI_clamp (by omega)]
      refine P_goto (tgt := 90) dX10_readsReach_69 (by decide) ?_
      exact lp_rrtail l k5.s180 (set_at kd5) (by rw [hrB]; exact ⟨ew2, rfl, hlt⟩) (fun v q z => by rw [hrB] at z; cases z; rfl) hS2 eT2 eZ2 eO2 hm h6 hok (hF2.tr ((f180 hF3).tr (((Fr.set (by omega) (by omega)).l2).tr s180)))
  · have h6 : ¬ rN ρ < 6 := fun z => by have := (nI_eq (b := 6) (by omega) (by decide)).mp c8; omega
    refine P_aload_n dX10_readsReach_11 rfl ?_
    refine P_iconst dX10_readsReach_12 ci_4 ?_
    refine P_callV dX10_readsReach_13 lkX10_210 okX10_fails ⟨Nat.le_of_ble_eq_true rfl, Nat.le_of_ble_eq_true rfl⟩ (m_fails l k.1) rfl rfl k.1 (Nat.le_of_ble_eq_true rfl) ⟨Nat.le_of_ble_eq_true rfl, Nat.le_of_ble_eq_true rfl⟩ (fun v13 G13 q13 => ?_)
    obtain ⟨rfl, rfl⟩ := q13
    exact P_vret dX10_readsReach_16 rfl ⟨Nat.le_refl _, Nat.le_refl _⟩ ⟨rfl, ⟨_, fm, .inl (4, p), set_at k.1, set_ne kd (by decide), ⟨rfl, rfl, rfl, rfl, rfl⟩, ⟨if_pos ew, (show 1 ≤ 4 by decide), Nat.le_refl 4, ea⟩, if_pos h6⟩, (Fr.set (by omega) (by omega)).l2⟩
