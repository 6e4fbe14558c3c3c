/-- the row that is made holds the river so far, and nothing beyond -/
def mdV (ρ : Riv) (f : Nat → Int32) : Prop := rRow ρ f ∧ ∀ j, 3 + 52 * rN ρ ≤ j → j < 315 → f j = 0
/-- what a clause leaves, before its stop -/
def pR (n : Nat) (tx : Nat → Int32) (R : (Nat × Nat) ⊕ CS) (s : PS) (o : MV) (f : Nat → Int32) : Prop := match clS n tx s with
  | .inl e => R = .inl e
  | .inr q => ∃ ρ tt td, R = .inr (q, ρ, tt, td) ∧ mdV ρ f ∧ mT o = b2 tt ∧ mZ o = b2 td ∧ mO o = b2 (decide (0 < rN ρ))
theorem mdV_T {ρ : Riv} {f : Nat → Int32} (k : mdV ρ f) (t : Nat) : mdV (rvT ρ t) (upd f 0 (nI t)) := ⟨rRow_T k.1 t, fun j h1 h2 => (upd_n (by omega)).trans (k.2 j h1 h2)⟩
theorem mdV_D {ρ : Riv} {f : Nat → Int32} (k : mdV ρ f) (t : Nat) : mdV (rvD ρ t) (upd f 1 (nI t)) := ⟨rRow_D k.1 t, fun j h1 h2 => (upd_n (by omega)).trans (k.2 j h1 h2)⟩
set_option maxHeartbeats 4000000 in
set_option maxRecDepth 100000 in
theorem m_readsT (l : Launch) {G : PH} {o : MV} {fx fm : Nat → Int32} {n9 p : Nat} {tx : Nat → Int32} {ρ : Riv} {tt td : Bool} (k : mpr G o fx n9 tx) (kd : G[180]? = some (aI 315 fm)) (hs : pS o n9 (.inr p)) (hp : p < n9) (hm : mdV ρ fm) (eT : mT o = b2 tt) (eZ : mZ o = b2 td) (eO : mO o = b2 (decide (0 < rN ρ))) : Tri l mX10_readsT 0 0 [.ref 164] G (fun w G' => w = none ∧ (∃ o' f' s', G'[164]? = some (oM o') ∧ G'[180]? = some (aI 315 f') ∧ oS o o' ∧ pS o' n9 s' ∧ pR n9 tx (clT n9 tx p ρ tt td) s' o' f') ∧ Fr2 G G' 164 1 180 1) := by
  obtain ⟨ew, ea, hpn⟩ := id hs
  refine Tri.intro (L := [_]) okX10_readsT.1 (Nat.le_of_ble_eq_true rfl) rfl ?_
  refine P_aload_n dX10_readsT_0 rfl ?_
  refine P_get dX10_readsT_1 flX10_217 k.1 rfl ?_
  refine P_if_ne (tgt := 14) dX10_readsT_4 (by decide) (fun c4 => ?_) (fun c4 => ?_)
  · have hcnd : tt = true ∨ 0 < rN ρ := Or.inl (by cases tt; exact absurd eT c4; rfl)
    refine P_aload_n dX10_readsT_14 rfl ?_
    refine P_iconst dX10_readsT_15 ci_3 ?_
    refine P_callV dX10_readsT_16 lkX10_210 okX10_fails ⟨Nat.le_of_ble_eq_true rfl, Nat.le_of_ble_eq_true rfl⟩ (m_fails l k.1) rfl rfl k.1 (Nat.le_of_ble_eq_true rfl) ⟨Nat.le_of_ble_eq_true rfl, Nat.le_of_ble_eq_true rfl⟩ (fun v16 G16 q16 => ?_)
    obtain ⟨rfl, rfl⟩ := q16
    exact P_vret dX10_readsT_19 rfl ⟨Nat.le_refl _, Nat.le_refl _⟩ ⟨rfl, ⟨_, fm, .inl (3, p), set_at k.1, set_ne kd (by decide), ⟨rfl, rfl, rfl, rfl, rfl⟩, ⟨if_pos ew, (show 1 ≤ 3 by decide), (show 3 ≤ 4 by decide), ea⟩, if_pos hcnd⟩, (Fr.set (by omega) (by omega)).l2⟩
  · refine P_aload_n dX10_readsT_7 rfl ?_
    refine P_get dX10_readsT_8 flX10_221 k.1 rfl ?_
    refine P_if_eq (tgt := 20) dX10_readsT_11 (by decide) (fun c11 => ?_) (fun c11 => ?_)
    · have hcnd : ¬ (tt = true ∨ 0 < rN ρ) := by
        rintro (z | z)
        · rw [z] at eT; exact absurd (eT.symm.trans c4) (by decide)
        · rw [decide_eq_true z] at eO; exact absurd (eO.symm.trans c11) (by decide)
      refine P_aload_n dX10_readsT_20 rfl ?_
      refine P_dup dX10_readsT_21 rfl ?_
      refine P_get dX10_readsT_22 flX10_197 k.1 rfl ?_
      refine P_iconst dX10_readsT_25 ci_1 ?_
      refine P_iadd dX10_readsT_26 ?_
      rw [ea, nI_1]
      refine P_putI dX10_readsT_27 flX10_197 k.1 (Nat.le_of_ble_eq_true rfl) ?_
      refine P_aload_n dX10_readsT_30 rfl ?_
      refine P_iconst dX10_readsT_31 ci_1 ?_
      refine P_putZ dX10_readsT_32 flX10_217 (show (G.set 164 (oM (oRd o (nI (p + 1)) (mW o) (mT o) (mZ o) (mO o) (mB o))))[164]? = some (oM (oRd o (nI (p + 1)) (mW o) (mT o) (mZ o) (mO o) (mB o))) from set_at k.1) (Nat.le_of_ble_eq_true rfl) (by first | exact Or.inl rfl | exact Or.inr rfl) ?_
      rw [List.set_set]
      obtain ⟨o2, eo2⟩ : ∃ o2 : MV, o2 = oRd o (nI (p + 1)) (mW o) 1 (mZ o) (mO o) (mB o) := ⟨_, rfl⟩
      have k2 : mpr (G.set 164 (oM o2)) o2 fx n9 tx := k.ob (by rw [eo2])
      have kd2 : (G.set 164 (oM o2))[180]? = some (aI 315 fm) := set_ne kd (by decide)
      have hs2 : pS o2 n9 (.inr (p + 1)) := by rw [eo2]; exact ⟨ew, rfl, hp⟩
      have hS2 : oS o o2 := by rw [eo2]; exact ⟨rfl, rfl, rfl, rfl, rfl⟩
      have eT2 : mT o2 = 1 := by rw [eo2]
      have eZ2 : mZ o2 = mZ o := by rw [eo2]
      have eO2 : mO o2 = mO o := by rw [eo2]
      have hF2 : Fr2 G (G.set 164 (oM o2)) 164 1 180 1 := (Fr.set (by omega) (by omega)).l2
      generalize hG2 : G.set 164 (oM o2) = G2 at k2 kd2 hF2
      suffices hgo : WP mX10_readsT l (rmM mX10_readsT 0 0) (ZM 0 0 (fun w G' => w = none ∧ (∃ o' f' s', G'[164]? = some (oM o') ∧ G'[180]? = some (aI 315 f') ∧ oS o o' ∧ pS o' n9 s' ∧ pR n9 tx (clT n9 tx p ρ tt td) s' o' f') ∧ Fr2 G G' 164 1 180 1)) XT 0 0 35 [some (.ref 164)] [] G2 by rw [← hG2, eo2] at hgo; exact hgo
      clear hG2 eo2
      refine P_aload_n dX10_readsT_35 rfl ?_
      refine P_get dX10_readsT_36 flX10_61 k2.1 rfl ?_
      refine P_iconst dX10_readsT_39 ci_0 ?_
      refine P_aload_n dX10_readsT_40 rfl ?_
      refine P_iconst dX10_readsT_41 ci_2 ?_
      refine P_bipush dX10_readsT_42 bp_24 ?_
      refine P_callV dX10_readsT_44 lkX10_224 okX10_number ⟨Nat.le_of_ble_eq_true rfl, Nat.le_of_ble_eq_true rfl⟩ (m_number (σ := .inr (p + 1)) l k2 hs2) rfl rfl k2.1 (Nat.le_of_ble_eq_true rfl) ⟨Nat.le_of_ble_eq_true rfl, Nat.le_of_ble_eq_true rfl⟩ (fun v44 G44 q44 => ?_)
      obtain ⟨⟨o3, ko3, hs3, hU3, x, rfl, hx⟩, hF3⟩ := q44
      refine P_iast dX10_readsT_47 (hF3.at kd2 (by decide)) (vp_in_nI (show 0 < 315 by decide) (by decide)) ?_
      have hR : clT n9 tx p ρ tt td = match clS n9 tx (st3 (num n9 tx 2 24 (p + 1))) with
          | .inl e => .inl e
          | .inr q => .inr (q, rvT ρ (v3 (num n9 tx 2 24 (p + 1))).toNatClampNeg, true, td) := if_neg hcnd
      have hpr : pR n9 tx (clT n9 tx p ρ tt td) (st3 (num n9 tx 2 24 (p + 1))) o3 (upd fm 0 x) := by
        unfold pR
        rw [hR]
        cases hc : clS n9 tx (st3 (num n9 tx 2 24 (p + 1))) with
        | inl e => rfl
        | inr q =>
          obtain ⟨p9, e9, -⟩ := clS_r hc
          obtain ⟨s9, e8⟩ := st3_r e9
          obtain ⟨j9, j1, j2, e7⟩ := num_v3 (a := 2) (b := 24) (by decide) (by decide) e9
          have hxv : x = nI j9 := (hx _ _ _ e8).1.trans e7
          refine ⟨_, _, _, rfl, ?_, ?_, ?_, ?_⟩
          · rw [show v3 (num n9 tx 2 24 (p + 1)) = nI j9 from e7, nI_clamp (by omega), hxv]; exact mdV_T hm j9
          · exact hU3.2.1.trans eT2
          · exact hU3.2.2.1.trans (eZ2.trans eZ)
          · exact hU3.2.2.2.trans (eO2.trans eO)
      exact P_vret dX10_readsT_48 rfl ⟨Nat.le_refl _, Nat.le_refl _⟩ ⟨rfl, ⟨o3, upd fm 0 x, _, set_ne ko3 (by decide), set_at (hF3.at kd2 (by decide)), ⟨hU3.1.1.trans hS2.1, hU3.1.2.1.trans hS2.2.1, hU3.1.2.2.1.trans hS2.2.2.1, hU3.1.2.2.2.1.trans hS2.2.2.2.1, hU3.1.2.2.2.2.trans hS2.2.2.2.2⟩, hs3, hpr⟩, hF2.tr (hF3.l2.tr ((Fr.set (by omega) (by omega)).r2))⟩
    · have hcnd : tt = true ∨ 0 < rN ρ := Or.inr (Classical.byContradiction fun z => by rw [decide_eq_false z] at eO; exact c11 eO)
      refine P_aload_n dX10_readsT_14 rfl ?_
      refine P_iconst dX10_readsT_15 ci_3 ?_
      refine P_callV dX10_readsT_16 lkX10_210 okX10_fails ⟨Nat.le_of_ble_eq_true rfl, Nat.le_of_ble_eq_true rfl⟩ (m_fails l k.1) rfl rfl k.1 (Nat.le_of_ble_eq_true rfl) ⟨Nat.le_of_ble_eq_true rfl, Nat.le_of_ble_eq_true rfl⟩ (fun v16 G16 q16 => ?_)
      obtain ⟨rfl, rfl⟩ := q16
      exact P_vret dX10_readsT_19 rfl ⟨Nat.le_refl _, Nat.le_refl _⟩ ⟨rfl, ⟨_, fm, .inl (3, p), set_at k.1, set_ne kd (by decide), ⟨rfl, rfl, rfl, rfl, rfl⟩, ⟨if_pos ew, (show 1 ≤ 3 by decide), (show 3 ≤ 4 by decide), ea⟩, if_pos hcnd⟩, (Fr.set (by omega) (by omega)).l2⟩
set_option maxHeartbeats 4000000 in
set_option maxRecDepth 100000 in
theorem m_readsD (l : Launch) {G : PH} {o : MV} {fx fm : Nat → Int32} {n9 p : Nat} {tx : Nat → Int32} {ρ : Riv} {tt td : Bool} (k : mpr G o fx n9 tx) (kd : G[180]? = some (aI 315 fm)) (hs : pS o n9 (.inr p)) (hp : p < n9) (hm : mdV ρ fm) (eT : mT o = b2 tt) (eZ : mZ o = b2 td) (eO : mO o = b2 (decide (0 < rN ρ))) : Tri l mX10_readsD 0 0 [.ref 164] G (fun w G' => w = none ∧ (∃ o' f' s', G'[164]? = some (oM o') ∧ G'[180]? = some (aI 315 f') ∧ oS o o' ∧ pS o' n9 s' ∧ pR n9 tx (clD n9 tx p ρ tt td) s' o' f') ∧ Fr2 G G' 164 1 180 1) := by
  obtain ⟨ew, ea, hpn⟩ := id hs
  refine Tri.intro (L := [_]) okX10_readsD.1 (Nat.le_of_ble_eq_true rfl) rfl ?_
  refine P_aload_n dX10_readsD_0 rfl ?_
  refine P_get dX10_readsD_1 flX10_227 k.1 rfl ?_
  refine P_if_ne (tgt := 14) dX10_readsD_4 (by decide) (fun c4 => ?_) (fun c4 => ?_)
  · have hcnd : td = true ∨ 0 < rN ρ := Or.inl (by cases td; exact absurd eZ c4; rfl)
    refine P_aload_n dX10_readsD_14 rfl ?_
    refine P_iconst dX10_readsD_15 ci_3 ?_
    refine P_callV dX10_readsD_16 lkX10_210 okX10_fails ⟨Nat.le_of_ble_eq_true rfl, Nat.le_of_ble_eq_true rfl⟩ (m_fails l k.1) rfl rfl k.1 (Nat.le_of_ble_eq_true rfl) ⟨Nat.le_of_ble_eq_true rfl, Nat.le_of_ble_eq_true rfl⟩ (fun v16 G16 q16 => ?_)
    obtain ⟨rfl, rfl⟩ := q16
    exact P_vret dX10_readsD_19 rfl ⟨Nat.le_refl _, Nat.le_refl _⟩ ⟨rfl, ⟨_, fm, .inl (3, p), set_at k.1, set_ne kd (by decide), ⟨rfl, rfl, rfl, rfl, rfl⟩, ⟨if_pos ew, (show 1 ≤ 3 by decide), (show 3 ≤ 4 by decide), ea⟩, if_pos hcnd⟩, (Fr.set (by omega) (by omega)).l2⟩
  · refine P_aload_n dX10_readsD_7 rfl ?_
    refine P_get dX10_readsD_8 flX10_221 k.1 rfl ?_
    refine P_if_eq (tgt := 20) dX10_readsD_11 (by decide) (fun c11 => ?_) (fun c11 => ?_)
    · have hcnd : ¬ (td = true ∨ 0 < rN ρ) := by
        rintro (z | z)
        · rw [z] at eZ; exact absurd (eZ.symm.trans c4) (by decide)
        · rw [decide_eq_true z] at eO; exact absurd (eO.symm.trans c11) (by decide)
      refine P_aload_n dX10_readsD_20 rfl ?_
      refine P_dup dX10_readsD_21 rfl ?_
      refine P_get dX10_readsD_22 flX10_197 k.1 rfl ?_
      refine P_iconst dX10_readsD_25 ci_1 ?_
      refine P_iadd dX10_readsD_26 ?_
      rw [ea, nI_1]
      refine P_putI dX10_readsD_27 flX10_197 k.1 (Nat.le_of_ble_eq_true rfl) ?_
      refine P_aload_n dX10_readsD_30 rfl ?_
      refine P_iconst dX10_readsD_31 ci_1 ?_
      refine P_putZ dX10_readsD_32 flX10_227 (show (G.set 164 (oM (oRd o (nI (p + 1)) (mW o) (mT o) (mZ o) (mO o) (mB o))))[164]? = some (oM (oRd o (nI (p + 1)) (mW o) (mT o) (mZ o) (mO o) (mB o))) from set_at k.1) (Nat.le_of_ble_eq_true rfl) (by first | exact Or.inl rfl | exact Or.inr rfl) ?_
      rw [List.set_set]
      obtain ⟨o2, eo2⟩ : ∃ o2 : MV, o2 = oRd o (nI (p + 1)) (mW o) (mT o) 1 (mO o) (mB o) := ⟨_, rfl⟩
      have k2 : mpr (G.set 164 (oM o2)) o2 fx n9 tx := k.ob (by rw [eo2])
      have kd2 : (G.set 164 (oM o2))[180]? = some (aI 315 fm) := set_ne kd (by decide)
      have hs2 : pS o2 n9 (.inr (p + 1)) := by rw [eo2]; exact ⟨ew, rfl, hp⟩
      have hS2 : oS o o2 := by rw [eo2]; exact ⟨rfl, rfl, rfl, rfl, rfl⟩
      have eT2 : mT o2 = mT o := by rw [eo2]
      have eZ2 : mZ o2 = 1 := by rw [eo2]
      have eO2 : mO o2 = mO o := by rw [eo2]
      have hF2 : Fr2 G (G.set 164 (oM o2)) 164 1 180 1 := (Fr.set (by omega) (by omega)).l2
      generalize hG2 : G.set 164 (oM o2) = G2 at k2 kd2 hF2
      suffices hgo : WP mX10_readsD l (rmM mX10_readsD 0 0) (ZM 0 0 (fun w G' => w = none ∧ (∃ o' f' s', G'[164]? = some (oM o') ∧ G'[180]? = some (aI 315 f') ∧ oS o o' ∧ pS o' n9 s' ∧ pR n9 tx (clD n9 tx p ρ tt td) s' o' f') ∧ Fr2 G G' 164 1 180 1)) XT 0 0 35 [some (.ref 164)] [] G2 by rw [← hG2, eo2] at hgo; exact hgo
      clear hG2 eo2
      refine P_aload_n dX10_readsD_35 rfl ?_
      refine P_get dX10_readsD_36 flX10_61 k2.1 rfl ?_
      refine P_iconst dX10_readsD_39 ci_1 ?_
      refine P_aload_n dX10_readsD_40 rfl ?_
      refine P_iconst dX10_readsD_41 ci_1 ?_
      refine P_bipush dX10_readsD_42 bp_9 ?_
      refine P_callV dX10_readsD_44 lkX10_224 okX10_number ⟨Nat.le_of_ble_eq_true rfl, Nat.le_of_ble_eq_true rfl⟩ (m_number (σ := .inr (p + 1)) l k2 hs2) rfl rfl k2.1 (Nat.le_of_ble_eq_true rfl) ⟨Nat.le_of_ble_eq_true rfl, Nat.le_of_ble_eq_true rfl⟩ (fun v44 G44 q44 => ?_)
      obtain ⟨⟨o3, ko3, hs3, hU3, x, rfl, hx⟩, hF3⟩ := q44
      refine P_iast dX10_readsD_47 (hF3.at kd2 (by decide)) (vp_in_nI (show 1 < 315 by decide) (by decide)) ?_
      have hR : clD n9 tx p ρ tt td = match clS n9 tx (st3 (num n9 tx 1 9 (p + 1))) with
          | .inl e => .inl e
          | .inr q => .inr (q, rvD ρ (v3 (num n9 tx 1 9 (p + 1))).toNatClampNeg, tt, true) := if_neg hcnd
      have hpr : pR n9 tx (clD n9 tx p ρ tt td) (st3 (num n9 tx 1 9 (p + 1))) o3 (upd fm 1 x) := by
        unfold pR
        rw [hR]
        cases hc : clS n9 tx (st3 (num n9 tx 1 9 (p + 1))) with
        | inl e => rfl
        | inr q =>
          obtain ⟨p9, e9, -⟩ := clS_r hc
          obtain ⟨s9, e8⟩ := st3_r e9
          obtain ⟨j9, j1, j2, e7⟩ := num_v3 (a := 1) (b := 9) (by decide) (by decide) e9
          have hxv : x = nI j9 := (hx _ _ _ e8).1.trans e7
          refine ⟨_, _, _, rfl, ?_, ?_, ?_, ?_⟩
          · rw [show v3 (num n9 tx 1 9 (p + 1)) = nI j9 from e7, nI_clamp (by omega), hxv]; exact mdV_D hm j9
          · exact hU3.2.1.trans (eT2.trans eT)
          · exact hU3.2.2.1.trans eZ2
          · exact hU3.2.2.2.trans (eO2.trans eO)
      exact P_vret dX10_readsD_48 rfl ⟨Nat.le_refl _, Nat.le_refl _⟩ ⟨rfl, ⟨o3, upd fm 1 x, _, set_ne ko3 (by decide), set_at (hF3.at kd2 (by decide)), ⟨hU3.1.1.trans hS2.1, hU3.1.2.1.trans hS2.2.1, hU3.1.2.2.1.trans hS2.2.2.1, hU3.1.2.2.2.1.trans hS2.2.2.2.1, hU3.1.2.2.2.2.trans hS2.2.2.2.2⟩, hs3, hpr⟩, hF2.tr (hF3.l2.tr ((Fr.set (by omega) (by omega)).r2))⟩
    · have hcnd : td = true ∨ 0 < rN ρ := Or.inr (Classical.byContradiction fun z => by rw [decide_eq_false z] at eO; exact c11 eO)
      refine P_aload_n dX10_readsD_14 rfl ?_
      refine P_iconst dX10_readsD_15 ci_3 ?_
      refine P_callV dX10_readsD_16 lkX10_210 okX10_fails ⟨Nat.le_of_ble_eq_true rfl, Nat.le_of_ble_eq_true rfl⟩ (m_fails l k.1) rfl rfl k.1 (Nat.le_of_ble_eq_true rfl) ⟨Nat.le_of_ble_eq_true rfl, Nat.le_of_ble_eq_true rfl⟩ (fun v16 G16 q16 => ?_)
      obtain ⟨rfl, rfl⟩ := q16
      exact P_vret dX10_readsD_19 rfl ⟨Nat.le_refl _, Nat.le_refl _⟩ ⟨rfl, ⟨_, fm, .inl (3, p), set_at k.1, set_ne kd (by decide), ⟨rfl, rfl, rfl, rfl, rfl⟩, ⟨if_pos ew, (show 1 ≤ 3 by decide), (show 3 ≤ 4 by decide), ea⟩, if_pos hcnd⟩, (Fr.set (by omega) (by omega)).l2⟩
