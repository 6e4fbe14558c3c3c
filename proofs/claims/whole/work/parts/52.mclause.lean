/-- where the reader stands after a clause -/
def cR (n : Nat) (R : (Nat × Nat) ⊕ CS) (o : MV) (f : Nat → Int32) : Prop := match R with
  | .inl e => pS o n (.inl e)
  | .inr c => pS o n (.inr c.1) ∧ mdV c.2.1 f ∧ mT o = b2 c.2.2.1 ∧ mZ o = b2 c.2.2.2 ∧ mO o = b2 (decide (0 < rN c.2.1))
theorem cR_of {n : Nat} {tx : Nat → Int32} {R : (Nat × Nat) ⊕ CS} {s : PS} {o o' : MV} {f : Nat → Int32} (h : pR n tx R s o f) (hs : pS o' n (clS n tx s)) (hU : oU o o') : cR n R o' f := by
  unfold pR at h
  cases hc : clS n tx s with
  | inl e => rw [hc] at h hs; have h : R = .inl e := h; rw [h]; exact hs
  | inr q =>
    rw [hc] at h hs
    obtain ⟨ρ, tt, td, h1, h2, h3, h4, h5⟩ := h
    rw [h1]
    exact ⟨hs, h2, hU.2.1.trans h3, hU.2.2.1.trans h4, hU.2.2.2.trans h5⟩
theorem mpr.fr2 {G G' : PH} {o o' : MV} {fx : Nat → Int32} {n : Nat} {tx : Nat → Int32} (k : mpr G o fx n tx) (hF : Fr2 G G' 164 1 180 1) (h : G'[164]? = some (oM o')) (e : mL o' = mL o) : mpr G' o' fx n tx := ⟨h, (hF.2 172 (by decide) (by decide)).trans k.2.1, k.2.2.1, e.trans k.2.2.2.1, k.2.2.2.2⟩
set_option maxHeartbeats 4000000 in
set_option maxRecDepth 100000 in
theorem m_readsClause (l : Launch) {G : PH} {o : MV} {fx fm : Nat → Int32} {n9 p : Nat} {tx : Nat → Int32} {ρ : Riv} {tt td : Bool} (k : mpr G o fx n9 tx) (kd : G[180]? = some (aI 315 fm)) (hs : pS o n9 (.inr p)) (hp : p < n9) (hm : mdV ρ fm) (eT : mT o = b2 tt) (eZ : mZ o = b2 td) (eO : mO o = b2 (decide (0 < rN ρ))) (hok : sOk ρ) (hsk : skp n9 tx p = p) (htx : ∀ i, i < n9 → ¬ tx i = -1) : Tri l mX10_readsClause 0 0 [.ref 164] G (fun w G' => w = none ∧ (∃ o' f', G'[164]? = some (oM o') ∧ G'[180]? = some (aI 315 f') ∧ oS o o' ∧ cR n9 (cla n9 tx p ρ tt td) o' f') ∧ Fr2 G G' 164 1 180 1) := by
  refine Tri.intro (L := [_]) okX10_readsClause.1 (Nat.le_of_ble_eq_true rfl) rfl ?_
  refine P_aload_n dX10_readsClause_0 rfl ?_
  refine P_callV dX10_readsClause_1 lkX10_203 okX10_next ⟨Nat.le_of_ble_eq_true rfl, Nat.le_of_ble_eq_true rfl⟩ (m_next l k hs.2.1 hs.2.2) rfl rfl k.1 (Nat.le_of_ble_eq_true rfl) ⟨Nat.le_of_ble_eq_true rfl, Nat.le_of_ble_eq_true rfl⟩ (fun v1 G1 q1 => ?_)
  obtain ⟨rfl, ko3, hFN⟩ := q1
  rw [hsk] at ko3
  have eoo : oRd o (nI p) (mW o) (mT o) (mZ o) (mO o) (mB o) = o := by rw [← hs.2.1]
  rw [eoo] at ko3
  have kN := k.fr hFN ko3 rfl
  have kdN := hFN.at kd (by decide)
  have hsN := hs
  rw [hsk]
  by_cases h116 : lt0 n9 tx p = 116
  · have hcl : cla n9 tx p ρ tt td = clT n9 tx p ρ tt td := by unfold cla; rw [if_pos h116]
    rw [h116]
    refine P_lookup (off := 44) (tgt := 48) dX10_readsClause_4 (by decide) (by decide) (by decide) ?_
    refine P_aload_n dX10_readsClause_48 rfl ?_
    refine P_callV dX10_readsClause_49 lkX10_234 okX10_readsT ⟨Nat.le_of_ble_eq_true rfl, Nat.le_of_ble_eq_true rfl⟩ (m_readsT l kN kdN hsN hp hm eT eZ eO) rfl rfl kN.1 (Nat.le_of_ble_eq_true rfl) ⟨Nat.le_of_ble_eq_true rfl, Nat.le_of_ble_eq_true rfl⟩ (fun v49 G49 q49 => ?_)
    obtain ⟨rfl, ⟨o5, f5, s5, h1, h2, h3, h4, h5⟩, hF5⟩ := q49
    have k5 := kN.fr2 hF5 h1 h3.2.2.2.1
    have hFa := (f180 hFN).tr hF5
    rw [← hcl] at h5
    refine P_goto (tgt := 81) dX10_readsClause_52 (by decide) ?_
    refine P_aload_n dX10_readsClause_81 rfl ?_
    refine P_callV dX10_readsClause_82 lkX10_246 okX10_stops ⟨Nat.le_of_ble_eq_true rfl, Nat.le_of_ble_eq_true rfl⟩ (m_stops l k5 h4 htx) rfl rfl k5.1 (Nat.le_of_ble_eq_true rfl) ⟨Nat.le_of_ble_eq_true rfl, Nat.le_of_ble_eq_true rfl⟩ (fun v82 G82 q82 => ?_)
    obtain ⟨rfl, ⟨o6, ko6, hs6, hU6⟩, hF6⟩ := q82
    exact P_vret dX10_readsClause_85 rfl ⟨Nat.le_refl _, Nat.le_refl _⟩ ⟨rfl, ⟨o6, _, ko6, hF6.at h2 (by decide), h3.tr hU6.1, cR_of h5 hs6 hU6⟩, hFa.tr (f180 hF6)⟩
  by_cases h100 : lt0 n9 tx p = 100
  · have hcl : cla n9 tx p ρ tt td = clD n9 tx p ρ tt td := by unfold cla; rw [if_neg h116, if_pos h100]
    rw [h100]
    refine P_lookup (off := 51) (tgt := 55) dX10_readsClause_4 (by decide) (by decide) (by decide) ?_
    refine P_aload_n dX10_readsClause_55 rfl ?_
    refine P_callV dX10_readsClause_56 lkX10_237 okX10_readsD ⟨Nat.le_of_ble_eq_true rfl, Nat.le_of_ble_eq_true rfl⟩ (m_readsD l kN kdN hsN hp hm eT eZ eO) rfl rfl kN.1 (Nat.le_of_ble_eq_true rfl) ⟨Nat.le_of_ble_eq_true rfl, Nat.le_of_ble_eq_true rfl⟩ (fun v56 G56 q56 => ?_)
    obtain ⟨rfl, ⟨o5, f5, s5, h1, h2, h3, h4, h5⟩, hF5⟩ := q56
    have k5 := kN.fr2 hF5 h1 h3.2.2.2.1
    have hFa := (f180 hFN).tr hF5
    rw [← hcl] at h5
    refine P_goto (tgt := 81) dX10_readsClause_59 (by decide) ?_
    refine P_aload_n dX10_readsClause_81 rfl ?_
    refine P_callV dX10_readsClause_82 lkX10_246 okX10_stops ⟨Nat.le_of_ble_eq_true rfl, Nat.le_of_ble_eq_true rfl⟩ (m_stops l k5 h4 htx) rfl rfl k5.1 (Nat.le_of_ble_eq_true rfl) ⟨Nat.le_of_ble_eq_true rfl, Nat.le_of_ble_eq_true rfl⟩ (fun v82 G82 q82 => ?_)
    obtain ⟨rfl, ⟨o6, ko6, hs6, hU6⟩, hF6⟩ := q82
    exact P_vret dX10_readsClause_85 rfl ⟨Nat.le_refl _, Nat.le_refl _⟩ ⟨rfl, ⟨o6, _, ko6, hF6.at h2 (by decide), h3.tr hU6.1, cR_of h5 hs6 hU6⟩, hFa.tr (f180 hF6)⟩
  by_cases h114 : lt0 n9 tx p = 114
  · have hcl : cla n9 tx p ρ tt td = clR n9 tx p ρ tt td := by unfold cla; rw [if_neg h116, if_neg h100, if_pos h114]
    rw [h114]
    refine P_lookup (off := 58) (tgt := 62) dX10_readsClause_4 (by decide) (by decide) (by decide) ?_
    refine P_aload_n dX10_readsClause_62 rfl ?_
    refine P_callV dX10_readsClause_63 lkX10_240 okX10_readsReach ⟨Nat.le_of_ble_eq_true rfl, Nat.le_of_ble_eq_true rfl⟩ (m_readsReach l kN kdN hsN hp hm eT eZ eO hok) rfl rfl kN.1 (Nat.le_of_ble_eq_true rfl) ⟨Nat.le_of_ble_eq_true rfl, Nat.le_of_ble_eq_true rfl⟩ (fun v63 G63 q63 => ?_)
    obtain ⟨rfl, ⟨o5, f5, s5, h1, h2, h3, h4, h5⟩, hF5⟩ := q63
    have k5 := kN.fr2 hF5 h1 h3.2.2.2.1
    have hFa := (f180 hFN).tr hF5
    rw [← hcl] at h5
    refine P_goto (tgt := 81) dX10_readsClause_66 (by decide) ?_
    refine P_aload_n dX10_readsClause_81 rfl ?_
    refine P_callV dX10_readsClause_82 lkX10_246 okX10_stops ⟨Nat.le_of_ble_eq_true rfl, Nat.le_of_ble_eq_true rfl⟩ (m_stops l k5 h4 htx) rfl rfl k5.1 (Nat.le_of_ble_eq_true rfl) ⟨Nat.le_of_ble_eq_true rfl, Nat.le_of_ble_eq_true rfl⟩ (fun v82 G82 q82 => ?_)
    obtain ⟨rfl, ⟨o6, ko6, hs6, hU6⟩, hF6⟩ := q82
    exact P_vret dX10_readsClause_85 rfl ⟨Nat.le_refl _, Nat.le_refl _⟩ ⟨rfl, ⟨o6, _, ko6, hF6.at h2 (by decide), h3.tr hU6.1, cR_of h5 hs6 hU6⟩, hFa.tr (f180 hF6)⟩
  by_cases h115 : lt0 n9 tx p = 115
  · have hcl : cla n9 tx p ρ tt td = clX n9 tx p ρ tt td := by unfold cla; rw [if_neg h116, if_neg h100, if_neg h114, if_pos h115]
    rw [h115]
    refine P_lookup (off := 65) (tgt := 69) dX10_readsClause_4 (by decide) (by decide) (by decide) ?_
    refine P_aload_n dX10_readsClause_69 rfl ?_
    refine P_callV dX10_readsClause_70 lkX10_243 okX10_readsSide ⟨Nat.le_of_ble_eq_true rfl, Nat.le_of_ble_eq_true rfl⟩ (m_readsSide l kN kdN hsN hp hm eT eZ eO hok) rfl rfl kN.1 (Nat.le_of_ble_eq_true rfl) ⟨Nat.le_of_ble_eq_true rfl, Nat.le_of_ble_eq_true rfl⟩ (fun v70 G70 q70 => ?_)
    obtain ⟨rfl, ⟨o5, f5, s5, h1, h2, h3, h4, h5⟩, hF5⟩ := q70
    have k5 := kN.fr2 hF5 h1 h3.2.2.2.1
    have hFa := (f180 hFN).tr hF5
    rw [← hcl] at h5
    refine P_goto (tgt := 81) dX10_readsClause_73 (by decide) ?_
    refine P_aload_n dX10_readsClause_81 rfl ?_
    refine P_callV dX10_readsClause_82 lkX10_246 okX10_stops ⟨Nat.le_of_ble_eq_true rfl, Nat.le_of_ble_eq_true rfl⟩ (m_stops l k5 h4 htx) rfl rfl k5.1 (Nat.le_of_ble_eq_true rfl) ⟨Nat.le_of_ble_eq_true rfl, Nat.le_of_ble_eq_true rfl⟩ (fun v82 G82 q82 => ?_)
    obtain ⟨rfl, ⟨o6, ko6, hs6, hU6⟩, hF6⟩ := q82
    exact P_vret dX10_readsClause_85 rfl ⟨Nat.le_refl _, Nat.le_refl _⟩ ⟨rfl, ⟨o6, _, ko6, hF6.at h2 (by decide), h3.tr hU6.1, cR_of h5 hs6 hU6⟩, hFa.tr (f180 hF6)⟩
  have hcl : cla n9 tx p ρ tt td = .inl (1, p) := by unfold cla; rw [if_neg h116, if_neg h100, if_neg h114, if_neg h115]
  refine P_lookup (off := 72) (tgt := 76) dX10_readsClause_4 (by decide) (by show Op.lookupswitch.offset [(100, 51), (114, 58), (115, 65), (116, 44)] 72 _ = _; rw [lv_osw h100 (by decide), lv_osw h114 (by decide), lv_osw h115 (by decide), lv_osw h116 (by decide)]; rfl) (by decide) ?_
  refine P_aload_n dX10_readsClause_76 rfl ?_
  refine P_iconst dX10_readsClause_77 ci_1 ?_
  refine P_callV dX10_readsClause_78 lkX10_210 okX10_fails ⟨Nat.le_of_ble_eq_true rfl, Nat.le_of_ble_eq_true rfl⟩ (m_fails l kN.1) rfl rfl kN.1 (Nat.le_of_ble_eq_true rfl) ⟨Nat.le_of_ble_eq_true rfl, Nat.le_of_ble_eq_true rfl⟩ (fun v78 G78 q78 => ?_)
  obtain ⟨rfl, rfl⟩ := q78
  obtain ⟨o5, eo5⟩ : ∃ o5 : MV, o5 = oRd o (mA o) (if mW o = 0 then 1 else mW o) (mT o) (mZ o) (mO o) (mB o) := ⟨_, rfl⟩
  rw [← eo5]
  have k5 : mpr (G1.set 164 (oM o5)) o5 fx n9 tx := kN.ob (by rw [eo5])
  have h2 : (G1.set 164 (oM o5))[180]? = some (aI 315 fm) := set_ne kdN (by decide)
  have h3 : oS o o5 := by rw [eo5]; exact ⟨rfl, rfl, rfl, rfl, rfl⟩
  have h4 : pS o5 n9 (.inl (1, p)) := by rw [eo5]; exact ⟨if_pos hs.1, Nat.le_refl 1, (show 1 ≤ 4 by decide), hs.2.1⟩
  have h5 : pR n9 tx (cla n9 tx p ρ tt td) (.inl (1, p)) o5 fm := hcl
  have hFa := (f180 hFN).tr ((Fr.set (G := G1) (a := 164) (n := 1) (i := 164) (c := oM o5) (by omega) (by omega)).l2 (b := 180) (m := 1))
  refine P_aload_n dX10_readsClause_81 rfl ?_
  refine P_callV dX10_readsClause_82 lkX10_246 okX10_stops ⟨Nat.le_of_ble_eq_true rfl, Nat.le_of_ble_eq_true rfl⟩ (m_stops l k5 h4 htx) rfl rfl k5.1 (Nat.le_of_ble_eq_true rfl) ⟨Nat.le_of_ble_eq_true rfl, Nat.le_of_ble_eq_true rfl⟩ (fun v82 G82 q82 => ?_)
  obtain ⟨rfl, ⟨o6, ko6, hs6, hU6⟩, hF6⟩ := q82
  exact P_vret dX10_readsClause_85 rfl ⟨Nat.le_refl _, Nat.le_refl _⟩ ⟨rfl, ⟨o6, _, ko6, hF6.at h2 (by decide), h3.tr hU6.1, cR_of h5 hs6 hU6⟩, hFa.tr (f180 hF6)⟩
