theorem mpr.s180 {G : PH} {o : MV} {fx : Nat → Int32} {n : Nat} {tx : Nat → Int32} {c : PCell} (k : mpr G o fx n tx) : mpr (G.set 180 c) o fx n tx := ⟨set_ne k.1 (by decide), set_ne k.2.1 (by decide), k.2.2⟩
theorem oS.tr {a b c : MV} (h : oS a b) (h' : oS b c) : oS a c := ⟨h'.1.trans h.1, h'.2.1.trans h.2.1, h'.2.2.1.trans h.2.2.1, h'.2.2.2.1.trans h.2.2.2.1, h'.2.2.2.2.trans h.2.2.2.2⟩
theorem oU.tr {a b c : MV} (h : oU a b) (h' : oU b c) : oU a c := ⟨h.1.tr h'.1, h'.2.1.trans h.2.1, h'.2.2.1.trans h.2.2.1, h'.2.2.2.trans h.2.2.2⟩
theorem f180 {G G' : PH} (h : Fr G G' 164 1) : Fr2 G G' 164 1 180 1 := h.l2
theorem s180 {G : PH} {c : PCell} : Fr2 G (G.set 180 c) 164 1 180 1 := (Fr.set (a := 180) (n := 1) (by omega) (by omega)).r2
theorem pSum_A {ρ : Riv} {b k x q : Int32} : pSum (rvA ρ b k x q) (rN ρ + 1) = pSum ρ (rN ρ) + q := by
  have h : ∀ n, n ≤ rN ρ → pSum (rvA ρ b k x q) n = pSum ρ n := by
    intro n
    induction n with
    | zero => intro _; rfl
    | succ n ih =>
      intro hn
      show pSum (rvA ρ b k x q) n + rF (rvA ρ b k x q) n 3 = pSum ρ n + rF ρ n 3
      rw [ih (by omega), show rF (rvA ρ b k x q) n 3 = rF ρ n 3 from (up2_ne (by omega)).trans ((up2_ne (by omega)).trans ((up2_ne (by omega)).trans (up2_ne (by omega))))]
  show pSum (rvA ρ b k x q) (rN ρ) + rF (rvA ρ b k x q) (rN ρ) 3 = _
  rw [h _ (Nat.le_refl _), show rF (rvA ρ b k x q) (rN ρ) 3 = q from (up2_ne (by omega)).trans ((up2_ne (by omega)).trans (up2_eq ⟨rfl, rfl⟩))]
theorem ps_lt {s q : Nat} (hs : s ≤ 100) (hq : q ≤ 100) : nI s + nI q ≤ 8 ↔ ¬ 8 - nI s < nI q := by
  rw [ps_le hs hq, Int32.not_lt]
set_option maxHeartbeats 4000000 in
set_option maxRecDepth 100000 in
theorem lp_rrtail (l : Launch) {G0 G : PH} {o o5 : MV} {fx fm : Nat → Int32} {x1 : Int32} {n9 p : Nat} {tx : Nat → Int32} {ρ : Riv} {tt td : Bool} (k5 : mpr G o5 fx n9 tx) (kd5 : G[180]? = some (aI 315 (upd fm (3 + 52 * rN ρ + 0) x1))) (hs5 : pS o5 n9 (st2 (rcB n9 tx p ρ))) (hx1 : ∀ v q, rcB n9 tx p ρ = .inr (v, q) → x1 = v) (hS5 : oS o o5) (eT : mT o5 = b2 tt) (eZ : mZ o5 = b2 td) (eO5 : mO o5 = 1) (hm : mdV ρ fm) (h6 : rN ρ < 6) (hok : sOk ρ) (hF5 : Fr2 G0 G 164 1 180 1) : WP mX10_readsReach l (rmM mX10_readsReach 0 0) (ZM 0 0 (fun w G' => w = none ∧ (∃ o' f' s', G'[164]? = some (oM o') ∧ G'[180]? = some (aI 315 f') ∧ oS o o' ∧ pS o' n9 s' ∧ pR n9 tx (clR n9 tx p ρ tt td) s' o' f') ∧ Fr2 G0 G' 164 1 180 1)) XT 0 0 90 [some (.ref 164), some (.int (nI (rN ρ)))] [] G := by
  refine P_aload_n dX10_readsReach_90 rfl ?_
  refine P_get dX10_readsReach_91 flX10_61 k5.1 rfl ?_
  refine P_iload_n dX10_readsReach_94 rfl ?_
  refine P_iconst dX10_readsReach_95 ci_1 ?_
  refine P_callSp dX10_readsReach_96 lkX10_64 okX10_placeOf ⟨Nat.le_of_ble_eq_true rfl, Nat.le_of_ble_eq_true rfl⟩ (m_placeOf (i := 1) l) rfl rfl (Nat.le_of_ble_eq_true rfl) ⟨Nat.le_of_ble_eq_true rfl, Nat.le_of_ble_eq_true rfl⟩ ?_
  refine P_aload_n dX10_readsReach_99 rfl ?_
  refine P_iconst dX10_readsReach_100 ci_0 ?_
  refine P_bipush dX10_readsReach_101 bp_20 ?_
  refine P_callV dX10_readsReach_103 lkX10_224 okX10_number ⟨Nat.le_of_ble_eq_true rfl, Nat.le_of_ble_eq_true rfl⟩ (m_number l k5 hs5) rfl rfl k5.1 (Nat.le_of_ble_eq_true rfl) ⟨Nat.le_of_ble_eq_true rfl, Nat.le_of_ble_eq_true rfl⟩ (fun v103 G103 q103 => ?_)
  obtain ⟨⟨o6, ko6, hs6, hU6, x2, rfl, hx2⟩, hF6⟩ := q103
  have hs6 : pS o6 n9 (st3 (rcK n9 tx p ρ)) := hs6
  have hx2 : ∀ v s q, rcK n9 tx p ρ = .inr (v, s, q) → x2 = v ∧ mB o6 = nI s := hx2
  have k6a := k5.fr hF6 ko6 hU6.1.2.2.2.1
  have kd6 := hF6.at kd5 (by decide)
  refine P_iast dX10_readsReach_106 kd6 (vp_in_nI (by omega) (by decide)) ?_
  rw [nI_clamp (by omega)]
  have k6 : mpr (G103.set 180 (aI 315 (upd (upd fm (3 + 52 * rN ρ + 0) x1) (3 + 52 * rN ρ + 1) x2))) o6 fx n9 tx := k6a.s180
  refine P_aload_n dX10_readsReach_107 rfl ?_
  refine P_get dX10_readsReach_108 flX10_61 k6.1 rfl ?_
  refine P_iload_n dX10_readsReach_111 rfl ?_
  refine P_iconst dX10_readsReach_112 ci_2 ?_
  refine P_callSp dX10_readsReach_113 lkX10_64 okX10_placeOf ⟨Nat.le_of_ble_eq_true rfl, Nat.le_of_ble_eq_true rfl⟩ (m_placeOf (i := 2) l) rfl rfl (Nat.le_of_ble_eq_true rfl) ⟨Nat.le_of_ble_eq_true rfl, Nat.le_of_ble_eq_true rfl⟩ ?_
  refine P_aload_n dX10_readsReach_116 rfl ?_
  refine P_iconst dX10_readsReach_117 ci_0 ?_
  refine P_bipush dX10_readsReach_118 bp_10 ?_
  refine P_callV dX10_readsReach_120 lkX10_224 okX10_number ⟨Nat.le_of_ble_eq_true rfl, Nat.le_of_ble_eq_true rfl⟩ (m_number l k6 hs6) rfl rfl k6.1 (Nat.le_of_ble_eq_true rfl) ⟨Nat.le_of_ble_eq_true rfl, Nat.le_of_ble_eq_true rfl⟩ (fun v120 G120 q120 => ?_)
  obtain ⟨⟨o7, ko7, hs7, hU7, x3, rfl, hx3⟩, hF7⟩ := q120
  have hs7 : pS o7 n9 (st3 (rcX n9 tx p ρ)) := hs7
  have hx3 : ∀ v s q, rcX n9 tx p ρ = .inr (v, s, q) → x3 = v ∧ mB o7 = nI s := hx3
  have k7a := k6.fr hF7 ko7 hU7.1.2.2.2.1
  have kd7 := hF7.at (set_at kd6) (by decide)
  refine P_iast dX10_readsReach_123 kd7 (vp_in_nI (by omega) (by decide)) ?_
  rw [nI_clamp (by omega)]
  have k7 := k7a.s180 (c := aI 315 (upd (upd (upd fm (3 + 52 * rN ρ + 0) x1) (3 + 52 * rN ρ + 1) x2) (3 + 52 * rN ρ + 2) x3))
  refine P_aload_n dX10_readsReach_124 rfl ?_
  refine P_get dX10_readsReach_125 flX10_61 k7.1 rfl ?_
  refine P_iload_n dX10_readsReach_128 rfl ?_
  refine P_iconst dX10_readsReach_129 ci_3 ?_
  refine P_callSp dX10_readsReach_130 lkX10_64 okX10_placeOf ⟨Nat.le_of_ble_eq_true rfl, Nat.le_of_ble_eq_true rfl⟩ (m_placeOf (i := 3) l) rfl rfl (Nat.le_of_ble_eq_true rfl) ⟨Nat.le_of_ble_eq_true rfl, Nat.le_of_ble_eq_true rfl⟩ ?_
  refine P_aload_n dX10_readsReach_133 rfl ?_
  refine P_iconst dX10_readsReach_134 ci_1 ?_
  refine P_iconst dX10_readsReach_135 ci_4 ?_
  refine P_callV dX10_readsReach_136 lkX10_224 okX10_number ⟨Nat.le_of_ble_eq_true rfl, Nat.le_of_ble_eq_true rfl⟩ (m_number l k7 hs7) rfl rfl k7.1 (Nat.le_of_ble_eq_true rfl) ⟨Nat.le_of_ble_eq_true rfl, Nat.le_of_ble_eq_true rfl⟩ (fun v136 G136 q136 => ?_)
  obtain ⟨⟨o8, ko8, hs8, hU8, x4, rfl, hx4⟩, hF8⟩ := q136
  have k8a := k7.fr hF8 ko8 hU8.1.2.2.2.1
  have kd8 := hF8.at (set_at kd7) (by decide)
  refine P_iast dX10_readsReach_139 kd8 (vp_in_nI (by omega) (by decide)) ?_
  rw [nI_clamp (by omega)]
  have k8 := k8a.s180 (c := aI 315 (upd (upd (upd (upd fm (3 + 52 * rN ρ + 0) x1) (3 + 52 * rN ρ + 1) x2) (3 + 52 * rN ρ + 2) x3) (3 + 52 * rN ρ + 3) x4))
  have hU58 := (hU6.tr hU7).tr hU8
  have hF58 : Fr2 G0 (G136.set 180 (aI 315 (upd (upd (upd (upd fm (3 + 52 * rN ρ + 0) x1) (3 + 52 * rN ρ + 1) x2) (3 + 52 * rN ρ + 2) x3) (3 + 52 * rN ρ + 3) x4))) 164 1 180 1 := hF5.tr ((f180 hF6).tr (s180.tr ((f180 hF7).tr (s180.tr ((f180 hF8).tr s180)))))
  refine P_aload_n dX10_readsReach_140 rfl ?_
  refine P_get dX10_readsReach_141 flX10_200 k8.1 rfl ?_
  refine P_if_ne (tgt := 183) dX10_readsReach_144 (by decide) (fun c144 => ?_) (fun c144 => ?_)
  · obtain ⟨e9, he9⟩ : ∃ e, numS n9 tx 1 4 (st3 (rcX n9 tx p ρ)) = .inl e := by
      cases hN : numS n9 tx 1 4 (st3 (rcX n9 tx p ρ)) with
      | inl e => exact ⟨e, rfl⟩
      | inr y => rw [hN] at hs8; exact absurd hs8.1 c144
    have hR : clR n9 tx p ρ tt td = .inl e9 := by
      unfold clR rcQ prS
      rw [if_neg (fun z => z h6), he9]
      rfl
    exact P_vret dX10_readsReach_183 rfl ⟨Nat.le_refl _, Nat.le_refl _⟩ ⟨rfl, ⟨o8, _, .inl e9, k8.1, set_at kd8, hS5.tr hU58.1, by rw [he9] at hs8; exact hs8, hR⟩, hF58⟩
  · obtain ⟨v9, s9, q9, hN9⟩ : ∃ v s q, numS n9 tx 1 4 (st3 (rcX n9 tx p ρ)) = .inr (v, s, q) := by
      cases hN : numS n9 tx 1 4 (st3 (rcX n9 tx p ρ)) with
      | inl e => rw [hN] at hs8; exact absurd (hs8.1.symm.trans c144) (nI_ne0 (by have := hs8.2.1; omega) (by have := hs8.2.2.1; omega))
      | inr y => exact ⟨y.1, y.2.1, y.2.2, rfl⟩
    obtain ⟨hx4a, hx4b⟩ := hx4 _ _ _ hN9
    obtain ⟨p2, e3, e4⟩ := numS_r hN9
    obtain ⟨q8, q1, q2, e5⟩ := num_nat (a := 1) (b := 4) (by decide) (by decide) e4
    obtain ⟨s2, e6⟩ := st3_r e3
    obtain ⟨p3, e7, e8⟩ := numS_r e6
    obtain ⟨s3, f1⟩ := st3_r e7
    obtain ⟨p4, f2, f3⟩ := numS_r f1
    have f5 := st2_r f2
    have hb9 := hx1 _ _ f5
    have hk9 := (hx2 _ _ _ f1).1
    have hx9 := (hx3 _ _ _ e6).1
    rw [hN9] at hs8
    obtain ⟨s8, hs88, es8⟩ := pSum_nat hok.2 (rN ρ) (Nat.le_refl _)
    have hpl : pSum ρ (rN ρ) + x4 ≤ 8 ↔ ¬ 8 - pSum ρ (rN ρ) < v9 := by rw [hx4a, es8, show v9 = nI q8 from e5]; exact ps_lt (by omega) (by omega)
    refine P_aload_n dX10_readsReach_147 rfl ?_
    refine P_get dX10_readsReach_148 flX10_61 k8.1 rfl ?_
    refine P_iconst dX10_readsReach_151 ci_2 ?_
    refine P_dup2 dX10_readsReach_152 rfl rfl ?_
    refine P_iald dX10_readsReach_153 (set_at kd8) (vp_in_nI (show 2 < 315 by decide) (by decide)) ?_
    rw [show (upd (upd (upd (upd fm (3 + 52 * rN ρ + 0) x1) (3 + 52 * rN ρ + 1) x2) (3 + 52 * rN ρ + 2) x3) (3 + 52 * rN ρ + 3) x4) (Int32.toNatClampNeg 2) = nI (rN ρ) from (upd_n (show 2 ≠ _ by omega)).trans ((upd_n (by omega)).trans ((upd_n (by omega)).trans ((upd_n (by omega)).trans hm.1.2.2.1)))]
    refine P_iconst dX10_readsReach_154 ci_1 ?_
    refine P_iadd dX10_readsReach_155 ?_
    rw [nI_1]
    refine P_iast dX10_readsReach_156 (set_at kd8) (vp_in_nI (show 2 < 315 by decide) (by decide)) ?_
    rw [show Int32.toNatClampNeg 2 = 2 from rfl]
    have k9 := k8.s180 (c := aI 315 (upd (upd (upd (upd (upd fm (3 + 52 * rN ρ + 0) x1) (3 + 52 * rN ρ + 1) x2) (3 + 52 * rN ρ + 2) x3) (3 + 52 * rN ρ + 3) x4) 2 (nI (rN ρ + 1))))
    have kd9 : ((G136.set 180 (aI 315 (upd (upd (upd (upd fm (3 + 52 * rN ρ + 0) x1) (3 + 52 * rN ρ + 1) x2) (3 + 52 * rN ρ + 2) x3) (3 + 52 * rN ρ + 3) x4))).set 180 (aI 315 (upd (upd (upd (upd (upd fm (3 + 52 * rN ρ + 0) x1) (3 + 52 * rN ρ + 1) x2) (3 + 52 * rN ρ + 2) x3) (3 + 52 * rN ρ + 3) x4) 2 (nI (rN ρ + 1)))))[180]? = some (aI 315 (upd (upd (upd (upd (upd fm (3 + 52 * rN ρ + 0) x1) (3 + 52 * rN ρ + 1) x2) (3 + 52 * rN ρ + 2) x3) (3 + 52 * rN ρ + 3) x4) 2 (nI (rN ρ + 1)))) := set_at (set_at kd8)
    have hrw : rRow (rvA ρ x1 x2 x3 x4) (upd (upd (upd (upd (upd fm (3 + 52 * rN ρ + 0) x1) (3 + 52 * rN ρ + 1) x2) (3 + 52 * rN ρ + 2) x3) (3 + 52 * rN ρ + 3) x4) 2 (nI (rN ρ + 1))) := rRow_A hm.1 (fun i hi => hm.2 _ (by omega) (by omega)) (fun _ _ => rfl)
    have hF9 := hF58.tr (s180 (c := aI 315 (upd (upd (upd (upd (upd fm (3 + 52 * rN ρ + 0) x1) (3 + 52 * rN ρ + 1) x2) (3 + 52 * rN ρ + 2) x3) (3 + 52 * rN ρ + 3) x4) 2 (nI (rN ρ + 1)))))
    refine P_aload_n dX10_readsReach_157 rfl ?_
    refine P_aload_n dX10_readsReach_158 rfl ?_
    refine P_get dX10_readsReach_159 flX10_61 k9.1 rfl ?_
    refine P_callVp dX10_readsReach_162 lkX10_230 okX10_partsOf ⟨Nat.le_of_ble_eq_true rfl, Nat.le_of_ble_eq_true rfl⟩ (m_partsOf l kd9 hrw (show rN (rvA ρ x1 x2 x3 x4) ≤ 6 from h6)) rfl rfl k9.1 (Nat.le_of_ble_eq_true rfl) ⟨Nat.le_of_ble_eq_true rfl, Nat.le_of_ble_eq_true rfl⟩ ?_
    rw [show pSum (rvA ρ x1 x2 x3 x4) (rN (rvA ρ x1 x2 x3 x4)) = pSum ρ (rN ρ) + x4 from pSum_A]
    refine P_bipush dX10_readsReach_165 bp_8 ?_
    refine P_icmp_le (tgt := 183) dX10_readsReach_167 (by decide) (fun c167 => ?_) (fun c167 => ?_)
    · have hQ : rcQ n9 tx p ρ = .inr (v9, q9) := by unfold rcQ prS; rw [hN9]; exact if_neg (hpl.mp c167)
      have hR : clR n9 tx p ρ tt td = match clS n9 tx (.inr q9) with
          | .inl e => .inl e
          | .inr q => .inr (q, rvA ρ x1 x2 x3 x4, tt, td) := by
        unfold clR
        rw [if_neg (fun z => z h6), hQ]
        rw [show v2 (rcB n9 tx p ρ) = x1 from hb9.symm, show v3 (rcK n9 tx p ρ) = x2 from hk9.symm, show v3 (rcX n9 tx p ρ) = x3 from hx9.symm, show v2 (.inr (v9, q9) : (Nat × Nat) ⊕ (Int32 × Nat)) = x4 from hx4a.symm]
        rfl
      exact P_vret dX10_readsReach_183 rfl ⟨Nat.le_refl _, Nat.le_refl _⟩ ⟨rfl, ⟨o8, _, .inr q9, k9.1, kd9, hS5.tr hU58.1, hs8, by
      unfold pR
      rw [hR]
      cases hc : clS n9 tx (.inr q9) with
      | inl e => rfl
      | inr q => exact ⟨_, _, _, rfl, ⟨hrw, fun j h1 h2 => by
          have h1 : 3 + 52 * (rN ρ + 1) ≤ j := h1
          rw [upd_n (by omega), upd_n (by omega), upd_n (by omega), upd_n (by omega), upd_n (by omega)]; exact hm.2 j (by omega) h2⟩, hU58.2.1.trans eT, hU58.2.2.1.trans eZ, hU58.2.2.2.trans (eO5.trans (by rw [decide_eq_true (show 0 < rN (rvA ρ x1 x2 x3 x4) from Nat.succ_pos _)]; rfl))⟩⟩, hF9⟩
    · have hR : clR n9 tx p ρ tt td = .inl (4, s9) := by
        have hQ : rcQ n9 tx p ρ = .inl (4, s9) := by unfold rcQ prS; rw [hN9]; exact if_pos (Classical.not_not.mp fun z => c167 (hpl.mpr z))
        unfold clR
        rw [if_neg (fun z => z h6), hQ]
        rfl
      refine P_aload_n dX10_readsReach_170 rfl ?_
      refine P_aload_n dX10_readsReach_171 rfl ?_
      refine P_get dX10_readsReach_172 flX10_214 k9.1 rfl ?_
      refine P_putI dX10_readsReach_175 flX10_197 k9.1 (Nat.le_of_ble_eq_true rfl) ?_
      have kA := set_at (c' := oM (oRd o8 (nI s9) (mW o8) (mT o8) (mZ o8) (mO o8) (nI s9))) k9.1
      rw [show mB o8 = nI s9 from hx4b]
      refine P_aload_n dX10_readsReach_178 rfl ?_
      refine P_iconst dX10_readsReach_179 ci_4 ?_
      refine P_callV dX10_readsReach_180 lkX10_210 okX10_fails ⟨Nat.le_of_ble_eq_true rfl, Nat.le_of_ble_eq_true rfl⟩ (m_fails l kA) rfl rfl kA (Nat.le_of_ble_eq_true rfl) ⟨Nat.le_of_ble_eq_true rfl, Nat.le_of_ble_eq_true rfl⟩ (fun v180 G180 q180 => ?_)
      obtain ⟨rfl, rfl⟩ := q180
      exact P_vret dX10_readsReach_183 rfl ⟨Nat.le_refl _, Nat.le_refl _⟩ ⟨rfl, ⟨_, _, .inl (4, s9), set_at kA, set_ne (set_ne kd9 (by decide)) (by decide), hS5.tr hU58.1, ⟨if_pos c144, (show 1 ≤ 4 by decide), Nat.le_refl 4, rfl⟩, hR⟩, hF9.tr (((Fr.set (by omega) (by omega)).l2).tr ((Fr.set (by omega) (by omega)).l2))⟩
