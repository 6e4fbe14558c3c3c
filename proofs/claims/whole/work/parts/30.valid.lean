/-! a river that is read holds what every river holds -/
theorem sOk_T {ρ : Riv} (h : sOk ρ) {t : Nat} (h1 : 2 ≤ t) (h2 : t ≤ 24) : sOk (rvT ρ t) := ⟨⟨h1, h2, h.1.2.2.1, h.1.2.2.2.1, h.1.2.2.2.2⟩, h.2⟩
theorem sOk_D {ρ : Riv} (h : sOk ρ) {t : Nat} (h1 : 1 ≤ t) (h2 : t ≤ 9) : sOk (rvD ρ t) := ⟨⟨h.1.1, h.1.2.1, h1, h2, h.1.2.2.2.2⟩, h.2⟩
theorem sOk_N {ρ : Riv} (h : sOk ρ) {n : Nat} (hn : n ≤ rN ρ) : sOk (rvN ρ n) := ⟨⟨h.1.1, h.1.2.1, h.1.2.2.1, h.1.2.2.2.1, Nat.le_trans hn h.1.2.2.2.2⟩, rVal_N h.2 hn⟩
theorem sOk_W {ρ : Riv} (h : sOk ρ) (r : Nat) {k x : Nat} (hk : k ≤ 20) (hx : x ≤ 10) : sOk (rvW ρ r (nI k) (nI x)) := ⟨h.1, rVal_W h.2 r hk hx⟩
theorem sOk_S {ρ : Riv} (h : sOk ρ) (r t : Nat) {v : Nat} (hv : v ≤ 9999) : sOk (rvS ρ r t (nI v)) := ⟨h.1, rVal_S h.2 r t hv⟩
theorem sOk_E {ρ : Riv} (h : sOk ρ) (r t : Nat) {v : Nat} (hv : v ≤ 9999) : sOk (rvE ρ r t (nI v)) := ⟨h.1, rVal_E h.2 r t hv⟩
theorem sOk_A {ρ : Riv} (h : sOk ρ) {b : Int32} {k x q : Nat} (h6 : rN ρ < 6) (hb : b = -1 ∨ ∃ j, j < rN ρ ∧ b = nI j) (hk : k ≤ 20) (hx : x ≤ 10) (hq1 : 1 ≤ q) (hq : q ≤ 4) : sOk (rvA ρ b (nI k) (nI x) (nI q)) := ⟨⟨h.1.1, h.1.2.1, h.1.2.2.1, h.1.2.2.2.1, h6⟩, rVal_A h.2 hb hk hx hq1 hq⟩
theorem num_v3 {n : Nat} {tx : Nat → Int32} {a b p q : Nat} (ha : a < 2 ^ 31) (hb : b < 2 ^ 31) (h : st3 (num n tx (nI a) (nI b) p) = .inr q) : ∃ j, a ≤ j ∧ j ≤ b ∧ v3 (num n tx (nI a) (nI b) p) = nI j := by
  obtain ⟨s, e⟩ := st3_r h
  obtain ⟨j, h1, h2, e2⟩ := num_nat ha hb e
  exact ⟨j, h1, h2, e2⟩
theorem sdS_ok {n : Nat} {tx : Nat → Int32} {r : Nat} : ∀ (f t : Nat) (σ : PS) (ρ : Riv), sOk ρ → sOk (sdS n tx r f t σ ρ).2
  | 0, _, _, _, h => h
  | _ + 1, _, .inl _, _, h => h
  | f + 1, t, .inr p, ρ, h => by
    simp only [sdS]
    split
    · exact h
    · split
      · exact h
      · split
        · exact h
        · rename_i v s q e
          obtain ⟨j, h1, h2, e2⟩ := num_nat (a := 0) (b := 9999) (by decide) (by decide) e
          exact sdS_ok f (t + 1) (.inr q) _ (by rw [show v = nI j from e2]; exact sOk_S h r t h2)
theorem cla_ok {n : Nat} {tx : Nat → Int32} {p : Nat} {ρ : Riv} {tt td : Bool} {c : CS} (h : sOk ρ) (hc : cla n tx p ρ tt td = .inr c) : sOk c.2.1 := by
  unfold cla at hc
  split at hc
  · unfold clT at hc
    split at hc
    · cases hc
    · cases e : clS n tx (st3 (num n tx 2 24 (p + 1))) with
      | inl e1 => rw [e] at hc; cases hc
      | inr q =>
        rw [e] at hc; cases hc
        obtain ⟨p', e1, -⟩ := clS_r e
        obtain ⟨j, h1, h2, e2⟩ := num_v3 (a := 2) (b := 24) (by decide) (by decide) e1
        show sOk (rvT ρ (v3 (num n tx 2 24 (p + 1))).toNatClampNeg)
        rw [show v3 (num n tx 2 24 (p + 1)) = nI j from e2, nI_clamp (by omega)]
        exact sOk_T h h1 h2
  · split at hc
    · unfold clD at hc
      split at hc
      · cases hc
      · cases e : clS n tx (st3 (num n tx 1 9 (p + 1))) with
        | inl e1 => rw [e] at hc; cases hc
        | inr q =>
          rw [e] at hc; cases hc
          obtain ⟨p', e1, -⟩ := clS_r e
          obtain ⟨j, h1, h2, e2⟩ := num_v3 (a := 1) (b := 9) (by decide) (by decide) e1
          show sOk (rvD ρ (v3 (num n tx 1 9 (p + 1))).toNatClampNeg)
          rw [show v3 (num n tx 1 9 (p + 1)) = nI j from e2, nI_clamp (by omega)]
          exact sOk_D h h1 h2
    · split at hc
      · unfold clR at hc
        split at hc
        · cases hc
        · rename_i h6
          have h6 : rN ρ < 6 := Classical.not_not.mp h6
          cases e : clS n tx (st2 (rcQ n tx p ρ)) with
          | inl e1 => rw [e] at hc; cases hc
          | inr q =>
            rw [e] at hc; cases hc
            obtain ⟨p1, e1, -⟩ := clS_r e
            obtain ⟨s, e2, -⟩ := prS_r (st2_r e1)
            obtain ⟨p2, e3, e4⟩ := numS_r e2
            obtain ⟨q9, q1, q2, e5⟩ := num_nat (a := 1) (b := 4) (by decide) (by decide) e4
            obtain ⟨s2, e6⟩ := st3_r e3
            obtain ⟨p3, e7, e8⟩ := numS_r e6
            obtain ⟨x9, -, x2, e9⟩ := num_nat (a := 0) (b := 10) (by decide) (by decide) e8
            obtain ⟨s3, f1⟩ := st3_r e7
            obtain ⟨p4, f2, f3⟩ := numS_r f1
            obtain ⟨k9, -, k2, f4⟩ := num_nat (a := 0) (b := 20) (by decide) (by decide) f3
            have f5 := st2_r f2
            have hb : v2 (rcB n tx p ρ) = -1 ∨ ∃ j, j < rN ρ ∧ v2 (rcB n tx p ρ) = nI j := by
              have f6 : rcB n tx p ρ = if lt0 n tx (skp n tx (p + 1)) = 45 then .inr (-1, skp n tx (p + 1) + 1) else match num n tx 0 (nI (rN ρ) - 1) (p + 1) with
                | .inl e => .inl e
                | .inr (v, _, q) => .inr (v, q) := rfl
              by_cases g : lt0 n tx (skp n tx (p + 1)) = 45
              · rw [if_pos g] at f6; rw [f6]; exact Or.inl rfl
              · rw [if_neg g] at f6
                cases g2 : num n tx 0 (nI (rN ρ) - 1) (p + 1) with
                | inl e1 => rw [g2] at f6; rw [f6] at f5; cases f5
                | inr e1 =>
                  obtain ⟨v, s9, q9⟩ := e1
                  rw [g2] at f6
                  obtain ⟨j, hj, e10⟩ := sd_r h.1.2.2.2.2 g2
                  rw [f6]
                  exact Or.inr ⟨j, hj, e10⟩
            show sOk (rvA ρ (v2 (rcB n tx p ρ)) (v3 (rcK n tx p ρ)) (v3 (rcX n tx p ρ)) (v2 (rcQ n tx p ρ)))
            rw [show v3 (rcK n tx p ρ) = nI k9 from f4, show v3 (rcX n tx p ρ) = nI x9 from e9, show v2 (rcQ n tx p ρ) = nI q9 from e5]
            exact sOk_A h h6 hb k2 x2 q1 q2
      · split at hc
        · unfold clX at hc
          have hz : sOk (sdR n tx p ρ).2 := by
            unfold sdR
            split
            · exact h
            · exact sdS_ok _ _ _ _ h
          cases e : clS n tx (sdR n tx p ρ).1 with
          | inl e1 => rw [e] at hc; cases hc
          | inr q => rw [e] at hc; cases hc; exact hz
        · cases hc
theorem prs_ok {n : Nat} {tx : Nat → Int32} : ∀ (f : Nat) (c : CS) (ρ : Riv), sOk c.2.1 → prs n tx f c = .inr ρ → sOk ρ
  | 0, c, ρ, h, e => by cases e; exact h
  | f + 1, c, ρ, h, e => by
    simp only [prs] at e
    split at e
    · cases e; exact h
    · cases e1 : cla n tx (skp n tx c.1) c.2.1 c.2.2.1 c.2.2.2 with
      | inl e2 => rw [e1] at e; cases e
      | inr c' => rw [e1] at e; exact prs_ok f c' ρ (cla_ok h e1) e
theorem sOk_Z : sOk rZ := ⟨⟨by decide, by decide, by decide, by decide, by decide⟩, fun r hr => absurd hr (Nat.not_lt_zero _)⟩
/-! every call keeps it -/
theorem sVal_T {σ : Sg} (hv : sVal σ) {n : Nat} {tx : Nat → Int32} {f : Int32} (hn : n ≤ 200) : sVal (sgT σ n tx f) := ⟨hv.1, hn, hv.2.2⟩
theorem vFeed {σ : Sg} (hv : sVal σ) (c : Int32) : sVal (spFeed σ c).2 := by
  unfold spFeed
  split
  · exact hv
  · split
    · rename_i h; exact sVal_T hv h
    · exact hv
theorem vRiver {σ : Sg} (hv : sVal σ) : sVal (spRiver σ).2 := by
  unfold spRiver
  split
  · exact sVal_T hv (Nat.zero_le _)
  · rename_i ρ e
    exact sVal_T (sVal_deed hv (prs_ok _ _ _ (by exact sOk_Z) e)) (Nat.zero_le _)
theorem vTimes {σ : Sg} (hv : sVal σ) (t : Int32) : sVal (spTimes σ t).2 := by
  unfold spTimes
  split
  · exact hv
  · rename_i e
    obtain ⟨j, h1, h2, rfl⟩ := ob_nat (a := 2) (b := 24) (by omega) (by omega) e
    exact sVal_deed hv (sOk_T hv.1 (by rw [nI_clamp (by omega)]; exact h1) (by rw [nI_clamp (by omega)]; exact h2))
theorem vStep {σ : Sg} (hv : sVal σ) (t : Int32) : sVal (spStep σ t).2 := by
  unfold spStep
  split
  · exact hv
  · rename_i e
    obtain ⟨j, h1, h2, rfl⟩ := ob_nat (a := 1) (b := 9) (by omega) (by omega) e
    exact sVal_deed hv (sOk_D hv.1 (by rw [nI_clamp (by omega)]; exact h1) (by rw [nI_clamp (by omega)]; exact h2))
theorem vReach {σ : Sg} (hv : sVal σ) (b k x q : Int32) : sVal (spReach σ b k x q).2 := by
  have hN : rN (gR σ) ≤ 6 := hv.1.1.2.2.2.2
  unfold spReach
  split
  · exact hv
  · rename_i h1
    split
    · exact hv
    · rename_i h2
      split
      · exact hv
      · rename_i h3
        obtain ⟨k9, -, k2, rfl⟩ := ob_nat (a := 0) (b := 20) (by omega) (by omega) (fun z => h2 (Or.inl z))
        obtain ⟨x9, -, x2, rfl⟩ := ob_nat (a := 0) (b := 10) (by omega) (by omega) (fun z => h2 (Or.inr (Or.inl z)))
        obtain ⟨q9, q1, q2, rfl⟩ := ob_nat (a := 1) (b := 4) (by omega) (by omega) (fun z => h2 (Or.inr (Or.inr z)))
        refine sVal_deed hv (sOk_A hv.1 (Classical.not_not.mp fun z => h3 (Or.inl z)) ?_ k2 x2 q1 q2)
        by_cases e : b = -1
        · exact Or.inl e
        · exact Or.inr (inN_of (Classical.not_not.mp fun z => h1 ⟨e, z⟩) (by omega))
theorem vChange {σ : Sg} (hv : sVal σ) (r k x : Int32) : sVal (spChange σ r k x).2 := by
  unfold spChange
  split
  · split
    · exact hv
    · rename_i h2
      obtain ⟨k9, -, k2, rfl⟩ := ob_nat (a := 0) (b := 20) (by omega) (by omega) (fun z => h2 (Or.inl z))
      obtain ⟨x9, -, x2, rfl⟩ := ob_nat (a := 0) (b := 10) (by omega) (by omega) (fun z => h2 (Or.inr z))
      exact sVal_deed hv (sOk_W hv.1 _ k2 x2)
  · exact hv
theorem vSide {σ : Sg} (hv : sVal σ) (r t v : Int32) : sVal (spSide σ r t v).2 := by
  unfold spSide
  split
  · split
    · exact hv
    · rename_i h2
      obtain ⟨k9, -, k2, rfl⟩ := ob_nat (a := 0) (b := 9999) (by omega) (by omega) h2
      exact sVal_deed hv (sOk_S hv.1 _ _ k2)
  · exact hv
theorem vSeen {σ : Sg} (hv : sVal σ) (r t v : Int32) : sVal (spSeen σ r t v).2 := by
  unfold spSeen
  split
  · split
    · exact hv
    · rename_i h2
      obtain ⟨k9, -, k2, rfl⟩ := ob_nat (a := 0) (b := 9999) (by omega) (by omega) h2
      exact sVal_deed hv (sOk_E hv.1 _ _ k2)
  · exact hv
theorem vShow {σ : Sg} (hv : sVal σ) (r : Int32) : sVal (spShow σ r).2 := by
  unfold spShow
  split
  · exact sVal_deed hv (sOk_shR hv.1 _ _)
  · exact hv
theorem vTake {σ : Sg} (hv : sVal σ) : sVal (spTake σ).2 := by
  unfold spTake
  split
  · exact hv
  · exact sVal_deed hv (sOk_N hv.1 (Nat.sub_le _ _))
theorem vDrift {σ : Sg} (hv : sVal σ) (n : Int32) : sVal (spDrift σ n).2 := by
  unfold spDrift
  split
  · exact hv
  · exact sVal_drN hv _
theorem vUndo {σ : Sg} (hv : sVal σ) (n : Int32) : sVal (spUndo σ n).2 := by
  unfold spUndo
  split
  · exact hv
  · rename_i e
    split
    · exact hv
    · rename_i e2
      obtain ⟨j, h1, h2, rfl⟩ := ob_nat (a := 1) (b := 16) (by omega) (by omega) e
      rw [nI_clamp (by omega)] at *
      obtain ⟨g1, g2, g3, g4, g5, g6, g7⟩ := hv
      exact ⟨g5 _ (by omega), g2, g3, Nat.le_trans (Nat.sub_le _ _) g4, fun i hi => g5 _ (by have hi : i < gP σ - j := hi; omega), g6, g7⟩
theorem vWrite {σ : Sg} (hv : sVal σ) (r t : Int32) (v : Int64) : sVal (spWrite σ r t v).2 := by
  unfold spWrite
  split
  · split
    · rename_i h; exact ⟨hv.1, hv.2.1, h, hv.2.2.2⟩
    · exact hv
  · exact hv
theorem vTear {σ : Sg} (hv : sVal σ) : sVal (spTear σ).2 := ⟨hv.1, hv.2.1, Nat.zero_le _, hv.2.2.2⟩
theorem vSeed {σ : Sg} (hv : sVal σ) (v : Int32) : sVal (spSeed σ v).2 := by
  unfold spSeed
  split
  · exact hv
  · rename_i e
    obtain ⟨j, hj, rfl⟩ := nI_of e
    rw [nI_clamp hj]
    exact sVal_seed hv hj
theorem vKeep {σ : Sg} (hv : sVal σ) (i : Int32) : sVal (spKeep σ i).2 := by
  unfold spKeep
  split
  · exact hv
  · obtain ⟨g1, g2, g3, g4, g5, g6, g7⟩ := hv
    refine ⟨g1, g2, g3, Nat.zero_le _, fun j hj => absurd hj (Nat.not_lt_zero _), g6, fun j q hq => ?_⟩
    have hq : (if j = i.toNatClampNeg then some (gR σ, gS σ) else gI σ j) = some q := hq
    split at hq
    · cases hq; exact ⟨g1, g6⟩
    · exact g7 j q hq
theorem vBack {σ : Sg} (hv : sVal σ) (i : Int32) : sVal (spBack σ i).2 := by
  unfold spBack
  split
  · exact hv
  · split
    · exact hv
    · rename_i q hq
      obtain ⟨g1, g2, g3, g4, g5, g6, g7⟩ := hv
      exact ⟨(g7 _ q hq).1, g2, g3, Nat.zero_le _, fun j hj => absurd hj (Nat.not_lt_zero _), (g7 _ q hq).2, g7⟩
