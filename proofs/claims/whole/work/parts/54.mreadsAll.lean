def aR (n : Nat) (R : (Nat × Nat) ⊕ Riv) (o : MV) (f : Nat → Int32) : Prop := match R with
  | .inl e => pS o n (.inl e)
  | .inr ρ => mW o = 0 ∧ mdV ρ f
theorem mdV_Z {f : Nat → Int32} (h0 : f 0 = 12) (h1 : f 1 = 1) (h2 : ∀ j, 2 ≤ j → j < 315 → f j = 0) : mdV rZ f := ⟨⟨h0, h1, h2 2 (by decide) (by decide), fun r hr => absurd hr (Nat.not_lt_zero _)⟩, fun j h3 h4 => h2 j (by have h3 : 3 + 52 * 0 ≤ j := h3; omega) h4⟩
theorem lp_all0 (l : Launch) {G0 G : PH} {o o' : MV} {fx f' : Nat → Int32} {n9 : Nat} {tx : Nat → Int32} {F : (Nat × Nat) ⊕ Riv} {e : Nat × Nat} (k : mpr G o' fx n9 tx) (kd : G[180]? = some (aI 315 f')) (hs : pS o' n9 (.inl e)) (hE : F = .inl e) (hS : oS o o') (hF : Fr2 G0 G 164 1 180 1) : WP mX10_readsAll l (rmM mX10_readsAll 0 0) (ZM 0 0 (fun w G' => w = none ∧ (∃ o' f', G'[164]? = some (oM o') ∧ G'[180]? = some (aI 315 f') ∧ oS o o' ∧ aR n9 F o' f') ∧ Fr2 G0 G' 164 1 180 1)) XT 0 0 62 [some (.ref 164), none] [] G := by
  refine P_aload_n dX10_readsAll_62 rfl ?_
  refine P_get dX10_readsAll_63 flX10_200 k.1 rfl ?_
  refine P_if_ne (tgt := 84) dX10_readsAll_66 (by decide) (fun c66 => ?_) (fun c66 => ?_)
  · exact P_vret dX10_readsAll_84 rfl ⟨Nat.le_refl _, Nat.le_refl _⟩ ⟨rfl, ⟨o', f', k.1, kd, hS, by rw [hE]; exact hs⟩, hF⟩
  · exact absurd (hs.1.symm.trans c66) (nI_ne0 (by have := hs.2.1; omega) (by have := hs.2.2.1; omega))
set_option maxHeartbeats 4000000 in
set_option maxRecDepth 100000 in
theorem lp_all (l : Launch) {G0 : PH} {o : MV} {fx : Nat → Int32} {n9 : Nat} {tx : Nat → Int32} {F : (Nat × Nat) ⊕ Riv} (htx : ∀ i, i < n9 → ¬ tx i = -1) (h200 : n9 ≤ 200) : ∀ (n : Nat) (G : PH) (i : Nat) (c : CS) (f' : Nat → Int32) (o' : MV), 201 - i < n → i ≤ c.1 → mpr G o' fx n9 tx → G[180]? = some (aI 315 f') → pS o' n9 (.inr c.1) → mdV c.2.1 f' → mT o' = b2 c.2.2.1 → mZ o' = b2 c.2.2.2 → mO o' = b2 (decide (0 < rN c.2.1)) → sOk c.2.1 → prs n9 tx (201 - i) c = F → oS o o' → Fr2 G0 G 164 1 180 1 → WP mX10_readsAll l (rmM mX10_readsAll 0 0) (ZM 0 0 (fun w G' => w = none ∧ (∃ o' f', G'[164]? = some (oM o') ∧ G'[180]? = some (aI 315 f') ∧ oS o o' ∧ aR n9 F o' f') ∧ Fr2 G0 G' 164 1 180 1)) XT 0 0 62 [some (.ref 164), none] [] G := by
  intro n
  induction n with
  | zero => intro G  i  c  f'  o' hn hi k kd hs hm eT eZ eO hok hE hS hF; exact absurd hn (Nat.not_lt_zero _)
  | succ n ih =>
    intro G  i  c  f'  o' hn hi k kd hs hm eT eZ eO hok hE hS hF
    have hp := hs.2.2
    obtain ⟨g, hg⟩ : ∃ g, 201 - i = g + 1 := ⟨200 - i, by omega⟩
    refine P_aload_n dX10_readsAll_62 rfl ?_
    refine P_get dX10_readsAll_63 flX10_200 k.1 rfl ?_
    refine P_if_ne (tgt := 84) dX10_readsAll_66 (by decide) (fun c66 => ?_) (fun c66 => ?_)
    · exact absurd hs.1 c66
    · refine P_aload_n dX10_readsAll_69 rfl ?_
      refine P_callV dX10_readsAll_70 lkX10_203 okX10_next ⟨Nat.le_of_ble_eq_true rfl, Nat.le_of_ble_eq_true rfl⟩ (m_next l k hs.2.1 hs.2.2) rfl rfl k.1 (Nat.le_of_ble_eq_true rfl) ⟨Nat.le_of_ble_eq_true rfl, Nat.le_of_ble_eq_true rfl⟩ (fun v70 G70 q70 => ?_)
      obtain ⟨rfl, ko3, hF3⟩ := q70
      have k3 := k.fr hF3 ko3 rfl
      have kd3 := hF3.at kd (by decide)
      refine P_iconst dX10_readsAll_73 ci_m1 ?_
      refine P_icmp_eq (tgt := 84) dX10_readsAll_74 (by decide) (fun c74 => ?_) (fun c74 => ?_)
      · have hge : n9 ≤ skp n9 tx c.1 := Nat.not_lt.mp fun z => by rw [show lt0 n9 tx (skp n9 tx c.1) = tx (skp n9 tx c.1) from if_pos z] at c74; exact htx _ z c74
        have hEE : F = .inr c.2.1 := by rw [← hE, hg]; simp only [prs]; rw [if_pos hge]
        exact P_vret dX10_readsAll_84 rfl ⟨Nat.le_refl _, Nat.le_refl _⟩ ⟨rfl, ⟨_, f', ko3, kd3, hS.tr ⟨rfl, rfl, rfl, rfl, rfl⟩, by rw [hEE]; exact ⟨hs.1, hm⟩⟩, hF.tr (f180 hF3)⟩
      · have hlt : skp n9 tx c.1 < n9 := Classical.byContradiction fun z => c74 (if_neg z)
        refine P_aload_n dX10_readsAll_77 rfl ?_
        refine P_callV dX10_readsAll_78 lkX10_249 okX10_readsClause ⟨Nat.le_of_ble_eq_true rfl, Nat.le_of_ble_eq_true rfl⟩ (m_readsClause (p := skp n9 tx c.1) l k3 kd3 ⟨hs.1, rfl, skp_ub tx hp⟩ hlt hm eT eZ eO hok (skp_id _ _ _) htx) rfl rfl k3.1 (Nat.le_of_ble_eq_true rfl) ⟨Nat.le_of_ble_eq_true rfl, Nat.le_of_ble_eq_true rfl⟩ (fun v78 G78 q78 => ?_)
        obtain ⟨rfl, ⟨o5, f5, h1, h2, h3, h4⟩, hF5⟩ := q78
        have k5 := k3.fr2 hF5 h1 h3.2.2.2.1
        have hS5 : oS o o5 := hS.tr ⟨h3.1, h3.2.1, h3.2.2.1, h3.2.2.2.1, h3.2.2.2.2⟩
        have hF9 := hF.tr ((f180 hF3).tr hF5)
        refine P_goto (tgt := 62) dX10_readsAll_81 (by decide) ?_
        cases hcl : cla n9 tx (skp n9 tx c.1) c.2.1 c.2.2.1 c.2.2.2 with
        | inl e =>
          rw [hcl] at h4
          exact lp_all0 l k5 h2 h4 (by rw [← hE, hg]; simp only [prs]; rw [if_neg (by omega), hcl]) hS5 hF9
        | inr c5 =>
          rw [hcl] at h4
          obtain ⟨a1, a2, a3, a4, a5⟩ := h4
          have hv := cla_v hcl
          have hsv := skp_v n9 tx c.1
          exact ih G78 (i + 1) c5 f5 o5 (by omega) (by omega) k5 h2 a1 a2 a3 a4 a5 (cla_ok hok hcl) (by rw [← hE, hg, show 201 - (i + 1) = g by omega]; simp only [prs]; rw [if_neg (by omega), hcl]) hS5 hF9
