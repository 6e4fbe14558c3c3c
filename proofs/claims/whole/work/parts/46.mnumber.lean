set_option maxHeartbeats 4000000 in
set_option maxRecDepth 100000 in
theorem lp_mnum (l : Launch) {G0 G : PH} {o o1 : MV} {fx : Nat → Int32} {n9 p : Nat} {tx : Nat → Int32} {a b : Int32} (k1 : mpr G o1 fx n9 tx) (hA : mA o1 = nI (skp n9 tx p)) (hw0 : mW o1 = 0) (hU : oU o o1) (hp : p ≤ n9) (hf0 : figP (lt0 n9 tx (skp n9 tx p))) (hF : Fr G0 G 164 1) : ∀ (n : Nat) (i : Nat), 6 - i < n → i ≤ 5 → (∀ j, j < i → figP (lt0 n9 tx (skp n9 tx p + j))) → WP mX10_number l (rmM mX10_number 0 0) (ZM 0 0 (fun w G' => (∃ o', G'[164]? = some (oM o') ∧ pS o' n9 (st3 (num n9 tx a b p)) ∧ oU o o' ∧ ∃ x, w = some (.int x) ∧ ∀ v s q, num n9 tx a b p = .inr (v, s, q) → x = v ∧ mB o' = nI s) ∧ Fr G0 G' 164 1)) XT 0 0 29 [some (.ref 164), some (.int a), some (.int b), some (.int (nI i)), some (.int (vlF tx (skp n9 tx p) i))] [] G := by
  intro n
  induction n with
  | zero => intro i hn hi hfg; exact absurd hn (Nat.not_lt_zero _)
  | succ n ih =>
    intro i hn hi hfg
    obtain ⟨ko, kx, hx, hl, h200⟩ := id k1
    have hq := skp_ub tx hp
    have hqi : skp n9 tx p + i ≤ n9 := by
      cases i with
      | zero => exact hq
      | succ i => have := fig_lt (hfg i (by omega)); omega
    refine P_aload_n dX10_number_29 rfl ?_
    refine P_get dX10_number_30 flX10_197 ko rfl ?_
    refine P_iload_n dX10_number_33 rfl ?_
    refine P_iadd dX10_number_34 ?_
    rw [hA, nI_add]
    refine P_aload_n dX10_number_35 rfl ?_
    refine P_get dX10_number_36 flX10_193 ko rfl ?_
    rw [hl]
    refine P_icmp_ge (tgt := 92) dX10_number_39 (by decide) (fun c39 => ?_) (fun c39 => ?_)
    · have hc : cnt n9 tx 5 (skp n9 tx p) = i := cnt_eq 5 _ i hfg (by
        by_cases e : i = 5
        · exact Or.inl e
        · refine Or.inr ⟨by omega, fun z => ?_⟩
          have := fig_lt z
          exact nI_ge this (by omega) c39)
      refine P_iload_n dX10_number_92 rfl ?_
      refine P_iconst dX10_number_93 ci_5 ?_
      refine P_icmp_ne (tgt := 114) dX10_number_94 (by decide) (fun c94 => ?_) (fun c94 => ?_)
      · have hi5 : ¬ i = 5 := fun z => c94 (by rw [z]; rfl)
        have hi0 : ¬ i = 0 := fun z => by rw [← hc] at z; rw [show cnt n9 tx 5 (skp n9 tx p) = cnt n9 tx 4 (skp n9 tx p + 1) + 1 from if_pos hf0] at z; omega
        refine P_iload dX10_number_114 rfl ?_
        refine P_iload_n dX10_number_116 rfl ?_
        refine P_iload_n dX10_number_117 rfl ?_
        refine P_callSp dX10_number_118 lkX10_68 okX10_in ⟨Nat.le_of_ble_eq_true rfl, Nat.le_of_ble_eq_true rfl⟩ (m_in l) rfl rfl (Nat.le_of_ble_eq_true rfl) ⟨Nat.le_of_ble_eq_true rfl, Nat.le_of_ble_eq_true rfl⟩ ?_
        refine P_if_ne (tgt := 131) dX10_number_121 (by decide) (fun c121 => ?_) (fun c121 => ?_)
        · have hnum : num n9 tx a b p = .inr (vlF tx (skp n9 tx p) i, skp n9 tx p, skp n9 tx p + i) := by unfold num; rw [hc, if_neg hi0, if_neg hi5, if_neg (b2w c121)]
          refine P_aload_n dX10_number_131 rfl ?_
          refine P_aload_n dX10_number_132 rfl ?_
          refine P_get dX10_number_133 flX10_197 ko rfl ?_
          rw [hA]
          refine P_putI dX10_number_136 flX10_214 ko (Nat.le_of_ble_eq_true rfl) ?_
          refine P_aload_n dX10_number_139 rfl ?_
          refine P_dup dX10_number_140 rfl ?_
          refine P_get dX10_number_141 flX10_197 (show (G.set 164 (oM (oRd o1 (mA o1) (mW o1) (mT o1) (mZ o1) (mO o1) (nI (skp n9 tx p)))))[164]? = some (oM (oRd o1 (mA o1) (mW o1) (mT o1) (mZ o1) (mO o1) (nI (skp n9 tx p)))) from set_at ko) rfl ?_
          refine P_iload_n dX10_number_144 rfl ?_
          refine P_iadd dX10_number_145 ?_
          rw [show mA (oRd o1 (mA o1) (mW o1) (mT o1) (mZ o1) (mO o1) (nI (skp n9 tx p))) + nI i = nI (skp n9 tx p + i) from by rw [show mA (oRd o1 (mA o1) (mW o1) (mT o1) (mZ o1) (mO o1) (nI (skp n9 tx p))) = nI (skp n9 tx p) from hA, nI_add]]
          refine P_putI dX10_number_146 flX10_197 (show (G.set 164 (oM (oRd o1 (mA o1) (mW o1) (mT o1) (mZ o1) (mO o1) (nI (skp n9 tx p)))))[164]? = some (oM (oRd o1 (mA o1) (mW o1) (mT o1) (mZ o1) (mO o1) (nI (skp n9 tx p)))) from set_at ko) (Nat.le_of_ble_eq_true rfl) ?_
          refine P_iload dX10_number_149 rfl ?_
          exact P_iret dX10_number_151 rfl ⟨Nat.le_refl _, Nat.le_refl _⟩ ⟨⟨oRd o1 (nI (skp n9 tx p + i)) (mW o1) (mT o1) (mZ o1) (mO o1) (nI (skp n9 tx p)), set_at (set_at ko), by rw [hnum]; exact ⟨hw0, rfl, hqi⟩, hU, _, rfl, fun v s q e => by rw [hnum] at e; cases e; exact ⟨rfl, rfl⟩⟩, hF.tr ((Fr.set (by omega) (by omega)).tr (Fr.set (by omega) (by omega)))⟩
        · have hnum : num n9 tx a b p = .inl (2, skp n9 tx p) := by unfold num; rw [hc, if_neg hi0, if_neg hi5, if_pos (b2z c121)]
          refine P_aload_n dX10_number_124 rfl ?_
          refine P_iconst dX10_number_125 ci_2 ?_
          refine P_callV dX10_number_126 lkX10_210 okX10_fails ⟨Nat.le_of_ble_eq_true rfl, Nat.le_of_ble_eq_true rfl⟩ (m_fails l ko) rfl rfl ko (Nat.le_of_ble_eq_true rfl) ⟨Nat.le_of_ble_eq_true rfl, Nat.le_of_ble_eq_true rfl⟩ (fun v126 G126 q126 => ?_)
          obtain ⟨rfl, rfl⟩ := q126
          refine P_iconst dX10_number_129 ci_0 ?_
          exact P_iret dX10_number_130 rfl ⟨Nat.le_refl _, Nat.le_refl _⟩ ⟨⟨_, set_at ko, by rw [hnum]; exact ⟨if_pos hw0, (show 1 ≤ 2 by decide), (show 2 ≤ 4 by decide), hA⟩, hU, 0, rfl, fun v s q e => by rw [hnum] at e; cases e⟩, hF.tr (Fr.set (by omega) (by omega))⟩
      · have hi5 : i = 5 := (nI_eq (b := 5) (by omega) (by decide)).mp c94
        have hnum : num n9 tx a b p = .inl (2, skp n9 tx p + 4) := by unfold num; rw [hc, if_neg (by omega), if_pos hi5]
        refine P_aload_n dX10_number_97 rfl ?_
        refine P_dup dX10_number_98 rfl ?_
        refine P_get dX10_number_99 flX10_197 ko rfl ?_
        refine P_iconst dX10_number_102 ci_4 ?_
        refine P_iadd dX10_number_103 ?_
        rw [hA, show nI (skp n9 tx p) + 4 = nI (skp n9 tx p + 4) from nI_add _ 4]
        refine P_putI dX10_number_104 flX10_197 ko (Nat.le_of_ble_eq_true rfl) ?_
        obtain ⟨o2, eo2⟩ : ∃ o2 : MV, o2 = oRd o1 (nI (skp n9 tx p + 4)) (mW o1) (mT o1) (mZ o1) (mO o1) (mB o1) := ⟨_, rfl⟩
        have ho2 : (G.set 164 (oM o2))[164]? = some (oM o2) := set_at ko
        have hU2 : oU o o2 := by rw [eo2]; exact hU
        have hA2 : mA o2 = nI (skp n9 tx p + 4) := by rw [eo2]
        have hw2 : mW o2 = 0 := by rw [eo2]; exact hw0
        have hF2 := hF.tr (Fr.set (G := G) (a := 164) (n := 1) (i := 164) (c := oM o2) (by omega) (by omega))
        generalize hG2 : G.set 164 (oM o2) = G2 at ho2 hF2
        suffices hgo : WP mX10_number l (rmM mX10_number 0 0) (ZM 0 0 (fun w G' => (∃ o', G'[164]? = some (oM o') ∧ pS o' n9 (st3 (num n9 tx a b p)) ∧ oU o o' ∧ ∃ x, w = some (.int x) ∧ ∀ v s q, num n9 tx a b p = .inr (v, s, q) → x = v ∧ mB o' = nI s) ∧ Fr G0 G' 164 1)) XT 0 0 107 [some (.ref 164), some (.int a), some (.int b), some (.int (nI i)), some (.int (vlF tx (skp n9 tx p) i))] [] G2 by rw [← hG2, eo2] at hgo; exact hgo
        refine P_aload_n dX10_number_107 rfl ?_
        refine P_iconst dX10_number_108 ci_2 ?_
        refine P_callV dX10_number_109 lkX10_210 okX10_fails ⟨Nat.le_of_ble_eq_true rfl, Nat.le_of_ble_eq_true rfl⟩ (m_fails l ho2) rfl rfl ho2 (Nat.le_of_ble_eq_true rfl) ⟨Nat.le_of_ble_eq_true rfl, Nat.le_of_ble_eq_true rfl⟩ (fun v109 G109 q109 => ?_)
        obtain ⟨rfl, rfl⟩ := q109
        refine P_iconst dX10_number_112 ci_0 ?_
        exact P_iret dX10_number_113 rfl ⟨Nat.le_refl _, Nat.le_refl _⟩ ⟨⟨_, set_at ho2, by rw [hnum]; exact ⟨if_pos hw2, (show 1 ≤ 2 by decide), (show 2 ≤ 4 by decide), hA2⟩, hU2, 0, rfl, fun v s q e => by rw [hnum] at e; cases e⟩, hF2.tr (Fr.set (by omega) (by omega))⟩
    · have hlt : skp n9 tx p + i < n9 := Nat.not_le.mp fun z => c39 (nI_le z (by omega))
      refine P_iload_n dX10_number_42 rfl ?_
      refine P_iconst dX10_number_43 ci_5 ?_
      refine P_icmp_ge (tgt := 92) dX10_number_44 (by decide) (fun c44 => ?_) (fun c44 => ?_)
      · have hi5 : i = 5 := by have : ¬ i < 5 := fun z => nI_ge (b := 5) z (by decide) c44; omega
        have hc : cnt n9 tx 5 (skp n9 tx p) = i := cnt_eq 5 _ i hfg (Or.inl hi5)
        refine P_iload_n dX10_number_92 rfl ?_
        refine P_iconst dX10_number_93 ci_5 ?_
        refine P_icmp_ne (tgt := 114) dX10_number_94 (by decide) (fun c94 => ?_) (fun c94 => ?_)
        · have hi5 : ¬ i = 5 := fun z => c94 (by rw [z]; rfl)
          have hi0 : ¬ i = 0 := fun z => by rw [← hc] at z; rw [show cnt n9 tx 5 (skp n9 tx p) = cnt n9 tx 4 (skp n9 tx p + 1) + 1 from if_pos hf0] at z; omega
          refine P_iload dX10_number_114 rfl ?_
          refine P_iload_n dX10_number_116 rfl ?_
          refine P_iload_n dX10_number_117 rfl ?_
          refine P_callSp dX10_number_118 lkX10_68 okX10_in ⟨Nat.le_of_ble_eq_true rfl, Nat.le_of_ble_eq_true rfl⟩ (m_in l) rfl rfl (Nat.le_of_ble_eq_true rfl) ⟨Nat.le_of_ble_eq_true rfl, Nat.le_of_ble_eq_true rfl⟩ ?_
          refine P_if_ne (tgt := 131) dX10_number_121 (by decide) (fun c121 => ?_) (fun c121 => ?_)
          · have hnum : num n9 tx a b p = .inr (vlF tx (skp n9 tx p) i, skp n9 tx p, skp n9 tx p + i) := by unfold num; rw [hc, if_neg hi0, if_neg hi5, if_neg (b2w c121)]
            refine P_aload_n dX10_number_131 rfl ?_
            refine P_aload_n dX10_number_132 rfl ?_
            refine P_get dX10_number_133 flX10_197 ko rfl ?_
            rw [hA]
            refine P_putI dX10_number_136 flX10_214 ko (Nat.le_of_ble_eq_true rfl) ?_
            refine P_aload_n dX10_number_139 rfl ?_
            refine P_dup dX10_number_140 rfl ?_
            refine P_get dX10_number_141 flX10_197 (show (G.set 164 (oM (oRd o1 (mA o1) (mW o1) (mT o1) (mZ o1) (mO o1) (nI (skp n9 tx p)))))[164]? = some (oM (oRd o1 (mA o1) (mW o1) (mT o1) (mZ o1) (mO o1) (nI (skp n9 tx p)))) from set_at ko) rfl ?_
            refine P_iload_n dX10_number_144 rfl ?_
            refine P_iadd dX10_number_145 ?_
            rw [show mA (oRd o1 (mA o1) (mW o1) (mT o1) (mZ o1) (mO o1) (nI (skp n9 tx p))) + nI i = nI (skp n9 tx p + i) from by rw [show mA (oRd o1 (mA o1) (mW o1) (mT o1) (mZ o1) (mO o1) (nI (skp n9 tx p))) = nI (skp n9 tx p) from hA, nI_add]]
            refine P_putI dX10_number_146 flX10_197 (show (G.set 164 (oM (oRd o1 (mA o1) (mW o1) (mT o1) (mZ o1) (mO o1) (nI (skp n9 tx p)))))[164]? = some (oM (oRd o1 (mA o1) (mW o1) (mT o1) (mZ o1) (mO o1) (nI (skp n9 tx p)))) from set_at ko) (Nat.le_of_ble_eq_true rfl) ?_
            refine P_iload dX10_number_149 rfl ?_
            exact P_iret dX10_number_151 rfl ⟨Nat.le_refl _, Nat.le_refl _⟩ ⟨⟨oRd o1 (nI (skp n9 tx p + i)) (mW o1) (mT o1) (mZ o1) (mO o1) (nI (skp n9 tx p)), set_at (set_at ko), by rw [hnum]; exact ⟨hw0, rfl, hqi⟩, hU, _, rfl, fun v s q e => by rw [hnum] at e; cases e; exact ⟨rfl, rfl⟩⟩, hF.tr ((Fr.set (by omega) (by omega)).tr (Fr.set (by omega) (by omega)))⟩
          · have hnum : num n9 tx a b p = .inl (2, skp n9 tx p) := by unfold num; rw [hc, if_neg hi0, if_neg hi5, if_pos (b2z c121)]
            refine P_aload_n dX10_number_124 rfl ?_
            refine P_iconst dX10_number_125 ci_2 ?_
            refine P_callV dX10_number_126 lkX10_210 okX10_fails ⟨Nat.le_of_ble_eq_true rfl, Nat.le_of_ble_eq_true rfl⟩ (m_fails l ko) rfl rfl ko (Nat.le_of_ble_eq_true rfl) ⟨Nat.le_of_ble_eq_true rfl, Nat.le_of_ble_eq_true rfl⟩ (fun v126 G126 q126 => ?_)
            obtain ⟨rfl, rfl⟩ := q126
            refine P_iconst dX10_number_129 ci_0 ?_
            exact P_iret dX10_number_130 rfl ⟨Nat.le_refl _, Nat.le_refl _⟩ ⟨⟨_, set_at ko, by rw [hnum]; exact ⟨if_pos hw0, (show 1 ≤ 2 by decide), (show 2 ≤ 4 by decide), hA⟩, hU, 0, rfl, fun v s q e => by rw [hnum] at e; cases e⟩, hF.tr (Fr.set (by omega) (by omega))⟩
        · have hi5 : i = 5 := (nI_eq (b := 5) (by omega) (by decide)).mp c94
          have hnum : num n9 tx a b p = .inl (2, skp n9 tx p + 4) := by unfold num; rw [hc, if_neg (by omega), if_pos hi5]
          refine P_aload_n dX10_number_97 rfl ?_
          refine P_dup dX10_number_98 rfl ?_
          refine P_get dX10_number_99 flX10_197 ko rfl ?_
          refine P_iconst dX10_number_102 ci_4 ?_
          refine P_iadd dX10_number_103 ?_
          rw [hA, show nI (skp n9 tx p) + 4 = nI (skp n9 tx p + 4) from nI_add _ 4]
          refine P_putI dX10_number_104 flX10_197 ko (Nat.le_of_ble_eq_true rfl) ?_
          obtain ⟨o2, eo2⟩ : ∃ o2 : MV, o2 = oRd o1 (nI (skp n9 tx p + 4)) (mW o1) (mT o1) (mZ o1) (mO o1) (mB o1) := ⟨_, rfl⟩
          have ho2 : (G.set 164 (oM o2))[164]? = some (oM o2) := set_at ko
          have hU2 : oU o o2 := by rw [eo2]; exact hU
          have hA2 : mA o2 = nI (skp n9 tx p + 4) := by rw [eo2]
          have hw2 : mW o2 = 0 := by rw [eo2]; exact hw0
          have hF2 := hF.tr (Fr.set (G := G) (a := 164) (n := 1) (i := 164) (c := oM o2) (by omega) (by omega))
          generalize hG2 : G.set 164 (oM o2) = G2 at ho2 hF2
          suffices hgo : WP mX10_number l (rmM mX10_number 0 0) (ZM 0 0 (fun w G' => (∃ o', G'[164]? = some (oM o') ∧ pS o' n9 (st3 (num n9 tx a b p)) ∧ oU o o' ∧ ∃ x, w = some (.int x) ∧ ∀ v s q, num n9 tx a b p = .inr (v, s, q) → x = v ∧ mB o' = nI s) ∧ Fr G0 G' 164 1)) XT 0 0 107 [some (.ref 164), some (.int a), some (.int b), some (.int (nI i)), some (.int (vlF tx (skp n9 tx p) i))] [] G2 by rw [← hG2, eo2] at hgo; exact hgo
          refine P_aload_n dX10_number_107 rfl ?_
          refine P_iconst dX10_number_108 ci_2 ?_
          refine P_callV dX10_number_109 lkX10_210 okX10_fails ⟨Nat.le_of_ble_eq_true rfl, Nat.le_of_ble_eq_true rfl⟩ (m_fails l ho2) rfl rfl ho2 (Nat.le_of_ble_eq_true rfl) ⟨Nat.le_of_ble_eq_true rfl, Nat.le_of_ble_eq_true rfl⟩ (fun v109 G109 q109 => ?_)
          obtain ⟨rfl, rfl⟩ := q109
          refine P_iconst dX10_number_112 ci_0 ?_
          exact P_iret dX10_number_113 rfl ⟨Nat.le_refl _, Nat.le_refl _⟩ ⟨⟨_, set_at ho2, by rw [hnum]; exact ⟨if_pos hw2, (show 1 ≤ 2 by decide), (show 2 ≤ 4 by decide), hA2⟩, hU2, 0, rfl, fun v s q e => by rw [hnum] at e; cases e⟩, hF2.tr (Fr.set (by omega) (by omega))⟩
      · have hi4 : i < 5 := Nat.not_le.mp fun z => c44 (nI_le (a := 5) z (by omega))
        refine P_aload_n dX10_number_47 rfl ?_
        refine P_get dX10_number_48 flX10_33 ko rfl ?_
        refine P_aload_n dX10_number_51 rfl ?_
        refine P_get dX10_number_52 flX10_197 ko rfl ?_
        refine P_iload_n dX10_number_55 rfl ?_
        refine P_iadd dX10_number_56 ?_
        rw [hA, nI_add]
        refine P_iald dX10_number_57 kx (vp_in_nI (show skp n9 tx p + i < 200 by omega) (by decide)) ?_
        rw [nI_clamp (by omega), hx _ hlt]
        refine P_callSp dX10_number_58 lkX10_207 okX10_isFigure ⟨Nat.le_of_ble_eq_true rfl, Nat.le_of_ble_eq_true rfl⟩ (m_isFigure l) rfl rfl (Nat.le_of_ble_eq_true rfl) ⟨Nat.le_of_ble_eq_true rfl, Nat.le_of_ble_eq_true rfl⟩ ?_
        refine P_if_eq (tgt := 92) dX10_number_61 (by decide) (fun c61 => ?_) (fun c61 => ?_)
        · have hc : cnt n9 tx 5 (skp n9 tx p) = i := cnt_eq 5 _ i hfg (Or.inr ⟨hi4, fun z => (b2p _).mp c61 (by rw [show lt0 n9 tx (skp n9 tx p + i) = tx (skp n9 tx p + i) from if_pos hlt] at z; exact z)⟩)
          refine P_iload_n dX10_number_92 rfl ?_
          refine P_iconst dX10_number_93 ci_5 ?_
          refine P_icmp_ne (tgt := 114) dX10_number_94 (by decide) (fun c94 => ?_) (fun c94 => ?_)
          · have hi5 : ¬ i = 5 := fun z => c94 (by rw [z]; rfl)
            have hi0 : ¬ i = 0 := fun z => by rw [← hc] at z; rw [show cnt n9 tx 5 (skp n9 tx p) = cnt n9 tx 4 (skp n9 tx p + 1) + 1 from if_pos hf0] at z; omega
            refine P_iload dX10_number_114 rfl ?_
            refine P_iload_n dX10_number_116 rfl ?_
            refine P_iload_n dX10_number_117 rfl ?_
            refine P_callSp dX10_number_118 lkX10_68 okX10_in ⟨Nat.le_of_ble_eq_true rfl, Nat.le_of_ble_eq_true rfl⟩ (m_in l) rfl rfl (Nat.le_of_ble_eq_true rfl) ⟨Nat.le_of_ble_eq_true rfl, Nat.le_of_ble_eq_true rfl⟩ ?_
            refine P_if_ne (tgt := 131) dX10_number_121 (by decide) (fun c121 => ?_) (fun c121 => ?_)
            · have hnum : num n9 tx a b p = .inr (vlF tx (skp n9 tx p) i, skp n9 tx p, skp n9 tx p + i) := by unfold num; rw [hc, if_neg hi0, if_neg hi5, if_neg (b2w c121)]
              refine P_aload_n dX10_number_131 rfl ?_
              refine P_aload_n dX10_number_132 rfl ?_
              refine P_get dX10_number_133 flX10_197 ko rfl ?_
              rw [hA]
              refine P_putI dX10_number_136 flX10_214 ko (Nat.le_of_ble_eq_true rfl) ?_
              refine P_aload_n dX10_number_139 rfl ?_
              refine P_dup dX10_number_140 rfl ?_
              refine P_get dX10_number_141 flX10_197 (show (G.set 164 (oM (oRd o1 (mA o1) (mW o1) (mT o1) (mZ o1) (mO o1) (nI (skp n9 tx p)))))[164]? = some (oM (oRd o1 (mA o1) (mW o1) (mT o1) (mZ o1) (mO o1) (nI (skp n9 tx p)))) from set_at ko) rfl ?_
              refine P_iload_n dX10_number_144 rfl ?_
              refine P_iadd dX10_number_145 ?_
              rw [show mA (oRd o1 (mA o1) (mW o1) (mT o1) (mZ o1) (mO o1) (nI (skp n9 tx p))) + nI i = nI (skp n9 tx p + i) from by rw [show mA (oRd o1 (mA o1) (mW o1) (mT o1) (mZ o1) (mO o1) (nI (skp n9 tx p))) = nI (skp n9 tx p) from hA, nI_add]]
              refine P_putI dX10_number_146 flX10_197 (show (G.set 164 (oM (oRd o1 (mA o1) (mW o1) (mT o1) (mZ o1) (mO o1) (nI (skp n9 tx p)))))[164]? = some (oM (oRd o1 (mA o1) (mW o1) (mT o1) (mZ o1) (mO o1) (nI (skp n9 tx p)))) from set_at ko) (Nat.le_of_ble_eq_true rfl) ?_
              refine P_iload dX10_number_149 rfl ?_
              exact P_iret dX10_number_151 rfl ⟨Nat.le_refl _, Nat.le_refl _⟩ ⟨⟨oRd o1 (nI (skp n9 tx p + i)) (mW o1) (mT o1) (mZ o1) (mO o1) (nI (skp n9 tx p)), set_at (set_at ko), by rw [hnum]; exact ⟨hw0, rfl, hqi⟩, hU, _, rfl, fun v s q e => by rw [hnum] at e; cases e; exact ⟨rfl, rfl⟩⟩, hF.tr ((Fr.set (by omega) (by omega)).tr (Fr.set (by omega) (by omega)))⟩
            · have hnum : num n9 tx a b p = .inl (2, skp n9 tx p) := by unfold num; rw [hc, if_neg hi0, if_neg hi5, if_pos (b2z c121)]
              refine P_aload_n dX10_number_124 rfl ?_
              refine P_iconst dX10_number_125 ci_2 ?_
              refine P_callV dX10_number_126 lkX10_210 okX10_fails ⟨Nat.le_of_ble_eq_true rfl, Nat.le_of_ble_eq_true rfl⟩ (m_fails l ko) rfl rfl ko (Nat.le_of_ble_eq_true rfl) ⟨Nat.le_of_ble_eq_true rfl, Nat.le_of_ble_eq_true rfl⟩ (fun v126 G126 q126 => ?_)
              obtain ⟨rfl, rfl⟩ := q126
              refine P_iconst dX10_number_129 ci_0 ?_
              exact P_iret dX10_number_130 rfl ⟨Nat.le_refl _, Nat.le_refl _⟩ ⟨⟨_, set_at ko, by rw [hnum]; exact ⟨if_pos hw0, (show 1 ≤ 2 by decide), (show 2 ≤ 4 by decide), hA⟩, hU, 0, rfl, fun v s q e => by rw [hnum] at e; cases e⟩, hF.tr (Fr.set (by omega) (by omega))⟩
          · have hi5 : i = 5 := (nI_eq (b := 5) (by omega) (by decide)).mp c94
            have hnum : num n9 tx a b p = .inl (2, skp n9 tx p + 4) := by unfold num; rw [hc, if_neg (by omega), if_pos hi5]
            refine P_aload_n dX10_number_97 rfl ?_
            refine P_dup dX10_number_98 rfl ?_
            refine P_get dX10_number_99 flX10_197 ko rfl ?_
            refine P_iconst dX10_number_102 ci_4 ?_
            refine P_iadd dX10_number_103 ?_
            rw [hA, show nI (skp n9 tx p) + 4 = nI (skp n9 tx p + 4) from nI_add _ 4]
            refine P_putI dX10_number_104 flX10_197 ko (Nat.le_of_ble_eq_true rfl) ?_
            obtain ⟨o2, eo2⟩ : ∃ o2 : MV, o2 = oRd o1 (nI (skp n9 tx p + 4)) (mW o1) (mT o1) (mZ o1) (mO o1) (mB o1) := ⟨_, rfl⟩
            have ho2 : (G.set 164 (oM o2))[164]? = some (oM o2) := set_at ko
            have hU2 : oU o o2 := by rw [eo2]; exact hU
            have hA2 : mA o2 = nI (skp n9 tx p + 4) := by rw [eo2]
            have hw2 : mW o2 = 0 := by rw [eo2]; exact hw0
            have hF2 := hF.tr (Fr.set (G := G) (a := 164) (n := 1) (i := 164) (c := oM o2) (by omega) (by omega))
            generalize hG2 : G.set 164 (oM o2) = G2 at ho2 hF2
            suffices hgo : WP mX10_number l (rmM mX10_number 0 0) (ZM 0 0 (fun w G' => (∃ o', G'[164]? = some (oM o') ∧ pS o' n9 (st3 (num n9 tx a b p)) ∧ oU o o' ∧ ∃ x, w = some (.int x) ∧ ∀ v s q, num n9 tx a b p = .inr (v, s, q) → x = v ∧ mB o' = nI s) ∧ Fr G0 G' 164 1)) XT 0 0 107 [some (.ref 164), some (.int a), some (.int b), some (.int (nI i)), some (.int (vlF tx (skp n9 tx p) i))] [] G2 by rw [← hG2, eo2] at hgo; exact hgo
            refine P_aload_n dX10_number_107 rfl ?_
            refine P_iconst dX10_number_108 ci_2 ?_
            refine P_callV dX10_number_109 lkX10_210 okX10_fails ⟨Nat.le_of_ble_eq_true rfl, Nat.le_of_ble_eq_true rfl⟩ (m_fails l ho2) rfl rfl ho2 (Nat.le_of_ble_eq_true rfl) ⟨Nat.le_of_ble_eq_true rfl, Nat.le_of_ble_eq_true rfl⟩ (fun v109 G109 q109 => ?_)
            obtain ⟨rfl, rfl⟩ := q109
            refine P_iconst dX10_number_112 ci_0 ?_
            exact P_iret dX10_number_113 rfl ⟨Nat.le_refl _, Nat.le_refl _⟩ ⟨⟨_, set_at ho2, by rw [hnum]; exact ⟨if_pos hw2, (show 1 ≤ 2 by decide), (show 2 ≤ 4 by decide), hA2⟩, hU2, 0, rfl, fun v s q e => by rw [hnum] at e; cases e⟩, hF2.tr (Fr.set (by omega) (by omega))⟩
        · have hfi := b2y c61
          refine P_bipush dX10_number_64 bp_10 ?_
          refine P_iload dX10_number_66 rfl ?_
          refine P_imul dX10_number_68 ?_
          refine P_aload_n dX10_number_69 rfl ?_
          refine P_get dX10_number_70 flX10_33 ko rfl ?_
          refine P_aload_n dX10_number_73 rfl ?_
          refine P_get dX10_number_74 flX10_197 ko rfl ?_
          refine P_iload_n dX10_number_77 rfl ?_
          refine P_iadd dX10_number_78 ?_
          rw [hA, nI_add]
          refine P_iald dX10_number_79 kx (vp_in_nI (show skp n9 tx p + i < 200 by omega) (by decide)) ?_
          rw [nI_clamp (by omega), hx _ hlt]
          refine P_iadd dX10_number_80 ?_
          refine P_bipush dX10_number_81 bp_48 ?_
          refine P_isub dX10_number_83 ?_
          refine P_istore (L' := [_, _, _, _, _]) dX10_number_84 (Nat.le_of_ble_eq_true rfl) rfl ?_
          refine P_iinc (L' := [_, _, _, _, _]) dX10_number_86 rfl (ii_1 _) (Nat.le_of_ble_eq_true rfl) rfl ?_
          rw [nI_1]
          refine P_goto (tgt := 29) dX10_number_89 (by decide) ?_
          refine ih (i + 1) (by omega) (by omega) (fun j hj => ?_)
          by_cases e : j = i
          · subst e; rw [show lt0 n9 tx (skp n9 tx p + j) = tx (skp n9 tx p + j) from if_pos hlt]; exact hfi
          · exact hfg j (by omega)
set_option maxHeartbeats 4000000 in
set_option maxRecDepth 100000 in
theorem m_number (l : Launch) {G : PH} {o : MV} {fx : Nat → Int32} {n9 : Nat} {tx : Nat → Int32} {σ : PS} {a b : Int32} (k : mpr G o fx n9 tx) (hs : pS o n9 σ) : Tri l mX10_number 0 0 [.ref 164, .int a, .int b] G (fun w G' => (∃ o', G'[164]? = some (oM o') ∧ pS o' n9 (st3 (numS n9 tx a b σ)) ∧ oU o o' ∧ ∃ x, w = some (.int x) ∧ ∀ v s q, numS n9 tx a b σ = .inr (v, s, q) → x = v ∧ mB o' = nI s) ∧ Fr G G' 164 1) := by
  cases σ with
  | inl e =>
    obtain ⟨ew, e1, e4, ea⟩ := hs
    refine Tri.intro (L := [_, _, _, _, _]) okX10_number.1 (Nat.le_of_ble_eq_true rfl) rfl ?_
    refine P_aload_n dX10_number_0 rfl ?_
    refine P_get dX10_number_1 flX10_200 k.1 rfl ?_
    refine P_if_gt (tgt := 17) dX10_number_4 (by decide) (fun c4 => ?_) (fun c4 => ?_)
    · refine P_aload_n dX10_number_17 rfl ?_
      refine P_iconst dX10_number_18 ci_1 ?_
      refine P_callV dX10_number_19 lkX10_210 okX10_fails ⟨Nat.le_of_ble_eq_true rfl, Nat.le_of_ble_eq_true rfl⟩ (m_fails l k.1) rfl rfl k.1 (Nat.le_of_ble_eq_true rfl) ⟨Nat.le_of_ble_eq_true rfl, Nat.le_of_ble_eq_true rfl⟩ (fun v19 G19 q19 => ?_)
      obtain ⟨rfl, rfl⟩ := q19
      refine P_iconst dX10_number_22 ci_0 ?_
      exact P_iret dX10_number_23 rfl ⟨Nat.le_refl _, Nat.le_refl _⟩ ⟨⟨_, set_at k.1, ⟨(if_neg (fun z => nI_ne0 (by omega) (by omega) (ew.symm.trans z))).trans ew, e1, e4, ea⟩, ⟨⟨rfl, rfl, rfl, rfl, rfl⟩, rfl, rfl, rfl⟩, 0, rfl, fun v s q z => by cases z⟩, Fr.set (by omega) (by omega)⟩
    · exact absurd (by rw [ew]; exact nI_lt (a := 0) (by omega) (by omega)) c4
  | inr p =>
    obtain ⟨ew, ea, hp⟩ := hs
    refine Tri.intro (L := [_, _, _, _, _]) okX10_number.1 (Nat.le_of_ble_eq_true rfl) rfl ?_
    refine P_aload_n dX10_number_0 rfl ?_
    refine P_get dX10_number_1 flX10_200 k.1 rfl ?_
    refine P_if_gt (tgt := 17) dX10_number_4 (by decide) (fun c4 => ?_) (fun c4 => ?_)
    · exact absurd c4 (by rw [ew]; decide)
    · refine P_aload_n dX10_number_7 rfl ?_
      refine P_callV dX10_number_8 lkX10_203 okX10_next ⟨Nat.le_of_ble_eq_true rfl, Nat.le_of_ble_eq_true rfl⟩ (m_next l k ea hp) rfl rfl k.1 (Nat.le_of_ble_eq_true rfl) ⟨Nat.le_of_ble_eq_true rfl, Nat.le_of_ble_eq_true rfl⟩ (fun v8 G8 q8 => ?_)
      obtain ⟨rfl, ko1, hF1⟩ := q8
      have k1 := k.fr hF1 ko1 rfl
      refine P_callSp dX10_number_11 lkX10_207 okX10_isFigure ⟨Nat.le_of_ble_eq_true rfl, Nat.le_of_ble_eq_true rfl⟩ (m_isFigure l) rfl rfl (Nat.le_of_ble_eq_true rfl) ⟨Nat.le_of_ble_eq_true rfl, Nat.le_of_ble_eq_true rfl⟩ ?_
      refine P_if_ne (tgt := 24) dX10_number_14 (by decide) (fun c14 => ?_) (fun c14 => ?_)
      · have hf := b2y c14
        refine P_iconst dX10_number_24 ci_0 ?_
        refine P_istore_n (L' := [_, _, _, _, _]) dX10_number_25 (Nat.le_of_ble_eq_true rfl) rfl ?_
        refine P_iconst dX10_number_26 ci_0 ?_
        refine P_istore (L' := [_, _, _, _, _]) dX10_number_27 (Nat.le_of_ble_eq_true rfl) rfl ?_
        exact lp_mnum l k1 rfl ew ⟨⟨rfl, rfl, rfl, rfl, rfl⟩, rfl, rfl, rfl⟩ hp hf hF1 7 0 (by omega) (by omega) (fun j hj => absurd hj (Nat.not_lt_zero _))
      · have hf := (b2p _).mp c14
        have hnum : num n9 tx a b p = .inl (1, skp n9 tx p) := by unfold num; rw [if_pos (show cnt n9 tx 5 (skp n9 tx p) = 0 from if_neg hf)]
        refine P_aload_n dX10_number_17 rfl ?_
        refine P_iconst dX10_number_18 ci_1 ?_
        refine P_callV dX10_number_19 lkX10_210 okX10_fails ⟨Nat.le_of_ble_eq_true rfl, Nat.le_of_ble_eq_true rfl⟩ (m_fails l k1.1) rfl rfl k1.1 (Nat.le_of_ble_eq_true rfl) ⟨Nat.le_of_ble_eq_true rfl, Nat.le_of_ble_eq_true rfl⟩ (fun v19 G19 q19 => ?_)
        obtain ⟨rfl, rfl⟩ := q19
        refine P_iconst dX10_number_22 ci_0 ?_
        exact P_iret dX10_number_23 rfl ⟨Nat.le_refl _, Nat.le_refl _⟩ ⟨⟨_, set_at ko1, by show pS _ n9 (st3 (num n9 tx a b p)); rw [hnum]; exact ⟨if_pos ew, Nat.le_refl 1, (show 1 ≤ 4 by decide), rfl⟩, ⟨⟨rfl, rfl, rfl, rfl, rfl⟩, rfl, rfl, rfl⟩, 0, rfl, fun v s q e => by rw [show numS n9 tx a b (.inr p) = num n9 tx a b p from rfl, hnum] at e; cases e⟩, hF1.tr (Fr.set (by omega) (by omega))⟩
