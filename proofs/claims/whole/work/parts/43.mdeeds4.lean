theorem pSum_nat {ρ : Riv} (hv : rVal ρ) : ∀ n, n ≤ rN ρ → ∃ s : Nat, s ≤ 4 * n ∧ pSum ρ n = nI s
  | 0, _ => ⟨0, by omega, rfl⟩
  | n + 1, h => by
    obtain ⟨s, hs, e⟩ := pSum_nat hv n (by omega)
    obtain ⟨q, h1, h2, e2⟩ := (hv n (by omega)).2.2.2.1
    exact ⟨s + q, by omega, by show pSum ρ n + rF ρ n 3 = _; rw [e, e2, nI_add]⟩
theorem ps_le {s q : Nat} (hs : s ≤ 100) (hq : q ≤ 100) : nI s + nI q ≤ 8 ↔ nI q ≤ 8 - nI s := by
  have e : (8 - nI s).toInt = (8 : Int) - s := pk_sub_toInt (a := 8) (b := s) (by omega) (by omega)
  rw [nI_add, Int32.le_iff_toInt_le, Int32.le_iff_toInt_le, e, nI_toInt (by omega), nI_toInt (by omega)]
  have : (8 : Int32).toInt = 8 := rfl
  omega
set_option maxHeartbeats 4000000 in
set_option maxRecDepth 100000 in
theorem lp_mreach (l : Launch) {σ τ : Sg} {G0 G1 : PH} {o1 : MV} {f : Nat → Int32} {b0 kk0 xx0 q0 : Int32} (kO1 : ModO G1 (sgP σ (min 16 (gP σ + 1)) (psA (gQ σ) (gR σ))) o1 f) (h6 : rN (gR σ) < 6) (hb : rBd (gR σ)) (hF1 : Fr G0 G1 164 17) : ∀ (n : Nat) (G : PH) (i : Nat) (g : Nat → Int32), 52 - i < n → i ≤ 52 → G[165]? = some (aI 315 g) → (∀ q, q < i → g (3 + 52 * rN (gR σ) + q) = 0) → (∀ q, q < 3 + 52 * rN (gR σ) → g q = f q) → Fr G1 G 165 1 → WP mX10_reach l (rmM mX10_reach 0 0) (ZM 0 0 (fun a9 G' => a9 = some (.int (nI (rN (gR σ)))) ∧ (∃ o' f', ModO G' (deed σ (rvA (gR σ) b0 kk0 xx0 q0)) o' f') ∧ Fr G0 G' 164 17)) XT 0 0 94 [some (.ref 164), some (.int b0), some (.int kk0), some (.int xx0), some (.int q0), some (.int (nI (rN (gR σ)))), some (.int (nI i))] [] G := by
  intro n
  induction n with
  | zero => intro G  i  g hn hi kg hg ho hF; exact absurd hn (Nat.not_lt_zero _)
  | succ n ih =>
    intro G  i  g hn hi kg hg ho hF
    have hob := hF.at kO1.1.1 (by decide)
    have hrr : rRow (gR σ) f := kO1.1.2.2.1
    refine P_iload dX10_reach_94 rfl ?_
    refine P_bipush dX10_reach_96 bp_52 ?_
    refine P_icmp_ge (tgt := 120) dX10_reach_98 (by decide) (fun c98 => ?_) (fun c98 => ?_)
    · have hi2 : i = 52 := by have : ¬ i < 52 := fun q => nI_ge (b := 52) q (by decide) c98; omega
      subst hi2
      refine P_aload_n dX10_reach_120 rfl ?_
      refine P_get dX10_reach_121 flX10_7 hob rfl ?_
      refine P_iload dX10_reach_124 rfl ?_
      refine P_iconst dX10_reach_126 ci_0 ?_
      refine P_callSp dX10_reach_127 lkX10_64 okX10_placeOf ⟨Nat.le_of_ble_eq_true rfl, Nat.le_of_ble_eq_true rfl⟩ (m_placeOf (i := 0) l) rfl rfl (Nat.le_of_ble_eq_true rfl) ⟨Nat.le_of_ble_eq_true rfl, Nat.le_of_ble_eq_true rfl⟩ ?_
      refine P_iload_n dX10_reach_130 rfl ?_
      refine P_iast dX10_reach_131 kg (vp_in_nI (by omega) (by decide)) ?_
      rw [nI_clamp (by omega)]
      refine P_aload_n dX10_reach_132 rfl ?_
      refine P_get dX10_reach_133 flX10_7 (set_ne hob (by decide)) rfl ?_
      refine P_iload dX10_reach_136 rfl ?_
      refine P_iconst dX10_reach_138 ci_1 ?_
      refine P_callSp dX10_reach_139 lkX10_64 okX10_placeOf ⟨Nat.le_of_ble_eq_true rfl, Nat.le_of_ble_eq_true rfl⟩ (m_placeOf (i := 1) l) rfl rfl (Nat.le_of_ble_eq_true rfl) ⟨Nat.le_of_ble_eq_true rfl, Nat.le_of_ble_eq_true rfl⟩ ?_
      refine P_iload_n dX10_reach_142 rfl ?_
      refine P_iast dX10_reach_143 (set_at kg) (vp_in_nI (by omega) (by decide)) ?_
      rw [nI_clamp (by omega)]
      refine P_aload_n dX10_reach_144 rfl ?_
      refine P_get dX10_reach_145 flX10_7 (set_ne (set_ne hob (by decide)) (by decide)) rfl ?_
      refine P_iload dX10_reach_148 rfl ?_
      refine P_iconst dX10_reach_150 ci_2 ?_
      refine P_callSp dX10_reach_151 lkX10_64 okX10_placeOf ⟨Nat.le_of_ble_eq_true rfl, Nat.le_of_ble_eq_true rfl⟩ (m_placeOf (i := 2) l) rfl rfl (Nat.le_of_ble_eq_true rfl) ⟨Nat.le_of_ble_eq_true rfl, Nat.le_of_ble_eq_true rfl⟩ ?_
      refine P_iload_n dX10_reach_154 rfl ?_
      refine P_iast dX10_reach_155 (set_at (set_at kg)) (vp_in_nI (by omega) (by decide)) ?_
      rw [nI_clamp (by omega)]
      refine P_aload_n dX10_reach_156 rfl ?_
      refine P_get dX10_reach_157 flX10_7 (set_ne (set_ne (set_ne hob (by decide)) (by decide)) (by decide)) rfl ?_
      refine P_iload dX10_reach_160 rfl ?_
      refine P_iconst dX10_reach_162 ci_3 ?_
      refine P_callSp dX10_reach_163 lkX10_64 okX10_placeOf ⟨Nat.le_of_ble_eq_true rfl, Nat.le_of_ble_eq_true rfl⟩ (m_placeOf (i := 3) l) rfl rfl (Nat.le_of_ble_eq_true rfl) ⟨Nat.le_of_ble_eq_true rfl, Nat.le_of_ble_eq_true rfl⟩ ?_
      refine P_iload dX10_reach_166 rfl ?_
      refine P_iast dX10_reach_168 (set_at (set_at (set_at kg))) (vp_in_nI (by omega) (by decide)) ?_
      rw [nI_clamp (by omega)]
      refine P_aload_n dX10_reach_169 rfl ?_
      refine P_get dX10_reach_170 flX10_7 (set_ne (set_ne (set_ne (set_ne hob (by decide)) (by decide)) (by decide)) (by decide)) rfl ?_
      refine P_iconst dX10_reach_173 ci_2 ?_
      refine P_dup2 dX10_reach_174 rfl rfl ?_
      refine P_iald dX10_reach_175 (set_at (set_at (set_at (set_at kg)))) (vp_in_nI (show 2 < 315 by decide) (by decide)) ?_
      rw [show (upd (upd (upd (upd g (3 + 52 * rN (gR σ) + 0) b0) (3 + 52 * rN (gR σ) + 1) kk0) (3 + 52 * rN (gR σ) + 2) xx0) (3 + 52 * rN (gR σ) + 3) q0) (Int32.toNatClampNeg 2) = nI (rN (gR σ)) from (upd_n (show 2 ≠ _ by omega)).trans ((upd_n (by omega)).trans ((upd_n (by omega)).trans ((upd_n (by omega)).trans ((ho 2 (by omega)).trans hrr.2.2.1))))]
      refine P_iconst dX10_reach_176 ci_1 ?_
      refine P_iadd dX10_reach_177 ?_
      rw [nI_1]
      refine P_iast dX10_reach_178 (set_at (set_at (set_at (set_at kg)))) (vp_in_nI (show 2 < 315 by decide) (by decide)) ?_
      rw [show Int32.toNatClampNeg 2 = 2 from rfl]
      refine P_iload dX10_reach_179 rfl ?_
      have hFz : Fr G1 (((((G.set 165 (aI 315 (upd g (3 + 52 * rN (gR σ) + 0) b0))).set 165 (aI 315 (upd (upd g (3 + 52 * rN (gR σ) + 0) b0) (3 + 52 * rN (gR σ) + 1) kk0))).set 165 (aI 315 (upd (upd (upd g (3 + 52 * rN (gR σ) + 0) b0) (3 + 52 * rN (gR σ) + 1) kk0) (3 + 52 * rN (gR σ) + 2) xx0))).set 165 (aI 315 (upd (upd (upd (upd g (3 + 52 * rN (gR σ) + 0) b0) (3 + 52 * rN (gR σ) + 1) kk0) (3 + 52 * rN (gR σ) + 2) xx0) (3 + 52 * rN (gR σ) + 3) q0))).set 165 (aI 315 (upd (upd (upd (upd (upd g (3 + 52 * rN (gR σ) + 0) b0) (3 + 52 * rN (gR σ) + 1) kk0) (3 + 52 * rN (gR σ) + 2) xx0) (3 + 52 * rN (gR σ) + 3) q0) 2 (nI (rN (gR σ) + 1))))) 165 1 := hF.tr ((Fr.set (by omega) (by omega)).tr ((Fr.set (by omega) (by omega)).tr ((Fr.set (by omega) (by omega)).tr ((Fr.set (by omega) (by omega)).tr (Fr.set (by omega) (by omega))))))
      exact P_iret dX10_reach_181 rfl ⟨Nat.le_refl _, Nat.le_refl _⟩ ⟨rfl, ⟨_, _, kO1.st (ρ := rvA (gR σ) b0 kk0 xx0 q0) hFz (set_at (set_at (set_at (set_at (set_at kg))))) (rRow_A hrr hg ho) ⟨hb.1, hb.2.1, hb.2.2.1, hb.2.2.2.1, h6⟩⟩, hF1.tr (hFz.wide (by omega) (by omega))⟩
    · have hlt : i < 52 := Nat.not_le.mp fun q => c98 (nI_le (a := 52) q (by omega))
      refine P_aload_n dX10_reach_101 rfl ?_
      refine P_get dX10_reach_102 flX10_7 hob rfl ?_
      refine P_iload dX10_reach_105 rfl ?_
      refine P_iload dX10_reach_107 rfl ?_
      refine P_callSp dX10_reach_109 lkX10_64 okX10_placeOf ⟨Nat.le_of_ble_eq_true rfl, Nat.le_of_ble_eq_true rfl⟩ (m_placeOf l) rfl rfl (Nat.le_of_ble_eq_true rfl) ⟨Nat.le_of_ble_eq_true rfl, Nat.le_of_ble_eq_true rfl⟩ ?_
      refine P_iconst dX10_reach_112 ci_0 ?_
      refine P_iast dX10_reach_113 kg (vp_in_nI (by omega) (by decide)) ?_
      rw [nI_clamp (by omega)]
      refine P_iinc (L' := [_, _, _, _, _, _, _]) dX10_reach_114 rfl (ii_1 _) (Nat.le_of_ble_eq_true rfl) rfl ?_
      rw [nI_1]
      refine P_goto (tgt := 94) dX10_reach_117 (by decide) ?_
      refine ih _ (i + 1) _ (by omega) hlt (set_at kg) (fun q hq => ?_) (fun q hq => ?_) (hF.tr (Fr.set (by omega) (by omega)))
      · by_cases e : q = i
        · subst e; exact upd_a
        · rw [upd_n (by omega)]; exact hg q (by omega)
      · rw [upd_n (by omega)]; exact ho q hq
set_option maxHeartbeats 4000000 in
set_option maxRecDepth 100000 in
theorem d_reach (l : Launch) {G : PH} {σ : Sg} {b0 kk0 xx0 q0 : Int32} (k : Mod G σ) (hv : sVal σ) : Tri l mX10_reach 0 0 [.ref 164, .int b0, .int kk0, .int xx0, .int q0] G (fun a9 G' => a9 = some (.int (spReach σ b0 kk0 xx0 q0).1) ∧ Mod G' (spReach σ b0 kk0 xx0 q0).2 ∧ Fr G G' 164 17) := by
  obtain ⟨o, f, kO⟩ := id k
  obtain ⟨hk, h1, h2, h3, h4, h5, kR, ⟨⟨fi, fo, fs, fa, fb, km⟩, ⟨gs, gf, kl⟩, ⟨fm, kmd⟩⟩⟩ := id kO
  have hb := hv.1.1; have hvr := hv.1.2; have hN : rN (gR σ) ≤ 6 := hb.2.2.2.2; have hT : rT (gR σ) ≤ 24 := hb.2.1; have hT2 : 2 ≤ rT (gR σ) := hb.1
  refine Tri.intro (L := [_, _, _, _, _, _, _]) okX10_reach.1 (Nat.le_of_ble_eq_true rfl) rfl ?_
  refine P_iload_n dX10_reach_0 rfl ?_
  refine P_iconst dX10_reach_1 ci_m1 ?_
  refine P_icmp_eq (tgt := 16) dX10_reach_2 (by decide) (fun c2 => ?_) (fun c2 => ?_)
  · have e1 : ¬ (¬ b0 = -1 ∧ ¬ inN b0 (rN (gR σ))) := fun z => z.1 c2
    refine P_iload_n dX10_reach_16 rfl ?_
    refine P_iconst dX10_reach_17 ci_0 ?_
    refine P_bipush dX10_reach_18 bp_20 ?_
    refine P_callSp dX10_reach_20 lkX10_68 okX10_in ⟨Nat.le_of_ble_eq_true rfl, Nat.le_of_ble_eq_true rfl⟩ (m_in l) rfl rfl (Nat.le_of_ble_eq_true rfl) ⟨Nat.le_of_ble_eq_true rfl, Nat.le_of_ble_eq_true rfl⟩ ?_
    refine P_if_eq (tgt := 46) dX10_reach_23 (by decide) (fun c23 => ?_) (fun c23 => ?_)
    · have hs : spReach σ b0 kk0 xx0 q0 = (OUTS, σ) := by unfold spReach; rw [if_neg e1, if_pos (Or.inl (b2z c23))]
      refine P_ldc dX10_reach_46 kcX10_161 ?_
      exact P_iret dX10_reach_48 rfl ⟨Nat.le_refl _, Nat.le_refl _⟩ ⟨by rw [hs], by rw [hs]; exact k, Fr.rf⟩
    · refine P_iload_n dX10_reach_26 rfl ?_
      refine P_iconst dX10_reach_27 ci_0 ?_
      refine P_bipush dX10_reach_28 bp_10 ?_
      refine P_callSp dX10_reach_30 lkX10_68 okX10_in ⟨Nat.le_of_ble_eq_true rfl, Nat.le_of_ble_eq_true rfl⟩ (m_in l) rfl rfl (Nat.le_of_ble_eq_true rfl) ⟨Nat.le_of_ble_eq_true rfl, Nat.le_of_ble_eq_true rfl⟩ ?_
      refine P_if_eq (tgt := 46) dX10_reach_33 (by decide) (fun c33 => ?_) (fun c33 => ?_)
      · have hs : spReach σ b0 kk0 xx0 q0 = (OUTS, σ) := by unfold spReach; rw [if_neg e1, if_pos (Or.inr (Or.inl (b2z c33)))]
        refine P_ldc dX10_reach_46 kcX10_161 ?_
        exact P_iret dX10_reach_48 rfl ⟨Nat.le_refl _, Nat.le_refl _⟩ ⟨by rw [hs], by rw [hs]; exact k, Fr.rf⟩
      · refine P_iload dX10_reach_36 rfl ?_
        refine P_iconst dX10_reach_38 ci_1 ?_
        refine P_iconst dX10_reach_39 ci_4 ?_
        refine P_callSp dX10_reach_40 lkX10_68 okX10_in ⟨Nat.le_of_ble_eq_true rfl, Nat.le_of_ble_eq_true rfl⟩ (m_in l) rfl rfl (Nat.le_of_ble_eq_true rfl) ⟨Nat.le_of_ble_eq_true rfl, Nat.le_of_ble_eq_true rfl⟩ ?_
        refine P_if_ne (tgt := 49) dX10_reach_43 (by decide) (fun c43 => ?_) (fun c43 => ?_)
        · have e2 : ¬ (oB3 kk0 0 20 ∨ oB3 xx0 0 10 ∨ oB3 q0 1 4) := fun z => z.elim (b2w c23) (fun z => z.elim (b2w c33) (b2w c43))
          obtain ⟨s9, hs9, es9⟩ := pSum_nat hvr (rN (gR σ)) (Nat.le_refl _)
          obtain ⟨q9, hq91, hq92, eq9⟩ := ob_nat (a := 1) (b := 4) (by omega) (by omega) (b2w c43)
          have hiff : pSum (gR σ) (rN (gR σ)) + q0 ≤ 8 ↔ q0 ≤ 8 - pSum (gR σ) (rN (gR σ)) := by rw [es9, eq9]; exact ps_le (by omega) (by omega)
          refine P_aload_n dX10_reach_49 rfl ?_
          refine P_get dX10_reach_50 flX10_7 hk.1 rfl ?_
          refine P_iconst dX10_reach_53 ci_2 ?_
          refine P_iald dX10_reach_54 hk.2.1 (vp_in_nI (show 2 < 315 by decide) (by decide)) ?_
          rw [show f (Int32.toNatClampNeg 2) = nI (rN (gR σ)) from hk.2.2.1.2.2.1]
          refine P_bipush dX10_reach_55 bp_6 ?_
          refine P_icmp_eq (tgt := 76) dX10_reach_57 (by decide) (fun c57 => ?_) (fun c57 => ?_)
          · have h6 : ¬ rN (gR σ) < 6 := fun z => by have := (nI_eq (b := 6) (by omega) (by decide)).mp c57; omega
            have hs : spReach σ b0 kk0 xx0 q0 = (FUL, σ) := by unfold spReach; rw [if_neg e1, if_neg e2, if_pos (Or.inl h6)]
            refine P_ldc dX10_reach_76 kcX10_196 ?_
            exact P_iret dX10_reach_78 rfl ⟨Nat.le_refl _, Nat.le_refl _⟩ ⟨by rw [hs], by rw [hs]; exact k, Fr.rf⟩
          · refine P_aload_n dX10_reach_60 rfl ?_
            refine P_aload_n dX10_reach_61 rfl ?_
            refine P_get dX10_reach_62 flX10_7 hk.1 rfl ?_
            refine P_callVp dX10_reach_65 lkX10_230 okX10_partsOf ⟨Nat.le_of_ble_eq_true rfl, Nat.le_of_ble_eq_true rfl⟩ (m_partsOf l hk.2.1 hk.2.2.1 hN) rfl rfl hk.1 (Nat.le_of_ble_eq_true rfl) ⟨Nat.le_of_ble_eq_true rfl, Nat.le_of_ble_eq_true rfl⟩ ?_
            refine P_iload dX10_reach_68 rfl ?_
            refine P_iadd dX10_reach_70 ?_
            refine P_bipush dX10_reach_71 bp_8 ?_
            refine P_icmp_le (tgt := 79) dX10_reach_73 (by decide) (fun c73 => ?_) (fun c73 => ?_)
            · have h6 : rN (gR σ) < 6 := Nat.lt_of_le_of_ne hN fun z => c57 (by rw [z]; rfl)
              have hs : spReach σ b0 kk0 xx0 q0 = (nI (rN (gR σ)), deed σ (rvA (gR σ) b0 kk0 xx0 q0)) := by unfold spReach; rw [if_neg e1, if_neg e2, if_neg (fun z => z.elim (fun y => y h6) (fun y => y (hiff.mp c73)))]
              rw [hs]
              refine P_aload_n dX10_reach_79 rfl ?_
              refine P_callV dX10_reach_80 lkX10_255 okX10_notes ⟨Nat.le_of_ble_eq_true rfl, Nat.le_of_ble_eq_true rfl⟩ (m_notes l kO hv) rfl rfl hk.1 (Nat.le_of_ble_eq_true rfl) ⟨Nat.le_of_ble_eq_true rfl, Nat.le_of_ble_eq_true rfl⟩ (fun v80 G80 q80 => ?_)
              obtain ⟨rfl, ⟨o1, kO1⟩, hFn⟩ := q80
              have hk1 : mst G80 o1 f (gR σ) := kO1.1; have hFw : Fr G G80 164 17 := hFn.wide (by omega) (by omega)
              refine P_aload_n dX10_reach_83 rfl ?_
              refine P_get dX10_reach_84 flX10_7 hk1.1 rfl ?_
              refine P_iconst dX10_reach_87 ci_2 ?_
              refine P_iald dX10_reach_88 hk1.2.1 (vp_in_nI (show 2 < 315 by decide) (by decide)) ?_
              rw [show f (Int32.toNatClampNeg 2) = nI (rN (gR σ)) from hk.2.2.1.2.2.1]
              refine P_istore (L' := [_, _, _, _, _, _, _]) dX10_reach_89 (Nat.le_of_ble_eq_true rfl) rfl ?_
              refine P_iconst dX10_reach_91 ci_0 ?_
              refine P_istore (L' := [_, _, _, _, _, _, _]) dX10_reach_92 (Nat.le_of_ble_eq_true rfl) rfl ?_
              exact lp_mreach (τ := σ) l kO1 h6 hb hFw 53 G80 0 f (by omega) (Nat.zero_le _) hk1.2.1 (fun q hq => absurd hq (Nat.not_lt_zero _)) (fun _ _ => rfl) Fr.rf
            · have hs : spReach σ b0 kk0 xx0 q0 = (FUL, σ) := by unfold spReach; rw [if_neg e1, if_neg e2, if_pos (Or.inr (fun y => c73 (hiff.mpr y)))]
              refine P_ldc dX10_reach_76 kcX10_196 ?_
              exact P_iret dX10_reach_78 rfl ⟨Nat.le_refl _, Nat.le_refl _⟩ ⟨by rw [hs], by rw [hs]; exact k, Fr.rf⟩
        · have hs : spReach σ b0 kk0 xx0 q0 = (OUTS, σ) := by unfold spReach; rw [if_neg e1, if_pos (Or.inr (Or.inr (b2z c43)))]
          refine P_ldc dX10_reach_46 kcX10_161 ?_
          exact P_iret dX10_reach_48 rfl ⟨Nat.le_refl _, Nat.le_refl _⟩ ⟨by rw [hs], by rw [hs]; exact k, Fr.rf⟩
  · refine P_aload_n dX10_reach_5 rfl ?_
    refine P_iload_n dX10_reach_6 rfl ?_
    refine P_callVp dX10_reach_7 lkX10_157 okX10_isReach ⟨Nat.le_of_ble_eq_true rfl, Nat.le_of_ble_eq_true rfl⟩ (m_isReach l hk.1 hk.2.1 hk.2.2.1 hb) rfl rfl hk.1 (Nat.le_of_ble_eq_true rfl) ⟨Nat.le_of_ble_eq_true rfl, Nat.le_of_ble_eq_true rfl⟩ ?_
    refine P_if_ne (tgt := 16) dX10_reach_10 (by decide) (fun c10 => ?_) (fun c10 => ?_)
    · have e1 : ¬ (¬ b0 = -1 ∧ ¬ inN b0 (rN (gR σ))) := fun z => z.2 (b2y c10)
      refine P_iload_n dX10_reach_16 rfl ?_
      refine P_iconst dX10_reach_17 ci_0 ?_
      refine P_bipush dX10_reach_18 bp_20 ?_
      refine P_callSp dX10_reach_20 lkX10_68 okX10_in ⟨Nat.le_of_ble_eq_true rfl, Nat.le_of_ble_eq_true rfl⟩ (m_in l) rfl rfl (Nat.le_of_ble_eq_true rfl) ⟨Nat.le_of_ble_eq_true rfl, Nat.le_of_ble_eq_true rfl⟩ ?_
      refine P_if_eq (tgt := 46) dX10_reach_23 (by decide) (fun c23 => ?_) (fun c23 => ?_)
      · have hs : spReach σ b0 kk0 xx0 q0 = (OUTS, σ) := by unfold spReach; rw [if_neg e1, if_pos (Or.inl (b2z c23))]
        refine P_ldc dX10_reach_46 kcX10_161 ?_
        exact P_iret dX10_reach_48 rfl ⟨Nat.le_refl _, Nat.le_refl _⟩ ⟨by rw [hs], by rw [hs]; exact k, Fr.rf⟩
      · refine P_iload_n dX10_reach_26 rfl ?_
        refine P_iconst dX10_reach_27 ci_0 ?_
        refine P_bipush dX10_reach_28 bp_10 ?_
        refine P_callSp dX10_reach_30 lkX10_68 okX10_in ⟨Nat.le_of_ble_eq_true rfl, Nat.le_of_ble_eq_true rfl⟩ (m_in l) rfl rfl (Nat.le_of_ble_eq_true rfl) ⟨Nat.le_of_ble_eq_true rfl, Nat.le_of_ble_eq_true rfl⟩ ?_
        refine P_if_eq (tgt := 46) dX10_reach_33 (by decide) (fun c33 => ?_) (fun c33 => ?_)
        · have hs : spReach σ b0 kk0 xx0 q0 = (OUTS, σ) := by unfold spReach; rw [if_neg e1, if_pos (Or.inr (Or.inl (b2z c33)))]
          refine P_ldc dX10_reach_46 kcX10_161 ?_
          exact P_iret dX10_reach_48 rfl ⟨Nat.le_refl _, Nat.le_refl _⟩ ⟨by rw [hs], by rw [hs]; exact k, Fr.rf⟩
        · refine P_iload dX10_reach_36 rfl ?_
          refine P_iconst dX10_reach_38 ci_1 ?_
          refine P_iconst dX10_reach_39 ci_4 ?_
          refine P_callSp dX10_reach_40 lkX10_68 okX10_in ⟨Nat.le_of_ble_eq_true rfl, Nat.le_of_ble_eq_true rfl⟩ (m_in l) rfl rfl (Nat.le_of_ble_eq_true rfl) ⟨Nat.le_of_ble_eq_true rfl, Nat.le_of_ble_eq_true rfl⟩ ?_
          refine P_if_ne (tgt := 49) dX10_reach_43 (by decide) (fun c43 => ?_) (fun c43 => ?_)
          · have e2 : ¬ (oB3 kk0 0 20 ∨ oB3 xx0 0 10 ∨ oB3 q0 1 4) := fun z => z.elim (b2w c23) (fun z => z.elim (b2w c33) (b2w c43))
            obtain ⟨s9, hs9, es9⟩ := pSum_nat hvr (rN (gR σ)) (Nat.le_refl _)
            obtain ⟨q9, hq91, hq92, eq9⟩ := ob_nat (a := 1) (b := 4) (by omega) (by omega) (b2w c43)
            have hiff : pSum (gR σ) (rN (gR σ)) + q0 ≤ 8 ↔ q0 ≤ 8 - pSum (gR σ) (rN (gR σ)) := by rw [es9, eq9]; exact ps_le (by omega) (by omega)
            refine P_aload_n dX10_reach_49 rfl ?_
            refine P_get dX10_reach_50 flX10_7 hk.1 rfl ?_
            refine P_iconst dX10_reach_53 ci_2 ?_
            refine P_iald dX10_reach_54 hk.2.1 (vp_in_nI (show 2 < 315 by decide) (by decide)) ?_
            rw [show f (Int32.toNatClampNeg 2) = nI (rN (gR σ)) from hk.2.2.1.2.2.1]
            refine P_bipush dX10_reach_55 bp_6 ?_
            refine P_icmp_eq (tgt := 76) dX10_reach_57 (by decide) (fun c57 => ?_) (fun c57 => ?_)
            · have h6 : ¬ rN (gR σ) < 6 := fun z => by have := (nI_eq (b := 6) (by omega) (by decide)).mp c57; omega
              have hs : spReach σ b0 kk0 xx0 q0 = (FUL, σ) := by unfold spReach; rw [if_neg e1, if_neg e2, if_pos (Or.inl h6)]
              refine P_ldc dX10_reach_76 kcX10_196 ?_
              exact P_iret dX10_reach_78 rfl ⟨Nat.le_refl _, Nat.le_refl _⟩ ⟨by rw [hs], by rw [hs]; exact k, Fr.rf⟩
            · refine P_aload_n dX10_reach_60 rfl ?_
              refine P_aload_n dX10_reach_61 rfl ?_
              refine P_get dX10_reach_62 flX10_7 hk.1 rfl ?_
              refine P_callVp dX10_reach_65 lkX10_230 okX10_partsOf ⟨Nat.le_of_ble_eq_true rfl, Nat.le_of_ble_eq_true rfl⟩ (m_partsOf l hk.2.1 hk.2.2.1 hN) rfl rfl hk.1 (Nat.le_of_ble_eq_true rfl) ⟨Nat.le_of_ble_eq_true rfl, Nat.le_of_ble_eq_true rfl⟩ ?_
              refine P_iload dX10_reach_68 rfl ?_
              refine P_iadd dX10_reach_70 ?_
              refine P_bipush dX10_reach_71 bp_8 ?_
              refine P_icmp_le (tgt := 79) dX10_reach_73 (by decide) (fun c73 => ?_) (fun c73 => ?_)
              · have h6 : rN (gR σ) < 6 := Nat.lt_of_le_of_ne hN fun z => c57 (by rw [z]; rfl)
                have hs : spReach σ b0 kk0 xx0 q0 = (nI (rN (gR σ)), deed σ (rvA (gR σ) b0 kk0 xx0 q0)) := by unfold spReach; rw [if_neg e1, if_neg e2, if_neg (fun z => z.elim (fun y => y h6) (fun y => y (hiff.mp c73)))]
                rw [hs]
                refine P_aload_n dX10_reach_79 rfl ?_
                refine P_callV dX10_reach_80 lkX10_255 okX10_notes ⟨Nat.le_of_ble_eq_true rfl, Nat.le_of_ble_eq_true rfl⟩ (m_notes l kO hv) rfl rfl hk.1 (Nat.le_of_ble_eq_true rfl) ⟨Nat.le_of_ble_eq_true rfl, Nat.le_of_ble_eq_true rfl⟩ (fun v80 G80 q80 => ?_)
                obtain ⟨rfl, ⟨o1, kO1⟩, hFn⟩ := q80
                have hk1 : mst G80 o1 f (gR σ) := kO1.1; have hFw : Fr G G80 164 17 := hFn.wide (by omega) (by omega)
                refine P_aload_n dX10_reach_83 rfl ?_
                refine P_get dX10_reach_84 flX10_7 hk1.1 rfl ?_
                refine P_iconst dX10_reach_87 ci_2 ?_
                refine P_iald dX10_reach_88 hk1.2.1 (vp_in_nI (show 2 < 315 by decide) (by decide)) ?_
                rw [show f (Int32.toNatClampNeg 2) = nI (rN (gR σ)) from hk.2.2.1.2.2.1]
                refine P_istore (L' := [_, _, _, _, _, _, _]) dX10_reach_89 (Nat.le_of_ble_eq_true rfl) rfl ?_
                refine P_iconst dX10_reach_91 ci_0 ?_
                refine P_istore (L' := [_, _, _, _, _, _, _]) dX10_reach_92 (Nat.le_of_ble_eq_true rfl) rfl ?_
                exact lp_mreach (τ := σ) l kO1 h6 hb hFw 53 G80 0 f (by omega) (Nat.zero_le _) hk1.2.1 (fun q hq => absurd hq (Nat.not_lt_zero _)) (fun _ _ => rfl) Fr.rf
              · have hs : spReach σ b0 kk0 xx0 q0 = (FUL, σ) := by unfold spReach; rw [if_neg e1, if_neg e2, if_pos (Or.inr (fun y => c73 (hiff.mpr y)))]
                refine P_ldc dX10_reach_76 kcX10_196 ?_
                exact P_iret dX10_reach_78 rfl ⟨Nat.le_refl _, Nat.le_refl _⟩ ⟨by rw [hs], by rw [hs]; exact k, Fr.rf⟩
          · have hs : spReach σ b0 kk0 xx0 q0 = (OUTS, σ) := by unfold spReach; rw [if_neg e1, if_pos (Or.inr (Or.inr (b2z c43)))]
            refine P_ldc dX10_reach_46 kcX10_161 ?_
            exact P_iret dX10_reach_48 rfl ⟨Nat.le_refl _, Nat.le_refl _⟩ ⟨by rw [hs], by rw [hs]; exact k, Fr.rf⟩
    · have e := (b2p _).mp c10
      have hs : spReach σ b0 kk0 xx0 q0 = (UNK, σ) := by unfold spReach; rw [if_pos ⟨c2, e⟩]
      refine P_ldc dX10_reach_13 kcX10_160 ?_
      exact P_iret dX10_reach_15 rfl ⟨Nat.le_refl _, Nat.le_refl _⟩ ⟨by rw [hs], by rw [hs]; exact k, Fr.rf⟩
set_option maxRecDepth 100000 in
theorem lp_mlaw (l : Launch) {G : PH} {o : MV} {f : Nat → Int32} {ρ : Riv} (hk : mst G o f ρ) : ∀ (n : Nat) (i : Nat), rN ρ - i < n → i ≤ rN ρ → WP mX10_lawfulMany l (rmM mX10_lawfulMany 0 0) (ZM 0 0 (fun w G' => w = some (.int (lawC ρ (rN ρ))) ∧ G' = G)) XT 0 0 4 [some (.ref 164), some (.int (lawC ρ i)), some (.int (nI i))] [] G := by
  intro n
  induction n with
  | zero => intro i hn hi; exact absurd hn (Nat.not_lt_zero _)
  | succ n ih =>
    intro i hn hi
    have hN : rN ρ ≤ 6 := hk.2.2.2.2.2.2.2
    refine P_iload_n dX10_lawfulMany_4 rfl ?_
    refine P_aload_n dX10_lawfulMany_5 rfl ?_
    refine P_get dX10_lawfulMany_6 flX10_7 hk.1 rfl ?_
    refine P_iconst dX10_lawfulMany_9 ci_2 ?_
    refine P_iald dX10_lawfulMany_10 hk.2.1 (vp_in_nI (show 2 < 315 by decide) (by decide)) ?_
    rw [show f (Int32.toNatClampNeg 2) = nI (rN ρ) from hk.2.2.1.2.2.1]
    refine P_icmp_ge (tgt := 47) dX10_lawfulMany_11 (by decide) (fun c11 => ?_) (fun c11 => ?_)
    · have hi2 : i = rN ρ := Nat.le_antisymm hi (Nat.not_lt.mp fun q => nI_ge q (by omega) c11)
      subst hi2
      refine P_iload_n dX10_lawfulMany_47 rfl ?_
      exact P_iret dX10_lawfulMany_48 rfl ⟨Nat.le_refl _, Nat.le_refl _⟩ ⟨rfl, rfl⟩
    · have hlt : i < rN ρ := Nat.not_le.mp fun q => c11 (nI_le q (by omega))
      refine P_iload_n dX10_lawfulMany_14 rfl ?_
      refine P_aload_n dX10_lawfulMany_15 rfl ?_
      refine P_aload_n dX10_lawfulMany_16 rfl ?_
      refine P_iload_n dX10_lawfulMany_17 rfl ?_
      refine P_iconst dX10_lawfulMany_18 ci_1 ?_
      refine P_callVp dX10_lawfulMany_19 lkX10_95 okX10_of ⟨Nat.le_of_ble_eq_true rfl, Nat.le_of_ble_eq_true rfl⟩ (m_of (i := 1) l hk.1 hk.2.1 (by omega)) rfl rfl hk.1 (Nat.le_of_ble_eq_true rfl) ⟨Nat.le_of_ble_eq_true rfl, Nat.le_of_ble_eq_true rfl⟩ ?_
      rw [(hk.2.2.1.2.2.2 i hlt).1 1 (by decide)]
      refine P_aload_n dX10_lawfulMany_22 rfl ?_
      refine P_iload_n dX10_lawfulMany_23 rfl ?_
      refine P_iconst dX10_lawfulMany_24 ci_2 ?_
      refine P_callVp dX10_lawfulMany_25 lkX10_95 okX10_of ⟨Nat.le_of_ble_eq_true rfl, Nat.le_of_ble_eq_true rfl⟩ (m_of (i := 2) l hk.1 hk.2.1 (by omega)) rfl rfl hk.1 (Nat.le_of_ble_eq_true rfl) ⟨Nat.le_of_ble_eq_true rfl, Nat.le_of_ble_eq_true rfl⟩ ?_
      rw [(hk.2.2.1.2.2.2 i hlt).1 2 (by decide)]
      refine P_callVp dX10_lawfulMany_28 lkX10_132 okX10_isLawful ⟨Nat.le_of_ble_eq_true rfl, Nat.le_of_ble_eq_true rfl⟩ (m_isLawful l hk.1 hk.2.1 hk.2.2.1) rfl rfl hk.1 (Nat.le_of_ble_eq_true rfl) ⟨Nat.le_of_ble_eq_true rfl, Nat.le_of_ble_eq_true rfl⟩ ?_
      refine P_if_eq (tgt := 38) dX10_lawfulMany_31 (by decide) (fun c31 => ?_) (fun c31 => ?_)
      · have e2 : lawC ρ (i + 1) = lawC ρ i + 0 := congrArg (fun z => lawC ρ i + z) (if_neg ((b2p _).mp c31))
        refine P_iconst dX10_lawfulMany_38 ci_0 ?_
        refine P_iadd dX10_lawfulMany_39 ?_
        refine P_istore_n (L' := [_, _, _]) dX10_lawfulMany_40 (Nat.le_of_ble_eq_true rfl) rfl ?_
        refine P_iinc (L' := [_, _, _]) dX10_lawfulMany_41 rfl (ii_1 _) (Nat.le_of_ble_eq_true rfl) rfl ?_
        rw [nI_1]
        refine P_goto (tgt := 4) dX10_lawfulMany_44 (by decide) ?_
        refine P_loc ?_ (ih (i + 1) (by omega) hlt)
        rw [e2]
        simp only [subL, List.head?_cons, List.tail_cons]; and_intros <;> first | rfl | trivial
      · have e2 : lawC ρ (i + 1) = lawC ρ i + 1 := congrArg (fun z => lawC ρ i + z) (if_pos (b2y c31))
        refine P_iconst dX10_lawfulMany_34 ci_1 ?_
        refine P_goto (tgt := 39) dX10_lawfulMany_35 (by decide) ?_
        refine P_iadd dX10_lawfulMany_39 ?_
        refine P_istore_n (L' := [_, _, _]) dX10_lawfulMany_40 (Nat.le_of_ble_eq_true rfl) rfl ?_
        refine P_iinc (L' := [_, _, _]) dX10_lawfulMany_41 rfl (ii_1 _) (Nat.le_of_ble_eq_true rfl) rfl ?_
        rw [nI_1]
        refine P_goto (tgt := 4) dX10_lawfulMany_44 (by decide) ?_
        refine P_loc ?_ (ih (i + 1) (by omega) hlt)
        rw [e2]
        simp only [subL, List.head?_cons, List.tail_cons]; and_intros <;> first | rfl | trivial
theorem m_lawfulMany (l : Launch) {G : PH} {o : MV} {f : Nat → Int32} {ρ : Riv} (hk : mst G o f ρ) : Tri l mX10_lawfulMany 0 0 [.ref 164] G (fun w G' => w = some (.int (lawC ρ (rN ρ))) ∧ G' = G) := by
  refine Tri.intro (L := [_, _, _]) okX10_lawfulMany.1 (Nat.le_of_ble_eq_true rfl) rfl ?_
  refine P_iconst dX10_lawfulMany_0 ci_0 ?_
  refine P_istore_n (L' := [_, _, _]) dX10_lawfulMany_1 (Nat.le_of_ble_eq_true rfl) rfl ?_
  refine P_iconst dX10_lawfulMany_2 ci_0 ?_
  refine P_istore_n (L' := [_, _, _]) dX10_lawfulMany_3 (Nat.le_of_ble_eq_true rfl) rfl ?_
  exact P_loc (by simp only [subL, List.head?_cons, List.tail_cons]; and_intros <;> first | rfl | trivial) (lp_mlaw l hk (rN ρ + 1) 0 (by omega) (by omega))
