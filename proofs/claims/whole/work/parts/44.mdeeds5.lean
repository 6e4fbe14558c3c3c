set_option maxRecDepth 100000 in
theorem lp_mwrong (l : Launch) {σ : Sg} {G0 G : PH} {o : MV} {f : Nat → Int32} (kO : ModO G σ o f) (hq : mran G (gR σ)) (hv : sVal σ) (hF : Fr G0 G 164 17) : ∀ (n : Nat) (i : Nat), gC σ - i < n → i ≤ gC σ → wrS (gR σ) (gB σ) (gC σ - i) i = wrS (gR σ) (gB σ) (gC σ) 0 → WP mX10_wrongNow l (rmM mX10_wrongNow 0 0) (ZM 0 0 (fun a9 G' => a9 = some (.int (wrS (gR σ) (gB σ) (gC σ) 0)) ∧ Mod G' σ ∧ Fr G0 G' 164 17)) XT 0 0 6 [some (.ref 164), some (.int (nI i)), none] [] G := by
  intro n
  induction n with
  | zero => intro i hn hi hE; exact absurd hn (Nat.not_lt_zero _)
  | succ n ih =>
    intro i hn hi hE
    obtain ⟨hk, h1, h2, h3, h4, h5, kR, kS⟩ := id kO
    have hb := hv.1.1; have hN : rN (gR σ) ≤ 6 := hb.2.2.2.2; have hT : rT (gR σ) ≤ 24 := hb.2.1; have h20 : gC σ ≤ 20 := hv.2.2.1
    obtain ⟨f9, g9, h9, kb1, kb2, kb3, hbk⟩ := kR.2.2.1
    obtain ⟨fi, fo, fs, fa, fb, km, hg⟩ := id hq
    refine P_iload_n dX10_wrongNow_6 rfl ?_
    refine P_aload_n dX10_wrongNow_7 rfl ?_
    refine P_get dX10_wrongNow_8 flX10_258 hk.1 rfl ?_
    rw [h3]
    refine P_icmp_ge (tgt := 89) dX10_wrongNow_11 (by decide) (fun c11 => ?_) (fun c11 => ?_)
    · have hi2 : i = gC σ := Nat.le_antisymm hi (Nat.not_lt.mp fun q => nI_ge q (by omega) c11)
      subst hi2
      rw [Nat.sub_self] at hE
      have hE : (-1 : Int32) = wrS (gR σ) (gB σ) (gC σ) 0 := hE
      refine P_iconst dX10_wrongNow_89 ci_m1 ?_
      exact P_iret dX10_wrongNow_90 rfl ⟨Nat.le_refl _, Nat.le_refl _⟩ ⟨by rw [← hE], ⟨_, _, kO⟩, hF⟩
    · have hlt : i < gC σ := Nat.not_le.mp fun q => c11 (nI_le q (by omega))
      obtain ⟨e1, e2, e3, e4, e5⟩ := hbk i hlt
      obtain ⟨g, hg9⟩ : ∃ g, gC σ - i = g + 1 := ⟨gC σ - i - 1, by omega⟩
      rw [hg9] at hE
      refine P_aload_n dX10_wrongNow_14 rfl ?_
      refine P_aload_n dX10_wrongNow_15 rfl ?_
      refine P_get dX10_wrongNow_16 flX10_23 hk.1 rfl ?_
      refine P_iload_n dX10_wrongNow_19 rfl ?_
      refine P_iald dX10_wrongNow_20 kb1 (vp_in_nI (by omega) (by decide)) ?_
      rw [nI_clamp (by omega)]; rw [e3]
      refine P_callVp dX10_wrongNow_21 lkX10_157 okX10_isReach ⟨Nat.le_of_ble_eq_true rfl, Nat.le_of_ble_eq_true rfl⟩ (m_isReach l hk.1 hk.2.1 hk.2.2.1 hb) rfl rfl hk.1 (Nat.le_of_ble_eq_true rfl) ⟨Nat.le_of_ble_eq_true rfl, Nat.le_of_ble_eq_true rfl⟩ ?_
      refine P_if_eq (tgt := 44) dX10_wrongNow_24 (by decide) (fun c24 => ?_) (fun c24 => ?_)
      · have hw : wrP (gR σ) (gB σ i) := Or.inl (fun z => (b2p _).mp c24 (inN_nI z.1 (by omega)))
        refine P_iconst dX10_wrongNow_44 ci_0 ?_
        refine P_istore_n (L' := [_, _, _]) dX10_wrongNow_45 (Nat.le_of_ble_eq_true rfl) rfl ?_
        refine P_iload_n dX10_wrongNow_46 rfl ?_
        refine P_if_eq (tgt := 81) dX10_wrongNow_47 (by decide) (fun c47 => ?_) (fun c47 => ?_)
        · refine P_iload_n dX10_wrongNow_81 rfl ?_
          exact P_iret dX10_wrongNow_82 rfl ⟨Nat.le_refl _, Nat.le_refl _⟩ ⟨by rw [← hE]; exact congrArg (fun z => some (Value.int z)) (if_pos hw).symm, ⟨_, _, kO⟩, hF⟩
        · exact absurd rfl c47
      · have hy := b2y c24
        have hrN : (gB σ i).1 < rN (gR σ) := Nat.not_le.mp fun z => hy.2 (nI_le z e1)
        refine P_aload_n dX10_wrongNow_27 rfl ?_
        refine P_aload_n dX10_wrongNow_28 rfl ?_
        refine P_get dX10_wrongNow_29 flX10_26 hk.1 rfl ?_
        refine P_iload_n dX10_wrongNow_32 rfl ?_
        refine P_iald dX10_wrongNow_33 kb2 (vp_in_nI (by omega) (by decide)) ?_
        rw [nI_clamp (by omega)]; rw [e4]
        refine P_callVp dX10_wrongNow_34 lkX10_171 okX10_isTime ⟨Nat.le_of_ble_eq_true rfl, Nat.le_of_ble_eq_true rfl⟩ (m_isTime l hk.1 hk.2.1 hk.2.2.1 hb) rfl rfl hk.1 (Nat.le_of_ble_eq_true rfl) ⟨Nat.le_of_ble_eq_true rfl, Nat.le_of_ble_eq_true rfl⟩ ?_
        refine P_if_eq (tgt := 44) dX10_wrongNow_37 (by decide) (fun c37 => ?_) (fun c37 => ?_)
        · have hw : wrP (gR σ) (gB σ i) := Or.inl (fun z => (b2p _).mp c37 (inN_nI z.2 (by omega)))
          refine P_iconst dX10_wrongNow_44 ci_0 ?_
          refine P_istore_n (L' := [_, _, _]) dX10_wrongNow_45 (Nat.le_of_ble_eq_true rfl) rfl ?_
          refine P_iload_n dX10_wrongNow_46 rfl ?_
          refine P_if_eq (tgt := 81) dX10_wrongNow_47 (by decide) (fun c47 => ?_) (fun c47 => ?_)
          · refine P_iload_n dX10_wrongNow_81 rfl ?_
            exact P_iret dX10_wrongNow_82 rfl ⟨Nat.le_refl _, Nat.le_refl _⟩ ⟨by rw [← hE]; exact congrArg (fun z => some (Value.int z)) (if_pos hw).symm, ⟨_, _, kO⟩, hF⟩
          · exact absurd rfl c47
        · have hy2 := b2y c37
          have htT : (gB σ i).2.1 < rT (gR σ) := Nat.not_le.mp fun z => hy2.2 (nI_le z e2)
          refine P_iconst dX10_wrongNow_40 ci_1 ?_
          refine P_goto (tgt := 45) dX10_wrongNow_41 (by decide) ?_
          refine P_istore_n (L' := [_, _, _]) dX10_wrongNow_45 (Nat.le_of_ble_eq_true rfl) rfl ?_
          refine P_iload_n dX10_wrongNow_46 rfl ?_
          refine P_if_eq (tgt := 81) dX10_wrongNow_47 (by decide) (fun c47 => ?_) (fun c47 => ?_)
          · exact absurd c47 (by decide)
          · refine P_aload_n dX10_wrongNow_50 rfl ?_
            refine P_get dX10_wrongNow_51 flX10_43 hk.1 rfl ?_
            refine P_bipush dX10_wrongNow_54 bp_24 ?_
            refine P_aload_n dX10_wrongNow_56 rfl ?_
            refine P_get dX10_wrongNow_57 flX10_23 hk.1 rfl ?_
            refine P_iload_n dX10_wrongNow_60 rfl ?_
            refine P_iald dX10_wrongNow_61 kb1 (vp_in_nI (by omega) (by decide)) ?_
            rw [nI_clamp (by omega)]; rw [e3]
            refine P_imul dX10_wrongNow_62 ?_
            refine P_aload_n dX10_wrongNow_63 rfl ?_
            refine P_get dX10_wrongNow_64 flX10_26 hk.1 rfl ?_
            refine P_iload_n dX10_wrongNow_67 rfl ?_
            refine P_iald dX10_wrongNow_68 kb2 (vp_in_nI (by omega) (by decide)) ?_
            rw [nI_clamp (by omega)]; rw [e4]
            refine P_iadd dX10_wrongNow_69 ?_
            rw [ix24]
            refine P_lald dX10_wrongNow_70 km.2.1 (vp_in_nI (by omega) (by decide)) ?_
            rw [nI_clamp (by omega)]; rw [(hg _ (Nat.zero_le _) hrN _ htT).2.1]
            refine P_aload_n dX10_wrongNow_71 rfl ?_
            refine P_get dX10_wrongNow_72 flX10_29 hk.1 rfl ?_
            refine P_iload_n dX10_wrongNow_75 rfl ?_
            refine P_lald dX10_wrongNow_76 kb3 (vp_in_nI (by omega) (by decide)) ?_
            rw [nI_clamp (by omega)]; rw [e5]
            refine P_lcmp dX10_wrongNow_77 ?_
            refine P_if_eq (tgt := 83) dX10_wrongNow_78 (by decide) (fun c78 => ?_) (fun c78 => ?_)
            · rw [lg_cmp_eq] at c78
              have hw : ¬ wrP (gR σ) (gB σ i) := fun z => z.elim (fun y => y ⟨hrN, htT⟩) (fun y => y c78)
              refine P_iinc (L' := [_, _, _]) dX10_wrongNow_83 rfl (ii_1 _) (Nat.le_of_ble_eq_true rfl) rfl ?_
              rw [nI_1]
              refine P_goto (tgt := 6) dX10_wrongNow_86 (by decide) ?_
              refine P_loc ?_ (ih (i + 1) (by omega) hlt ?_)
              · simp only [subL, List.head?_cons, List.tail_cons]; and_intros <;> first | rfl | trivial
              · rw [← hE, show gC σ - (i + 1) = g by omega]; exact (if_neg hw).symm
            · rw [lg_cmp_eq] at c78
              have hw : wrP (gR σ) (gB σ i) := Or.inr c78
              refine P_iload_n dX10_wrongNow_81 rfl ?_
              exact P_iret dX10_wrongNow_82 rfl ⟨Nat.le_refl _, Nat.le_refl _⟩ ⟨by rw [← hE]; exact congrArg (fun z => some (Value.int z)) (if_pos hw).symm, ⟨_, _, kO⟩, hF⟩
theorem m_wrongNow (l : Launch) {G : PH} {σ : Sg} (k : Mod G σ) (hv : sVal σ) : Tri l mX10_wrongNow 0 0 [.ref 164] G (fun a9 G' => a9 = some (.int (wrS (gR σ) (gB σ) (gC σ) 0)) ∧ Mod G' σ ∧ Fr G G' 164 17) := by
  obtain ⟨o, f, kO⟩ := id k
  obtain ⟨hk, h1, h2, h3, h4, h5, kR, ⟨⟨fi, fo, fs, fa, fb, km⟩, ⟨gs, gf, kl⟩, ⟨fm, kmd⟩⟩⟩ := id kO
  have hb := hv.1.1; have hvr := hv.1.2; have hN : rN (gR σ) ≤ 6 := hb.2.2.2.2; have hT : rT (gR σ) ≤ 24 := hb.2.1; have hT2 : 2 ≤ rT (gR σ) := hb.1
  refine Tri.intro (L := [_, _, _]) okX10_wrongNow.1 (Nat.le_of_ble_eq_true rfl) rfl ?_
  refine P_aload_n dX10_wrongNow_0 rfl ?_
  refine P_callV dX10_wrongNow_1 lkX10_162 okX10_flowsNow ⟨Nat.le_of_ble_eq_true rfl, Nat.le_of_ble_eq_true rfl⟩ (m_flowsNow l hk km hvr) rfl rfl hk.1 (Nat.le_of_ble_eq_true rfl) ⟨Nat.le_of_ble_eq_true rfl, Nat.le_of_ble_eq_true rfl⟩ (fun v1 G1 q1 => ?_)
  obtain ⟨rfl, ⟨fi1, fo1, fs1, fa1, fb1, km1, hg1⟩, hF1⟩ := q1
  have kO1 := kO.fl hF1 ⟨_, _, _, _, _, km1⟩
  have hk1 := kO1.1
  have hw1 : Fr G G1 164 17 := hF1.wide (by omega) (by omega)
  refine P_iconst dX10_wrongNow_4 ci_0 ?_
  refine P_istore_n (L' := [_, _, _]) dX10_wrongNow_5 (Nat.le_of_ble_eq_true rfl) rfl ?_
  exact P_loc (by simp only [subL, List.head?_cons, List.tail_cons]; and_intros <;> first | rfl | trivial) (lp_mwrong l kO1 ⟨_, _, _, _, _, km1, hg1⟩ hv hw1 (gC σ + 1) 0 (by omega) (Nat.zero_le _) (by rw [Nat.sub_zero]))
set_option maxHeartbeats 4000000 in
set_option maxRecDepth 100000 in
theorem d_told (l : Launch) {G : PH} {σ : Sg} {wh : Int32} (k : Mod G σ) (hv : sVal σ) : Tri l mX10_told 0 0 [.ref 164, .int wh] G (fun a9 G' => a9 = some (.int (spTold σ wh)) ∧ Mod G' σ ∧ Fr G G' 164 17) := by
  obtain ⟨o, f, kO⟩ := id k
  obtain ⟨hk, h1, h2, h3, h4, h5, kR, ⟨⟨fi, fo, fs, fa, fb, km⟩, ⟨gs, gf, kl⟩, ⟨fm, kmd⟩⟩⟩ := id kO
  have hb := hv.1.1; have hvr := hv.1.2; have hN : rN (gR σ) ≤ 6 := hb.2.2.2.2; have hT : rT (gR σ) ≤ 24 := hb.2.1; have hT2 : 2 ≤ rT (gR σ) := hb.1
  refine Tri.intro (L := [_, _]) okX10_told.1 (Nat.le_of_ble_eq_true rfl) rfl ?_
  refine P_iload_n dX10_told_0 rfl ?_
  by_cases w0 : wh = 0
  · subst w0
    refine P_tabIn (off := 55) (tgt := 56) dX10_told_1 (by decide) (by decide) (by decide) (by decide) ?_
    have hs : spTold σ 0 = nI (rT (gR σ)) := by unfold spTold; rw [if_pos rfl]
    have hz : f (Int32.toNatClampNeg 0) = spTold σ 0 := hs ▸ hk.2.2.1.1
    have hin : vp_in 0 315 := vp_in_nI (show 0 < 315 by decide) (by decide)
    refine P_aload_n dX10_told_56 rfl ?_
    refine P_get dX10_told_57 flX10_7 hk.1 rfl ?_
    refine P_iload_n dX10_told_60 rfl ?_
    refine P_iald dX10_told_61 hk.2.1 hin ?_
    exact P_iret dX10_told_62 rfl ⟨Nat.le_refl _, Nat.le_refl _⟩ ⟨by rw [hz], k, Fr.rf⟩
  by_cases w1 : wh = 1
  · subst w1
    refine P_tabIn (off := 55) (tgt := 56) dX10_told_1 (by decide) (by decide) (by decide) (by decide) ?_
    have hs : spTold σ 1 = nI (rD (gR σ)) := by unfold spTold; rw [if_neg (by decide), if_pos rfl]
    have hz : f (Int32.toNatClampNeg 1) = spTold σ 1 := hs ▸ hk.2.2.1.2.1
    have hin : vp_in 1 315 := vp_in_nI (show 1 < 315 by decide) (by decide)
    refine P_aload_n dX10_told_56 rfl ?_
    refine P_get dX10_told_57 flX10_7 hk.1 rfl ?_
    refine P_iload_n dX10_told_60 rfl ?_
    refine P_iald dX10_told_61 hk.2.1 hin ?_
    exact P_iret dX10_told_62 rfl ⟨Nat.le_refl _, Nat.le_refl _⟩ ⟨by rw [hz], k, Fr.rf⟩
  by_cases w2 : wh = 2
  · subst w2
    refine P_tabIn (off := 55) (tgt := 56) dX10_told_1 (by decide) (by decide) (by decide) (by decide) ?_
    have hs : spTold σ 2 = nI (rN (gR σ)) := by unfold spTold; rw [if_neg (by decide), if_neg (by decide), if_pos rfl]
    have hz : f (Int32.toNatClampNeg 2) = spTold σ 2 := hs ▸ hk.2.2.1.2.2.1
    have hin : vp_in 2 315 := vp_in_nI (show 2 < 315 by decide) (by decide)
    refine P_aload_n dX10_told_56 rfl ?_
    refine P_get dX10_told_57 flX10_7 hk.1 rfl ?_
    refine P_iload_n dX10_told_60 rfl ?_
    refine P_iald dX10_told_61 hk.2.1 hin ?_
    exact P_iret dX10_told_62 rfl ⟨Nat.le_refl _, Nat.le_refl _⟩ ⟨by rw [hz], k, Fr.rf⟩
  by_cases w3 : wh = 3
  · subst w3
    refine P_tabIn (off := 62) (tgt := 63) dX10_told_1 (by decide) (by decide) (by decide) (by decide) ?_
    have hs : spTold σ 3 = pSum (gR σ) (rN (gR σ)) := by unfold spTold; rw [if_neg (by decide), if_neg (by decide), if_neg (by decide), if_pos rfl]
    refine P_aload_n dX10_told_63 rfl ?_
    refine P_aload_n dX10_told_64 rfl ?_
    refine P_get dX10_told_65 flX10_7 hk.1 rfl ?_
    refine P_callVp dX10_told_68 lkX10_230 okX10_partsOf ⟨Nat.le_of_ble_eq_true rfl, Nat.le_of_ble_eq_true rfl⟩ (m_partsOf l hk.2.1 hk.2.2.1 hN) rfl rfl hk.1 (Nat.le_of_ble_eq_true rfl) ⟨Nat.le_of_ble_eq_true rfl, Nat.le_of_ble_eq_true rfl⟩ ?_
    exact P_iret dX10_told_71 rfl ⟨Nat.le_refl _, Nat.le_refl _⟩ ⟨by rw [hs], k, Fr.rf⟩
  by_cases w4 : wh = 4
  · subst w4
    refine P_tabIn (off := 71) (tgt := 72) dX10_told_1 (by decide) (by decide) (by decide) (by decide) ?_
    have hs : spTold σ 4 = lawC (gR σ) (rN (gR σ)) := by unfold spTold; rw [if_neg (by decide), if_neg (by decide), if_neg (by decide), if_neg (by decide), if_pos rfl]
    refine P_aload_n dX10_told_72 rfl ?_
    refine P_callVp dX10_told_73 lkX10_261 okX10_lawfulMany ⟨Nat.le_of_ble_eq_true rfl, Nat.le_of_ble_eq_true rfl⟩ (m_lawfulMany l hk) rfl rfl hk.1 (Nat.le_of_ble_eq_true rfl) ⟨Nat.le_of_ble_eq_true rfl, Nat.le_of_ble_eq_true rfl⟩ ?_
    exact P_iret dX10_told_76 rfl ⟨Nat.le_refl _, Nat.le_refl _⟩ ⟨by rw [hs], k, Fr.rf⟩
  by_cases w5 : wh = 5
  · subst w5
    refine P_tabIn (off := 76) (tgt := 77) dX10_told_1 (by decide) (by decide) (by decide) (by decide) ?_
    have hs : spTold σ 5 = nI (gN σ) := by unfold spTold; rw [if_neg (by decide), if_neg (by decide), if_neg (by decide), if_neg (by decide), if_neg (by decide), if_pos rfl]
    refine P_aload_n dX10_told_77 rfl ?_
    refine P_get dX10_told_78 flX10_193 hk.1 rfl ?_
    exact P_iret dX10_told_81 rfl ⟨Nat.le_refl _, Nat.le_refl _⟩ ⟨by rw [hs, h4], k, Fr.rf⟩
  by_cases w6 : wh = 6
  · subst w6
    refine P_tabIn (off := 81) (tgt := 82) dX10_told_1 (by decide) (by decide) (by decide) (by decide) ?_
    have hs : spTold σ 6 = nI (gC σ) := by unfold spTold; rw [if_neg (by decide), if_neg (by decide), if_neg (by decide), if_neg (by decide), if_neg (by decide), if_neg (by decide), if_pos rfl]
    refine P_aload_n dX10_told_82 rfl ?_
    refine P_get dX10_told_83 flX10_258 hk.1 rfl ?_
    exact P_iret dX10_told_86 rfl ⟨Nat.le_refl _, Nat.le_refl _⟩ ⟨by rw [hs, h3], k, Fr.rf⟩
  by_cases w7 : wh = 7
  · subst w7
    refine P_tabIn (off := 86) (tgt := 87) dX10_told_1 (by decide) (by decide) (by decide) (by decide) ?_
    have hs : spTold σ 7 = wrS (gR σ) (gB σ) (gC σ) 0 := by unfold spTold; rw [if_neg (by decide), if_neg (by decide), if_neg (by decide), if_neg (by decide), if_neg (by decide), if_neg (by decide), if_neg (by decide), if_pos rfl]
    refine P_aload_n dX10_told_87 rfl ?_
    refine P_callV dX10_told_88 lkX10_264 okX10_wrongNow ⟨Nat.le_of_ble_eq_true rfl, Nat.le_of_ble_eq_true rfl⟩ (m_wrongNow l k hv) rfl rfl hk.1 (Nat.le_of_ble_eq_true rfl) ⟨Nat.le_of_ble_eq_true rfl, Nat.le_of_ble_eq_true rfl⟩ (fun v88 G88 q88 => ?_)
    obtain ⟨rfl, kc, hFc⟩ := q88
    exact P_iret dX10_told_91 rfl ⟨Nat.le_refl _, Nat.le_refl _⟩ ⟨by rw [hs], kc, hFc⟩
  by_cases w8 : wh = 8
  · subst w8
    refine P_tabIn (off := 91) (tgt := 92) dX10_told_1 (by decide) (by decide) (by decide) (by decide) ?_
    have hs : spTold σ 8 = nI (gP σ) := by unfold spTold; rw [if_neg (by decide), if_neg (by decide), if_neg (by decide), if_neg (by decide), if_neg (by decide), if_neg (by decide), if_neg (by decide), if_neg (by decide), if_pos rfl]
    refine P_aload_n dX10_told_92 rfl ?_
    refine P_get dX10_told_93 flX10_72 hk.1 rfl ?_
    exact P_iret dX10_told_96 rfl ⟨Nat.le_refl _, Nat.le_refl _⟩ ⟨by rw [hs, h1], k, Fr.rf⟩
  by_cases w9 : wh = 9
  · subst w9
    refine P_tabIn (off := 96) (tgt := 97) dX10_told_1 (by decide) (by decide) (by decide) (by decide) ?_
    have hs : spTold σ 9 = nI (gS σ) := by unfold spTold; rw [if_neg (by decide), if_neg (by decide), if_neg (by decide), if_neg (by decide), if_neg (by decide), if_neg (by decide), if_neg (by decide), if_neg (by decide), if_neg (by decide), if_pos rfl]
    refine P_aload_n dX10_told_97 rfl ?_
    refine P_get dX10_told_98 flX10_267 hk.1 rfl ?_
    exact P_iret dX10_told_101 rfl ⟨Nat.le_refl _, Nat.le_refl _⟩ ⟨by rw [hs, h2], k, Fr.rf⟩
  refine P_tabOut (tgt := 102) dX10_told_1 (tabo (n := 9) (fun j hj => by rcases (by omega : j = 0 ∨ j = 1 ∨ j = 2 ∨ j = 3 ∨ j = 4 ∨ j = 5 ∨ j = 6 ∨ j = 7 ∨ j = 8 ∨ j = 9) with rfl | rfl | rfl | rfl | rfl | rfl | rfl | rfl | rfl | rfl <;> assumption)) (by decide) ?_
  have hs : spTold σ wh = OUTS := by unfold spTold; rw [if_neg w0, if_neg w1, if_neg w2, if_neg w3, if_neg w4, if_neg w5, if_neg w6, if_neg w7, if_neg w8, if_neg w9]
  refine P_ldc dX10_told_102 kcX10_161 ?_
  exact P_iret dX10_told_104 rfl ⟨Nat.le_refl _, Nat.le_refl _⟩ ⟨by rw [hs], k, Fr.rf⟩
theorem shv_neg {o : Int64} (h : o < 0) : shv o = 0 := by
  have h9 : o < 9999 := Int64.lt_trans h (by decide)
  unfold shv jmin jmax
  rw [if_pos h9, if_neg (fun z => Int64.lt_irrefl (Int64.lt_trans h z))]
theorem shv_hi {o : Int64} (h : 9999 < o) : shv o = 9999 := by
  unfold shv jmin jmax
  rw [if_neg (fun z => Int64.lt_irrefl (Int64.lt_trans h z)), if_pos (by decide)]
theorem shv_mid {o : Int64} (h0 : 0 ≤ o) (h : o ≤ 9999) : shv o = o := by
  unfold shv
  have e : jmin 9999 o = o := by
    unfold jmin
    by_cases z : o < 9999
    · rw [if_pos z]
    · rw [if_neg z]; exact Int64.le_antisymm (Int64.not_lt.mp z) h
  rw [e]
  unfold jmax
  by_cases z : 0 < o
  · rw [if_pos z]
  · rw [if_neg z]; exact Int64.le_antisymm h0 (Int64.not_lt.mp z)
set_option maxHeartbeats 4000000 in
set_option maxRecDepth 100000 in
theorem lp_mshow (l : Launch) {σ : Sg} {G0 : PH} {j : Nat} {o : MV} (hj : j < rN (gR σ)) (hv : sVal σ) : ∀ (n : Nat) (G : PH) (t : Nat) (f : Nat → Int32), rT (gR σ) - t < n → t ≤ rT (gR σ) → ModO G (deed σ (shR (gR σ) j t)) o f → mran G (gR σ) → Fr G0 G 164 17 → WP mX10_show l (rmM mX10_show 0 0) (ZM 0 0 (fun a9 G' => a9 = some (.int (shC (gR σ) j (rT (gR σ)))) ∧ Mod G' (deed σ (shR (gR σ) j (rT (gR σ)))) ∧ Fr G0 G' 164 17)) XT 0 0 23 [some (.ref 164), some (.int (nI j)), some (.int (shC (gR σ) j t)), some (.int (nI t)), none, none, none, none] [] G := by
  intro n
  induction n with
  | zero => intro G  t  f hn ht kO hq hF; exact absurd hn (Nat.not_lt_zero _)
  | succ n ih =>
    intro G  t  f hn ht kO hq hF
    have hk : mst G o f (shR (gR σ) j t) := kO.1
    have hb := hv.1.1; have hN : rN (gR σ) ≤ 6 := hb.2.2.2.2; have hT : rT (gR σ) ≤ 24 := hb.2.1
    have eT : rT (shR (gR σ) j t) = rT (gR σ) := congrArg (·.1) (shR_1 (gR σ) j t)
    obtain ⟨fi, fo, fs, fa, fb, km, hg⟩ := id hq
    refine P_iload_n dX10_show_23 rfl ?_
    refine P_aload_n dX10_show_24 rfl ?_
    refine P_get dX10_show_25 flX10_7 hk.1 rfl ?_
    refine P_iconst dX10_show_28 ci_0 ?_
    refine P_iald dX10_show_29 hk.2.1 (vp_in_nI (show 0 < 315 by decide) (by decide)) ?_
    rw [show f (Int32.toNatClampNeg 0) = nI (rT (gR σ)) from hk.2.2.1.1.trans (by rw [eT])]
    refine P_icmp_ge (tgt := 114) dX10_show_30 (by decide) (fun c30 => ?_) (fun c30 => ?_)
    · have hi2 : t = rT (gR σ) := Nat.le_antisymm ht (Nat.not_lt.mp fun z => nI_ge z (by omega) c30)
      subst hi2
      refine P_iload_n dX10_show_114 rfl ?_
      exact P_iret dX10_show_115 rfl ⟨Nat.le_refl _, Nat.le_refl _⟩ ⟨rfl, ⟨_, _, kO⟩, hF⟩
    · have hlt : t < rT (gR σ) := Nat.not_le.mp fun z => c30 (nI_le z (by omega))
      refine P_aload_n dX10_show_33 rfl ?_
      refine P_get dX10_show_34 flX10_43 hk.1 rfl ?_
      refine P_bipush dX10_show_37 bp_24 ?_
      refine P_iload_n dX10_show_39 rfl ?_
      refine P_imul dX10_show_40 ?_
      refine P_iload_n dX10_show_41 rfl ?_
      refine P_iadd dX10_show_42 ?_
      rw [ix24]
      refine P_lald dX10_show_43 km.2.1 (vp_in_nI (by omega) (by decide)) ?_
      rw [nI_clamp (by omega)]; rw [(hg j (Nat.zero_le _) hj t hlt).2.1]
      refine P_lstore (L' := [_, _, _, _, _, _, _, _]) dX10_show_44 (Nat.le_of_ble_eq_true rfl) rfl ?_
      refine P_lload dX10_show_46 rfl ?_
      refine P_lconst dX10_show_48 lc_0 ?_
      refine P_lcmp dX10_show_49 ?_
      refine P_if_ge (tgt := 57) dX10_show_50 (by decide) (fun c50 => ?_) (fun c50 => ?_)
      · rw [lg_cmp_ge] at c50
        refine P_lload dX10_show_57 rfl ?_
        refine P_ldc2 dX10_show_59 kcX10_274 ?_
        refine P_lcmp dX10_show_62 ?_
        refine P_if_le (tgt := 72) dX10_show_63 (by decide) (fun c63 => ?_) (fun c63 => ?_)
        · rw [lg_cmp_le] at c63
          have hsv : shv (OUT (gR σ) j t) = OUT (gR σ) j t := shv_mid c50 c63
          refine P_lload dX10_show_72 rfl ?_
          refine (show ∀ v9 : Int64, v9 = shv (OUT (gR σ) j t) → WP mX10_show l (rmM mX10_show 0 0) (ZM 0 0 (fun a9 G' => a9 = some (.int (shC (gR σ) j (rT (gR σ)))) ∧ Mod G' (deed σ (shR (gR σ) j (rT (gR σ)))) ∧ Fr G0 G' 164 17)) XT 0 0 74 [some (.ref 164), some (.int (nI j)), some (.int (shC (gR σ) j t)), some (.int (nI t)), some (.long (OUT (gR σ) j t)), none, none, none] [.long v9] G from ?_) _ hsv.symm
          intro v9 e9
          subst e9
          refine P_lstore (L' := [_, _, _, _, _, _, _, _]) dX10_show_74 (Nat.le_of_ble_eq_true rfl) rfl ?_
          refine P_iload_n dX10_show_76 rfl ?_
          refine P_lload dX10_show_77 rfl ?_
          refine P_lload dX10_show_79 rfl ?_
          refine P_lcmp dX10_show_81 ?_
          refine P_if_ne (tgt := 89) dX10_show_82 (by decide) (fun c82 => ?_) (fun c82 => ?_)
          · have hc : shC (gR σ) j (t + 1) = shC (gR σ) j t + 1 := if_neg (fun z => c82 ((lg_cmp_eq _ _).mpr z))
            refine P_iconst dX10_show_89 ci_1 ?_
            refine P_iadd dX10_show_90 ?_
            refine P_istore_n (L' := [_, _, _, _, _, _, _, _]) dX10_show_91 (Nat.le_of_ble_eq_true rfl) rfl ?_
            refine P_aload_n dX10_show_92 rfl ?_
            refine P_get dX10_show_93 flX10_7 hk.1 rfl ?_
            refine P_iload_n dX10_show_96 rfl ?_
            refine P_bipush dX10_show_97 bp_28 ?_
            refine P_iload_n dX10_show_99 rfl ?_
            refine P_iadd dX10_show_100 ?_
            rw [ix28]
            refine P_callSp dX10_show_101 lkX10_64 okX10_placeOf ⟨Nat.le_of_ble_eq_true rfl, Nat.le_of_ble_eq_true rfl⟩ (m_placeOf l) rfl rfl (Nat.le_of_ble_eq_true rfl) ⟨Nat.le_of_ble_eq_true rfl, Nat.le_of_ble_eq_true rfl⟩ ?_
            refine P_lload dX10_show_104 rfl ?_
            refine P_l2i dX10_show_106 ?_
            refine P_iast dX10_show_107 hk.2.1 (vp_in_nI (by omega) (by decide)) ?_
            rw [nI_clamp (by omega)]
            refine P_iinc (L' := [_, _, _, _, _, _, _, _]) dX10_show_108 rfl (ii_1 _) (Nat.le_of_ble_eq_true rfl) rfl ?_
            rw [nI_1]
            refine P_goto (tgt := 23) dX10_show_111 (by decide) ?_
            refine P_loc ?_ (ih _ (t + 1) _ (by omega) hlt (kO.st (ρ := shR (gR σ) j (t + 1)) (Fr.set (a := 165) (n := 1) (by omega) (by omega)) (set_at hk.2.1) (rRow_E hk.2.2.1 (by omega) _) (sOk_shR hv.1 j (t + 1)).1) (hq.fr (Fr.set (a := 165) (n := 1) (by omega) (by omega)) (by decide)) (hF.tr (frM (by decide) (by decide))))
            rw [hc]
            simp only [subL, List.head?_cons, List.tail_cons]; and_intros <;> first | rfl | trivial
          · have hc : shC (gR σ) j (t + 1) = shC (gR σ) j t + 0 := (if_pos ((lg_cmp_eq _ _).mp c82)).trans (Int32.add_zero _).symm
            refine P_iconst dX10_show_85 ci_0 ?_
            refine P_goto (tgt := 90) dX10_show_86 (by decide) ?_
            refine P_iadd dX10_show_90 ?_
            refine P_istore_n (L' := [_, _, _, _, _, _, _, _]) dX10_show_91 (Nat.le_of_ble_eq_true rfl) rfl ?_
            refine P_aload_n dX10_show_92 rfl ?_
            refine P_get dX10_show_93 flX10_7 hk.1 rfl ?_
            refine P_iload_n dX10_show_96 rfl ?_
            refine P_bipush dX10_show_97 bp_28 ?_
            refine P_iload_n dX10_show_99 rfl ?_
            refine P_iadd dX10_show_100 ?_
            rw [ix28]
            refine P_callSp dX10_show_101 lkX10_64 okX10_placeOf ⟨Nat.le_of_ble_eq_true rfl, Nat.le_of_ble_eq_true rfl⟩ (m_placeOf l) rfl rfl (Nat.le_of_ble_eq_true rfl) ⟨Nat.le_of_ble_eq_true rfl, Nat.le_of_ble_eq_true rfl⟩ ?_
            refine P_lload dX10_show_104 rfl ?_
            refine P_l2i dX10_show_106 ?_
            refine P_iast dX10_show_107 hk.2.1 (vp_in_nI (by omega) (by decide)) ?_
            rw [nI_clamp (by omega)]
            refine P_iinc (L' := [_, _, _, _, _, _, _, _]) dX10_show_108 rfl (ii_1 _) (Nat.le_of_ble_eq_true rfl) rfl ?_
            rw [nI_1]
            refine P_goto (tgt := 23) dX10_show_111 (by decide) ?_
            refine P_loc ?_ (ih _ (t + 1) _ (by omega) hlt (kO.st (ρ := shR (gR σ) j (t + 1)) (Fr.set (a := 165) (n := 1) (by omega) (by omega)) (set_at hk.2.1) (rRow_E hk.2.2.1 (by omega) _) (sOk_shR hv.1 j (t + 1)).1) (hq.fr (Fr.set (a := 165) (n := 1) (by omega) (by omega)) (by decide)) (hF.tr (frM (by decide) (by decide))))
            rw [hc]
            simp only [subL, List.head?_cons, List.tail_cons]; and_intros <;> first | rfl | trivial
        · rw [lg_cmp_le] at c63
          have hsv : shv (OUT (gR σ) j t) = 9999 := shv_hi (Int64.not_le.mp c63)
          refine P_ldc2 dX10_show_66 kcX10_274 ?_
          refine P_goto (tgt := 74) dX10_show_69 (by decide) ?_
          refine (show ∀ v9 : Int64, v9 = shv (OUT (gR σ) j t) → WP mX10_show l (rmM mX10_show 0 0) (ZM 0 0 (fun a9 G' => a9 = some (.int (shC (gR σ) j (rT (gR σ)))) ∧ Mod G' (deed σ (shR (gR σ) j (rT (gR σ)))) ∧ Fr G0 G' 164 17)) XT 0 0 74 [some (.ref 164), some (.int (nI j)), some (.int (shC (gR σ) j t)), some (.int (nI t)), some (.long (OUT (gR σ) j t)), none, none, none] [.long v9] G from ?_) _ hsv.symm
          intro v9 e9
          subst e9
          refine P_lstore (L' := [_, _, _, _, _, _, _, _]) dX10_show_74 (Nat.le_of_ble_eq_true rfl) rfl ?_
          refine P_iload_n dX10_show_76 rfl ?_
          refine P_lload dX10_show_77 rfl ?_
          refine P_lload dX10_show_79 rfl ?_
          refine P_lcmp dX10_show_81 ?_
          refine P_if_ne (tgt := 89) dX10_show_82 (by decide) (fun c82 => ?_) (fun c82 => ?_)
          · have hc : shC (gR σ) j (t + 1) = shC (gR σ) j t + 1 := if_neg (fun z => c82 ((lg_cmp_eq _ _).mpr z))
            refine P_iconst dX10_show_89 ci_1 ?_
            refine P_iadd dX10_show_90 ?_
            refine P_istore_n (L' := [_, _, _, _, _, _, _, _]) dX10_show_91 (Nat.le_of_ble_eq_true rfl) rfl ?_
            refine P_aload_n dX10_show_92 rfl ?_
            refine P_get dX10_show_93 flX10_7 hk.1 rfl ?_
            refine P_iload_n dX10_show_96 rfl ?_
            refine P_bipush dX10_show_97 bp_28 ?_
            refine P_iload_n dX10_show_99 rfl ?_
            refine P_iadd dX10_show_100 ?_
            rw [ix28]
            refine P_callSp dX10_show_101 lkX10_64 okX10_placeOf ⟨Nat.le_of_ble_eq_true rfl, Nat.le_of_ble_eq_true rfl⟩ (m_placeOf l) rfl rfl (Nat.le_of_ble_eq_true rfl) ⟨Nat.le_of_ble_eq_true rfl, Nat.le_of_ble_eq_true rfl⟩ ?_
            refine P_lload dX10_show_104 rfl ?_
            refine P_l2i dX10_show_106 ?_
            refine P_iast dX10_show_107 hk.2.1 (vp_in_nI (by omega) (by decide)) ?_
            rw [nI_clamp (by omega)]
            refine P_iinc (L' := [_, _, _, _, _, _, _, _]) dX10_show_108 rfl (ii_1 _) (Nat.le_of_ble_eq_true rfl) rfl ?_
            rw [nI_1]
            refine P_goto (tgt := 23) dX10_show_111 (by decide) ?_
            refine P_loc ?_ (ih _ (t + 1) _ (by omega) hlt (kO.st (ρ := shR (gR σ) j (t + 1)) (Fr.set (a := 165) (n := 1) (by omega) (by omega)) (set_at hk.2.1) (rRow_E hk.2.2.1 (by omega) _) (sOk_shR hv.1 j (t + 1)).1) (hq.fr (Fr.set (a := 165) (n := 1) (by omega) (by omega)) (by decide)) (hF.tr (frM (by decide) (by decide))))
            rw [hc]
            simp only [subL, List.head?_cons, List.tail_cons]; and_intros <;> first | rfl | trivial
          · have hc : shC (gR σ) j (t + 1) = shC (gR σ) j t + 0 := (if_pos ((lg_cmp_eq _ _).mp c82)).trans (Int32.add_zero _).symm
            refine P_iconst dX10_show_85 ci_0 ?_
            refine P_goto (tgt := 90) dX10_show_86 (by decide) ?_
            refine P_iadd dX10_show_90 ?_
            refine P_istore_n (L' := [_, _, _, _, _, _, _, _]) dX10_show_91 (Nat.le_of_ble_eq_true rfl) rfl ?_
            refine P_aload_n dX10_show_92 rfl ?_
            refine P_get dX10_show_93 flX10_7 hk.1 rfl ?_
            refine P_iload_n dX10_show_96 rfl ?_
            refine P_bipush dX10_show_97 bp_28 ?_
            refine P_iload_n dX10_show_99 rfl ?_
            refine P_iadd dX10_show_100 ?_
            rw [ix28]
            refine P_callSp dX10_show_101 lkX10_64 okX10_placeOf ⟨Nat.le_of_ble_eq_true rfl, Nat.le_of_ble_eq_true rfl⟩ (m_placeOf l) rfl rfl (Nat.le_of_ble_eq_true rfl) ⟨Nat.le_of_ble_eq_true rfl, Nat.le_of_ble_eq_true rfl⟩ ?_
            refine P_lload dX10_show_104 rfl ?_
            refine P_l2i dX10_show_106 ?_
            refine P_iast dX10_show_107 hk.2.1 (vp_in_nI (by omega) (by decide)) ?_
            rw [nI_clamp (by omega)]
            refine P_iinc (L' := [_, _, _, _, _, _, _, _]) dX10_show_108 rfl (ii_1 _) (Nat.le_of_ble_eq_true rfl) rfl ?_
            rw [nI_1]
            refine P_goto (tgt := 23) dX10_show_111 (by decide) ?_
            refine P_loc ?_ (ih _ (t + 1) _ (by omega) hlt (kO.st (ρ := shR (gR σ) j (t + 1)) (Fr.set (a := 165) (n := 1) (by omega) (by omega)) (set_at hk.2.1) (rRow_E hk.2.2.1 (by omega) _) (sOk_shR hv.1 j (t + 1)).1) (hq.fr (Fr.set (a := 165) (n := 1) (by omega) (by omega)) (by decide)) (hF.tr (frM (by decide) (by decide))))
            rw [hc]
            simp only [subL, List.head?_cons, List.tail_cons]; and_intros <;> first | rfl | trivial
      · rw [lg_cmp_ge] at c50
        have hsv : shv (OUT (gR σ) j t) = 0 := shv_neg (Int64.not_le.mp c50)
        refine P_lconst dX10_show_53 lc_0 ?_
        refine P_goto (tgt := 74) dX10_show_54 (by decide) ?_
        refine (show ∀ v9 : Int64, v9 = shv (OUT (gR σ) j t) → WP mX10_show l (rmM mX10_show 0 0) (ZM 0 0 (fun a9 G' => a9 = some (.int (shC (gR σ) j (rT (gR σ)))) ∧ Mod G' (deed σ (shR (gR σ) j (rT (gR σ)))) ∧ Fr G0 G' 164 17)) XT 0 0 74 [some (.ref 164), some (.int (nI j)), some (.int (shC (gR σ) j t)), some (.int (nI t)), some (.long (OUT (gR σ) j t)), none, none, none] [.long v9] G from ?_) _ hsv.symm
        intro v9 e9
        subst e9
        refine P_lstore (L' := [_, _, _, _, _, _, _, _]) dX10_show_74 (Nat.le_of_ble_eq_true rfl) rfl ?_
        refine P_iload_n dX10_show_76 rfl ?_
        refine P_lload dX10_show_77 rfl ?_
        refine P_lload dX10_show_79 rfl ?_
        refine P_lcmp dX10_show_81 ?_
        refine P_if_ne (tgt := 89) dX10_show_82 (by decide) (fun c82 => ?_) (fun c82 => ?_)
        · have hc : shC (gR σ) j (t + 1) = shC (gR σ) j t + 1 := if_neg (fun z => c82 ((lg_cmp_eq _ _).mpr z))
          refine P_iconst dX10_show_89 ci_1 ?_
          refine P_iadd dX10_show_90 ?_
          refine P_istore_n (L' := [_, _, _, _, _, _, _, _]) dX10_show_91 (Nat.le_of_ble_eq_true rfl) rfl ?_
          refine P_aload_n dX10_show_92 rfl ?_
          refine P_get dX10_show_93 flX10_7 hk.1 rfl ?_
          refine P_iload_n dX10_show_96 rfl ?_
          refine P_bipush dX10_show_97 bp_28 ?_
          refine P_iload_n dX10_show_99 rfl ?_
          refine P_iadd dX10_show_100 ?_
          rw [ix28]
          refine P_callSp dX10_show_101 lkX10_64 okX10_placeOf ⟨Nat.le_of_ble_eq_true rfl, Nat.le_of_ble_eq_true rfl⟩ (m_placeOf l) rfl rfl (Nat.le_of_ble_eq_true rfl) ⟨Nat.le_of_ble_eq_true rfl, Nat.le_of_ble_eq_true rfl⟩ ?_
          refine P_lload dX10_show_104 rfl ?_
          refine P_l2i dX10_show_106 ?_
          refine P_iast dX10_show_107 hk.2.1 (vp_in_nI (by omega) (by decide)) ?_
          rw [nI_clamp (by omega)]
          refine P_iinc (L' := [_, _, _, _, _, _, _, _]) dX10_show_108 rfl (ii_1 _) (Nat.le_of_ble_eq_true rfl) rfl ?_
          rw [nI_1]
          refine P_goto (tgt := 23) dX10_show_111 (by decide) ?_
          refine P_loc ?_ (ih _ (t + 1) _ (by omega) hlt (kO.st (ρ := shR (gR σ) j (t + 1)) (Fr.set (a := 165) (n := 1) (by omega) (by omega)) (set_at hk.2.1) (rRow_E hk.2.2.1 (by omega) _) (sOk_shR hv.1 j (t + 1)).1) (hq.fr (Fr.set (a := 165) (n := 1) (by omega) (by omega)) (by decide)) (hF.tr (frM (by decide) (by decide))))
          rw [hc]
          simp only [subL, List.head?_cons, List.tail_cons]; and_intros <;> first | rfl | trivial
        · have hc : shC (gR σ) j (t + 1) = shC (gR σ) j t + 0 := (if_pos ((lg_cmp_eq _ _).mp c82)).trans (Int32.add_zero _).symm
          refine P_iconst dX10_show_85 ci_0 ?_
          refine P_goto (tgt := 90) dX10_show_86 (by decide) ?_
          refine P_iadd dX10_show_90 ?_
          refine P_istore_n (L' := [_, _, _, _, _, _, _, _]) dX10_show_91 (Nat.le_of_ble_eq_true rfl) rfl ?_
          refine P_aload_n dX10_show_92 rfl ?_
          refine P_get dX10_show_93 flX10_7 hk.1 rfl ?_
          refine P_iload_n dX10_show_96 rfl ?_
          refine P_bipush dX10_show_97 bp_28 ?_
          refine P_iload_n dX10_show_99 rfl ?_
          refine P_iadd dX10_show_100 ?_
          rw [ix28]
          refine P_callSp dX10_show_101 lkX10_64 okX10_placeOf ⟨Nat.le_of_ble_eq_true rfl, Nat.le_of_ble_eq_true rfl⟩ (m_placeOf l) rfl rfl (Nat.le_of_ble_eq_true rfl) ⟨Nat.le_of_ble_eq_true rfl, Nat.le_of_ble_eq_true rfl⟩ ?_
          refine P_lload dX10_show_104 rfl ?_
          refine P_l2i dX10_show_106 ?_
          refine P_iast dX10_show_107 hk.2.1 (vp_in_nI (by omega) (by decide)) ?_
          rw [nI_clamp (by omega)]
          refine P_iinc (L' := [_, _, _, _, _, _, _, _]) dX10_show_108 rfl (ii_1 _) (Nat.le_of_ble_eq_true rfl) rfl ?_
          rw [nI_1]
          refine P_goto (tgt := 23) dX10_show_111 (by decide) ?_
          refine P_loc ?_ (ih _ (t + 1) _ (by omega) hlt (kO.st (ρ := shR (gR σ) j (t + 1)) (Fr.set (a := 165) (n := 1) (by omega) (by omega)) (set_at hk.2.1) (rRow_E hk.2.2.1 (by omega) _) (sOk_shR hv.1 j (t + 1)).1) (hq.fr (Fr.set (a := 165) (n := 1) (by omega) (by omega)) (by decide)) (hF.tr (frM (by decide) (by decide))))
          rw [hc]
          simp only [subL, List.head?_cons, List.tail_cons]; and_intros <;> first | rfl | trivial
set_option maxHeartbeats 4000000 in
set_option maxRecDepth 100000 in
theorem d_show (l : Launch) {G : PH} {σ : Sg} {r0 : Int32} (k : Mod G σ) (hv : sVal σ) : Tri l mX10_show 0 0 [.ref 164, .int r0] G (fun a9 G' => a9 = some (.int (spShow σ r0).1) ∧ Mod G' (spShow σ r0).2 ∧ Fr G G' 164 17) := by
  obtain ⟨o, f, kO⟩ := id k
  obtain ⟨hk, h1, h2, h3, h4, h5, kR, ⟨⟨fi, fo, fs, fa, fb, km⟩, ⟨gs, gf, kl⟩, ⟨fm, kmd⟩⟩⟩ := id kO
  have hb := hv.1.1; have hvr := hv.1.2; have hN : rN (gR σ) ≤ 6 := hb.2.2.2.2; have hT : rT (gR σ) ≤ 24 := hb.2.1; have hT2 : 2 ≤ rT (gR σ) := hb.1
  refine Tri.intro (L := [_, _, _, _, _, _, _, _]) okX10_show.1 (Nat.le_of_ble_eq_true rfl) rfl ?_
  refine P_aload_n dX10_show_0 rfl ?_
  refine P_iload_n dX10_show_1 rfl ?_
  refine P_callVp dX10_show_2 lkX10_157 okX10_isReach ⟨Nat.le_of_ble_eq_true rfl, Nat.le_of_ble_eq_true rfl⟩ (m_isReach l hk.1 hk.2.1 hk.2.2.1 hb) rfl rfl hk.1 (Nat.le_of_ble_eq_true rfl) ⟨Nat.le_of_ble_eq_true rfl, Nat.le_of_ble_eq_true rfl⟩ ?_
  refine P_if_ne (tgt := 11) dX10_show_5 (by decide) (fun c5 => ?_) (fun c5 => ?_)
  · obtain ⟨j, hj, rfl⟩ := inN_of (b2y c5) (by omega)
    have hs : spShow σ (nI j) = (shC (gR σ) j (rT (gR σ)), deed σ (shR (gR σ) j (rT (gR σ)))) := by unfold spShow; rw [if_pos (inN_nI hj (by omega)), nI_clamp (by omega)]
    rw [hs]
    refine P_aload_n dX10_show_11 rfl ?_
    refine P_callV dX10_show_12 lkX10_255 okX10_notes ⟨Nat.le_of_ble_eq_true rfl, Nat.le_of_ble_eq_true rfl⟩ (m_notes l kO hv) rfl rfl hk.1 (Nat.le_of_ble_eq_true rfl) ⟨Nat.le_of_ble_eq_true rfl, Nat.le_of_ble_eq_true rfl⟩ (fun v12 G12 q12 => ?_)
    obtain ⟨rfl, ⟨o1, kO1⟩, hFn⟩ := q12
    have hk1 : mst G12 o1 f (gR σ) := kO1.1; have hFw : Fr G G12 164 17 := hFn.wide (by omega) (by omega)
    have km1 := km.fr hFn (by decide)
    refine P_aload_n dX10_show_15 rfl ?_
    refine P_callV dX10_show_16 lkX10_162 okX10_flowsNow ⟨Nat.le_of_ble_eq_true rfl, Nat.le_of_ble_eq_true rfl⟩ (m_flowsNow l hk1 km1 hvr) rfl rfl hk1.1 (Nat.le_of_ble_eq_true rfl) ⟨Nat.le_of_ble_eq_true rfl, Nat.le_of_ble_eq_true rfl⟩ (fun v16 G16 q16 => ?_)
    obtain ⟨rfl, hq, hF2⟩ := q16
    have kO2 : ModO G16 (deed σ (gR σ)) o1 f := by obtain ⟨a1, a2, a3, a4, a5, z, -⟩ := id hq; exact kO1.fl hF2 ⟨_, _, _, _, _, z⟩
    refine P_iconst dX10_show_19 ci_0 ?_
    refine P_istore_n (L' := [_, _, _, _, _, _, _, _]) dX10_show_20 (Nat.le_of_ble_eq_true rfl) rfl ?_
    refine P_iconst dX10_show_21 ci_0 ?_
    refine P_istore_n (L' := [_, _, _, _, _, _, _, _]) dX10_show_22 (Nat.le_of_ble_eq_true rfl) rfl ?_
    exact P_loc (by simp only [subL, List.head?_cons, List.tail_cons]; and_intros <;> first | rfl | trivial) (lp_mshow l hj hv (rT (gR σ) + 1) G16 0 f (by omega) (Nat.zero_le _) kO2 hq (hFw.tr (hF2.wide (by omega) (by omega))))
  · have e := (b2p _).mp c5
    have hs : spShow σ r0 = (UNK, σ) := by unfold spShow; rw [if_neg e]
    refine P_ldc dX10_show_8 kcX10_160 ?_
    exact P_iret dX10_show_10 rfl ⟨Nat.le_refl _, Nat.le_refl _⟩ ⟨by rw [hs], by rw [hs]; exact k, Fr.rf⟩
theorem draw_m {s : Nat} (h : s < 2 ^ 31) : (((nI s).toInt64 * 1103515245 + 12345) - ((nI s).toInt64 * 1103515245 + 12345) / 2147483648 * 2147483648).toInt32 = nI (nxS s) := by
  rw [nI_64 h, show (1103515245 : Int64) = lN 1103515245 from rfl, show (12345 : Int64) = lN 12345 from rfl, show (2147483648 : Int64) = lN 2147483648 from rfl, lN_mul, lN_add, pk_lRem (by omega) (by decide) (by decide), lN_i]
  rfl
theorem m_draws (l : Launch) {G : PH} {o : MV} {s m a9 : Nat} (ho : G[164]? = some (oM o)) (he : mS o = nI s) (hs : s < 2 ^ 31) (ea : nxS s = a9) (hx : a9 < 2 ^ 31) (hm : 0 < m) (hm2 : m < 100) : Tri l mX10_draws 0 0 [.ref 164, .int (nI m)] G (fun w G' => w = some (.int (nI (a9 / 65536 % m))) ∧ G' = G.set 164 (oM (oSd o (nI a9)))) := by
  refine Tri.intro (L := [_, _]) okX10_draws.1 (Nat.le_of_ble_eq_true rfl) rfl ?_
  refine P_aload_n dX10_draws_0 rfl ?_
  refine P_aload_n dX10_draws_1 rfl ?_
  refine P_get dX10_draws_2 flX10_267 ho rfl ?_
  rw [he]
  refine P_i2l dX10_draws_5 ?_
  refine P_ldc2 dX10_draws_6 kcX10_277 ?_
  refine P_lmul dX10_draws_9 ?_
  refine P_ldc2 dX10_draws_10 kcX10_279 ?_
  refine P_ladd dX10_draws_13 ?_
  refine P_ldc2 dX10_draws_14 kcX10_281 ?_
  refine P_lrem dX10_draws_17 (by decide) ?_
  refine P_l2i dX10_draws_18 ?_
  rw [draw_m hs, ea]
  refine P_putI dX10_draws_19 flX10_267 ho (Nat.le_of_ble_eq_true rfl) ?_
  refine P_aload_n dX10_draws_22 rfl ?_
  refine P_get dX10_draws_23 flX10_267 (set_at ho) rfl ?_
  refine P_ldcw dX10_draws_26 kcX10_283 ?_
  refine P_idiv dX10_draws_29 (by decide) ?_
  refine P_iload_n dX10_draws_30 rfl ?_
  refine P_irem dX10_draws_31 (nI_ne0 hm (by omega)) ?_
  rw [show (65536 : Int32) = nI 65536 from rfl, pk_div (by omega) (by decide) (by decide), pk_rem (by omega) hm (by omega)]
  exact P_iret dX10_draws_32 rfl ⟨Nat.le_refl _, Nat.le_refl _⟩ ⟨rfl, rfl⟩
set_option maxHeartbeats 4000000 in
set_option maxRecDepth 100000 in
theorem lp_mdrift (l : Launch) {σ : Sg} {G0 : PH} {n0 : Nat} (hv0 : sVal σ) (hn0 : n0 ≤ 20) : ∀ (n : Nat) (G : PH) (i : Nat), n0 - i < n → i ≤ n0 → Mod G (drN σ i) → Fr G0 G 164 17 → WP mX10_drift l (rmM mX10_drift 0 0) (ZM 0 0 (fun a9 G' => a9 = some (.int (nI (gS (drN σ n0)))) ∧ Mod G' (drN σ n0) ∧ Fr G0 G' 164 17)) XT 0 0 15 [some (.ref 164), some (.int (nI n0)), some (.int (nI i)), none, none] [] G := by
  intro n
  induction n with
  | zero => intro G  i hn hi k hF0; exact absurd hn (Nat.not_lt_zero _)
  | succ n ih =>
    intro G  i hn hi k hF0
    have hv := sVal_drN hv0 i
    generalize hσ : drN σ i = τ at k hv
    obtain ⟨a9, b9, c9, ea, eb, ec, la, lb, lc⟩ := nx3 (gS τ)
    obtain ⟨o, f, kO⟩ := id k
    obtain ⟨hk, h1, h2, h3, h4, h5, kR, ⟨⟨fi, fo, fs, fa, fb, km⟩, ⟨gs, gf, kl⟩, ⟨fm, kmd⟩⟩⟩ := id kO
    have hb := hv.1.1; have hvr := hv.1.2; have hN : rN (gR τ) ≤ 6 := hb.2.2.2.2; have hT : rT (gR τ) ≤ 24 := hb.2.1; have hT2 : 2 ≤ rT (gR τ) := hb.1
    refine P_iload_n dX10_drift_15 rfl ?_
    refine P_iload_n dX10_drift_16 rfl ?_
    refine P_icmp_ge (tgt := 84) dX10_drift_17 (by decide) (fun c17 => ?_) (fun c17 => ?_)
    · have hi2 : i = n0 := Nat.le_antisymm hi (Nat.not_lt.mp fun z => nI_ge z (by omega) c17)
      subst hi2
      refine P_aload_n dX10_drift_84 rfl ?_
      refine P_get dX10_drift_85 flX10_267 hk.1 rfl ?_
      exact P_iret dX10_drift_88 rfl ⟨Nat.le_refl _, Nat.le_refl _⟩ ⟨by rw [hσ, h2], by rw [hσ]; exact k, hF0⟩
    · have hlt : i < n0 := Nat.not_le.mp fun z => c17 (nI_le z (by omega))
      refine P_aload_n dX10_drift_20 rfl ?_
      refine P_get dX10_drift_21 flX10_7 hk.1 rfl ?_
      refine P_iconst dX10_drift_24 ci_2 ?_
      refine P_iald dX10_drift_25 hk.2.1 (vp_in_nI (show 2 < 315 by decide) (by decide)) ?_
      rw [show f (Int32.toNatClampNeg 2) = nI (rN (gR τ)) from hk.2.2.1.2.2.1]
      refine P_if_le (tgt := 84) dX10_drift_26 (by decide) (fun c26 => ?_) (fun c26 => ?_)
      · have h0 : rN (gR τ) = 0 := Classical.byContradiction fun z => nI_nle (Nat.pos_of_ne_zero z) (by omega) c26
        obtain ⟨m, rfl⟩ : ∃ m, n0 = i + m := ⟨n0 - i, by omega⟩
        have hσ := (drN_stop (σ := σ) (i := i) (by rw [hσ]; exact h0) m).trans hσ
        refine P_aload_n dX10_drift_84 rfl ?_
        refine P_get dX10_drift_85 flX10_267 hk.1 rfl ?_
        exact P_iret dX10_drift_88 rfl ⟨Nat.le_refl _, Nat.le_refl _⟩ ⟨by rw [hσ, h2], by rw [hσ]; exact k, hF0⟩
      · have h0 : 0 < rN (gR τ) := Nat.pos_of_ne_zero fun z => c26 (by rw [z]; exact Int32.le_refl _)
        refine P_aload_n dX10_drift_29 rfl ?_
        refine P_callV dX10_drift_30 lkX10_255 okX10_notes ⟨Nat.le_of_ble_eq_true rfl, Nat.le_of_ble_eq_true rfl⟩ (m_notes l kO hv) rfl rfl hk.1 (Nat.le_of_ble_eq_true rfl) ⟨Nat.le_of_ble_eq_true rfl, Nat.le_of_ble_eq_true rfl⟩ (fun v30 G30 q30 => ?_)
        obtain ⟨rfl, ⟨o1, kO1⟩, hFn⟩ := q30
        have hk1 : mst G30 o1 f (gR τ) := kO1.1; have hFw : Fr G G30 164 17 := hFn.wide (by omega) (by omega)
        refine P_aload_n dX10_drift_33 rfl ?_
        refine P_aload_n dX10_drift_34 rfl ?_
        refine P_get dX10_drift_35 flX10_7 hk1.1 rfl ?_
        refine P_iconst dX10_drift_38 ci_2 ?_
        refine P_iald dX10_drift_39 hk1.2.1 (vp_in_nI (show 2 < 315 by decide) (by decide)) ?_
        rw [show f (Int32.toNatClampNeg 2) = nI (rN (gR τ)) from hk.2.2.1.2.2.1]
        refine P_callV dX10_drift_40 lkX10_284 okX10_draws ⟨Nat.le_of_ble_eq_true rfl, Nat.le_of_ble_eq_true rfl⟩ (m_draws (s := gS τ) l hk1.1 (show mS o1 = nI (gS τ) from kO1.2.2.1) hv.2.2.2.2.2.1 ea la h0 (by omega)) rfl rfl hk1.1 (Nat.le_of_ble_eq_true rfl) ⟨Nat.le_of_ble_eq_true rfl, Nat.le_of_ble_eq_true rfl⟩ (fun v40 G40 q40 => ?_)
        obtain ⟨rfl, rfl⟩ := q40
        have kO2 : ModO (G30.set 164 (oM (oSd o1 (nI a9)))) (sgS (sgP τ (min 16 (gP τ + 1)) (psA (gQ τ) (gR τ))) a9) (oSd o1 (nI a9)) f := kO1.ob rfl kO1.2.1 rfl kO1.2.2.2.1 kO1.2.2.2.2.1 kO1.2.2.2.2.2.1 kO1.2.2.2.2.2.2.1
        refine P_istore_n (L' := [_, _, _, _, _]) dX10_drift_43 (Nat.le_of_ble_eq_true rfl) rfl ?_
        refine P_aload_n dX10_drift_44 rfl ?_
        refine P_aload_n dX10_drift_45 rfl ?_
        refine P_get dX10_drift_46 flX10_7 kO2.1.1 rfl ?_
        refine P_iconst dX10_drift_49 ci_0 ?_
        refine P_iald dX10_drift_50 kO2.1.2.1 (vp_in_nI (show 0 < 315 by decide) (by decide)) ?_
        rw [show f (Int32.toNatClampNeg 0) = nI (rT (gR τ)) from hk.2.2.1.1]
        refine P_callV dX10_drift_51 lkX10_284 okX10_draws ⟨Nat.le_of_ble_eq_true rfl, Nat.le_of_ble_eq_true rfl⟩ (m_draws (s := a9) l kO2.1.1 rfl la eb lb (by omega) (by omega)) rfl rfl kO2.1.1 (Nat.le_of_ble_eq_true rfl) ⟨Nat.le_of_ble_eq_true rfl, Nat.le_of_ble_eq_true rfl⟩ (fun v51 G51 q51 => ?_)
        obtain ⟨rfl, rfl⟩ := q51
        have kO3 := kO2.ob (σ' := sgS (sgP τ (min 16 (gP τ + 1)) (psA (gQ τ) (gR τ))) b9) (o' := oSd (oSd o1 (nI a9)) (nI b9)) rfl kO1.2.1 rfl kO1.2.2.2.1 kO1.2.2.2.2.1 kO1.2.2.2.2.2.1 kO2.2.2.2.2.2.2.1
        refine P_istore (L' := [_, _, _, _, _]) dX10_drift_54 (Nat.le_of_ble_eq_true rfl) rfl ?_
        refine P_aload_n dX10_drift_56 rfl ?_
        refine P_get dX10_drift_57 flX10_7 kO3.1.1 rfl ?_
        refine P_iload_n dX10_drift_60 rfl ?_
        refine P_iconst dX10_drift_61 ci_4 ?_
        refine P_iload dX10_drift_62 rfl ?_
        refine P_iadd dX10_drift_64 ?_
        rw [ix4]
        refine P_callSp dX10_drift_65 lkX10_64 okX10_placeOf ⟨Nat.le_of_ble_eq_true rfl, Nat.le_of_ble_eq_true rfl⟩ (m_placeOf l) rfl rfl (Nat.le_of_ble_eq_true rfl) ⟨Nat.le_of_ble_eq_true rfl, Nat.le_of_ble_eq_true rfl⟩ ?_
        refine P_bipush dX10_drift_68 bp_11 ?_
        refine P_aload_n dX10_drift_70 rfl ?_
        refine P_bipush dX10_drift_71 bp_10 ?_
        refine P_callV dX10_drift_73 lkX10_284 okX10_draws ⟨Nat.le_of_ble_eq_true rfl, Nat.le_of_ble_eq_true rfl⟩ (m_draws (s := b9) (m := 10) l kO3.1.1 rfl lb ec lc (by omega) (by omega)) rfl rfl kO3.1.1 (Nat.le_of_ble_eq_true rfl) ⟨Nat.le_of_ble_eq_true rfl, Nat.le_of_ble_eq_true rfl⟩ (fun v73 G73 q73 => ?_)
        obtain ⟨rfl, rfl⟩ := q73
        have kO4 := kO3.ob (σ' := sgS (sgP τ (min 16 (gP τ + 1)) (psA (gQ τ) (gR τ))) c9) (o' := oSd (oSd (oSd o1 (nI a9)) (nI b9)) (nI c9)) rfl kO1.2.1 rfl kO1.2.2.2.1 kO1.2.2.2.2.1 kO1.2.2.2.2.2.1 kO3.2.2.2.2.2.2.1
        have m1 := Nat.mod_lt (a9 / 65536) h0; have m2 := Nat.mod_lt (b9 / 65536) (show 0 < rT (gR τ) by omega)
        refine P_imul dX10_drift_76 ?_
        rw [show (11 : Int32) * nI (c9 / 65536 % 10) = nI (11 * (c9 / 65536 % 10)) from (Int32.ofNat_mul 11 _).symm]
        refine P_iast dX10_drift_77 kO4.1.2.1 (vp_in_nI (by omega) (by decide)) ?_
        rw [nI_clamp (by omega)]
        have kO5 := kO4.st (ρ := rvS (gR τ) (a9 / 65536 % rN (gR τ)) (b9 / 65536 % rT (gR τ)) (nI (11 * (c9 / 65536 % 10)))) (Fr.set (a := 165) (n := 1) (by omega) (by omega)) (set_at kO4.1.2.1) (rRow_S hk.2.2.1 (by omega) _) hb
        have ed : drN σ (i + 1) = sgR (sgS (sgP τ (min 16 (gP τ + 1)) (psA (gQ τ) (gR τ))) c9) (rvS (gR τ) (a9 / 65536 % rN (gR τ)) (b9 / 65536 % rT (gR τ)) (nI (11 * (c9 / 65536 % 10)))) := by
          show dr1 (drN σ i) = _
          rw [hσ, dr1_eq (Nat.pos_iff_ne_zero.mp h0) ea eb ec]
          rfl
        have ke := (⟨_, _, kO5⟩ : Mod _ _)
        rw [← ed] at ke
        refine P_iinc (L' := [_, _, _, _, _]) dX10_drift_78 rfl (ii_1 _) (Nat.le_of_ble_eq_true rfl) rfl ?_
        rw [nI_1]
        refine P_goto (tgt := 15) dX10_drift_81 (by decide) ?_
        refine P_loc ?_ (ih _ (i + 1) (by omega) hlt ke (hF0.tr (hFw.tr ((frM (by decide) (by decide)).tr ((frM (by decide) (by decide)).tr ((frM (by decide) (by decide)).tr (frM (by decide) (by decide))))))))
        · simp only [subL, List.head?_cons, List.tail_cons]; and_intros <;> first | rfl | trivial
set_option maxHeartbeats 4000000 in
set_option maxRecDepth 100000 in
theorem d_drift (l : Launch) {G : PH} {σ : Sg} {t0 : Int32} (k : Mod G σ) (hv : sVal σ) : Tri l mX10_drift 0 0 [.ref 164, .int t0] G (fun a9 G' => a9 = some (.int (spDrift σ t0).1) ∧ Mod G' (spDrift σ t0).2 ∧ Fr G G' 164 17) := by
  refine Tri.intro (L := [_, _, _, _, _]) okX10_drift.1 (Nat.le_of_ble_eq_true rfl) rfl ?_
  refine P_iload_n dX10_drift_0 rfl ?_
  refine P_iconst dX10_drift_1 ci_1 ?_
  refine P_bipush dX10_drift_2 bp_20 ?_
  refine P_callSp dX10_drift_4 lkX10_68 okX10_in ⟨Nat.le_of_ble_eq_true rfl, Nat.le_of_ble_eq_true rfl⟩ (m_in l) rfl rfl (Nat.le_of_ble_eq_true rfl) ⟨Nat.le_of_ble_eq_true rfl, Nat.le_of_ble_eq_true rfl⟩ ?_
  refine P_if_ne (tgt := 13) dX10_drift_7 (by decide) (fun c7 => ?_) (fun c7 => ?_)
  · have e := b2w c7
    obtain ⟨t, ht1, ht2, rfl⟩ := ob_nat (a := 1) (b := 20) (by omega) (by omega) e
    have hs : spDrift σ (nI t) = (nI (gS (drN σ t)), drN σ t) := by unfold spDrift; rw [if_neg e, nI_clamp (by omega)]
    rw [hs]
    refine P_iconst dX10_drift_13 ci_0 ?_
    refine P_istore_n (L' := [_, _, _, _, _]) dX10_drift_14 (Nat.le_of_ble_eq_true rfl) rfl ?_
    exact P_loc (by simp only [subL, List.head?_cons, List.tail_cons]; and_intros <;> first | rfl | trivial) (lp_mdrift l hv ht2 (t + 1) G 0 (by omega) (Nat.zero_le _) k Fr.rf)
  · have hs : spDrift σ t0 = (OUTS, σ) := by unfold spDrift; rw [if_pos (b2z c7)]
    refine P_ldc dX10_drift_10 kcX10_161 ?_
    exact P_iret dX10_drift_12 rfl ⟨Nat.le_refl _, Nat.le_refl _⟩ ⟨by rw [hs], by rw [hs]; exact k, Fr.rf⟩
