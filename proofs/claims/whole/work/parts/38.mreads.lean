/-! the whole plain form holds a state -/
def mPast (G : PH) (n : Nat) (ps : Nat → Riv) : Prop := ∃ f, G[166]? = some (aI 5040 f) ∧ ∀ j, j < n → rRow (ps j) (fun i => f (315 * (n - 1 - j) + i))
def mImg (G : PH) (im : Nat → Option (Riv × Nat)) : Prop := ∃ f g, G[167]? = some (aI 632 f) ∧ G[168]? = some (aZ 2 g) ∧ ∀ i, i < 2 → (im i = none → g i = 0) ∧ ∀ q, im i = some q → ¬ g i = 0 ∧ rRow q.1 (fun j => f (316 * i + j)) ∧ f (316 * i + 315) = nI q.2
def mBook (G : PH) (c : Nat) (b : Bk) : Prop := ∃ f g h, G[169]? = some (aI 20 f) ∧ G[170]? = some (aI 20 g) ∧ G[171]? = some (aJ 20 h) ∧ ∀ i, i < c → (b i).1 < 2 ^ 31 ∧ (b i).2.1 < 2 ^ 31 ∧ f i = nI (b i).1 ∧ g i = nI (b i).2.1 ∧ h i = (b i).2.2
def mTxt (G : PH) (n : Nat) (tx : Nat → Int32) : Prop := ∃ f, G[172]? = some (aI 200 f) ∧ ∀ i, i < n → f i = tx i
def mRest (G : PH) (σ : Sg) : Prop := mPast G (gP σ) (gQ σ) ∧ mImg G (gI σ) ∧ mBook G (gC σ) (gB σ) ∧ mTxt G (gN σ) (gX σ)
def mScr (G : PH) : Prop := (∃ fi fo fs fa fb, mfl G fi fo fs fa fb) ∧ (∃ gs gf, ml2 G gs gf) ∧ ∃ f, G[180]? = some (aI 315 f)
def ModO (G : PH) (σ : Sg) (o : MV) (f : Nat → Int32) : Prop := mst G o f (gR σ) ∧ mD o = nI (gP σ) ∧ mS o = nI (gS σ) ∧ mE o = nI (gC σ) ∧ mL o = nI (gN σ) ∧ mF o = gF σ ∧ mRest G σ ∧ mScr G
def Mod (G : PH) (σ : Sg) : Prop := ∃ o f, ModO G σ o f
theorem mPast.sm {G G' : PH} {n : Nat} {ps : Nat → Riv} (k : mPast G n ps) (h : G'[166]? = G[166]?) : mPast G' n ps := by
  obtain ⟨f, a, b⟩ := k; exact ⟨f, h.trans a, b⟩
theorem mImg.sm {G G' : PH} {im : Nat → Option (Riv × Nat)} (k : mImg G im) (h : G'[167]? = G[167]?) (h2 : G'[168]? = G[168]?) : mImg G' im := by
  obtain ⟨f, g, a, b, c⟩ := k; exact ⟨f, g, h.trans a, h2.trans b, c⟩
theorem mBook.sm {G G' : PH} {c : Nat} {b : Bk} (k : mBook G c b) (h : G'[169]? = G[169]?) (h2 : G'[170]? = G[170]?) (h3 : G'[171]? = G[171]?) : mBook G' c b := by
  obtain ⟨f, g, h0, a, b, c, d⟩ := k; exact ⟨f, g, h0, h.trans a, h2.trans b, h3.trans c, d⟩
theorem mTxt.sm {G G' : PH} {n : Nat} {tx : Nat → Int32} (k : mTxt G n tx) (h : G'[172]? = G[172]?) : mTxt G' n tx := by
  obtain ⟨f, a, b⟩ := k; exact ⟨f, h.trans a, b⟩
theorem mRest.sm {G G' : PH} {σ : Sg} (k : mRest G σ) (h : ∀ x, 166 ≤ x → x < 173 → G'[x]? = G[x]?) : mRest G' σ :=
  ⟨k.1.sm (h _ (by decide) (by decide)), k.2.1.sm (h _ (by decide) (by decide)) (h _ (by decide) (by decide)), k.2.2.1.sm (h _ (by decide) (by decide)) (h _ (by decide) (by decide)) (h _ (by decide) (by decide)), k.2.2.2.sm (h _ (by decide) (by decide))⟩
theorem ModO.rd {G G' : PH} {σ : Sg} {o o' : MV} {f : Nat → Int32} (k : ModO G σ o f) (hr : ∀ x, 166 ≤ x → x < 173 → G'[x]? = G[x]?) (hk : mst G' o' f (gR σ)) (e : oS o o') (hs : mScr G') : ModO G' σ o' f :=
  ⟨hk, e.1.trans k.2.1, e.2.1.trans k.2.2.1, e.2.2.1.trans k.2.2.2.1, e.2.2.2.1.trans k.2.2.2.2.1, e.2.2.2.2.trans k.2.2.2.2.2.1, k.2.2.2.2.2.2.1.sm hr, hs⟩
theorem ModO.fl {G G' : PH} {σ : Sg} {o : MV} {f : Nat → Int32} (k : ModO G σ o f) (hF : Fr G G' 173 5) (km : ∃ fi fo fs fa fb, mfl G' fi fo fs fa fb) : ModO G' σ o f := by
  obtain ⟨-, ⟨gs, gf, kl⟩, fm, kd⟩ := k.2.2.2.2.2.2.2
  exact k.rd (fun x h1 h2 => hF.2 x (by omega)) (k.1.fr hF (by decide)) oS.rf ⟨km, ⟨gs, gf, hF.at kl.1 (by decide), hF.at kl.2 (by decide)⟩, fm, hF.at kd (by decide)⟩
theorem ModO.lp {G G' : PH} {σ : Sg} {o : MV} {f : Nat → Int32} (k : ModO G σ o f) (hF : Fr G G' 178 2) (kl : ∃ gs gf, ml2 G' gs gf) : ModO G' σ o f := by
  obtain ⟨⟨fi, fo, fs, fa, fb, km⟩, -, fm, kd⟩ := k.2.2.2.2.2.2.2
  exact k.rd (fun x h1 h2 => hF.2 x (by omega)) (k.1.fr hF (by decide)) oS.rf ⟨⟨fi, fo, fs, fa, fb, km.fr hF (by decide)⟩, kl, fm, hF.at kd (by decide)⟩
theorem ModO.bs {G G' : PH} {σ : Sg} {o o' : MV} {f : Nat → Int32} (k : ModO G σ o f) (hF : Fr2 G G' 164 1 173 5) (hk : mst G' o' f (gR σ)) (e : oS o o') (km : ∃ fi fo fs fa fb, mfl G' fi fo fs fa fb) : ModO G' σ o' f := by
  obtain ⟨-, ⟨gs, gf, kl⟩, fm, kd⟩ := k.2.2.2.2.2.2.2
  exact k.rd (fun x h1 h2 => hF.2 x (by omega) (by omega)) hk e ⟨km, ⟨gs, gf, hF.at kl.1 (by decide) (by decide), hF.at kl.2 (by decide) (by decide)⟩, fm, hF.at kd (by decide) (by decide)⟩
theorem fr2w {G G' : PH} (h : Fr2 G G' 164 1 173 5) : Fr G G' 164 17 := ⟨h.1, fun x hx => h.2 x (by omega) (by omega)⟩
set_option maxHeartbeats 4000000 in
set_option maxRecDepth 100000 in
theorem m_fitted (l : Launch) {G : PH} {σ : Sg} {o : MV} {f : Nat → Int32} {r : Nat} {fi fo fs fa fb : Nat → Int64} {wh : Int32} (kO : ModO G σ o f) (hv : sVal σ) (km : mfl G fi fo fs fa fb) (hr : r < rN (gR σ)) (hin : ∀ j, j < rT (gR σ) → fi (24 * r + j) = INN (gR σ) r j) (hw : wh = 8 ∨ wh = 9 ∨ wh = 10 ∨ wh = 11) : Tri l mX10_fitted 0 0 [.ref 164, .int (nI r), .int wh] G (fun a9 G' => a9 = some (.int (spFit (gR σ) r wh)) ∧ Mod G' σ ∧ Fr G G' 164 17) := by
  have hk := kO.1; have hb := hv.1.1; have hvr := hv.1.2; have hN : rN (gR σ) ≤ 6 := hb.2.2.2.2
  obtain ⟨gs, gf, kl⟩ := kO.2.2.2.2.2.2.2.2.1
  refine Tri.intro (L := [_, _, _]) okX10_fitted.1 (Nat.le_of_ble_eq_true rfl) rfl ?_
  refine P_aload_n dX10_fitted_0 rfl ?_
  refine P_iload_n dX10_fitted_1 rfl ?_
  refine P_callVp dX10_fitted_2 lkX10_146 okX10_isFit ⟨Nat.le_of_ble_eq_true rfl, Nat.le_of_ble_eq_true rfl⟩ (m_isFit l hk km.1 hr hin) rfl rfl hk.1 (Nat.le_of_ble_eq_true rfl) ⟨Nat.le_of_ble_eq_true rfl, Nat.le_of_ble_eq_true rfl⟩ ?_
  refine P_if_ne (tgt := 10) dX10_fitted_5 (by decide) (fun c5 => ?_) (fun c5 => ?_)
  · have e := b2y c5
    refine P_iload_n dX10_fitted_10 rfl ?_
    refine P_bipush dX10_fitted_11 bp_10 ?_
    refine P_icmp_ge (tgt := 36) dX10_fitted_13 (by decide) (fun c13 => ?_) (fun c13 => ?_)
    · have n8 : ¬ wh = 8 := fun z => by rw [z] at c13; exact absurd c13 (by decide)
      have n9 : ¬ wh = 9 := fun z => by rw [z] at c13; exact absurd c13 (by decide)
      refine P_aload_n dX10_fitted_36 rfl ?_
      refine P_iload_n dX10_fitted_37 rfl ?_
      refine P_callV dX10_fitted_38 lkX10_153 okX10_best ⟨Nat.le_of_ble_eq_true rfl, Nat.le_of_ble_eq_true rfl⟩ (m_best l hk km hr hvr e hin) rfl rfl hk.1 (Nat.le_of_ble_eq_true rfl) ⟨Nat.le_of_ble_eq_true rfl, Nat.le_of_ble_eq_true rfl⟩ (fun v38 G38 q38 => ?_)
      obtain ⟨rfl, ⟨o2, hk2, eK, eX, eo⟩, ⟨a1, a2, a3, a4, km2⟩, hF2⟩ := q38
      have kO2 := kO.bs hF2 hk2 eo ⟨_, _, _, _, _, km2⟩
      refine P_pop2 dX10_fitted_41 rfl ?_
      refine P_iload_n dX10_fitted_42 rfl ?_
      refine P_bipush dX10_fitted_43 bp_10 ?_
      refine P_icmp_ne (tgt := 55) dX10_fitted_45 (by decide) (fun c45 => ?_) (fun c45 => ?_)
      · have hs : spFit (gR σ) r wh = mX o2 := by unfold spFit; rw [if_pos e, if_neg n8, if_neg n9, if_neg c45, eX]
        refine P_aload_n dX10_fitted_55 rfl ?_
        refine P_get dX10_fitted_56 flX10_143 hk2.1 rfl ?_
        exact P_iret dX10_fitted_59 rfl ⟨Nat.le_refl _, Nat.le_refl _⟩ ⟨by rw [hs], ⟨_, _, kO2⟩, fr2w hF2⟩
      · have hs : spFit (gR σ) r wh = mK o2 := by unfold spFit; rw [if_pos e, if_neg n8, if_neg n9, if_pos c45, eK]
        refine P_aload_n dX10_fitted_48 rfl ?_
        refine P_get dX10_fitted_49 flX10_140 hk2.1 rfl ?_
        refine P_goto (tgt := 59) dX10_fitted_52 (by decide) ?_
        exact P_iret dX10_fitted_59 rfl ⟨Nat.le_refl _, Nat.le_refl _⟩ ⟨by rw [hs], ⟨_, _, kO2⟩, fr2w hF2⟩
    · refine P_iload_n dX10_fitted_16 rfl ?_
      refine P_bipush dX10_fitted_17 bp_8 ?_
      refine P_icmp_ne (tgt := 30) dX10_fitted_19 (by decide) (fun c19 => ?_) (fun c19 => ?_)
      · have hw9 : wh = 9 := by rcases hw with z | z | z | z; exact absurd z c19; exact z; rw [z] at c13; exact absurd (by decide) c13; rw [z] at c13; exact absurd (by decide) c13
        have hs : spFit (gR σ) r wh = lnS (gR σ) r (nI (nwS (gR σ) r 10).1) := by unfold spFit; rw [if_pos e, if_neg c19, if_pos hw9]
        refine P_aload_n dX10_fitted_30 rfl ?_
        refine P_iload_n dX10_fitted_31 rfl ?_
        refine P_callV dX10_fitted_32 lkX10_150 okX10_lean ⟨Nat.le_of_ble_eq_true rfl, Nat.le_of_ble_eq_true rfl⟩ (m_lean l hk km.1 kl hr hvr hin e) rfl rfl hk.1 (Nat.le_of_ble_eq_true rfl) ⟨Nat.le_of_ble_eq_true rfl, Nat.le_of_ble_eq_true rfl⟩ (fun v32 G32 q32 => ?_)
        obtain ⟨rfl, kl1, hF1⟩ := q32
        exact P_iret dX10_fitted_35 rfl ⟨Nat.le_refl _, Nat.le_refl _⟩ ⟨by rw [hs], ⟨o, f, kO.lp hF1 kl1⟩, hF1.wide (by omega) (by omega)⟩
      · have hs : spFit (gR σ) r wh = nI (nwS (gR σ) r 10).1 := by unfold spFit; rw [if_pos e, if_pos c19]
        refine P_aload_n dX10_fitted_22 rfl ?_
        refine P_iload_n dX10_fitted_23 rfl ?_
        refine P_callV dX10_fitted_24 lkX10_118 okX10_narrowest ⟨Nat.le_of_ble_eq_true rfl, Nat.le_of_ble_eq_true rfl⟩ (m_narrowest l hk km.1 kl hr hvr hin) rfl rfl hk.1 (Nat.le_of_ble_eq_true rfl) ⟨Nat.le_of_ble_eq_true rfl, Nat.le_of_ble_eq_true rfl⟩ (fun v24 G24 q24 => ?_)
        obtain ⟨rfl, kl1, hF1⟩ := q24
        refine P_goto (tgt := 35) dX10_fitted_27 (by decide) ?_
        exact P_iret dX10_fitted_35 rfl ⟨Nat.le_refl _, Nat.le_refl _⟩ ⟨by rw [hs], ⟨o, f, kO.lp hF1 kl1⟩, hF1.wide (by omega) (by omega)⟩
  · have e := (b2p _).mp c5
    have hs : spFit (gR σ) r wh = -1 := by unfold spFit; rw [if_neg e]
    refine P_iconst dX10_fitted_8 ci_m1 ?_
    exact P_iret dX10_fitted_9 rfl ⟨Nat.le_refl _, Nat.le_refl _⟩ ⟨by rw [hs], ⟨o, f, kO⟩, Fr.rf⟩
set_option maxHeartbeats 4000000 in
set_option maxRecDepth 100000 in
theorem m_fittedSum (l : Launch) {G : PH} {σ : Sg} {o : MV} {f : Nat → Int32} {r : Nat} {fi fo fs fa fb : Nat → Int64} {wh : Int32} (kO : ModO G σ o f) (hv : sVal σ) (km : mfl G fi fo fs fa fb) (hr : r < rN (gR σ)) (hin : ∀ j, j < rT (gR σ) → fi (24 * r + j) = INN (gR σ) r j) : Tri l mX10_fittedSum 0 0 [.ref 164, .int (nI r), .int wh] G (fun a9 G' => a9 = some (.long (spFts (gR σ) r wh)) ∧ Mod G' σ ∧ Fr G G' 164 17) := by
  have hk := kO.1; have hb := hv.1.1; have hvr := hv.1.2; have hN : rN (gR σ) ≤ 6 := hb.2.2.2.2
  obtain ⟨gs, gf, kl⟩ := kO.2.2.2.2.2.2.2.2.1
  obtain ⟨-, ⟨kk, hk2, ek⟩, ⟨xx, hx2, ex⟩, -, -⟩ := hvr r hr
  refine Tri.intro (L := [_, _, _, _, _]) okX10_fittedSum.1 (Nat.le_of_ble_eq_true rfl) rfl ?_
  refine P_aload_n dX10_fittedSum_0 rfl ?_
  refine P_iload_n dX10_fittedSum_1 rfl ?_
  refine P_callVp dX10_fittedSum_2 lkX10_146 okX10_isFit ⟨Nat.le_of_ble_eq_true rfl, Nat.le_of_ble_eq_true rfl⟩ (m_isFit l hk km.1 hr hin) rfl rfl hk.1 (Nat.le_of_ble_eq_true rfl) ⟨Nat.le_of_ble_eq_true rfl, Nat.le_of_ble_eq_true rfl⟩ ?_
  refine P_if_ne (tgt := 12) dX10_fittedSum_5 (by decide) (fun c5 => ?_) (fun c5 => ?_)
  · have e := b2y c5
    refine P_aload_n dX10_fittedSum_12 rfl ?_
    refine P_iload_n dX10_fittedSum_13 rfl ?_
    refine P_iconst dX10_fittedSum_14 ci_1 ?_
    refine P_callVp dX10_fittedSum_15 lkX10_95 okX10_of ⟨Nat.le_of_ble_eq_true rfl, Nat.le_of_ble_eq_true rfl⟩ (m_of (i := 1) l hk.1 hk.2.1 (by omega)) rfl rfl hk.1 (Nat.le_of_ble_eq_true rfl) ⟨Nat.le_of_ble_eq_true rfl, Nat.le_of_ble_eq_true rfl⟩ ?_
    rw [(hk.2.2.1.2.2.2 r hr).1 1 (by decide), ek]
    refine P_istore_n (L' := [_, _, _, _, _]) dX10_fittedSum_18 (Nat.le_of_ble_eq_true rfl) rfl ?_
    refine P_aload_n dX10_fittedSum_19 rfl ?_
    refine P_iload_n dX10_fittedSum_20 rfl ?_
    refine P_iconst dX10_fittedSum_21 ci_2 ?_
    refine P_callVp dX10_fittedSum_22 lkX10_95 okX10_of ⟨Nat.le_of_ble_eq_true rfl, Nat.le_of_ble_eq_true rfl⟩ (m_of (i := 2) l hk.1 hk.2.1 (by omega)) rfl rfl hk.1 (Nat.le_of_ble_eq_true rfl) ⟨Nat.le_of_ble_eq_true rfl, Nat.le_of_ble_eq_true rfl⟩ ?_
    rw [(hk.2.2.1.2.2.2 r hr).1 2 (by decide), ex]
    refine P_istore (L' := [_, _, _, _, _]) dX10_fittedSum_25 (Nat.le_of_ble_eq_true rfl) rfl ?_
    refine P_iload_n dX10_fittedSum_27 rfl ?_
    refine P_iconst dX10_fittedSum_28 ci_5 ?_
    refine P_icmp_ne (tgt := 42) dX10_fittedSum_29 (by decide) (fun c29 => ?_) (fun c29 => ?_)
    · refine P_iload_n dX10_fittedSum_42 rfl ?_
      refine P_bipush dX10_fittedSum_43 bp_6 ?_
      refine P_icmp_ne (tgt := 59) dX10_fittedSum_45 (by decide) (fun c45 => ?_) (fun c45 => ?_)
      · have hs : spFts (gR σ) r wh = (bsG (gR σ) r).2.2 := by unfold spFts; rw [if_pos e, if_neg c29, if_neg c45]
        refine P_aload_n dX10_fittedSum_59 rfl ?_
        refine P_iload_n dX10_fittedSum_60 rfl ?_
        refine P_callV dX10_fittedSum_61 lkX10_153 okX10_best ⟨Nat.le_of_ble_eq_true rfl, Nat.le_of_ble_eq_true rfl⟩ (m_best l hk km hr hvr e hin) rfl rfl hk.1 (Nat.le_of_ble_eq_true rfl) ⟨Nat.le_of_ble_eq_true rfl, Nat.le_of_ble_eq_true rfl⟩ (fun v61 G61 q61 => ?_)
        obtain ⟨rfl, ⟨o2, hk2, eK, eX, eo⟩, ⟨a1, a2, a3, a4, km2⟩, hF2⟩ := q61
        have kO2 := kO.bs hF2 hk2 eo ⟨_, _, _, _, _, km2⟩
        exact P_lret dX10_fittedSum_64 rfl ⟨Nat.le_refl _, Nat.le_refl _⟩ ⟨by rw [hs], by first | exact ⟨o, f, kO.lp hF1 ⟨_, _, kl1⟩⟩ | exact ⟨o, f, kO.fl hF1 ⟨_, _, _, _, _, km2⟩⟩ | exact ⟨_, _, kO2⟩, by first | exact hF1.wide (by omega) (by omega) | exact fr2w hF2⟩
      · have hs : spFts (gR σ) r wh = DF (gR σ) r (nI kk) (nI xx) := by unfold spFts; rw [if_pos e, if_neg c29, if_pos c45, ek, ex]
        refine P_aload_n dX10_fittedSum_48 rfl ?_
        refine P_iload_n dX10_fittedSum_49 rfl ?_
        refine P_iload_n dX10_fittedSum_50 rfl ?_
        refine P_iload dX10_fittedSum_51 rfl ?_
        refine P_callV dX10_fittedSum_53 lkX10_136 okX10_difference ⟨Nat.le_of_ble_eq_true rfl, Nat.le_of_ble_eq_true rfl⟩ (m_difference l hk km hr hk2 hx2 hvr hin) rfl rfl hk.1 (Nat.le_of_ble_eq_true rfl) ⟨Nat.le_of_ble_eq_true rfl, Nat.le_of_ble_eq_true rfl⟩ (fun v53 G53 q53 => ?_)
        obtain ⟨rfl, ⟨a1, a2, a3, a4, km2⟩, hF1⟩ := q53
        refine P_goto (tgt := 64) dX10_fittedSum_56 (by decide) ?_
        exact P_lret dX10_fittedSum_64 rfl ⟨Nat.le_refl _, Nat.le_refl _⟩ ⟨by rw [hs], by first | exact ⟨o, f, kO.lp hF1 ⟨_, _, kl1⟩⟩ | exact ⟨o, f, kO.fl hF1 ⟨_, _, _, _, _, km2⟩⟩ | exact ⟨_, _, kO2⟩, by first | exact hF1.wide (by omega) (by omega) | exact fr2w hF2⟩
    · have hs : spFts (gR σ) r wh = lpS (gR σ) r (nI xx) := by unfold spFts; rw [if_pos e, if_pos c29, ex]
      refine P_aload_n dX10_fittedSum_32 rfl ?_
      refine P_iload_n dX10_fittedSum_33 rfl ?_
      refine P_iload dX10_fittedSum_34 rfl ?_
      refine P_callV dX10_fittedSum_36 lkX10_114 okX10_loop ⟨Nat.le_of_ble_eq_true rfl, Nat.le_of_ble_eq_true rfl⟩ (m_loop l hk km.1 kl hr hx2 hvr hin) rfl rfl hk.1 (Nat.le_of_ble_eq_true rfl) ⟨Nat.le_of_ble_eq_true rfl, Nat.le_of_ble_eq_true rfl⟩ (fun v36 G36 q36 => ?_)
      obtain ⟨rfl, ⟨gs1, gf1, kl1, -⟩, hF1⟩ := q36
      refine P_goto (tgt := 64) dX10_fittedSum_39 (by decide) ?_
      exact P_lret dX10_fittedSum_64 rfl ⟨Nat.le_refl _, Nat.le_refl _⟩ ⟨by rw [hs], by first | exact ⟨o, f, kO.lp hF1 ⟨_, _, kl1⟩⟩ | exact ⟨o, f, kO.fl hF1 ⟨_, _, _, _, _, km2⟩⟩ | exact ⟨_, _, kO2⟩, by first | exact hF1.wide (by omega) (by omega) | exact fr2w hF2⟩
  · have e := (b2p _).mp c5
    have hs : spFts (gR σ) r wh = -1 := by unfold spFts; rw [if_neg e]
    refine P_ldc2 dX10_fittedSum_8 kcX10_130 ?_
    exact P_lret dX10_fittedSum_11 rfl ⟨Nat.le_refl _, Nat.le_refl _⟩ ⟨by rw [hs], ⟨o, f, kO⟩, Fr.rf⟩
theorem b2w' {c : Prop} [Decidable c] (h : ¬ (if c then (0 : Int32) else 1) = 0) : ¬ c := b2w h
theorem rch_out {σ : Sg} {j : Nat} {wh : Int32} (hj : j < rN (gR σ)) (h6 : rN (gR σ) < 2 ^ 31) (h : oB3 wh 0 11) : spReachAt σ (nI j) wh = OUTS := by
  have g : ∀ i : Nat, i ≤ 11 → ¬ wh = nI i := fun i hi z => by
    subst z
    rcases h with h | h
    · exact nI_pos (by omega) h
    · exact absurd ((nI_ltI (a := 11) (by decide) (by omega)).mp h) (by omega)
  unfold spReachAt
  rw [if_pos (inN_nI hj h6), nI_clamp (by omega)]
  unfold spRch
  rw [if_neg (show ¬ wh = 0 from g 0 (by decide)), if_neg (show ¬ wh = 1 from g 1 (by decide)), if_neg (show ¬ wh = 2 from g 2 (by decide)), if_neg (show ¬ wh = 3 from g 3 (by decide)), if_neg (show ¬ wh = 4 from g 4 (by decide)), if_neg (show ¬ wh = 5 from g 5 (by decide)), if_neg (show ¬ wh = 6 from g 6 (by decide)), if_neg (show ¬ wh = 7 from g 7 (by decide)), if_neg (fun z => by rcases z with z | z | z | z; exact g 8 (by decide) z; exact g 9 (by decide) z; exact g 10 (by decide) z; exact g 11 (by decide) z)]
set_option maxHeartbeats 4000000 in
set_option maxRecDepth 100000 in
theorem d_reachAt (l : Launch) {G : PH} {σ : Sg} {r0 wh : Int32} (k : Mod G σ) (hv : sVal σ) : Tri l mX10_reachAt 0 0 [.ref 164, .int r0, .int wh] G (fun a9 G' => a9 = some (.int (spReachAt σ r0 wh)) ∧ Mod G' σ ∧ Fr G G' 164 17) := by
  obtain ⟨o, f, kO⟩ := id k
  obtain ⟨hk, h1, h2, h3, h4, h5, kR, ⟨⟨fi, fo, fs, fa, fb, km⟩, ⟨gs, gf, kl⟩, ⟨fm, kmd⟩⟩⟩ := id kO
  have hb := hv.1.1; have hvr := hv.1.2; have hN : rN (gR σ) ≤ 6 := hb.2.2.2.2; have hT : rT (gR σ) ≤ 24 := hb.2.1; have hT2 : 2 ≤ rT (gR σ) := hb.1
  refine Tri.intro (L := [_, _, _]) okX10_reachAt.1 (Nat.le_of_ble_eq_true rfl) rfl ?_
  refine P_aload_n dX10_reachAt_0 rfl ?_
  refine P_iload_n dX10_reachAt_1 rfl ?_
  refine P_callVp dX10_reachAt_2 lkX10_157 okX10_isReach ⟨Nat.le_of_ble_eq_true rfl, Nat.le_of_ble_eq_true rfl⟩ (m_isReach l hk.1 hk.2.1 hk.2.2.1 hb) rfl rfl hk.1 (Nat.le_of_ble_eq_true rfl) ⟨Nat.le_of_ble_eq_true rfl, Nat.le_of_ble_eq_true rfl⟩ ?_
  refine P_if_ne (tgt := 11) dX10_reachAt_5 (by decide) (fun c5 => ?_) (fun c5 => ?_)
  · obtain ⟨j, hj, rfl⟩ := inN_of (b2y c5) (by omega)
    refine P_iload_n dX10_reachAt_11 rfl ?_
    refine P_iconst dX10_reachAt_12 ci_0 ?_
    refine P_bipush dX10_reachAt_13 bp_11 ?_
    refine P_callSp dX10_reachAt_15 lkX10_68 okX10_in ⟨Nat.le_of_ble_eq_true rfl, Nat.le_of_ble_eq_true rfl⟩ (m_in l) rfl rfl (Nat.le_of_ble_eq_true rfl) ⟨Nat.le_of_ble_eq_true rfl, Nat.le_of_ble_eq_true rfl⟩ ?_
    refine P_if_ne (tgt := 24) dX10_reachAt_18 (by decide) (fun c18 => ?_) (fun c18 => ?_)
    · have e1 := b2w' c18
      have hs0 : ∀ w, spReachAt σ (nI j) w = spRch (gR σ) j w := fun w => by unfold spReachAt; rw [if_pos (inN_nI hj (by omega)), nI_clamp (by omega)]
      refine P_aload_n dX10_reachAt_24 rfl ?_
      refine P_callV dX10_reachAt_25 lkX10_162 okX10_flowsNow ⟨Nat.le_of_ble_eq_true rfl, Nat.le_of_ble_eq_true rfl⟩ (m_flowsNow l hk km hvr) rfl rfl hk.1 (Nat.le_of_ble_eq_true rfl) ⟨Nat.le_of_ble_eq_true rfl, Nat.le_of_ble_eq_true rfl⟩ (fun v25 G25 q25 => ?_)
      obtain ⟨rfl, ⟨fi1, fo1, fs1, fa1, fb1, km1, hg1⟩, hF1⟩ := q25
      have kO1 := kO.fl hF1 ⟨_, _, _, _, _, km1⟩
      have hk1 := kO1.1
      have hw1 : Fr G G25 164 17 := hF1.wide (by omega) (by omega)
      refine P_iload_n dX10_reachAt_28 rfl ?_
      by_cases w0 : wh = 0
      · subst w0
        refine P_tabIn (off := 47) (tgt := 76) dX10_reachAt_29 (by decide) (by decide) (by decide) (by decide) ?_
        have hs : spReachAt σ (nI j) 0 = rF (gR σ) j 0 := (hs0 _).trans (by unfold spRch; rw [if_pos rfl])
        refine P_aload_n dX10_reachAt_76 rfl ?_
        refine P_iload_n dX10_reachAt_77 rfl ?_
        refine P_iload_n dX10_reachAt_78 rfl ?_
        refine P_callVp dX10_reachAt_79 lkX10_95 okX10_of ⟨Nat.le_of_ble_eq_true rfl, Nat.le_of_ble_eq_true rfl⟩ (m_of (i := 0) l hk1.1 hk1.2.1 (by omega)) rfl rfl hk1.1 (Nat.le_of_ble_eq_true rfl) ⟨Nat.le_of_ble_eq_true rfl, Nat.le_of_ble_eq_true rfl⟩ ?_
        rw [(hk1.2.2.1.2.2.2 j hj).1 _ (by decide)]
        exact P_iret dX10_reachAt_82 rfl ⟨Nat.le_refl _, Nat.le_refl _⟩ ⟨by rw [hs], ⟨_, _, kO1⟩, hw1⟩
      by_cases w1 : wh = 1
      · subst w1
        refine P_tabIn (off := 47) (tgt := 76) dX10_reachAt_29 (by decide) (by decide) (by decide) (by decide) ?_
        have hs : spReachAt σ (nI j) 1 = rF (gR σ) j 1 := (hs0 _).trans (by unfold spRch; rw [if_neg (by decide), if_pos rfl])
        refine P_aload_n dX10_reachAt_76 rfl ?_
        refine P_iload_n dX10_reachAt_77 rfl ?_
        refine P_iload_n dX10_reachAt_78 rfl ?_
        refine P_callVp dX10_reachAt_79 lkX10_95 okX10_of ⟨Nat.le_of_ble_eq_true rfl, Nat.le_of_ble_eq_true rfl⟩ (m_of (i := 1) l hk1.1 hk1.2.1 (by omega)) rfl rfl hk1.1 (Nat.le_of_ble_eq_true rfl) ⟨Nat.le_of_ble_eq_true rfl, Nat.le_of_ble_eq_true rfl⟩ ?_
        rw [(hk1.2.2.1.2.2.2 j hj).1 _ (by decide)]
        exact P_iret dX10_reachAt_82 rfl ⟨Nat.le_refl _, Nat.le_refl _⟩ ⟨by rw [hs], ⟨_, _, kO1⟩, hw1⟩
      by_cases w2 : wh = 2
      · subst w2
        refine P_tabIn (off := 47) (tgt := 76) dX10_reachAt_29 (by decide) (by decide) (by decide) (by decide) ?_
        have hs : spReachAt σ (nI j) 2 = rF (gR σ) j 2 := (hs0 _).trans (by unfold spRch; rw [if_neg (by decide), if_neg (by decide), if_pos rfl])
        refine P_aload_n dX10_reachAt_76 rfl ?_
        refine P_iload_n dX10_reachAt_77 rfl ?_
        refine P_iload_n dX10_reachAt_78 rfl ?_
        refine P_callVp dX10_reachAt_79 lkX10_95 okX10_of ⟨Nat.le_of_ble_eq_true rfl, Nat.le_of_ble_eq_true rfl⟩ (m_of (i := 2) l hk1.1 hk1.2.1 (by omega)) rfl rfl hk1.1 (Nat.le_of_ble_eq_true rfl) ⟨Nat.le_of_ble_eq_true rfl, Nat.le_of_ble_eq_true rfl⟩ ?_
        rw [(hk1.2.2.1.2.2.2 j hj).1 _ (by decide)]
        exact P_iret dX10_reachAt_82 rfl ⟨Nat.le_refl _, Nat.le_refl _⟩ ⟨by rw [hs], ⟨_, _, kO1⟩, hw1⟩
      by_cases w3 : wh = 3
      · subst w3
        refine P_tabIn (off := 47) (tgt := 76) dX10_reachAt_29 (by decide) (by decide) (by decide) (by decide) ?_
        have hs : spReachAt σ (nI j) 3 = rF (gR σ) j 3 := (hs0 _).trans (by unfold spRch; rw [if_neg (by decide), if_neg (by decide), if_neg (by decide), if_pos rfl])
        refine P_aload_n dX10_reachAt_76 rfl ?_
        refine P_iload_n dX10_reachAt_77 rfl ?_
        refine P_iload_n dX10_reachAt_78 rfl ?_
        refine P_callVp dX10_reachAt_79 lkX10_95 okX10_of ⟨Nat.le_of_ble_eq_true rfl, Nat.le_of_ble_eq_true rfl⟩ (m_of (i := 3) l hk1.1 hk1.2.1 (by omega)) rfl rfl hk1.1 (Nat.le_of_ble_eq_true rfl) ⟨Nat.le_of_ble_eq_true rfl, Nat.le_of_ble_eq_true rfl⟩ ?_
        rw [(hk1.2.2.1.2.2.2 j hj).1 _ (by decide)]
        exact P_iret dX10_reachAt_82 rfl ⟨Nat.le_refl _, Nat.le_refl _⟩ ⟨by rw [hs], ⟨_, _, kO1⟩, hw1⟩
      by_cases w4 : wh = 4
      · subst w4
        refine P_tabIn (off := 54) (tgt := 83) dX10_reachAt_29 (by decide) (by decide) (by decide) (by decide) ?_
        have hs : spReachAt σ (nI j) 4 = (if lawR (gR σ) j then 1 else 0) := (hs0 _).trans (by unfold spRch; rw [if_neg (by decide), if_neg (by decide), if_neg (by decide), if_neg (by decide), if_pos rfl])
        refine P_aload_n dX10_reachAt_83 rfl ?_
        refine P_aload_n dX10_reachAt_84 rfl ?_
        refine P_iload_n dX10_reachAt_85 rfl ?_
        refine P_iconst dX10_reachAt_86 ci_1 ?_
        refine P_callVp dX10_reachAt_87 lkX10_95 okX10_of ⟨Nat.le_of_ble_eq_true rfl, Nat.le_of_ble_eq_true rfl⟩ (m_of (i := 1) l hk1.1 hk1.2.1 (by omega)) rfl rfl hk1.1 (Nat.le_of_ble_eq_true rfl) ⟨Nat.le_of_ble_eq_true rfl, Nat.le_of_ble_eq_true rfl⟩ ?_
        rw [(hk1.2.2.1.2.2.2 j hj).1 1 (by decide)]
        refine P_aload_n dX10_reachAt_90 rfl ?_
        refine P_iload_n dX10_reachAt_91 rfl ?_
        refine P_iconst dX10_reachAt_92 ci_2 ?_
        refine P_callVp dX10_reachAt_93 lkX10_95 okX10_of ⟨Nat.le_of_ble_eq_true rfl, Nat.le_of_ble_eq_true rfl⟩ (m_of (i := 2) l hk1.1 hk1.2.1 (by omega)) rfl rfl hk1.1 (Nat.le_of_ble_eq_true rfl) ⟨Nat.le_of_ble_eq_true rfl, Nat.le_of_ble_eq_true rfl⟩ ?_
        rw [(hk1.2.2.1.2.2.2 j hj).1 2 (by decide)]
        refine P_callVp dX10_reachAt_96 lkX10_132 okX10_isLawful ⟨Nat.le_of_ble_eq_true rfl, Nat.le_of_ble_eq_true rfl⟩ (m_isLawful l hk1.1 hk1.2.1 hk1.2.2.1) rfl rfl hk1.1 (Nat.le_of_ble_eq_true rfl) ⟨Nat.le_of_ble_eq_true rfl, Nat.le_of_ble_eq_true rfl⟩ ?_
        refine P_if_eq (tgt := 106) dX10_reachAt_99 (by decide) (fun c99 => ?_) (fun c99 => ?_)
        · have hl := (b2p _).mp c99
          refine P_iconst dX10_reachAt_106 ci_0 ?_
          exact P_iret dX10_reachAt_107 rfl ⟨Nat.le_refl _, Nat.le_refl _⟩ ⟨by rw [hs]; first | rw [if_pos hl] | rw [if_neg hl], ⟨_, _, kO1⟩, hw1⟩
        · have hl := b2y c99
          refine P_iconst dX10_reachAt_102 ci_1 ?_
          refine P_goto (tgt := 107) dX10_reachAt_103 (by decide) ?_
          exact P_iret dX10_reachAt_107 rfl ⟨Nat.le_refl _, Nat.le_refl _⟩ ⟨by rw [hs]; first | rw [if_pos hl] | rw [if_neg hl], ⟨_, _, kO1⟩, hw1⟩
      by_cases w5 : wh = 5
      · subst w5
        refine P_tabIn (off := 79) (tgt := 108) dX10_reachAt_29 (by decide) (by decide) (by decide) (by decide) ?_
        have hs : spReachAt σ (nI j) 5 = nI (pkT (INN (gR σ) j) (rT (gR σ) - 1)) := (hs0 _).trans (by unfold spRch; rw [if_neg (by decide), if_neg (by decide), if_neg (by decide), if_neg (by decide), if_neg (by decide), if_pos rfl])
        refine P_aload_n dX10_reachAt_108 rfl ?_
        refine P_aload_n dX10_reachAt_109 rfl ?_
        refine P_get dX10_reachAt_110 flX10_40 hk1.1 rfl ?_
        refine P_iload_n dX10_reachAt_113 rfl ?_
        refine P_callVp dX10_reachAt_114 lkX10_108 okX10_peakTime ⟨Nat.le_of_ble_eq_true rfl, Nat.le_of_ble_eq_true rfl⟩ (m_peakTime l hk1 km1.1 (by omega)) rfl rfl hk1.1 (Nat.le_of_ble_eq_true rfl) ⟨Nat.le_of_ble_eq_true rfl, Nat.le_of_ble_eq_true rfl⟩ ?_
        rw [pkT_cong (f := fun i => fi1 (24 * j + i)) (g := INN (gR σ) j) (fun i hi => (hg1 j (Nat.zero_le _) hj i (by omega)).1)]
        exact P_iret dX10_reachAt_117 rfl ⟨Nat.le_refl _, Nat.le_refl _⟩ ⟨by rw [hs], ⟨_, _, kO1⟩, hw1⟩
      by_cases w6 : wh = 6
      · subst w6
        refine P_tabIn (off := 89) (tgt := 118) dX10_reachAt_29 (by decide) (by decide) (by decide) (by decide) ?_
        have hs : spReachAt σ (nI j) 6 = nI (pkT (OUT (gR σ) j) (rT (gR σ) - 1)) := (hs0 _).trans (by unfold spRch; rw [if_neg (by decide), if_neg (by decide), if_neg (by decide), if_neg (by decide), if_neg (by decide), if_neg (by decide), if_pos rfl])
        refine P_aload_n dX10_reachAt_118 rfl ?_
        refine P_aload_n dX10_reachAt_119 rfl ?_
        refine P_get dX10_reachAt_120 flX10_43 hk1.1 rfl ?_
        refine P_iload_n dX10_reachAt_123 rfl ?_
        refine P_callVp dX10_reachAt_124 lkX10_108 okX10_peakTime ⟨Nat.le_of_ble_eq_true rfl, Nat.le_of_ble_eq_true rfl⟩ (m_peakTime l hk1 km1.2.1 (by omega)) rfl rfl hk1.1 (Nat.le_of_ble_eq_true rfl) ⟨Nat.le_of_ble_eq_true rfl, Nat.le_of_ble_eq_true rfl⟩ ?_
        rw [pkT_cong (f := fun i => fo1 (24 * j + i)) (g := OUT (gR σ) j) (fun i hi => (hg1 j (Nat.zero_le _) hj i (by omega)).2.1)]
        exact P_iret dX10_reachAt_127 rfl ⟨Nat.le_refl _, Nat.le_refl _⟩ ⟨by rw [hs], ⟨_, _, kO1⟩, hw1⟩
      by_cases w7 : wh = 7
      · subst w7
        refine P_tabIn (off := 99) (tgt := 128) dX10_reachAt_29 (by decide) (by decide) (by decide) (by decide) ?_
        have hs : spReachAt σ (nI j) 7 = thC (gR σ) j (rN (gR σ) - j) := (hs0 _).trans (by unfold spRch; rw [if_neg (by decide), if_neg (by decide), if_neg (by decide), if_neg (by decide), if_neg (by decide), if_neg (by decide), if_neg (by decide), if_pos rfl])
        refine P_aload_n dX10_reachAt_128 rfl ?_
        refine P_iload_n dX10_reachAt_129 rfl ?_
        refine P_callVp dX10_reachAt_130 lkX10_165 okX10_throughMany ⟨Nat.le_of_ble_eq_true rfl, Nat.le_of_ble_eq_true rfl⟩ (m_throughMany l hk1 hvr hj) rfl rfl hk1.1 (Nat.le_of_ble_eq_true rfl) ⟨Nat.le_of_ble_eq_true rfl, Nat.le_of_ble_eq_true rfl⟩ ?_
        exact P_iret dX10_reachAt_133 rfl ⟨Nat.le_refl _, Nat.le_refl _⟩ ⟨by rw [hs], ⟨_, _, kO1⟩, hw1⟩
      refine P_tabOut (tgt := 134) dX10_reachAt_29 (tabo (n := 7) (fun j hj => by rcases (by omega : j = 0 ∨ j = 1 ∨ j = 2 ∨ j = 3 ∨ j = 4 ∨ j = 5 ∨ j = 6 ∨ j = 7) with rfl | rfl | rfl | rfl | rfl | rfl | rfl | rfl <;> assumption)) (by decide) ?_
      have hw8 : wh = 8 ∨ wh = 9 ∨ wh = 10 ∨ wh = 11 := by
        obtain ⟨i9, -, hi9, rfl⟩ := ob_nat (a := 0) (b := 11) (by omega) (by omega) e1
        rcases (by omega : i9 = 0 ∨ i9 = 1 ∨ i9 = 2 ∨ i9 = 3 ∨ i9 = 4 ∨ i9 = 5 ∨ i9 = 6 ∨ i9 = 7 ∨ i9 = 8 ∨ i9 = 9 ∨ i9 = 10 ∨ i9 = 11) with rfl | rfl | rfl | rfl | rfl | rfl | rfl | rfl | rfl | rfl | rfl | rfl
        · exact absurd rfl w0
        · exact absurd rfl w1
        · exact absurd rfl w2
        · exact absurd rfl w3
        · exact absurd rfl w4
        · exact absurd rfl w5
        · exact absurd rfl w6
        · exact absurd rfl w7
        · exact Or.inl rfl
        · exact Or.inr (Or.inl rfl)
        · exact Or.inr (Or.inr (Or.inl rfl))
        · exact Or.inr (Or.inr (Or.inr rfl))
      have hs : spReachAt σ (nI j) wh = spFit (gR σ) j wh := (hs0 _).trans (by unfold spRch; rw [if_neg w0, if_neg w1, if_neg w2, if_neg w3, if_neg w4, if_neg w5, if_neg w6, if_neg w7, if_pos hw8])
      refine P_aload_n dX10_reachAt_134 rfl ?_
      refine P_iload_n dX10_reachAt_135 rfl ?_
      refine P_iload_n dX10_reachAt_136 rfl ?_
      refine P_callV dX10_reachAt_137 lkX10_168 okX10_fitted ⟨Nat.le_of_ble_eq_true rfl, Nat.le_of_ble_eq_true rfl⟩ (m_fitted l kO1 hv km1 hj (fun i hi => (hg1 j (Nat.zero_le _) hj i hi).1) hw8) rfl rfl hk1.1 (Nat.le_of_ble_eq_true rfl) ⟨Nat.le_of_ble_eq_true rfl, Nat.le_of_ble_eq_true rfl⟩ (fun v137 G137 q137 => ?_)
      obtain ⟨rfl, kc, hFc⟩ := q137
      exact P_iret dX10_reachAt_140 rfl ⟨Nat.le_refl _, Nat.le_refl _⟩ ⟨by rw [hs], kc, hw1.tr hFc⟩
    · have e := b2z c18
      have hs : spReachAt σ (nI j) wh = OUTS := rch_out hj (by omega) e
      refine P_ldc dX10_reachAt_21 kcX10_161 ?_
      exact P_iret dX10_reachAt_23 rfl ⟨Nat.le_refl _, Nat.le_refl _⟩ ⟨by rw [hs], k, Fr.rf⟩
  · have e := (b2p _).mp c5
    have hs : spReachAt σ r0 wh = UNK := by unfold spReachAt; rw [if_neg e]
    refine P_ldc dX10_reachAt_8 kcX10_160 ?_
    exact P_iret dX10_reachAt_10 rfl ⟨Nat.le_refl _, Nat.le_refl _⟩ ⟨by rw [hs], k, Fr.rf⟩
