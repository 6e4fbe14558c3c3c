set_option maxHeartbeats 4000000 in
set_option maxRecDepth 100000 in
theorem d_write (l : Launch) {G : PH} {σ : Sg} {r0 t0 : Int32} {v0 : Int64} (k : Mod G σ) (hv : sVal σ) : Tri l mX10_write 0 0 [.ref 164, .int r0, .int t0, .long v0] G (fun a9 G' => a9 = some (.int (spWrite σ r0 t0 v0).1) ∧ Mod G' (spWrite σ r0 t0 v0).2 ∧ Fr G G' 164 17) := by
  obtain ⟨o, f, kO⟩ := id k
  obtain ⟨hk, h1, h2, h3, h4, h5, kR, ⟨⟨fi, fo, fs, fa, fb, km⟩, ⟨gs, gf, kl⟩, ⟨fm, kmd⟩⟩⟩ := id kO
  have hb := hv.1.1; have hvr := hv.1.2; have hN : rN (gR σ) ≤ 6 := hb.2.2.2.2; have hT : rT (gR σ) ≤ 24 := hb.2.1; have hT2 : 2 ≤ rT (gR σ) := hb.1
  obtain ⟨f9, g9, h9, kb1, kb2, kb3, hbk⟩ := kR.2.2.1
  have h20 : gC σ ≤ 20 := hv.2.2.1
  have ec : (mE o).toNatClampNeg = gC σ := by rw [h3, nI_clamp (by omega)]
  refine Tri.intro (L := [_, _, _, _, _]) okX10_write.1 (Nat.le_of_ble_eq_true rfl) rfl ?_
  refine P_aload_n dX10_write_0 rfl ?_
  refine P_iload_n dX10_write_1 rfl ?_
  refine P_callVp dX10_write_2 lkX10_157 okX10_isReach ⟨Nat.le_of_ble_eq_true rfl, Nat.le_of_ble_eq_true rfl⟩ (m_isReach l hk.1 hk.2.1 hk.2.2.1 hb) rfl rfl hk.1 (Nat.le_of_ble_eq_true rfl) ⟨Nat.le_of_ble_eq_true rfl, Nat.le_of_ble_eq_true rfl⟩ ?_
  refine P_if_eq (tgt := 16) dX10_write_5 (by decide) (fun c5 => ?_) (fun c5 => ?_)
  · have e := (b2p _).mp c5
    have hs : spWrite σ r0 t0 v0 = (UNK, σ) := by unfold spWrite; rw [if_neg (fun z => e z.1)]
    refine P_ldc dX10_write_16 kcX10_160 ?_
    exact P_iret dX10_write_18 rfl ⟨Nat.le_refl _, Nat.le_refl _⟩ ⟨by rw [hs], by rw [hs]; exact k, Fr.rf⟩
  · obtain ⟨j, hj, rfl⟩ := inN_of (b2y c5) (by omega)
    refine P_aload_n dX10_write_8 rfl ?_
    refine P_iload_n dX10_write_9 rfl ?_
    refine P_callVp dX10_write_10 lkX10_171 okX10_isTime ⟨Nat.le_of_ble_eq_true rfl, Nat.le_of_ble_eq_true rfl⟩ (m_isTime l hk.1 hk.2.1 hk.2.2.1 hb) rfl rfl hk.1 (Nat.le_of_ble_eq_true rfl) ⟨Nat.le_of_ble_eq_true rfl, Nat.le_of_ble_eq_true rfl⟩ ?_
    refine P_if_ne (tgt := 19) dX10_write_13 (by decide) (fun c13 => ?_) (fun c13 => ?_)
    · obtain ⟨i, hi, rfl⟩ := inN_of (b2y c13) (by omega)
      have ej : inN (nI j) (rN (gR σ)) ∧ inN (nI i) (rT (gR σ)) := ⟨inN_nI hj (by omega), inN_nI hi (by omega)⟩
      refine P_aload_n dX10_write_19 rfl ?_
      refine P_get dX10_write_20 flX10_258 hk.1 rfl ?_
      refine P_bipush dX10_write_23 bp_20 ?_
      refine P_icmp_ne (tgt := 31) dX10_write_25 (by decide) (fun c25 => ?_) (fun c25 => ?_)
      · have hc : gC σ < 20 := Nat.lt_of_le_of_ne h20 fun z => c25 (by rw [h3, z]; rfl)
        have hs : spWrite σ (nI j) (nI i) v0 = (nI (gC σ + 1), sgB σ (gC σ + 1) (bkA (gB σ) (gC σ) j i v0)) := by unfold spWrite; rw [if_pos ej, if_pos hc, nI_clamp (by omega), nI_clamp (by omega)]
        refine P_aload_n dX10_write_31 rfl ?_
        refine P_get dX10_write_32 flX10_23 hk.1 rfl ?_
        refine P_aload_n dX10_write_35 rfl ?_
        refine P_get dX10_write_36 flX10_258 hk.1 rfl ?_
        refine P_iload_n dX10_write_39 rfl ?_
        refine P_iast dX10_write_40 kb1 (by rw [h3]; exact vp_in_nI hc (by decide)) ?_
        rw [ec]
        refine P_aload_n dX10_write_41 rfl ?_
        refine P_get dX10_write_42 flX10_26 (set_ne hk.1 (by decide)) rfl ?_
        refine P_aload_n dX10_write_45 rfl ?_
        refine P_get dX10_write_46 flX10_258 (set_ne hk.1 (by decide)) rfl ?_
        refine P_iload_n dX10_write_49 rfl ?_
        refine P_iast dX10_write_50 (set_ne kb2 (by decide)) (by rw [h3]; exact vp_in_nI hc (by decide)) ?_
        rw [ec]
        refine P_aload_n dX10_write_51 rfl ?_
        refine P_get dX10_write_52 flX10_29 (set_ne (set_ne hk.1 (by decide)) (by decide)) rfl ?_
        refine P_aload_n dX10_write_55 rfl ?_
        refine P_get dX10_write_56 flX10_258 (set_ne (set_ne hk.1 (by decide)) (by decide)) rfl ?_
        refine P_lload_n dX10_write_59 rfl ?_
        refine P_last dX10_write_60 (set_ne (set_ne kb3 (by decide)) (by decide)) (by rw [h3]; exact vp_in_nI hc (by decide)) ?_
        rw [ec]
        have hob3 : (((G.set 169 (aI 20 (upd f9 (gC σ) (nI j)))).set 170 (aI 20 (upd g9 (gC σ) (nI i)))).set 171 (aJ 20 (vp_updL h9 (gC σ) v0)))[164]? = some (oM o) := set_ne (set_ne (set_ne hk.1 (by decide)) (by decide)) (by decide)
        refine P_aload_n dX10_write_61 rfl ?_
        refine P_dup dX10_write_62 rfl ?_
        refine P_get dX10_write_63 flX10_258 hob3 rfl ?_
        refine P_iconst dX10_write_66 ci_1 ?_
        refine P_iadd dX10_write_67 ?_
        rw [h3, nI_1]
        refine P_putI dX10_write_68 flX10_258 hob3 (Nat.le_of_ble_eq_true rfl) ?_
        refine P_aload_n dX10_write_71 rfl ?_
        refine P_get dX10_write_72 flX10_258 (set_at hob3) rfl ?_
        have hF3 : Fr G (((G.set 169 (aI 20 (upd f9 (gC σ) (nI j)))).set 170 (aI 20 (upd g9 (gC σ) (nI i)))).set 171 (aJ 20 (vp_updL h9 (gC σ) v0))) 169 3 := (Fr.set (by omega) (by omega)).tr ((Fr.set (by omega) (by omega)).tr (Fr.set (by omega) (by omega)))
        have hFz : ∀ x, x < 169 ∨ 172 ≤ x → x ≠ 164 → ((((G.set 169 (aI 20 (upd f9 (gC σ) (nI j)))).set 170 (aI 20 (upd g9 (gC σ) (nI i)))).set 171 (aJ 20 (vp_updL h9 (gC σ) v0))).set 164 (oM (oEn o (nI (gC σ + 1)))))[x]? = G[x]? := fun x a b => (List.getElem?_set_ne b.symm).trans (hF3.2 x (by omega))
        have hsc : mScr ((((G.set 169 (aI 20 (upd f9 (gC σ) (nI j)))).set 170 (aI 20 (upd g9 (gC σ) (nI i)))).set 171 (aJ 20 (vp_updL h9 (gC σ) v0))).set 164 (oM (oEn o (nI (gC σ + 1))))) := mScr.fr (mScr.fr ⟨⟨_, _, _, _, _, km⟩, ⟨_, _, kl⟩, _, kmd⟩ hF3 (by decide)) (Fr.set (a := 164) (n := 1) (by omega) (by omega)) (by decide)
        have hbn : mBook ((((G.set 169 (aI 20 (upd f9 (gC σ) (nI j)))).set 170 (aI 20 (upd g9 (gC σ) (nI i)))).set 171 (aJ 20 (vp_updL h9 (gC σ) v0))).set 164 (oM (oEn o (nI (gC σ + 1))))) (gC σ + 1) (bkA (gB σ) (gC σ) j i v0) := by
          refine ⟨_, _, _, set_ne (set_ne (set_ne (set_at kb1) (by decide)) (by decide)) (by decide), set_ne (set_ne (set_at (set_ne kb2 (by decide))) (by decide)) (by decide), set_ne (set_at (set_ne (set_ne kb3 (by decide)) (by decide))) (by decide), fun q hq => ?_⟩
          by_cases e9 : q = gC σ
          · have eb : bkA (gB σ) (gC σ) j i v0 q = (j, i, v0) := if_pos e9
            rw [eb, e9]
            exact ⟨by show j < 2 ^ 31; omega, by show i < 2 ^ 31; omega, upd_a, upd_a, pk_uLs⟩
          · have eb : bkA (gB σ) (gC σ) j i v0 q = gB σ q := if_neg e9
            rw [eb, upd_n e9, upd_n e9, pk_uLn e9]
            exact hbk q (by omega)
        exact P_iret dX10_write_75 rfl ⟨Nat.le_refl _, Nat.le_refl _⟩ ⟨by rw [hs], by rw [hs]; exact ⟨oEn o (nI (gC σ + 1)), f, ⟨set_at hob3, (hFz _ (by decide) (by decide)).trans hk.2.1, hk.2.2⟩, h1, h2, rfl, h4, h5, ⟨kR.1.sm (hFz _ (by decide) (by decide)), kR.2.1.sm (hFz _ (by decide) (by decide)) (hFz _ (by decide) (by decide)), hbn, kR.2.2.2.sm (hFz _ (by decide) (by decide))⟩, hsc⟩, (hF3.wide (by omega) (by omega)).tr (frM (by decide) (by decide))⟩
      · have hge : ¬ gC σ < 20 := fun z => by rw [h3] at c25; have := (nI_eq (b := 20) (by omega) (by decide)).mp c25; omega
        have hs : spWrite σ (nI j) (nI i) v0 = (FUL, σ) := by unfold spWrite; rw [if_pos ej, if_neg hge]
        refine P_ldc dX10_write_28 kcX10_196 ?_
        exact P_iret dX10_write_30 rfl ⟨Nat.le_refl _, Nat.le_refl _⟩ ⟨by rw [hs], by rw [hs]; exact k, Fr.rf⟩
    · have e := (b2p _).mp c13
      have hs : spWrite σ (nI j) t0 v0 = (UNK, σ) := by unfold spWrite; rw [if_neg (fun z => e z.2)]
      refine P_ldc dX10_write_16 kcX10_160 ?_
      exact P_iret dX10_write_18 rfl ⟨Nat.le_refl _, Nat.le_refl _⟩ ⟨by rw [hs], by rw [hs]; exact k, Fr.rf⟩
set_option maxHeartbeats 4000000 in
set_option maxRecDepth 100000 in
theorem d_undo (l : Launch) {G : PH} {σ : Sg} {t0 : Int32} (k : Mod G σ) (hv : sVal σ) : Tri l mX10_undo 0 0 [.ref 164, .int t0] G (fun a9 G' => a9 = some (.int (spUndo σ t0).1) ∧ Mod G' (spUndo σ t0).2 ∧ Fr G G' 164 17) := by
  obtain ⟨o, f, kO⟩ := id k
  obtain ⟨hk, h1, h2, h3, h4, h5, kR, ⟨⟨fi, fo, fs, fa, fb, km⟩, ⟨gs, gf, kl⟩, ⟨fm, kmd⟩⟩⟩ := id kO
  have hb := hv.1.1; have hvr := hv.1.2; have hN : rN (gR σ) ≤ 6 := hb.2.2.2.2; have hT : rT (gR σ) ≤ 24 := hb.2.1; have hT2 : 2 ≤ rT (gR σ) := hb.1
  obtain ⟨fP, kP, hP⟩ := kR.1
  have h16 : gP σ ≤ 16 := hv.2.2.2.1
  refine Tri.intro (L := [_, _]) okX10_undo.1 (Nat.le_of_ble_eq_true rfl) rfl ?_
  refine P_iload_n dX10_undo_0 rfl ?_
  refine P_iconst dX10_undo_1 ci_1 ?_
  refine P_bipush dX10_undo_2 bp_16 ?_
  refine P_callSp dX10_undo_4 lkX10_68 okX10_in ⟨Nat.le_of_ble_eq_true rfl, Nat.le_of_ble_eq_true rfl⟩ (m_in l) rfl rfl (Nat.le_of_ble_eq_true rfl) ⟨Nat.le_of_ble_eq_true rfl, Nat.le_of_ble_eq_true rfl⟩ ?_
  refine P_if_ne (tgt := 13) dX10_undo_7 (by decide) (fun c7 => ?_) (fun c7 => ?_)
  · have e := b2w c7
    obtain ⟨t, ht1, ht2, rfl⟩ := ob_nat (a := 1) (b := 16) (by omega) (by omega) e
    refine P_iload_n dX10_undo_13 rfl ?_
    refine P_aload_n dX10_undo_14 rfl ?_
    refine P_get dX10_undo_15 flX10_72 hk.1 rfl ?_
    refine P_icmp_le (tgt := 25) dX10_undo_18 (by decide) (fun c18 => ?_) (fun c18 => ?_)
    · have hle : t ≤ gP σ := Nat.not_lt.mp fun z => absurd c18 (by rw [h1]; exact nI_ge z (by omega))
      have hs : spUndo σ (nI t) = (nI (rN (gQ σ (t - 1))), sgR (sgP σ (gP σ - t) (fun j => gQ σ (t + j))) (gQ σ (t - 1))) := by unfold spUndo; rw [if_neg e, nI_clamp (by omega), if_neg (Nat.not_lt.mpr hle)]
      refine P_aload_n dX10_undo_25 rfl ?_
      refine P_dup dX10_undo_26 rfl ?_
      refine P_get dX10_undo_27 flX10_72 hk.1 rfl ?_
      refine P_iload_n dX10_undo_30 rfl ?_
      refine P_isub dX10_undo_31 ?_
      rw [h1, pk_sub hle]
      refine P_putI dX10_undo_32 flX10_72 hk.1 (Nat.le_of_ble_eq_true rfl) ?_
      have kO2 : ModO (G.set 164 (oM (oDd o (nI (gP σ - t))))) (sgP σ (gP σ - t) (fun j => gQ σ (t + j))) (oDd o (nI (gP σ - t))) f := kO.ob rfl rfl h2 h3 h4 h5 ⟨⟨fP, kP, fun j hj => by have hj : j < gP σ - t := hj; have z := hP (t + j) (by omega); rw [show gP σ - 1 - (t + j) = gP σ - t - 1 - j by omega] at z; exact z⟩, kR.2.1, kR.2.2.1, kR.2.2.2⟩
      refine P_aload_n dX10_undo_35 rfl ?_
      refine P_get dX10_undo_36 flX10_13 kO2.1.1 rfl ?_
      refine P_sipush dX10_undo_39 sp_315 ?_
      refine P_aload_n dX10_undo_42 rfl ?_
      refine P_get dX10_undo_43 flX10_72 kO2.1.1 rfl ?_
      refine P_imul dX10_undo_46 ?_
      rw [show (315 : Int32) * mD (oDd o (nI (gP σ - t))) = nI (315 * (gP σ - t)) from pk_mul 315 _]
      refine P_aload_n dX10_undo_47 rfl ?_
      refine P_get dX10_undo_48 flX10_7 kO2.1.1 rfl ?_
      refine P_iconst dX10_undo_51 ci_0 ?_
      refine P_sipush dX10_undo_52 sp_315 ?_
      refine P_callS dX10_undo_55 lkX10_75 okX10_bring ⟨Nat.le_of_ble_eq_true rfl, Nat.le_of_ble_eq_true rfl⟩ (m_bring (i := 315 * (gP σ - t)) (j := 0) (n0 := 315) l (set_ne kP (by decide)) kO2.1.2.1 (by decide) (by omega) (by omega) (by decide) (by decide)) rfl rfl (Nat.le_of_ble_eq_true rfl) ⟨Nat.le_of_ble_eq_true rfl, Nat.le_of_ble_eq_true rfl⟩ (fun v55 G55 q55 => ?_)
      obtain ⟨rfl, kS9, hF9⟩ := q55
      have hrow : rRow (gQ σ (t - 1)) (brg fP f (315 * (gP σ - t)) 0 315) := (hP (t - 1) (by omega)).cg (hv.2.2.2.2.1 (t - 1) (by omega)).1.2.2.2.2 (fun i hi => by unfold brg; rw [if_pos (by omega)]; congr 1; omega)
      refine P_aload_n dX10_undo_58 rfl ?_
      refine P_get dX10_undo_59 flX10_7 (hF9.at kO2.1.1 (by decide)) rfl ?_
      refine P_iconst dX10_undo_62 ci_2 ?_
      refine P_iald dX10_undo_63 kS9 (vp_in_nI (show 2 < 315 by decide) (by decide)) ?_
      rw [show brg fP f (315 * (gP σ - t)) 0 315 (Int32.toNatClampNeg 2) = nI (rN (gQ σ (t - 1))) from hrow.2.2.1]
      exact P_iret dX10_undo_64 rfl ⟨Nat.le_refl _, Nat.le_refl _⟩ ⟨by rw [hs], by rw [hs]; exact ⟨_, _, kO2.st hF9 kS9 hrow (hv.2.2.2.2.1 (t - 1) (by omega)).1⟩, (frM (by decide) (by decide)).tr (hF9.wide (by omega) (by omega))⟩
    · have hle : gP σ < t := Nat.not_le.mp fun z => c18 (by rw [h1]; exact nI_le z (by omega))
      have hs : spUndo σ (nI t) = (NOTT, σ) := by unfold spUndo; rw [if_neg e, nI_clamp (by omega), if_pos hle]
      refine P_ldcw dX10_undo_21 kcX10_276 ?_
      exact P_iret dX10_undo_24 rfl ⟨Nat.le_refl _, Nat.le_refl _⟩ ⟨by rw [hs], by rw [hs]; exact k, Fr.rf⟩
  · have hs : spUndo σ t0 = (OUTS, σ) := by unfold spUndo; rw [if_pos (b2z c7)]
    refine P_ldc dX10_undo_10 kcX10_161 ?_
    exact P_iret dX10_undo_12 rfl ⟨Nat.le_refl _, Nat.le_refl _⟩ ⟨by rw [hs], by rw [hs]; exact k, Fr.rf⟩
def sgIm (σ : Sg) (im : Nat → Option (Riv × Nat)) : Sg := (σ.1, σ.2.1, σ.2.2.1, σ.2.2.2.1, gS σ, im)
theorem ModO.im {G G' : PH} {σ : Sg} {o : MV} {f : Nat → Int32} {im : Nat → Option (Riv × Nat)} (k : ModO G σ o f) (hF : Fr G G' 167 2) (h : mImg G' im) : ModO G' (sgIm σ im) o f :=
  ⟨k.1.fr hF (by decide), k.2.1, k.2.2.1, k.2.2.2.1, k.2.2.2.2.1, k.2.2.2.2.2.1, ⟨k.2.2.2.2.2.2.1.1.sm (hF.2 _ (by decide)), h, k.2.2.2.2.2.2.1.2.2.1.sm (hF.2 _ (by decide)) (hF.2 _ (by decide)) (hF.2 _ (by decide)), k.2.2.2.2.2.2.1.2.2.2.sm (hF.2 _ (by decide))⟩, k.2.2.2.2.2.2.2.fr hF (by decide)⟩
theorem mi_new {f g : Nat → Int32} {im : Nat → Option (Riv × Nat)} {fS : Nat → Int32} {ρ : Riv} {s j : Nat} (hj : j < 2) (hN : rN ρ ≤ 6) (hr : rRow ρ fS) (h : ∀ i, i < 2 → (im i = none → g i = 0) ∧ ∀ q, im i = some q → ¬ g i = 0 ∧ rRow q.1 (fun u => f (316 * i + u)) ∧ f (316 * i + 315) = nI q.2) (hb : ∀ i, i < 2 → ∀ q, im i = some q → rN q.1 ≤ 6) {v : Int32} (hv : ¬ v = 0) : ∀ i, i < 2 → ((if i = j then some (ρ, s) else im i) = none → upd g j v i = 0) ∧ ∀ q, (if i = j then some (ρ, s) else im i) = some q → ¬ upd g j v i = 0 ∧ rRow q.1 (fun u => upd (brg fS f 0 (316 * j) 315) (316 * j + 315) (nI s) (316 * i + u)) ∧ upd (brg fS f 0 (316 * j) 315) (316 * j + 315) (nI s) (316 * i + 315) = nI q.2 := by
  intro i hi
  by_cases e : i = j
  · subst e
    refine ⟨fun z => (by rw [if_pos rfl] at z; cases z), fun q hq => ?_⟩
    rw [if_pos rfl] at hq
    cases hq
    refine ⟨by rw [upd_a]; exact hv, hr.cg hN (fun u hu => ?_), upd_a⟩
    show upd _ _ _ _ = _
    rw [upd_n (by omega)]
    unfold brg
    rw [if_pos (by omega)]
    congr 1
    omega
  · rw [if_neg e]
    refine ⟨fun z => by rw [upd_n e]; exact (h i hi).1 z, fun q hq => ?_⟩
    obtain ⟨a, b, c⟩ := (h i hi).2 q hq
    have hz : ∀ u, u < 316 → upd (brg fS f 0 (316 * j) 315) (316 * j + 315) (nI s) (316 * i + u) = f (316 * i + u) := fun u hu => by
      rw [upd_n (by omega)]
      exact if_neg (by omega)
    exact ⟨by rw [upd_n e]; exact a, b.cg (hb i hi q hq) (fun u hu => hz u (by omega)), (hz 315 (by omega)).trans c⟩
set_option maxHeartbeats 4000000 in
set_option maxRecDepth 100000 in
theorem d_keep0 (l : Launch) {G : PH} {σ : Sg} (k : Mod G σ) (hv : sVal σ) : Tri l mX10_keep 0 0 [.ref 164, .int 0] G (fun a9 G' => a9 = some (.int (spKeep σ 0).1) ∧ Mod G' (spKeep σ 0).2 ∧ Fr G G' 164 17) := by
  obtain ⟨o, f, kO⟩ := id k
  obtain ⟨hk, h1, h2, h3, h4, h5, kR, ⟨⟨fi, fo, fs, fa, fb, km⟩, ⟨gs, gf, kl⟩, ⟨fm, kmd⟩⟩⟩ := id kO
  have hb := hv.1.1; have hvr := hv.1.2; have hN : rN (gR σ) ≤ 6 := hb.2.2.2.2; have hT : rT (gR σ) ≤ 24 := hb.2.1; have hT2 : 2 ≤ rT (gR σ) := hb.1
  obtain ⟨f7, g7, ki1, ki2, hI⟩ := kR.2.1
  have hs : spKeep σ 0 = (1, sgP (sgI σ 0 (some (gR σ, gS σ))) 0 (gQ σ)) := if_neg (by decide)
  refine Tri.intro (L := [_, _]) okX10_keep.1 (Nat.le_of_ble_eq_true rfl) rfl ?_
  refine P_iload_n dX10_keep_0 rfl ?_
  refine P_iconst dX10_keep_1 ci_0 ?_
  refine P_iconst dX10_keep_2 ci_1 ?_
  refine P_callSp dX10_keep_3 lkX10_68 okX10_in ⟨Nat.le_of_ble_eq_true rfl, Nat.le_of_ble_eq_true rfl⟩ (m_in l) rfl rfl (Nat.le_of_ble_eq_true rfl) ⟨Nat.le_of_ble_eq_true rfl, Nat.le_of_ble_eq_true rfl⟩ ?_
  refine P_if_ne (tgt := 12) dX10_keep_6 (by decide) (fun c6 => ?_) (fun c6 => ?_)
  · refine P_aload_n dX10_keep_12 rfl ?_
    refine P_get dX10_keep_13 flX10_19 hk.1 rfl ?_
    refine P_iload_n dX10_keep_16 rfl ?_
    refine P_iconst dX10_keep_17 ci_1 ?_
    refine P_zast dX10_keep_18 ki2 (vp_in_nI (show 0 < 2 by decide) (by decide)) ?_
    rw [show Int32.toNatClampNeg 0 = 0 from rfl, show vp_nar .boolean 1 = 1 from rfl]
    refine P_aload_n dX10_keep_19 rfl ?_
    refine P_get dX10_keep_20 flX10_7 (set_ne hk.1 (by decide)) rfl ?_
    refine P_iconst dX10_keep_23 ci_0 ?_
    refine P_aload_n dX10_keep_24 rfl ?_
    refine P_get dX10_keep_25 flX10_16 (set_ne hk.1 (by decide)) rfl ?_
    refine P_sipush dX10_keep_28 sp_316 ?_
    refine P_iload_n dX10_keep_31 rfl ?_
    refine P_imul dX10_keep_32 ?_
    rw [show (316 : Int32) * 0 = nI (316 * 0) from rfl]
    refine P_sipush dX10_keep_33 sp_315 ?_
    refine P_callS dX10_keep_36 lkX10_75 okX10_bring ⟨Nat.le_of_ble_eq_true rfl, Nat.le_of_ble_eq_true rfl⟩ (m_bring (i := 0) (j := 316 * 0) (n0 := 315) l (set_ne hk.2.1 (by decide)) (set_ne ki1 (by decide)) (by decide) (by decide) (by decide) (by decide) (by decide)) rfl rfl (Nat.le_of_ble_eq_true rfl) ⟨Nat.le_of_ble_eq_true rfl, Nat.le_of_ble_eq_true rfl⟩ (fun v36 G36 q36 => ?_)
    obtain ⟨rfl, ki9, hF9⟩ := q36
    have hob9 := hF9.at (set_ne (i := 168) (c' := aZ 2 (upd g7 0 1)) hk.1 (by decide)) (by decide)
    refine P_aload_n dX10_keep_39 rfl ?_
    refine P_get dX10_keep_40 flX10_16 hob9 rfl ?_
    refine P_sipush dX10_keep_43 sp_316 ?_
    refine P_iload_n dX10_keep_46 rfl ?_
    refine P_imul dX10_keep_47 ?_
    refine P_sipush dX10_keep_48 sp_315 ?_
    refine P_iadd dX10_keep_51 ?_
    rw [show (316 : Int32) * 0 + 315 = nI (316 * 0 + 315) from rfl]
    refine P_aload_n dX10_keep_52 rfl ?_
    refine P_get dX10_keep_53 flX10_267 hob9 rfl ?_
    refine P_iast dX10_keep_56 ki9 (vp_in_nI (n := 316 * 0 + 315) (by decide) (by decide)) ?_
    rw [nI_clamp (by decide), h2]
    have hF8 : Fr G (G36.set 167 (aI 632 (upd (brg f f7 0 (316 * 0) 315) (316 * 0 + 315) (nI (gS σ))))) 167 2 := (Fr.set (by omega) (by omega)).tr ((hF9.wide (by omega) (by omega)).tr (Fr.set (by omega) (by omega)))
    have kO8 : ModO _ (sgI σ 0 (some (gR σ, gS σ))) o f := kO.im hF8 ⟨_, _, set_at ki9, set_ne (hF9.at (set_at ki2) (by decide)) (by decide), mi_new (by decide) hN hk.2.2.1 hI (fun i _ q hq => (hv.2.2.2.2.2.2 i q hq).1.1.2.2.2.2) (by decide)⟩
    refine P_aload_n dX10_keep_57 rfl ?_
    refine P_iconst dX10_keep_58 ci_0 ?_
    refine P_putI dX10_keep_59 flX10_72 (set_ne hob9 (by decide)) (Nat.le_of_ble_eq_true rfl) ?_
    refine P_iconst dX10_keep_62 ci_1 ?_
    exact P_iret dX10_keep_63 rfl ⟨Nat.le_refl _, Nat.le_refl _⟩ ⟨by rw [hs], by rw [hs]; exact ⟨_, _, kO8.ob (σ' := sgP (sgI σ 0 (some (gR σ, gS σ))) 0 (gQ σ)) (o' := oDd o 0) rfl rfl kO8.2.2.1 kO8.2.2.2.1 kO8.2.2.2.2.1 kO8.2.2.2.2.2.1 ⟨by obtain ⟨a, b, -⟩ := kO8.2.2.2.2.2.2.1.1; exact ⟨a, b, fun i hi => absurd hi (Nat.not_lt_zero _)⟩, kO8.2.2.2.2.2.2.1.2⟩⟩, (hF8.wide (by omega) (by omega)).tr (frM (by decide) (by decide))⟩
  · exact absurd c6 (by decide)
set_option maxHeartbeats 4000000 in
set_option maxRecDepth 100000 in
theorem d_back0 (l : Launch) {G : PH} {σ : Sg} (k : Mod G σ) (hv : sVal σ) : Tri l mX10_goBack 0 0 [.ref 164, .int 0] G (fun a9 G' => a9 = some (.int (spBack σ 0).1) ∧ Mod G' (spBack σ 0).2 ∧ Fr G G' 164 17) := by
  obtain ⟨o, f, kO⟩ := id k
  obtain ⟨hk, h1, h2, h3, h4, h5, kR, ⟨⟨fi, fo, fs, fa, fb, km⟩, ⟨gs, gf, kl⟩, ⟨fm, kmd⟩⟩⟩ := id kO
  have hb := hv.1.1; have hvr := hv.1.2; have hN : rN (gR σ) ≤ 6 := hb.2.2.2.2; have hT : rT (gR σ) ≤ 24 := hb.2.1; have hT2 : 2 ≤ rT (gR σ) := hb.1
  obtain ⟨f7, g7, ki1, ki2, hI⟩ := kR.2.1
  refine Tri.intro (L := [_, _]) okX10_goBack.1 (Nat.le_of_ble_eq_true rfl) rfl ?_
  refine P_iload_n dX10_goBack_0 rfl ?_
  refine P_iconst dX10_goBack_1 ci_0 ?_
  refine P_iconst dX10_goBack_2 ci_1 ?_
  refine P_callSp dX10_goBack_3 lkX10_68 okX10_in ⟨Nat.le_of_ble_eq_true rfl, Nat.le_of_ble_eq_true rfl⟩ (m_in l) rfl rfl (Nat.le_of_ble_eq_true rfl) ⟨Nat.le_of_ble_eq_true rfl, Nat.le_of_ble_eq_true rfl⟩ ?_
  refine P_if_ne (tgt := 12) dX10_goBack_6 (by decide) (fun c6 => ?_) (fun c6 => ?_)
  · refine P_aload_n dX10_goBack_12 rfl ?_
    refine P_get dX10_goBack_13 flX10_19 hk.1 rfl ?_
    refine P_iload_n dX10_goBack_16 rfl ?_
    refine P_zald dX10_goBack_17 ki2 (vp_in_nI (show 0 < 2 by decide) (by decide)) ?_
    rw [show Int32.toNatClampNeg 0 = 0 from rfl]
    refine P_if_ne (tgt := 25) dX10_goBack_18 (by decide) (fun c18 => ?_) (fun c18 => ?_)
    · obtain ⟨q9, hq9⟩ : ∃ q, gI σ 0 = some q := by
        cases e : gI σ 0 with
        | none => exact absurd ((hI 0 (by decide)).1 e) c18
        | some q => exact ⟨q, rfl⟩
      obtain ⟨hi1, hi2, hi3⟩ := (hI 0 (by decide)).2 q9 hq9
      have hs : spBack σ 0 = (1, sgP (sgS (sgR σ q9.1) q9.2) 0 (gQ σ)) := by unfold spBack; rw [if_neg (by decide), show (0 : Int32).toNatClampNeg = 0 from rfl, hq9]
      refine P_aload_n dX10_goBack_25 rfl ?_
      refine P_get dX10_goBack_26 flX10_16 hk.1 rfl ?_
      refine P_sipush dX10_goBack_29 sp_316 ?_
      refine P_iload_n dX10_goBack_32 rfl ?_
      refine P_imul dX10_goBack_33 ?_
      rw [show (316 : Int32) * 0 = nI (316 * 0) from rfl]
      refine P_aload_n dX10_goBack_34 rfl ?_
      refine P_get dX10_goBack_35 flX10_7 hk.1 rfl ?_
      refine P_iconst dX10_goBack_38 ci_0 ?_
      refine P_sipush dX10_goBack_39 sp_315 ?_
      refine P_callS dX10_goBack_42 lkX10_75 okX10_bring ⟨Nat.le_of_ble_eq_true rfl, Nat.le_of_ble_eq_true rfl⟩ (m_bring (i := 316 * 0) (j := 0) (n0 := 315) l ki1 hk.2.1 (by decide) (by decide) (by decide) (by decide) (by decide)) rfl rfl (Nat.le_of_ble_eq_true rfl) ⟨Nat.le_of_ble_eq_true rfl, Nat.le_of_ble_eq_true rfl⟩ (fun v42 G42 q42 => ?_)
      obtain ⟨rfl, kS9, hF9⟩ := q42
      have hrow : rRow q9.1 (brg f7 f (316 * 0) 0 315) := hi2.cg (hv.2.2.2.2.2.2 0 q9 hq9).1.1.2.2.2.2 (fun i hi => by unfold brg; exact if_pos (by omega))
      have kO2 := kO.st hF9 kS9 hrow (hv.2.2.2.2.2.2 0 q9 hq9).1.1
      refine P_aload_n dX10_goBack_45 rfl ?_
      refine P_aload_n dX10_goBack_46 rfl ?_
      refine P_get dX10_goBack_47 flX10_16 kO2.1.1 rfl ?_
      refine P_sipush dX10_goBack_50 sp_316 ?_
      refine P_iload_n dX10_goBack_53 rfl ?_
      refine P_imul dX10_goBack_54 ?_
      refine P_sipush dX10_goBack_55 sp_315 ?_
      refine P_iadd dX10_goBack_58 ?_
      rw [show (316 : Int32) * 0 + 315 = nI (316 * 0 + 315) from rfl]
      refine P_iald dX10_goBack_59 (hF9.at ki1 (by decide)) (vp_in_nI (n := 316 * 0 + 315) (by decide) (by decide)) ?_
      rw [nI_clamp (by decide), hi3]
      refine P_putI dX10_goBack_60 flX10_267 kO2.1.1 (Nat.le_of_ble_eq_true rfl) ?_
      refine P_aload_n dX10_goBack_63 rfl ?_
      refine P_iconst dX10_goBack_64 ci_0 ?_
      refine P_putI dX10_goBack_65 flX10_72 (set_at kO2.1.1) (Nat.le_of_ble_eq_true rfl) ?_
      refine P_iconst dX10_goBack_68 ci_1 ?_
      have kO3 : ModO (G42.set 164 (oM (oSd o (nI q9.2)))) (sgS (sgR σ q9.1) q9.2) (oSd o (nI q9.2)) _ := kO2.ob rfl h1 rfl h3 h4 h5 kO2.2.2.2.2.2.2.1
      have kO4 := kO3.ob (σ' := sgP (sgS (sgR σ q9.1) q9.2) 0 (gQ σ)) (o' := oDd (oSd o (nI q9.2)) 0) rfl rfl rfl h3 h4 h5 ⟨by obtain ⟨a, b, -⟩ := kO3.2.2.2.2.2.2.1.1; exact ⟨a, b, fun i hi => absurd hi (Nat.not_lt_zero _)⟩, kO3.2.2.2.2.2.2.1.2⟩
      exact P_iret dX10_goBack_69 rfl ⟨Nat.le_refl _, Nat.le_refl _⟩ ⟨by rw [hs], by rw [hs]; exact ⟨_, _, kO4⟩, (hF9.wide (by omega) (by omega)).tr ((frM (by decide) (by decide)).tr (frM (by decide) (by decide)))⟩
    · have hno : gI σ 0 = none := by
        cases e : gI σ 0 with
        | none => rfl
        | some q => exact absurd c18 ((hI 0 (by decide)).2 q e).1
      have hs : spBack σ 0 = (NOTT, σ) := by unfold spBack; rw [if_neg (by decide), show (0 : Int32).toNatClampNeg = 0 from rfl, hno]
      refine P_ldcw dX10_goBack_21 kcX10_276 ?_
      exact P_iret dX10_goBack_24 rfl ⟨Nat.le_refl _, Nat.le_refl _⟩ ⟨by rw [hs], by rw [hs]; exact k, Fr.rf⟩
  · exact absurd c6 (by decide)
set_option maxHeartbeats 4000000 in
set_option maxRecDepth 100000 in
theorem d_keep1 (l : Launch) {G : PH} {σ : Sg} (k : Mod G σ) (hv : sVal σ) : Tri l mX10_keep 0 0 [.ref 164, .int 1] G (fun a9 G' => a9 = some (.int (spKeep σ 1).1) ∧ Mod G' (spKeep σ 1).2 ∧ Fr G G' 164 17) := by
  obtain ⟨o, f, kO⟩ := id k
  obtain ⟨hk, h1, h2, h3, h4, h5, kR, ⟨⟨fi, fo, fs, fa, fb, km⟩, ⟨gs, gf, kl⟩, ⟨fm, kmd⟩⟩⟩ := id kO
  have hb := hv.1.1; have hvr := hv.1.2; have hN : rN (gR σ) ≤ 6 := hb.2.2.2.2; have hT : rT (gR σ) ≤ 24 := hb.2.1; have hT2 : 2 ≤ rT (gR σ) := hb.1
  obtain ⟨f7, g7, ki1, ki2, hI⟩ := kR.2.1
  have hs : spKeep σ 1 = (1, sgP (sgI σ 1 (some (gR σ, gS σ))) 0 (gQ σ)) := if_neg (by decide)
  refine Tri.intro (L := [_, _]) okX10_keep.1 (Nat.le_of_ble_eq_true rfl) rfl ?_
  refine P_iload_n dX10_keep_0 rfl ?_
  refine P_iconst dX10_keep_1 ci_0 ?_
  refine P_iconst dX10_keep_2 ci_1 ?_
  refine P_callSp dX10_keep_3 lkX10_68 okX10_in ⟨Nat.le_of_ble_eq_true rfl, Nat.le_of_ble_eq_true rfl⟩ (m_in l) rfl rfl (Nat.le_of_ble_eq_true rfl) ⟨Nat.le_of_ble_eq_true rfl, Nat.le_of_ble_eq_true rfl⟩ ?_
  refine P_if_ne (tgt := 12) dX10_keep_6 (by decide) (fun c6 => ?_) (fun c6 => ?_)
  · refine P_aload_n dX10_keep_12 rfl ?_
    refine P_get dX10_keep_13 flX10_19 hk.1 rfl ?_
    refine P_iload_n dX10_keep_16 rfl ?_
    refine P_iconst dX10_keep_17 ci_1 ?_
    refine P_zast dX10_keep_18 ki2 (vp_in_nI (show 1 < 2 by decide) (by decide)) ?_
    rw [show Int32.toNatClampNeg 1 = 1 from rfl, show vp_nar .boolean 1 = 1 from rfl]
    refine P_aload_n dX10_keep_19 rfl ?_
    refine P_get dX10_keep_20 flX10_7 (set_ne hk.1 (by decide)) rfl ?_
    refine P_iconst dX10_keep_23 ci_0 ?_
    refine P_aload_n dX10_keep_24 rfl ?_
    refine P_get dX10_keep_25 flX10_16 (set_ne hk.1 (by decide)) rfl ?_
    refine P_sipush dX10_keep_28 sp_316 ?_
    refine P_iload_n dX10_keep_31 rfl ?_
    refine P_imul dX10_keep_32 ?_
    rw [show (316 : Int32) * 1 = nI (316 * 1) from rfl]
    refine P_sipush dX10_keep_33 sp_315 ?_
    refine P_callS dX10_keep_36 lkX10_75 okX10_bring ⟨Nat.le_of_ble_eq_true rfl, Nat.le_of_ble_eq_true rfl⟩ (m_bring (i := 0) (j := 316 * 1) (n0 := 315) l (set_ne hk.2.1 (by decide)) (set_ne ki1 (by decide)) (by decide) (by decide) (by decide) (by decide) (by decide)) rfl rfl (Nat.le_of_ble_eq_true rfl) ⟨Nat.le_of_ble_eq_true rfl, Nat.le_of_ble_eq_true rfl⟩ (fun v36 G36 q36 => ?_)
    obtain ⟨rfl, ki9, hF9⟩ := q36
    have hob9 := hF9.at (set_ne (i := 168) (c' := aZ 2 (upd g7 1 1)) hk.1 (by decide)) (by decide)
    refine P_aload_n dX10_keep_39 rfl ?_
    refine P_get dX10_keep_40 flX10_16 hob9 rfl ?_
    refine P_sipush dX10_keep_43 sp_316 ?_
    refine P_iload_n dX10_keep_46 rfl ?_
    refine P_imul dX10_keep_47 ?_
    refine P_sipush dX10_keep_48 sp_315 ?_
    refine P_iadd dX10_keep_51 ?_
    rw [show (316 : Int32) * 1 + 315 = nI (316 * 1 + 315) from rfl]
    refine P_aload_n dX10_keep_52 rfl ?_
    refine P_get dX10_keep_53 flX10_267 hob9 rfl ?_
    refine P_iast dX10_keep_56 ki9 (vp_in_nI (n := 316 * 1 + 315) (by decide) (by decide)) ?_
    rw [nI_clamp (by decide), h2]
    have hF8 : Fr G (G36.set 167 (aI 632 (upd (brg f f7 0 (316 * 1) 315) (316 * 1 + 315) (nI (gS σ))))) 167 2 := (Fr.set (by omega) (by omega)).tr ((hF9.wide (by omega) (by omega)).tr (Fr.set (by omega) (by omega)))
    have kO8 : ModO _ (sgI σ 1 (some (gR σ, gS σ))) o f := kO.im hF8 ⟨_, _, set_at ki9, set_ne (hF9.at (set_at ki2) (by decide)) (by decide), mi_new (by decide) hN hk.2.2.1 hI (fun i _ q hq => (hv.2.2.2.2.2.2 i q hq).1.1.2.2.2.2) (by decide)⟩
    refine P_aload_n dX10_keep_57 rfl ?_
    refine P_iconst dX10_keep_58 ci_0 ?_
    refine P_putI dX10_keep_59 flX10_72 (set_ne hob9 (by decide)) (Nat.le_of_ble_eq_true rfl) ?_
    refine P_iconst dX10_keep_62 ci_1 ?_
    exact P_iret dX10_keep_63 rfl ⟨Nat.le_refl _, Nat.le_refl _⟩ ⟨by rw [hs], by rw [hs]; exact ⟨_, _, kO8.ob (σ' := sgP (sgI σ 1 (some (gR σ, gS σ))) 0 (gQ σ)) (o' := oDd o 0) rfl rfl kO8.2.2.1 kO8.2.2.2.1 kO8.2.2.2.2.1 kO8.2.2.2.2.2.1 ⟨by obtain ⟨a, b, -⟩ := kO8.2.2.2.2.2.2.1.1; exact ⟨a, b, fun i hi => absurd hi (Nat.not_lt_zero _)⟩, kO8.2.2.2.2.2.2.1.2⟩⟩, (hF8.wide (by omega) (by omega)).tr (frM (by decide) (by decide))⟩
  · exact absurd c6 (by decide)
set_option maxHeartbeats 4000000 in
set_option maxRecDepth 100000 in
theorem d_back1 (l : Launch) {G : PH} {σ : Sg} (k : Mod G σ) (hv : sVal σ) : Tri l mX10_goBack 0 0 [.ref 164, .int 1] G (fun a9 G' => a9 = some (.int (spBack σ 1).1) ∧ Mod G' (spBack σ 1).2 ∧ Fr G G' 164 17) := by
  obtain ⟨o, f, kO⟩ := id k
  obtain ⟨hk, h1, h2, h3, h4, h5, kR, ⟨⟨fi, fo, fs, fa, fb, km⟩, ⟨gs, gf, kl⟩, ⟨fm, kmd⟩⟩⟩ := id kO
  have hb := hv.1.1; have hvr := hv.1.2; have hN : rN (gR σ) ≤ 6 := hb.2.2.2.2; have hT : rT (gR σ) ≤ 24 := hb.2.1; have hT2 : 2 ≤ rT (gR σ) := hb.1
  obtain ⟨f7, g7, ki1, ki2, hI⟩ := kR.2.1
  refine Tri.intro (L := [_, _]) okX10_goBack.1 (Nat.le_of_ble_eq_true rfl) rfl ?_
  refine P_iload_n dX10_goBack_0 rfl ?_
  refine P_iconst dX10_goBack_1 ci_0 ?_
  refine P_iconst dX10_goBack_2 ci_1 ?_
  refine P_callSp dX10_goBack_3 lkX10_68 okX10_in ⟨Nat.le_of_ble_eq_true rfl, Nat.le_of_ble_eq_true rfl⟩ (m_in l) rfl rfl (Nat.le_of_ble_eq_true rfl) ⟨Nat.le_of_ble_eq_true rfl, Nat.le_of_ble_eq_true rfl⟩ ?_
  refine P_if_ne (tgt := 12) dX10_goBack_6 (by decide) (fun c6 => ?_) (fun c6 => ?_)
  · refine P_aload_n dX10_goBack_12 rfl ?_
    refine P_get dX10_goBack_13 flX10_19 hk.1 rfl ?_
    refine P_iload_n dX10_goBack_16 rfl ?_
    refine P_zald dX10_goBack_17 ki2 (vp_in_nI (show 1 < 2 by decide) (by decide)) ?_
    rw [show Int32.toNatClampNeg 1 = 1 from rfl]
    refine P_if_ne (tgt := 25) dX10_goBack_18 (by decide) (fun c18 => ?_) (fun c18 => ?_)
    · obtain ⟨q9, hq9⟩ : ∃ q, gI σ 1 = some q := by
        cases e : gI σ 1 with
        | none => exact absurd ((hI 1 (by decide)).1 e) c18
        | some q => exact ⟨q, rfl⟩
      obtain ⟨hi1, hi2, hi3⟩ := (hI 1 (by decide)).2 q9 hq9
      have hs : spBack σ 1 = (1, sgP (sgS (sgR σ q9.1) q9.2) 0 (gQ σ)) := by unfold spBack; rw [if_neg (by decide), show (1 : Int32).toNatClampNeg = 1 from rfl, hq9]
      refine P_aload_n dX10_goBack_25 rfl ?_
      refine P_get dX10_goBack_26 flX10_16 hk.1 rfl ?_
      refine P_sipush dX10_goBack_29 sp_316 ?_
      refine P_iload_n dX10_goBack_32 rfl ?_
      refine P_imul dX10_goBack_33 ?_
      rw [show (316 : Int32) * 1 = nI (316 * 1) from rfl]
      refine P_aload_n dX10_goBack_34 rfl ?_
      refine P_get dX10_goBack_35 flX10_7 hk.1 rfl ?_
      refine P_iconst dX10_goBack_38 ci_0 ?_
      refine P_sipush dX10_goBack_39 sp_315 ?_
      refine P_callS dX10_goBack_42 lkX10_75 okX10_bring ⟨Nat.le_of_ble_eq_true rfl, Nat.le_of_ble_eq_true rfl⟩ (m_bring (i := 316 * 1) (j := 0) (n0 := 315) l ki1 hk.2.1 (by decide) (by decide) (by decide) (by decide) (by decide)) rfl rfl (Nat.le_of_ble_eq_true rfl) ⟨Nat.le_of_ble_eq_true rfl, Nat.le_of_ble_eq_true rfl⟩ (fun v42 G42 q42 => ?_)
      obtain ⟨rfl, kS9, hF9⟩ := q42
      have hrow : rRow q9.1 (brg f7 f (316 * 1) 0 315) := hi2.cg (hv.2.2.2.2.2.2 1 q9 hq9).1.1.2.2.2.2 (fun i hi => by unfold brg; exact if_pos (by omega))
      have kO2 := kO.st hF9 kS9 hrow (hv.2.2.2.2.2.2 1 q9 hq9).1.1
      refine P_aload_n dX10_goBack_45 rfl ?_
      refine P_aload_n dX10_goBack_46 rfl ?_
      refine P_get dX10_goBack_47 flX10_16 kO2.1.1 rfl ?_
      refine P_sipush dX10_goBack_50 sp_316 ?_
      refine P_iload_n dX10_goBack_53 rfl ?_
      refine P_imul dX10_goBack_54 ?_
      refine P_sipush dX10_goBack_55 sp_315 ?_
      refine P_iadd dX10_goBack_58 ?_
      rw [show (316 : Int32) * 1 + 315 = nI (316 * 1 + 315) from rfl]
      refine P_iald dX10_goBack_59 (hF9.at ki1 (by decide)) (vp_in_nI (n := 316 * 1 + 315) (by decide) (by decide)) ?_
      rw [nI_clamp (by decide), hi3]
      refine P_putI dX10_goBack_60 flX10_267 kO2.1.1 (Nat.le_of_ble_eq_true rfl) ?_
      refine P_aload_n dX10_goBack_63 rfl ?_
      refine P_iconst dX10_goBack_64 ci_0 ?_
      refine P_putI dX10_goBack_65 flX10_72 (set_at kO2.1.1) (Nat.le_of_ble_eq_true rfl) ?_
      refine P_iconst dX10_goBack_68 ci_1 ?_
      have kO3 : ModO (G42.set 164 (oM (oSd o (nI q9.2)))) (sgS (sgR σ q9.1) q9.2) (oSd o (nI q9.2)) _ := kO2.ob rfl h1 rfl h3 h4 h5 kO2.2.2.2.2.2.2.1
      have kO4 := kO3.ob (σ' := sgP (sgS (sgR σ q9.1) q9.2) 0 (gQ σ)) (o' := oDd (oSd o (nI q9.2)) 0) rfl rfl rfl h3 h4 h5 ⟨by obtain ⟨a, b, -⟩ := kO3.2.2.2.2.2.2.1.1; exact ⟨a, b, fun i hi => absurd hi (Nat.not_lt_zero _)⟩, kO3.2.2.2.2.2.2.1.2⟩
      exact P_iret dX10_goBack_69 rfl ⟨Nat.le_refl _, Nat.le_refl _⟩ ⟨by rw [hs], by rw [hs]; exact ⟨_, _, kO4⟩, (hF9.wide (by omega) (by omega)).tr ((frM (by decide) (by decide)).tr (frM (by decide) (by decide)))⟩
    · have hno : gI σ 1 = none := by
        cases e : gI σ 1 with
        | none => rfl
        | some q => exact absurd c18 ((hI 1 (by decide)).2 q e).1
      have hs : spBack σ 1 = (NOTT, σ) := by unfold spBack; rw [if_neg (by decide), show (1 : Int32).toNatClampNeg = 1 from rfl, hno]
      refine P_ldcw dX10_goBack_21 kcX10_276 ?_
      exact P_iret dX10_goBack_24 rfl ⟨Nat.le_refl _, Nat.le_refl _⟩ ⟨by rw [hs], by rw [hs]; exact k, Fr.rf⟩
  · exact absurd c6 (by decide)
theorem d_keepN (l : Launch) {G : PH} {σ : Sg} {i0 : Int32} (k : Mod G σ) (ho : oB3 i0 0 1) : Tri l mX10_keep 0 0 [.ref 164, .int i0] G (fun a9 G' => a9 = some (.int (spKeep σ i0).1) ∧ Mod G' (spKeep σ i0).2 ∧ Fr G G' 164 17) := by
  have hs : spKeep σ i0 = (UNK, σ) := if_pos ho
  refine Tri.intro (L := [_, _]) okX10_keep.1 (Nat.le_of_ble_eq_true rfl) rfl ?_
  refine P_iload_n dX10_keep_0 rfl ?_
  refine P_iconst dX10_keep_1 ci_0 ?_
  refine P_iconst dX10_keep_2 ci_1 ?_
  refine P_callSp dX10_keep_3 lkX10_68 okX10_in ⟨Nat.le_of_ble_eq_true rfl, Nat.le_of_ble_eq_true rfl⟩ (m_in l) rfl rfl (Nat.le_of_ble_eq_true rfl) ⟨Nat.le_of_ble_eq_true rfl, Nat.le_of_ble_eq_true rfl⟩ ?_
  refine P_if_ne (tgt := 12) dX10_keep_6 (by decide) (fun c6 => ?_) (fun c6 => ?_)
  · exact absurd ho (b2w c6)
  · refine P_ldc dX10_keep_9 kcX10_160 ?_
    exact P_iret dX10_keep_11 rfl ⟨Nat.le_refl _, Nat.le_refl _⟩ ⟨by rw [hs], by rw [hs]; exact k, Fr.rf⟩
theorem d_keep (l : Launch) {G : PH} {σ : Sg} {i0 : Int32} (k : Mod G σ) (hv : sVal σ) : Tri l mX10_keep 0 0 [.ref 164, .int i0] G (fun a9 G' => a9 = some (.int (spKeep σ i0).1) ∧ Mod G' (spKeep σ i0).2 ∧ Fr G G' 164 17) := by
  by_cases ho : oB3 i0 0 1
  · exact d_keepN l k ho
  · rcases im_cases ho with rfl | rfl
    · exact d_keep0 l k hv
    · exact d_keep1 l k hv
theorem d_backN (l : Launch) {G : PH} {σ : Sg} {i0 : Int32} (k : Mod G σ) (ho : oB3 i0 0 1) : Tri l mX10_goBack 0 0 [.ref 164, .int i0] G (fun a9 G' => a9 = some (.int (spBack σ i0).1) ∧ Mod G' (spBack σ i0).2 ∧ Fr G G' 164 17) := by
  have hs : spBack σ i0 = (UNK, σ) := if_pos ho
  refine Tri.intro (L := [_, _]) okX10_goBack.1 (Nat.le_of_ble_eq_true rfl) rfl ?_
  refine P_iload_n dX10_goBack_0 rfl ?_
  refine P_iconst dX10_goBack_1 ci_0 ?_
  refine P_iconst dX10_goBack_2 ci_1 ?_
  refine P_callSp dX10_goBack_3 lkX10_68 okX10_in ⟨Nat.le_of_ble_eq_true rfl, Nat.le_of_ble_eq_true rfl⟩ (m_in l) rfl rfl (Nat.le_of_ble_eq_true rfl) ⟨Nat.le_of_ble_eq_true rfl, Nat.le_of_ble_eq_true rfl⟩ ?_
  refine P_if_ne (tgt := 12) dX10_goBack_6 (by decide) (fun c6 => ?_) (fun c6 => ?_)
  · exact absurd ho (b2w c6)
  · refine P_ldc dX10_goBack_9 kcX10_160 ?_
    exact P_iret dX10_goBack_11 rfl ⟨Nat.le_refl _, Nat.le_refl _⟩ ⟨by rw [hs], by rw [hs]; exact k, Fr.rf⟩
theorem d_back (l : Launch) {G : PH} {σ : Sg} {i0 : Int32} (k : Mod G σ) (hv : sVal σ) : Tri l mX10_goBack 0 0 [.ref 164, .int i0] G (fun a9 G' => a9 = some (.int (spBack σ i0).1) ∧ Mod G' (spBack σ i0).2 ∧ Fr G G' 164 17) := by
  by_cases ho : oB3 i0 0 1
  · exact d_backN l k ho
  · rcases im_cases ho with rfl | rfl
    · exact d_back0 l k hv
    · exact d_back1 l k hv
