theorem b2y {c : Prop} [Decidable c] (h : ¬ (if c then (1 : Int32) else 0) = 0) : c := Classical.byContradiction fun z => h (by rw [if_neg z])
theorem b2z {c : Prop} [Decidable c] (h : (if c then (0 : Int32) else 1) = 0) : c := Classical.byContradiction fun z => by rw [if_neg z] at h; exact absurd h (by decide)
theorem b2w {c : Prop} [Decidable c] (h : ¬ (if c then (0 : Int32) else 1) = 0) : ¬ c := fun z => h (by rw [if_pos z])
theorem tabo {w : Int32} {n : Nat} (h : ∀ k, k ≤ n → ¬ w = nI k) : w.toInt < 0 ∨ (n : Int) < w.toInt := by
  by_cases h0 : w < 0
  · left; have := Int32.lt_iff_toInt_lt.mp h0; simpa using this
  · obtain ⟨j, hj, rfl⟩ := nI_of h0
    right
    rw [nI_toInt hj]
    have : ¬ j ≤ n := fun z => h j z rfl
    omega
theorem ob_nat {v : Int32} {a b : Nat} (ha : a < 2 ^ 31) (hb : b < 2 ^ 31) (h : ¬ oB3 v (nI a) (nI b)) : ∃ j, a ≤ j ∧ j ≤ b ∧ v = nI j := by
  have h1 : ¬ v < nI a := fun z => h (Or.inl z)
  have h2 : ¬ nI b < v := fun z => h (Or.inr z)
  have h0 : ¬ v < 0 := fun z => h1 (neg_nI z ha)
  obtain ⟨j, hj, rfl⟩ := nI_of h0
  exact ⟨j, Nat.not_lt.mp fun z => h1 (nI_lt z ha), Nat.not_lt.mp fun z => h2 (nI_lt z hj), rfl⟩
theorem bs_get {ρ : Riv} {r : Nat} {b : Nat × Nat × Int64} (h : bsS ρ r 231 = some b) : bsG ρ r = b := by unfold bsG; rw [h]; rfl
theorem c_feed (l : Launch) {G : PH} {σ : Sg} {c : Int32} (k : Cls G σ) (hv : sVal σ) : Tri l mX9_feed 0 0 [.ref 0, .int c] G (fun a9 G' => a9 = some (.int (spFeed σ c).1) ∧ Cls G' (spFeed σ c).2 ∧ Fr G G' 0 164) := by
  obtain ⟨k0, k1, ⟨r2, k2⟩, ⟨qT, qD, fi, fo, fs, fl, fh, k3⟩, ⟨a1, a2, a3, k4⟩, ⟨b1, b2, b3, b4, b5, k5⟩, k6, k7, k8, ⟨fI, k9, e0, e1⟩, k10, k11⟩ := id k
  have hb := hv.1.1; have hvr := hv.1.2; have hN : rN (gR σ) ≤ 6 := hb.2.2.2.2; have hT : rT (gR σ) ≤ 24 := hb.2.1; have hT2 : 2 ≤ rT (gR σ) := hb.1
  refine Tri.intro (L := [_, _]) okX9_feed.1 (Nat.le_of_ble_eq_true rfl) rfl ?_
  refine P_iload_n dX9_feed_0 rfl ?_
  refine P_iconst dX9_feed_1 ci_0 ?_
  refine P_sipush dX9_feed_2 sp_255 ?_
  refine P_callSp dX9_feed_5 lkX9_72 okX9_outOf ⟨Nat.le_of_ble_eq_true rfl, Nat.le_of_ble_eq_true rfl⟩ (t_outOf l) rfl rfl (Nat.le_of_ble_eq_true rfl) ⟨Nat.le_of_ble_eq_true rfl, Nat.le_of_ble_eq_true rfl⟩ ?_
  refine P_if_eq (tgt := 14) dX9_feed_8 (by decide) (fun c8 => ?_) (fun c8 => ?_)
  · have e := (b2p _).mp c8
    refine P_aload_n dX9_feed_14 rfl ?_
    refine P_get dX9_feed_15 flX9_36 k0 rfl ?_
    refine P_callVp dX9_feed_18 lkX9_77 okX8_isFull ⟨Nat.le_of_ble_eq_true rfl, Nat.le_of_ble_eq_true rfl⟩ (t_isFull l k5) rfl rfl k5.1 (Nat.le_of_ble_eq_true rfl) ⟨Nat.le_of_ble_eq_true rfl, Nat.le_of_ble_eq_true rfl⟩ ?_
    refine P_if_eq (tgt := 27) dX9_feed_21 (by decide) (fun c21 => ?_) (fun c21 => ?_)
    · have hf := b2z c21
      have hs : spFeed σ c = (nI (gN σ + 1), sgT σ (gN σ + 1) (upd (gX σ) (gN σ) c) (gF σ)) := by unfold spFeed; rw [if_neg e, if_pos hf]
      refine P_aload_n dX9_feed_27 rfl ?_
      refine P_get dX9_feed_28 flX9_36 k0 rfl ?_
      refine P_iload_n dX9_feed_31 rfl ?_
      refine P_callV dX9_feed_32 lkX9_82 okX8_append ⟨Nat.le_of_ble_eq_true rfl, Nat.le_of_ble_eq_true rfl⟩ (t_append l k5 hf) rfl rfl k5.1 (Nat.le_of_ble_eq_true rfl) ⟨Nat.le_of_ble_eq_true rfl, Nat.le_of_ble_eq_true rfl⟩ (fun v32 G32 q32 => ?_)
      obtain ⟨rfl, t1, hF1⟩ := q32
      refine P_aload_n dX9_feed_35 rfl ?_
      refine P_get dX9_feed_36 flX9_36 (hF1.at k0 (by omega)) rfl ?_
      refine P_callVp dX9_feed_39 lkX9_86 okX8_letterCount ⟨Nat.le_of_ble_eq_true rfl, Nat.le_of_ble_eq_true rfl⟩ (t_letterCount l t1) rfl rfl t1.1 (Nat.le_of_ble_eq_true rfl) ⟨Nat.le_of_ble_eq_true rfl, Nat.le_of_ble_eq_true rfl⟩ ?_
      exact P_iret dX9_feed_42 rfl ⟨Nat.le_refl _, Nat.le_refl _⟩ ⟨by rw [hs], by rw [hs]; exact k.txt hF1 ⟨_, _, _, _, _, t1⟩, hF1.wide (by omega) (by omega)⟩
    · have hf := b2w c21
      have hs : spFeed σ c = (FUL, σ) := by unfold spFeed; rw [if_neg e, if_neg hf]
      refine P_ldc dX9_feed_24 kcX9_81 ?_
      exact P_iret dX9_feed_26 rfl ⟨Nat.le_refl _, Nat.le_refl _⟩ ⟨by rw [hs], by rw [hs]; exact k, Fr.rf⟩
  · have e := b2y c8
    have hs : spFeed σ c = (OUTS, σ) := by unfold spFeed; rw [if_pos e]
    refine P_ldc dX9_feed_11 kcX9_76 ?_
    exact P_iret dX9_feed_13 rfl ⟨Nat.le_refl _, Nat.le_refl _⟩ ⟨by rw [hs], by rw [hs]; exact k, Fr.rf⟩
theorem c_fault (l : Launch) {G : PH} {σ : Sg} (k : Cls G σ) : Tri l mX9_fault 0 0 [.ref 0] G (fun a9 G' => a9 = some (.int (gF σ)) ∧ Cls G' σ ∧ Fr G G' 0 164) := by
  refine Tri.intro (L := [_]) okX9_fault.1 (Nat.le_of_ble_eq_true rfl) rfl ?_
  refine P_aload_n dX9_fault_0 rfl ?_
  refine P_get dX9_fault_1 flX9_67 k.1 rfl ?_
  exact P_iret dX9_fault_4 rfl ⟨Nat.le_refl _, Nat.le_refl _⟩ ⟨rfl, k, Fr.rf⟩
theorem Fr2.split {G G' : PH} {a n b m x : Nat} {c : PCell} (h : Fr2 G G' a n b m) (hG : G[x]? = some c) (h1 : x < a ∨ a + n ≤ x) (h2 : x < b ∨ b + m ≤ x) : G'[x]? = some c := (h.2 x h1 h2).trans hG
/-- two frames' worth: put the first block back, and what is left is a frame of the second -/
theorem Fr2.via {G G' : PH} {a b m : Nat} {c : PCell} (h : Fr2 G G' a 1 b m) (hc : G'[a]? = some c) (hab : a < b ∨ b + m ≤ a) : Fr G (G.set a c) a 1 ∧ Fr (G.set a c) G' b m := by
  have hl : a < G.length := by
    have := (List.getElem?_eq_some_iff.mp hc).1
    rw [h.1] at this
    exact this
  refine ⟨Fr.set (by omega) (by omega), ?_, fun x hx => ?_⟩
  · rw [h.1, List.length_set]
  · by_cases e : x = a
    · subst e
      rw [hc, List.getElem?_set_self hl]
    · rw [List.getElem?_set_ne (fun z => e z.symm)]
      exact h.2 x (by omega) hx
theorem Cls_rv1 {G G1 G2 G3 : PH} {σ : Sg} {f : Int32} (k : Cls G σ) (hF1 : Fr2 G G1 27 1 8 7) (hR : ∃ ρ, isRiver G1 8 ρ) (hF2 : Fr G1 G2 0 1) (h0 : G2[0]? = some (o9 f)) (hF3 : Fr G2 G3 27 1) (ht : ∃ p fn fp tt td, txw G3 27 0 (gX σ) p fn fp tt td) : Cls G3 (sgT σ 0 (gX σ) f) := by
  obtain ⟨k0, k1, -, ⟨qT, qD, fi, fo, fs, fl, fh, k3⟩, ⟨a1, a2, a3, k4⟩, ⟨b1, b2, b3, b4, b5, k5⟩, k6, k7, k8, ⟨fI, k9, e0, e1⟩, k10, k11⟩ := k
  obtain ⟨p, fn, fp, tt, td, ht⟩ := ht
  have hg1 : G2[27]? = G1[27]? := hF2.2 27 (by omega)
  obtain ⟨c9, hc9⟩ : ∃ c, G1[27]? = some c := by
    have hl : 27 < G3.length := (List.getElem?_eq_some_iff.mp ht.1).1
    rw [hF3.1, hF2.1] at hl
    exact ⟨_, List.getElem?_eq_getElem hl⟩
  obtain ⟨hA, hB⟩ := hF1.via hc9 (by omega)
  have go : ∀ {P : PH → Prop}, P G → (∀ {H H' : PH}, Fr H H' 27 1 → P H → P H') → (∀ {H H' : PH}, Fr H H' 8 7 → P H → P H') → (∀ {H H' : PH}, Fr H H' 0 1 → P H → P H') → P G3 := fun h a b c => a hF3 (c hF2 (b hB (a hA h)))
  refine ⟨hF3.at h0 (by omega), ?_, ?_, ?_, ?_, ⟨p, fn, fp, tt, td, ht⟩, ?_, ?_, ?_, ?_, ?_, ?_⟩
  · exact go (P := fun G => isRiver G 1 (gR σ)) k1 (fun h z => z.fr h (by omega)) (fun h z => z.fr h (by omega)) (fun h z => z.fr h (by omega))
  · obtain ⟨ρ, hρ⟩ := hR; exact ⟨ρ, (hρ.fr hF2 (by omega)).fr hF3 (by omega)⟩
  · exact ⟨qT, qD, fi, fo, fs, fl, fh, go (P := fun G => rout G 15 qT qD fi fo fs fl fh) k3 (fun h z => z.fr h (by omega)) (fun h z => z.fr h (by omega)) (fun h z => z.fr h (by omega))⟩
  · exact ⟨a1, a2, a3, go (P := fun G => G[26]? = some (oB a1 a2 a3)) k4 (fun h z => h.at z (by omega)) (fun h z => h.at z (by omega)) (fun h z => h.at z (by omega))⟩
  · exact go (P := fun G => isBook G 29 (gC σ) (gB σ)) k6 (fun h z => z.fr h (by omega)) (fun h z => z.fr h (by omega)) (fun h z => z.fr h (by omega))
  · exact go (P := fun G => isPast G 32 (gP σ) (gQ σ)) k7 (fun h z => z.fr h (by omega)) (fun h z => z.fr h (by omega)) (fun h z => z.fr h (by omega))
  · exact go (P := fun G => G[146]? = some (oW (gS σ))) k8 (fun h z => h.at z (by omega)) (fun h z => h.at z (by omega)) (fun h z => h.at z (by omega))
  · exact ⟨fI, go (P := fun G => G[147]? = some (aQ 4 2 fI)) k9 (fun h z => h.at z (by omega)) (fun h z => h.at z (by omega)) (fun h z => h.at z (by omega)), e0, e1⟩
  · exact go (P := fun G => isImage G 148 (gI σ 0)) k10 (fun h z => z.fr h (by omega)) (fun h z => z.fr h (by omega)) (fun h z => z.fr h (by omega))
  · exact go (P := fun G => isImage G 156 (gI σ 1)) k11 (fun h z => z.fr h (by omega)) (fun h z => z.fr h (by omega)) (fun h z => z.fr h (by omega))
theorem Fr_rv1 {G G1 G2 G3 : PH} (hF1 : Fr2 G G1 27 1 8 7) (hF2 : Fr G1 G2 0 1) (hF3 : Fr G2 G3 27 1) : Fr G G3 0 164 := ⟨hF3.1.trans (hF2.1.trans hF1.1), fun x hx => (hF3.2 x (by omega)).trans ((hF2.2 x (by omega)).trans (hF1.2 x (by omega) (by omega)))⟩
set_option maxHeartbeats 4000000 in
set_option maxRecDepth 100000 in
theorem c_river (l : Launch) {G : PH} {σ : Sg} (k : Cls G σ) (hv : sVal σ) : Tri l mX9_river 0 0 [.ref 0] G (fun a9 G' => a9 = some (.int (spRiver σ).1) ∧ Cls G' (spRiver σ).2 ∧ Fr G G' 0 164) := by
  obtain ⟨k0, k1, ⟨r2, k2⟩, ⟨qT, qD, fi, fo, fs, fl, fh, k3⟩, ⟨a1, a2, a3, k4⟩, ⟨b1, b2, b3, b4, b5, k5⟩, k6, k7, k8, ⟨fI, k9, e0, e1⟩, k10, k11⟩ := id k
  have hb := hv.1.1; have hvr := hv.1.2; have hN : rN (gR σ) ≤ 6 := hb.2.2.2.2; have hT : rT (gR σ) ≤ 24 := hb.2.1; have hT2 : 2 ≤ rT (gR σ) := hb.1
  refine Tri.intro (L := [_, _]) okX9_river.1 (Nat.le_of_ble_eq_true rfl) rfl ?_
  refine P_aload_n dX9_river_0 rfl ?_
  refine P_get dX9_river_1 flX9_36 k0 rfl ?_
  refine P_aload_n dX9_river_4 rfl ?_
  refine P_get dX9_river_5 flX9_16 k0 rfl ?_
  refine P_callV dX9_river_8 lkX9_90 okX8_readInto ⟨Nat.le_of_ble_eq_true rfl, Nat.le_of_ble_eq_true rfl⟩ (t_readInto l k5 k2 (by omega)) rfl rfl k5.1 (Nat.le_of_ble_eq_true rfl) ⟨Nat.le_of_ble_eq_true rfl, Nat.le_of_ble_eq_true rfl⟩ (fun v8 G8 q8 => ?_)
  obtain ⟨hi, hF1⟩ := q8
  have f0 := hF1.at k0 (by omega) (by omega)
  obtain ⟨p9, tt9, td9, hi⟩ := hi
  cases hres : prs (gN σ) (gX σ) 201 (0, rZ, false, false) with
  | inl e =>
    rw [hres] at hi
    obtain ⟨hw, h1, h4, t0, hR9⟩ := hi
    subst hw
    have t1 : txw G8 27 (gN σ) (gX σ) p9 (nI e.1) (nI e.2) tt9 td9 := ⟨t0.1, t0.2.1, t0.2.2.1⟩
    have hs : spRiver σ = (-10 - nI e.1, sgT σ 0 (gX σ) (nI e.2)) := by unfold spRiver; rw [hres]
    refine P_istore_n (L' := [_, _]) dX9_river_11 (Nat.le_of_ble_eq_true rfl) rfl ?_
    refine P_aload_n dX9_river_12 rfl ?_
    refine P_aload_n dX9_river_13 rfl ?_
    refine P_get dX9_river_14 flX9_36 f0 rfl ?_
    refine P_callVp dX9_river_17 lkX9_94 okX8_placeOfFault ⟨Nat.le_of_ble_eq_true rfl, Nat.le_of_ble_eq_true rfl⟩ (t_placeOfFault l t1) rfl rfl t1.1 (Nat.le_of_ble_eq_true rfl) ⟨Nat.le_of_ble_eq_true rfl, Nat.le_of_ble_eq_true rfl⟩ ?_
    refine P_putI dX9_river_20 flX9_67 f0 (Nat.le_of_ble_eq_true rfl) ?_
    have hF2 : Fr G8 (G8.set 0 (o9 (nI e.2))) 0 1 := Fr.set (by omega) (by omega)
    have t2 : txw (G8.set 0 (o9 (nI e.2))) 27 (gN σ) (gX σ) p9 (nI e.1) (nI e.2) tt9 td9 := t1.fr hF2 (by omega)
    refine P_aload_n dX9_river_23 rfl ?_
    refine P_get dX9_river_24 flX9_36 (set_at f0) rfl ?_
    refine P_callV dX9_river_27 lkX9_97 okX8_clear ⟨Nat.le_of_ble_eq_true rfl, Nat.le_of_ble_eq_true rfl⟩ (t_clearT l t2) rfl rfl t2.1 (Nat.le_of_ble_eq_true rfl) ⟨Nat.le_of_ble_eq_true rfl, Nat.le_of_ble_eq_true rfl⟩ (fun v27 G27 q27 => ?_)
    obtain ⟨rfl, t3, hF3⟩ := q27
    refine P_iload_n dX9_river_30 rfl ?_
    refine P_if_eq (tgt := 39) dX9_river_31 (by decide) (fun c31 => ?_) (fun c31 => ?_)
    · exact absurd c31 (nI_ne0 (by omega) (by omega))
    · refine P_bipush dX9_river_34 bp_m10 ?_
      refine P_iload_n dX9_river_36 rfl ?_
      refine P_isub dX9_river_37 ?_
      exact P_iret dX9_river_38 rfl ⟨Nat.le_refl _, Nat.le_refl _⟩ ⟨by rw [hs], by rw [hs]; exact Cls_rv1 k hF1 hR9 hF2 (set_at f0) hF3 ⟨_, _, _, _, _, t3⟩, Fr_rv1 hF1 hF2 hF3⟩
  | inr ρ9 =>
    rw [hres] at hi
    obtain ⟨hw, t0, hR9⟩ := hi
    subst hw
    have t1 : txw G8 27 (gN σ) (gX σ) p9 0 (-1) tt9 td9 := ⟨t0.1, t0.2.1, t0.2.2.1⟩
    have hs : spRiver σ = (nI (rN ρ9), sgT (deed σ ρ9) 0 (gX σ) (-1)) := by unfold spRiver; rw [hres]
    refine P_istore_n (L' := [_, _]) dX9_river_11 (Nat.le_of_ble_eq_true rfl) rfl ?_
    refine P_aload_n dX9_river_12 rfl ?_
    refine P_aload_n dX9_river_13 rfl ?_
    refine P_get dX9_river_14 flX9_36 f0 rfl ?_
    refine P_callVp dX9_river_17 lkX9_94 okX8_placeOfFault ⟨Nat.le_of_ble_eq_true rfl, Nat.le_of_ble_eq_true rfl⟩ (t_placeOfFault l t1) rfl rfl t1.1 (Nat.le_of_ble_eq_true rfl) ⟨Nat.le_of_ble_eq_true rfl, Nat.le_of_ble_eq_true rfl⟩ ?_
    refine P_putI dX9_river_20 flX9_67 f0 (Nat.le_of_ble_eq_true rfl) ?_
    have hF2 : Fr G8 (G8.set 0 (o9 (-1))) 0 1 := Fr.set (by omega) (by omega)
    have t2 : txw (G8.set 0 (o9 (-1))) 27 (gN σ) (gX σ) p9 0 (-1) tt9 td9 := t1.fr hF2 (by omega)
    refine P_aload_n dX9_river_23 rfl ?_
    refine P_get dX9_river_24 flX9_36 (set_at f0) rfl ?_
    refine P_callV dX9_river_27 lkX9_97 okX8_clear ⟨Nat.le_of_ble_eq_true rfl, Nat.le_of_ble_eq_true rfl⟩ (t_clearT l t2) rfl rfl t2.1 (Nat.le_of_ble_eq_true rfl) ⟨Nat.le_of_ble_eq_true rfl, Nat.le_of_ble_eq_true rfl⟩ (fun v27 G27 q27 => ?_)
    obtain ⟨rfl, t3, hF3⟩ := q27
    have kc := Cls_rv1 k hF1 ⟨_, hR9⟩ hF2 (set_at f0) hF3 ⟨_, _, _, _, _, t3⟩
    have hFa := Fr_rv1 hF1 hF2 hF3
    have hR9 : isRiver G27 8 ρ9 := (hR9.fr hF2 (by omega)).fr hF3 (by omega)
    have m0 := kc.1
    have c7 := kc.2.2.2.2.2.2.2.1.at
    refine P_iload_n dX9_river_30 rfl ?_
    refine P_if_eq (tgt := 39) dX9_river_31 (by decide) (fun c31 => ?_) (fun c31 => ?_)
    · refine P_aload_n dX9_river_39 rfl ?_
      refine P_get dX9_river_40 flX9_50 m0 rfl ?_
      refine P_aload_n dX9_river_43 rfl ?_
      refine P_get dX9_river_44 flX9_10 m0 rfl ?_
      refine P_callV dX9_river_47 lkX9_100 okX5_remember ⟨Nat.le_of_ble_eq_true rfl, Nat.le_of_ble_eq_true rfl⟩ (t_remember l kc.2.2.2.2.2.2.2.1 kc.2.1 (by omega)) rfl rfl c7.choose_spec (Nat.le_of_ble_eq_true rfl) ⟨Nat.le_of_ble_eq_true rfl, Nat.le_of_ble_eq_true rfl⟩ (fun v47 G47 q47 => ?_)
      obtain ⟨rfl, y1, hF4⟩ := q47
      have kd := kc.past hF4 y1
      have n0 := kd.1; have n1 := kd.2.1
      refine P_aload_n dX9_river_50 rfl ?_
      refine P_get dX9_river_51 flX9_10 n0 rfl ?_
      refine P_aload_n dX9_river_54 rfl ?_
      refine P_get dX9_river_55 flX9_16 n0 rfl ?_
      refine P_callV dX9_river_58 lkX9_104 okX6_copyFrom ⟨Nat.le_of_ble_eq_true rfl, Nat.le_of_ble_eq_true rfl⟩ (t_copyR l n1 (hR9.fr hF4 (by omega)) (by omega)) rfl rfl n1.at (Nat.le_of_ble_eq_true rfl) ⟨Nat.le_of_ble_eq_true rfl, Nat.le_of_ble_eq_true rfl⟩ (fun v58 G58 q58 => ?_)
      obtain ⟨rfl, y2, hF5⟩ := q58
      have ke := kd.now hF5 y2
      have p0 := ke.1; have p1 := ke.2.1
      refine P_aload_n dX9_river_61 rfl ?_
      refine P_get dX9_river_62 flX9_10 p0 rfl ?_
      refine P_callVp dX9_river_65 lkX9_107 okX6_reachCount ⟨Nat.le_of_ble_eq_true rfl, Nat.le_of_ble_eq_true rfl⟩ (t_reachCount l p1) rfl rfl p1.at (Nat.le_of_ble_eq_true rfl) ⟨Nat.le_of_ble_eq_true rfl, Nat.le_of_ble_eq_true rfl⟩ ?_
      exact P_iret dX9_river_68 rfl ⟨Nat.le_refl _, Nat.le_refl _⟩ ⟨by rw [hs]; rfl, by rw [hs]; exact ke, hFa.tr ((hF4.wide (by omega) (by omega)).tr (hF5.wide (by omega) (by omega)))⟩
    · exact absurd rfl c31
set_option maxHeartbeats 4000000 in
set_option maxRecDepth 100000 in
theorem c_told (l : Launch) {G : PH} {σ : Sg} {w : Int32} (k : Cls G σ) (hv : sVal σ) : Tri l mX9_told 0 0 [.ref 0, .int w] G (fun a9 G' => a9 = some (.int (spTold σ w)) ∧ Cls G' σ ∧ Fr G G' 0 164) := by
  obtain ⟨k0, k1, ⟨r2, k2⟩, ⟨qT, qD, fi, fo, fs, fl, fh, k3⟩, ⟨a1, a2, a3, k4⟩, ⟨b1, b2, b3, b4, b5, k5⟩, k6, k7, k8, ⟨fI, k9, e0, e1⟩, k10, k11⟩ := id k
  have hb := hv.1.1; have hvr := hv.1.2; have hN : rN (gR σ) ≤ 6 := hb.2.2.2.2; have hT : rT (gR σ) ≤ 24 := hb.2.1; have hT2 : 2 ≤ rT (gR σ) := hb.1
  refine Tri.intro (L := [_, _]) okX9_told.1 (Nat.le_of_ble_eq_true rfl) rfl ?_
  refine P_iload_n dX9_told_0 rfl ?_
  by_cases w0 : w = 0
  · subst w0
    refine P_tabIn (off := 55) (tgt := 56) dX9_told_1 (by decide) (by decide) (by decide) (by decide) ?_
    have hs : spTold σ 0 = nI (rT (gR σ)) := by unfold spTold; rw [if_pos rfl]
    refine P_aload_n dX9_told_56 rfl ?_
    refine P_get dX9_told_57 flX9_10 k0 rfl ?_
    refine P_callVp dX9_told_60 lkX9_110 okX6_timeCount ⟨Nat.le_of_ble_eq_true rfl, Nat.le_of_ble_eq_true rfl⟩ (t_timeCount l k1) rfl rfl k1.at (Nat.le_of_ble_eq_true rfl) ⟨Nat.le_of_ble_eq_true rfl, Nat.le_of_ble_eq_true rfl⟩ ?_
    exact P_iret dX9_told_63 rfl ⟨Nat.le_refl _, Nat.le_refl _⟩ ⟨by rw [hs], k, Fr.rf⟩
  by_cases w1 : w = 1
  · subst w1
    refine P_tabIn (off := 63) (tgt := 64) dX9_told_1 (by decide) (by decide) (by decide) (by decide) ?_
    have hs : spTold σ 1 = nI (rD (gR σ)) := by unfold spTold; rw [if_neg (by decide), if_pos rfl]
    refine P_aload_n dX9_told_64 rfl ?_
    refine P_get dX9_told_65 flX9_10 k0 rfl ?_
    refine P_callVp dX9_told_68 lkX9_113 okX6_timeStep ⟨Nat.le_of_ble_eq_true rfl, Nat.le_of_ble_eq_true rfl⟩ (t_timeStep l k1) rfl rfl k1.at (Nat.le_of_ble_eq_true rfl) ⟨Nat.le_of_ble_eq_true rfl, Nat.le_of_ble_eq_true rfl⟩ ?_
    exact P_iret dX9_told_71 rfl ⟨Nat.le_refl _, Nat.le_refl _⟩ ⟨by rw [hs], k, Fr.rf⟩
  by_cases w2 : w = 2
  · subst w2
    refine P_tabIn (off := 71) (tgt := 72) dX9_told_1 (by decide) (by decide) (by decide) (by decide) ?_
    have hs : spTold σ 2 = nI (rN (gR σ)) := by unfold spTold; rw [if_neg (by decide), if_neg (by decide), if_pos rfl]
    refine P_aload_n dX9_told_72 rfl ?_
    refine P_get dX9_told_73 flX9_10 k0 rfl ?_
    refine P_callVp dX9_told_76 lkX9_107 okX6_reachCount ⟨Nat.le_of_ble_eq_true rfl, Nat.le_of_ble_eq_true rfl⟩ (t_reachCount l k1) rfl rfl k1.at (Nat.le_of_ble_eq_true rfl) ⟨Nat.le_of_ble_eq_true rfl, Nat.le_of_ble_eq_true rfl⟩ ?_
    exact P_iret dX9_told_79 rfl ⟨Nat.le_refl _, Nat.le_refl _⟩ ⟨by rw [hs], k, Fr.rf⟩
  by_cases w3 : w = 3
  · subst w3
    refine P_tabIn (off := 79) (tgt := 80) dX9_told_1 (by decide) (by decide) (by decide) (by decide) ?_
    have hs : spTold σ 3 = pSum (gR σ) (rN (gR σ)) := by unfold spTold; rw [if_neg (by decide), if_neg (by decide), if_neg (by decide), if_pos rfl]
    refine P_aload_n dX9_told_80 rfl ?_
    refine P_get dX9_told_81 flX9_10 k0 rfl ?_
    refine P_callVp dX9_told_84 lkX9_116 okX6_partsOfAll ⟨Nat.le_of_ble_eq_true rfl, Nat.le_of_ble_eq_true rfl⟩ (t_partsOfAll l k1) rfl rfl k1.at (Nat.le_of_ble_eq_true rfl) ⟨Nat.le_of_ble_eq_true rfl, Nat.le_of_ble_eq_true rfl⟩ ?_
    exact P_iret dX9_told_87 rfl ⟨Nat.le_refl _, Nat.le_refl _⟩ ⟨by rw [hs], k, Fr.rf⟩
  by_cases w4 : w = 4
  · subst w4
    refine P_tabIn (off := 87) (tgt := 88) dX9_told_1 (by decide) (by decide) (by decide) (by decide) ?_
    have hs : spTold σ 4 = lawC (gR σ) (rN (gR σ)) := by unfold spTold; rw [if_neg (by decide), if_neg (by decide), if_neg (by decide), if_neg (by decide), if_pos rfl]
    refine P_aload_n dX9_told_88 rfl ?_
    refine P_get dX9_told_89 flX9_10 k0 rfl ?_
    refine P_callVp dX9_told_92 lkX9_119 okX6_lawfulCount ⟨Nat.le_of_ble_eq_true rfl, Nat.le_of_ble_eq_true rfl⟩ (t_lawfulCount l k1) rfl rfl k1.at (Nat.le_of_ble_eq_true rfl) ⟨Nat.le_of_ble_eq_true rfl, Nat.le_of_ble_eq_true rfl⟩ ?_
    exact P_iret dX9_told_95 rfl ⟨Nat.le_refl _, Nat.le_refl _⟩ ⟨by rw [hs], k, Fr.rf⟩
  by_cases w5 : w = 5
  · subst w5
    refine P_tabIn (off := 95) (tgt := 96) dX9_told_1 (by decide) (by decide) (by decide) (by decide) ?_
    have hs : spTold σ 5 = nI (gN σ) := by unfold spTold; rw [if_neg (by decide), if_neg (by decide), if_neg (by decide), if_neg (by decide), if_neg (by decide), if_pos rfl]
    refine P_aload_n dX9_told_96 rfl ?_
    refine P_get dX9_told_97 flX9_36 k0 rfl ?_
    refine P_callVp dX9_told_100 lkX9_86 okX8_letterCount ⟨Nat.le_of_ble_eq_true rfl, Nat.le_of_ble_eq_true rfl⟩ (t_letterCount l k5) rfl rfl k5.1 (Nat.le_of_ble_eq_true rfl) ⟨Nat.le_of_ble_eq_true rfl, Nat.le_of_ble_eq_true rfl⟩ ?_
    exact P_iret dX9_told_103 rfl ⟨Nat.le_refl _, Nat.le_refl _⟩ ⟨by rw [hs], k, Fr.rf⟩
  by_cases w6 : w = 6
  · subst w6
    refine P_tabIn (off := 103) (tgt := 104) dX9_told_1 (by decide) (by decide) (by decide) (by decide) ?_
    have hs : spTold σ 6 = nI (gC σ) := by unfold spTold; rw [if_neg (by decide), if_neg (by decide), if_neg (by decide), if_neg (by decide), if_neg (by decide), if_neg (by decide), if_pos rfl]
    refine P_aload_n dX9_told_104 rfl ?_
    refine P_get dX9_told_105 flX9_43 k0 rfl ?_
    refine P_callVp dX9_told_108 lkX9_122 okX0_entryCount ⟨Nat.le_of_ble_eq_true rfl, Nat.le_of_ble_eq_true rfl⟩ (t_entryCount l k6) rfl rfl k6.2.1 (Nat.le_of_ble_eq_true rfl) ⟨Nat.le_of_ble_eq_true rfl, Nat.le_of_ble_eq_true rfl⟩ ?_
    exact P_iret dX9_told_111 rfl ⟨Nat.le_refl _, Nat.le_refl _⟩ ⟨by rw [hs], k, Fr.rf⟩
  by_cases w7 : w = 7
  · subst w7
    refine P_tabIn (off := 111) (tgt := 112) dX9_told_1 (by decide) (by decide) (by decide) (by decide) ?_
    have hs : spTold σ 7 = wrS (gR σ) (gB σ) (gC σ) 0 := by unfold spTold; rw [if_neg (by decide), if_neg (by decide), if_neg (by decide), if_neg (by decide), if_neg (by decide), if_neg (by decide), if_neg (by decide), if_pos rfl]
    refine P_aload_n dX9_told_112 rfl ?_
    refine P_get dX9_told_113 flX9_22 k0 rfl ?_
    refine P_aload_n dX9_told_116 rfl ?_
    refine P_get dX9_told_117 flX9_10 k0 rfl ?_
    refine P_callV dX9_told_120 lkX9_125 okX7_runAll ⟨Nat.le_of_ble_eq_true rfl, Nat.le_of_ble_eq_true rfl⟩ (t_runAll l k1 k3 (by omega) hvr) rfl rfl k3.1 (Nat.le_of_ble_eq_true rfl) ⟨Nat.le_of_ble_eq_true rfl, Nat.le_of_ble_eq_true rfl⟩ (fun v120 G120 q120 => ?_)
    obtain ⟨rfl, hq, hF1⟩ := q120
    refine P_aload_n dX9_told_123 rfl ?_
    refine P_get dX9_told_124 flX9_43 (hF1.at k0 (by omega)) rfl ?_
    refine P_aload_n dX9_told_127 rfl ?_
    refine P_get dX9_told_128 flX9_10 (hF1.at k0 (by omega)) rfl ?_
    refine P_aload_n dX9_told_131 rfl ?_
    refine P_get dX9_told_132 flX9_22 (hF1.at k0 (by omega)) rfl ?_
    refine P_callVp dX9_told_135 lkX9_128 okX0_firstWrong ⟨Nat.le_of_ble_eq_true rfl, Nat.le_of_ble_eq_true rfl⟩ (t_firstWrong l (k6.fr hF1 (by omega)) (k1.fr hF1 (by omega)) hq) rfl rfl (k6.fr hF1 (by omega)).2.1 (Nat.le_of_ble_eq_true rfl) ⟨Nat.le_of_ble_eq_true rfl, Nat.le_of_ble_eq_true rfl⟩ ?_
    exact P_iret dX9_told_138 rfl ⟨Nat.le_refl _, Nat.le_refl _⟩ ⟨by rw [hs], k.rtg hF1 hq.rout, hF1.wide (by omega) (by omega)⟩
  by_cases w8 : w = 8
  · subst w8
    refine P_tabIn (off := 138) (tgt := 139) dX9_told_1 (by decide) (by decide) (by decide) (by decide) ?_
    have hs : spTold σ 8 = nI (gP σ) := by unfold spTold; rw [if_neg (by decide), if_neg (by decide), if_neg (by decide), if_neg (by decide), if_neg (by decide), if_neg (by decide), if_neg (by decide), if_neg (by decide), if_pos rfl]
    refine P_aload_n dX9_told_139 rfl ?_
    refine P_get dX9_told_140 flX9_50 k0 rfl ?_
    refine P_callVp dX9_told_143 lkX9_132 okX5_deedCount ⟨Nat.le_of_ble_eq_true rfl, Nat.le_of_ble_eq_true rfl⟩ (t_deedCount l k7) rfl rfl k7.at.choose_spec (Nat.le_of_ble_eq_true rfl) ⟨Nat.le_of_ble_eq_true rfl, Nat.le_of_ble_eq_true rfl⟩ ?_
    exact P_iret dX9_told_146 rfl ⟨Nat.le_refl _, Nat.le_refl _⟩ ⟨by rw [hs], k, Fr.rf⟩
  by_cases w9 : w = 9
  · subst w9
    refine P_tabIn (off := 146) (tgt := 147) dX9_told_1 (by decide) (by decide) (by decide) (by decide) ?_
    have hs : spTold σ 9 = nI (gS σ) := by unfold spTold; rw [if_neg (by decide), if_neg (by decide), if_neg (by decide), if_neg (by decide), if_neg (by decide), if_neg (by decide), if_neg (by decide), if_neg (by decide), if_neg (by decide), if_pos rfl]
    refine P_aload_n dX9_told_147 rfl ?_
    refine P_get dX9_told_148 flX9_57 k0 rfl ?_
    refine P_callVp dX9_told_151 lkX9_135 okX2_value ⟨Nat.le_of_ble_eq_true rfl, Nat.le_of_ble_eq_true rfl⟩ (t_value l k8) rfl rfl k8 (Nat.le_of_ble_eq_true rfl) ⟨Nat.le_of_ble_eq_true rfl, Nat.le_of_ble_eq_true rfl⟩ ?_
    exact P_iret dX9_told_154 rfl ⟨Nat.le_refl _, Nat.le_refl _⟩ ⟨by rw [hs], k, Fr.rf⟩
  refine P_tabOut (tgt := 155) dX9_told_1 (tabo (n := 9) (fun j hj => by rcases (by omega : j = 0 ∨ j = 1 ∨ j = 2 ∨ j = 3 ∨ j = 4 ∨ j = 5 ∨ j = 6 ∨ j = 7 ∨ j = 8 ∨ j = 9) with rfl | rfl | rfl | rfl | rfl | rfl | rfl | rfl | rfl | rfl <;> assumption)) (by decide) ?_
  have hs : spTold σ w = OUTS := by unfold spTold; rw [if_neg w0, if_neg w1, if_neg w2, if_neg w3, if_neg w4, if_neg w5, if_neg w6, if_neg w7, if_neg w8, if_neg w9]
  refine P_ldc dX9_told_155 kcX9_76 ?_
  exact P_iret dX9_told_157 rfl ⟨Nat.le_refl _, Nat.le_refl _⟩ ⟨by rw [hs], k, Fr.rf⟩
