set_option maxRecDepth 100000 in
theorem lp_mpeak (l : Launch) {G : PH} {o : MV} {f : Nat → Int32} {ρ : Riv} {h r : Nat} {fr : Nat → Int64} (hk : mst G o f ρ) (hc : G[h]? = some (aJ 144 fr)) (hr : r < 6) : ∀ (n : Nat) (i : Nat), rT ρ - (i + 1) < n → i + 1 ≤ rT ρ → WP mX10_peakTime l (rmM mX10_peakTime 0 0) (ZM 0 0 (fun w G' => w = some (.int (nI (pkT (fun j => fr (24 * r + j)) (rT ρ - 1)))) ∧ G' = G)) XT 0 0 5 [some (.ref 164), some (.ref h), some (.int (nI r)), some (.int (nI (pkT (fun j => fr (24 * r + j)) i))), some (.int (nI (i + 1)))] [] G := by
  intro n
  induction n with
  | zero => intro i hn hi; exact absurd hn (Nat.not_lt_zero _)
  | succ n ih =>
    intro i hn hi
    have hb := hk.2.2.2; have hT : rT ρ ≤ 24 := hb.2.1; have hT2 : 2 ≤ rT ρ := hb.1; have hN : rN ρ ≤ 6 := hb.2.2.2.2
    have hp := pkT_le (fun j => fr (24 * r + j)) i
    refine P_iload dX10_peakTime_5 rfl ?_
    refine P_aload_n dX10_peakTime_7 rfl ?_
    refine P_get dX10_peakTime_8 flX10_7 hk.1 rfl ?_
    refine P_iconst dX10_peakTime_11 ci_0 ?_
    refine P_iald dX10_peakTime_12 hk.2.1 (vp_in_nI (show 0 < 315 by decide) (by decide)) ?_
    rw [show f (Int32.toNatClampNeg 0) = nI (rT ρ) from hk.2.2.1.1]
    refine P_icmp_ge (tgt := 50) dX10_peakTime_13 (by decide) (fun c13 => ?_) (fun c13 => ?_)
    · have hi2 : i = rT ρ - 1 := by have := Nat.not_lt.mp fun q : i + 1 < rT ρ => nI_ge q (by omega) c13; omega
      subst hi2
      refine P_iload_n dX10_peakTime_50 rfl ?_
      exact P_iret dX10_peakTime_51 rfl ⟨Nat.le_refl _, Nat.le_refl _⟩ ⟨rfl, rfl⟩
    · have hlt : i + 1 < rT ρ := Nat.not_le.mp fun q => c13 (nI_le q (by omega))
      refine P_aload_n dX10_peakTime_16 rfl ?_
      refine P_bipush dX10_peakTime_17 bp_24 ?_
      refine P_iload_n dX10_peakTime_19 rfl ?_
      refine P_imul dX10_peakTime_20 ?_
      refine P_iload dX10_peakTime_21 rfl ?_
      refine P_iadd dX10_peakTime_23 ?_
      rw [ix24]
      refine P_lald dX10_peakTime_24 hc (vp_in_nI (by omega) (by decide)) ?_
      rw [nI_clamp (by omega)]
      refine P_aload_n dX10_peakTime_25 rfl ?_
      refine P_bipush dX10_peakTime_26 bp_24 ?_
      refine P_iload_n dX10_peakTime_28 rfl ?_
      refine P_imul dX10_peakTime_29 ?_
      refine P_iload_n dX10_peakTime_30 rfl ?_
      refine P_iadd dX10_peakTime_31 ?_
      rw [ix24]
      refine P_lald dX10_peakTime_32 hc (vp_in_nI (by omega) (by decide)) ?_
      rw [nI_clamp (by omega)]
      refine P_lcmp dX10_peakTime_33 ?_
      refine P_if_le (tgt := 42) dX10_peakTime_34 (by decide) (fun c34 => ?_) (fun c34 => ?_)
      · have e2 : pkT (fun j => fr (24 * r + j)) i = pkT (fun j => fr (24 * r + j)) (i + 1) := by simp only [pkT]; rw [if_neg (by rw [lg_cmp_le] at c34; exact Int64.not_lt.mpr c34)]
        refine P_iload_n dX10_peakTime_42 rfl ?_
        refine P_istore_n (L' := [_, _, _, _, _]) dX10_peakTime_43 (Nat.le_of_ble_eq_true rfl) rfl ?_
        refine P_iinc (L' := [_, _, _, _, _]) dX10_peakTime_44 rfl (ii_1 _) (Nat.le_of_ble_eq_true rfl) rfl ?_
        rw [nI_1]
        refine P_goto (tgt := 5) dX10_peakTime_47 (by decide) ?_
        refine P_loc ?_ (ih (i + 1) (by omega) hlt)
        rw [← e2]
        simp only [subL, List.head?_cons, List.tail_cons]; and_intros <;> first | rfl | trivial
      · have e2 : i + 1 = pkT (fun j => fr (24 * r + j)) (i + 1) := by simp only [pkT]; rw [if_pos (by rw [lg_cmp_le] at c34; exact Int64.not_le.mp c34)]
        refine P_iload dX10_peakTime_37 rfl ?_
        refine P_goto (tgt := 43) dX10_peakTime_39 (by decide) ?_
        refine P_istore_n (L' := [_, _, _, _, _]) dX10_peakTime_43 (Nat.le_of_ble_eq_true rfl) rfl ?_
        refine P_iinc (L' := [_, _, _, _, _]) dX10_peakTime_44 rfl (ii_1 _) (Nat.le_of_ble_eq_true rfl) rfl ?_
        rw [nI_1]
        refine P_goto (tgt := 5) dX10_peakTime_47 (by decide) ?_
        refine P_loc ?_ (ih (i + 1) (by omega) hlt)
        rw [← e2]
        simp only [subL, List.head?_cons, List.tail_cons]; and_intros <;> first | rfl | trivial
theorem m_peakTime (l : Launch) {G : PH} {o : MV} {f : Nat → Int32} {ρ : Riv} {h r : Nat} {fr : Nat → Int64} (hk : mst G o f ρ) (hc : G[h]? = some (aJ 144 fr)) (hr : r < 6) : Tri l mX10_peakTime 0 0 [.ref 164, .ref h, .int (nI r)] G (fun w G' => w = some (.int (nI (pkT (fun j => fr (24 * r + j)) (rT ρ - 1)))) ∧ G' = G) := by
  have hb := hk.2.2.2; have hT : rT ρ ≤ 24 := hb.2.1; have hT2 : 2 ≤ rT ρ := hb.1; have hN : rN ρ ≤ 6 := hb.2.2.2.2
  refine Tri.intro (L := [_, _, _, _, _]) okX10_peakTime.1 (Nat.le_of_ble_eq_true rfl) rfl ?_
  refine P_iconst dX10_peakTime_0 ci_0 ?_
  refine P_istore_n (L' := [_, _, _, _, _]) dX10_peakTime_1 (Nat.le_of_ble_eq_true rfl) rfl ?_
  refine P_iconst dX10_peakTime_2 ci_1 ?_
  refine P_istore (L' := [_, _, _, _, _]) dX10_peakTime_3 (Nat.le_of_ble_eq_true rfl) rfl ?_
  exact lp_mpeak l hk hc hr (rT ρ + 1) 0 (by omega) (by omega)
theorem m_peak (l : Launch) {G : PH} {o : MV} {f : Nat → Int32} {ρ : Riv} {h r : Nat} {fr : Nat → Int64} (hk : mst G o f ρ) (hc : G[h]? = some (aJ 144 fr)) (hr : r < 6) : Tri l mX10_peak 0 0 [.ref 164, .ref h, .int (nI r)] G (fun w G' => w = some (.long ((fun j => fr (24 * r + j)) (pkT (fun j => fr (24 * r + j)) (rT ρ - 1)))) ∧ G' = G) := by
  have hb := hk.2.2.2; have hT : rT ρ ≤ 24 := hb.2.1; have hT2 : 2 ≤ rT ρ := hb.1; have hN : rN ρ ≤ 6 := hb.2.2.2.2
  have hp := pkT_le (fun j => fr (24 * r + j)) (rT ρ - 1)
  refine Tri.intro (L := [_, _, _]) okX10_peak.1 (Nat.le_of_ble_eq_true rfl) rfl ?_
  refine P_aload_n dX10_peak_0 rfl ?_
  refine P_bipush dX10_peak_1 bp_24 ?_
  refine P_iload_n dX10_peak_3 rfl ?_
  refine P_imul dX10_peak_4 ?_
  refine P_aload_n dX10_peak_5 rfl ?_
  refine P_aload_n dX10_peak_6 rfl ?_
  refine P_iload_n dX10_peak_7 rfl ?_
  refine P_callVp dX10_peak_8 lkX10_108 okX10_peakTime ⟨Nat.le_of_ble_eq_true rfl, Nat.le_of_ble_eq_true rfl⟩ (m_peakTime l hk hc hr) rfl rfl hk.1 (Nat.le_of_ble_eq_true rfl) ⟨Nat.le_of_ble_eq_true rfl, Nat.le_of_ble_eq_true rfl⟩ ?_
  refine P_iadd dX10_peak_11 ?_
  rw [ix24]
  refine P_lald dX10_peak_12 hc (vp_in_nI (by omega) (by decide)) ?_
  rw [nI_clamp (by omega)]
  exact P_lret dX10_peak_13 rfl ⟨Nat.le_refl _, Nat.le_refl _⟩ ⟨rfl, rfl⟩
set_option maxRecDepth 100000 in
theorem lp_mvol (l : Launch) {G : PH} {o : MV} {f : Nat → Int32} {ρ : Riv} {h r : Nat} {fr : Nat → Int64} (hk : mst G o f ρ) (hc : G[h]? = some (aJ 144 fr)) (hr : r < 6) : ∀ (n : Nat) (i : Nat), rT ρ - (i + 1) < n → i + 1 ≤ rT ρ → WP mX10_volume l (rmM mX10_volume 0 0) (ZM 0 0 (fun w G' => w = some (.long (voF (nI (rD ρ)).toInt64 (fun j => fr (24 * r + j)) (rT ρ - 1))) ∧ G' = G)) XT 0 0 5 [some (.ref 164), some (.ref h), some (.int (nI r)), some (.long (voF (nI (rD ρ)).toInt64 (fun j => fr (24 * r + j)) i)), none, some (.int (nI i))] [] G := by
  intro n
  induction n with
  | zero => intro i hn hi; exact absurd hn (Nat.not_lt_zero _)
  | succ n ih =>
    intro i hn hi
    have hb := hk.2.2.2; have hT : rT ρ ≤ 24 := hb.2.1; have hT2 : 2 ≤ rT ρ := hb.1; have hN : rN ρ ≤ 6 := hb.2.2.2.2
    refine P_iload dX10_volume_5 rfl ?_
    refine P_iconst dX10_volume_7 ci_1 ?_
    refine P_iadd dX10_volume_8 ?_
    rw [nI_1]
    refine P_aload_n dX10_volume_9 rfl ?_
    refine P_get dX10_volume_10 flX10_7 hk.1 rfl ?_
    refine P_iconst dX10_volume_13 ci_0 ?_
    refine P_iald dX10_volume_14 hk.2.1 (vp_in_nI (show 0 < 315 by decide) (by decide)) ?_
    rw [show f (Int32.toNatClampNeg 0) = nI (rT ρ) from hk.2.2.1.1]
    refine P_icmp_ge (tgt := 56) dX10_volume_15 (by decide) (fun c15 => ?_) (fun c15 => ?_)
    · have hi2 : i = rT ρ - 1 := by have := Nat.not_lt.mp fun q : i + 1 < rT ρ => nI_ge q (by omega) c15; omega
      subst hi2
      refine P_lload_n dX10_volume_56 rfl ?_
      exact P_lret dX10_volume_57 rfl ⟨Nat.le_refl _, Nat.le_refl _⟩ ⟨rfl, rfl⟩
    · have hlt : i + 1 < rT ρ := Nat.not_le.mp fun q => c15 (nI_le q (by omega))
      refine P_lload_n dX10_volume_18 rfl ?_
      refine P_aload_n dX10_volume_19 rfl ?_
      refine P_get dX10_volume_20 flX10_7 hk.1 rfl ?_
      refine P_iconst dX10_volume_23 ci_1 ?_
      refine P_iald dX10_volume_24 hk.2.1 (vp_in_nI (show 1 < 315 by decide) (by decide)) ?_
      rw [show f (Int32.toNatClampNeg 1) = nI (rD ρ) from hk.2.2.1.2.1]
      refine P_i2l dX10_volume_25 ?_
      refine P_aload_n dX10_volume_26 rfl ?_
      refine P_bipush dX10_volume_27 bp_24 ?_
      refine P_iload_n dX10_volume_29 rfl ?_
      refine P_imul dX10_volume_30 ?_
      refine P_iload dX10_volume_31 rfl ?_
      refine P_iadd dX10_volume_33 ?_
      rw [ix24]
      refine P_lald dX10_volume_34 hc (vp_in_nI (by omega) (by decide)) ?_
      rw [nI_clamp (by omega)]
      refine P_aload_n dX10_volume_35 rfl ?_
      refine P_bipush dX10_volume_36 bp_24 ?_
      refine P_iload_n dX10_volume_38 rfl ?_
      refine P_imul dX10_volume_39 ?_
      refine P_iload dX10_volume_40 rfl ?_
      refine P_iadd dX10_volume_42 ?_
      rw [ix24]
      refine P_iconst dX10_volume_43 ci_1 ?_
      refine P_iadd dX10_volume_44 ?_
      rw [show nI (24 * r + i) + 1 = nI (24 * r + (i + 1)) from nI_1 _]
      refine P_lald dX10_volume_45 hc (vp_in_nI (by omega) (by decide)) ?_
      rw [nI_clamp (by omega)]
      refine P_ladd dX10_volume_46 ?_
      refine P_lmul dX10_volume_47 ?_
      refine P_ladd dX10_volume_48 ?_
      refine P_lstore_n (L' := [_, _, _, _, _, _]) dX10_volume_49 (Nat.le_of_ble_eq_true rfl) rfl ?_
      refine P_iinc (L' := [_, _, _, _, _, _]) dX10_volume_50 rfl (ii_1 _) (Nat.le_of_ble_eq_true rfl) rfl ?_
      rw [nI_1]
      refine P_goto (tgt := 5) dX10_volume_53 (by decide) ?_
      exact ih (i + 1) (by omega) hlt
theorem m_volume (l : Launch) {G : PH} {o : MV} {f : Nat → Int32} {ρ : Riv} {h r : Nat} {fr : Nat → Int64} (hk : mst G o f ρ) (hc : G[h]? = some (aJ 144 fr)) (hr : r < 6) : Tri l mX10_volume 0 0 [.ref 164, .ref h, .int (nI r)] G (fun w G' => w = some (.long (voF (nI (rD ρ)).toInt64 (fun j => fr (24 * r + j)) (rT ρ - 1))) ∧ G' = G) := by
  have hb := hk.2.2.2; have hT : rT ρ ≤ 24 := hb.2.1; have hT2 : 2 ≤ rT ρ := hb.1; have hN : rN ρ ≤ 6 := hb.2.2.2.2
  refine Tri.intro (L := [_, _, _, _, _, _]) okX10_volume.1 (Nat.le_of_ble_eq_true rfl) rfl ?_
  refine P_lconst dX10_volume_0 lc_0 ?_
  refine P_lstore_n (L' := [_, _, _, _, _, _]) dX10_volume_1 (Nat.le_of_ble_eq_true rfl) rfl ?_
  refine P_iconst dX10_volume_2 ci_0 ?_
  refine P_istore (L' := [_, _, _, _, _, _]) dX10_volume_3 (Nat.le_of_ble_eq_true rfl) rfl ?_
  exact lp_mvol l hk hc hr (rT ρ + 1) 0 (by omega) (by omega)
set_option maxRecDepth 100000 in
theorem lp_mleast (l : Launch) {G : PH} {o : MV} {f : Nat → Int32} {ρ : Riv} {r : Nat} {fr : Nat → Int64} (hk : mst G o f ρ) (hc : G[174]? = some (aJ 144 fr)) (hr : r < 6) : ∀ (n : Nat) (i : Nat), rT ρ - (i + 1) < n → i + 1 ≤ rT ρ → WP mX10_leastOut l (rmM mX10_leastOut 0 0) (ZM 0 0 (fun w G' => w = some (.long (mnF (fun j => fr (24 * r + j)) (rT ρ - 1))) ∧ G' = G)) XT 0 0 13 [some (.ref 164), some (.int (nI r)), some (.long (mnF (fun j => fr (24 * r + j)) i)), none, some (.int (nI (i + 1))), none, none] [] G := by
  intro n
  induction n with
  | zero => intro i hn hi; exact absurd hn (Nat.not_lt_zero _)
  | succ n ih =>
    intro i hn hi
    have hb := hk.2.2.2; have hT : rT ρ ≤ 24 := hb.2.1; have hT2 : 2 ≤ rT ρ := hb.1; have hN : rN ρ ≤ 6 := hb.2.2.2.2
    refine P_iload dX10_leastOut_13 rfl ?_
    refine P_aload_n dX10_leastOut_15 rfl ?_
    refine P_get dX10_leastOut_16 flX10_7 hk.1 rfl ?_
    refine P_iconst dX10_leastOut_19 ci_0 ?_
    refine P_iald dX10_leastOut_20 hk.2.1 (vp_in_nI (show 0 < 315 by decide) (by decide)) ?_
    rw [show f (Int32.toNatClampNeg 0) = nI (rT ρ) from hk.2.2.1.1]
    refine P_icmp_ge (tgt := 58) dX10_leastOut_21 (by decide) (fun c21 => ?_) (fun c21 => ?_)
    · have hi2 : i = rT ρ - 1 := by have := Nat.not_lt.mp fun q : i + 1 < rT ρ => nI_ge q (by omega) c21; omega
      subst hi2
      refine P_lload_n dX10_leastOut_58 rfl ?_
      exact P_lret dX10_leastOut_59 rfl ⟨Nat.le_refl _, Nat.le_refl _⟩ ⟨rfl, rfl⟩
    · have hlt : i + 1 < rT ρ := Nat.not_le.mp fun q => c21 (nI_le q (by omega))
      refine P_aload_n dX10_leastOut_24 rfl ?_
      refine P_get dX10_leastOut_25 flX10_43 hk.1 rfl ?_
      refine P_bipush dX10_leastOut_28 bp_24 ?_
      refine P_iload_n dX10_leastOut_30 rfl ?_
      refine P_imul dX10_leastOut_31 ?_
      refine P_iload dX10_leastOut_32 rfl ?_
      refine P_iadd dX10_leastOut_34 ?_
      rw [ix24]
      refine P_lald dX10_leastOut_35 hc (vp_in_nI (by omega) (by decide)) ?_
      rw [nI_clamp (by omega)]
      refine P_lstore (L' := [_, _, _, _, _, _, _]) dX10_leastOut_36 (Nat.le_of_ble_eq_true rfl) rfl ?_
      refine P_lload dX10_leastOut_38 rfl ?_
      refine P_lload_n dX10_leastOut_40 rfl ?_
      refine P_lcmp dX10_leastOut_41 ?_
      refine P_if_ge (tgt := 50) dX10_leastOut_42 (by decide) (fun c42 => ?_) (fun c42 => ?_)
      · rw [lg_cmp_ge] at c42
        have e2 : mnF (fun j => fr (24 * r + j)) (i + 1) = mnF (fun j => fr (24 * r + j)) i := by simp only [mnF, jmin]; first | rw [if_neg (Int64.not_lt.mpr c42)] | (split <;> first | rfl | (rename_i h9; exact absurd h9 (Int64.not_lt.mpr c42)))
        refine P_lload_n dX10_leastOut_50 rfl ?_
        refine P_lstore_n (L' := [_, _, _, _, _, _, _]) dX10_leastOut_51 (Nat.le_of_ble_eq_true rfl) rfl ?_
        refine P_iinc (L' := [_, _, _, _, _, _, _]) dX10_leastOut_52 rfl (ii_1 _) (Nat.le_of_ble_eq_true rfl) rfl ?_
        rw [nI_1]
        refine P_goto (tgt := 13) dX10_leastOut_55 (by decide) ?_
        refine P_loc ?_ (ih (i + 1) (by omega) hlt)
        rw [e2]
        simp only [subL, List.head?_cons, List.tail_cons]; and_intros <;> first | rfl | trivial
      · rw [lg_cmp_ge] at c42
        have e2 : mnF (fun j => fr (24 * r + j)) (i + 1) = fr (24 * r + (i + 1)) := by simp only [mnF, jmin]; first | rw [if_pos (Int64.not_le.mp c42)] | (split <;> first | rfl | (rename_i h9; exact absurd (Int64.not_le.mp c42) h9))
        refine P_lload dX10_leastOut_45 rfl ?_
        refine P_goto (tgt := 51) dX10_leastOut_47 (by decide) ?_
        refine P_lstore_n (L' := [_, _, _, _, _, _, _]) dX10_leastOut_51 (Nat.le_of_ble_eq_true rfl) rfl ?_
        refine P_iinc (L' := [_, _, _, _, _, _, _]) dX10_leastOut_52 rfl (ii_1 _) (Nat.le_of_ble_eq_true rfl) rfl ?_
        rw [nI_1]
        refine P_goto (tgt := 13) dX10_leastOut_55 (by decide) ?_
        refine P_loc ?_ (ih (i + 1) (by omega) hlt)
        rw [e2]
        simp only [subL, List.head?_cons, List.tail_cons]; and_intros <;> first | rfl | trivial
theorem m_leastOut (l : Launch) {G : PH} {o : MV} {f : Nat → Int32} {ρ : Riv} {r : Nat} {fr : Nat → Int64} (hk : mst G o f ρ) (hc : G[174]? = some (aJ 144 fr)) (hr : r < 6) : Tri l mX10_leastOut 0 0 [.ref 164, .int (nI r)] G (fun w G' => w = some (.long (mnF (fun j => fr (24 * r + j)) (rT ρ - 1))) ∧ G' = G) := by
  have hb := hk.2.2.2; have hT : rT ρ ≤ 24 := hb.2.1; have hT2 : 2 ≤ rT ρ := hb.1; have hN : rN ρ ≤ 6 := hb.2.2.2.2
  refine Tri.intro (L := [_, _, _, _, _, _, _]) okX10_leastOut.1 (Nat.le_of_ble_eq_true rfl) rfl ?_
  refine P_aload_n dX10_leastOut_0 rfl ?_
  refine P_get dX10_leastOut_1 flX10_43 hk.1 rfl ?_
  refine P_bipush dX10_leastOut_4 bp_24 ?_
  refine P_iload_n dX10_leastOut_6 rfl ?_
  refine P_imul dX10_leastOut_7 ?_
  rw [show (24 : Int32) * nI r = nI (24 * r + 0) from pk_mul 24 r]
  refine P_lald dX10_leastOut_8 hc (vp_in_nI (by omega) (by decide)) ?_
  rw [nI_clamp (by omega)]
  refine P_lstore_n (L' := [_, _, _, _, _, _, _]) dX10_leastOut_9 (Nat.le_of_ble_eq_true rfl) rfl ?_
  refine P_iconst dX10_leastOut_10 ci_1 ?_
  refine P_istore (L' := [_, _, _, _, _, _, _]) dX10_leastOut_11 (Nat.le_of_ble_eq_true rfl) rfl ?_
  exact P_loc (by simp only [subL, List.head?_cons, List.tail_cons]; and_intros <;> first | rfl | trivial) (lp_mleast l hk hc hr (rT ρ + 1) 0 (by omega) (by omega))
set_option maxRecDepth 100000 in
theorem lp_mfit (l : Launch) {G : PH} {o : MV} {f : Nat → Int32} {ρ : Riv} {r : Nat} {fi : Nat → Int64} (hk : mst G o f ρ) (hc : G[173]? = some (aJ 144 fi)) (hr : r < rN ρ) (hin : ∀ j, j < rT ρ → fi (24 * r + j) = INN ρ r j) : ∀ (n : Nat) (t : Nat), rT ρ - t < n → t ≤ rT ρ → WP mX10_isFit l (rmM mX10_isFit 0 0) (ZM 0 0 (fun w G' => w = some (.int (if fitB ρ r (rT ρ) then 1 else 0)) ∧ G' = G)) XT 0 0 4 [some (.ref 164), some (.int (nI r)), some (.int (if fitB ρ r t then 1 else 0)), some (.int (nI t))] [] G := by
  intro n
  induction n with
  | zero => intro t hn ht; exact absurd hn (Nat.not_lt_zero _)
  | succ n ih =>
    intro t hn ht
    have hb := hk.2.2.2; have hT : rT ρ ≤ 24 := hb.2.1; have hT2 : 2 ≤ rT ρ := hb.1; have hN : rN ρ ≤ 6 := hb.2.2.2.2
    refine P_iload_n dX10_isFit_4 rfl ?_
    refine P_aload_n dX10_isFit_5 rfl ?_
    refine P_get dX10_isFit_6 flX10_7 hk.1 rfl ?_
    refine P_iconst dX10_isFit_9 ci_0 ?_
    refine P_iald dX10_isFit_10 hk.2.1 (vp_in_nI (show 0 < 315 by decide) (by decide)) ?_
    rw [show f (Int32.toNatClampNeg 0) = nI (rT ρ) from hk.2.2.1.1]
    refine P_icmp_ge (tgt := 64) dX10_isFit_11 (by decide) (fun c11 => ?_) (fun c11 => ?_)
    · have hi2 : t = rT ρ := Nat.le_antisymm ht (Nat.not_lt.mp fun q => nI_ge q (by omega) c11)
      subst hi2
      refine P_iload_n dX10_isFit_64 rfl ?_
      exact P_zret dX10_isFit_65 rfl ⟨Nat.le_refl _, Nat.le_refl _⟩ (by first | exact Or.inl rfl | exact Or.inr rfl | exact ite01 _) ⟨rfl, rfl⟩
    · have hlt : t < rT ρ := Nat.not_le.mp fun q => c11 (nI_le q (by omega))
      refine P_iload_n dX10_isFit_14 rfl ?_
      refine P_if_eq (tgt := 56) dX10_isFit_15 (by decide) (fun c15 => ?_) (fun c15 => ?_)
      · have e2 : fitB ρ r (t + 1) = false := by simp only [fitB]; rw [Bool.eq_false_iff.mpr ((b2p _).mp c15)]; rfl
        refine P_iconst dX10_isFit_56 ci_0 ?_
        refine P_istore_n (L' := [_, _, _, _]) dX10_isFit_57 (Nat.le_of_ble_eq_true rfl) rfl ?_
        refine P_iinc (L' := [_, _, _, _]) dX10_isFit_58 rfl (ii_1 _) (Nat.le_of_ble_eq_true rfl) rfl ?_
        rw [nI_1]
        refine P_goto (tgt := 4) dX10_isFit_61 (by decide) ?_
        refine P_loc ?_ (ih (t + 1) (by omega) hlt)
        rw [e2]
        simp only [subL, List.head?_cons, List.tail_cons]; and_intros <;> first | rfl | trivial
      · refine P_aload_n dX10_isFit_18 rfl ?_
        refine P_get dX10_isFit_19 flX10_40 hk.1 rfl ?_
        refine P_bipush dX10_isFit_22 bp_24 ?_
        refine P_iload_n dX10_isFit_24 rfl ?_
        refine P_imul dX10_isFit_25 ?_
        refine P_iload_n dX10_isFit_26 rfl ?_
        refine P_iadd dX10_isFit_27 ?_
        rw [ix24]
        refine P_lald dX10_isFit_28 hc (vp_in_nI (by omega) (by decide)) ?_
        rw [nI_clamp (by omega)]; rw [hin t hlt]
        refine P_lconst dX10_isFit_29 lc_0 ?_
        refine P_lcmp dX10_isFit_30 ?_
        refine P_if_lt (tgt := 56) dX10_isFit_31 (by decide) (fun c31 => ?_) (fun c31 => ?_)
        · rw [lg_cmp_lt] at c31
          have e2 : fitB ρ r (t + 1) = false := by simp only [fitB]; rw [decide_eq_false (fun z => z.1 c31), Bool.and_false]
          refine P_iconst dX10_isFit_56 ci_0 ?_
          refine P_istore_n (L' := [_, _, _, _]) dX10_isFit_57 (Nat.le_of_ble_eq_true rfl) rfl ?_
          refine P_iinc (L' := [_, _, _, _]) dX10_isFit_58 rfl (ii_1 _) (Nat.le_of_ble_eq_true rfl) rfl ?_
          rw [nI_1]
          refine P_goto (tgt := 4) dX10_isFit_61 (by decide) ?_
          refine P_loc ?_ (ih (t + 1) (by omega) hlt)
          rw [e2]
          simp only [subL, List.head?_cons, List.tail_cons]; and_intros <;> first | rfl | trivial
        · refine P_aload_n dX10_isFit_34 rfl ?_
          refine P_get dX10_isFit_35 flX10_40 hk.1 rfl ?_
          refine P_bipush dX10_isFit_38 bp_24 ?_
          refine P_iload_n dX10_isFit_40 rfl ?_
          refine P_imul dX10_isFit_41 ?_
          refine P_iload_n dX10_isFit_42 rfl ?_
          refine P_iadd dX10_isFit_43 ?_
          rw [ix24]
          refine P_lald dX10_isFit_44 hc (vp_in_nI (by omega) (by decide)) ?_
          rw [nI_clamp (by omega)]; rw [hin t hlt]
          refine P_ldc2 dX10_isFit_45 kcX10_112 ?_
          refine P_lcmp dX10_isFit_48 ?_
          refine P_if_gt (tgt := 56) dX10_isFit_49 (by decide) (fun c49 => ?_) (fun c49 => ?_)
          · rw [lg_cmp_gt] at c49
            have e2 : fitB ρ r (t + 1) = false := by simp only [fitB]; rw [decide_eq_false (fun z => absurd z.2 (Int64.not_le.mpr c49)), Bool.and_false]
            refine P_iconst dX10_isFit_56 ci_0 ?_
            refine P_istore_n (L' := [_, _, _, _]) dX10_isFit_57 (Nat.le_of_ble_eq_true rfl) rfl ?_
            refine P_iinc (L' := [_, _, _, _]) dX10_isFit_58 rfl (ii_1 _) (Nat.le_of_ble_eq_true rfl) rfl ?_
            rw [nI_1]
            refine P_goto (tgt := 4) dX10_isFit_61 (by decide) ?_
            refine P_loc ?_ (ih (t + 1) (by omega) hlt)
            rw [e2]
            simp only [subL, List.head?_cons, List.tail_cons]; and_intros <;> first | rfl | trivial
          · rw [lg_cmp_gt] at c49
            rw [lg_cmp_lt] at c31
            have e2 : fitB ρ r (t + 1) = true := by simp only [fitB]; rw [b2y c15, decide_eq_true ⟨c31, Int64.not_lt.mp c49⟩]; rfl
            refine P_iconst dX10_isFit_52 ci_1 ?_
            refine P_goto (tgt := 57) dX10_isFit_53 (by decide) ?_
            refine P_istore_n (L' := [_, _, _, _]) dX10_isFit_57 (Nat.le_of_ble_eq_true rfl) rfl ?_
            refine P_iinc (L' := [_, _, _, _]) dX10_isFit_58 rfl (ii_1 _) (Nat.le_of_ble_eq_true rfl) rfl ?_
            rw [nI_1]
            refine P_goto (tgt := 4) dX10_isFit_61 (by decide) ?_
            refine P_loc ?_ (ih (t + 1) (by omega) hlt)
            rw [e2]
            simp only [subL, List.head?_cons, List.tail_cons]; and_intros <;> first | rfl | trivial
theorem m_isFit (l : Launch) {G : PH} {o : MV} {f : Nat → Int32} {ρ : Riv} {r : Nat} {fi : Nat → Int64} (hk : mst G o f ρ) (hc : G[173]? = some (aJ 144 fi)) (hr : r < rN ρ) (hin : ∀ j, j < rT ρ → fi (24 * r + j) = INN ρ r j) : Tri l mX10_isFit 0 0 [.ref 164, .int (nI r)] G (fun w G' => w = some (.int (if fitB ρ r (rT ρ) then 1 else 0)) ∧ G' = G) := by
  have hb := hk.2.2.2; have hT : rT ρ ≤ 24 := hb.2.1; have hT2 : 2 ≤ rT ρ := hb.1; have hN : rN ρ ≤ 6 := hb.2.2.2.2
  refine Tri.intro (L := [_, _, _, _]) okX10_isFit.1 (Nat.le_of_ble_eq_true rfl) rfl ?_
  refine P_iconst dX10_isFit_0 ci_1 ?_
  refine P_istore_n (L' := [_, _, _, _]) dX10_isFit_1 (Nat.le_of_ble_eq_true rfl) rfl ?_
  refine P_iconst dX10_isFit_2 ci_0 ?_
  refine P_istore_n (L' := [_, _, _, _]) dX10_isFit_3 (Nat.le_of_ble_eq_true rfl) rfl ?_
  exact P_loc (by simp only [subL, List.head?_cons, List.tail_cons]; and_intros <;> first | rfl | trivial) (lp_mfit l hk hc hr hin (rT ρ + 1) 0 (by omega) (by omega))
def ml2 (G : PH) (gs gf : Nat → Int64) : Prop := G[178]? = some (aJ 24 gs) ∧ G[179]? = some (aJ 24 gf)
theorem lN_20 {x : Nat} (h : x ≤ 20) : (20 : Int64) - lN x = lN (20 - x) := lN_sub (a := 20) h
theorem fb_eq {x a : Nat} (hx : x ≤ 10) (ha : a ≤ 9999) (y : Int64) : (nI x).toInt64 * y + ((20 - nI x) * nI a).toInt64 = (nI x).toInt64 * y + (20 - (nI x).toInt64) * (nI a).toInt64 := by
  have h1 : (20 - x) * a ≤ 20 * a := Nat.mul_le_mul_right a (by omega)
  rw [show (20 : Int32) - nI x = nI (20 - x) from pk_sub (a := 20) (by omega), pk_mul, nI_64 (n := (20 - x) * a) (by omega), nI_64 (n := x) (by omega), nI_64 (n := a) (by omega), lN_20 (by omega)]
  rw [show lN ((20 - x) * a) = lN (20 - x) * lN a from Int64.ofNat_mul _ _]
theorem gr_eq {a b : Nat} (ha : a ≤ 9999) (hb : b ≤ 9999) (y z : Int64) : z + y - (nI b).toInt64 - (nI a).toInt64 = y + z - (nI a + nI b).toInt64 := by
  rw [nI_add, nI_64 (n := a + b) (by omega), nI_64 (n := a) (by omega), nI_64 (n := b) (by omega), show lN (a + b) = lN a + lN b from Int64.ofNat_add a b]
  generalize lN a = A
  generalize lN b = B
  grind
theorem fr2s {G : PH} {i : Nat} {c : PCell} (h1 : 178 ≤ i) (h2 : i < 180) : Fr G (G.set i c) 178 2 := Fr.set (by omega) (by omega)
set_option maxRecDepth 100000 in
theorem lp_mloop2 (l : Launch) {G0 G : PH} {o : MV} {f : Nat → Int32} {ρ : Riv} {r x : Nat} {gs gf : Nat → Int64} (hk : mst G o f ρ) (kl : ml2 G gs gf) (hg : ∀ j, j < rT ρ → gs j = sSt ρ r j ∧ gf j = fbS ρ r (nI x) j) (hF : Fr G0 G 178 2) : ∀ (n : Nat) (i : Nat), rT ρ - (i + 1) < n → i + 1 ≤ rT ρ → WP mX10_loop l (rmM mX10_loop 0 0) (ZM 0 0 (fun w G' => w = some (.long (lpS ρ r (nI x))) ∧ (∃ gs gf, ml2 G' gs gf ∧ ∀ j, j < rT ρ → gs j = sSt ρ r j ∧ gf j = fbS ρ r (nI x) j) ∧ Fr G0 G' 178 2)) XT 0 0 138 [some (.ref 164), some (.int (nI r)), some (.int (nI x)), some (.long (arS ρ r (nI x) i)), none, some (.int (nI i)), none, none, none] [] G := by
  intro n
  induction n with
  | zero => intro i hn hi; exact absurd hn (Nat.not_lt_zero _)
  | succ n ih =>
    intro i hn hi
    have hb := hk.2.2.2; have hT : rT ρ ≤ 24 := hb.2.1; have hT2 : 2 ≤ rT ρ := hb.1; have hN : rN ρ ≤ 6 := hb.2.2.2.2
    refine P_iload dX10_loop_138 rfl ?_
    refine P_iconst dX10_loop_140 ci_1 ?_
    refine P_iadd dX10_loop_141 ?_
    rw [nI_1]
    refine P_aload_n dX10_loop_142 rfl ?_
    refine P_get dX10_loop_143 flX10_7 hk.1 rfl ?_
    refine P_iconst dX10_loop_146 ci_0 ?_
    refine P_iald dX10_loop_147 hk.2.1 (vp_in_nI (show 0 < 315 by decide) (by decide)) ?_
    rw [show f (Int32.toNatClampNeg 0) = nI (rT ρ) from hk.2.2.1.1]
    refine P_icmp_ge (tgt := 195) dX10_loop_148 (by decide) (fun c148 => ?_) (fun c148 => ?_)
    · have hi2 : i = rT ρ - 1 := by have := Nat.not_lt.mp fun q : i + 1 < rT ρ => nI_ge q (by omega) c148; omega
      subst hi2
      refine P_lload_n dX10_loop_195 rfl ?_
      refine P_lconst dX10_loop_196 lc_0 ?_
      refine P_lcmp dX10_loop_197 ?_
      refine P_if_ge (tgt := 206) dX10_loop_198 (by decide) (fun c198 => ?_) (fun c198 => ?_)
      · rw [lg_cmp_ge] at c198
        have ej : lpS ρ r (nI x) = arS ρ r (nI x) (rT ρ - 1) := if_neg (Int64.not_lt.mpr c198)
        refine P_lload_n dX10_loop_206 rfl ?_
        exact P_lret dX10_loop_207 rfl ⟨Nat.le_refl _, Nat.le_refl _⟩ ⟨by rw [ej], ⟨gs, gf, kl, hg⟩, hF⟩
      · rw [lg_cmp_ge] at c198
        have ej : lpS ρ r (nI x) = -arS ρ r (nI x) (rT ρ - 1) := if_pos (Int64.not_le.mp c198)
        refine P_lload_n dX10_loop_201 rfl ?_
        refine P_lneg dX10_loop_202 ?_
        refine P_goto (tgt := 207) dX10_loop_203 (by decide) ?_
        exact P_lret dX10_loop_207 rfl ⟨Nat.le_refl _, Nat.le_refl _⟩ ⟨by rw [ej], ⟨gs, gf, kl, hg⟩, hF⟩
    · have hlt : i + 1 < rT ρ := Nat.not_le.mp fun q => c148 (nI_le q (by omega))
      refine P_lload_n dX10_loop_151 rfl ?_
      refine P_aload_n dX10_loop_152 rfl ?_
      refine P_get dX10_loop_153 flX10_58 hk.1 rfl ?_
      refine P_iload dX10_loop_156 rfl ?_
      refine P_lald dX10_loop_158 kl.2 (vp_in_nI (by omega) (by decide)) ?_
      rw [nI_clamp (by omega)]; rw [(hg i (by omega)).2]
      refine P_aload_n dX10_loop_159 rfl ?_
      refine P_get dX10_loop_160 flX10_55 hk.1 rfl ?_
      refine P_iload dX10_loop_163 rfl ?_
      refine P_iconst dX10_loop_165 ci_1 ?_
      refine P_iadd dX10_loop_166 ?_
      rw [nI_1]
      refine P_lald dX10_loop_167 kl.1 (vp_in_nI (by omega) (by decide)) ?_
      rw [nI_clamp (by omega)]; rw [(hg (i + 1) hlt).1]
      refine P_lmul dX10_loop_168 ?_
      refine P_aload_n dX10_loop_169 rfl ?_
      refine P_get dX10_loop_170 flX10_58 hk.1 rfl ?_
      refine P_iload dX10_loop_173 rfl ?_
      refine P_iconst dX10_loop_175 ci_1 ?_
      refine P_iadd dX10_loop_176 ?_
      rw [nI_1]
      refine P_lald dX10_loop_177 kl.2 (vp_in_nI (by omega) (by decide)) ?_
      rw [nI_clamp (by omega)]; rw [(hg (i + 1) hlt).2]
      refine P_aload_n dX10_loop_178 rfl ?_
      refine P_get dX10_loop_179 flX10_55 hk.1 rfl ?_
      refine P_iload dX10_loop_182 rfl ?_
      refine P_lald dX10_loop_184 kl.1 (vp_in_nI (by omega) (by decide)) ?_
      rw [nI_clamp (by omega)]; rw [(hg i (by omega)).1]
      refine P_lmul dX10_loop_185 ?_
      refine P_lsub dX10_loop_186 ?_
      refine P_ladd dX10_loop_187 ?_
      refine P_lstore_n (L' := [_, _, _, _, _, _, _, _, _]) dX10_loop_188 (Nat.le_of_ble_eq_true rfl) rfl ?_
      refine P_iinc (L' := [_, _, _, _, _, _, _, _, _]) dX10_loop_189 rfl (ii_1 _) (Nat.le_of_ble_eq_true rfl) rfl ?_
      rw [nI_1]
      refine P_goto (tgt := 138) dX10_loop_192 (by decide) ?_
      exact P_loc (by simp only [subL, List.head?_cons, List.tail_cons]; and_intros <;> first | rfl | trivial) (ih (i + 1) (by omega) hlt)
set_option maxRecDepth 100000 in
theorem lp_mloop1 (l : Launch) {G0 : PH} {o : MV} {f : Nat → Int32} {ρ : Riv} {r x : Nat} {fi : Nat → Int64} (hr : r < rN ρ) (hx : x ≤ 10) (hv : rVal ρ) (hin : ∀ j, j < rT ρ → fi (24 * r + j) = INN ρ r j) : ∀ (n : Nat) (G : PH) (t : Nat) (gs gf : Nat → Int64), rT ρ - t < n → t ≤ rT ρ → mst G o f ρ → G[173]? = some (aJ 144 fi) → ml2 G gs gf → (∀ j, j < t → gs j = sSt ρ r j ∧ gf j = fbS ρ r (nI x) j) → Fr G0 G 178 2 → WP mX10_loop l (rmM mX10_loop 0 0) (ZM 0 0 (fun w G' => w = some (.long (lpS ρ r (nI x))) ∧ (∃ gs gf, ml2 G' gs gf ∧ ∀ j, j < rT ρ → gs j = sSt ρ r j ∧ gf j = fbS ρ r (nI x) j) ∧ Fr G0 G' 178 2)) XT 0 0 2 [some (.ref 164), some (.int (nI r)), some (.int (nI x)), some (.int (nI t)), none, none, none, none, none] [] G := by
  intro n
  induction n with
  | zero => intro G  t  gs gf hn ht hk hc kl hg hF; exact absurd hn (Nat.not_lt_zero _)
  | succ n ih =>
    intro G  t  gs gf hn ht hk hc kl hg hF
    have hb := hk.2.2.2; have hT : rT ρ ≤ 24 := hb.2.1; have hT2 : 2 ≤ rT ρ := hb.1; have hN : rN ρ ≤ 6 := hb.2.2.2.2
    refine P_iload_n dX10_loop_2 rfl ?_
    refine P_aload_n dX10_loop_3 rfl ?_
    refine P_get dX10_loop_4 flX10_7 hk.1 rfl ?_
    refine P_iconst dX10_loop_7 ci_0 ?_
    refine P_iald dX10_loop_8 hk.2.1 (vp_in_nI (show 0 < 315 by decide) (by decide)) ?_
    rw [show f (Int32.toNatClampNeg 0) = nI (rT ρ) from hk.2.2.1.1]
    refine P_icmp_ge (tgt := 133) dX10_loop_9 (by decide) (fun c9 => ?_) (fun c9 => ?_)
    · have hi2 : t = rT ρ := Nat.le_antisymm ht (Nat.not_lt.mp fun q => nI_ge q (by omega) c9)
      subst hi2
      refine P_lconst dX10_loop_133 lc_0 ?_
      refine P_lstore_n (L' := [_, _, _, _, _, _, _, _, _]) dX10_loop_134 (Nat.le_of_ble_eq_true rfl) rfl ?_
      refine P_iconst dX10_loop_135 ci_0 ?_
      refine P_istore (L' := [_, _, _, _, _, _, _, _, _]) dX10_loop_136 (Nat.le_of_ble_eq_true rfl) rfl ?_
      exact P_loc (by simp only [subL, List.head?_cons, List.tail_cons]; and_intros <;> first | rfl | trivial) (lp_mloop2 l hk kl hg hF (rT ρ + 1) 0 (by omega) (by omega))
    · have hlt : t < rT ρ := Nat.not_le.mp fun q => c9 (nI_le q (by omega))
      obtain ⟨-, -, -, -, hve⟩ := hv r hr
      obtain ⟨a, ha, ea⟩ := (hve t (by omega)).2
      have hfb : fbS ρ r (nI x) t = (nI x).toInt64 * INN ρ r t + (20 - (nI x).toInt64) * (nI a).toInt64 := by unfold fbS; rw [ea]
      refine P_aload_n dX10_loop_12 rfl ?_
      refine P_get dX10_loop_13 flX10_40 hk.1 rfl ?_
      refine P_bipush dX10_loop_16 bp_24 ?_
      refine P_iload_n dX10_loop_18 rfl ?_
      refine P_imul dX10_loop_19 ?_
      refine P_iload_n dX10_loop_20 rfl ?_
      refine P_iadd dX10_loop_21 ?_
      rw [ix24]
      refine P_lald dX10_loop_22 hc (vp_in_nI (by omega) (by decide)) ?_
      rw [nI_clamp (by omega)]; rw [hin t hlt]
      refine P_lstore (L' := [_, _, _, _, _, _, _, _, _]) dX10_loop_23 (Nat.le_of_ble_eq_true rfl) rfl ?_
      refine P_aload_n dX10_loop_25 rfl ?_
      refine P_iload_n dX10_loop_26 rfl ?_
      refine P_bipush dX10_loop_27 bp_28 ?_
      refine P_iload_n dX10_loop_29 rfl ?_
      refine P_iadd dX10_loop_30 ?_
      rw [ix28]
      refine P_callVp dX10_loop_31 lkX10_95 okX10_of ⟨Nat.le_of_ble_eq_true rfl, Nat.le_of_ble_eq_true rfl⟩ (m_of l hk.1 hk.2.1 (by omega)) rfl rfl hk.1 (Nat.le_of_ble_eq_true rfl) ⟨Nat.le_of_ble_eq_true rfl, Nat.le_of_ble_eq_true rfl⟩ ?_
      rw [((hk.2.2.1.2.2.2 r hr).2 t (by omega)).2, ea]
      refine P_istore (L' := [_, _, _, _, _, _, _, _, _]) dX10_loop_34 (Nat.le_of_ble_eq_true rfl) rfl ?_
      refine P_aload_n dX10_loop_36 rfl ?_
      refine P_get dX10_loop_37 flX10_58 hk.1 rfl ?_
      refine P_iload_n dX10_loop_40 rfl ?_
      refine P_iload_n dX10_loop_41 rfl ?_
      refine P_i2l dX10_loop_42 ?_
      refine P_lload dX10_loop_43 rfl ?_
      refine P_lmul dX10_loop_45 ?_
      refine P_bipush dX10_loop_46 bp_20 ?_
      refine P_iload_n dX10_loop_48 rfl ?_
      refine P_isub dX10_loop_49 ?_
      refine P_iload dX10_loop_50 rfl ?_
      refine P_imul dX10_loop_52 ?_
      refine P_i2l dX10_loop_53 ?_
      refine P_ladd dX10_loop_54 ?_
      rw [fb_eq hx ha]
      refine P_last dX10_loop_55 kl.2 (vp_in_nI (by omega) (by decide)) ?_
      rw [nI_clamp (by omega)]
      have kl1 : ml2 (G.set 179 (aJ 24 (vp_updL gf t ((nI x).toInt64 * INN ρ r t + (20 - (nI x).toInt64) * (nI a).toInt64)))) gs (vp_updL gf t ((nI x).toInt64 * INN ρ r t + (20 - (nI x).toInt64) * (nI a).toInt64)) := ⟨set_ne kl.1 (by decide), set_at kl.2⟩
      have hF1 := fr2s (G := G) (i := 179) (c := aJ 24 (vp_updL gf t ((nI x).toInt64 * INN ρ r t + (20 - (nI x).toInt64) * (nI a).toInt64))) (by decide) (by decide)
      have hk1 := hk.fr hF1 (by decide)
      refine P_aload_n dX10_loop_56 rfl ?_
      refine P_get dX10_loop_57 flX10_55 hk1.1 rfl ?_
      refine P_iload_n dX10_loop_60 rfl ?_
      refine P_lconst dX10_loop_61 lc_0 ?_
      refine P_last dX10_loop_62 kl1.1 (vp_in_nI (by omega) (by decide)) ?_
      rw [nI_clamp (by omega)]
      have kl2 := (⟨set_at kl1.1, set_ne kl1.2 (by decide)⟩ : ml2 ((G.set 179 (aJ 24 (vp_updL gf t ((nI x).toInt64 * INN ρ r t + (20 - (nI x).toInt64) * (nI a).toInt64)))).set 178 (aJ 24 (vp_updL gs t 0))) (vp_updL gs t 0) _)
      have hF2 := hF1.tr (fr2s (i := 178) (c := aJ 24 (vp_updL gs t 0)) (by decide) (by decide))
      have hk2 := hk.fr hF2 (by decide)
      have hc2 := hF2.at hc (by decide)
      refine P_iload_n dX10_loop_63 rfl ?_
      refine P_if_le (tgt := 127) dX10_loop_64 (by decide) (fun c64 => ?_) (fun c64 => ?_)
      · have h0 : t = 0 := Classical.byContradiction fun z => nI_nle (Nat.pos_of_ne_zero z) (by omega) c64
        subst h0
        refine P_iinc (L' := [_, _, _, _, _, _, _, _, _]) dX10_loop_127 rfl (ii_1 _) (Nat.le_of_ble_eq_true rfl) rfl ?_
        rw [nI_1]
        refine P_goto (tgt := 2) dX10_loop_130 (by decide) ?_
        first
        | (refine P_loc ?_ (ih _ 1 _ _ (by omega) hlt hk2 hc2 kl2 (fun j hj => ?_) (hF.tr hF2))
           · simp only [subL, List.head?_cons, List.tail_cons]; and_intros <;> first | rfl | trivial
           · obtain rfl : j = 0 := by omega
             exact ⟨pk_uLs, pk_uLs.trans hfb.symm⟩)
        | (refine P_loc ?_ (ih _ (u + 1 + 1) _ _ (by omega) hlt (hk2.fr (fr2s (by decide) (by decide)) (by decide)) (set_ne hc2 (by decide)) (show ml2 _ _ _ from ⟨set_at kl2.1, set_ne kl2.2 (by decide)⟩) (fun j hj => ?_) (hF.tr (hF2.tr (fr2s (by decide) (by decide)))))
           · simp only [subL, List.head?_cons, List.tail_cons]; and_intros <;> first | rfl | trivial
           · by_cases e : j = u + 1
             · subst e; refine ⟨pk_uLs.trans ?_, pk_uLs.trans hfb.symm⟩; show _ = sSt ρ r u + grS ρ r u; unfold grS; rw [ea, eb]
             · rw [pk_uLn e, pk_uLn e, pk_uLn e]; exact hg j (by omega))
      · have h0 : 0 < t := Nat.pos_of_ne_zero fun z => c64 (by rw [z]; exact Int32.le_refl _)
        obtain ⟨u, rfl⟩ : ∃ u, t = u + 1 := ⟨t - 1, by omega⟩
        obtain ⟨b, hb9, eb⟩ := (hve u (by omega)).2
        refine P_lload dX10_loop_67 rfl ?_
        refine P_aload_n dX10_loop_69 rfl ?_
        refine P_get dX10_loop_70 flX10_40 hk2.1 rfl ?_
        refine P_bipush dX10_loop_73 bp_24 ?_
        refine P_iload_n dX10_loop_75 rfl ?_
        refine P_imul dX10_loop_76 ?_
        refine P_iload_n dX10_loop_77 rfl ?_
        refine P_iadd dX10_loop_78 ?_
        rw [ix24]
        refine P_iconst dX10_loop_79 ci_1 ?_
        refine P_isub dX10_loop_80 ?_
        rw [show nI (24 * r + (u + 1)) - 1 = nI (24 * r + u) from nI_pred _]
        refine P_lald dX10_loop_81 hc2 (vp_in_nI (by omega) (by decide)) ?_
        rw [nI_clamp (by omega)]; rw [hin u (by omega)]
        refine P_ladd dX10_loop_82 ?_
        refine P_iload dX10_loop_83 rfl ?_
        refine P_i2l dX10_loop_85 ?_
        refine P_lsub dX10_loop_86 ?_
        refine P_aload_n dX10_loop_87 rfl ?_
        refine P_iload_n dX10_loop_88 rfl ?_
        refine P_bipush dX10_loop_89 bp_28 ?_
        refine P_iload_n dX10_loop_91 rfl ?_
        refine P_iadd dX10_loop_92 ?_
        rw [ix28]
        refine P_iconst dX10_loop_93 ci_1 ?_
        refine P_isub dX10_loop_94 ?_
        rw [show nI (28 + (u + 1)) - 1 = nI (28 + u) from nI_pred _]
        refine P_callVp dX10_loop_95 lkX10_95 okX10_of ⟨Nat.le_of_ble_eq_true rfl, Nat.le_of_ble_eq_true rfl⟩ (m_of l hk2.1 hk2.2.1 (by omega)) rfl rfl hk2.1 (Nat.le_of_ble_eq_true rfl) ⟨Nat.le_of_ble_eq_true rfl, Nat.le_of_ble_eq_true rfl⟩ ?_
        rw [((hk2.2.2.1.2.2.2 r hr).2 u (by omega)).2, eb]
        refine P_i2l dX10_loop_98 ?_
        refine P_lsub dX10_loop_99 ?_
        rw [gr_eq hb9 ha]
        refine P_lstore (L' := [_, _, _, _, _, _, _, _, _]) dX10_loop_100 (Nat.le_of_ble_eq_true rfl) rfl ?_
        refine P_aload_n dX10_loop_102 rfl ?_
        refine P_get dX10_loop_103 flX10_55 hk2.1 rfl ?_
        refine P_iload_n dX10_loop_106 rfl ?_
        refine P_aload_n dX10_loop_107 rfl ?_
        refine P_get dX10_loop_108 flX10_55 hk2.1 rfl ?_
        refine P_iload_n dX10_loop_111 rfl ?_
        refine P_iconst dX10_loop_112 ci_1 ?_
        refine P_isub dX10_loop_113 ?_
        rw [nI_pred]
        refine P_lald dX10_loop_114 kl2.1 (vp_in_nI (by omega) (by decide)) ?_
        rw [nI_clamp (by omega)]; rw [pk_uLn (by omega), (hg u (by omega)).1]
        refine P_aload_n dX10_loop_115 rfl ?_
        refine P_get dX10_loop_116 flX10_7 hk2.1 rfl ?_
        refine P_iconst dX10_loop_119 ci_1 ?_
        refine P_iald dX10_loop_120 hk2.2.1 (vp_in_nI (show 1 < 315 by decide) (by decide)) ?_
        rw [show f (Int32.toNatClampNeg 1) = nI (rD ρ) from hk2.2.2.1.2.1]
        refine P_i2l dX10_loop_121 ?_
        refine P_lload dX10_loop_122 rfl ?_
        refine P_lmul dX10_loop_124 ?_
        refine P_ladd dX10_loop_125 ?_
        refine P_last dX10_loop_126 kl2.1 (vp_in_nI (by omega) (by decide)) ?_
        rw [nI_clamp (by omega)]
        refine P_iinc (L' := [_, _, _, _, _, _, _, _, _]) dX10_loop_127 rfl (ii_1 _) (Nat.le_of_ble_eq_true rfl) rfl ?_
        rw [nI_1]
        refine P_goto (tgt := 2) dX10_loop_130 (by decide) ?_
        first
        | (refine P_loc ?_ (ih _ 1 _ _ (by omega) hlt hk2 hc2 kl2 (fun j hj => ?_) (hF.tr hF2))
           · simp only [subL, List.head?_cons, List.tail_cons]; and_intros <;> first | rfl | trivial
           · obtain rfl : j = 0 := by omega
             exact ⟨pk_uLs, pk_uLs.trans hfb.symm⟩)
        | (refine P_loc ?_ (ih _ (u + 1 + 1) _ _ (by omega) hlt (hk2.fr (fr2s (by decide) (by decide)) (by decide)) (set_ne hc2 (by decide)) (show ml2 _ _ _ from ⟨set_at kl2.1, set_ne kl2.2 (by decide)⟩) (fun j hj => ?_) (hF.tr (hF2.tr (fr2s (by decide) (by decide)))))
           · simp only [subL, List.head?_cons, List.tail_cons]; and_intros <;> first | rfl | trivial
           · by_cases e : j = u + 1
             · subst e; refine ⟨pk_uLs.trans ?_, pk_uLs.trans hfb.symm⟩; show _ = sSt ρ r u + grS ρ r u; unfold grS; rw [ea, eb]
             · rw [pk_uLn e, pk_uLn e, pk_uLn e]; exact hg j (by omega))
theorem m_loop (l : Launch) {G : PH} {o : MV} {f : Nat → Int32} {ρ : Riv} {r x : Nat} {fi gs gf : Nat → Int64} (hk : mst G o f ρ) (hc : G[173]? = some (aJ 144 fi)) (kl : ml2 G gs gf) (hr : r < rN ρ) (hx : x ≤ 10) (hv : rVal ρ) (hin : ∀ j, j < rT ρ → fi (24 * r + j) = INN ρ r j) : Tri l mX10_loop 0 0 [.ref 164, .int (nI r), .int (nI x)] G (fun w G' => w = some (.long (lpS ρ r (nI x))) ∧ (∃ gs gf, ml2 G' gs gf ∧ ∀ j, j < rT ρ → gs j = sSt ρ r j ∧ gf j = fbS ρ r (nI x) j) ∧ Fr G G' 178 2) := by
  refine Tri.intro (L := [_, _, _, _, _, _, _, _, _]) okX10_loop.1 (Nat.le_of_ble_eq_true rfl) rfl ?_
  refine P_iconst dX10_loop_0 ci_0 ?_
  refine P_istore_n (L' := [_, _, _, _, _, _, _, _, _]) dX10_loop_1 (Nat.le_of_ble_eq_true rfl) rfl ?_
  exact P_loc (by simp only [subL, List.head?_cons, List.tail_cons]; and_intros <;> first | rfl | trivial) (lp_mloop1 l hr hx hv hin (rT ρ + 1) G 0 gs gf (by omega) (Nat.zero_le _) hk hc kl (fun j hj => absurd hj (Nat.not_lt_zero _)) Fr.rf)
