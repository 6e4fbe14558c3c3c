set_option maxRecDepth 100000 in
theorem lp_mnarrow (l : Launch) {G0 : PH} {o : MV} {f : Nat → Int32} {ρ : Riv} {r : Nat} {fi : Nat → Int64} (hr : r < rN ρ) (hv : rVal ρ) (hin : ∀ j, j < rT ρ → fi (24 * r + j) = INN ρ r j) : ∀ (n : Nat) (G : PH) (i : Nat), 10 - i < n → i ≤ 10 → mst G o f ρ → G[173]? = some (aJ 144 fi) → (∃ gs gf, ml2 G gs gf) → Fr G0 G 178 2 → WP mX10_narrowest l (rmM mX10_narrowest 0 0) (ZM 0 0 (fun w G' => w = some (.int (nI (nwS ρ r 10).1)) ∧ (∃ gs gf, ml2 G' gs gf) ∧ Fr G0 G' 178 2)) XT 0 0 12 [some (.ref 164), some (.int (nI r)), some (.int (nI (nwS ρ r i).1)), some (.long (nwS ρ r i).2), none, some (.int (nI (i + 1))), none, none] [] G := by
  intro n
  induction n with
  | zero => intro G  i hn hi hk hc kl hF; exact absurd hn (Nat.not_lt_zero _)
  | succ n ih =>
    intro G  i hn hi hk hc kl hF
    refine P_iload dX10_narrowest_12 rfl ?_
    refine P_bipush dX10_narrowest_14 bp_10 ?_
    refine P_icmp_gt (tgt := 62) dX10_narrowest_16 (by decide) (fun c16 => ?_) (fun c16 => ?_)
    · have hi2 : i = 10 := by have : ¬ i + 1 ≤ 10 := fun q => absurd c16 (Int32.not_lt.mpr (nI_le (b := 10) q (by decide))); omega
      subst hi2
      refine P_iload_n dX10_narrowest_62 rfl ?_
      exact P_iret dX10_narrowest_63 rfl ⟨Nat.le_refl _, Nat.le_refl _⟩ ⟨rfl, kl, hF⟩
    · have hlt : i + 1 ≤ 10 := Classical.byContradiction fun q => c16 (nI_lt (a := 10) (by omega) (by omega))
      refine P_aload_n dX10_narrowest_19 rfl ?_
      refine P_iload_n dX10_narrowest_20 rfl ?_
      refine P_iload dX10_narrowest_21 rfl ?_
      refine P_callV dX10_narrowest_23 lkX10_114 okX10_loop ⟨Nat.le_of_ble_eq_true rfl, Nat.le_of_ble_eq_true rfl⟩ (m_loop l hk hc kl.choose_spec.choose_spec hr hlt hv hin) rfl rfl hk.1 (Nat.le_of_ble_eq_true rfl) ⟨Nat.le_of_ble_eq_true rfl, Nat.le_of_ble_eq_true rfl⟩ (fun v23 G23 q23 => ?_)
      obtain ⟨rfl, ⟨gs1, gf1, kl1, -⟩, hF1⟩ := q23
      refine P_lstore (L' := [_, _, _, _, _, _, _, _]) dX10_narrowest_26 (Nat.le_of_ble_eq_true rfl) rfl ?_
      refine P_lload dX10_narrowest_28 rfl ?_
      refine P_lload_n dX10_narrowest_30 rfl ?_
      refine P_lcmp dX10_narrowest_31 ?_
      refine P_if_ge (tgt := 40) dX10_narrowest_32 (by decide) (fun c32 => ?_) (fun c32 => ?_)
      · rw [lg_cmp_ge] at c32
        have e2 : nwS ρ r (i + 1) = nwS ρ r i := by simp only [nwS]; rw [if_neg (Int64.not_lt.mpr c32)]
        refine P_iload_n dX10_narrowest_40 rfl ?_
        refine P_istore_n (L' := [_, _, _, _, _, _, _, _]) dX10_narrowest_41 (Nat.le_of_ble_eq_true rfl) rfl ?_
        refine P_lload dX10_narrowest_42 rfl ?_
        refine P_lload_n dX10_narrowest_44 rfl ?_
        refine P_lcmp dX10_narrowest_45 ?_
        refine P_if_ge (tgt := 54) dX10_narrowest_46 (by decide) (fun c46 => ?_) (fun c46 => ?_)
        · refine P_lload_n dX10_narrowest_54 rfl ?_
          refine P_lstore_n (L' := [_, _, _, _, _, _, _, _]) dX10_narrowest_55 (Nat.le_of_ble_eq_true rfl) rfl ?_
          refine P_iinc (L' := [_, _, _, _, _, _, _, _]) dX10_narrowest_56 rfl (ii_1 _) (Nat.le_of_ble_eq_true rfl) rfl ?_
          rw [nI_1]
          refine P_goto (tgt := 12) dX10_narrowest_59 (by decide) ?_
          refine P_loc ?_ (ih G23 (i + 1) (by omega) (by omega) (hk.fr hF1 (by decide)) (hF1.at hc (by decide)) ⟨_, _, kl1⟩ (hF.tr hF1))
          rw [e2]
          simp only [subL, List.head?_cons, List.tail_cons]; and_intros <;> first | rfl | trivial
        · rw [lg_cmp_ge] at c46
          exact absurd c32 c46
      · rw [lg_cmp_ge] at c32
        have e2 : nwS ρ r (i + 1) = (i + 1, lpS ρ r (nI (i + 1))) := by simp only [nwS]; rw [if_pos (Int64.not_le.mp c32)]
        refine P_iload dX10_narrowest_35 rfl ?_
        refine P_goto (tgt := 41) dX10_narrowest_37 (by decide) ?_
        refine P_istore_n (L' := [_, _, _, _, _, _, _, _]) dX10_narrowest_41 (Nat.le_of_ble_eq_true rfl) rfl ?_
        refine P_lload dX10_narrowest_42 rfl ?_
        refine P_lload_n dX10_narrowest_44 rfl ?_
        refine P_lcmp dX10_narrowest_45 ?_
        refine P_if_ge (tgt := 54) dX10_narrowest_46 (by decide) (fun c46 => ?_) (fun c46 => ?_)
        · rw [lg_cmp_ge] at c46
          exact absurd c46 c32
        · refine P_lload dX10_narrowest_49 rfl ?_
          refine P_goto (tgt := 55) dX10_narrowest_51 (by decide) ?_
          refine P_lstore_n (L' := [_, _, _, _, _, _, _, _]) dX10_narrowest_55 (Nat.le_of_ble_eq_true rfl) rfl ?_
          refine P_iinc (L' := [_, _, _, _, _, _, _, _]) dX10_narrowest_56 rfl (ii_1 _) (Nat.le_of_ble_eq_true rfl) rfl ?_
          rw [nI_1]
          refine P_goto (tgt := 12) dX10_narrowest_59 (by decide) ?_
          refine P_loc ?_ (ih G23 (i + 1) (by omega) (by omega) (hk.fr hF1 (by decide)) (hF1.at hc (by decide)) ⟨_, _, kl1⟩ (hF.tr hF1))
          rw [e2]
          simp only [subL, List.head?_cons, List.tail_cons]; and_intros <;> first | rfl | trivial
theorem m_narrowest (l : Launch) {G : PH} {o : MV} {f : Nat → Int32} {ρ : Riv} {r : Nat} {fi gs gf : Nat → Int64} (hk : mst G o f ρ) (hc : G[173]? = some (aJ 144 fi)) (kl : ml2 G gs gf) (hr : r < rN ρ) (hv : rVal ρ) (hin : ∀ j, j < rT ρ → fi (24 * r + j) = INN ρ r j) : Tri l mX10_narrowest 0 0 [.ref 164, .int (nI r)] G (fun w G' => w = some (.int (nI (nwS ρ r 10).1)) ∧ (∃ gs gf, ml2 G' gs gf) ∧ Fr G G' 178 2) := by
  refine Tri.intro (L := [_, _, _, _, _, _, _, _]) okX10_narrowest.1 (Nat.le_of_ble_eq_true rfl) rfl ?_
  refine P_iconst dX10_narrowest_0 ci_0 ?_
  refine P_istore_n (L' := [_, _, _, _, _, _, _, _]) dX10_narrowest_1 (Nat.le_of_ble_eq_true rfl) rfl ?_
  refine P_aload_n dX10_narrowest_2 rfl ?_
  refine P_iload_n dX10_narrowest_3 rfl ?_
  refine P_iconst dX10_narrowest_4 ci_0 ?_
  refine P_callV dX10_narrowest_5 lkX10_114 okX10_loop ⟨Nat.le_of_ble_eq_true rfl, Nat.le_of_ble_eq_true rfl⟩ (m_loop (x := 0) l hk hc kl hr (by decide) hv hin) rfl rfl hk.1 (Nat.le_of_ble_eq_true rfl) ⟨Nat.le_of_ble_eq_true rfl, Nat.le_of_ble_eq_true rfl⟩ (fun v5 G5 q5 => ?_)
  obtain ⟨rfl, ⟨gs1, gf1, kl1, -⟩, hF1⟩ := q5
  refine P_lstore_n (L' := [_, _, _, _, _, _, _, _]) dX10_narrowest_8 (Nat.le_of_ble_eq_true rfl) rfl ?_
  refine P_iconst dX10_narrowest_9 ci_1 ?_
  refine P_istore (L' := [_, _, _, _, _, _, _, _]) dX10_narrowest_10 (Nat.le_of_ble_eq_true rfl) rfl ?_
  exact P_loc (by simp only [subL, List.head?_cons, List.tail_cons]; and_intros <;> first | rfl | trivial) (lp_mnarrow l hr hv hin 11 G5 0 (by omega) (by omega) (hk.fr hF1 (by decide)) (hF1.at hc (by decide)) ⟨_, _, kl1⟩ hF1)
set_option maxRecDepth 100000 in
theorem lp_spread (l : Launch) {G : PH} {o : MV} {f : Nat → Int32} {ρ : Riv} {h : Nat} {g : Nat → Int64} (hk : mst G o f ρ) (hc : G[h]? = some (aJ 24 g)) : ∀ (n : Nat) (i : Nat), rT ρ - (i + 1) < n → i + 1 ≤ rT ρ → WP mX10_spread l (rmM mX10_spread 0 0) (ZM 0 0 (fun w G' => w = some (.long (mxF g (rT ρ - 1) - mnF g (rT ρ - 1))) ∧ G' = G)) XT 0 0 12 [some (.ref 164), some (.ref h), some (.long (mnF g i)), none, some (.long (mxF g i)), none, some (.int (nI (i + 1)))] [] G := by
  intro n
  induction n with
  | zero => intro i hn hi; exact absurd hn (Nat.not_lt_zero _)
  | succ n ih =>
    intro i hn hi
    have hb := hk.2.2.2; have hT : rT ρ ≤ 24 := hb.2.1; have hT2 : 2 ≤ rT ρ := hb.1; have hN : rN ρ ≤ 6 := hb.2.2.2.2
    refine P_iload dX10_spread_12 rfl ?_
    refine P_aload_n dX10_spread_14 rfl ?_
    refine P_get dX10_spread_15 flX10_7 hk.1 rfl ?_
    refine P_iconst dX10_spread_18 ci_0 ?_
    refine P_iald dX10_spread_19 hk.2.1 (vp_in_nI (show 0 < 315 by decide) (by decide)) ?_
    rw [show f (Int32.toNatClampNeg 0) = nI (rT ρ) from hk.2.2.1.1]
    refine P_icmp_ge (tgt := 68) dX10_spread_20 (by decide) (fun c20 => ?_) (fun c20 => ?_)
    · have hi2 : i = rT ρ - 1 := by have := Nat.not_lt.mp fun q : i + 1 < rT ρ => nI_ge q (by omega) c20; omega
      subst hi2
      refine P_lload dX10_spread_68 rfl ?_
      refine P_lload_n dX10_spread_70 rfl ?_
      refine P_lsub dX10_spread_71 ?_
      exact P_lret dX10_spread_72 rfl ⟨Nat.le_refl _, Nat.le_refl _⟩ ⟨rfl, rfl⟩
    · have hlt : i + 1 < rT ρ := Nat.not_le.mp fun q => c20 (nI_le q (by omega))
      refine P_aload_n dX10_spread_23 rfl ?_
      refine P_iload dX10_spread_24 rfl ?_
      refine P_lald dX10_spread_26 hc (vp_in_nI (by omega) (by decide)) ?_
      rw [nI_clamp (by omega)]
      refine P_lload_n dX10_spread_27 rfl ?_
      refine P_lcmp dX10_spread_28 ?_
      refine P_if_ge (tgt := 39) dX10_spread_29 (by decide) (fun c29 => ?_) (fun c29 => ?_)
      · rw [lg_cmp_ge] at c29
        have e2 : mnF g (i + 1) = mnF g i := by show jmin _ _ = _; unfold jmin; rw [if_neg (Int64.not_lt.mpr c29)]
        refine P_lload_n dX10_spread_39 rfl ?_
        refine P_lstore_n (L' := [_, _, _, _, _, _, _]) dX10_spread_40 (Nat.le_of_ble_eq_true rfl) rfl ?_
        refine P_aload_n dX10_spread_41 rfl ?_
        refine P_iload dX10_spread_42 rfl ?_
        refine P_lald dX10_spread_44 hc (vp_in_nI (by omega) (by decide)) ?_
        rw [nI_clamp (by omega)]
        refine P_lload dX10_spread_45 rfl ?_
        refine P_lcmp dX10_spread_47 ?_
        refine P_if_le (tgt := 58) dX10_spread_48 (by decide) (fun c48 => ?_) (fun c48 => ?_)
        · rw [lg_cmp_le] at c48
          have e3 : mxF g (i + 1) = mxF g i := by show jmax _ _ = _; unfold jmax; rw [if_neg (Int64.not_lt.mpr c48)]
          refine P_lload dX10_spread_58 rfl ?_
          refine P_lstore (L' := [_, _, _, _, _, _, _]) dX10_spread_60 (Nat.le_of_ble_eq_true rfl) rfl ?_
          refine P_iinc (L' := [_, _, _, _, _, _, _]) dX10_spread_62 rfl (ii_1 _) (Nat.le_of_ble_eq_true rfl) rfl ?_
          rw [nI_1]
          refine P_goto (tgt := 12) dX10_spread_65 (by decide) ?_
          refine P_loc ?_ (ih (i + 1) (by omega) hlt)
          rw [e2, e3]
          simp only [subL, List.head?_cons, List.tail_cons]; and_intros <;> first | rfl | trivial
        · rw [lg_cmp_le] at c48
          have e3 : mxF g (i + 1) = g (i + 1) := by show jmax _ _ = _; unfold jmax; rw [if_pos (Int64.not_le.mp c48)]
          refine P_aload_n dX10_spread_51 rfl ?_
          refine P_iload dX10_spread_52 rfl ?_
          refine P_lald dX10_spread_54 hc (vp_in_nI (by omega) (by decide)) ?_
          rw [nI_clamp (by omega)]
          refine P_goto (tgt := 60) dX10_spread_55 (by decide) ?_
          refine P_lstore (L' := [_, _, _, _, _, _, _]) dX10_spread_60 (Nat.le_of_ble_eq_true rfl) rfl ?_
          refine P_iinc (L' := [_, _, _, _, _, _, _]) dX10_spread_62 rfl (ii_1 _) (Nat.le_of_ble_eq_true rfl) rfl ?_
          rw [nI_1]
          refine P_goto (tgt := 12) dX10_spread_65 (by decide) ?_
          refine P_loc ?_ (ih (i + 1) (by omega) hlt)
          rw [e2, e3]
          simp only [subL, List.head?_cons, List.tail_cons]; and_intros <;> first | rfl | trivial
      · rw [lg_cmp_ge] at c29
        have e2 : mnF g (i + 1) = g (i + 1) := by show jmin _ _ = _; unfold jmin; rw [if_pos (Int64.not_le.mp c29)]
        refine P_aload_n dX10_spread_32 rfl ?_
        refine P_iload dX10_spread_33 rfl ?_
        refine P_lald dX10_spread_35 hc (vp_in_nI (by omega) (by decide)) ?_
        rw [nI_clamp (by omega)]
        refine P_goto (tgt := 40) dX10_spread_36 (by decide) ?_
        refine P_lstore_n (L' := [_, _, _, _, _, _, _]) dX10_spread_40 (Nat.le_of_ble_eq_true rfl) rfl ?_
        refine P_aload_n dX10_spread_41 rfl ?_
        refine P_iload dX10_spread_42 rfl ?_
        refine P_lald dX10_spread_44 hc (vp_in_nI (by omega) (by decide)) ?_
        rw [nI_clamp (by omega)]
        refine P_lload dX10_spread_45 rfl ?_
        refine P_lcmp dX10_spread_47 ?_
        refine P_if_le (tgt := 58) dX10_spread_48 (by decide) (fun c48 => ?_) (fun c48 => ?_)
        · rw [lg_cmp_le] at c48
          have e3 : mxF g (i + 1) = mxF g i := by show jmax _ _ = _; unfold jmax; rw [if_neg (Int64.not_lt.mpr c48)]
          refine P_lload dX10_spread_58 rfl ?_
          refine P_lstore (L' := [_, _, _, _, _, _, _]) dX10_spread_60 (Nat.le_of_ble_eq_true rfl) rfl ?_
          refine P_iinc (L' := [_, _, _, _, _, _, _]) dX10_spread_62 rfl (ii_1 _) (Nat.le_of_ble_eq_true rfl) rfl ?_
          rw [nI_1]
          refine P_goto (tgt := 12) dX10_spread_65 (by decide) ?_
          refine P_loc ?_ (ih (i + 1) (by omega) hlt)
          rw [e2, e3]
          simp only [subL, List.head?_cons, List.tail_cons]; and_intros <;> first | rfl | trivial
        · rw [lg_cmp_le] at c48
          have e3 : mxF g (i + 1) = g (i + 1) := by show jmax _ _ = _; unfold jmax; rw [if_pos (Int64.not_le.mp c48)]
          refine P_aload_n dX10_spread_51 rfl ?_
          refine P_iload dX10_spread_52 rfl ?_
          refine P_lald dX10_spread_54 hc (vp_in_nI (by omega) (by decide)) ?_
          rw [nI_clamp (by omega)]
          refine P_goto (tgt := 60) dX10_spread_55 (by decide) ?_
          refine P_lstore (L' := [_, _, _, _, _, _, _]) dX10_spread_60 (Nat.le_of_ble_eq_true rfl) rfl ?_
          refine P_iinc (L' := [_, _, _, _, _, _, _]) dX10_spread_62 rfl (ii_1 _) (Nat.le_of_ble_eq_true rfl) rfl ?_
          rw [nI_1]
          refine P_goto (tgt := 12) dX10_spread_65 (by decide) ?_
          refine P_loc ?_ (ih (i + 1) (by omega) hlt)
          rw [e2, e3]
          simp only [subL, List.head?_cons, List.tail_cons]; and_intros <;> first | rfl | trivial
theorem m_spread (l : Launch) {G : PH} {o : MV} {f : Nat → Int32} {ρ : Riv} {h : Nat} {g : Nat → Int64} (hk : mst G o f ρ) (hc : G[h]? = some (aJ 24 g)) : Tri l mX10_spread 0 0 [.ref 164, .ref h] G (fun w G' => w = some (.long (mxF g (rT ρ - 1) - mnF g (rT ρ - 1))) ∧ G' = G) := by
  have hb := hk.2.2.2; have hT : rT ρ ≤ 24 := hb.2.1; have hT2 : 2 ≤ rT ρ := hb.1; have hN : rN ρ ≤ 6 := hb.2.2.2.2
  refine Tri.intro (L := [_, _, _, _, _, _, _]) okX10_spread.1 (Nat.le_of_ble_eq_true rfl) rfl ?_
  refine P_aload_n dX10_spread_0 rfl ?_
  refine P_iconst dX10_spread_1 ci_0 ?_
  refine P_lald dX10_spread_2 hc (vp_in_nI (show 0 < 24 by decide) (by decide)) ?_
  refine P_lstore_n (L' := [_, _, _, _, _, _, _]) dX10_spread_3 (Nat.le_of_ble_eq_true rfl) rfl ?_
  refine P_aload_n dX10_spread_4 rfl ?_
  refine P_iconst dX10_spread_5 ci_0 ?_
  refine P_lald dX10_spread_6 hc (vp_in_nI (show 0 < 24 by decide) (by decide)) ?_
  refine P_lstore (L' := [_, _, _, _, _, _, _]) dX10_spread_7 (Nat.le_of_ble_eq_true rfl) rfl ?_
  refine P_iconst dX10_spread_9 ci_1 ?_
  refine P_istore (L' := [_, _, _, _, _, _, _]) dX10_spread_10 (Nat.le_of_ble_eq_true rfl) rfl ?_
  exact P_loc (by simp only [subL, List.head?_cons, List.tail_cons]; and_intros <;> first | rfl | trivial) (lp_spread l hk hc (rT ρ + 1) 0 (by omega) (by omega))
theorem ln_hi {v : Int64} (h : 20 < v) : (jmin 20 v).toInt32 = 20 := by
  unfold jmin
  rw [if_neg (fun z => Int64.lt_irrefl (Int64.lt_trans h z))]
  rfl
theorem ln_lo {v : Int64} (h : v ≤ 20) : (jmin 20 v).toInt32 = v.toInt32 := by
  unfold jmin
  by_cases z : v < 20
  · rw [if_pos z]
  · rw [if_neg z, Int64.le_antisymm h (Int64.not_lt.mp z)]
set_option maxHeartbeats 4000000 in
set_option maxRecDepth 100000 in
theorem m_lean (l : Launch) {G : PH} {o : MV} {f : Nat → Int32} {ρ : Riv} {r : Nat} {fi gs gf : Nat → Int64} (hk : mst G o f ρ) (hc : G[173]? = some (aJ 144 fi)) (kl : ml2 G gs gf) (hr : r < rN ρ) (hv : rVal ρ) (hin : ∀ j, j < rT ρ → fi (24 * r + j) = INN ρ r j) (hf : fitB ρ r (rT ρ) = true) : Tri l mX10_lean 0 0 [.ref 164, .int (nI r)] G (fun w G' => w = some (.int (lnS ρ r (nI (nwS ρ r 10).1))) ∧ (∃ gs gf, ml2 G' gs gf) ∧ Fr G G' 178 2) := by
  have hb := hk.2.2.2; have hT : rT ρ ≤ 24 := hb.2.1; have hT2 : 2 ≤ rT ρ := hb.1; have hN : rN ρ ≤ 6 := hb.2.2.2.2
  have hw := nwS_le ρ r 10
  refine Tri.intro (L := [_, _, _, _, _, _]) okX10_lean.1 (Nat.le_of_ble_eq_true rfl) rfl ?_
  refine P_aload_n dX10_lean_0 rfl ?_
  refine P_iload_n dX10_lean_1 rfl ?_
  refine P_aload_n dX10_lean_2 rfl ?_
  refine P_iload_n dX10_lean_3 rfl ?_
  refine P_callV dX10_lean_4 lkX10_118 okX10_narrowest ⟨Nat.le_of_ble_eq_true rfl, Nat.le_of_ble_eq_true rfl⟩ (m_narrowest l hk hc kl hr hv hin) rfl rfl hk.1 (Nat.le_of_ble_eq_true rfl) ⟨Nat.le_of_ble_eq_true rfl, Nat.le_of_ble_eq_true rfl⟩ (fun v4 G4 q4 => ?_)
  obtain ⟨rfl, ⟨gs1, gf1, kl1⟩, hF1⟩ := q4
  have hk1 := hk.fr hF1 (by decide); have hc1 := hF1.at hc (by decide)
  refine P_callV dX10_lean_7 lkX10_114 okX10_loop ⟨Nat.le_of_ble_eq_true rfl, Nat.le_of_ble_eq_true rfl⟩ (m_loop l hk1 hc1 kl1 hr hw hv hin) rfl rfl hk1.1 (Nat.le_of_ble_eq_true rfl) ⟨Nat.le_of_ble_eq_true rfl, Nat.le_of_ble_eq_true rfl⟩ (fun v7 G7 q7 => ?_)
  obtain ⟨rfl, ⟨gs2, gf2, kl2, hg2⟩, hF2⟩ := q7
  have hk2 := hk1.fr hF2 (by decide)
  have eF : mxF gf2 (rT ρ - 1) - mnF gf2 (rT ρ - 1) = fwS ρ r (nI (nwS ρ r 10).1) := by unfold fwS; rw [mxF_cong (fun j hj => (hg2 j (by omega)).2), mnF_cong (fun j hj => (hg2 j (by omega)).2)]
  have eS : mxF gs2 (rT ρ - 1) - mnF gs2 (rT ρ - 1) = swS ρ r := by unfold swS; rw [mxF_cong (fun j hj => (hg2 j (by omega)).1), mnF_cong (fun j hj => (hg2 j (by omega)).1)]
  refine P_pop2 dX10_lean_10 rfl ?_
  refine P_aload_n dX10_lean_11 rfl ?_
  refine P_aload_n dX10_lean_12 rfl ?_
  refine P_get dX10_lean_13 flX10_58 hk2.1 rfl ?_
  refine P_callVp dX10_lean_16 lkX10_122 okX10_spread ⟨Nat.le_of_ble_eq_true rfl, Nat.le_of_ble_eq_true rfl⟩ (m_spread l hk2 kl2.2) rfl rfl hk2.1 (Nat.le_of_ble_eq_true rfl) ⟨Nat.le_of_ble_eq_true rfl, Nat.le_of_ble_eq_true rfl⟩ ?_
  rw [eF]
  refine P_lstore_n (L' := [_, _, _, _, _, _]) dX10_lean_19 (Nat.le_of_ble_eq_true rfl) rfl ?_
  refine P_lload_n dX10_lean_20 rfl ?_
  refine P_lconst dX10_lean_21 lc_0 ?_
  refine P_lcmp dX10_lean_22 ?_
  refine P_if_ne (tgt := 30) dX10_lean_23 (by decide) (fun c23 => ?_) (fun c23 => ?_)
  · have c23 : ¬ fwS ρ r (nI (nwS ρ r 10).1) = 0 := fun z => c23 ((lg_cmp_eq _ _).mpr z)
    have hp := fw_nn hv hb hr hw hf c23
    refine P_ldc2 dX10_lean_30 kcX10_126 ?_
    refine P_aload_n dX10_lean_33 rfl ?_
    refine P_aload_n dX10_lean_34 rfl ?_
    refine P_get dX10_lean_35 flX10_55 hk2.1 rfl ?_
    refine P_callVp dX10_lean_38 lkX10_122 okX10_spread ⟨Nat.le_of_ble_eq_true rfl, Nat.le_of_ble_eq_true rfl⟩ (m_spread l hk2 kl2.1) rfl rfl hk2.1 (Nat.le_of_ble_eq_true rfl) ⟨Nat.le_of_ble_eq_true rfl, Nat.le_of_ble_eq_true rfl⟩ ?_
    rw [eS]
    refine P_lmul dX10_lean_41 ?_
    refine P_lload_n dX10_lean_42 rfl ?_
    refine P_ldiv dX10_lean_43 c23 ?_
    refine P_lstore (L' := [_, _, _, _, _, _]) dX10_lean_44 (Nat.le_of_ble_eq_true rfl) rfl ?_
    refine P_lload dX10_lean_46 rfl ?_
    refine P_ldc2 dX10_lean_48 kcX10_128 ?_
    refine P_lcmp dX10_lean_51 ?_
    refine P_if_le (tgt := 60) dX10_lean_52 (by decide) (fun c52 => ?_) (fun c52 => ?_)
    · rw [lg_cmp_le] at c52
      refine P_lload dX10_lean_60 rfl ?_
      refine P_l2i dX10_lean_62 ?_
      exact P_iret dX10_lean_63 rfl ⟨Nat.le_refl _, Nat.le_refl _⟩ ⟨by unfold lnS; first | (rw [if_pos hp, ln_hi (Int64.not_le.mp c52)]; done) | (rw [if_pos hp, ln_lo c52]; done) | (rw [if_neg hp]; rfl) | exact absurd (show (0 : Int64) ≤ 20 by decide) c52, ⟨_, _, kl2⟩, hF1.tr hF2⟩
    · rw [lg_cmp_le] at c52
      refine P_bipush dX10_lean_55 bp_20 ?_
      refine P_goto (tgt := 63) dX10_lean_57 (by decide) ?_
      exact P_iret dX10_lean_63 rfl ⟨Nat.le_refl _, Nat.le_refl _⟩ ⟨by unfold lnS; first | (rw [if_pos hp, ln_hi (Int64.not_le.mp c52)]; done) | (rw [if_pos hp, ln_lo c52]; done) | (rw [if_neg hp]; rfl) | exact absurd (show (0 : Int64) ≤ 20 by decide) c52, ⟨_, _, kl2⟩, hF1.tr hF2⟩
  · rw [lg_cmp_eq] at c23
    have hp : ¬ 0 < fwS ρ r (nI (nwS ρ r 10).1) := by rw [c23]; decide
    refine P_lconst dX10_lean_26 lc_0 ?_
    refine P_goto (tgt := 44) dX10_lean_27 (by decide) ?_
    refine P_lstore (L' := [_, _, _, _, _, _]) dX10_lean_44 (Nat.le_of_ble_eq_true rfl) rfl ?_
    refine P_lload dX10_lean_46 rfl ?_
    refine P_ldc2 dX10_lean_48 kcX10_128 ?_
    refine P_lcmp dX10_lean_51 ?_
    refine P_if_le (tgt := 60) dX10_lean_52 (by decide) (fun c52 => ?_) (fun c52 => ?_)
    · rw [lg_cmp_le] at c52
      refine P_lload dX10_lean_60 rfl ?_
      refine P_l2i dX10_lean_62 ?_
      exact P_iret dX10_lean_63 rfl ⟨Nat.le_refl _, Nat.le_refl _⟩ ⟨by unfold lnS; first | (rw [if_pos hp, ln_hi (Int64.not_le.mp c52)]; done) | (rw [if_pos hp, ln_lo c52]; done) | (rw [if_neg hp]; rfl) | exact absurd (show (0 : Int64) ≤ 20 by decide) c52, ⟨_, _, kl2⟩, hF1.tr hF2⟩
    · rw [lg_cmp_le] at c52
      refine P_bipush dX10_lean_55 bp_20 ?_
      refine P_goto (tgt := 63) dX10_lean_57 (by decide) ?_
      exact P_iret dX10_lean_63 rfl ⟨Nat.le_refl _, Nat.le_refl _⟩ ⟨by unfold lnS; first | (rw [if_pos hp, ln_hi (Int64.not_le.mp c52)]; done) | (rw [if_pos hp, ln_lo c52]; done) | (rw [if_neg hp]; rfl) | exact absurd (show (0 : Int64) ≤ 20 by decide) c52, ⟨_, _, kl2⟩, hF1.tr hF2⟩
theorem mx_fr {G G' : PH} {o : MV} {f : Nat → Int32} {ρ : Riv} (k : mst G o f ρ) (h : Fr G G' 173 5) : mst G' o f ρ := k.fr h (by decide)
set_option maxRecDepth 100000 in
theorem lp_mdiff (l : Launch) {G0 G : PH} {o : MV} {f : Nat → Int32} {ρ : Riv} {r k x : Nat} {fi fo fs fa fb : Nat → Int64} (hk : mst G o f ρ) (km : mfl G fi fo fs fa fb) (hr : r < rN ρ) (hg : ∀ j, j < rT ρ → fo (24 * r + j) = flP (nI (rD ρ)) (nI k) (nI x) (rP ρ r) (INN ρ r) j) (hF : Fr G0 G 173 5) : ∀ (n : Nat) (t : Nat), rT ρ - t < n → t ≤ rT ρ → WP mX10_difference l (rmM mX10_difference 0 0) (ZM 0 0 (fun w G' => w = some (.long (DF ρ r (nI k) (nI x))) ∧ (∃ fo fs fa fb, mfl G' fi fo fs fa fb) ∧ Fr G0 G' 173 5)) XT 0 0 13 [some (.ref 164), some (.int (nI r)), some (.int (nI k)), some (.int (nI x)), some (.long (dfS ρ r (nI k) (nI x) t)), none, some (.int (nI t)), none, none] [] G := by
  intro n
  induction n with
  | zero => intro t hn ht; exact absurd hn (Nat.not_lt_zero _)
  | succ n ih =>
    intro t hn ht
    have hb := hk.2.2.2; have hT : rT ρ ≤ 24 := hb.2.1; have hT2 : 2 ≤ rT ρ := hb.1; have hN : rN ρ ≤ 6 := hb.2.2.2.2
    refine P_iload dX10_difference_13 rfl ?_
    refine P_aload_n dX10_difference_15 rfl ?_
    refine P_get dX10_difference_16 flX10_7 hk.1 rfl ?_
    refine P_iconst dX10_difference_19 ci_0 ?_
    refine P_iald dX10_difference_20 hk.2.1 (vp_in_nI (show 0 < 315 by decide) (by decide)) ?_
    rw [show f (Int32.toNatClampNeg 0) = nI (rT ρ) from hk.2.2.1.1]
    refine P_icmp_ge (tgt := 76) dX10_difference_21 (by decide) (fun c21 => ?_) (fun c21 => ?_)
    · have hi2 : t = rT ρ := Nat.le_antisymm ht (Nat.not_lt.mp fun q => nI_ge q (by omega) c21)
      subst hi2
      refine P_lload dX10_difference_76 rfl ?_
      exact P_lret dX10_difference_78 rfl ⟨Nat.le_refl _, Nat.le_refl _⟩ ⟨rfl, ⟨_, _, _, _, km⟩, hF⟩
    · have hlt : t < rT ρ := Nat.not_le.mp fun q => c21 (nI_le q (by omega))
      refine P_aload_n dX10_difference_24 rfl ?_
      refine P_get dX10_difference_25 flX10_43 hk.1 rfl ?_
      refine P_bipush dX10_difference_28 bp_24 ?_
      refine P_iload_n dX10_difference_30 rfl ?_
      refine P_imul dX10_difference_31 ?_
      refine P_iload dX10_difference_32 rfl ?_
      refine P_iadd dX10_difference_34 ?_
      rw [ix24]
      refine P_lald dX10_difference_35 km.2.1 (vp_in_nI (by omega) (by decide)) ?_
      rw [nI_clamp (by omega)]; rw [hg t hlt]
      refine P_aload_n dX10_difference_36 rfl ?_
      refine P_iload_n dX10_difference_37 rfl ?_
      refine P_bipush dX10_difference_38 bp_28 ?_
      refine P_iload dX10_difference_40 rfl ?_
      refine P_iadd dX10_difference_42 ?_
      rw [ix28]
      refine P_callVp dX10_difference_43 lkX10_95 okX10_of ⟨Nat.le_of_ble_eq_true rfl, Nat.le_of_ble_eq_true rfl⟩ (m_of l hk.1 hk.2.1 (by omega)) rfl rfl hk.1 (Nat.le_of_ble_eq_true rfl) ⟨Nat.le_of_ble_eq_true rfl, Nat.le_of_ble_eq_true rfl⟩ ?_
      rw [((hk.2.2.1.2.2.2 r hr).2 t (by omega)).2]
      refine P_i2l dX10_difference_46 ?_
      refine P_lsub dX10_difference_47 ?_
      refine P_lstore (L' := [_, _, _, _, _, _, _, _, _]) dX10_difference_48 (Nat.le_of_ble_eq_true rfl) rfl ?_
      refine P_lload dX10_difference_50 rfl ?_
      refine P_lload dX10_difference_52 rfl ?_
      refine P_lconst dX10_difference_54 lc_0 ?_
      refine P_lcmp dX10_difference_55 ?_
      refine P_if_ge (tgt := 65) dX10_difference_56 (by decide) (fun c56 => ?_) (fun c56 => ?_)
      · rw [lg_cmp_ge] at c56
        have ej : dfS ρ r (nI k) (nI x) (t + 1) = dfS ρ r (nI k) (nI x) t + (flP (nI (rD ρ)) (nI k) (nI x) (rP ρ r) (INN ρ r) t - (rE ρ r t).toInt64) := congrArg (fun z => dfS ρ r (nI k) (nI x) t + z) (if_neg (Int64.not_lt.mpr c56))
        refine P_lload dX10_difference_65 rfl ?_
        refine P_ladd dX10_difference_67 ?_
        refine P_lstore (L' := [_, _, _, _, _, _, _, _, _]) dX10_difference_68 (Nat.le_of_ble_eq_true rfl) rfl ?_
        refine P_iinc (L' := [_, _, _, _, _, _, _, _, _]) dX10_difference_70 rfl (ii_1 _) (Nat.le_of_ble_eq_true rfl) rfl ?_
        rw [nI_1]
        refine P_goto (tgt := 13) dX10_difference_73 (by decide) ?_
        refine P_loc ?_ (ih (t + 1) (by omega) hlt)
        rw [ej]
        simp only [subL, List.head?_cons, List.tail_cons]; and_intros <;> first | rfl | trivial
      · rw [lg_cmp_ge] at c56
        have ej : dfS ρ r (nI k) (nI x) (t + 1) = dfS ρ r (nI k) (nI x) t + -(flP (nI (rD ρ)) (nI k) (nI x) (rP ρ r) (INN ρ r) t - (rE ρ r t).toInt64) := congrArg (fun z => dfS ρ r (nI k) (nI x) t + z) (if_pos (Int64.not_le.mp c56))
        refine P_lload dX10_difference_59 rfl ?_
        refine P_lneg dX10_difference_61 ?_
        refine P_goto (tgt := 67) dX10_difference_62 (by decide) ?_
        refine P_ladd dX10_difference_67 ?_
        refine P_lstore (L' := [_, _, _, _, _, _, _, _, _]) dX10_difference_68 (Nat.le_of_ble_eq_true rfl) rfl ?_
        refine P_iinc (L' := [_, _, _, _, _, _, _, _, _]) dX10_difference_70 rfl (ii_1 _) (Nat.le_of_ble_eq_true rfl) rfl ?_
        rw [nI_1]
        refine P_goto (tgt := 13) dX10_difference_73 (by decide) ?_
        refine P_loc ?_ (ih (t + 1) (by omega) hlt)
        rw [ej]
        simp only [subL, List.head?_cons, List.tail_cons]; and_intros <;> first | rfl | trivial
theorem m_difference (l : Launch) {G : PH} {o : MV} {f : Nat → Int32} {ρ : Riv} {r k x : Nat} {fi fo fs fa fb : Nat → Int64} (hk : mst G o f ρ) (km : mfl G fi fo fs fa fb) (hr : r < rN ρ) (hk2 : k ≤ 20) (hx2 : x ≤ 10) (hv : rVal ρ) (hin : ∀ j, j < rT ρ → fi (24 * r + j) = INN ρ r j) : Tri l mX10_difference 0 0 [.ref 164, .int (nI r), .int (nI k), .int (nI x)] G (fun w G' => w = some (.long (DF ρ r (nI k) (nI x))) ∧ (∃ fo fs fa fb, mfl G' fi fo fs fa fb) ∧ Fr G G' 173 5) := by
  obtain ⟨q, hq1, hq4, eq⟩ := (hv r hr).2.2.2.1
  have hrP : rP ρ r = q := by show (rF ρ r 3).toNatClampNeg = q; rw [eq, nI_clamp (by omega)]
  refine Tri.intro (L := [_, _, _, _, _, _, _, _, _]) okX10_difference.1 (Nat.le_of_ble_eq_true rfl) rfl ?_
  refine P_aload_n dX10_difference_0 rfl ?_
  refine P_iload_n dX10_difference_1 rfl ?_
  refine P_iload_n dX10_difference_2 rfl ?_
  refine P_iload_n dX10_difference_3 rfl ?_
  refine P_callV dX10_difference_4 lkX10_102 okX10_flowsThrough ⟨Nat.le_of_ble_eq_true rfl, Nat.le_of_ble_eq_true rfl⟩ (m_flowsThrough l hk km hr hk2 hx2 hq4 eq) rfl rfl hk.1 (Nat.le_of_ble_eq_true rfl) ⟨Nat.le_of_ble_eq_true rfl, Nat.le_of_ble_eq_true rfl⟩ (fun v4 G4 q4 => ?_)
  obtain ⟨rfl, ⟨fo1, fs1, fa1, fb1, km1, hg1, -⟩, hF1⟩ := q4
  refine P_lconst dX10_difference_7 lc_0 ?_
  refine P_lstore (L' := [_, _, _, _, _, _, _, _, _]) dX10_difference_8 (Nat.le_of_ble_eq_true rfl) rfl ?_
  refine P_iconst dX10_difference_10 ci_0 ?_
  refine P_istore (L' := [_, _, _, _, _, _, _, _, _]) dX10_difference_11 (Nat.le_of_ble_eq_true rfl) rfl ?_
  exact P_loc (by simp only [subL, List.head?_cons, List.tail_cons]; and_intros <;> first | rfl | trivial) (lp_mdiff l (hk.fr hF1 (by decide)) km1 hr (fun j hj => by rw [(hg1 j hj).1, hrP]; exact flP_cong q (fun i hi => hin i (by omega))) hF1 (rT ρ + 1) 0 (by omega) (by omega))
