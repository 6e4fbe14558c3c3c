theorem rc_all {n : Nat} {tx : Nat → Int32} {p : Nat} {ρ : Riv} {q : Nat} (h : clS n tx (st2 (rcQ n tx p ρ)) = .inr q) : (∃ qb, rcB n tx p ρ = .inr (v2 (rcB n tx p ρ), qb)) ∧ (∃ sk qk, rcK n tx p ρ = .inr (v3 (rcK n tx p ρ), sk, qk)) ∧ (∃ sx qx, rcX n tx p ρ = .inr (v3 (rcX n tx p ρ), sx, qx)) ∧ ∃ qq, rcQ n tx p ρ = .inr (v2 (rcQ n tx p ρ), qq) := by
  obtain ⟨p9, hp9, -, -⟩ := clS_r h
  have h1 := st2_r hp9
  obtain ⟨s1, h2, -⟩ := prS_r h1
  obtain ⟨p2, h3, -⟩ := numS_r h2
  obtain ⟨s3, h4⟩ := st3_r h3
  obtain ⟨p4, h5, -⟩ := numS_r (show numS n tx 0 10 (st3 (rcK n tx p ρ)) = _ from h4)
  obtain ⟨s5, h6⟩ := st3_r h5
  obtain ⟨p6, h7, -⟩ := numS_r (show numS n tx 0 20 (st2 (rcB n tx p ρ)) = _ from h6)
  exact ⟨⟨_, st2_r h7⟩, ⟨_, _, h6⟩, ⟨_, _, h4⟩, ⟨_, h1⟩⟩
set_option maxHeartbeats 4000000 in
set_option maxRecDepth 100000 in
theorem t_readReach (l : Launch) {G : PH} {h hr n p : Nat} {tx : Nat → Int32} {ρ : Riv} {tt td : Bool} (hS : tS G h n tx (.inr p) (b2 tt) (b2 td)) (hR : isRiver G hr ρ) (hd : hr + 7 ≤ h ∨ h + 2 ≤ hr) (hp : p < n) : Tri l mX8_readReach 0 0 [.ref h, .ref hr] G (fun w G' => w = none ∧ cPost G G' h hr n tx (clR n tx p ρ tt td)) := by
  have k := txt_of hS
  refine Tri.intro (L := [_, _, _, _, _, _]) okX8_readReach.1 (Nat.le_of_ble_eq_true rfl) rfl ?_
  refine P_aload_n dX8_readReach_0 rfl ?_
  refine P_callVp dX8_readReach_1 lkX8_92 okX6_hasRoomForReach ⟨Nat.le_of_ble_eq_true rfl, Nat.le_of_ble_eq_true rfl⟩ (t_hasRoom l hR) rfl rfl hR.at (Nat.le_of_ble_eq_true rfl) ⟨Nat.le_of_ble_eq_true rfl, Nat.le_of_ble_eq_true rfl⟩ ?_
  refine P_if_ne (tgt := 17) dX8_readReach_4 (by decide) (fun c4 => ?_) (fun c4 => ?_)
  · have h6 : rN ρ < 6 := Classical.not_not.mp (fun z => c4 ((b2p _).mpr z))
    refine P_aload_n dX8_readReach_17 rfl ?_
    refine P_dup dX8_readReach_18 rfl ?_
    refine P_get dX8_readReach_19 flX8_19 k.1 rfl ?_
    refine P_iconst dX8_readReach_22 ci_1 ?_
    refine P_iadd dX8_readReach_23 ?_
    rw [nI_1]
    refine P_putI dX8_readReach_24 flX8_19 k.1 (Nat.le_of_ble_eq_true rfl) ?_
    have hs := k.set (p' := p + 1) (fn' := 0) (fp' := -1) (tt' := b2 tt) (td' := b2 td) hp
    have hR1 := hR.fr hs.2 (by omega)
    refine P_aload_n dX8_readReach_27 rfl ?_
    refine P_aload_n dX8_readReach_28 rfl ?_
    refine P_callV dX8_readReach_29 lkX8_95 okX8_readBelow ⟨Nat.le_of_ble_eq_true rfl, Nat.le_of_ble_eq_true rfl⟩ (t_below l (tS_of hs.1) hR1 hd) rfl rfl hs.1.1 (Nat.le_of_ble_eq_true rfl) ⟨Nat.le_of_ble_eq_true rfl, Nat.le_of_ble_eq_true rfl⟩ (fun v29 G29 q29 => ?_)
    obtain ⟨⟨x1, rfl, hx1⟩, hS1, hF1⟩ := q29
    have hw1 := hS1.at
    have hs1 : tS G29 h n tx (st2 (rcB n tx p ρ)) (b2 tt) (b2 td) := hS1
    refine P_istore_n (L' := [_, _, _, _, _, _]) dX8_readReach_32 (Nat.le_of_ble_eq_true rfl) rfl ?_
    refine P_aload_n dX8_readReach_33 rfl ?_
    refine P_iconst dX8_readReach_34 ci_0 ?_
    refine P_bipush dX8_readReach_35 bp_20 ?_
    refine P_callV dX8_readReach_37 lkX8_75 okX8_readNumber ⟨Nat.le_of_ble_eq_true rfl, Nat.le_of_ble_eq_true rfl⟩ (t_num l hs1) rfl rfl hw1.choose_spec (Nat.le_of_ble_eq_true rfl) ⟨Nat.le_of_ble_eq_true rfl, Nat.le_of_ble_eq_true rfl⟩ (fun v37 G37 q37 => ?_)
    obtain ⟨⟨x2, rfl, hx2⟩, hS2, hF2⟩ := q37
    have hw2 := hS2.at
    have hs2 : tS G37 h n tx (st3 (rcK n tx p ρ)) (b2 tt) (b2 td) := hS2
    refine P_istore_n (L' := [_, _, _, _, _, _]) dX8_readReach_40 (Nat.le_of_ble_eq_true rfl) rfl ?_
    refine P_aload_n dX8_readReach_41 rfl ?_
    refine P_iconst dX8_readReach_42 ci_0 ?_
    refine P_bipush dX8_readReach_43 bp_10 ?_
    refine P_callV dX8_readReach_45 lkX8_75 okX8_readNumber ⟨Nat.le_of_ble_eq_true rfl, Nat.le_of_ble_eq_true rfl⟩ (t_num l hs2) rfl rfl hw2.choose_spec (Nat.le_of_ble_eq_true rfl) ⟨Nat.le_of_ble_eq_true rfl, Nat.le_of_ble_eq_true rfl⟩ (fun v45 G45 q45 => ?_)
    obtain ⟨⟨x3, rfl, hx3⟩, hS3, hF3⟩ := q45
    have hw3 := hS3.at
    have hs3 : tS G45 h n tx (st3 (rcX n tx p ρ)) (b2 tt) (b2 td) := hS3
    have hF13 := hs.2.tr (hF1.tr (hF2.tr hF3))
    have hR3 := hR.fr hF13 (by omega)
    refine P_istore (L' := [_, _, _, _, _, _]) dX8_readReach_48 (Nat.le_of_ble_eq_true rfl) rfl ?_
    refine P_aload_n dX8_readReach_50 rfl ?_
    refine P_aload_n dX8_readReach_51 rfl ?_
    refine P_callVp dX8_readReach_52 lkX8_99 okX6_roomForParts ⟨Nat.le_of_ble_eq_true rfl, Nat.le_of_ble_eq_true rfl⟩ (t_roomParts l hR3) rfl rfl hR3.at (Nat.le_of_ble_eq_true rfl) ⟨Nat.le_of_ble_eq_true rfl, Nat.le_of_ble_eq_true rfl⟩ ?_
    refine P_callV dX8_readReach_55 lkX8_102 okX8_readParts ⟨Nat.le_of_ble_eq_true rfl, Nat.le_of_ble_eq_true rfl⟩ (t_parts l hs3) rfl rfl hw3.choose_spec (Nat.le_of_ble_eq_true rfl) ⟨Nat.le_of_ble_eq_true rfl, Nat.le_of_ble_eq_true rfl⟩ (fun v55 G55 q55 => ?_)
    obtain ⟨⟨x4, rfl, hx4⟩, hS4, hF4⟩ := q55
    have hw4 := hS4.at
    have hs4 : tS G55 h n tx (st2 (rcQ n tx p ρ)) (b2 tt) (b2 td) := hS4
    refine P_istore (L' := [_, _, _, _, _, _]) dX8_readReach_58 (Nat.le_of_ble_eq_true rfl) rfl ?_
    refine P_aload_n dX8_readReach_60 rfl ?_
    refine P_callV dX8_readReach_61 lkX8_79 okX8_closeClause ⟨Nat.le_of_ble_eq_true rfl, Nat.le_of_ble_eq_true rfl⟩ (t_close l hs4) rfl rfl hw4.choose_spec (Nat.le_of_ble_eq_true rfl) ⟨Nat.le_of_ble_eq_true rfl, Nat.le_of_ble_eq_true rfl⟩ (fun v61 G61 q61 => ?_)
    obtain ⟨rfl, hS5, hF5⟩ := q61
    have hw5 := hS5.at
    have hF15 := hF13.tr (hF4.tr hF5)
    have hR5 := hR.fr hF15 (by omega)
    have hcl : clR n tx p ρ tt td = match clS n tx (st2 (rcQ n tx p ρ)) with | .inl e => .inl e | .inr q => .inr (q, rvA ρ (v2 (rcB n tx p ρ)) (v3 (rcK n tx p ρ)) (v3 (rcX n tx p ρ)) (v2 (rcQ n tx p ρ)), tt, td) := if_neg (fun z => z h6)
    refine P_aload_n dX8_readReach_64 rfl ?_
    refine P_callVp dX8_readReach_65 lkX8_40 okX8_isSound ⟨Nat.le_of_ble_eq_true rfl, Nat.le_of_ble_eq_true rfl⟩ (t_sound l hS5) rfl rfl hw5.choose_spec (Nat.le_of_ble_eq_true rfl) ⟨Nat.le_of_ble_eq_true rfl, Nat.le_of_ble_eq_true rfl⟩ ?_
    refine P_if_eq (tgt := 81) dX8_readReach_68 (by decide) (fun c68 => ?_) (fun c68 => ?_)
    · obtain ⟨e9, he9⟩ := left_of c68
      exact P_vret dX8_readReach_81 rfl ⟨Nat.le_refl _, Nat.le_refl _⟩ (by first | exact ⟨rfl, ⟨(by rw [hcl, he9]; exact ⟨⟨_, _, by rw [← he9]; exact hS5⟩, ρ, hR5⟩), hF15.l2⟩⟩ | exact ⟨rfl, ⟨(by rw [hcl, hq9]; exact ⟨by rw [← hq9]; exact hS5.fr hF6 (by omega), hR6⟩), hF15.l2.tr hF6.r2⟩⟩)
    · obtain ⟨q9, hq9⟩ := right_of c68
      obtain ⟨⟨b1, b2⟩, ⟨b3, b4, b5⟩, ⟨b6, b7, b8⟩, ⟨b9, b10⟩⟩ := rc_all hq9
      have ex1 := hx1 _ _ b2; have ex2 := hx2 _ _ _ b5; have ex3 := hx3 _ _ _ b8; have ex4 := hx4 _ _ b10
      subst ex1; subst ex2; subst ex3; subst ex4
      refine P_aload_n dX8_readReach_71 rfl ?_
      refine P_iload_n dX8_readReach_72 rfl ?_
      refine P_iload_n dX8_readReach_73 rfl ?_
      refine P_iload dX8_readReach_74 rfl ?_
      refine P_iload dX8_readReach_76 rfl ?_
      refine P_callV dX8_readReach_78 lkX8_106 okX6_addReach ⟨Nat.le_of_ble_eq_true rfl, Nat.le_of_ble_eq_true rfl⟩ (t_addR l hR5 h6) rfl rfl hR5.at (Nat.le_of_ble_eq_true rfl) ⟨Nat.le_of_ble_eq_true rfl, Nat.le_of_ble_eq_true rfl⟩ (fun v78 G78 q78 => ?_)
      obtain ⟨rfl, hR6, hF6⟩ := q78
      exact P_vret dX8_readReach_81 rfl ⟨Nat.le_refl _, Nat.le_refl _⟩ (by first | exact ⟨rfl, ⟨(by rw [hcl, he9]; exact ⟨⟨_, _, by rw [← he9]; exact hS5⟩, ρ, hR5⟩), hF15.l2⟩⟩ | exact ⟨rfl, ⟨(by rw [hcl, hq9]; exact ⟨by rw [← hq9]; exact hS5.fr hF6 (by omega), hR6⟩), hF15.l2.tr hF6.r2⟩⟩)
  · have h6 : ¬ rN ρ < 6 := (b2p _).mp c4
    have hcl : clR n tx p ρ tt td = .inl (4, p) := if_pos h6
    refine P_aload_n dX8_readReach_7 rfl ?_
    refine P_iconst dX8_readReach_8 ci_4 ?_
    refine P_aload_n dX8_readReach_9 rfl ?_
    refine P_get dX8_readReach_10 flX8_19 k.1 rfl ?_
    refine P_callV dX8_readReach_13 lkX8_67 okX8_fail ⟨Nat.le_of_ble_eq_true rfl, Nat.le_of_ble_eq_true rfl⟩ (t_fail l k) rfl rfl k.1 (Nat.le_of_ble_eq_true rfl) ⟨Nat.le_of_ble_eq_true rfl, Nat.le_of_ble_eq_true rfl⟩ (fun v13 G13 q13 => ?_)
    obtain ⟨rfl, k2, hF2⟩ := q13
    rw [if_pos rfl, if_pos rfl] at k2
    exact P_vret dX8_readReach_16 rfl ⟨Nat.le_refl _, Nat.le_refl _⟩ ⟨rfl, ⟨(by rw [hcl]; exact ⟨⟨_, _, tS_bad (f := 4) k2 (by decide) (by decide)⟩, ρ, hR.fr hF2 (by omega)⟩), hF2.l2⟩⟩
set_option maxRecDepth 100000 in
theorem sd_tail (l : Launch) {G0 G : PH} {h hr n : Nat} {tx : Nat → Int32} {F : PS × Riv} {σ : PS} {ρ1 : Riv} {tt td : Bool} {a b : Option Value} (hd : hr + 7 ≤ h ∨ h + 2 ≤ hr) (hS : tS G h n tx σ (b2 tt) (b2 td)) (hR : isRiver G hr ρ1) (hFe : F.1 = σ) (hρ : ∀ q, σ = .inr q → ρ1 = F.2) (hF : Fr2 G0 G h 1 hr 7) :
    WP mX8_readSides l (rmM mX8_readSides 0 0) (ZM 0 0 (fun w G' => w = none ∧ cPost G0 G' h hr n tx (match clS n tx F.1 with | .inl e => .inl e | .inr q => .inr (q, F.2, tt, td)))) XT 0 0 98 [some (.ref h), some (.ref hr), a, b] [] G := by
  have hw := hS.at
  refine P_aload_n dX8_readSides_98 rfl ?_
  refine P_callV dX8_readSides_99 lkX8_79 okX8_closeClause ⟨Nat.le_of_ble_eq_true rfl, Nat.le_of_ble_eq_true rfl⟩ (t_close l hS) rfl rfl hw.choose_spec (Nat.le_of_ble_eq_true rfl) ⟨Nat.le_of_ble_eq_true rfl, Nat.le_of_ble_eq_true rfl⟩ (fun v99 G99 q99 => ?_)
  obtain ⟨rfl, hS5, hF5⟩ := q99
  have hR5 := hR.fr hF5 (by omega)
  exact P_vret dX8_readSides_102 rfl ⟨Nat.le_refl _, Nat.le_refl _⟩ ⟨rfl, (by rw [hFe]; cases hc : clS n tx σ with | inl e => exact ⟨⟨_, _, by rw [← hc]; exact hS5⟩, _, hR5⟩ | inr q => obtain ⟨p9, hp9, -, -⟩ := clS_r hc; rw [hρ p9 hp9] at hR5; exact ⟨by rw [← hc]; exact hS5, hR5⟩), hF.tr hF5.l2⟩
def sdIH (l : Launch) (G0 : PH) (h hr n : Nat) (tx : Nat → Int32) (F : PS × Riv) (tt td : Bool) (r m : Nat) : Prop := ∀ (G : PH) (t : Nat) (σ : PS) (ρ' ρ1 : Riv) (x : Int32), 25 - t < m → t ≤ 25 → tS G h n tx σ (b2 tt) (b2 td) → isRiver G hr ρ1 → (∀ q, σ = .inr q → ρ1 = ρ' ∧ x = nI r ∧ r < rN ρ') → sdS n tx r (25 - t) t σ ρ' = F → Fr2 G0 G h 1 hr 7 →
    WP mX8_readSides l (rmM mX8_readSides 0 0) (ZM 0 0 (fun w G' => w = none ∧ cPost G0 G' h hr n tx (match clS n tx F.1 with | .inl e => .inl e | .inr q => .inr (q, F.2, tt, td)))) XT 0 0 24 [some (.ref h), some (.ref hr), some (.int x), some (.int (nI t))] [] G
theorem sd_next (l : Launch) {G0 G : PH} {h hr n : Nat} {tx : Nat → Int32} {F : PS × Riv} {tt td : Bool} {r m t f p : Nat} {ρ1 : Riv} {x2 : Int32} (ih : sdIH l G0 h hr n tx F tt td r m) (hE : sdS n tx r (f + 1) t (.inr p) ρ1 = F) (hf : 25 - t = f + 1) (hgo : ¬ (0 < t ∧ ¬ figP (lt0 n tx (skp n tx p)))) (htT : t < rT ρ1) (hm : 25 - (t + 1) < m) (hS : tS G h n tx (st3 (num n tx 0 9999 p)) (b2 tt) (b2 td)) (hx : ∀ v s q, num n tx 0 9999 p = .inr (v, s, q) → x2 = v) (hR : isRiver G hr (rvS ρ1 r t x2)) (hF : Fr2 G0 G h 1 hr 7) (hr0 : r < rN ρ1) (h25 : t + 1 ≤ 25) :
    WP mX8_readSides l (rmM mX8_readSides 0 0) (ZM 0 0 (fun w G' => w = none ∧ cPost G0 G' h hr n tx (match clS n tx F.1 with | .inl e => .inl e | .inr q => .inr (q, F.2, tt, td)))) XT 0 0 24 [some (.ref h), some (.ref hr), some (.int (nI r)), some (.int (nI (t + 1)))] [] G := by
  simp only [sdS] at hE
  rw [if_neg hgo, if_neg (fun z => z htT)] at hE
  have hf2 : 25 - (t + 1) = f := by omega
  cases hn : num n tx 0 9999 p with
  | inl e =>
    rw [hn] at hS hE
    refine ih G (t + 1) (.inl e) ρ1 _ _ hm h25 hS hR (fun q hq => by cases hq) ?_ hF
    rw [hf2, ← hE]
    cases f <;> rfl
  | inr e =>
    obtain ⟨v, s, q⟩ := e
    have hv := hx _ _ _ hn
    subst hv
    rw [hn] at hS hE
    refine ih G (t + 1) (.inr q) (rvS ρ1 r t x2) _ _ hm h25 hS hR (fun q hq => ⟨rfl, rfl, hr0⟩) ?_ hF
    rw [hf2, ← hE]
set_option maxHeartbeats 4000000 in
set_option maxRecDepth 100000 in
theorem lp_sides (l : Launch) {G0 : PH} {h hr n : Nat} {tx : Nat → Int32} {F : PS × Riv} {tt td : Bool} {r : Nat} (hd : hr + 7 ≤ h ∨ h + 2 ≤ hr) : ∀ m, sdIH l G0 h hr n tx F tt td r m := by
  intro m
  induction m with
  | zero => intro G t σ ρ' ρ1 x hn; exact absurd hn (Nat.not_lt_zero _)
  | succ m ih =>
    intro G t σ ρ' ρ1 x hn ht hS hR hσ hE hF
    have hw := hS.at
    refine P_iload_n dX8_readSides_24 rfl ?_
    refine P_bipush dX8_readSides_25 bp_24 ?_
    refine P_icmp_gt (tgt := 98) dX8_readSides_27 (by decide) (fun c27 => ?_) (fun c27 => ?_)
    · have ht2 : t = 25 := by have : ¬ t ≤ 24 := fun q => absurd c27 (Int32.not_lt.mpr (nI_le (b := 24) q (by decide))); omega
      subst ht2
      exact sd_tail l hd hS hR (by rw [← hE]; rfl) (fun q hq => by rw [← hE]; exact (hσ q hq).1) hF
    · have ht24 : t ≤ 24 := Classical.byContradiction fun q => c27 (nI_lt (a := 24) (by omega) (by omega))
      refine P_aload_n dX8_readSides_30 rfl ?_
      refine P_callVp dX8_readSides_31 lkX8_40 okX8_isSound ⟨Nat.le_of_ble_eq_true rfl, Nat.le_of_ble_eq_true rfl⟩ (t_sound l hS) rfl rfl hw.choose_spec (Nat.le_of_ble_eq_true rfl) ⟨Nat.le_of_ble_eq_true rfl, Nat.le_of_ble_eq_true rfl⟩ ?_
      refine P_if_eq (tgt := 98) dX8_readSides_34 (by decide) (fun c34 => ?_) (fun c34 => ?_)
      · obtain ⟨e9, rfl⟩ := left_of c34
        exact sd_tail l hd hS hR (by rw [← hE]; cases 25 - t <;> rfl) (fun q hq => by cases hq) hF
      · obtain ⟨p, rfl⟩ := right_of c34
        obtain ⟨hρ, rfl, hr0⟩ := hσ p rfl
        subst hρ
        have k := txt_of hS
        obtain ⟨f, hf⟩ : ∃ f, 25 - t = f + 1 := ⟨24 - t, by omega⟩
        rw [hf] at hE
        refine P_aload_n dX8_readSides_37 rfl ?_
        refine P_callV dX8_readSides_38 lkX8_44 okX8_skipBlanks ⟨Nat.le_of_ble_eq_true rfl, Nat.le_of_ble_eq_true rfl⟩ (t_skip l k) rfl rfl k.1 (Nat.le_of_ble_eq_true rfl) ⟨Nat.le_of_ble_eq_true rfl, Nat.le_of_ble_eq_true rfl⟩ (fun v38 G38 q38 => ?_)
        obtain ⟨rfl, k1, hF1⟩ := q38
        have hR1 := hR.fr hF1 (by omega)
        refine P_iload_n dX8_readSides_41 rfl ?_
        refine P_if_le (tgt := 58) dX8_readSides_42 (by decide) (fun c42 => ?_) (fun c42 => ?_)
        · have ht0 : t = 0 := by have : ¬ 0 < t := fun z => nI_nle z (by omega) c42; omega
          have hgo : ¬ (0 < t ∧ ¬ figP (lt0 n tx (skp n tx p))) := by omega
          refine P_aload_n dX8_readSides_58 rfl ?_
          refine P_iload_n dX8_readSides_59 rfl ?_
          refine P_callVp dX8_readSides_60 lkX8_114 okX6_hasTime ⟨Nat.le_of_ble_eq_true rfl, Nat.le_of_ble_eq_true rfl⟩ (t_hasTime l hR1) rfl rfl hR1.at (Nat.le_of_ble_eq_true rfl) ⟨Nat.le_of_ble_eq_true rfl, Nat.le_of_ble_eq_true rfl⟩ ?_
          refine P_if_ne (tgt := 78) dX8_readSides_63 (by decide) (fun c63 => ?_) (fun c63 => ?_)
          · have hin : inN (nI t) (rT ρ1) := Classical.not_not.mp (fun z => c63 ((b2p _).mpr z))
            have htT : t < rT ρ1 := Nat.not_le.mp fun z => hin.2 (nI_le z (by omega))
            have hT24 : rT ρ1 ≤ 24 := hR1.bd.2.1
            refine P_aload_n dX8_readSides_78 rfl ?_
            refine P_iload_n dX8_readSides_79 rfl ?_
            refine P_iload_n dX8_readSides_80 rfl ?_
            refine P_aload_n dX8_readSides_81 rfl ?_
            refine P_iconst dX8_readSides_82 ci_0 ?_
            refine P_sipush dX8_readSides_83 sp_9999 ?_
            refine P_callV dX8_readSides_86 lkX8_75 okX8_readNumber ⟨Nat.le_of_ble_eq_true rfl, Nat.le_of_ble_eq_true rfl⟩ (t_num l (tS_of k1)) rfl rfl k1.1 (Nat.le_of_ble_eq_true rfl) ⟨Nat.le_of_ble_eq_true rfl, Nat.le_of_ble_eq_true rfl⟩ (fun v86 G86 q86 => ?_)
            obtain ⟨⟨x2, rfl, hx2⟩, hS3, hF3⟩ := q86
            have hx2 : ∀ v s q, num n tx 0 9999 p = .inr (v, s, q) → x2 = v := fun v s q e => hx2 v s q ((num_skp n tx 0 9999 p).trans e)
            have hS3 : tS G86 h n tx (st3 (num n tx 0 9999 p)) (b2 tt) (b2 td) := by have e := num_skp n tx 0 9999 p; rw [← e]; exact hS3
            have hR3 := hR1.fr hF3 (by omega)
            refine P_callV dX8_readSides_89 lkX8_117 okX6_setSide ⟨Nat.le_of_ble_eq_true rfl, Nat.le_of_ble_eq_true rfl⟩ (t_setSide l hR3 hr0 (by omega)) rfl rfl hR3.at (Nat.le_of_ble_eq_true rfl) ⟨Nat.le_of_ble_eq_true rfl, Nat.le_of_ble_eq_true rfl⟩ (fun v89 G89 q89 => ?_)
            obtain ⟨rfl, hR4, hF4⟩ := q89
            have hS4 := hS3.fr hF4 (by omega)
            have hFn := hF.tr (hF1.l2.tr (hF3.l2.tr hF4.r2))
            refine P_iinc (L' := [_, _, _, _]) dX8_readSides_92 rfl (ii_1 _) (Nat.le_of_ble_eq_true rfl) rfl ?_
            rw [nI_1]
            refine P_goto (tgt := 24) dX8_readSides_95 (by decide) ?_
            refine sd_next l ih hE hf hgo htT (by omega) hS4 hx2 hR4 hFn hr0 (by omega)
          · have hin : ¬ inN (nI t) (rT ρ1) := (b2p _).mp c63
            have htT : ¬ t < rT ρ1 := fun z => hin (inN_nI z (by have := hR1.bd.2.1; omega))
            refine P_aload_n dX8_readSides_66 rfl ?_
            refine P_iconst dX8_readSides_67 ci_4 ?_
            refine P_aload_n dX8_readSides_68 rfl ?_
            refine P_get dX8_readSides_69 flX8_19 k1.1 rfl ?_
            refine P_callV dX8_readSides_72 lkX8_67 okX8_fail ⟨Nat.le_of_ble_eq_true rfl, Nat.le_of_ble_eq_true rfl⟩ (t_fail l k1) rfl rfl k1.1 (Nat.le_of_ble_eq_true rfl) ⟨Nat.le_of_ble_eq_true rfl, Nat.le_of_ble_eq_true rfl⟩ (fun v72 G72 q72 => ?_)
            obtain ⟨rfl, k2, hF2⟩ := q72
            rw [if_pos rfl, if_pos rfl] at k2
            have hR2 := hR1.fr hF2 (by omega)
            refine P_goto (tgt := 98) dX8_readSides_75 (by decide) ?_
            first | exact sd_tail l hd (tS_bad (f := 4) k2 (by decide) (by decide)) hR2 (by rw [← hE]; simp only [sdS]; rw [if_neg hgo, if_pos htT]) (fun q hq => by cases hq) (hF.tr (hF1.l2.tr hF2.l2)) | exact sd_tail l hd (tS_of k1) hR1 (by rw [← hE]; simp only [sdS]; rw [if_pos ⟨ht0, hfg⟩]) (fun q hq => by rw [← hE]; simp only [sdS]; rw [if_pos ⟨ht0, hfg⟩]) (hF.tr hF1.l2)
        · refine P_aload_n dX8_readSides_45 rfl ?_
          refine P_callVp dX8_readSides_46 lkX8_51 okX8_letterHere ⟨Nat.le_of_ble_eq_true rfl, Nat.le_of_ble_eq_true rfl⟩ (t_letter l k1) rfl rfl k1.1 (Nat.le_of_ble_eq_true rfl) ⟨Nat.le_of_ble_eq_true rfl, Nat.le_of_ble_eq_true rfl⟩ ?_
          refine P_callSp dX8_readSides_49 lkX8_110 okX8_isFigure ⟨Nat.le_of_ble_eq_true rfl, Nat.le_of_ble_eq_true rfl⟩ (t_isFigure l) rfl rfl (Nat.le_of_ble_eq_true rfl) ⟨Nat.le_of_ble_eq_true rfl, Nat.le_of_ble_eq_true rfl⟩ ?_
          refine P_if_ne (tgt := 58) dX8_readSides_52 (by decide) (fun c52 => ?_) (fun c52 => ?_)
          · have hfg : figP (lt0 n tx (skp n tx p)) := Classical.not_not.mp (fun z => c52 ((b2p _).mpr z))
            have hgo : ¬ (0 < t ∧ ¬ figP (lt0 n tx (skp n tx p))) := fun z => z.2 hfg
            refine P_aload_n dX8_readSides_58 rfl ?_
            refine P_iload_n dX8_readSides_59 rfl ?_
            refine P_callVp dX8_readSides_60 lkX8_114 okX6_hasTime ⟨Nat.le_of_ble_eq_true rfl, Nat.le_of_ble_eq_true rfl⟩ (t_hasTime l hR1) rfl rfl hR1.at (Nat.le_of_ble_eq_true rfl) ⟨Nat.le_of_ble_eq_true rfl, Nat.le_of_ble_eq_true rfl⟩ ?_
            refine P_if_ne (tgt := 78) dX8_readSides_63 (by decide) (fun c63 => ?_) (fun c63 => ?_)
            · have hin : inN (nI t) (rT ρ1) := Classical.not_not.mp (fun z => c63 ((b2p _).mpr z))
              have htT : t < rT ρ1 := Nat.not_le.mp fun z => hin.2 (nI_le z (by omega))
              have hT24 : rT ρ1 ≤ 24 := hR1.bd.2.1
              refine P_aload_n dX8_readSides_78 rfl ?_
              refine P_iload_n dX8_readSides_79 rfl ?_
              refine P_iload_n dX8_readSides_80 rfl ?_
              refine P_aload_n dX8_readSides_81 rfl ?_
              refine P_iconst dX8_readSides_82 ci_0 ?_
              refine P_sipush dX8_readSides_83 sp_9999 ?_
              refine P_callV dX8_readSides_86 lkX8_75 okX8_readNumber ⟨Nat.le_of_ble_eq_true rfl, Nat.le_of_ble_eq_true rfl⟩ (t_num l (tS_of k1)) rfl rfl k1.1 (Nat.le_of_ble_eq_true rfl) ⟨Nat.le_of_ble_eq_true rfl, Nat.le_of_ble_eq_true rfl⟩ (fun v86 G86 q86 => ?_)
              obtain ⟨⟨x2, rfl, hx2⟩, hS3, hF3⟩ := q86
              have hx2 : ∀ v s q, num n tx 0 9999 p = .inr (v, s, q) → x2 = v := fun v s q e => hx2 v s q ((num_skp n tx 0 9999 p).trans e)
              have hS3 : tS G86 h n tx (st3 (num n tx 0 9999 p)) (b2 tt) (b2 td) := by have e := num_skp n tx 0 9999 p; rw [← e]; exact hS3
              have hR3 := hR1.fr hF3 (by omega)
              refine P_callV dX8_readSides_89 lkX8_117 okX6_setSide ⟨Nat.le_of_ble_eq_true rfl, Nat.le_of_ble_eq_true rfl⟩ (t_setSide l hR3 hr0 (by omega)) rfl rfl hR3.at (Nat.le_of_ble_eq_true rfl) ⟨Nat.le_of_ble_eq_true rfl, Nat.le_of_ble_eq_true rfl⟩ (fun v89 G89 q89 => ?_)
              obtain ⟨rfl, hR4, hF4⟩ := q89
              have hS4 := hS3.fr hF4 (by omega)
              have hFn := hF.tr (hF1.l2.tr (hF3.l2.tr hF4.r2))
              refine P_iinc (L' := [_, _, _, _]) dX8_readSides_92 rfl (ii_1 _) (Nat.le_of_ble_eq_true rfl) rfl ?_
              rw [nI_1]
              refine P_goto (tgt := 24) dX8_readSides_95 (by decide) ?_
              refine sd_next l ih hE hf hgo htT (by omega) hS4 hx2 hR4 hFn hr0 (by omega)
            · have hin : ¬ inN (nI t) (rT ρ1) := (b2p _).mp c63
              have htT : ¬ t < rT ρ1 := fun z => hin (inN_nI z (by have := hR1.bd.2.1; omega))
              refine P_aload_n dX8_readSides_66 rfl ?_
              refine P_iconst dX8_readSides_67 ci_4 ?_
              refine P_aload_n dX8_readSides_68 rfl ?_
              refine P_get dX8_readSides_69 flX8_19 k1.1 rfl ?_
              refine P_callV dX8_readSides_72 lkX8_67 okX8_fail ⟨Nat.le_of_ble_eq_true rfl, Nat.le_of_ble_eq_true rfl⟩ (t_fail l k1) rfl rfl k1.1 (Nat.le_of_ble_eq_true rfl) ⟨Nat.le_of_ble_eq_true rfl, Nat.le_of_ble_eq_true rfl⟩ (fun v72 G72 q72 => ?_)
              obtain ⟨rfl, k2, hF2⟩ := q72
              rw [if_pos rfl, if_pos rfl] at k2
              have hR2 := hR1.fr hF2 (by omega)
              refine P_goto (tgt := 98) dX8_readSides_75 (by decide) ?_
              first | exact sd_tail l hd (tS_bad (f := 4) k2 (by decide) (by decide)) hR2 (by rw [← hE]; simp only [sdS]; rw [if_neg hgo, if_pos htT]) (fun q hq => by cases hq) (hF.tr (hF1.l2.tr hF2.l2)) | exact sd_tail l hd (tS_of k1) hR1 (by rw [← hE]; simp only [sdS]; rw [if_pos ⟨ht0, hfg⟩]) (fun q hq => by rw [← hE]; simp only [sdS]; rw [if_pos ⟨ht0, hfg⟩]) (hF.tr hF1.l2)
          · have hfg : ¬ figP (lt0 n tx (skp n tx p)) := (b2p _).mp c52
            have ht0 : 0 < t := Nat.pos_of_ne_zero fun z => c42 (by rw [z]; decide)
            refine P_goto (tgt := 98) dX8_readSides_55 (by decide) ?_
            first | exact sd_tail l hd (tS_bad (f := 4) k2 (by decide) (by decide)) hR2 (by rw [← hE]; simp only [sdS]; rw [if_neg hgo, if_pos htT]) (fun q hq => by cases hq) (hF.tr (hF1.l2.tr hF2.l2)) | exact sd_tail l hd (tS_of k1) hR1 (by rw [← hE]; simp only [sdS]; rw [if_pos ⟨ht0, hfg⟩]) (fun q hq => by rw [← hE]; simp only [sdS]; rw [if_pos ⟨ht0, hfg⟩]) (hF.tr hF1.l2)
theorem sd_z {n : Nat} {tx : Nat → Int32} {a b : Int32} {p : Nat} {e : Nat × Nat} (h : num n tx a b p = .inl e) : st3 (numS n tx a b (.inr p)) = .inl e := by show st3 (num n tx a b p) = _; rw [h]; rfl
theorem sd_y {n : Nat} {tx : Nat → Int32} {a b : Int32} {p : Nat} {v : Int32} {s q : Nat} (h : num n tx a b p = .inr (v, s, q)) : st3 (numS n tx a b (.inr p)) = .inr q := by show st3 (num n tx a b p) = _; rw [h]; rfl
theorem sd_r {n N : Nat} {tx : Nat → Int32} {p : Nat} {v : Int32} {s q : Nat} (hN : N ≤ 6) (h : num n tx 0 (nI N - 1) p = .inr (v, s, q)) : ∃ j, j < N ∧ v = nI j := by
  obtain ⟨h1, h2, -⟩ := num_le h
  obtain ⟨j, hj, rfl⟩ := nI_of h1
  cases N with
  | zero => exact absurd (show nI 0 - 1 < nI j from by rw [show nI 0 - 1 = -1 by decide +kernel]; exact neg_nI (by decide) hj) h2
  | succ N =>
    rw [nI_pred] at h2
    exact ⟨j, by have := Nat.not_lt.mp fun z : N < j => h2 (nI_lt z hj); omega, rfl⟩
set_option maxHeartbeats 4000000 in
set_option maxRecDepth 100000 in
theorem t_readSides (l : Launch) {G : PH} {h hr n p : Nat} {tx : Nat → Int32} {ρ : Riv} {tt td : Bool} (hS : tS G h n tx (.inr p) (b2 tt) (b2 td)) (hR : isRiver G hr ρ) (hd : hr + 7 ≤ h ∨ h + 2 ≤ hr) (hp : p < n) : Tri l mX8_readSides 0 0 [.ref h, .ref hr] G (fun w G' => w = none ∧ cPost G G' h hr n tx (clX n tx p ρ tt td)) := by
  have k := txt_of hS
  have hN : rN ρ ≤ 6 := hR.bd.2.2.2.2
  refine Tri.intro (L := [_, _, _, _]) okX8_readSides.1 (Nat.le_of_ble_eq_true rfl) rfl ?_
  refine P_aload_n dX8_readSides_0 rfl ?_
  refine P_dup dX8_readSides_1 rfl ?_
  refine P_get dX8_readSides_2 flX8_19 k.1 rfl ?_
  refine P_iconst dX8_readSides_5 ci_1 ?_
  refine P_iadd dX8_readSides_6 ?_
  rw [nI_1]
  refine P_putI dX8_readSides_7 flX8_19 k.1 (Nat.le_of_ble_eq_true rfl) ?_
  have hs := k.set (p' := p + 1) (fn' := 0) (fp' := -1) (tt' := b2 tt) (td' := b2 td) hp
  have hR1 := hR.fr hs.2 (by omega)
  refine P_aload_n dX8_readSides_10 rfl ?_
  refine P_iconst dX8_readSides_11 ci_0 ?_
  refine P_aload_n dX8_readSides_12 rfl ?_
  refine P_callVp dX8_readSides_13 lkX8_89 okX6_reachCount ⟨Nat.le_of_ble_eq_true rfl, Nat.le_of_ble_eq_true rfl⟩ (t_reachCount l hR1) rfl rfl hR1.at (Nat.le_of_ble_eq_true rfl) ⟨Nat.le_of_ble_eq_true rfl, Nat.le_of_ble_eq_true rfl⟩ ?_
  refine P_iconst dX8_readSides_16 ci_1 ?_
  refine P_isub dX8_readSides_17 ?_
  refine P_callV dX8_readSides_18 lkX8_75 okX8_readNumber ⟨Nat.le_of_ble_eq_true rfl, Nat.le_of_ble_eq_true rfl⟩ (t_num l (tS_of hs.1)) rfl rfl hs.1.1 (Nat.le_of_ble_eq_true rfl) ⟨Nat.le_of_ble_eq_true rfl, Nat.le_of_ble_eq_true rfl⟩ (fun v18 G18 q18 => ?_)
  obtain ⟨⟨x1, rfl, hx1⟩, hS1, hF1⟩ := q18
  have hF2 := hs.2.tr hF1
  have hR2 := hR.fr hF2 (by omega)
  refine P_istore_n (L' := [_, _, _, _]) dX8_readSides_21 (Nat.le_of_ble_eq_true rfl) rfl ?_
  refine P_iconst dX8_readSides_22 ci_0 ?_
  refine P_istore_n (L' := [_, _, _, _]) dX8_readSides_23 (Nat.le_of_ble_eq_true rfl) rfl ?_
  cases hn : num n tx 0 (nI (rN ρ) - 1) (p + 1) with
  | inl e =>
    have hS2 : tS G18 h n tx (.inl e) (b2 tt) (b2 td) := by rw [← sd_z hn]; exact hS1
    exact lp_sides l (r := 0) hd 26 G18 0 (.inl e) ρ ρ x1 (by omega) (by omega) hS2 hR2 (fun q hq => by cases hq) (by show (Sum.inl e, ρ) = sdR n tx p ρ; unfold sdR; rw [hn]) hF2.l2
  | inr e =>
    obtain ⟨v, s, q⟩ := e
    have hS2 : tS G18 h n tx (.inr q) (b2 tt) (b2 td) := by rw [← sd_y hn]; exact hS1
    have hv := hx1 v s q hn
    subst hv
    obtain ⟨j, hj, ej⟩ := sd_r hN hn
    subst ej
    exact lp_sides l (r := j) hd 26 G18 0 (.inr q) ρ ρ (nI j) (by omega) (by omega) hS2 hR2 (fun q hq => ⟨rfl, rfl, hj⟩) (by show sdS n tx j 25 0 (.inr q) ρ = sdR n tx p ρ; unfold sdR; rw [hn]; show _ = sdS n tx (nI j).toNatClampNeg 25 0 (.inr q) ρ; rw [nI_clamp (by omega)]) hF2.l2
set_option maxHeartbeats 4000000 in
set_option maxRecDepth 100000 in
theorem t_readClause (l : Launch) {G : PH} {h hr n p : Nat} {tx : Nat → Int32} {ρ : Riv} {tt td : Bool} (hS : tS G h n tx (.inr p) (b2 tt) (b2 td)) (hR : isRiver G hr ρ) (hd : hr + 7 ≤ h ∨ h + 2 ≤ hr) (hp : p < n) : Tri l mX8_readClause 0 0 [.ref h, .ref hr] G (fun w G' => w = none ∧ cPost G G' h hr n tx (cla n tx p ρ tt td)) := by
  have k := txt_of hS
  refine Tri.intro (L := [_, _]) okX8_readClause.1 (Nat.le_of_ble_eq_true rfl) rfl ?_
  refine P_aload_n dX8_readClause_0 rfl ?_
  refine P_callVp dX8_readClause_1 lkX8_51 okX8_letterHere ⟨Nat.le_of_ble_eq_true rfl, Nat.le_of_ble_eq_true rfl⟩ (t_letter l k) rfl rfl k.1 (Nat.le_of_ble_eq_true rfl) ⟨Nat.le_of_ble_eq_true rfl, Nat.le_of_ble_eq_true rfl⟩ ?_
  by_cases h116 : lt0 n tx p = 116
  · rw [h116]
    refine P_lookup (off := 44) (tgt := 48) dX8_readClause_4 (by decide) (by decide) (by decide) ?_
    refine P_aload_n dX8_readClause_48 rfl ?_
    refine P_aload_n dX8_readClause_49 rfl ?_
    refine P_callV dX8_readClause_50 lkX8_55 okX8_readTimes ⟨Nat.le_of_ble_eq_true rfl, Nat.le_of_ble_eq_true rfl⟩ (t_readTimes l hS hR hd hp) rfl rfl k.1 (Nat.le_of_ble_eq_true rfl) ⟨Nat.le_of_ble_eq_true rfl, Nat.le_of_ble_eq_true rfl⟩ (fun v50 G50 q50 => ?_)
    obtain ⟨rfl, hc⟩ := q50
    have hcl : cla n tx p ρ tt td = clT n tx p ρ tt td := if_pos h116
    refine P_goto (tgt := 89) dX8_readClause_53 (by decide) ?_
    exact P_vret dX8_readClause_89 rfl ⟨Nat.le_refl _, Nat.le_refl _⟩ (by first | exact ⟨rfl, by rw [hcl]; exact hc⟩ | exact ⟨rfl, by rw [hcl]; exact ⟨⟨⟨_, _, tS_bad (f := 1) k2 (by decide) (by decide)⟩, ρ, hR.fr hF2 (by omega)⟩, hF2.l2⟩⟩)
  by_cases h100 : lt0 n tx p = 100
  · rw [h100]
    refine P_lookup (off := 52) (tgt := 56) dX8_readClause_4 (by decide) (by decide) (by decide) ?_
    refine P_aload_n dX8_readClause_56 rfl ?_
    refine P_aload_n dX8_readClause_57 rfl ?_
    refine P_callV dX8_readClause_58 lkX8_58 okX8_readStep ⟨Nat.le_of_ble_eq_true rfl, Nat.le_of_ble_eq_true rfl⟩ (t_readStep l hS hR hd hp) rfl rfl k.1 (Nat.le_of_ble_eq_true rfl) ⟨Nat.le_of_ble_eq_true rfl, Nat.le_of_ble_eq_true rfl⟩ (fun v58 G58 q58 => ?_)
    obtain ⟨rfl, hc⟩ := q58
    have hcl : cla n tx p ρ tt td = clD n tx p ρ tt td := by unfold cla; rw [if_neg h116, if_pos h100]
    refine P_goto (tgt := 89) dX8_readClause_61 (by decide) ?_
    exact P_vret dX8_readClause_89 rfl ⟨Nat.le_refl _, Nat.le_refl _⟩ (by first | exact ⟨rfl, by rw [hcl]; exact hc⟩ | exact ⟨rfl, by rw [hcl]; exact ⟨⟨⟨_, _, tS_bad (f := 1) k2 (by decide) (by decide)⟩, ρ, hR.fr hF2 (by omega)⟩, hF2.l2⟩⟩)
  by_cases h114 : lt0 n tx p = 114
  · rw [h114]
    refine P_lookup (off := 60) (tgt := 64) dX8_readClause_4 (by decide) (by decide) (by decide) ?_
    refine P_aload_n dX8_readClause_64 rfl ?_
    refine P_aload_n dX8_readClause_65 rfl ?_
    refine P_callV dX8_readClause_66 lkX8_61 okX8_readReach ⟨Nat.le_of_ble_eq_true rfl, Nat.le_of_ble_eq_true rfl⟩ (t_readReach l hS hR hd hp) rfl rfl k.1 (Nat.le_of_ble_eq_true rfl) ⟨Nat.le_of_ble_eq_true rfl, Nat.le_of_ble_eq_true rfl⟩ (fun v66 G66 q66 => ?_)
    obtain ⟨rfl, hc⟩ := q66
    have hcl : cla n tx p ρ tt td = clR n tx p ρ tt td := by unfold cla; rw [if_neg h116, if_neg h100, if_pos h114]
    refine P_goto (tgt := 89) dX8_readClause_69 (by decide) ?_
    exact P_vret dX8_readClause_89 rfl ⟨Nat.le_refl _, Nat.le_refl _⟩ (by first | exact ⟨rfl, by rw [hcl]; exact hc⟩ | exact ⟨rfl, by rw [hcl]; exact ⟨⟨⟨_, _, tS_bad (f := 1) k2 (by decide) (by decide)⟩, ρ, hR.fr hF2 (by omega)⟩, hF2.l2⟩⟩)
  by_cases h115 : lt0 n tx p = 115
  · rw [h115]
    refine P_lookup (off := 68) (tgt := 72) dX8_readClause_4 (by decide) (by decide) (by decide) ?_
    refine P_aload_n dX8_readClause_72 rfl ?_
    refine P_aload_n dX8_readClause_73 rfl ?_
    refine P_callV dX8_readClause_74 lkX8_64 okX8_readSides ⟨Nat.le_of_ble_eq_true rfl, Nat.le_of_ble_eq_true rfl⟩ (t_readSides l hS hR hd hp) rfl rfl k.1 (Nat.le_of_ble_eq_true rfl) ⟨Nat.le_of_ble_eq_true rfl, Nat.le_of_ble_eq_true rfl⟩ (fun v74 G74 q74 => ?_)
    obtain ⟨rfl, hc⟩ := q74
    have hcl : cla n tx p ρ tt td = clX n tx p ρ tt td := by unfold cla; rw [if_neg h116, if_neg h100, if_neg h114, if_pos h115]
    refine P_goto (tgt := 89) dX8_readClause_77 (by decide) ?_
    exact P_vret dX8_readClause_89 rfl ⟨Nat.le_refl _, Nat.le_refl _⟩ (by first | exact ⟨rfl, by rw [hcl]; exact hc⟩ | exact ⟨rfl, by rw [hcl]; exact ⟨⟨⟨_, _, tS_bad (f := 1) k2 (by decide) (by decide)⟩, ρ, hR.fr hF2 (by omega)⟩, hF2.l2⟩⟩)
  refine P_lookup (off := 76) (tgt := 80) dX8_readClause_4 (by decide) (by show Op.lookupswitch.offset [(100, 52), (114, 60), (115, 68), (116, 44)] 76 _ = _; rw [lv_osw h100 (by decide), lv_osw h114 (by decide), lv_osw h115 (by decide), lv_osw h116 (by decide)]; rfl) (by decide) ?_
  refine P_aload_n dX8_readClause_80 rfl ?_
  refine P_iconst dX8_readClause_81 ci_1 ?_
  refine P_aload_n dX8_readClause_82 rfl ?_
  refine P_get dX8_readClause_83 flX8_19 k.1 rfl ?_
  refine P_callV dX8_readClause_86 lkX8_67 okX8_fail ⟨Nat.le_of_ble_eq_true rfl, Nat.le_of_ble_eq_true rfl⟩ (t_fail l k) rfl rfl k.1 (Nat.le_of_ble_eq_true rfl) ⟨Nat.le_of_ble_eq_true rfl, Nat.le_of_ble_eq_true rfl⟩ (fun v86 G86 q86 => ?_)
  obtain ⟨rfl, k2, hF2⟩ := q86
  rw [if_pos rfl, if_pos rfl] at k2
  have hcl : cla n tx p ρ tt td = .inl (1, p) := by unfold cla; rw [if_neg h116, if_neg h100, if_neg h114, if_neg h115]
  exact P_vret dX8_readClause_89 rfl ⟨Nat.le_refl _, Nat.le_refl _⟩ (by first | exact ⟨rfl, by rw [hcl]; exact hc⟩ | exact ⟨rfl, by rw [hcl]; exact ⟨⟨⟨_, _, tS_bad (f := 1) k2 (by decide) (by decide)⟩, ρ, hR.fr hF2 (by omega)⟩, hF2.l2⟩⟩)
def rZ : Riv := ((12, 1, 0), fun _ _ => 0, fun _ _ => 0, fun _ _ => 0)
theorem isRiver_z {G : PH} {h : Nat} {ρ : Riv} (k : isRiver G h ((12, 1, 0), ρ.2)) : isRiver G h rZ := by
  obtain ⟨f1, f2, f3, k1, -, k3⟩ := k
  exact ⟨f1, f2, f3, k1, fun r hr => absurd hr (Nat.not_lt_zero r), k3⟩
/-- the Text object, its place anywhere -/
def txw (G : PH) (h n : Nat) (tx : Nat → Int32) (p : Nat) (fn fp tt td : Int32) : Prop := G[h]? = some (oT h n p fn fp tt td) ∧ G[h + 1]? = some (aI 200 tx) ∧ n ≤ 200
theorem txw.fr {G G' : PH} {h n p a m : Nat} {tx : Nat → Int32} {fn fp tt td : Int32} (k : txw G h n tx p fn fp tt td) (hF : Fr G G' a m) (hd : h + 2 ≤ a ∨ a + m ≤ h) : txw G' h n tx p fn fp tt td := ⟨hF.at k.1 (by omega), hF.at k.2.1 (by omega), k.2.2⟩
def iPost (G' : PH) (h hr n : Nat) (tx : Nat → Int32) (w : Option Value) (res : (Nat × Nat) ⊕ Riv) : Prop := ∃ p tt td, match res with
  | .inl e => w = some (.int (nI e.1)) ∧ 1 ≤ e.1 ∧ e.1 ≤ 4 ∧ txt G' h n tx p (nI e.1) (nI e.2) tt td ∧ ∃ ρ, isRiver G' hr ρ
  | .inr ρ => w = some (.int 0) ∧ txt G' h n tx p 0 (-1) tt td ∧ isRiver G' hr ρ
def inIH (l : Launch) (G0 : PH) (h hr n : Nat) (tx : Nat → Int32) (F : (Nat × Nat) ⊕ Riv) (m : Nat) : Prop := ∀ (G : PH) (i : Nat), 201 - i < m → i ≤ 201 → ((∃ c : CS, tS G h n tx (.inr c.1) (b2 c.2.2.1) (b2 c.2.2.2) ∧ isRiver G hr c.2.1 ∧ prs n tx (201 - i) c = F) ∨ ∃ e, F = .inl e ∧ (∃ tt td, tS G h n tx (.inl e) tt td) ∧ ∃ ρ, isRiver G hr ρ) → Fr2 G0 G h 1 hr 7 →
    WP mX8_readInto l (rmM mX8_readInto 0 0) (ZM 0 0 (fun w G' => iPost G' h hr n tx w F ∧ Fr2 G0 G' h 1 hr 7)) XT 0 0 31 [some (.ref h), some (.ref hr), some (.int (nI i))] [] G
theorem in_end (l : Launch) {G0 G : PH} {h hr n : Nat} {tx : Nat → Int32} {F : (Nat × Nat) ⊕ Riv} {a : Option Value} (hc : (∃ ρ, F = .inr ρ ∧ (∃ p tt td, txt G h n tx p 0 (-1) tt td) ∧ isRiver G hr ρ) ∨ ∃ e, F = .inl e ∧ (∃ tt td, tS G h n tx (.inl e) tt td) ∧ ∃ ρ, isRiver G hr ρ) (hF : Fr2 G0 G h 1 hr 7) :
    WP mX8_readInto l (rmM mX8_readInto 0 0) (ZM 0 0 (fun w G' => iPost G' h hr n tx w F ∧ Fr2 G0 G' h 1 hr 7)) XT 0 0 74 [some (.ref h), some (.ref hr), a] [] G := by
  rcases hc with ⟨ρ, rfl, ⟨p, tt, td, k⟩, hR⟩ | ⟨e, rfl, ⟨tt, td, p, fn, fp, k, rfl, h2, h3, rfl⟩, hR⟩
  · have hq : iPost G h hr n tx (some (.int 0)) (.inr ρ) ∧ Fr2 G0 G h 1 hr 7 := ⟨⟨p, tt, td, rfl, k, hR⟩, hF⟩
    refine P_aload_n dX8_readInto_74 rfl ?_
    refine P_get dX8_readInto_75 flX8_22 k.1 rfl ?_
    exact P_iret dX8_readInto_78 rfl ⟨Nat.le_refl _, Nat.le_refl _⟩ hq
  · have hq : iPost G h hr n tx (some (.int (nI e.1))) (.inl e) ∧ Fr2 G0 G h 1 hr 7 := ⟨⟨p, tt, td, rfl, h2, h3, k, hR⟩, hF⟩
    refine P_aload_n dX8_readInto_74 rfl ?_
    refine P_get dX8_readInto_75 flX8_22 k.1 rfl ?_
    exact P_iret dX8_readInto_78 rfl ⟨Nat.le_refl _, Nat.le_refl _⟩ hq
set_option maxHeartbeats 4000000 in
set_option maxRecDepth 100000 in
theorem lp_into (l : Launch) {G0 : PH} {h hr n : Nat} {tx : Nat → Int32} {F : (Nat × Nat) ⊕ Riv} (hd : hr + 7 ≤ h ∨ h + 2 ≤ hr) : ∀ m, inIH l G0 h hr n tx F m := by
  intro m
  induction m with
  | zero => intro G i hn; exact absurd hn (Nat.not_lt_zero _)
  | succ m ih =>
    intro G i hn hi hc hF
    refine P_iload_n dX8_readInto_31 rfl ?_
    refine P_sipush dX8_readInto_32 sp_200 ?_
    refine P_icmp_gt (tgt := 74) dX8_readInto_35 (by decide) (fun c35 => ?_) (fun c35 => ?_)
    · have hi2 : i = 201 := by have : ¬ i ≤ 200 := fun q => absurd c35 (Int32.not_lt.mpr (nI_le (b := 200) q (by decide))); omega
      subst hi2
      rcases hc with ⟨c, hS, hR, hE⟩ | hc
      · exact in_end l (Or.inl ⟨_, hE.symm, ⟨_, _, _, txt_of hS⟩, hR⟩) hF
      · exact in_end l (Or.inr hc) hF
    · have hi2 : i ≤ 200 := Classical.byContradiction fun q => c35 (nI_lt (a := 200) (by omega) (by omega))
      refine P_aload_n dX8_readInto_38 rfl ?_
      rcases hc with ⟨c, hS, hR, hE⟩ | ⟨e, rfl, ⟨tt, td, hS⟩, hR⟩
      · have hw := hS.at
        have k := txt_of hS
        refine P_callVp dX8_readInto_39 lkX8_40 okX8_isSound ⟨Nat.le_of_ble_eq_true rfl, Nat.le_of_ble_eq_true rfl⟩ (t_sound l hS) rfl rfl hw.choose_spec (Nat.le_of_ble_eq_true rfl) ⟨Nat.le_of_ble_eq_true rfl, Nat.le_of_ble_eq_true rfl⟩ ?_
        refine P_if_eq (tgt := 74) dX8_readInto_42 (by decide) (fun c42 => absurd c42 (show ¬ (1 : Int32) = 0 by decide)) (fun c42 => ?_)
        refine P_aload_n dX8_readInto_45 rfl ?_
        refine P_callV dX8_readInto_46 lkX8_44 okX8_skipBlanks ⟨Nat.le_of_ble_eq_true rfl, Nat.le_of_ble_eq_true rfl⟩ (t_skip l k) rfl rfl k.1 (Nat.le_of_ble_eq_true rfl) ⟨Nat.le_of_ble_eq_true rfl, Nat.le_of_ble_eq_true rfl⟩ (fun v46 G46 q46 => ?_)
        obtain ⟨rfl, k1, hF1⟩ := q46
        have hR1 := hR.fr hF1 (by omega)
        obtain ⟨f, hf⟩ : ∃ f, 201 - i = f + 1 := ⟨200 - i, by omega⟩
        rw [hf] at hE
        refine P_aload_n dX8_readInto_49 rfl ?_
        refine P_get dX8_readInto_50 flX8_19 k1.1 rfl ?_
        refine P_aload_n dX8_readInto_53 rfl ?_
        refine P_get dX8_readInto_54 flX8_15 k1.1 rfl ?_
        refine P_icmp_lt (tgt := 63) dX8_readInto_57 (by decide) (fun c57 => ?_) (fun c57 => ?_)
        · have hpl : skp n tx c.1 < n := Nat.not_le.mp fun z => absurd c57 (Int32.not_lt.mpr (nI_le z (by have := k1.2.2.1; have := k1.2.2.2; omega)))
          refine P_aload_n dX8_readInto_63 rfl ?_
          refine P_aload_n dX8_readInto_64 rfl ?_
          refine P_callV dX8_readInto_65 lkX8_47 okX8_readClause ⟨Nat.le_of_ble_eq_true rfl, Nat.le_of_ble_eq_true rfl⟩ (t_readClause l (tS_of k1) hR1 hd hpl) rfl rfl k1.1 (Nat.le_of_ble_eq_true rfl) ⟨Nat.le_of_ble_eq_true rfl, Nat.le_of_ble_eq_true rfl⟩ (fun v65 G65 q65 => ?_)
          obtain ⟨rfl, hc, hF2⟩ := q65
          have hFn := hF.tr (hF1.l2.tr hF2)
          have hE2 : (match cla n tx (skp n tx c.1) c.2.1 c.2.2.1 c.2.2.2 with | .inl e => .inl e | .inr c' => prs n tx f c') = F := by rw [← hE]; exact (if_neg (Nat.not_le.mpr hpl)).symm
          refine P_iinc (L' := [_, _, _]) dX8_readInto_68 rfl (ii_1 _) (Nat.le_of_ble_eq_true rfl) rfl ?_
          rw [nI_1]
          refine P_goto (tgt := 31) dX8_readInto_71 (by decide) ?_
          refine ih G65 (i + 1) (by omega) (by omega) ?_ hFn
          rw [show 201 - (i + 1) = f by omega]
          cases hcl : cla n tx (skp n tx c.1) c.2.1 c.2.2.1 c.2.2.2 with
          | inl e => rw [hcl] at hc hE2; exact Or.inr ⟨e, hE2.symm, hc⟩
          | inr c9 => rw [hcl] at hc hE2; exact Or.inl ⟨c9, hc.1, hc.2, hE2⟩
        · have hpl : n ≤ skp n tx c.1 := Nat.not_lt.mp fun z => c57 (nI_lt z (by have := k1.2.2.1; omega))
          have hE2 : .inr c.2.1 = F := by rw [← hE]; exact (if_pos hpl).symm
          refine P_goto (tgt := 74) dX8_readInto_60 (by decide) ?_
          exact in_end l (Or.inl ⟨_, hE2.symm, ⟨_, _, _, k1⟩, hR1⟩) (hF.tr hF1.l2)
      · have hw := hS.at
        refine P_callVp dX8_readInto_39 lkX8_40 okX8_isSound ⟨Nat.le_of_ble_eq_true rfl, Nat.le_of_ble_eq_true rfl⟩ (t_sound l hS) rfl rfl hw.choose_spec (Nat.le_of_ble_eq_true rfl) ⟨Nat.le_of_ble_eq_true rfl, Nat.le_of_ble_eq_true rfl⟩ ?_
        refine P_if_eq (tgt := 74) dX8_readInto_42 (by decide) (fun c42 => ?_) (fun c42 => absurd rfl c42)
        exact in_end l (Or.inr ⟨e, rfl, ⟨tt, td, hS⟩, hR⟩) hF
set_option maxHeartbeats 4000000 in
set_option maxRecDepth 100000 in
theorem t_readInto (l : Launch) {G : PH} {h hr n p : Nat} {tx : Nat → Int32} {ρ : Riv} {fn fp tt td : Int32} (k : txw G h n tx p fn fp tt td) (hR : isRiver G hr ρ) (hd : hr + 7 ≤ h ∨ h + 2 ≤ hr) : Tri l mX8_readInto 0 0 [.ref h, .ref hr] G (fun w G' => iPost G' h hr n tx w (prs n tx 201 (0, rZ, false, false)) ∧ Fr2 G G' h 1 hr 7) := by
  refine Tri.intro (L := [_, _, _]) okX8_readInto.1 (Nat.le_of_ble_eq_true rfl) rfl ?_
  refine P_aload_n dX8_readInto_0 rfl ?_
  refine P_iconst dX8_readInto_1 ci_0 ?_
  refine P_putI dX8_readInto_2 flX8_19 k.1 (Nat.le_of_ble_eq_true rfl) ?_
  refine P_aload_n dX8_readInto_5 rfl ?_
  refine P_iconst dX8_readInto_6 ci_0 ?_
  refine P_putI dX8_readInto_7 flX8_22 (set_at k.1) (Nat.le_of_ble_eq_true rfl) ?_
  refine P_aload_n dX8_readInto_10 rfl ?_
  refine P_iconst dX8_readInto_11 ci_m1 ?_
  refine P_putI dX8_readInto_12 flX8_25 (set_at (set_at k.1)) (Nat.le_of_ble_eq_true rfl) ?_
  refine P_aload_n dX8_readInto_15 rfl ?_
  refine P_iconst dX8_readInto_16 ci_0 ?_
  refine P_putZ dX8_readInto_17 flX8_28 (set_at (set_at (set_at k.1))) (Nat.le_of_ble_eq_true rfl) (by first | exact Or.inl rfl | exact Or.inr rfl) ?_
  refine P_aload_n dX8_readInto_20 rfl ?_
  refine P_iconst dX8_readInto_21 ci_0 ?_
  refine P_putZ dX8_readInto_22 flX8_32 (set_at (set_at (set_at (set_at k.1)))) (Nat.le_of_ble_eq_true rfl) (by first | exact Or.inl rfl | exact Or.inr rfl) ?_
  have hF1 : Fr G (((((G.set h (oT h n 0 fn fp tt td)).set h (oT h n 0 0 fp tt td)).set h (oT h n 0 0 (-1) tt td)).set h (oT h n 0 0 (-1) 0 td)).set h (oT h n 0 0 (-1) 0 0)) h 1 := (((Fr.set (by omega) (by omega)).tr (Fr.set (by omega) (by omega))).tr (Fr.set (by omega) (by omega))).tr ((Fr.set (by omega) (by omega)).tr (Fr.set (by omega) (by omega)))
  have k1 : txt (((((G.set h (oT h n 0 fn fp tt td)).set h (oT h n 0 0 fp tt td)).set h (oT h n 0 0 (-1) tt td)).set h (oT h n 0 0 (-1) 0 td)).set h (oT h n 0 0 (-1) 0 0)) h n tx 0 0 (-1) 0 0 := ⟨set_at (set_at (set_at (set_at (set_at k.1)))), hF1.at k.2.1 (by omega), k.2.2, Nat.zero_le _⟩
  have hR1 := hR.fr hF1 (by omega)
  refine P_aload_n dX8_readInto_25 rfl ?_
  refine P_callV dX8_readInto_26 lkX8_35 okX6_clear ⟨Nat.le_of_ble_eq_true rfl, Nat.le_of_ble_eq_true rfl⟩ (t_clearR l hR1) rfl rfl hR1.at (Nat.le_of_ble_eq_true rfl) ⟨Nat.le_of_ble_eq_true rfl, Nat.le_of_ble_eq_true rfl⟩ (fun v26 G26 q26 => ?_)
  obtain ⟨rfl, hR2, hF2⟩ := q26
  refine P_iconst dX8_readInto_29 ci_0 ?_
  refine P_istore_n (L' := [_, _, _]) dX8_readInto_30 (Nat.le_of_ble_eq_true rfl) rfl ?_
  exact lp_into l hd 202 G26 0 (by omega) (by omega) (Or.inl ⟨(0, rZ, false, false), tS_of (k1.fr hF2 (by omega)), isRiver_z hR2, rfl⟩) (hF1.l2.tr hF2.r2)
