def oS (o o' : MV) : Prop := mD o' = mD o ∧ mS o' = mS o ∧ mE o' = mE o ∧ mL o' = mL o ∧ mF o' = mF o
theorem oS.rf {o : MV} : oS o o := ⟨rfl, rfl, rfl, rfl, rfl⟩
abbrev oK (o : MV) (k x : Int32) : MV := (mD o, mS o, mE o, mL o, mF o, k, x, mA o, mW o, mT o, mZ o, mO o, mB o)
def lv : Option (Nat × Nat × Int64) → Int64
  | none => -1
  | some b => b.2.2
theorem mst.obj {G : PH} {o o' : MV} {f : Nat → Int32} {ρ : Riv} (k : mst G o f ρ) : mst (G.set 164 (oM o')) o' f ρ := ⟨set_at k.1, set_ne k.2.1 (by decide), k.2.2⟩
theorem fr1 {G : PH} {c : PCell} : Fr2 G (G.set 164 c) 164 1 173 5 := (Fr.set (a := 164) (n := 1) (by omega) (by omega)).l2
set_option maxHeartbeats 4000000 in
set_option maxRecDepth 100000 in
theorem lp_mbest (l : Launch) {G0 : PH} {o : MV} {f : Nat → Int32} {ρ : Riv} {r : Nat} {fi : Nat → Int64} (hr : r < rN ρ) (hv : rVal ρ) (hf : fitB ρ r (rT ρ) = true) (hin : ∀ j, j < rT ρ → fi (24 * r + j) = INN ρ r j) : ∀ (n : Nat) (G : PH) (k x : Nat) (o' : MV), (21 - k) * 12 - x < n → k ≤ 20 → x ≤ 11 → mst G o' f ρ → (∃ fo fs fa fb, mfl G fi fo fs fa fb) → (oS o o' ∧ ∀ b, bsS ρ r (11 * k + x) = some b → mK o' = nI b.1 ∧ mX o' = nI b.2.1) → Fr2 G0 G 164 1 173 5 → WP mX10_best l (rmM mX10_best 0 0) (ZM 0 0 (fun w G' => w = some (.long (bsG ρ r).2.2) ∧ (∃ o', mst G' o' f ρ ∧ mK o' = nI (bsG ρ r).1 ∧ mX o' = nI (bsG ρ r).2.1 ∧ oS o o') ∧ (∃ fo fs fa fb, mfl G' fi fo fs fa fb) ∧ Fr2 G0 G' 164 1 173 5)) XT 0 0 17 [some (.ref 164), some (.int (nI r)), some (.long (lv (bsS ρ r (11 * k + x)))), none, some (.int (nI k)), some (.int (nI x)), none, none] [] G := by
  intro n
  induction n with
  | zero => intro G  k x  o' hn hk20 hx11 hk km hI hF; exact absurd hn (Nat.not_lt_zero _)
  | succ n ih =>
    intro G  k x  o' hn hk20 hx11 hk km hI hF
    have hb := hk.2.2.2; have hT : rT ρ ≤ 24 := hb.2.1; have hT2 : 2 ≤ rT ρ := hb.1; have hN : rN ρ ≤ 6 := hb.2.2.2.2
    refine P_iload dX10_best_17 rfl ?_
    refine P_bipush dX10_best_19 bp_10 ?_
    refine P_icmp_gt (tgt := 93) dX10_best_21 (by decide) (fun c21 => ?_) (fun c21 => ?_)
    · have hx2 : x = 11 := by have : ¬ x ≤ 10 := fun q => absurd c21 (Int32.not_lt.mpr (nI_le (b := 10) q (by decide))); omega
      subst hx2
      refine P_iinc (L' := [_, _, _, _, _, _, _, _]) dX10_best_93 rfl (ii_1 _) (Nat.le_of_ble_eq_true rfl) rfl ?_
      rw [nI_1]
      refine P_goto (tgt := 7) dX10_best_96 (by decide) ?_
      refine P_iload dX10_best_7 rfl ?_
      refine P_bipush dX10_best_9 bp_20 ?_
      refine P_icmp_gt (tgt := 99) dX10_best_11 (by decide) (fun c11 => ?_) (fun c11 => ?_)
      · have hk2 : k = 20 := by have : ¬ k + 1 ≤ 20 := fun q => absurd c11 (Int32.not_lt.mpr (nI_le (b := 20) q (by decide))); omega
        subst hk2
        obtain ⟨b9, hb9⟩ := Option.isSome_iff_exists.mp (bsS_some (ρ := ρ) (r := r) hb.2.2.2.1 120)
        have hbg := bs_get hb9
        have hb8 : bsS ρ r (11 * 20 + 11) = some b9 := hb9
        refine P_lload_n dX10_best_99 rfl ?_
        exact P_lret dX10_best_100 rfl ⟨Nat.le_refl _, Nat.le_refl _⟩ ⟨by rw [hbg, hb8]; rfl, ⟨o', hk, by rw [hbg]; exact (hI.2 b9 hb8).1, by rw [hbg]; exact (hI.2 b9 hb8).2, hI.1⟩, km, hF⟩
      · have hk2 : k + 1 ≤ 20 := Classical.byContradiction fun q => c11 (nI_lt (a := 20) (by omega) (by omega))
        refine P_iconst dX10_best_14 ci_0 ?_
        refine P_istore (L' := [_, _, _, _, _, _, _, _]) dX10_best_15 (Nat.le_of_ble_eq_true rfl) rfl ?_
        refine P_loc ?_ (ih G (k + 1) 0 o' (by omega) hk2 (by omega) hk km (by rw [show 11 * (k + 1) + 0 = 11 * k + 11 by omega]; exact hI) hF)
        rw [show 11 * (k + 1) + 0 = 11 * k + 11 by omega]
        simp only [subL, List.head?_cons, List.tail_cons]; and_intros <;> first | rfl | trivial
    · have hx10 : x < 11 := Classical.byContradiction fun q => c21 (nI_lt (a := 10) (by omega) (by omega))
      refine P_aload_n dX10_best_24 rfl ?_
      refine P_iload dX10_best_25 rfl ?_
      refine P_iload dX10_best_27 rfl ?_
      refine P_callVp dX10_best_29 lkX10_132 okX10_isLawful ⟨Nat.le_of_ble_eq_true rfl, Nat.le_of_ble_eq_true rfl⟩ (m_isLawful l hk.1 hk.2.1 hk.2.2.1) rfl rfl hk.1 (Nat.le_of_ble_eq_true rfl) ⟨Nat.le_of_ble_eq_true rfl, Nat.le_of_ble_eq_true rfl⟩ ?_
      refine P_if_eq (tgt := 47) dX10_best_32 (by decide) (fun c32 => ?_) (fun c32 => ?_)
      · have hl := (b2p _).mp c32
        have hnew := bs_no (ρ := ρ) (r := r) (k := k) (x := x) hx10 hl
        refine P_ldc2 dX10_best_47 kcX10_130 ?_
        refine P_lstore (L' := [_, _, _, _, _, _, _, _]) dX10_best_50 (Nat.le_of_ble_eq_true rfl) rfl ?_
        refine P_lload dX10_best_52 rfl ?_
        refine P_lconst dX10_best_54 lc_0 ?_
        refine P_lcmp dX10_best_55 ?_
        refine P_if_lt (tgt := 87) dX10_best_56 (by decide) (fun c56 => ?_) (fun c56 => ?_)
        · refine P_iinc (L' := [_, _, _, _, _, _, _, _]) dX10_best_87 rfl (ii_1 _) (Nat.le_of_ble_eq_true rfl) rfl ?_
          rw [nI_1]
          refine P_goto (tgt := 17) dX10_best_90 (by decide) ?_
          refine P_loc ?_ (ih G k (x + 1) o' (by omega) hk20 (by omega) hk km (by rw [show 11 * k + (x + 1) = 11 * k + x + 1 by omega, hnew]; exact hI) hF)
          rw [show 11 * k + (x + 1) = 11 * k + x + 1 by omega, hnew]
          simp only [subL, List.head?_cons, List.tail_cons]; and_intros <;> first | rfl | trivial
        · exact absurd ((lg_cmp_lt _ _).mpr (by decide)) c56
      · have hl := b2y c32
        refine P_aload_n dX10_best_35 rfl ?_
        refine P_iload_n dX10_best_36 rfl ?_
        refine P_iload dX10_best_37 rfl ?_
        refine P_iload dX10_best_39 rfl ?_
        refine P_callV dX10_best_41 lkX10_136 okX10_difference ⟨Nat.le_of_ble_eq_true rfl, Nat.le_of_ble_eq_true rfl⟩ (m_difference l hk km.choose_spec.choose_spec.choose_spec.choose_spec hr hk20 (by omega) hv hin) rfl rfl hk.1 (Nat.le_of_ble_eq_true rfl) ⟨Nat.le_of_ble_eq_true rfl, Nat.le_of_ble_eq_true rfl⟩ (fun v41 G41 q41 => ?_)
        obtain ⟨rfl, km1, hF1⟩ := q41
        have hk1 := hk.fr hF1 (by decide)
        have hF2 := hF.tr hF1.r2
        have hnn := DF_nn hb hv hr hk20 (by omega) hl hf
        refine P_goto (tgt := 50) dX10_best_44 (by decide) ?_
        refine P_lstore (L' := [_, _, _, _, _, _, _, _]) dX10_best_50 (Nat.le_of_ble_eq_true rfl) rfl ?_
        refine P_lload dX10_best_52 rfl ?_
        refine P_lconst dX10_best_54 lc_0 ?_
        refine P_lcmp dX10_best_55 ?_
        refine P_if_lt (tgt := 87) dX10_best_56 (by decide) (fun c56 => ?_) (fun c56 => ?_)
        · rw [lg_cmp_lt] at c56
          exact absurd c56 hnn
        · refine P_lload_n dX10_best_59 rfl ?_
          refine P_lconst dX10_best_60 lc_0 ?_
          refine P_lcmp dX10_best_61 ?_
          refine P_if_lt (tgt := 72) dX10_best_62 (by decide) (fun c62 => ?_) (fun c62 => ?_)
          · rw [lg_cmp_lt] at c62
            have hbn : bsS ρ r (11 * k + x) = none := by
              cases e : bsS ρ r (11 * k + x) with
              | none => rfl
              | some b => rw [e] at c62; exact absurd c62 (bsS_nn hb hv hr hf _ b (by omega) e)
            have hnew : bsS ρ r (11 * k + x + 1) = some (k, x, DF ρ r (nI k) (nI x)) := by rw [bs_yes hx10 hl, hbn]
            refine P_lload dX10_best_72 rfl ?_
            refine P_lstore_n (L' := [_, _, _, _, _, _, _, _]) dX10_best_74 (Nat.le_of_ble_eq_true rfl) rfl ?_
            refine P_aload_n dX10_best_75 rfl ?_
            refine P_iload dX10_best_76 rfl ?_
            refine P_putI dX10_best_78 flX10_140 hk1.1 (Nat.le_of_ble_eq_true rfl) ?_
            refine P_aload_n dX10_best_81 rfl ?_
            refine P_iload dX10_best_82 rfl ?_
            refine P_putI dX10_best_84 flX10_143 (set_at hk1.1) (Nat.le_of_ble_eq_true rfl) ?_
            refine P_iinc (L' := [_, _, _, _, _, _, _, _]) dX10_best_87 rfl (ii_1 _) (Nat.le_of_ble_eq_true rfl) rfl ?_
            rw [nI_1]
            refine P_goto (tgt := 17) dX10_best_90 (by decide) ?_
            refine P_loc ?_ (ih _ k (x + 1) (oK o' (nI k) (nI x)) (by omega) hk20 (by omega) ⟨set_at (set_at hk1.1), set_ne (set_ne hk1.2.1 (by decide)) (by decide), hk1.2.2⟩ (by obtain ⟨a1, a2, a3, a4, hm⟩ := km1; exact ⟨a1, a2, a3, a4, (hm.fr (Fr.set (a := 164) (n := 1) (by omega) (by omega)) (by decide)).fr (Fr.set (a := 164) (n := 1) (by omega) (by omega)) (by decide)⟩) ⟨hI.1, fun b e => ?_⟩ ((hF2.tr fr1).tr fr1))
            · rw [show 11 * k + (x + 1) = 11 * k + x + 1 by omega, hnew]
              simp only [subL, List.head?_cons, List.tail_cons]; and_intros <;> first | rfl | trivial
            · rw [show 11 * k + (x + 1) = 11 * k + x + 1 by omega, hnew] at e
              cases e; exact ⟨rfl, rfl⟩
          · refine P_lload dX10_best_65 rfl ?_
            refine P_lload_n dX10_best_67 rfl ?_
            refine P_lcmp dX10_best_68 ?_
            refine P_if_ge (tgt := 87) dX10_best_69 (by decide) (fun c69 => ?_) (fun c69 => ?_)
            · rw [lg_cmp_ge] at c69
              rw [lg_cmp_lt] at c62
              obtain ⟨b, eb⟩ : ∃ b, bsS ρ r (11 * k + x) = some b := by
                cases e : bsS ρ r (11 * k + x) with
                | none => rw [e] at c62; exact absurd (show lv none < 0 by decide) c62
                | some b => exact ⟨b, rfl⟩
              have hnew : bsS ρ r (11 * k + x + 1) = bsS ρ r (11 * k + x) := by
                rw [bs_yes hx10 hl, eb]
                rw [eb] at c69
                exact if_neg (Int64.not_lt.mpr c69)
              refine P_iinc (L' := [_, _, _, _, _, _, _, _]) dX10_best_87 rfl (ii_1 _) (Nat.le_of_ble_eq_true rfl) rfl ?_
              rw [nI_1]
              refine P_goto (tgt := 17) dX10_best_90 (by decide) ?_
              refine P_loc ?_ (ih G41 k (x + 1) o' (by omega) hk20 (by omega) hk1 km1 (by rw [show 11 * k + (x + 1) = 11 * k + x + 1 by omega, hnew]; exact hI) hF2)
              rw [show 11 * k + (x + 1) = 11 * k + x + 1 by omega, hnew]
              simp only [subL, List.head?_cons, List.tail_cons]; and_intros <;> first | rfl | trivial
            · rw [lg_cmp_ge] at c69
              rw [lg_cmp_lt] at c62
              obtain ⟨b, eb⟩ : ∃ b, bsS ρ r (11 * k + x) = some b := by
                cases e : bsS ρ r (11 * k + x) with
                | none => rw [e] at c62; exact absurd (show lv none < 0 by decide) c62
                | some b => exact ⟨b, rfl⟩
              have hnew : bsS ρ r (11 * k + x + 1) = some (k, x, DF ρ r (nI k) (nI x)) := by
                rw [bs_yes hx10 hl, eb]
                rw [eb] at c69
                exact if_pos (Int64.not_le.mp c69)
              refine P_lload dX10_best_72 rfl ?_
              refine P_lstore_n (L' := [_, _, _, _, _, _, _, _]) dX10_best_74 (Nat.le_of_ble_eq_true rfl) rfl ?_
              refine P_aload_n dX10_best_75 rfl ?_
              refine P_iload dX10_best_76 rfl ?_
              refine P_putI dX10_best_78 flX10_140 hk1.1 (Nat.le_of_ble_eq_true rfl) ?_
              refine P_aload_n dX10_best_81 rfl ?_
              refine P_iload dX10_best_82 rfl ?_
              refine P_putI dX10_best_84 flX10_143 (set_at hk1.1) (Nat.le_of_ble_eq_true rfl) ?_
              refine P_iinc (L' := [_, _, _, _, _, _, _, _]) dX10_best_87 rfl (ii_1 _) (Nat.le_of_ble_eq_true rfl) rfl ?_
              rw [nI_1]
              refine P_goto (tgt := 17) dX10_best_90 (by decide) ?_
              refine P_loc ?_ (ih _ k (x + 1) (oK o' (nI k) (nI x)) (by omega) hk20 (by omega) ⟨set_at (set_at hk1.1), set_ne (set_ne hk1.2.1 (by decide)) (by decide), hk1.2.2⟩ (by obtain ⟨a1, a2, a3, a4, hm⟩ := km1; exact ⟨a1, a2, a3, a4, (hm.fr (Fr.set (a := 164) (n := 1) (by omega) (by omega)) (by decide)).fr (Fr.set (a := 164) (n := 1) (by omega) (by omega)) (by decide)⟩) ⟨hI.1, fun b e => ?_⟩ ((hF2.tr fr1).tr fr1))
              · rw [show 11 * k + (x + 1) = 11 * k + x + 1 by omega, hnew]
                simp only [subL, List.head?_cons, List.tail_cons]; and_intros <;> first | rfl | trivial
              · rw [show 11 * k + (x + 1) = 11 * k + x + 1 by omega, hnew] at e
                cases e; exact ⟨rfl, rfl⟩
theorem m_best (l : Launch) {G : PH} {o : MV} {f : Nat → Int32} {ρ : Riv} {r : Nat} {fi fo fs fa fb : Nat → Int64} (hk : mst G o f ρ) (km : mfl G fi fo fs fa fb) (hr : r < rN ρ) (hv : rVal ρ) (hf : fitB ρ r (rT ρ) = true) (hin : ∀ j, j < rT ρ → fi (24 * r + j) = INN ρ r j) : Tri l mX10_best 0 0 [.ref 164, .int (nI r)] G (fun w G' => w = some (.long (bsG ρ r).2.2) ∧ (∃ o', mst G' o' f ρ ∧ mK o' = nI (bsG ρ r).1 ∧ mX o' = nI (bsG ρ r).2.1 ∧ oS o o') ∧ (∃ fo fs fa fb, mfl G' fi fo fs fa fb) ∧ Fr2 G G' 164 1 173 5) := by
  refine Tri.intro (L := [_, _, _, _, _, _, _, _]) okX10_best.1 (Nat.le_of_ble_eq_true rfl) rfl ?_
  refine P_ldc2 dX10_best_0 kcX10_130 ?_
  refine P_lstore_n (L' := [_, _, _, _, _, _, _, _]) dX10_best_3 (Nat.le_of_ble_eq_true rfl) rfl ?_
  refine P_iconst dX10_best_4 ci_0 ?_
  refine P_istore (L' := [_, _, _, _, _, _, _, _]) dX10_best_5 (Nat.le_of_ble_eq_true rfl) rfl ?_
  refine P_iload dX10_best_7 rfl ?_
  refine P_bipush dX10_best_9 bp_20 ?_
  refine P_icmp_gt (tgt := 99) dX10_best_11 (by decide) (fun c11 => ?_) (fun c11 => ?_)
  · exact absurd c11 (by decide)
  · refine P_iconst dX10_best_14 ci_0 ?_
    refine P_istore (L' := [_, _, _, _, _, _, _, _]) dX10_best_15 (Nat.le_of_ble_eq_true rfl) rfl ?_
    exact P_loc (by simp only [subL, List.head?_cons, List.tail_cons]; and_intros <;> first | rfl | trivial) (lp_mbest l hr hv hf hin 300 G 0 0 o (by omega) (by omega) (by omega) hk ⟨_, _, _, _, km⟩ ⟨oS.rf, fun b e => by cases e⟩ Fr2.rf)
def bmF (ρ : Riv) (r : Nat) : Nat → Nat
  | 0 => 2 ^ r
  | m + 1 => if thr ρ r (r + 1 + m) then bmF ρ r m ||| 2 ^ (r + 1 + m) else bmF ρ r m
theorem bm_shl : ∀ b, b < 6 → (1 : Int32) <<< (nI b &&& 31) = nI (2 ^ b) := by decide +kernel
theorem bm_or : ∀ a, a < 64 → ∀ b, b < 6 → nI a ||| nI (2 ^ b) = nI (a ||| 2 ^ b) := by decide +kernel
theorem bm_or0 : ∀ a, a < 64 → nI a ||| 0 = nI a := by decide +kernel
theorem bm_bit : ∀ a, a < 64 → ∀ b, b < 6 → ((nI a >>> (nI b &&& 31)) &&& 1 = 1 ↔ a.testBit b = true) := by decide +kernel
theorem bm_lt {ρ : Riv} {r : Nat} : ∀ m, r + m < 6 → bmF ρ r m < 64
  | 0, h => Nat.lt_of_lt_of_le (Nat.pow_lt_pow_right (by decide) h) (by decide)
  | m + 1, h => by
    have ih := bm_lt (ρ := ρ) (r := r) m (by omega)
    unfold bmF
    split
    · exact Nat.or_lt_two_pow (n := 6) ih (Nat.lt_of_lt_of_le (Nat.pow_lt_pow_right (by decide) (show r + 1 + m < 6 by omega)) (by decide))
    · exact ih
theorem thr_lo {ρ : Riv} {r b : Nat} (h : b < r) : thr ρ r b = false := by
  show thrF ρ r 7 b = false
  rw [show thrF ρ r 7 b = if b = r then true else if r < b ∧ 0 ≤ rF ρ b 0 then thrF ρ r 6 (rF ρ b 0).toNatClampNeg else false from rfl, if_neg (by omega), if_neg (by omega)]
theorem bm_ok {ρ : Riv} {r : Nat} : ∀ m b, b ≤ r + m → (bmF ρ r m).testBit b = thr ρ r b
  | 0, b, h => by
    show (2 ^ r).testBit b = _
    rw [Nat.testBit_two_pow]
    by_cases e : b = r
    · subst e; rw [thr_self]; exact decide_eq_true rfl
    · rw [thr_lo (by omega)]; exact decide_eq_false (fun z => e z.symm)
  | m + 1, b, h => by
    unfold bmF
    by_cases e : b = r + 1 + m
    · subst e
      have hz : (bmF ρ r m).testBit (r + 1 + m) = false := by
        have : ∀ m b, r + m < b → (bmF ρ r m).testBit b = false := by
          intro m
          induction m with
          | zero => intro b hb; show (2 ^ r).testBit b = _; rw [Nat.testBit_two_pow]; exact decide_eq_false (by omega)
          | succ m ih =>
            intro b hb
            unfold bmF
            split
            · rw [Nat.testBit_or, ih b (by omega), Nat.testBit_two_pow, Bool.false_or]; exact decide_eq_false (by omega)
            · exact ih b (by omega)
        exact this m _ (by omega)
      split
      · rename_i ht
        rw [Nat.testBit_or, hz, Nat.testBit_two_pow, ht, Bool.false_or]; exact decide_eq_true rfl
      · rename_i ht
        rw [hz]; exact (Bool.eq_false_iff.mpr ht).symm
    · have ih := bm_ok (ρ := ρ) (r := r) m b (by omega)
      split
      · rw [Nat.testBit_or, ih, Nat.testBit_two_pow, decide_eq_false (fun z => e z.symm), Bool.or_false]
      · exact ih
set_option maxRecDepth 100000 in
theorem lp_mthrough (l : Launch) {G : PH} {o : MV} {f : Nat → Int32} {ρ : Riv} {r : Nat} (hk : mst G o f ρ) (hv : rVal ρ) (hr : r < rN ρ) : ∀ (n : Nat) (m : Nat), rN ρ - (r + 1 + m) < n → r + 1 + m ≤ rN ρ → WP mX10_throughMany l (rmM mX10_throughMany 0 0) (ZM 0 0 (fun w G' => w = some (.int (thC ρ r (rN ρ - r))) ∧ G' = G)) XT 0 0 11 [some (.ref 164), some (.int (nI r)), some (.int (nI (bmF ρ r m))), some (.int (thC ρ r (m + 1))), some (.int (nI (r + 1 + m))), none, none] [] G := by
  intro n
  induction n with
  | zero => intro m hn hm; exact absurd hn (Nat.not_lt_zero _)
  | succ n ih =>
    intro m hn hm
    have hb := hk.2.2.2; have hT : rT ρ ≤ 24 := hb.2.1; have hT2 : 2 ≤ rT ρ := hb.1; have hN : rN ρ ≤ 6 := hb.2.2.2.2
    have hbm := bm_lt (ρ := ρ) (r := r) m (by omega)
    refine P_iload dX10_throughMany_11 rfl ?_
    refine P_aload_n dX10_throughMany_13 rfl ?_
    refine P_get dX10_throughMany_14 flX10_7 hk.1 rfl ?_
    refine P_iconst dX10_throughMany_17 ci_2 ?_
    refine P_iald dX10_throughMany_18 hk.2.1 (vp_in_nI (show 2 < 315 by decide) (by decide)) ?_
    rw [show f (Int32.toNatClampNeg 2) = nI (rN ρ) from hk.2.2.1.2.2.1]
    refine P_icmp_ge (tgt := 88) dX10_throughMany_19 (by decide) (fun c19 => ?_) (fun c19 => ?_)
    · have hi2 : rN ρ - r = m + 1 := by have := Nat.not_lt.mp fun q : r + 1 + m < rN ρ => nI_ge q (by omega) c19; omega
      rw [hi2]
      refine P_iload_n dX10_throughMany_88 rfl ?_
      exact P_iret dX10_throughMany_89 rfl ⟨Nat.le_refl _, Nat.le_refl _⟩ ⟨rfl, rfl⟩
    · have hlt : r + 1 + m < rN ρ := Nat.not_le.mp fun q => c19 (nI_le q (by omega))
      refine P_aload_n dX10_throughMany_22 rfl ?_
      refine P_iload dX10_throughMany_23 rfl ?_
      refine P_iconst dX10_throughMany_25 ci_0 ?_
      refine P_callVp dX10_throughMany_26 lkX10_95 okX10_of ⟨Nat.le_of_ble_eq_true rfl, Nat.le_of_ble_eq_true rfl⟩ (m_of (i := 0) l hk.1 hk.2.1 (by omega)) rfl rfl hk.1 (Nat.le_of_ble_eq_true rfl) ⟨Nat.le_of_ble_eq_true rfl, Nat.le_of_ble_eq_true rfl⟩ ?_
      rw [(hk.2.2.1.2.2.2 (r + 1 + m) hlt).1 0 (by decide)]
      have hth := thr_eq hv hN hlt (show r < r + 1 + m by omega)
      refine P_istore (L' := [_, _, _, _, _, _, _]) dX10_throughMany_29 (Nat.le_of_ble_eq_true rfl) rfl ?_
      refine P_iload dX10_throughMany_31 rfl ?_
      refine P_if_lt (tgt := 50) dX10_throughMany_33 (by decide) (fun c33 => ?_) (fun c33 => ?_)
      · have ht : thr ρ r (r + 1 + m) = false := by rw [hth, if_neg (Int32.not_le.mpr c33)]
        refine P_iconst dX10_throughMany_50 ci_0 ?_
        refine P_istore (L' := [_, _, _, _, _, _, _]) dX10_throughMany_51 (Nat.le_of_ble_eq_true rfl) rfl ?_
        refine P_iload_n dX10_throughMany_53 rfl ?_
        refine P_iload dX10_throughMany_54 rfl ?_
        refine P_if_eq (tgt := 66) dX10_throughMany_56 (by decide) (fun c56 => ?_) (fun c56 => ?_)
        · refine P_iconst dX10_throughMany_66 ci_0 ?_
          refine P_ior dX10_throughMany_67 ?_
          refine P_istore_n (L' := [_, _, _, _, _, _, _]) dX10_throughMany_68 (Nat.le_of_ble_eq_true rfl) rfl ?_
          refine P_iload_n dX10_throughMany_69 rfl ?_
          refine P_iload dX10_throughMany_70 rfl ?_
          refine P_if_eq (tgt := 79) dX10_throughMany_72 (by decide) (fun c72 => ?_) (fun c72 => ?_)
          · refine P_iconst dX10_throughMany_79 ci_0 ?_
            refine P_iadd dX10_throughMany_80 ?_
            refine P_istore_n (L' := [_, _, _, _, _, _, _]) dX10_throughMany_81 (Nat.le_of_ble_eq_true rfl) rfl ?_
            refine P_iinc (L' := [_, _, _, _, _, _, _]) dX10_throughMany_82 rfl (ii_1 _) (Nat.le_of_ble_eq_true rfl) rfl ?_
            rw [show nI (r + 1 + m) + 1 = nI (r + 1 + (m + 1)) from nI_1 _]
            refine P_goto (tgt := 11) dX10_throughMany_85 (by decide) ?_
            refine P_loc ?_ (ih (m + 1) (by omega) (by omega))
            have e1 : thC ρ r (m + 1 + 1) = thC ρ r (m + 1) + (if thr ρ r (r + (m + 1)) then 1 else 0) := rfl
            have e3 : bmF ρ r (m + 1) = if thr ρ r (r + 1 + m) then bmF ρ r m ||| 2 ^ (r + 1 + m) else bmF ρ r m := rfl
            rw [e1, e3, show r + (m + 1) = r + 1 + m by omega, ht]
            first | rw [if_pos rfl, if_pos rfl, ← bm_or _ hbm _ (by omega), ← bm_shl _ (by omega)] | rw [if_neg (by decide), if_neg (by decide)]
            simp only [subL, List.head?_cons, List.tail_cons]; and_intros <;> first | rfl | trivial | exact congrArg (fun z => some (some (Value.int z))) (bm_or0 _ hbm)
          · exact absurd rfl c72
        · exact absurd rfl c56
      · refine P_iload_n dX10_throughMany_36 rfl ?_
        refine P_iload dX10_throughMany_37 rfl ?_
        refine P_ishr dX10_throughMany_39 ?_
        refine P_iconst dX10_throughMany_40 ci_1 ?_
        refine P_iand dX10_throughMany_41 ?_
        refine P_iconst dX10_throughMany_42 ci_1 ?_
        refine P_icmp_ne (tgt := 50) dX10_throughMany_43 (by decide) (fun c43 => ?_) (fun c43 => ?_)
        · have ht : thr ρ r (r + 1 + m) = false := by
            rcases (hv _ hlt).1 with q | ⟨b, hb9, q⟩
            · rw [q] at c33; exact absurd (by decide) c33
            · rw [q] at c43
              rw [hth, q, if_pos (nI_pos' (by omega)), nI_clamp (by omega), ← bm_ok (ρ := ρ) (r := r) m b (by omega)]
              exact Bool.eq_false_iff.mpr fun z => c43 ((bm_bit _ hbm b (by omega)).mpr z)
          refine P_iconst dX10_throughMany_50 ci_0 ?_
          refine P_istore (L' := [_, _, _, _, _, _, _]) dX10_throughMany_51 (Nat.le_of_ble_eq_true rfl) rfl ?_
          refine P_iload_n dX10_throughMany_53 rfl ?_
          refine P_iload dX10_throughMany_54 rfl ?_
          refine P_if_eq (tgt := 66) dX10_throughMany_56 (by decide) (fun c56 => ?_) (fun c56 => ?_)
          · refine P_iconst dX10_throughMany_66 ci_0 ?_
            refine P_ior dX10_throughMany_67 ?_
            refine P_istore_n (L' := [_, _, _, _, _, _, _]) dX10_throughMany_68 (Nat.le_of_ble_eq_true rfl) rfl ?_
            refine P_iload_n dX10_throughMany_69 rfl ?_
            refine P_iload dX10_throughMany_70 rfl ?_
            refine P_if_eq (tgt := 79) dX10_throughMany_72 (by decide) (fun c72 => ?_) (fun c72 => ?_)
            · refine P_iconst dX10_throughMany_79 ci_0 ?_
              refine P_iadd dX10_throughMany_80 ?_
              refine P_istore_n (L' := [_, _, _, _, _, _, _]) dX10_throughMany_81 (Nat.le_of_ble_eq_true rfl) rfl ?_
              refine P_iinc (L' := [_, _, _, _, _, _, _]) dX10_throughMany_82 rfl (ii_1 _) (Nat.le_of_ble_eq_true rfl) rfl ?_
              rw [show nI (r + 1 + m) + 1 = nI (r + 1 + (m + 1)) from nI_1 _]
              refine P_goto (tgt := 11) dX10_throughMany_85 (by decide) ?_
              refine P_loc ?_ (ih (m + 1) (by omega) (by omega))
              have e1 : thC ρ r (m + 1 + 1) = thC ρ r (m + 1) + (if thr ρ r (r + (m + 1)) then 1 else 0) := rfl
              have e3 : bmF ρ r (m + 1) = if thr ρ r (r + 1 + m) then bmF ρ r m ||| 2 ^ (r + 1 + m) else bmF ρ r m := rfl
              rw [e1, e3, show r + (m + 1) = r + 1 + m by omega, ht]
              first | rw [if_pos rfl, if_pos rfl, ← bm_or _ hbm _ (by omega), ← bm_shl _ (by omega)] | rw [if_neg (by decide), if_neg (by decide)]
              simp only [subL, List.head?_cons, List.tail_cons]; and_intros <;> first | rfl | trivial | exact congrArg (fun z => some (some (Value.int z))) (bm_or0 _ hbm)
            · exact absurd rfl c72
          · exact absurd rfl c56
        · have ht : thr ρ r (r + 1 + m) = true := by
            rcases (hv _ hlt).1 with q | ⟨b, hb9, q⟩
            · rw [q] at c33; exact absurd (by decide) c33
            · rw [q] at c43
              rw [hth, q, if_pos (nI_pos' (by omega)), nI_clamp (by omega), ← bm_ok (ρ := ρ) (r := r) m b (by omega)]
              exact (bm_bit _ hbm b (by omega)).mp c43
          refine P_iconst dX10_throughMany_46 ci_1 ?_
          refine P_goto (tgt := 51) dX10_throughMany_47 (by decide) ?_
          refine P_istore (L' := [_, _, _, _, _, _, _]) dX10_throughMany_51 (Nat.le_of_ble_eq_true rfl) rfl ?_
          refine P_iload_n dX10_throughMany_53 rfl ?_
          refine P_iload dX10_throughMany_54 rfl ?_
          refine P_if_eq (tgt := 66) dX10_throughMany_56 (by decide) (fun c56 => ?_) (fun c56 => ?_)
          · exact absurd c56 (by decide)
          · refine P_iconst dX10_throughMany_59 ci_1 ?_
            refine P_iload dX10_throughMany_60 rfl ?_
            refine P_ishl dX10_throughMany_62 ?_
            refine P_goto (tgt := 67) dX10_throughMany_63 (by decide) ?_
            refine P_ior dX10_throughMany_67 ?_
            refine P_istore_n (L' := [_, _, _, _, _, _, _]) dX10_throughMany_68 (Nat.le_of_ble_eq_true rfl) rfl ?_
            refine P_iload_n dX10_throughMany_69 rfl ?_
            refine P_iload dX10_throughMany_70 rfl ?_
            refine P_if_eq (tgt := 79) dX10_throughMany_72 (by decide) (fun c72 => ?_) (fun c72 => ?_)
            · exact absurd c72 (by decide)
            · refine P_iconst dX10_throughMany_75 ci_1 ?_
              refine P_goto (tgt := 80) dX10_throughMany_76 (by decide) ?_
              refine P_iadd dX10_throughMany_80 ?_
              refine P_istore_n (L' := [_, _, _, _, _, _, _]) dX10_throughMany_81 (Nat.le_of_ble_eq_true rfl) rfl ?_
              refine P_iinc (L' := [_, _, _, _, _, _, _]) dX10_throughMany_82 rfl (ii_1 _) (Nat.le_of_ble_eq_true rfl) rfl ?_
              rw [show nI (r + 1 + m) + 1 = nI (r + 1 + (m + 1)) from nI_1 _]
              refine P_goto (tgt := 11) dX10_throughMany_85 (by decide) ?_
              refine P_loc ?_ (ih (m + 1) (by omega) (by omega))
              have e1 : thC ρ r (m + 1 + 1) = thC ρ r (m + 1) + (if thr ρ r (r + (m + 1)) then 1 else 0) := rfl
              have e3 : bmF ρ r (m + 1) = if thr ρ r (r + 1 + m) then bmF ρ r m ||| 2 ^ (r + 1 + m) else bmF ρ r m := rfl
              rw [e1, e3, show r + (m + 1) = r + 1 + m by omega, ht]
              first | rw [if_pos rfl, if_pos rfl, ← bm_or _ hbm _ (by omega), ← bm_shl _ (by omega)] | rw [if_neg (by decide), if_neg (by decide)]
              simp only [subL, List.head?_cons, List.tail_cons]; and_intros <;> first | rfl | trivial | exact congrArg (fun z => some (some (Value.int z))) (bm_or0 _ hbm)
theorem m_throughMany (l : Launch) {G : PH} {o : MV} {f : Nat → Int32} {ρ : Riv} {r : Nat} (hk : mst G o f ρ) (hv : rVal ρ) (hr : r < rN ρ) : Tri l mX10_throughMany 0 0 [.ref 164, .int (nI r)] G (fun w G' => w = some (.int (thC ρ r (rN ρ - r))) ∧ G' = G) := by
  have hb := hk.2.2.2; have hT : rT ρ ≤ 24 := hb.2.1; have hT2 : 2 ≤ rT ρ := hb.1; have hN : rN ρ ≤ 6 := hb.2.2.2.2
  refine Tri.intro (L := [_, _, _, _, _, _, _]) okX10_throughMany.1 (Nat.le_of_ble_eq_true rfl) rfl ?_
  refine P_iconst dX10_throughMany_0 ci_1 ?_
  refine P_iload_n dX10_throughMany_1 rfl ?_
  refine P_ishl dX10_throughMany_2 ?_
  rw [bm_shl r (by omega)]
  refine P_istore_n (L' := [_, _, _, _, _, _, _]) dX10_throughMany_3 (Nat.le_of_ble_eq_true rfl) rfl ?_
  refine P_iconst dX10_throughMany_4 ci_1 ?_
  refine P_istore_n (L' := [_, _, _, _, _, _, _]) dX10_throughMany_5 (Nat.le_of_ble_eq_true rfl) rfl ?_
  refine P_iload_n dX10_throughMany_6 rfl ?_
  refine P_iconst dX10_throughMany_7 ci_1 ?_
  refine P_iadd dX10_throughMany_8 ?_
  rw [show nI r + 1 = nI (r + 1 + 0) from nI_1 r]
  refine P_istore (L' := [_, _, _, _, _, _, _]) dX10_throughMany_9 (Nat.le_of_ble_eq_true rfl) rfl ?_
  refine P_loc ?_ (lp_mthrough l hk hv hr (rN ρ + 1) 0 (by omega) (by omega))
  have e1 : thC ρ r (0 + 1) = 1 := by show 0 + (if thr ρ r (r + 0) then 1 else 0) = (1 : Int32); rw [Nat.add_zero, thr_self]; rfl
  rw [e1]
  simp only [subL, List.head?_cons, List.tail_cons]; and_intros <;> first | rfl | trivial
