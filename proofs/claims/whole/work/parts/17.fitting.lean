theorem ran.at {G : PH} {h : Nat} {ρ : Riv} (k : ran G h ρ) : G[h]? = some (oQ h (rT ρ) (rD ρ)) := by obtain ⟨_, _, _, _, _, kr, _⟩ := k; exact kr.1
theorem ran.fr {G G' : PH} {h a n : Nat} {ρ : Riv} (k : ran G h ρ) (hF : Fr G G' a n) (hd : h + 11 ≤ a ∨ a + n ≤ h) : ran G' h ρ := by obtain ⟨fi, fo, fs, fl, fh, kr, hg⟩ := k; exact ⟨fi, fo, fs, fl, fh, kr.fr hF hd, hg⟩
/-! a REACH fitted to what was seen -/
def fitB (ρ : Riv) (r : Nat) : Nat → Bool
  | 0 => true
  | n + 1 => fitB ρ r n && decide (¬ INN ρ r n < 0 ∧ INN ρ r n ≤ 99999)
def grS (ρ : Riv) (r t : Nat) : Int64 := (nI (rD ρ)).toInt64 * (INN ρ r t + INN ρ r (t + 1) - (rE ρ r t + rE ρ r (t + 1)).toInt64)
def fbS (ρ : Riv) (r : Nat) (x : Int32) (t : Nat) : Int64 := x.toInt64 * INN ρ r t + (20 - x.toInt64) * (rE ρ r t).toInt64
def sSt (ρ : Riv) (r : Nat) : Nat → Int64
  | 0 => 0
  | t + 1 => sSt ρ r t + grS ρ r t
def arS (ρ : Riv) (r : Nat) (x : Int32) : Nat → Int64
  | 0 => 0
  | t + 1 => arS ρ r x t + (fbS ρ r x t * sSt ρ r (t + 1) - fbS ρ r x (t + 1) * sSt ρ r t)
def lpS (ρ : Riv) (r : Nat) (x : Int32) : Int64 := jabs (arS ρ r x (rT ρ - 1))
def nwS (ρ : Riv) (r : Nat) : Nat → Nat × Int64
  | 0 => (0, lpS ρ r 0)
  | n + 1 => if lpS ρ r (nI (n + 1)) < (nwS ρ r n).2 then (n + 1, lpS ρ r (nI (n + 1))) else nwS ρ r n
theorem nwS_le (ρ : Riv) (r : Nat) : ∀ n, (nwS ρ r n).1 ≤ n
  | 0 => Nat.le_refl _
  | n + 1 => by
    have := nwS_le ρ r n
    simp only [nwS]
    split <;> simp <;> omega
def fwS (ρ : Riv) (r : Nat) (x : Int32) : Int64 := mxF (fbS ρ r x) (rT ρ - 1) - mnF (fbS ρ r x) (rT ρ - 1)
def swS (ρ : Riv) (r : Nat) : Int64 := mxF (sSt ρ r) (rT ρ - 1) - mnF (sSt ρ r) (rT ρ - 1)
def lnS (ρ : Riv) (r : Nat) (x : Int32) : Int32 := if 0 < fwS ρ r x then (jmin 20 (10 * swS ρ r / fwS ρ r x)).toInt32 else 0
def dfS (ρ : Riv) (r : Nat) (k x : Int32) : Nat → Int64
  | 0 => 0
  | t + 1 => dfS ρ r k x t + jabs (flP (nI (rD ρ)) k x (rP ρ r) (INN ρ r) t - (rE ρ r t).toInt64)
abbrev DF (ρ : Riv) (r : Nat) (k x : Int32) : Int64 := dfS ρ r k x (rT ρ)
def bsS (ρ : Riv) (r : Nat) : Nat → Option (Nat × Nat × Int64)
  | 0 => none
  | i + 1 => if lawP (nI (rD ρ)) (nI (i / 11)) (nI (i % 11)) then
      (match bsS ρ r i with
        | none => some (i / 11, i % 11, DF ρ r (nI (i / 11)) (nI (i % 11)))
        | some b => if DF ρ r (nI (i / 11)) (nI (i % 11)) < b.2.2 then some (i / 11, i % 11, DF ρ r (nI (i / 11)) (nI (i % 11))) else some b)
      else bsS ρ r i
theorem law100 : ∀ d, d < 10 → lawP (nI d) (nI (110 / 11)) (nI (110 % 11)) := by decide +kernel
theorem bsS_mono {ρ : Riv} {r i : Nat} (h : (bsS ρ r i).isSome = true) : (bsS ρ r (i + 1)).isSome = true := by
  simp only [bsS]
  split
  · split
    · rfl
    · split <;> rfl
  · exact h
theorem bs_law {ρ : Riv} {r i : Nat} (h : lawP (nI (rD ρ)) (nI (i / 11)) (nI (i % 11))) : (bsS ρ r (i + 1)).isSome = true := by
  simp only [bsS]
  rw [if_pos h]
  split
  · rfl
  · split <;> rfl
theorem bsS_some {ρ : Riv} {r : Nat} (hd : rD ρ ≤ 9) : ∀ n, (bsS ρ r (111 + n)).isSome = true
  | 0 => bs_law (i := 110) (law100 (rD ρ) (by omega))
  | n + 1 => bsS_mono (bsS_some hd n)
theorem fitB_all {ρ : Riv} {r : Nat} : ∀ {n : Nat}, fitB ρ r n = true → ∀ t, t < n → ¬ INN ρ r t < 0 ∧ INN ρ r t ≤ 99999
  | 0, _, t, h => absurd h (Nat.not_lt_zero _)
  | n + 1, hq, t, h => by
    simp only [fitB, Bool.and_eq_true, decide_eq_true_eq] at hq
    by_cases e : t = n
    · rw [e]; exact hq.2
    · exact fitB_all hq.1 t (by omega)
set_option maxRecDepth 100000 in
theorem lp_canFit (l : Launch) {G : PH} {h a b : Nat} {ρ : Riv} {r : Nat} (hR : isRiver G a ρ) (hq : ran G b ρ) (hr : r < rN ρ) : ∀ (n : Nat) (t : Nat), rT ρ - t < n → t ≤ rT ρ → fitB ρ r t = true → WP mX3_canFit l (rmM mX3_canFit 0 0) (ZM 0 0 (fun w G' => w = some (.int (if fitB ρ r (rT ρ) then 1 else 0)) ∧ G' = G)) XT 0 0 3 [some (.ref h), some (.ref a), some (.ref b), some (.int (nI r)), some (.int (nI t)), none, none] [] G := by
  intro n
  induction n with
  | zero => intro t hn ht hg; exact absurd hn (Nat.not_lt_zero _)
  | succ n ih =>
    intro t hn ht hg
    have hb := hR.bd; have hN : rN ρ ≤ 6 := hb.2.2.2.2; have hT : rT ρ ≤ 24 := hb.2.1; have h2 : 2 ≤ rT ρ := hb.1
    refine P_iload dX3_canFit_3 rfl ?_
    refine P_aload_n dX3_canFit_5 rfl ?_
    refine P_callVp dX3_canFit_6 lkX3_22 okX6_timeCount ⟨Nat.le_of_ble_eq_true rfl, Nat.le_of_ble_eq_true rfl⟩ (t_timeCount l hR) rfl rfl hR.at (Nat.le_of_ble_eq_true rfl) ⟨Nat.le_of_ble_eq_true rfl, Nat.le_of_ble_eq_true rfl⟩ ?_
    refine P_icmp_ge (tgt := 45) dX3_canFit_9 (by decide) (fun c9 => ?_) (fun c9 => ?_)
    · have hi2 : t = rT ρ := Nat.le_antisymm ht (Nat.not_lt.mp fun z => nI_ge z (by omega) c9)
      subst hi2
      refine P_iconst dX3_canFit_45 ci_1 ?_
      exact P_zret dX3_canFit_46 rfl ⟨Nat.le_refl _, Nat.le_refl _⟩ (by first | exact Or.inl rfl | exact Or.inr rfl) ⟨by rw [if_pos hg], rfl⟩
    · have hlt : t < rT ρ := Nat.not_le.mp fun z => c9 (nI_le z (by omega))
      refine P_aload_n dX3_canFit_12 rfl ?_
      refine P_iload_n dX3_canFit_13 rfl ?_
      refine P_iload dX3_canFit_14 rfl ?_
      refine P_callVp dX3_canFit_16 lkX3_28 okX7_inAt ⟨Nat.le_of_ble_eq_true rfl, Nat.le_of_ble_eq_true rfl⟩ (t_inAt l hq hb hr hlt) rfl rfl hq.at (Nat.le_of_ble_eq_true rfl) ⟨Nat.le_of_ble_eq_true rfl, Nat.le_of_ble_eq_true rfl⟩ ?_
      refine P_lstore (L' := [_, _, _, _, _, _, _]) dX3_canFit_19 (Nat.le_of_ble_eq_true rfl) rfl ?_
      refine P_lload dX3_canFit_21 rfl ?_
      refine P_lconst dX3_canFit_23 lc_0 ?_
      refine P_lcmp dX3_canFit_24 ?_
      refine P_if_lt (tgt := 37) dX3_canFit_25 (by decide) (fun c25 => ?_) (fun c25 => ?_)
      · rw [lg_cmp_lt] at c25
        have e : ¬ fitB ρ r (rT ρ) = true := fun q => by have := fitB_all q t hlt; exact this.1 c25
        refine P_iconst dX3_canFit_37 ci_0 ?_
        exact P_zret dX3_canFit_38 rfl ⟨Nat.le_refl _, Nat.le_refl _⟩ (by first | exact Or.inl rfl | exact Or.inr rfl) ⟨by rw [if_neg e], rfl⟩
      · refine P_lload dX3_canFit_28 rfl ?_
        refine P_ldc2 dX3_canFit_30 kcX3_34 ?_
        refine P_lcmp dX3_canFit_33 ?_
        refine P_if_le (tgt := 39) dX3_canFit_34 (by decide) (fun c34 => ?_) (fun c34 => ?_)
        · rw [lg_cmp_lt] at c25
          rw [lg_cmp_le] at c34
          refine P_iinc (L' := [_, _, _, _, _, _, _]) dX3_canFit_39 rfl (ii_1 _) (Nat.le_of_ble_eq_true rfl) rfl ?_
          rw [nI_1]
          refine P_goto (tgt := 3) dX3_canFit_42 (by decide) ?_
          refine P_loc ?_ (ih (t + 1) (by omega) hlt ?_)
          · simp only [subL, List.head?_cons, List.tail_cons]; and_intros <;> first | rfl | trivial
          · simp only [fitB, hg, Bool.true_and]; exact decide_eq_true ⟨c25, c34⟩
        · rw [lg_cmp_le] at c34
          have e : ¬ fitB ρ r (rT ρ) = true := fun q => by have := fitB_all q t hlt; exact c34 this.2
          refine P_iconst dX3_canFit_37 ci_0 ?_
          exact P_zret dX3_canFit_38 rfl ⟨Nat.le_refl _, Nat.le_refl _⟩ (by first | exact Or.inl rfl | exact Or.inr rfl) ⟨by rw [if_neg e], rfl⟩
theorem t_canFit (l : Launch) {G : PH} {h a b : Nat} {ρ : Riv} {r : Nat} (hR : isRiver G a ρ) (hq : ran G b ρ) (hr : r < rN ρ) : Tri l mX3_canFit 0 0 [.ref h, .ref a, .ref b, .int (nI r)] G (fun w G' => w = some (.int (if fitB ρ r (rT ρ) then 1 else 0)) ∧ G' = G) := by
  refine Tri.intro (L := [_, _, _, _, _, _, _]) okX3_canFit.1 (Nat.le_of_ble_eq_true rfl) rfl ?_
  refine P_iconst dX3_canFit_0 ci_0 ?_
  refine P_istore (L' := [_, _, _, _, _, _, _]) dX3_canFit_1 (Nat.le_of_ble_eq_true rfl) rfl ?_
  exact lp_canFit l hR hq hr (rT ρ + 1) 0 (by omega) (Nat.zero_le _) rfl
theorem t_growth (l : Launch) {G : PH} {h a b : Nat} {ρ : Riv} {r : Nat} {t : Nat} (hR : isRiver G a ρ) (hq : ran G b ρ) (hr : r < rN ρ) (ht : t + 1 < rT ρ) : Tri l mX3_growth 0 0 [.ref h, .ref a, .ref b, .int (nI r), .int (nI t)] G (fun w G' => w = some (.long (grS ρ r t)) ∧ G' = G) := by
  have hb := hR.bd; have hN : rN ρ ≤ 6 := hb.2.2.2.2; have hT : rT ρ ≤ 24 := hb.2.1; have h2 : 2 ≤ rT ρ := hb.1
  refine Tri.intro (L := [_, _, _, _, _, _, _, _, _]) okX3_growth.1 (Nat.le_of_ble_eq_true rfl) rfl ?_
  refine P_aload_n dX3_growth_0 rfl ?_
  refine P_iload_n dX3_growth_1 rfl ?_
  refine P_iload dX3_growth_2 rfl ?_
  refine P_callVp dX3_growth_4 lkX3_28 okX7_inAt ⟨Nat.le_of_ble_eq_true rfl, Nat.le_of_ble_eq_true rfl⟩ (t_inAt l hq hb hr (by omega)) rfl rfl hq.at (Nat.le_of_ble_eq_true rfl) ⟨Nat.le_of_ble_eq_true rfl, Nat.le_of_ble_eq_true rfl⟩ ?_
  refine P_aload_n dX3_growth_7 rfl ?_
  refine P_iload_n dX3_growth_8 rfl ?_
  refine P_iload dX3_growth_9 rfl ?_
  refine P_iconst dX3_growth_11 ci_1 ?_
  refine P_iadd dX3_growth_12 ?_
  rw [nI_1]
  refine P_callVp dX3_growth_13 lkX3_28 okX7_inAt ⟨Nat.le_of_ble_eq_true rfl, Nat.le_of_ble_eq_true rfl⟩ (t_inAt l hq hb hr ht) rfl rfl hq.at (Nat.le_of_ble_eq_true rfl) ⟨Nat.le_of_ble_eq_true rfl, Nat.le_of_ble_eq_true rfl⟩ ?_
  refine P_ladd dX3_growth_16 ?_
  refine P_lstore (L' := [_, _, _, _, _, _, _, _, _]) dX3_growth_17 (Nat.le_of_ble_eq_true rfl) rfl ?_
  refine P_aload_n dX3_growth_19 rfl ?_
  refine P_iload_n dX3_growth_20 rfl ?_
  refine P_iload dX3_growth_21 rfl ?_
  refine P_callVp dX3_growth_23 lkX3_50 okX6_seenAt ⟨Nat.le_of_ble_eq_true rfl, Nat.le_of_ble_eq_true rfl⟩ (t_seenAt l hR hr (by omega)) rfl rfl hR.at (Nat.le_of_ble_eq_true rfl) ⟨Nat.le_of_ble_eq_true rfl, Nat.le_of_ble_eq_true rfl⟩ ?_
  refine P_aload_n dX3_growth_26 rfl ?_
  refine P_iload_n dX3_growth_27 rfl ?_
  refine P_iload dX3_growth_28 rfl ?_
  refine P_iconst dX3_growth_30 ci_1 ?_
  refine P_iadd dX3_growth_31 ?_
  rw [nI_1]
  refine P_callVp dX3_growth_32 lkX3_50 okX6_seenAt ⟨Nat.le_of_ble_eq_true rfl, Nat.le_of_ble_eq_true rfl⟩ (t_seenAt l hR hr (by omega)) rfl rfl hR.at (Nat.le_of_ble_eq_true rfl) ⟨Nat.le_of_ble_eq_true rfl, Nat.le_of_ble_eq_true rfl⟩ ?_
  refine P_iadd dX3_growth_35 ?_
  refine P_i2l dX3_growth_36 ?_
  refine P_lstore (L' := [_, _, _, _, _, _, _, _, _]) dX3_growth_37 (Nat.le_of_ble_eq_true rfl) rfl ?_
  refine P_aload_n dX3_growth_39 rfl ?_
  refine P_callVp dX3_growth_40 lkX3_54 okX6_timeStep ⟨Nat.le_of_ble_eq_true rfl, Nat.le_of_ble_eq_true rfl⟩ (t_timeStep l hR) rfl rfl hR.at (Nat.le_of_ble_eq_true rfl) ⟨Nat.le_of_ble_eq_true rfl, Nat.le_of_ble_eq_true rfl⟩ ?_
  refine P_i2l dX3_growth_43 ?_
  refine P_lload dX3_growth_44 rfl ?_
  refine P_lload dX3_growth_46 rfl ?_
  refine P_lsub dX3_growth_48 ?_
  refine P_lmul dX3_growth_49 ?_
  exact P_lret dX3_growth_50 rfl ⟨Nat.le_refl _, Nat.le_refl _⟩ ⟨rfl, rfl⟩
theorem t_flowBy (l : Launch) {G : PH} {h a b : Nat} {ρ : Riv} {r : Nat} {t : Nat} {x : Int32} (hR : isRiver G a ρ) (hq : ran G b ρ) (hr : r < rN ρ) (ht : t < rT ρ) : Tri l mX3_flowBy 0 0 [.ref h, .ref a, .ref b, .int (nI r), .int (nI t), .int x] G (fun w G' => w = some (.long (fbS ρ r x t)) ∧ G' = G) := by
  have hb := hR.bd; have hN : rN ρ ≤ 6 := hb.2.2.2.2; have hT : rT ρ ≤ 24 := hb.2.1; have h2 : 2 ≤ rT ρ := hb.1
  refine Tri.intro (L := [_, _, _, _, _, _]) okX3_flowBy.1 (Nat.le_of_ble_eq_true rfl) rfl ?_
  refine P_iload dX3_flowBy_0 rfl ?_
  refine P_i2l dX3_flowBy_2 ?_
  refine P_aload_n dX3_flowBy_3 rfl ?_
  refine P_iload_n dX3_flowBy_4 rfl ?_
  refine P_iload dX3_flowBy_5 rfl ?_
  refine P_callVp dX3_flowBy_7 lkX3_28 okX7_inAt ⟨Nat.le_of_ble_eq_true rfl, Nat.le_of_ble_eq_true rfl⟩ (t_inAt l hq hb hr ht) rfl rfl hq.at (Nat.le_of_ble_eq_true rfl) ⟨Nat.le_of_ble_eq_true rfl, Nat.le_of_ble_eq_true rfl⟩ ?_
  refine P_lmul dX3_flowBy_10 ?_
  refine P_ldc2 dX3_flowBy_11 kcX3_57 ?_
  refine P_iload dX3_flowBy_14 rfl ?_
  refine P_i2l dX3_flowBy_16 ?_
  refine P_lsub dX3_flowBy_17 ?_
  refine P_aload_n dX3_flowBy_18 rfl ?_
  refine P_iload_n dX3_flowBy_19 rfl ?_
  refine P_iload dX3_flowBy_20 rfl ?_
  refine P_callVp dX3_flowBy_22 lkX3_50 okX6_seenAt ⟨Nat.le_of_ble_eq_true rfl, Nat.le_of_ble_eq_true rfl⟩ (t_seenAt l hR hr (by omega)) rfl rfl hR.at (Nat.le_of_ble_eq_true rfl) ⟨Nat.le_of_ble_eq_true rfl, Nat.le_of_ble_eq_true rfl⟩ ?_
  refine P_i2l dX3_flowBy_25 ?_
  refine P_lmul dX3_flowBy_26 ?_
  refine P_ladd dX3_flowBy_27 ?_
  exact P_lret dX3_flowBy_28 rfl ⟨Nat.le_refl _, Nat.le_refl _⟩ ⟨rfl, rfl⟩
set_option maxRecDepth 100000 in
theorem lp_loopBy (l : Launch) {G : PH} {h a b : Nat} {ρ : Riv} {r : Nat} {x : Int32} {fs : List Value} (hR : isRiver G a ρ) (hq : ran G b ρ) (hr : r < rN ρ) (hf : G[h]? = some (.inr (3, fs))) : ∀ (n : Nat) (t : Nat), rT ρ - (t + 1) < n → t + 1 ≤ rT ρ → WP mX3_loopBy l (rmM mX3_loopBy 0 0) (ZM 0 0 (fun w G' => w = some (.long (lpS ρ r x)) ∧ G' = G)) XT 0 0 9 [some (.ref h), some (.ref a), some (.ref b), some (.int (nI r)), some (.int x), some (.long (arS ρ r x t)), none, some (.long (sSt ρ r t)), none, some (.int (nI t)), none, none] [] G := by
  intro n
  induction n with
  | zero => intro t hn ht; exact absurd hn (Nat.not_lt_zero _)
  | succ n ih =>
    intro t hn ht
    have hb := hR.bd; have hN : rN ρ ≤ 6 := hb.2.2.2.2; have hT : rT ρ ≤ 24 := hb.2.1; have h2 : 2 ≤ rT ρ := hb.1
    refine P_iload dX3_loopBy_9 rfl ?_
    refine P_iconst dX3_loopBy_11 ci_1 ?_
    refine P_iadd dX3_loopBy_12 ?_
    rw [nI_1]
    refine P_aload_n dX3_loopBy_13 rfl ?_
    refine P_callVp dX3_loopBy_14 lkX3_22 okX6_timeCount ⟨Nat.le_of_ble_eq_true rfl, Nat.le_of_ble_eq_true rfl⟩ (t_timeCount l hR) rfl rfl hR.at (Nat.le_of_ble_eq_true rfl) ⟨Nat.le_of_ble_eq_true rfl, Nat.le_of_ble_eq_true rfl⟩ ?_
    refine P_icmp_ge (tgt := 80) dX3_loopBy_17 (by decide) (fun c17 => ?_) (fun c17 => ?_)
    · have hi2 : t = rT ρ - 1 := by have := Nat.not_lt.mp fun q : t + 1 < rT ρ => nI_ge q (by omega) c17; omega
      subst hi2
      refine P_lload dX3_loopBy_80 rfl ?_
      refine P_callSp dX3_loopBy_82 lkX3_44 okJ9_abs_067f4 ⟨Nat.le_of_ble_eq_true rfl, Nat.le_of_ble_eq_true rfl⟩ (t_jabs l) rfl rfl (Nat.le_of_ble_eq_true rfl) ⟨Nat.le_of_ble_eq_true rfl, Nat.le_of_ble_eq_true rfl⟩ ?_
      exact P_lret dX3_loopBy_85 rfl ⟨Nat.le_refl _, Nat.le_refl _⟩ ⟨rfl, rfl⟩
    · have hlt : t + 1 < rT ρ := Nat.not_le.mp fun z => c17 (nI_le z (by omega))
      refine P_lload dX3_loopBy_20 rfl ?_
      refine P_aload_n dX3_loopBy_22 rfl ?_
      refine P_aload_n dX3_loopBy_23 rfl ?_
      refine P_aload_n dX3_loopBy_24 rfl ?_
      refine P_iload_n dX3_loopBy_25 rfl ?_
      refine P_iload dX3_loopBy_26 rfl ?_
      refine P_callVp dX3_loopBy_28 lkX3_36 okX3_growth ⟨Nat.le_of_ble_eq_true rfl, Nat.le_of_ble_eq_true rfl⟩ (t_growth l hR hq hr hlt) rfl rfl hf (Nat.le_of_ble_eq_true rfl) ⟨Nat.le_of_ble_eq_true rfl, Nat.le_of_ble_eq_true rfl⟩ ?_
      refine P_ladd dX3_loopBy_31 ?_
      refine P_lstore (L' := [_, _, _, _, _, _, _, _, _, _, _, _]) dX3_loopBy_32 (Nat.le_of_ble_eq_true rfl) rfl ?_
      refine P_lload dX3_loopBy_34 rfl ?_
      refine P_aload_n dX3_loopBy_36 rfl ?_
      refine P_aload_n dX3_loopBy_37 rfl ?_
      refine P_aload_n dX3_loopBy_38 rfl ?_
      refine P_iload_n dX3_loopBy_39 rfl ?_
      refine P_iload dX3_loopBy_40 rfl ?_
      refine P_iload dX3_loopBy_42 rfl ?_
      refine P_callVp dX3_loopBy_44 lkX3_40 okX3_flowBy ⟨Nat.le_of_ble_eq_true rfl, Nat.le_of_ble_eq_true rfl⟩ (t_flowBy l hR hq hr (by omega)) rfl rfl hf (Nat.le_of_ble_eq_true rfl) ⟨Nat.le_of_ble_eq_true rfl, Nat.le_of_ble_eq_true rfl⟩ ?_
      refine P_lload dX3_loopBy_47 rfl ?_
      refine P_lmul dX3_loopBy_49 ?_
      refine P_aload_n dX3_loopBy_50 rfl ?_
      refine P_aload_n dX3_loopBy_51 rfl ?_
      refine P_aload_n dX3_loopBy_52 rfl ?_
      refine P_iload_n dX3_loopBy_53 rfl ?_
      refine P_iload dX3_loopBy_54 rfl ?_
      refine P_iconst dX3_loopBy_56 ci_1 ?_
      refine P_iadd dX3_loopBy_57 ?_
      rw [nI_1]
      refine P_iload dX3_loopBy_58 rfl ?_
      refine P_callVp dX3_loopBy_60 lkX3_40 okX3_flowBy ⟨Nat.le_of_ble_eq_true rfl, Nat.le_of_ble_eq_true rfl⟩ (t_flowBy l hR hq hr hlt) rfl rfl hf (Nat.le_of_ble_eq_true rfl) ⟨Nat.le_of_ble_eq_true rfl, Nat.le_of_ble_eq_true rfl⟩ ?_
      refine P_lload dX3_loopBy_63 rfl ?_
      refine P_lmul dX3_loopBy_65 ?_
      refine P_lsub dX3_loopBy_66 ?_
      refine P_ladd dX3_loopBy_67 ?_
      refine P_lstore (L' := [_, _, _, _, _, _, _, _, _, _, _, _]) dX3_loopBy_68 (Nat.le_of_ble_eq_true rfl) rfl ?_
      refine P_lload dX3_loopBy_70 rfl ?_
      refine P_lstore (L' := [_, _, _, _, _, _, _, _, _, _, _, _]) dX3_loopBy_72 (Nat.le_of_ble_eq_true rfl) rfl ?_
      refine P_iinc (L' := [_, _, _, _, _, _, _, _, _, _, _, _]) dX3_loopBy_74 rfl (ii_1 _) (Nat.le_of_ble_eq_true rfl) rfl ?_
      rw [nI_1]
      refine P_goto (tgt := 9) dX3_loopBy_77 (by decide) ?_
      exact P_loc (by simp only [subL, List.head?_cons, List.tail_cons]; and_intros <;> first | rfl | trivial) (ih (t + 1) (by omega) hlt)
theorem t_loopBy (l : Launch) {G : PH} {h a b : Nat} {ρ : Riv} {r : Nat} {x : Int32} {fs : List Value} (hR : isRiver G a ρ) (hq : ran G b ρ) (hr : r < rN ρ) (hf : G[h]? = some (.inr (3, fs))) : Tri l mX3_loopBy 0 0 [.ref h, .ref a, .ref b, .int (nI r), .int x] G (fun w G' => w = some (.long (lpS ρ r x)) ∧ G' = G) := by
  have hb := hR.bd; have hN : rN ρ ≤ 6 := hb.2.2.2.2; have hT : rT ρ ≤ 24 := hb.2.1; have h2 : 2 ≤ rT ρ := hb.1
  refine Tri.intro (L := [_, _, _, _, _, _, _, _, _, _, _, _]) okX3_loopBy.1 (Nat.le_of_ble_eq_true rfl) rfl ?_
  refine P_lconst dX3_loopBy_0 lc_0 ?_
  refine P_lstore (L' := [_, _, _, _, _, _, _, _, _, _, _, _]) dX3_loopBy_1 (Nat.le_of_ble_eq_true rfl) rfl ?_
  refine P_lconst dX3_loopBy_3 lc_0 ?_
  refine P_lstore (L' := [_, _, _, _, _, _, _, _, _, _, _, _]) dX3_loopBy_4 (Nat.le_of_ble_eq_true rfl) rfl ?_
  refine P_iconst dX3_loopBy_6 ci_0 ?_
  refine P_istore (L' := [_, _, _, _, _, _, _, _, _, _, _, _]) dX3_loopBy_7 (Nat.le_of_ble_eq_true rfl) rfl ?_
  exact P_loc (by simp only [subL, List.head?_cons, List.tail_cons]; and_intros <;> first | rfl | trivial) (lp_loopBy l hR hq hr hf (rT ρ + 1) 0 (by omega) (by omega))
set_option maxRecDepth 100000 in
theorem lp_narrow (l : Launch) {G : PH} {h a b : Nat} {ρ : Riv} {r : Nat} {fs : List Value} (hR : isRiver G a ρ) (hq : ran G b ρ) (hr : r < rN ρ) (hf : G[h]? = some (.inr (3, fs))) : ∀ (n : Nat) (i : Nat), 11 - (i + 1) < n → i ≤ 10 → WP mX3_narrowestX l (rmM mX3_narrowestX 0 0) (ZM 0 0 (fun w G' => w = some (.int (nI (nwS ρ r 10).1)) ∧ G' = G)) XT 0 0 16 [some (.ref h), some (.ref a), some (.ref b), some (.int (nI r)), some (.int (nI (nwS ρ r i).1)), some (.long (nwS ρ r i).2), none, some (.int (nI (i + 1))), none, none] [] G := by
  intro n
  induction n with
  | zero => intro i hn hi; exact absurd hn (Nat.not_lt_zero _)
  | succ n ih =>
    intro i hn hi
    refine P_iload dX3_narrowestX_16 rfl ?_
    refine P_bipush dX3_narrowestX_18 bp_10 ?_
    refine P_icmp_gt (tgt := 56) dX3_narrowestX_20 (by decide) (fun c20 => ?_) (fun c20 => ?_)
    · have hi2 : i = 10 := by have : ¬ i + 1 ≤ 10 := fun q => absurd c20 (Int32.not_lt.mpr (nI_le (b := 10) q (by decide))); omega
      subst hi2
      refine P_iload dX3_narrowestX_56 rfl ?_
      exact P_iret dX3_narrowestX_58 rfl ⟨Nat.le_refl _, Nat.le_refl _⟩ ⟨rfl, rfl⟩
    · have hlt : i < 10 := Classical.byContradiction fun q => c20 (nI_lt (a := 10) (by omega) (by omega))
      refine P_aload_n dX3_narrowestX_23 rfl ?_
      refine P_aload_n dX3_narrowestX_24 rfl ?_
      refine P_aload_n dX3_narrowestX_25 rfl ?_
      refine P_iload_n dX3_narrowestX_26 rfl ?_
      refine P_iload dX3_narrowestX_27 rfl ?_
      refine P_callVp dX3_narrowestX_29 lkX3_59 okX3_loopBy ⟨Nat.le_of_ble_eq_true rfl, Nat.le_of_ble_eq_true rfl⟩ (t_loopBy l hR hq hr hf) rfl rfl hf (Nat.le_of_ble_eq_true rfl) ⟨Nat.le_of_ble_eq_true rfl, Nat.le_of_ble_eq_true rfl⟩ ?_
      refine P_lstore (L' := [_, _, _, _, _, _, _, _, _, _]) dX3_narrowestX_32 (Nat.le_of_ble_eq_true rfl) rfl ?_
      refine P_lload dX3_narrowestX_34 rfl ?_
      refine P_lload dX3_narrowestX_36 rfl ?_
      refine P_lcmp dX3_narrowestX_38 ?_
      refine P_if_ge (tgt := 50) dX3_narrowestX_39 (by decide) (fun c39 => ?_) (fun c39 => ?_)
      · rw [lg_cmp_ge] at c39
        have e2 : nwS ρ r (i + 1) = nwS ρ r i := by simp only [nwS]; rw [if_neg (Int64.not_lt.mpr c39)]
        rw [← e2]
        refine P_iinc (L' := [_, _, _, _, _, _, _, _, _, _]) dX3_narrowestX_50 rfl (ii_1 _) (Nat.le_of_ble_eq_true rfl) rfl ?_
        rw [nI_1]
        refine P_goto (tgt := 16) dX3_narrowestX_53 (by decide) ?_
        refine P_loc ?_ (ih (i + 1) (by omega) (by omega))
        rw [e2]
        simp only [subL, List.head?_cons, List.tail_cons]; and_intros <;> first | rfl | trivial
      · rw [lg_cmp_ge] at c39
        have e2 : nwS ρ r (i + 1) = (i + 1, lpS ρ r (nI (i + 1))) := by simp only [nwS]; rw [if_pos (Int64.not_le.mp c39)]
        refine P_lload dX3_narrowestX_42 rfl ?_
        refine P_lstore (L' := [_, _, _, _, _, _, _, _, _, _]) dX3_narrowestX_44 (Nat.le_of_ble_eq_true rfl) rfl ?_
        refine P_iload dX3_narrowestX_46 rfl ?_
        refine P_istore (L' := [_, _, _, _, _, _, _, _, _, _]) dX3_narrowestX_48 (Nat.le_of_ble_eq_true rfl) rfl ?_
        refine P_iinc (L' := [_, _, _, _, _, _, _, _, _, _]) dX3_narrowestX_50 rfl (ii_1 _) (Nat.le_of_ble_eq_true rfl) rfl ?_
        rw [nI_1]
        refine P_goto (tgt := 16) dX3_narrowestX_53 (by decide) ?_
        refine P_loc ?_ (ih (i + 1) (by omega) (by omega))
        rw [e2]
        simp only [subL, List.head?_cons, List.tail_cons]; and_intros <;> first | rfl | trivial
theorem t_narrowX (l : Launch) {G : PH} {h a b : Nat} {ρ : Riv} {r : Nat} {fs : List Value} (hR : isRiver G a ρ) (hq : ran G b ρ) (hr : r < rN ρ) (hf : G[h]? = some (.inr (3, fs))) : Tri l mX3_narrowestX 0 0 [.ref h, .ref a, .ref b, .int (nI r)] G (fun w G' => w = some (.int (nI (nwS ρ r 10).1)) ∧ G' = G) := by
  refine Tri.intro (L := [_, _, _, _, _, _, _, _, _, _]) okX3_narrowestX.1 (Nat.le_of_ble_eq_true rfl) rfl ?_
  refine P_iconst dX3_narrowestX_0 ci_0 ?_
  refine P_istore (L' := [_, _, _, _, _, _, _, _, _, _]) dX3_narrowestX_1 (Nat.le_of_ble_eq_true rfl) rfl ?_
  refine P_aload_n dX3_narrowestX_3 rfl ?_
  refine P_aload_n dX3_narrowestX_4 rfl ?_
  refine P_aload_n dX3_narrowestX_5 rfl ?_
  refine P_iload_n dX3_narrowestX_6 rfl ?_
  refine P_iconst dX3_narrowestX_7 ci_0 ?_
  refine P_callVp dX3_narrowestX_8 lkX3_59 okX3_loopBy ⟨Nat.le_of_ble_eq_true rfl, Nat.le_of_ble_eq_true rfl⟩ (t_loopBy l hR hq hr hf) rfl rfl hf (Nat.le_of_ble_eq_true rfl) ⟨Nat.le_of_ble_eq_true rfl, Nat.le_of_ble_eq_true rfl⟩ ?_
  refine P_lstore (L' := [_, _, _, _, _, _, _, _, _, _]) dX3_narrowestX_11 (Nat.le_of_ble_eq_true rfl) rfl ?_
  refine P_iconst dX3_narrowestX_13 ci_1 ?_
  refine P_istore (L' := [_, _, _, _, _, _, _, _, _, _]) dX3_narrowestX_14 (Nat.le_of_ble_eq_true rfl) rfl ?_
  exact P_loc (by simp only [subL, List.head?_cons, List.tail_cons]; and_intros <;> first | rfl | trivial) (lp_narrow l hR hq hr hf 11 0 (by omega) (by omega))
set_option maxRecDepth 100000 in
theorem lp_flowWidth (l : Launch) {G : PH} {h a b : Nat} {ρ : Riv} {r : Nat} {x : Int32} {fs : List Value} (hR : isRiver G a ρ) (hq : ran G b ρ) (hr : r < rN ρ) (hf : G[h]? = some (.inr (3, fs))) : ∀ (n : Nat) (i : Nat), rT ρ - (i + 1) < n → i + 1 ≤ rT ρ → WP mX3_flowWidth l (rmM mX3_flowWidth 0 0) (ZM 0 0 (fun w G' => w = some (.long (fwS ρ r x)) ∧ G' = G)) XT 0 0 19 [some (.ref h), some (.ref a), some (.ref b), some (.int (nI r)), some (.int x), some (.long (mnF (fbS ρ r x) i)), none, some (.long (mxF (fbS ρ r x) i)), none, some (.int (nI (i + 1))), none, none] [] G := by
  intro n
  induction n with
  | zero => intro i hn hi; exact absurd hn (Nat.not_lt_zero _)
  | succ n ih =>
    intro i hn hi
    have hb := hR.bd; have hN : rN ρ ≤ 6 := hb.2.2.2.2; have hT : rT ρ ≤ 24 := hb.2.1; have h2 : 2 ≤ rT ρ := hb.1
    refine P_iload dX3_flowWidth_19 rfl ?_
    refine P_aload_n dX3_flowWidth_21 rfl ?_
    refine P_callVp dX3_flowWidth_22 lkX3_22 okX6_timeCount ⟨Nat.le_of_ble_eq_true rfl, Nat.le_of_ble_eq_true rfl⟩ (t_timeCount l hR) rfl rfl hR.at (Nat.le_of_ble_eq_true rfl) ⟨Nat.le_of_ble_eq_true rfl, Nat.le_of_ble_eq_true rfl⟩ ?_
    refine P_icmp_ge (tgt := 65) dX3_flowWidth_25 (by decide) (fun c25 => ?_) (fun c25 => ?_)
    · have hi2 : i = rT ρ - 1 := by have := Nat.not_lt.mp fun q : i + 1 < rT ρ => nI_ge q (by omega) c25; omega
      subst hi2
      refine P_lload dX3_flowWidth_65 rfl ?_
      refine P_lload dX3_flowWidth_67 rfl ?_
      refine P_lsub dX3_flowWidth_69 ?_
      exact P_lret dX3_flowWidth_70 rfl ⟨Nat.le_refl _, Nat.le_refl _⟩ ⟨rfl, rfl⟩
    · have hlt : i + 1 < rT ρ := Nat.not_le.mp fun z => c25 (nI_le z (by omega))
      refine P_aload_n dX3_flowWidth_28 rfl ?_
      refine P_aload_n dX3_flowWidth_29 rfl ?_
      refine P_aload_n dX3_flowWidth_30 rfl ?_
      refine P_iload_n dX3_flowWidth_31 rfl ?_
      refine P_iload dX3_flowWidth_32 rfl ?_
      refine P_iload dX3_flowWidth_34 rfl ?_
      refine P_callVp dX3_flowWidth_36 lkX3_40 okX3_flowBy ⟨Nat.le_of_ble_eq_true rfl, Nat.le_of_ble_eq_true rfl⟩ (t_flowBy l hR hq hr hlt) rfl rfl hf (Nat.le_of_ble_eq_true rfl) ⟨Nat.le_of_ble_eq_true rfl, Nat.le_of_ble_eq_true rfl⟩ ?_
      refine P_lstore (L' := [_, _, _, _, _, _, _, _, _, _, _, _]) dX3_flowWidth_39 (Nat.le_of_ble_eq_true rfl) rfl ?_
      refine P_lload dX3_flowWidth_41 rfl ?_
      refine P_lload dX3_flowWidth_43 rfl ?_
      refine P_callSp dX3_flowWidth_45 lkX3_71 okJ9_min_f86c9 ⟨Nat.le_of_ble_eq_true rfl, Nat.le_of_ble_eq_true rfl⟩ (t_jmin l) rfl rfl (Nat.le_of_ble_eq_true rfl) ⟨Nat.le_of_ble_eq_true rfl, Nat.le_of_ble_eq_true rfl⟩ ?_
      refine P_lstore (L' := [_, _, _, _, _, _, _, _, _, _, _, _]) dX3_flowWidth_48 (Nat.le_of_ble_eq_true rfl) rfl ?_
      refine P_lload dX3_flowWidth_50 rfl ?_
      refine P_lload dX3_flowWidth_52 rfl ?_
      refine P_callSp dX3_flowWidth_54 lkX3_75 okJ9_max_f86c9 ⟨Nat.le_of_ble_eq_true rfl, Nat.le_of_ble_eq_true rfl⟩ (t_jmax l) rfl rfl (Nat.le_of_ble_eq_true rfl) ⟨Nat.le_of_ble_eq_true rfl, Nat.le_of_ble_eq_true rfl⟩ ?_
      refine P_lstore (L' := [_, _, _, _, _, _, _, _, _, _, _, _]) dX3_flowWidth_57 (Nat.le_of_ble_eq_true rfl) rfl ?_
      refine P_iinc (L' := [_, _, _, _, _, _, _, _, _, _, _, _]) dX3_flowWidth_59 rfl (ii_1 _) (Nat.le_of_ble_eq_true rfl) rfl ?_
      rw [nI_1]
      refine P_goto (tgt := 19) dX3_flowWidth_62 (by decide) ?_
      exact P_loc (by simp only [subL, List.head?_cons, List.tail_cons]; and_intros <;> first | rfl | trivial) (ih (i + 1) (by omega) hlt)
theorem t_flowWidth (l : Launch) {G : PH} {h a b : Nat} {ρ : Riv} {r : Nat} {x : Int32} {fs : List Value} (hR : isRiver G a ρ) (hq : ran G b ρ) (hr : r < rN ρ) (hf : G[h]? = some (.inr (3, fs))) : Tri l mX3_flowWidth 0 0 [.ref h, .ref a, .ref b, .int (nI r), .int x] G (fun w G' => w = some (.long (fwS ρ r x)) ∧ G' = G) := by
  have hb := hR.bd; have hN : rN ρ ≤ 6 := hb.2.2.2.2; have hT : rT ρ ≤ 24 := hb.2.1; have h2 : 2 ≤ rT ρ := hb.1
  refine Tri.intro (L := [_, _, _, _, _, _, _, _, _, _, _, _]) okX3_flowWidth.1 (Nat.le_of_ble_eq_true rfl) rfl ?_
  refine P_aload_n dX3_flowWidth_0 rfl ?_
  refine P_aload_n dX3_flowWidth_1 rfl ?_
  refine P_aload_n dX3_flowWidth_2 rfl ?_
  refine P_iload_n dX3_flowWidth_3 rfl ?_
  refine P_iconst dX3_flowWidth_4 ci_0 ?_
  refine P_iload dX3_flowWidth_5 rfl ?_
  refine P_callVp dX3_flowWidth_7 lkX3_40 okX3_flowBy ⟨Nat.le_of_ble_eq_true rfl, Nat.le_of_ble_eq_true rfl⟩ (t_flowBy (t := 0) l hR hq hr (by omega)) rfl rfl hf (Nat.le_of_ble_eq_true rfl) ⟨Nat.le_of_ble_eq_true rfl, Nat.le_of_ble_eq_true rfl⟩ ?_
  refine P_lstore (L' := [_, _, _, _, _, _, _, _, _, _, _, _]) dX3_flowWidth_10 (Nat.le_of_ble_eq_true rfl) rfl ?_
  refine P_lload dX3_flowWidth_12 rfl ?_
  refine P_lstore (L' := [_, _, _, _, _, _, _, _, _, _, _, _]) dX3_flowWidth_14 (Nat.le_of_ble_eq_true rfl) rfl ?_
  refine P_iconst dX3_flowWidth_16 ci_1 ?_
  refine P_istore (L' := [_, _, _, _, _, _, _, _, _, _, _, _]) dX3_flowWidth_17 (Nat.le_of_ble_eq_true rfl) rfl ?_
  exact P_loc (by simp only [subL, List.head?_cons, List.tail_cons]; and_intros <;> first | rfl | trivial) (lp_flowWidth l hR hq hr hf (rT ρ + 1) 0 (by omega) (by omega))
set_option maxRecDepth 100000 in
theorem lp_storedWidth (l : Launch) {G : PH} {h a b : Nat} {ρ : Riv} {r : Nat} {fs : List Value} (hR : isRiver G a ρ) (hq : ran G b ρ) (hr : r < rN ρ) (hf : G[h]? = some (.inr (3, fs))) : ∀ (n : Nat) (i : Nat), rT ρ - (i + 1) < n → i + 1 ≤ rT ρ → WP mX3_storedWidth l (rmM mX3_storedWidth 0 0) (ZM 0 0 (fun w G' => w = some (.long (swS ρ r)) ∧ G' = G)) XT 0 0 12 [some (.ref h), some (.ref a), some (.ref b), some (.int (nI r)), some (.long (mnF (sSt ρ r) i)), none, some (.long (mxF (sSt ρ r) i)), none, some (.long (sSt ρ r i)), none, some (.int (nI i))] [] G := by
  intro n
  induction n with
  | zero => intro i hn hi; exact absurd hn (Nat.not_lt_zero _)
  | succ n ih =>
    intro i hn hi
    have hb := hR.bd; have hN : rN ρ ≤ 6 := hb.2.2.2.2; have hT : rT ρ ≤ 24 := hb.2.1; have h2 : 2 ≤ rT ρ := hb.1
    refine P_iload dX3_storedWidth_12 rfl ?_
    refine P_iconst dX3_storedWidth_14 ci_1 ?_
    refine P_iadd dX3_storedWidth_15 ?_
    rw [nI_1]
    refine P_aload_n dX3_storedWidth_16 rfl ?_
    refine P_callVp dX3_storedWidth_17 lkX3_22 okX6_timeCount ⟨Nat.le_of_ble_eq_true rfl, Nat.le_of_ble_eq_true rfl⟩ (t_timeCount l hR) rfl rfl hR.at (Nat.le_of_ble_eq_true rfl) ⟨Nat.le_of_ble_eq_true rfl, Nat.le_of_ble_eq_true rfl⟩ ?_
    refine P_icmp_ge (tgt := 61) dX3_storedWidth_20 (by decide) (fun c20 => ?_) (fun c20 => ?_)
    · have hi2 : i = rT ρ - 1 := by have := Nat.not_lt.mp fun q : i + 1 < rT ρ => nI_ge q (by omega) c20; omega
      subst hi2
      refine P_lload dX3_storedWidth_61 rfl ?_
      refine P_lload dX3_storedWidth_63 rfl ?_
      refine P_lsub dX3_storedWidth_65 ?_
      exact P_lret dX3_storedWidth_66 rfl ⟨Nat.le_refl _, Nat.le_refl _⟩ ⟨rfl, rfl⟩
    · have hlt : i + 1 < rT ρ := Nat.not_le.mp fun z => c20 (nI_le z (by omega))
      refine P_lload dX3_storedWidth_23 rfl ?_
      refine P_aload_n dX3_storedWidth_25 rfl ?_
      refine P_aload_n dX3_storedWidth_26 rfl ?_
      refine P_aload_n dX3_storedWidth_27 rfl ?_
      refine P_iload_n dX3_storedWidth_28 rfl ?_
      refine P_iload dX3_storedWidth_29 rfl ?_
      refine P_callVp dX3_storedWidth_31 lkX3_36 okX3_growth ⟨Nat.le_of_ble_eq_true rfl, Nat.le_of_ble_eq_true rfl⟩ (t_growth l hR hq hr hlt) rfl rfl hf (Nat.le_of_ble_eq_true rfl) ⟨Nat.le_of_ble_eq_true rfl, Nat.le_of_ble_eq_true rfl⟩ ?_
      refine P_ladd dX3_storedWidth_34 ?_
      refine P_lstore (L' := [_, _, _, _, _, _, _, _, _, _, _]) dX3_storedWidth_35 (Nat.le_of_ble_eq_true rfl) rfl ?_
      refine P_lload dX3_storedWidth_37 rfl ?_
      refine P_lload dX3_storedWidth_39 rfl ?_
      refine P_callSp dX3_storedWidth_41 lkX3_71 okJ9_min_f86c9 ⟨Nat.le_of_ble_eq_true rfl, Nat.le_of_ble_eq_true rfl⟩ (t_jmin l) rfl rfl (Nat.le_of_ble_eq_true rfl) ⟨Nat.le_of_ble_eq_true rfl, Nat.le_of_ble_eq_true rfl⟩ ?_
      refine P_lstore (L' := [_, _, _, _, _, _, _, _, _, _, _]) dX3_storedWidth_44 (Nat.le_of_ble_eq_true rfl) rfl ?_
      refine P_lload dX3_storedWidth_46 rfl ?_
      refine P_lload dX3_storedWidth_48 rfl ?_
      refine P_callSp dX3_storedWidth_50 lkX3_75 okJ9_max_f86c9 ⟨Nat.le_of_ble_eq_true rfl, Nat.le_of_ble_eq_true rfl⟩ (t_jmax l) rfl rfl (Nat.le_of_ble_eq_true rfl) ⟨Nat.le_of_ble_eq_true rfl, Nat.le_of_ble_eq_true rfl⟩ ?_
      refine P_lstore (L' := [_, _, _, _, _, _, _, _, _, _, _]) dX3_storedWidth_53 (Nat.le_of_ble_eq_true rfl) rfl ?_
      refine P_iinc (L' := [_, _, _, _, _, _, _, _, _, _, _]) dX3_storedWidth_55 rfl (ii_1 _) (Nat.le_of_ble_eq_true rfl) rfl ?_
      rw [nI_1]
      refine P_goto (tgt := 12) dX3_storedWidth_58 (by decide) ?_
      exact P_loc (by simp only [subL, List.head?_cons, List.tail_cons]; and_intros <;> first | rfl | trivial) (ih (i + 1) (by omega) hlt)
theorem t_storedWidth (l : Launch) {G : PH} {h a b : Nat} {ρ : Riv} {r : Nat} {fs : List Value} (hR : isRiver G a ρ) (hq : ran G b ρ) (hr : r < rN ρ) (hf : G[h]? = some (.inr (3, fs))) : Tri l mX3_storedWidth 0 0 [.ref h, .ref a, .ref b, .int (nI r)] G (fun w G' => w = some (.long (swS ρ r)) ∧ G' = G) := by
  have hb := hR.bd; have hN : rN ρ ≤ 6 := hb.2.2.2.2; have hT : rT ρ ≤ 24 := hb.2.1; have h2 : 2 ≤ rT ρ := hb.1
  refine Tri.intro (L := [_, _, _, _, _, _, _, _, _, _, _]) okX3_storedWidth.1 (Nat.le_of_ble_eq_true rfl) rfl ?_
  refine P_lconst dX3_storedWidth_0 lc_0 ?_
  refine P_lstore (L' := [_, _, _, _, _, _, _, _, _, _, _]) dX3_storedWidth_1 (Nat.le_of_ble_eq_true rfl) rfl ?_
  refine P_lconst dX3_storedWidth_3 lc_0 ?_
  refine P_lstore (L' := [_, _, _, _, _, _, _, _, _, _, _]) dX3_storedWidth_4 (Nat.le_of_ble_eq_true rfl) rfl ?_
  refine P_lconst dX3_storedWidth_6 lc_0 ?_
  refine P_lstore (L' := [_, _, _, _, _, _, _, _, _, _, _]) dX3_storedWidth_7 (Nat.le_of_ble_eq_true rfl) rfl ?_
  refine P_iconst dX3_storedWidth_9 ci_0 ?_
  refine P_istore (L' := [_, _, _, _, _, _, _, _, _, _, _]) dX3_storedWidth_10 (Nat.le_of_ble_eq_true rfl) rfl ?_
  exact P_loc (by simp only [subL, List.head?_cons, List.tail_cons]; and_intros <;> first | rfl | trivial) (lp_storedWidth l hR hq hr hf (rT ρ + 1) 0 (by omega) (by omega))
theorem t_leanBy (l : Launch) {G : PH} {h a b : Nat} {ρ : Riv} {r : Nat} {x : Int32} {fs : List Value} (hR : isRiver G a ρ) (hq : ran G b ρ) (hr : r < rN ρ) (hf : G[h]? = some (.inr (3, fs))) : Tri l mX3_leanBy 0 0 [.ref h, .ref a, .ref b, .int (nI r), .int x] G (fun w G' => w = some (.int (lnS ρ r x)) ∧ G' = G) := by
  refine Tri.intro (L := [_, _, _, _, _, _, _]) okX3_leanBy.1 (Nat.le_of_ble_eq_true rfl) rfl ?_
  refine P_aload_n dX3_leanBy_0 rfl ?_
  refine P_aload_n dX3_leanBy_1 rfl ?_
  refine P_aload_n dX3_leanBy_2 rfl ?_
  refine P_iload_n dX3_leanBy_3 rfl ?_
  refine P_iload dX3_leanBy_4 rfl ?_
  refine P_callVp dX3_leanBy_6 lkX3_62 okX3_flowWidth ⟨Nat.le_of_ble_eq_true rfl, Nat.le_of_ble_eq_true rfl⟩ (t_flowWidth l hR hq hr hf) rfl rfl hf (Nat.le_of_ble_eq_true rfl) ⟨Nat.le_of_ble_eq_true rfl, Nat.le_of_ble_eq_true rfl⟩ ?_
  refine P_lstore (L' := [_, _, _, _, _, _, _]) dX3_leanBy_9 (Nat.le_of_ble_eq_true rfl) rfl ?_
  refine P_lload dX3_leanBy_11 rfl ?_
  refine P_lconst dX3_leanBy_13 lc_0 ?_
  refine P_lcmp dX3_leanBy_14 ?_
  refine P_if_gt (tgt := 20) dX3_leanBy_15 (by decide) (fun c15 => ?_) (fun c15 => ?_)
  · rw [lg_cmp_gt] at c15
    refine P_ldc2 dX3_leanBy_20 kcX3_57 ?_
    refine P_ldc2 dX3_leanBy_23 kcX3_65 ?_
    refine P_aload_n dX3_leanBy_26 rfl ?_
    refine P_aload_n dX3_leanBy_27 rfl ?_
    refine P_aload_n dX3_leanBy_28 rfl ?_
    refine P_iload_n dX3_leanBy_29 rfl ?_
    refine P_callVp dX3_leanBy_30 lkX3_67 okX3_storedWidth ⟨Nat.le_of_ble_eq_true rfl, Nat.le_of_ble_eq_true rfl⟩ (t_storedWidth l hR hq hr hf) rfl rfl hf (Nat.le_of_ble_eq_true rfl) ⟨Nat.le_of_ble_eq_true rfl, Nat.le_of_ble_eq_true rfl⟩ ?_
    refine P_lmul dX3_leanBy_33 ?_
    refine P_lload dX3_leanBy_34 rfl ?_
    refine P_ldiv dX3_leanBy_36 (fun q => by rw [q] at c15; exact absurd c15 (by decide)) ?_
    refine P_callSp dX3_leanBy_37 lkX3_71 okJ9_min_f86c9 ⟨Nat.le_of_ble_eq_true rfl, Nat.le_of_ble_eq_true rfl⟩ (t_jmin l) rfl rfl (Nat.le_of_ble_eq_true rfl) ⟨Nat.le_of_ble_eq_true rfl, Nat.le_of_ble_eq_true rfl⟩ ?_
    refine P_l2i dX3_leanBy_40 ?_
    exact P_iret dX3_leanBy_41 rfl ⟨Nat.le_refl _, Nat.le_refl _⟩ ⟨by simp [lnS, c15], rfl⟩
  · rw [lg_cmp_gt] at c15
    refine P_iconst dX3_leanBy_18 ci_0 ?_
    exact P_iret dX3_leanBy_19 rfl ⟨Nat.le_refl _, Nat.le_refl _⟩ ⟨by simp [lnS, c15], rfl⟩
set_option maxRecDepth 100000 in
theorem lp_diff (l : Launch) {G0 G : PH} {h a b : Nat} {ρ : Riv} {r : Nat} {k x : Int32} {fi fo fs fl fh : Nat → Int64} (hR : isRiver G a ρ) (kr : rout G b (rT ρ) (rD ρ) fi fo fs fl fh) (hran : ran G b ρ) (hr : r < rN ρ) (hl : ∀ j, j < rT ρ → fl j = flP (nI (rD ρ)) k x (rP ρ r) (INN ρ r) j) (hF : Fr G0 G b 11) : ∀ (n : Nat) (t : Nat), rT ρ - t < n → t ≤ rT ρ → WP mX3_differenceBy l (rmM mX3_differenceBy 0 0) (ZM 0 0 (fun w G' => w = some (.long (DF ρ r k x)) ∧ ran G' b ρ ∧ Fr G0 G' b 11)) XT 0 0 21 [some (.ref h), some (.ref a), some (.ref b), some (.int (nI r)), some (.int k), some (.int x), some (.long (dfS ρ r k x t)), none, some (.int (nI t))] [] G := by
  intro n
  induction n with
  | zero => intro t hn ht; exact absurd hn (Nat.not_lt_zero _)
  | succ n ih =>
    intro t hn ht
    have hb := hR.bd; have hN : rN ρ ≤ 6 := hb.2.2.2.2; have hT : rT ρ ≤ 24 := hb.2.1; have h2 : 2 ≤ rT ρ := hb.1
    refine P_iload dX3_differenceBy_21 rfl ?_
    refine P_aload_n dX3_differenceBy_23 rfl ?_
    refine P_callVp dX3_differenceBy_24 lkX3_22 okX6_timeCount ⟨Nat.le_of_ble_eq_true rfl, Nat.le_of_ble_eq_true rfl⟩ (t_timeCount l hR) rfl rfl hR.at (Nat.le_of_ble_eq_true rfl) ⟨Nat.le_of_ble_eq_true rfl, Nat.le_of_ble_eq_true rfl⟩ ?_
    refine P_icmp_ge (tgt := 59) dX3_differenceBy_27 (by decide) (fun c27 => ?_) (fun c27 => ?_)
    · have hi2 : t = rT ρ := Nat.le_antisymm ht (Nat.not_lt.mp fun z => nI_ge z (by omega) c27)
      subst hi2
      refine P_lload dX3_differenceBy_59 rfl ?_
      exact P_lret dX3_differenceBy_61 rfl ⟨Nat.le_refl _, Nat.le_refl _⟩ ⟨rfl, hran, hF⟩
    · have hlt : t < rT ρ := Nat.not_le.mp fun z => c27 (nI_le z (by omega))
      refine P_lload dX3_differenceBy_30 rfl ?_
      refine P_aload_n dX3_differenceBy_32 rfl ?_
      refine P_iload dX3_differenceBy_33 rfl ?_
      refine P_callVp dX3_differenceBy_35 lkX3_85 okX7_leavingAt ⟨Nat.le_of_ble_eq_true rfl, Nat.le_of_ble_eq_true rfl⟩ (t_leavingAt l kr (by omega)) rfl rfl kr.1 (Nat.le_of_ble_eq_true rfl) ⟨Nat.le_of_ble_eq_true rfl, Nat.le_of_ble_eq_true rfl⟩ ?_
      rw [hl t hlt]
      refine P_aload_n dX3_differenceBy_38 rfl ?_
      refine P_iload_n dX3_differenceBy_39 rfl ?_
      refine P_iload dX3_differenceBy_40 rfl ?_
      refine P_callVp dX3_differenceBy_42 lkX3_50 okX6_seenAt ⟨Nat.le_of_ble_eq_true rfl, Nat.le_of_ble_eq_true rfl⟩ (t_seenAt l hR hr (by omega)) rfl rfl hR.at (Nat.le_of_ble_eq_true rfl) ⟨Nat.le_of_ble_eq_true rfl, Nat.le_of_ble_eq_true rfl⟩ ?_
      refine P_i2l dX3_differenceBy_45 ?_
      refine P_lsub dX3_differenceBy_46 ?_
      refine P_callSp dX3_differenceBy_47 lkX3_44 okJ9_abs_067f4 ⟨Nat.le_of_ble_eq_true rfl, Nat.le_of_ble_eq_true rfl⟩ (t_jabs l) rfl rfl (Nat.le_of_ble_eq_true rfl) ⟨Nat.le_of_ble_eq_true rfl, Nat.le_of_ble_eq_true rfl⟩ ?_
      refine P_ladd dX3_differenceBy_50 ?_
      refine P_lstore (L' := [_, _, _, _, _, _, _, _, _]) dX3_differenceBy_51 (Nat.le_of_ble_eq_true rfl) rfl ?_
      refine P_iinc (L' := [_, _, _, _, _, _, _, _, _]) dX3_differenceBy_53 rfl (ii_1 _) (Nat.le_of_ble_eq_true rfl) rfl ?_
      rw [nI_1]
      refine P_goto (tgt := 21) dX3_differenceBy_56 (by decide) ?_
      exact ih (t + 1) (by omega) hlt
theorem t_diff (l : Launch) {G : PH} {h a b : Nat} {ρ : Riv} {r : Nat} {k x : Int32} (hR : isRiver G a ρ) (hq : ran G b ρ) (hr : r < rN ρ) (hd : a + 7 ≤ b ∨ b + 11 ≤ a) (hv : rVal ρ) (hM : 0 < (wM (nI (rD ρ)) k x).toInt64) : Tri l mX3_differenceBy 0 0 [.ref h, .ref a, .ref b, .int (nI r), .int k, .int x] G (fun w G' => w = some (.long (DF ρ r k x)) ∧ ran G' b ρ ∧ Fr G G' b 11) := by
  have hb := hR.bd; have hN : rN ρ ≤ 6 := hb.2.2.2.2; have hT : rT ρ ≤ 24 := hb.2.1; have h2 : 2 ≤ rT ρ := hb.1
  obtain ⟨fi, fo, fs, fl, fh, kr, hg⟩ := id hq
  obtain ⟨-, -, -, ⟨q0, -, hq4, eq0⟩, -⟩ := hv r hr
  refine Tri.intro (L := [_, _, _, _, _, _, _, _, _]) okX3_differenceBy.1 (Nat.le_of_ble_eq_true rfl) rfl ?_
  refine P_aload_n dX3_differenceBy_0 rfl ?_
  refine P_iload_n dX3_differenceBy_1 rfl ?_
  refine P_aload_n dX3_differenceBy_2 rfl ?_
  refine P_iload_n dX3_differenceBy_3 rfl ?_
  refine P_iconst dX3_differenceBy_4 ci_3 ?_
  refine P_callVp dX3_differenceBy_5 lkX3_78 okX6_featureOf ⟨Nat.le_of_ble_eq_true rfl, Nat.le_of_ble_eq_true rfl⟩ (t_featureOf l 3 hR hr (by decide)) rfl rfl hR.at (Nat.le_of_ble_eq_true rfl) ⟨Nat.le_of_ble_eq_true rfl, Nat.le_of_ble_eq_true rfl⟩ ?_
  rw [eq0]
  refine P_iload dX3_differenceBy_8 rfl ?_
  refine P_iload dX3_differenceBy_10 rfl ?_
  refine P_callV dX3_differenceBy_12 lkX3_81 okX7_passReach ⟨Nat.le_of_ble_eq_true rfl, Nat.le_of_ble_eq_true rfl⟩ (t_passReach l kr hT (by omega) hq4 hM) rfl rfl kr.1 (Nat.le_of_ble_eq_true rfl) ⟨Nat.le_of_ble_eq_true rfl, Nat.le_of_ble_eq_true rfl⟩ (fun v12 G12 q12 => ?_)
  obtain ⟨rfl, ⟨g1, g2, kr2, hg2⟩, hF2⟩ := q12
  have hrP : rP ρ r = q0 := by show (rF ρ r 3).toNatClampNeg = q0; rw [eq0, nI_clamp (by omega)]
  refine P_lconst dX3_differenceBy_15 lc_0 ?_
  refine P_lstore (L' := [_, _, _, _, _, _, _, _, _]) dX3_differenceBy_16 (Nat.le_of_ble_eq_true rfl) rfl ?_
  refine P_iconst dX3_differenceBy_18 ci_0 ?_
  refine P_istore (L' := [_, _, _, _, _, _, _, _, _]) dX3_differenceBy_19 (Nat.le_of_ble_eq_true rfl) rfl ?_
  exact lp_diff l (hR.fr hF2 (by omega)) kr2 ⟨fi, fo, fs, g1, g2, kr2, hg⟩ hr (fun j hj => by rw [(hg2 j hj).1, hrP]; exact flP_cong q0 (fun c hc => (hg r (Nat.zero_le _) hr c (by omega)).1)) hF2 (rT ρ + 1) 0 (by omega) (Nat.zero_le _)
abbrev oB (k x : Int32) (d : Int64) : PCell := .inr (3, [.int k, .int x, .long d])
def bInv (ρ : Riv) (r : Nat) (G : PH) (h i : Nat) (fd : Int32) : Prop := ∃ kk xx dd, G[h]? = some (oB kk xx dd) ∧ ((bsS ρ r i = none ∧ fd = 0) ∨ ∃ b, bsS ρ r i = some b ∧ kk = nI b.1 ∧ xx = nI b.2.1 ∧ dd = b.2.2 ∧ fd = 1)
theorem bInv.skip {ρ : Riv} {r : Nat} {G G' : PH} {h i : Nat} {fd : Int32} (k : bInv ρ r G h i fd) (he : bsS ρ r (i + 1) = bsS ρ r i) (hG : G'[h]? = G[h]?) : bInv ρ r G' h (i + 1) fd := by
  obtain ⟨kk, xx, dd, h1, h2⟩ := k
  exact ⟨kk, xx, dd, hG.trans h1, by rw [he]; exact h2⟩
theorem bs_no {ρ : Riv} {r k x : Nat} (hx : x < 11) (h : ¬ lawP (nI (rD ρ)) (nI k) (nI x)) : bsS ρ r (11 * k + x + 1) = bsS ρ r (11 * k + x) := by
  simp only [bsS]
  rw [if_neg]
  rw [show (11 * k + x) / 11 = k by omega, show (11 * k + x) % 11 = x by omega]
  exact h
theorem bs_yes {ρ : Riv} {r k x : Nat} (hx : x < 11) (h : lawP (nI (rD ρ)) (nI k) (nI x)) : bsS ρ r (11 * k + x + 1) = (match bsS ρ r (11 * k + x) with
        | none => some (k, x, DF ρ r (nI k) (nI x))
        | some b => if DF ρ r (nI k) (nI x) < b.2.2 then some (k, x, DF ρ r (nI k) (nI x)) else some b) := by
  simp only [bsS]
  rw [show (11 * k + x) / 11 = k by omega, show (11 * k + x) % 11 = x by omega, if_pos h]
set_option maxRecDepth 100000 in
theorem lp_best (l : Launch) {G0 : PH} {a c : Nat} {ρ : Riv} {r : Nat} (hd : a + 7 ≤ c ∨ c + 12 ≤ a) (hr : r < rN ρ) (hv : rVal ρ) : ∀ (n : Nat) (G : PH) (k x : Nat) (fd : Int32), (21 - k) * 12 - x < n → k ≤ 20 → x ≤ 11 → isRiver G a ρ → ran G c ρ → bInv ρ r G (c + 11) (11 * k + x) fd → Fr G0 G c 12 → WP mX3_findBest l (rmM mX3_findBest 0 0) (ZM 0 0 (fun w G' => w = none ∧ (∃ b, bsS ρ r 231 = some b ∧ G'[c + 11]? = some (oB (nI b.1) (nI b.2.1) b.2.2)) ∧ ran G' c ρ ∧ Fr G0 G' c 12)) XT 0 0 16 [some (.ref (c + 11)), some (.ref a), some (.ref c), some (.int (nI r)), some (.int fd), some (.int (nI k)), some (.int (nI x)), none, none] [] G := by
  intro n
  induction n with
  | zero => intro G  k x  fd hn hk hx hR hq hI hF; exact absurd hn (Nat.not_lt_zero _)
  | succ n ih =>
    intro G  k x  fd hn hk hx hR hq hI hF
    have hb := hR.bd; have hN : rN ρ ≤ 6 := hb.2.2.2.2; have hT : rT ρ ≤ 24 := hb.2.1; have h2 : 2 ≤ rT ρ := hb.1
    refine P_iload dX3_findBest_16 rfl ?_
    refine P_bipush dX3_findBest_18 bp_10 ?_
    refine P_icmp_gt (tgt := 95) dX3_findBest_20 (by decide) (fun c20 => ?_) (fun c20 => ?_)
    · have hx2 : x = 11 := by have : ¬ x ≤ 10 := fun q => absurd c20 (Int32.not_lt.mpr (nI_le (b := 10) q (by decide))); omega
      refine P_iinc (L' := [_, _, _, _, _, _, _, _, _]) dX3_findBest_95 rfl (ii_1 _) (Nat.le_of_ble_eq_true rfl) rfl ?_
      rw [nI_1]
      refine P_goto (tgt := 6) dX3_findBest_98 (by decide) ?_
      refine P_iload dX3_findBest_6 rfl ?_
      refine P_bipush dX3_findBest_8 bp_20 ?_
      refine P_icmp_gt (tgt := 101) dX3_findBest_10 (by decide) (fun c10 => ?_) (fun c10 => ?_)
      · have hk2 : k = 20 := by have : ¬ k + 1 ≤ 20 := fun q => absurd c10 (Int32.not_lt.mpr (nI_le (b := 20) q (by decide))); omega
        subst hk2
        subst hx2
        have hs := bsS_some (ρ := ρ) (r := r) hb.2.2.2.1 120
        obtain ⟨kk, xx, dd, h1, h3⟩ := hI
        exact P_vret dX3_findBest_101 rfl ⟨Nat.le_refl _, Nat.le_refl _⟩ ⟨rfl, (by rcases h3 with ⟨e, -⟩ | ⟨b9, eb, e1, e2, e3, -⟩; rw [show 11 * 20 + 11 = 111 + 120 from rfl] at e; rw [e] at hs; exact absurd hs (by decide); exact ⟨b9, eb, by rw [h1, e1, e2, e3]⟩), hq, hF⟩
      · have hk3 : k + 1 ≤ 20 := Classical.byContradiction fun q => c10 (nI_lt (a := 20) (by omega) (by omega))
        refine P_iconst dX3_findBest_13 ci_0 ?_
        refine P_istore (L' := [_, _, _, _, _, _, _, _, _]) dX3_findBest_14 (Nat.le_of_ble_eq_true rfl) rfl ?_
        first | refine P_loc ?_ (ih _ k (x + 1) _ (by omega) hk (by omega) hRn hqn hIn hFn) | refine P_loc ?_ (ih _ (k + 1) 0 _ (by omega) (by omega) (by omega) hR hq (by rw [show 11 * (k + 1) + 0 = 11 * k + x by omega]; exact hI) hF)
        simp only [subL, List.head?_cons, List.tail_cons]; and_intros <;> first | rfl | trivial
    · have hx10 : x < 11 := Classical.byContradiction fun q => c20 (nI_lt (a := 10) (by omega) (by omega))
      refine P_aload_n dX3_findBest_23 rfl ?_
      refine P_callVp dX3_findBest_24 lkX3_54 okX6_timeStep ⟨Nat.le_of_ble_eq_true rfl, Nat.le_of_ble_eq_true rfl⟩ (t_timeStep l hR) rfl rfl hR.at (Nat.le_of_ble_eq_true rfl) ⟨Nat.le_of_ble_eq_true rfl, Nat.le_of_ble_eq_true rfl⟩ ?_
      refine P_iload dX3_findBest_27 rfl ?_
      refine P_iload dX3_findBest_29 rfl ?_
      refine P_callSp dX3_findBest_31 lkX3_89 okX6_areLawful ⟨Nat.le_of_ble_eq_true rfl, Nat.le_of_ble_eq_true rfl⟩ (t_areLawful l) rfl rfl (Nat.le_of_ble_eq_true rfl) ⟨Nat.le_of_ble_eq_true rfl, Nat.le_of_ble_eq_true rfl⟩ ?_
      refine P_if_ne (tgt := 40) dX3_findBest_34 (by decide) (fun c34 => ?_) (fun c34 => ?_)
      · have hlw : lawP (nI (rD ρ)) (nI k) (nI x) := Classical.byContradiction fun q => c34 (by rw [if_neg q])
        obtain ⟨kk, xx, dd, hI1, hI3⟩ := id hI
        refine P_aload_n dX3_findBest_40 rfl ?_
        refine P_aload_n dX3_findBest_41 rfl ?_
        refine P_aload_n dX3_findBest_42 rfl ?_
        refine P_iload_n dX3_findBest_43 rfl ?_
        refine P_iload dX3_findBest_44 rfl ?_
        refine P_iload dX3_findBest_46 rfl ?_
        refine P_callV dX3_findBest_48 lkX3_93 okX3_differenceBy ⟨Nat.le_of_ble_eq_true rfl, Nat.le_of_ble_eq_true rfl⟩ (t_diff l hR hq hr (by omega) hv (wM_pos hb.2.2.1 hb.2.2.2.1 hk (by omega))) rfl rfl hI1 (Nat.le_of_ble_eq_true rfl) ⟨Nat.le_of_ble_eq_true rfl, Nat.le_of_ble_eq_true rfl⟩ (fun v48 G48 q48 => ?_)
        obtain ⟨rfl, hq2, hF2⟩ := q48
        have hR2 := hR.fr hF2 (by omega)
        have hI2 := hF2.at hI1 (by omega)
        refine P_lstore (L' := [_, _, _, _, _, _, _, _, _]) dX3_findBest_51 (Nat.le_of_ble_eq_true rfl) rfl ?_
        refine P_iload dX3_findBest_53 rfl ?_
        refine P_if_eq (tgt := 68) dX3_findBest_55 (by decide) (fun c55 => ?_) (fun c55 => ?_)
        · have hbn : bsS ρ r (11 * k + x) = none := by rcases hI3 with ⟨e, -⟩ | ⟨b9, -, -, -, -, e⟩; exact e; rw [e] at c55; exact absurd c55 (by decide)
          have hnew : bsS ρ r (11 * k + x + 1) = some (k, x, DF ρ r (nI k) (nI x)) := by rw [bs_yes hx10 hlw, hbn]
          refine P_iconst dX3_findBest_68 ci_1 ?_
          refine P_istore (L' := [_, _, _, _, _, _, _, _, _]) dX3_findBest_69 (Nat.le_of_ble_eq_true rfl) rfl ?_
          refine P_aload_n dX3_findBest_71 rfl ?_
          refine P_iload dX3_findBest_72 rfl ?_
          refine P_putI dX3_findBest_74 flX3_9 hI2 (Nat.le_of_ble_eq_true rfl) ?_
          refine P_aload_n dX3_findBest_77 rfl ?_
          refine P_iload dX3_findBest_78 rfl ?_
          refine P_putI dX3_findBest_80 flX3_15 (set_at hI2) (Nat.le_of_ble_eq_true rfl) ?_
          refine P_aload_n dX3_findBest_83 rfl ?_
          refine P_lload dX3_findBest_84 rfl ?_
          refine P_putJ dX3_findBest_86 flX3_18 (set_at (set_at hI2)) (Nat.le_of_ble_eq_true rfl) ?_
          have hF3 := (Fr.set (G := G48) (a := c + 11) (n := 1) (i := c + 11) (c := .inr (3, [.int (nI k), .int xx, .long dd])) (by omega) (by omega)).tr ((Fr.set (a := c + 11) (n := 1) (i := c + 11) (c := .inr (3, [.int (nI k), .int (nI x), .long dd])) (by omega) (by omega)).tr (Fr.set (a := c + 11) (n := 1) (i := c + 11) (c := .inr (3, [.int (nI k), .int (nI x), .long (DF ρ r (nI k) (nI x))])) (by omega) (by omega)))
          have hIn : bInv ρ r (((G48.set (c + 11) (.inr (3, [.int (nI k), .int xx, .long dd]))).set (c + 11) (.inr (3, [.int (nI k), .int (nI x), .long dd]))).set (c + 11) (.inr (3, [.int (nI k), .int (nI x), .long (DF ρ r (nI k) (nI x))]))) (c + 11) (11 * k + (x + 1)) 1 := ⟨nI k, nI x, _, set_at (set_at (set_at hI2)), Or.inr ⟨_, hnew, rfl, rfl, rfl, rfl⟩⟩
          have hRn := hR2.fr hF3 (by omega); have hqn := hq2.fr hF3 (by omega); have hFn := (hF.tr (hF2.wide (b := c) (m := 12) (by omega) (by omega))).tr (hF3.wide (b := c) (m := 12) (by omega) (by omega))
          refine P_iinc (L' := [_, _, _, _, _, _, _, _, _]) dX3_findBest_89 rfl (ii_1 _) (Nat.le_of_ble_eq_true rfl) rfl ?_
          rw [nI_1]
          refine P_goto (tgt := 16) dX3_findBest_92 (by decide) ?_
          first | refine P_loc ?_ (ih _ k (x + 1) _ (by omega) hk (by omega) hRn hqn hIn hFn) | refine P_loc ?_ (ih _ (k + 1) 0 _ (by omega) (by omega) (by omega) hR hq (by rw [show 11 * (k + 1) + 0 = 11 * k + x by omega]; exact hI) hF)
          simp only [subL, List.head?_cons, List.tail_cons]; and_intros <;> first | rfl | trivial
        · obtain ⟨b9, eb, ek, ex, ed, efd⟩ : ∃ b9, bsS ρ r (11 * k + x) = some b9 ∧ kk = nI b9.1 ∧ xx = nI b9.2.1 ∧ dd = b9.2.2 ∧ fd = 1 := by rcases hI3 with ⟨-, e⟩ | e; exact absurd e c55; exact e
          refine P_lload dX3_findBest_58 rfl ?_
          refine P_aload_n dX3_findBest_60 rfl ?_
          refine P_get dX3_findBest_61 flX3_18 hI2 rfl ?_
          refine P_lcmp dX3_findBest_64 ?_
          refine P_if_ge (tgt := 89) dX3_findBest_65 (by decide) (fun c65 => ?_) (fun c65 => ?_)
          · rw [lg_cmp_ge] at c65
            have hIn : bInv ρ r G48 (c + 11) (11 * k + (x + 1)) fd := hI.skip (by rw [bs_yes hx10 hlw, eb]; show (if _ then _ else _) = _; rw [if_neg (by rw [← ed]; exact Int64.not_lt.mpr c65)]) (hI2.trans hI1.symm)
            have hRn := hR2; have hqn := hq2; have hFn := hF.tr (hF2.wide (b := c) (m := 12) (by omega) (by omega))
            refine P_iinc (L' := [_, _, _, _, _, _, _, _, _]) dX3_findBest_89 rfl (ii_1 _) (Nat.le_of_ble_eq_true rfl) rfl ?_
            rw [nI_1]
            refine P_goto (tgt := 16) dX3_findBest_92 (by decide) ?_
            first | refine P_loc ?_ (ih _ k (x + 1) _ (by omega) hk (by omega) hRn hqn hIn hFn) | refine P_loc ?_ (ih _ (k + 1) 0 _ (by omega) (by omega) (by omega) hR hq (by rw [show 11 * (k + 1) + 0 = 11 * k + x by omega]; exact hI) hF)
            simp only [subL, List.head?_cons, List.tail_cons]; and_intros <;> first | rfl | trivial
          · rw [lg_cmp_ge] at c65
            have hnew : bsS ρ r (11 * k + x + 1) = some (k, x, DF ρ r (nI k) (nI x)) := by rw [bs_yes hx10 hlw, eb]; show (if _ then _ else _) = _; rw [if_pos (by rw [← ed]; exact Int64.not_le.mp c65)]
            refine P_iconst dX3_findBest_68 ci_1 ?_
            refine P_istore (L' := [_, _, _, _, _, _, _, _, _]) dX3_findBest_69 (Nat.le_of_ble_eq_true rfl) rfl ?_
            refine P_aload_n dX3_findBest_71 rfl ?_
            refine P_iload dX3_findBest_72 rfl ?_
            refine P_putI dX3_findBest_74 flX3_9 hI2 (Nat.le_of_ble_eq_true rfl) ?_
            refine P_aload_n dX3_findBest_77 rfl ?_
            refine P_iload dX3_findBest_78 rfl ?_
            refine P_putI dX3_findBest_80 flX3_15 (set_at hI2) (Nat.le_of_ble_eq_true rfl) ?_
            refine P_aload_n dX3_findBest_83 rfl ?_
            refine P_lload dX3_findBest_84 rfl ?_
            refine P_putJ dX3_findBest_86 flX3_18 (set_at (set_at hI2)) (Nat.le_of_ble_eq_true rfl) ?_
            have hF3 := (Fr.set (G := G48) (a := c + 11) (n := 1) (i := c + 11) (c := .inr (3, [.int (nI k), .int xx, .long dd])) (by omega) (by omega)).tr ((Fr.set (a := c + 11) (n := 1) (i := c + 11) (c := .inr (3, [.int (nI k), .int (nI x), .long dd])) (by omega) (by omega)).tr (Fr.set (a := c + 11) (n := 1) (i := c + 11) (c := .inr (3, [.int (nI k), .int (nI x), .long (DF ρ r (nI k) (nI x))])) (by omega) (by omega)))
            have hIn : bInv ρ r (((G48.set (c + 11) (.inr (3, [.int (nI k), .int xx, .long dd]))).set (c + 11) (.inr (3, [.int (nI k), .int (nI x), .long dd]))).set (c + 11) (.inr (3, [.int (nI k), .int (nI x), .long (DF ρ r (nI k) (nI x))]))) (c + 11) (11 * k + (x + 1)) 1 := ⟨nI k, nI x, _, set_at (set_at (set_at hI2)), Or.inr ⟨_, hnew, rfl, rfl, rfl, rfl⟩⟩
            have hRn := hR2.fr hF3 (by omega); have hqn := hq2.fr hF3 (by omega); have hFn := (hF.tr (hF2.wide (b := c) (m := 12) (by omega) (by omega))).tr (hF3.wide (b := c) (m := 12) (by omega) (by omega))
            refine P_iinc (L' := [_, _, _, _, _, _, _, _, _]) dX3_findBest_89 rfl (ii_1 _) (Nat.le_of_ble_eq_true rfl) rfl ?_
            rw [nI_1]
            refine P_goto (tgt := 16) dX3_findBest_92 (by decide) ?_
            first | refine P_loc ?_ (ih _ k (x + 1) _ (by omega) hk (by omega) hRn hqn hIn hFn) | refine P_loc ?_ (ih _ (k + 1) 0 _ (by omega) (by omega) (by omega) hR hq (by rw [show 11 * (k + 1) + 0 = 11 * k + x by omega]; exact hI) hF)
            simp only [subL, List.head?_cons, List.tail_cons]; and_intros <;> first | rfl | trivial
      · have hlw : ¬ lawP (nI (rD ρ)) (nI k) (nI x) := fun q => by rw [if_pos q] at c34; exact absurd c34 (by decide)
        have hIn : bInv ρ r G (c + 11) (11 * k + (x + 1)) fd := hI.skip (bs_no hx10 hlw) rfl
        have hRn := hR; have hqn := hq; have hFn := hF
        refine P_goto (tgt := 89) dX3_findBest_37 (by decide) ?_
        refine P_iinc (L' := [_, _, _, _, _, _, _, _, _]) dX3_findBest_89 rfl (ii_1 _) (Nat.le_of_ble_eq_true rfl) rfl ?_
        rw [nI_1]
        refine P_goto (tgt := 16) dX3_findBest_92 (by decide) ?_
        first | refine P_loc ?_ (ih _ k (x + 1) _ (by omega) hk (by omega) hRn hqn hIn hFn) | refine P_loc ?_ (ih _ (k + 1) 0 _ (by omega) (by omega) (by omega) hR hq (by rw [show 11 * (k + 1) + 0 = 11 * k + x by omega]; exact hI) hF)
        simp only [subL, List.head?_cons, List.tail_cons]; and_intros <;> first | rfl | trivial
theorem t_findBest (l : Launch) {G : PH} {a c : Nat} {ρ : Riv} {r : Nat} {k0 x0 : Int32} {d0 : Int64} (hR : isRiver G a ρ) (hq : ran G c ρ) (hf : G[c + 11]? = some (oB k0 x0 d0)) (hd : a + 7 ≤ c ∨ c + 12 ≤ a) (hr : r < rN ρ) (hv : rVal ρ) : Tri l mX3_findBest 0 0 [.ref (c + 11), .ref a, .ref c, .int (nI r)] G (fun w G' => w = none ∧ (∃ b, bsS ρ r 231 = some b ∧ G'[c + 11]? = some (oB (nI b.1) (nI b.2.1) b.2.2)) ∧ ran G' c ρ ∧ Fr G G' c 12) := by
  refine Tri.intro (L := [_, _, _, _, _, _, _, _, _]) okX3_findBest.1 (Nat.le_of_ble_eq_true rfl) rfl ?_
  refine P_iconst dX3_findBest_0 ci_0 ?_
  refine P_istore (L' := [_, _, _, _, _, _, _, _, _]) dX3_findBest_1 (Nat.le_of_ble_eq_true rfl) rfl ?_
  refine P_iconst dX3_findBest_3 ci_0 ?_
  refine P_istore (L' := [_, _, _, _, _, _, _, _, _]) dX3_findBest_4 (Nat.le_of_ble_eq_true rfl) rfl ?_
  refine P_iload dX3_findBest_6 rfl ?_
  refine P_bipush dX3_findBest_8 bp_20 ?_
  refine P_icmp_gt (tgt := 101) dX3_findBest_10 (by decide) (fun c10 => ?_) (fun c10 => ?_)
  · exact absurd c10 (by decide)
  · refine P_iconst dX3_findBest_13 ci_0 ?_
    refine P_istore (L' := [_, _, _, _, _, _, _, _, _]) dX3_findBest_14 (Nat.le_of_ble_eq_true rfl) rfl ?_
    exact P_loc (by simp only [subL, List.head?_cons, List.tail_cons]; and_intros <;> first | rfl | trivial) (lp_best l hd hr hv 300 G 0 0 0 (by omega) (by omega) (by omega) hR hq ⟨k0, x0, d0, hf, Or.inl ⟨rfl, rfl⟩⟩ Fr.rf)
theorem t_bestK (l : Launch) {G : PH} {h : Nat} {k x : Int32} {d : Int64} (hf : G[h]? = some (oB k x d)) : Tri l mX3_bestK 0 0 [.ref h] G (fun w G' => w = some (.int k) ∧ G' = G) := by
  refine Tri.intro (L := [_]) okX3_bestK.1 (Nat.le_of_ble_eq_true rfl) rfl ?_
  refine P_aload_n dX3_bestK_0 rfl ?_
  refine P_get dX3_bestK_1 flX3_9 hf rfl ?_
  exact P_iret dX3_bestK_4 rfl ⟨Nat.le_refl _, Nat.le_refl _⟩ ⟨rfl, rfl⟩
theorem t_bestX (l : Launch) {G : PH} {h : Nat} {k x : Int32} {d : Int64} (hf : G[h]? = some (oB k x d)) : Tri l mX3_bestX 0 0 [.ref h] G (fun w G' => w = some (.int x) ∧ G' = G) := by
  refine Tri.intro (L := [_]) okX3_bestX.1 (Nat.le_of_ble_eq_true rfl) rfl ?_
  refine P_aload_n dX3_bestX_0 rfl ?_
  refine P_get dX3_bestX_1 flX3_15 hf rfl ?_
  exact P_iret dX3_bestX_4 rfl ⟨Nat.le_refl _, Nat.le_refl _⟩ ⟨rfl, rfl⟩
theorem t_bestDifference (l : Launch) {G : PH} {h : Nat} {k x : Int32} {d : Int64} (hf : G[h]? = some (oB k x d)) : Tri l mX3_bestDifference 0 0 [.ref h] G (fun w G' => w = some (.long d) ∧ G' = G) := by
  refine Tri.intro (L := [_]) okX3_bestDifference.1 (Nat.le_of_ble_eq_true rfl) rfl ?_
  refine P_aload_n dX3_bestDifference_0 rfl ?_
  refine P_get dX3_bestDifference_1 flX3_18 hf rfl ?_
  exact P_lret dX3_bestDifference_4 rfl ⟨Nat.le_refl _, Nat.le_refl _⟩ ⟨rfl, rfl⟩
