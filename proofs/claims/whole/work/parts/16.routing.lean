/-! peaks, least, volumes of a row -/
def pkT (f : Nat → Int64) : Nat → Nat
  | 0 => 0
  | n + 1 => if f (pkT f n) < f (n + 1) then n + 1 else pkT f n
theorem pkT_le (f : Nat → Int64) : ∀ n, pkT f n ≤ n
  | 0 => Nat.le_refl _
  | n + 1 => by
    have := pkT_le f n
    simp only [pkT]
    split <;> omega
def mnF (f : Nat → Int64) : Nat → Int64
  | 0 => f 0
  | n + 1 => jmin (mnF f n) (f (n + 1))
def mxF (f : Nat → Int64) : Nat → Int64
  | 0 => f 0
  | n + 1 => jmax (mxF f n) (f (n + 1))
def voF (d : Int64) (f : Nat → Int64) : Nat → Int64
  | 0 => 0
  | n + 1 => voF d f n + d * (f n + f (n + 1))
theorem pkT_cong {f g : Nat → Int64} : ∀ {n : Nat}, (∀ j, j ≤ n → f j = g j) → pkT f n = pkT g n
  | 0, _ => rfl
  | n + 1, h => by
    have ih := pkT_cong (n := n) (fun j hj => h j (by omega))
    have := pkT_le g n
    simp only [pkT]
    rw [ih, h (n + 1) (Nat.le_refl _), h (pkT g n) (by omega)]
theorem mnF_cong {f g : Nat → Int64} : ∀ {n : Nat}, (∀ j, j ≤ n → f j = g j) → mnF f n = mnF g n
  | 0, h => h 0 (Nat.le_refl _)
  | n + 1, h => by simp only [mnF]; rw [mnF_cong (n := n) (fun j hj => h j (by omega)), h (n + 1) (Nat.le_refl _)]
theorem mxF_cong {f g : Nat → Int64} : ∀ {n : Nat}, (∀ j, j ≤ n → f j = g j) → mxF f n = mxF g n
  | 0, h => h 0 (Nat.le_refl _)
  | n + 1, h => by simp only [mxF]; rw [mxF_cong (n := n) (fun j hj => h j (by omega)), h (n + 1) (Nat.le_refl _)]
theorem voF_cong {d : Int64} {f g : Nat → Int64} : ∀ {n : Nat}, (∀ j, j ≤ n → f j = g j) → voF d f n = voF d g n
  | 0, _ => rfl
  | n + 1, h => by simp only [voF]; rw [voF_cong (n := n) (fun j hj => h j (by omega)), h n (by omega), h (n + 1) (Nat.le_refl _)]
theorem t_inAt (l : Launch) {G : PH} {h : Nat} {ρ : Riv} {r t : Nat} (hq : ran G h ρ) (hb : rBd ρ) (hr : r < rN ρ) (ht : t < rT ρ) : Tri l mX7_inAt 0 0 [.ref h, .int (nI r), .int (nI t)] G (fun w G' => w = some (.long (INN ρ r t)) ∧ G' = G) := by
  obtain ⟨fi, fo, fs, fl, fh, kr, hg⟩ := hq
  have hN : rN ρ ≤ 6 := hb.2.2.2.2; have hT : rT ρ ≤ 24 := hb.2.1
  refine Tri.intro (L := [_, _, _]) okX7_inAt.1 (Nat.le_of_ble_eq_true rfl) rfl ?_
  refine P_aload_n dX7_inAt_0 rfl ?_
  refine P_get dX7_inAt_1 flX7_14 kr.1 rfl ?_
  refine P_iload_n dX7_inAt_4 rfl ?_
  refine P_iload_n dX7_inAt_5 rfl ?_
  refine P_callVp dX7_inAt_6 lkX7_61 okX1_at ⟨Nat.le_of_ble_eq_true rfl, Nat.le_of_ble_eq_true rfl⟩ (t_at l kr.2.1 (by omega) (by omega)) rfl rfl kr.2.1.1 (Nat.le_of_ble_eq_true rfl) ⟨Nat.le_of_ble_eq_true rfl, Nat.le_of_ble_eq_true rfl⟩ ?_
  rw [(hg r (Nat.zero_le _) hr t ht).1]
  exact P_lret dX7_inAt_9 rfl ⟨Nat.le_refl _, Nat.le_refl _⟩ ⟨rfl, rfl⟩
theorem t_outAt (l : Launch) {G : PH} {h : Nat} {ρ : Riv} {r t : Nat} (hq : ran G h ρ) (hb : rBd ρ) (hr : r < rN ρ) (ht : t < rT ρ) : Tri l mX7_outAt 0 0 [.ref h, .int (nI r), .int (nI t)] G (fun w G' => w = some (.long (OUT ρ r t)) ∧ G' = G) := by
  obtain ⟨fi, fo, fs, fl, fh, kr, hg⟩ := hq
  have hN : rN ρ ≤ 6 := hb.2.2.2.2; have hT : rT ρ ≤ 24 := hb.2.1
  refine Tri.intro (L := [_, _, _]) okX7_outAt.1 (Nat.le_of_ble_eq_true rfl) rfl ?_
  refine P_aload_n dX7_outAt_0 rfl ?_
  refine P_get dX7_outAt_1 flX7_20 kr.1 rfl ?_
  refine P_iload_n dX7_outAt_4 rfl ?_
  refine P_iload_n dX7_outAt_5 rfl ?_
  refine P_callVp dX7_outAt_6 lkX7_61 okX1_at ⟨Nat.le_of_ble_eq_true rfl, Nat.le_of_ble_eq_true rfl⟩ (t_at l kr.2.2.1 (by omega) (by omega)) rfl rfl kr.2.2.1.1 (Nat.le_of_ble_eq_true rfl) ⟨Nat.le_of_ble_eq_true rfl, Nat.le_of_ble_eq_true rfl⟩ ?_
  rw [(hg r (Nat.zero_le _) hr t ht).2.1]
  exact P_lret dX7_outAt_9 rfl ⟨Nat.le_refl _, Nat.le_refl _⟩ ⟨rfl, rfl⟩
theorem t_storedAt (l : Launch) {G : PH} {h : Nat} {ρ : Riv} {r t : Nat} (hq : ran G h ρ) (hb : rBd ρ) (hr : r < rN ρ) (ht : t < rT ρ) : Tri l mX7_storedAt 0 0 [.ref h, .int (nI r), .int (nI t)] G (fun w G' => w = some (.long (STO ρ r t)) ∧ G' = G) := by
  obtain ⟨fi, fo, fs, fl, fh, kr, hg⟩ := hq
  have hN : rN ρ ≤ 6 := hb.2.2.2.2; have hT : rT ρ ≤ 24 := hb.2.1
  refine Tri.intro (L := [_, _, _]) okX7_storedAt.1 (Nat.le_of_ble_eq_true rfl) rfl ?_
  refine P_aload_n dX7_storedAt_0 rfl ?_
  refine P_get dX7_storedAt_1 flX7_23 kr.1 rfl ?_
  refine P_iload_n dX7_storedAt_4 rfl ?_
  refine P_iload_n dX7_storedAt_5 rfl ?_
  refine P_callVp dX7_storedAt_6 lkX7_61 okX1_at ⟨Nat.le_of_ble_eq_true rfl, Nat.le_of_ble_eq_true rfl⟩ (t_at l kr.2.2.2.1 (by omega) (by omega)) rfl rfl kr.2.2.2.1.1 (Nat.le_of_ble_eq_true rfl) ⟨Nat.le_of_ble_eq_true rfl, Nat.le_of_ble_eq_true rfl⟩ ?_
  rw [(hg r (Nat.zero_le _) hr t ht).2.2]
  exact P_lret dX7_storedAt_9 rfl ⟨Nat.le_refl _, Nat.le_refl _⟩ ⟨rfl, rfl⟩
theorem t_leavingAt (l : Launch) {G : PH} {h T D t : Nat} {fi fo fs fl fh : Nat → Int64} (kr : rout G h T D fi fo fs fl fh) (ht : t < 24) : Tri l mX7_leavingAt 0 0 [.ref h, .int (nI t)] G (fun w G' => w = some (.long (fl t)) ∧ G' = G) := by
  refine Tri.intro (L := [_, _]) okX7_leavingAt.1 (Nat.le_of_ble_eq_true rfl) rfl ?_
  refine P_aload_n dX7_leavingAt_0 rfl ?_
  refine P_get dX7_leavingAt_1 flX7_26 kr.1 rfl ?_
  refine P_iconst dX7_leavingAt_4 ci_0 ?_
  refine P_iload_n dX7_leavingAt_5 rfl ?_
  refine P_callVp dX7_leavingAt_6 lkX7_61 okX1_at ⟨Nat.le_of_ble_eq_true rfl, Nat.le_of_ble_eq_true rfl⟩ (t_at0 l kr.2.2.2.2.1 (by decide) ht) rfl rfl kr.2.2.2.2.1.1 (Nat.le_of_ble_eq_true rfl) ⟨Nat.le_of_ble_eq_true rfl, Nat.le_of_ble_eq_true rfl⟩ ?_
  exact P_lret dX7_leavingAt_9 rfl ⟨Nat.le_refl _, Nat.le_refl _⟩ ⟨rfl, rfl⟩
set_option maxRecDepth 100000 in
theorem lp_peak (l : Launch) {G : PH} {h hc T D r : Nat} {fi fo fs fl fh f : Nat → Int64} (kr : rout G h T D fi fo fs fl fh) (kc : cells G hc 6 24 f) (hT : T ≤ 24) (hr : r < 6) : ∀ (n : Nat) (i : Nat), T - (i + 1) < n → i + 1 ≤ T → WP mX7_timeOfPeak l (rmM mX7_timeOfPeak 0 0) (ZM 0 0 (fun w G' => w = some (.int (nI (pkT (fun j => f (r * 24 + j)) (T - 1)))) ∧ G' = G)) XT 0 0 5 [some (.ref h), some (.ref hc), some (.int (nI r)), some (.int (nI (pkT (fun j => f (r * 24 + j)) i))), some (.int (nI (i + 1)))] [] G := by
  intro n
  induction n with
  | zero => intro i hn hi; exact absurd hn (Nat.not_lt_zero _)
  | succ n ih =>
    intro i hn hi
    have hp := pkT_le (fun j => f (r * 24 + j)) i
    refine P_iload dX7_timeOfPeak_5 rfl ?_
    refine P_aload_n dX7_timeOfPeak_7 rfl ?_
    refine P_get dX7_timeOfPeak_8 flX7_32 kr.1 rfl ?_
    refine P_icmp_ge (tgt := 40) dX7_timeOfPeak_11 (by decide) (fun c11 => ?_) (fun c11 => ?_)
    · have hi2 : i = T - 1 := by have := Nat.not_lt.mp fun q : i + 1 < T => nI_ge q (by omega) c11; omega
      subst hi2
      refine P_iload_n dX7_timeOfPeak_40 rfl ?_
      exact P_iret dX7_timeOfPeak_41 rfl ⟨Nat.le_refl _, Nat.le_refl _⟩ ⟨rfl, rfl⟩
    · have hlt : i + 1 < T := Nat.not_le.mp fun q => c11 (nI_le q (by omega))
      refine P_aload_n dX7_timeOfPeak_14 rfl ?_
      refine P_iload_n dX7_timeOfPeak_15 rfl ?_
      refine P_iload dX7_timeOfPeak_16 rfl ?_
      refine P_callVp dX7_timeOfPeak_18 lkX7_61 okX1_at ⟨Nat.le_of_ble_eq_true rfl, Nat.le_of_ble_eq_true rfl⟩ (t_at l kc hr (by omega)) rfl rfl kc.1 (Nat.le_of_ble_eq_true rfl) ⟨Nat.le_of_ble_eq_true rfl, Nat.le_of_ble_eq_true rfl⟩ ?_
      refine P_aload_n dX7_timeOfPeak_21 rfl ?_
      refine P_iload_n dX7_timeOfPeak_22 rfl ?_
      refine P_iload_n dX7_timeOfPeak_23 rfl ?_
      refine P_callVp dX7_timeOfPeak_24 lkX7_61 okX1_at ⟨Nat.le_of_ble_eq_true rfl, Nat.le_of_ble_eq_true rfl⟩ (t_at l kc hr (by omega)) rfl rfl kc.1 (Nat.le_of_ble_eq_true rfl) ⟨Nat.le_of_ble_eq_true rfl, Nat.le_of_ble_eq_true rfl⟩ ?_
      refine P_lcmp dX7_timeOfPeak_27 ?_
      refine P_if_le (tgt := 34) dX7_timeOfPeak_28 (by decide) (fun c28 => ?_) (fun c28 => ?_)
      · have e2 : pkT (fun j => f (r * 24 + j)) i = pkT (fun j => f (r * 24 + j)) (i + 1) := by simp only [pkT]; rw [if_neg (by rw [lg_cmp_le] at c28; exact Int64.not_lt.mpr c28)]
        rw [e2]
        refine P_iinc (L' := [_, _, _, _, _]) dX7_timeOfPeak_34 rfl (ii_1 _) (Nat.le_of_ble_eq_true rfl) rfl ?_
        rw [nI_1]
        refine P_goto (tgt := 5) dX7_timeOfPeak_37 (by decide) ?_
        exact ih (i + 1) (by omega) hlt
      · have e2 : i + 1 = pkT (fun j => f (r * 24 + j)) (i + 1) := by simp only [pkT]; rw [if_pos (by rw [lg_cmp_le] at c28; exact Int64.not_le.mp c28)]
        refine P_iload dX7_timeOfPeak_31 rfl ?_
        refine P_istore_n (L' := [some (.ref h), some (.ref hc), some (.int (nI r)), some (.int (nI (pkT (fun j => f (r * 24 + j)) (i + 1)))), some (.int (nI (i + 1)))]) dX7_timeOfPeak_33 (Nat.le_of_ble_eq_true rfl) (by rw [← e2]; rfl) ?_
        refine P_iinc (L' := [_, _, _, _, _]) dX7_timeOfPeak_34 rfl (ii_1 _) (Nat.le_of_ble_eq_true rfl) rfl ?_
        rw [nI_1]
        refine P_goto (tgt := 5) dX7_timeOfPeak_37 (by decide) ?_
        exact ih (i + 1) (by omega) hlt
theorem t_peakT (l : Launch) {G : PH} {h hc T D r : Nat} {fi fo fs fl fh f : Nat → Int64} (kr : rout G h T D fi fo fs fl fh) (kc : cells G hc 6 24 f) (h2 : 2 ≤ T) (hT : T ≤ 24) (hr : r < 6) : Tri l mX7_timeOfPeak 0 0 [.ref h, .ref hc, .int (nI r)] G (fun w G' => w = some (.int (nI (pkT (fun j => f (r * 24 + j)) (T - 1)))) ∧ G' = G) := by
  refine Tri.intro (L := [_, _, _, _, _]) okX7_timeOfPeak.1 (Nat.le_of_ble_eq_true rfl) rfl ?_
  refine P_iconst dX7_timeOfPeak_0 ci_0 ?_
  refine P_istore_n (L' := [_, _, _, _, _]) dX7_timeOfPeak_1 (Nat.le_of_ble_eq_true rfl) rfl ?_
  refine P_iconst dX7_timeOfPeak_2 ci_1 ?_
  refine P_istore (L' := [_, _, _, _, _]) dX7_timeOfPeak_3 (Nat.le_of_ble_eq_true rfl) rfl ?_
  exact lp_peak l kr kc hT hr (T + 1) 0 (by omega) (by omega)
set_option maxRecDepth 100000 in
theorem lp_vol (l : Launch) {G : PH} {h hc T D r : Nat} {fi fo fs fl fh f : Nat → Int64} (kr : rout G h T D fi fo fs fl fh) (kc : cells G hc 6 24 f) (hT : T ≤ 24) (hr : r < 6) : ∀ (n : Nat) (i : Nat), T - (i + 1) < n → i + 1 ≤ T → WP mX7_volume l (rmM mX7_volume 0 0) (ZM 0 0 (fun w G' => w = some (.long (voF (nI D).toInt64 (fun j => f (r * 24 + j)) (T - 1))) ∧ G' = G)) XT 0 0 5 [some (.ref h), some (.ref hc), some (.int (nI r)), some (.long (voF (nI D).toInt64 (fun j => f (r * 24 + j)) i)), none, some (.int (nI i))] [] G := by
  intro n
  induction n with
  | zero => intro i hn hi; exact absurd hn (Nat.not_lt_zero _)
  | succ n ih =>
    intro i hn hi
    refine P_iload dX7_volume_5 rfl ?_
    refine P_iconst dX7_volume_7 ci_1 ?_
    refine P_iadd dX7_volume_8 ?_
    rw [nI_1]
    refine P_aload_n dX7_volume_9 rfl ?_
    refine P_get dX7_volume_10 flX7_32 kr.1 rfl ?_
    refine P_icmp_ge (tgt := 48) dX7_volume_13 (by decide) (fun c13 => ?_) (fun c13 => ?_)
    · have hi2 : i = T - 1 := by have := Nat.not_lt.mp fun q : i + 1 < T => nI_ge q (by omega) c13; omega
      subst hi2
      refine P_lload_n dX7_volume_48 rfl ?_
      exact P_lret dX7_volume_49 rfl ⟨Nat.le_refl _, Nat.le_refl _⟩ ⟨rfl, rfl⟩
    · have hlt : i + 1 < T := Nat.not_le.mp fun q => c13 (nI_le q (by omega))
      refine P_lload_n dX7_volume_16 rfl ?_
      refine P_aload_n dX7_volume_17 rfl ?_
      refine P_get dX7_volume_18 flX7_36 kr.1 rfl ?_
      refine P_i2l dX7_volume_21 ?_
      refine P_aload_n dX7_volume_22 rfl ?_
      refine P_iload_n dX7_volume_23 rfl ?_
      refine P_iload dX7_volume_24 rfl ?_
      refine P_callVp dX7_volume_26 lkX7_61 okX1_at ⟨Nat.le_of_ble_eq_true rfl, Nat.le_of_ble_eq_true rfl⟩ (t_at l kc hr (by omega)) rfl rfl kc.1 (Nat.le_of_ble_eq_true rfl) ⟨Nat.le_of_ble_eq_true rfl, Nat.le_of_ble_eq_true rfl⟩ ?_
      refine P_aload_n dX7_volume_29 rfl ?_
      refine P_iload_n dX7_volume_30 rfl ?_
      refine P_iload dX7_volume_31 rfl ?_
      refine P_iconst dX7_volume_33 ci_1 ?_
      refine P_iadd dX7_volume_34 ?_
      rw [nI_1]
      refine P_callVp dX7_volume_35 lkX7_61 okX1_at ⟨Nat.le_of_ble_eq_true rfl, Nat.le_of_ble_eq_true rfl⟩ (t_at l kc hr (by omega)) rfl rfl kc.1 (Nat.le_of_ble_eq_true rfl) ⟨Nat.le_of_ble_eq_true rfl, Nat.le_of_ble_eq_true rfl⟩ ?_
      refine P_ladd dX7_volume_38 ?_
      refine P_lmul dX7_volume_39 ?_
      refine P_ladd dX7_volume_40 ?_
      refine P_lstore_n (L' := [_, _, _, _, _, _]) dX7_volume_41 (Nat.le_of_ble_eq_true rfl) rfl ?_
      refine P_iinc (L' := [_, _, _, _, _, _]) dX7_volume_42 rfl (ii_1 _) (Nat.le_of_ble_eq_true rfl) rfl ?_
      rw [nI_1]
      refine P_goto (tgt := 5) dX7_volume_45 (by decide) ?_
      exact ih (i + 1) (by omega) hlt
theorem t_vol (l : Launch) {G : PH} {h hc T D r : Nat} {fi fo fs fl fh f : Nat → Int64} (kr : rout G h T D fi fo fs fl fh) (kc : cells G hc 6 24 f) (h2 : 2 ≤ T) (hT : T ≤ 24) (hr : r < 6) : Tri l mX7_volume 0 0 [.ref h, .ref hc, .int (nI r)] G (fun w G' => w = some (.long (voF (nI D).toInt64 (fun j => f (r * 24 + j)) (T - 1))) ∧ G' = G) := by
  refine Tri.intro (L := [_, _, _, _, _, _]) okX7_volume.1 (Nat.le_of_ble_eq_true rfl) rfl ?_
  refine P_lconst dX7_volume_0 lc_0 ?_
  refine P_lstore_n (L' := [_, _, _, _, _, _]) dX7_volume_1 (Nat.le_of_ble_eq_true rfl) rfl ?_
  refine P_iconst dX7_volume_2 ci_0 ?_
  refine P_istore (L' := [_, _, _, _, _, _]) dX7_volume_3 (Nat.le_of_ble_eq_true rfl) rfl ?_
  exact lp_vol l kr kc hT hr (T + 1) 0 (by omega) (by omega)
set_option maxRecDepth 100000 in
theorem lp_least (l : Launch) {G : PH} {h T D r : Nat} {fi fo fs fl fh : Nat → Int64} (kr : rout G h T D fi fo fs fl fh) (hT : T ≤ 24) (hr : r < 6) : ∀ (n : Nat) (i : Nat), T - (i + 1) < n → i + 1 ≤ T → WP mX7_leastOut l (rmM mX7_leastOut 0 0) (ZM 0 0 (fun w G' => w = some (.long (mnF (fun j => fo (r * 24 + j)) (T - 1))) ∧ G' = G)) XT 0 0 13 [some (.ref h), some (.int (nI r)), some (.long (mnF (fun j => fo (r * 24 + j)) i)), none, some (.int (nI (i + 1)))] [] G := by
  intro n
  induction n with
  | zero => intro i hn hi; exact absurd hn (Nat.not_lt_zero _)
  | succ n ih =>
    intro i hn hi
    refine P_iload dX7_leastOut_13 rfl ?_
    refine P_aload_n dX7_leastOut_15 rfl ?_
    refine P_get dX7_leastOut_16 flX7_32 kr.1 rfl ?_
    refine P_icmp_ge (tgt := 43) dX7_leastOut_19 (by decide) (fun c19 => ?_) (fun c19 => ?_)
    · have hi2 : i = T - 1 := by have := Nat.not_lt.mp fun q : i + 1 < T => nI_ge q (by omega) c19; omega
      subst hi2
      refine P_lload_n dX7_leastOut_43 rfl ?_
      exact P_lret dX7_leastOut_44 rfl ⟨Nat.le_refl _, Nat.le_refl _⟩ ⟨rfl, rfl⟩
    · have hlt : i + 1 < T := Nat.not_le.mp fun q => c19 (nI_le q (by omega))
      refine P_lload_n dX7_leastOut_22 rfl ?_
      refine P_aload_n dX7_leastOut_23 rfl ?_
      refine P_get dX7_leastOut_24 flX7_20 kr.1 rfl ?_
      refine P_iload_n dX7_leastOut_27 rfl ?_
      refine P_iload dX7_leastOut_28 rfl ?_
      refine P_callVp dX7_leastOut_30 lkX7_61 okX1_at ⟨Nat.le_of_ble_eq_true rfl, Nat.le_of_ble_eq_true rfl⟩ (t_at l kr.2.2.1 hr (by omega)) rfl rfl kr.2.2.1.1 (Nat.le_of_ble_eq_true rfl) ⟨Nat.le_of_ble_eq_true rfl, Nat.le_of_ble_eq_true rfl⟩ ?_
      refine P_callSp dX7_leastOut_33 lkX7_105 okJ9_min_f86c9 ⟨Nat.le_of_ble_eq_true rfl, Nat.le_of_ble_eq_true rfl⟩ (t_jmin l) rfl rfl (Nat.le_of_ble_eq_true rfl) ⟨Nat.le_of_ble_eq_true rfl, Nat.le_of_ble_eq_true rfl⟩ ?_
      refine P_lstore_n (L' := [_, _, _, _, _]) dX7_leastOut_36 (Nat.le_of_ble_eq_true rfl) rfl ?_
      refine P_iinc (L' := [_, _, _, _, _]) dX7_leastOut_37 rfl (ii_1 _) (Nat.le_of_ble_eq_true rfl) rfl ?_
      rw [nI_1]
      refine P_goto (tgt := 13) dX7_leastOut_40 (by decide) ?_
      exact ih (i + 1) (by omega) hlt
theorem t_leastOut (l : Launch) {G : PH} {h : Nat} {ρ : Riv} {r : Nat} (hq : ran G h ρ) (hb : rBd ρ) (hr : r < rN ρ) : Tri l mX7_leastOut 0 0 [.ref h, .int (nI r)] G (fun w G' => w = some (.long (mnF (OUT ρ r) (rT ρ - 1))) ∧ G' = G) := by
  obtain ⟨fi, fo, fs, fl, fh, kr, hg⟩ := hq
  have hN : rN ρ ≤ 6 := hb.2.2.2.2; have hT : rT ρ ≤ 24 := hb.2.1
  have h2 : 2 ≤ rT ρ := hb.1
  rw [show mnF (OUT ρ r) (rT ρ - 1) = mnF (fun j => fo (r * 24 + j)) (rT ρ - 1) from mnF_cong (fun j hj => (hg r (Nat.zero_le _) hr j (by omega)).2.1.symm)]
  refine Tri.intro (L := [_, _, _, _, _]) okX7_leastOut.1 (Nat.le_of_ble_eq_true rfl) rfl ?_
  refine P_aload_n dX7_leastOut_0 rfl ?_
  refine P_get dX7_leastOut_1 flX7_20 kr.1 rfl ?_
  refine P_iload_n dX7_leastOut_4 rfl ?_
  refine P_iconst dX7_leastOut_5 ci_0 ?_
  refine P_callVp dX7_leastOut_6 lkX7_61 okX1_at ⟨Nat.le_of_ble_eq_true rfl, Nat.le_of_ble_eq_true rfl⟩ (t_at (c := 0) l kr.2.2.1 (by omega) (by decide)) rfl rfl kr.2.2.1.1 (Nat.le_of_ble_eq_true rfl) ⟨Nat.le_of_ble_eq_true rfl, Nat.le_of_ble_eq_true rfl⟩ ?_
  refine P_lstore_n (L' := [_, _, _, _, _]) dX7_leastOut_9 (Nat.le_of_ble_eq_true rfl) rfl ?_
  refine P_iconst dX7_leastOut_10 ci_1 ?_
  refine P_istore (L' := [_, _, _, _, _]) dX7_leastOut_11 (Nat.le_of_ble_eq_true rfl) rfl ?_
  exact lp_least l kr hT (by omega) (rT ρ + 1) 0 (by omega) (by omega)
theorem t_timePeakIn (l : Launch) {G : PH} {h : Nat} {ρ : Riv} {r : Nat} (hq : ran G h ρ) (hb : rBd ρ) (hr : r < rN ρ) : Tri l mX7_timeOfPeakIn 0 0 [.ref h, .int (nI r)] G (fun w G' => w = some (.int (nI (pkT (INN ρ r) (rT ρ - 1)))) ∧ G' = G) := by
  obtain ⟨fi, fo, fs, fl, fh, kr, hg⟩ := hq
  have hN : rN ρ ≤ 6 := hb.2.2.2.2; have hT : rT ρ ≤ 24 := hb.2.1
  have h2 : 2 ≤ rT ρ := hb.1
  rw [show pkT (INN ρ r) (rT ρ - 1) = pkT (fun j => fi (r * 24 + j)) (rT ρ - 1) from pkT_cong (fun j hj => (hg r (Nat.zero_le _) hr j (by omega)).1.symm)]
  refine Tri.intro (L := [_, _]) okX7_timeOfPeakIn.1 (Nat.le_of_ble_eq_true rfl) rfl ?_
  refine P_aload_n dX7_timeOfPeakIn_0 rfl ?_
  refine P_aload_n dX7_timeOfPeakIn_1 rfl ?_
  refine P_get dX7_timeOfPeakIn_2 flX7_14 kr.1 rfl ?_
  refine P_iload_n dX7_timeOfPeakIn_5 rfl ?_
  refine P_callVp dX7_timeOfPeakIn_6 lkX7_97 okX7_timeOfPeak ⟨Nat.le_of_ble_eq_true rfl, Nat.le_of_ble_eq_true rfl⟩ (t_peakT l kr kr.2.1 h2 hT (by omega)) rfl rfl kr.1 (Nat.le_of_ble_eq_true rfl) ⟨Nat.le_of_ble_eq_true rfl, Nat.le_of_ble_eq_true rfl⟩ ?_
  exact P_iret dX7_timeOfPeakIn_9 rfl ⟨Nat.le_refl _, Nat.le_refl _⟩ ⟨rfl, rfl⟩
theorem t_volumeIn (l : Launch) {G : PH} {h : Nat} {ρ : Riv} {r : Nat} (hq : ran G h ρ) (hb : rBd ρ) (hr : r < rN ρ) : Tri l mX7_volumeIn 0 0 [.ref h, .int (nI r)] G (fun w G' => w = some (.long (voF (nI (rD ρ)).toInt64 (INN ρ r) (rT ρ - 1))) ∧ G' = G) := by
  obtain ⟨fi, fo, fs, fl, fh, kr, hg⟩ := hq
  have hN : rN ρ ≤ 6 := hb.2.2.2.2; have hT : rT ρ ≤ 24 := hb.2.1
  have h2 : 2 ≤ rT ρ := hb.1
  rw [show voF (nI (rD ρ)).toInt64 (INN ρ r) (rT ρ - 1) = voF (nI (rD ρ)).toInt64 (fun j => fi (r * 24 + j)) (rT ρ - 1) from voF_cong (fun j hj => (hg r (Nat.zero_le _) hr j (by omega)).1.symm)]
  refine Tri.intro (L := [_, _]) okX7_volumeIn.1 (Nat.le_of_ble_eq_true rfl) rfl ?_
  refine P_aload_n dX7_volumeIn_0 rfl ?_
  refine P_aload_n dX7_volumeIn_1 rfl ?_
  refine P_get dX7_volumeIn_2 flX7_14 kr.1 rfl ?_
  refine P_iload_n dX7_volumeIn_5 rfl ?_
  refine P_callVp dX7_volumeIn_6 lkX7_108 okX7_volume ⟨Nat.le_of_ble_eq_true rfl, Nat.le_of_ble_eq_true rfl⟩ (t_vol l kr kr.2.1 h2 hT (by omega)) rfl rfl kr.1 (Nat.le_of_ble_eq_true rfl) ⟨Nat.le_of_ble_eq_true rfl, Nat.le_of_ble_eq_true rfl⟩ ?_
  exact P_lret dX7_volumeIn_9 rfl ⟨Nat.le_refl _, Nat.le_refl _⟩ ⟨rfl, rfl⟩
theorem t_timePeakOut (l : Launch) {G : PH} {h : Nat} {ρ : Riv} {r : Nat} (hq : ran G h ρ) (hb : rBd ρ) (hr : r < rN ρ) : Tri l mX7_timeOfPeakOut 0 0 [.ref h, .int (nI r)] G (fun w G' => w = some (.int (nI (pkT (OUT ρ r) (rT ρ - 1)))) ∧ G' = G) := by
  obtain ⟨fi, fo, fs, fl, fh, kr, hg⟩ := hq
  have hN : rN ρ ≤ 6 := hb.2.2.2.2; have hT : rT ρ ≤ 24 := hb.2.1
  have h2 : 2 ≤ rT ρ := hb.1
  rw [show pkT (OUT ρ r) (rT ρ - 1) = pkT (fun j => fo (r * 24 + j)) (rT ρ - 1) from pkT_cong (fun j hj => (hg r (Nat.zero_le _) hr j (by omega)).2.1.symm)]
  refine Tri.intro (L := [_, _]) okX7_timeOfPeakOut.1 (Nat.le_of_ble_eq_true rfl) rfl ?_
  refine P_aload_n dX7_timeOfPeakOut_0 rfl ?_
  refine P_aload_n dX7_timeOfPeakOut_1 rfl ?_
  refine P_get dX7_timeOfPeakOut_2 flX7_20 kr.1 rfl ?_
  refine P_iload_n dX7_timeOfPeakOut_5 rfl ?_
  refine P_callVp dX7_timeOfPeakOut_6 lkX7_97 okX7_timeOfPeak ⟨Nat.le_of_ble_eq_true rfl, Nat.le_of_ble_eq_true rfl⟩ (t_peakT l kr kr.2.2.1 h2 hT (by omega)) rfl rfl kr.1 (Nat.le_of_ble_eq_true rfl) ⟨Nat.le_of_ble_eq_true rfl, Nat.le_of_ble_eq_true rfl⟩ ?_
  exact P_iret dX7_timeOfPeakOut_9 rfl ⟨Nat.le_refl _, Nat.le_refl _⟩ ⟨rfl, rfl⟩
theorem t_volumeOut (l : Launch) {G : PH} {h : Nat} {ρ : Riv} {r : Nat} (hq : ran G h ρ) (hb : rBd ρ) (hr : r < rN ρ) : Tri l mX7_volumeOut 0 0 [.ref h, .int (nI r)] G (fun w G' => w = some (.long (voF (nI (rD ρ)).toInt64 (OUT ρ r) (rT ρ - 1))) ∧ G' = G) := by
  obtain ⟨fi, fo, fs, fl, fh, kr, hg⟩ := hq
  have hN : rN ρ ≤ 6 := hb.2.2.2.2; have hT : rT ρ ≤ 24 := hb.2.1
  have h2 : 2 ≤ rT ρ := hb.1
  rw [show voF (nI (rD ρ)).toInt64 (OUT ρ r) (rT ρ - 1) = voF (nI (rD ρ)).toInt64 (fun j => fo (r * 24 + j)) (rT ρ - 1) from voF_cong (fun j hj => (hg r (Nat.zero_le _) hr j (by omega)).2.1.symm)]
  refine Tri.intro (L := [_, _]) okX7_volumeOut.1 (Nat.le_of_ble_eq_true rfl) rfl ?_
  refine P_aload_n dX7_volumeOut_0 rfl ?_
  refine P_aload_n dX7_volumeOut_1 rfl ?_
  refine P_get dX7_volumeOut_2 flX7_20 kr.1 rfl ?_
  refine P_iload_n dX7_volumeOut_5 rfl ?_
  refine P_callVp dX7_volumeOut_6 lkX7_108 okX7_volume ⟨Nat.le_of_ble_eq_true rfl, Nat.le_of_ble_eq_true rfl⟩ (t_vol l kr kr.2.2.1 h2 hT (by omega)) rfl rfl kr.1 (Nat.le_of_ble_eq_true rfl) ⟨Nat.le_of_ble_eq_true rfl, Nat.le_of_ble_eq_true rfl⟩ ?_
  exact P_lret dX7_volumeOut_9 rfl ⟨Nat.le_refl _, Nat.le_refl _⟩ ⟨rfl, rfl⟩
theorem t_peakOut (l : Launch) {G : PH} {h : Nat} {ρ : Riv} {r : Nat} (hq : ran G h ρ) (hb : rBd ρ) (hr : r < rN ρ) : Tri l mX7_peakOut 0 0 [.ref h, .int (nI r)] G (fun w G' => w = some (.long (OUT ρ r (pkT (OUT ρ r) (rT ρ - 1)))) ∧ G' = G) := by
  have hq0 := hq
  obtain ⟨fi, fo, fs, fl, fh, kr, hg⟩ := hq
  have hN : rN ρ ≤ 6 := hb.2.2.2.2; have hT : rT ρ ≤ 24 := hb.2.1
  have h2 : 2 ≤ rT ρ := hb.1
  have hp := pkT_le (OUT ρ r) (rT ρ - 1)
  refine Tri.intro (L := [_, _]) okX7_peakOut.1 (Nat.le_of_ble_eq_true rfl) rfl ?_
  refine P_aload_n dX7_peakOut_0 rfl ?_
  refine P_get dX7_peakOut_1 flX7_20 kr.1 rfl ?_
  refine P_iload_n dX7_peakOut_4 rfl ?_
  refine P_aload_n dX7_peakOut_5 rfl ?_
  refine P_iload_n dX7_peakOut_6 rfl ?_
  refine P_callVp dX7_peakOut_7 lkX7_101 okX7_timeOfPeakOut ⟨Nat.le_of_ble_eq_true rfl, Nat.le_of_ble_eq_true rfl⟩ (t_timePeakOut l hq0 hb hr) rfl rfl kr.1 (Nat.le_of_ble_eq_true rfl) ⟨Nat.le_of_ble_eq_true rfl, Nat.le_of_ble_eq_true rfl⟩ ?_
  refine P_callVp dX7_peakOut_10 lkX7_61 okX1_at ⟨Nat.le_of_ble_eq_true rfl, Nat.le_of_ble_eq_true rfl⟩ (t_at l kr.2.2.1 (by omega) (by omega)) rfl rfl kr.2.2.1.1 (Nat.le_of_ble_eq_true rfl) ⟨Nat.le_of_ble_eq_true rfl, Nat.le_of_ble_eq_true rfl⟩ ?_
  rw [(hg r (Nat.zero_le _) hr _ (by omega)).2.1]
  exact P_lret dX7_peakOut_13 rfl ⟨Nat.le_refl _, Nat.le_refl _⟩ ⟨rfl, rfl⟩
