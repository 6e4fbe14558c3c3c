/-- the bounds of what is told -/
def rVal (ρ : Riv) : Prop := ∀ r, r < rN ρ → (rF ρ r 0 = -1 ∨ ∃ b, b < r ∧ rF ρ r 0 = nI b) ∧ (∃ k, k ≤ 20 ∧ rF ρ r 1 = nI k) ∧ (∃ x, x ≤ 10 ∧ rF ρ r 2 = nI x) ∧ (∃ q, 1 ≤ q ∧ q ≤ 4 ∧ rF ρ r 3 = nI q) ∧ ∀ t, t < 24 → (∃ a, a ≤ 9999 ∧ rS ρ r t = nI a) ∧ ∃ a, a ≤ 9999 ∧ rE ρ r t = nI a
/-- does j flow through r? -/
def thrF (ρ : Riv) (r : Nat) : Nat → Nat → Bool
  | 0, _ => false
  | f + 1, j => if j = r then true else if r < j ∧ 0 ≤ rF ρ j 0 then thrF ρ r f (rF ρ j 0).toNatClampNeg else false
abbrev thr (ρ : Riv) (r j : Nat) : Bool := thrF ρ r 7 j
def thC (ρ : Riv) (r : Nat) : Nat → Int32
  | 0 => 0
  | n + 1 => thC ρ r n + (if thr ρ r (r + n) then 1 else 0)
theorem m1_lt0 : ¬ (0 : Int32) ≤ -1 := by decide +kernel
theorem m1_ne (j : Nat) (h : j < 2 ^ 31) : ¬ (-1 : Int32) = nI j := fun q => by
  have := nI_pos' h
  rw [← q] at this
  exact m1_lt0 this
theorem m1_toInt : (-1 : Int32).toInt = -1 := by decide +kernel
theorem m1_le (j : Nat) (h : j < 2 ^ 31) : (-1 : Int32) ≤ nI j := by
  rw [Int32.le_iff_toInt_le, nI_toInt h, m1_toInt]; omega
theorem thrF_mono {ρ : Riv} {r : Nat} (hv : rVal ρ) (hN : rN ρ ≤ 6) : ∀ (f g j : Nat), j < rN ρ → j < f + r → j < g + r → thrF ρ r f j = thrF ρ r g j
  | 0, 0, j, _, _, _ => rfl
  | 0, g + 1, j, hj, h1, h2 => by
    simp only [thrF]
    rw [if_neg (by omega), if_neg (by omega)]
  | f + 1, 0, j, hj, h1, h2 => by
    simp only [thrF]
    rw [if_neg (by omega), if_neg (by omega)]
  | f + 1, g + 1, j, hj, h1, h2 => by
    simp only [thrF]
    by_cases e : j = r
    · rw [if_pos e, if_pos e]
    · rw [if_neg e, if_neg e]
      rcases (hv j hj).1 with q | ⟨b, hb, q⟩
      · rw [if_neg (by rw [q]; exact fun z => m1_lt0 z.2), if_neg (by rw [q]; exact fun z => m1_lt0 z.2)]
      · rw [q, nI_clamp (by omega)]
        by_cases e2 : r < j ∧ 0 ≤ nI b
        · rw [if_pos e2, if_pos e2]
          exact thrF_mono hv hN f g b (by omega) (by omega) (by omega)
        · rw [if_neg e2, if_neg e2]
theorem thr_eq {ρ : Riv} {r : Nat} (hv : rVal ρ) (hN : rN ρ ≤ 6) {j : Nat} (hj : j < rN ρ) (hr : r < j) : thr ρ r j = (if 0 ≤ rF ρ j 0 then thr ρ r (rF ρ j 0).toNatClampNeg else false) := by
  show thrF ρ r 7 j = _
  rw [show thrF ρ r 7 j = if j = r then true else if r < j ∧ 0 ≤ rF ρ j 0 then thrF ρ r 6 (rF ρ j 0).toNatClampNeg else false from rfl, if_neg (by omega)]
  by_cases h0 : 0 ≤ rF ρ j 0
  · rw [if_pos ⟨hr, h0⟩, if_pos h0]
    rcases (hv j hj).1 with q | ⟨b, hb, q⟩
    · rw [q] at h0; exact absurd h0 m1_lt0
    · rw [q, nI_clamp (by omega)]
      exact thrF_mono hv hN 6 7 b (by omega) (by omega) (by omega)
  · rw [if_neg (fun z => h0 z.2), if_neg h0]
theorem thr_self (ρ : Riv) (r : Nat) : thr ρ r r = true := by simp [thr, thrF]
theorem thr_lt {ρ : Riv} {r j : Nat} (h : j < r) : thr ρ r j = false := by simp [thr, thrF]; omega
theorem lp_flowsThrough (l : Launch) {G : PH} {h r from0 : Nat} {ρ : Riv} (hR : isRiver G h ρ) (hv : rVal ρ) (hr : r < rN ρ) : ∀ (n i : Nat) (at0 : Int32), 7 - i < n → (at0 = -1 ∧ thr ρ r from0 = false ∨ ∃ j, j < rN ρ ∧ at0 = nI j ∧ thr ρ r j = thr ρ r from0 ∧ j < 6 - i ∧ i ≤ 6) → i ≤ 6 →
    WP mX6_flowsThrough l (rmM mX6_flowsThrough 0 0) (ZM 0 0 (fun w G' => w = some (.int (if thr ρ r from0 then 1 else 0)) ∧ G' = G)) XT 0 0 5 [some (.ref h), some (.int (nI from0)), some (.int (nI r)), some (.int at0), some (.int (nI i))] [] G := by
  intro n
  induction n with
  | zero => intro i at0 hn; exact absurd hn (Nat.not_lt_zero _)
  | succ n ih =>
    intro i at0 hn hj hi
    have hN : rN ρ ≤ 6 := hR.bd.2.2.2.2
    refine P_iload dX6_flowsThrough_5 rfl ?_
    refine P_bipush dX6_flowsThrough_7 bp_6 ?_
    refine P_icmp_ge (tgt := 30) dX6_flowsThrough_9 (by decide) (fun c9 => ?_) (fun c9 => ?_)
    · rcases hj with ⟨rfl, e⟩ | ⟨j, hj, rfl, e, h6, -⟩
      · have hne : ¬ (-1 : Int32) = nI r := m1_ne r (by omega)
        refine P_iload_n dX6_flowsThrough_30 rfl ?_
        refine P_iload_n dX6_flowsThrough_31 rfl ?_
        refine P_icmp_ne (tgt := 39) dX6_flowsThrough_32 (by decide) (fun c32 => ?_) (fun c32 => absurd c32 hne)
        refine P_iconst dX6_flowsThrough_39 ci_0 ?_
        exact P_zret dX6_flowsThrough_40 rfl ⟨Nat.le_refl _, Nat.le_refl _⟩ (Or.inl rfl) ⟨by rw [e]; rfl, rfl⟩
      · exfalso; have : ¬ i < 6 := fun q => nI_ge (b := 6) q (by decide) c9; omega
    · have hi6 : i < 6 := Nat.not_le.mp fun q => c9 (nI_le (a := 6) q (by omega))
      refine P_iload_n dX6_flowsThrough_12 rfl ?_
      refine P_iload_n dX6_flowsThrough_13 rfl ?_
      refine P_icmp_le (tgt := 30) dX6_flowsThrough_14 (by decide) (fun c14 => ?_) (fun c14 => ?_)
      · rcases hj with ⟨rfl, e⟩ | ⟨j, hj, rfl, e, h6, -⟩
        · have hne : ¬ (-1 : Int32) = nI r := m1_ne r (by omega)
          refine P_iload_n dX6_flowsThrough_30 rfl ?_
          refine P_iload_n dX6_flowsThrough_31 rfl ?_
          refine P_icmp_ne (tgt := 39) dX6_flowsThrough_32 (by decide) (fun c32 => ?_) (fun c32 => absurd c32 hne)
          refine P_iconst dX6_flowsThrough_39 ci_0 ?_
          exact P_zret dX6_flowsThrough_40 rfl ⟨Nat.le_refl _, Nat.le_refl _⟩ (Or.inl rfl) ⟨by rw [e]; rfl, rfl⟩
        · have hjr : j ≤ r := Nat.not_lt.mp fun q => nI_ge q (by omega) c14
          refine P_iload_n dX6_flowsThrough_30 rfl ?_
          refine P_iload_n dX6_flowsThrough_31 rfl ?_
          refine P_icmp_ne (tgt := 39) dX6_flowsThrough_32 (by decide) (fun c32 => ?_) (fun c32 => ?_)
          · refine P_iconst dX6_flowsThrough_39 ci_0 ?_
            have hlt : j < r := Nat.lt_of_le_of_ne hjr (fun q => c32 (by rw [q]))
            exact P_zret dX6_flowsThrough_40 rfl ⟨Nat.le_refl _, Nat.le_refl _⟩ (Or.inl rfl) ⟨by rw [← e, thr_lt hlt]; rfl, rfl⟩
          · have hjj : j = r := (nI_eq (by omega) (by omega)).mp c32
            subst hjj
            refine P_iconst dX6_flowsThrough_35 ci_1 ?_
            refine P_goto (tgt := 40) dX6_flowsThrough_36 (by decide) ?_
            exact P_zret dX6_flowsThrough_40 rfl ⟨Nat.le_refl _, Nat.le_refl _⟩ (Or.inr rfl) ⟨by rw [← e, thr_self]; rfl, rfl⟩
      · rcases hj with ⟨rfl, e⟩ | ⟨j, hj, rfl, e, h6, -⟩
        · exact absurd (m1_le r (by omega)) c14
        have hjr : r < j := Nat.not_le.mp fun q => c14 (nI_le q (by omega))
        refine P_aload_n dX6_flowsThrough_17 rfl ?_
        refine P_iload_n dX6_flowsThrough_18 rfl ?_
        refine P_iconst dX6_flowsThrough_19 ci_0 ?_
        refine P_callVp dX6_flowsThrough_20 lkX6_55 okX6_featureOf ⟨Nat.le_of_ble_eq_true rfl, Nat.le_of_ble_eq_true rfl⟩ (t_featureOf l 0 hR hj (by decide)) rfl rfl hR.at (Nat.le_of_ble_eq_true rfl) ⟨Nat.le_of_ble_eq_true rfl, Nat.le_of_ble_eq_true rfl⟩ ?_
        refine P_istore_n (L' := [_, _, _, _, _]) dX6_flowsThrough_23 (Nat.le_of_ble_eq_true rfl) rfl ?_
        refine P_iinc (L' := [_, _, _, _, _]) dX6_flowsThrough_24 rfl (ii_1 _) (Nat.le_of_ble_eq_true rfl) rfl ?_
        rw [nI_1]
        refine P_goto (tgt := 5) dX6_flowsThrough_27 (by decide) ?_
        exact ih (i + 1) _ (by omega) (by rcases (hv j hj).1 with q | ⟨b, hb, q⟩; exact Or.inl ⟨q, by rw [← e, thr_eq hv hN hj hjr, q, if_neg m1_lt0]⟩; exact Or.inr ⟨b, by omega, q, by rw [← e, thr_eq hv hN hj hjr, q, if_pos (nI_pos' (by omega)), nI_clamp (by omega)], by omega, by omega⟩) (by omega)
theorem t_flowsThrough (l : Launch) {G : PH} {h : Nat} {ρ : Riv} {j r : Nat} (hR : isRiver G h ρ) (hv : rVal ρ) (hj : j < rN ρ) (hr : r < rN ρ) : Tri l mX6_flowsThrough 0 0 [.ref h, .int (nI j), .int (nI r)] G (fun w G' => w = some (.int (if thr ρ r j then 1 else 0)) ∧ G' = G) := by
  have hN : rN ρ ≤ 6 := hR.bd.2.2.2.2
  refine Tri.intro (L := [_, _, _, _, _]) okX6_flowsThrough.1 (Nat.le_of_ble_eq_true rfl) rfl ?_
  refine P_iload_n dX6_flowsThrough_0 rfl ?_
  refine P_istore_n (L' := [_, _, _, _, _]) dX6_flowsThrough_1 (Nat.le_of_ble_eq_true rfl) rfl ?_
  refine P_iconst dX6_flowsThrough_2 ci_0 ?_
  refine P_istore (L' := [_, _, _, _, _]) dX6_flowsThrough_3 (Nat.le_of_ble_eq_true rfl) rfl ?_
  exact lp_flowsThrough l hR hv hr 8 0 _ (by omega) (Or.inr ⟨j, hj, rfl, rfl, by omega, by omega⟩) (by omega)
set_option maxRecDepth 100000 in
theorem lp_countThrough (l : Launch) {G : PH} {h r : Nat} {ρ : Riv} (hR : isRiver G h ρ) (hv : rVal ρ) (hr : r < rN ρ) : ∀ (n : Nat) (i : Nat), rN ρ - (r + i) < n → r + i ≤ rN ρ → WP mX6_countThrough l (rmM mX6_countThrough 0 0) (ZM 0 0 (fun w G' => w = some (.int (thC ρ r (rN ρ - r))) ∧ G' = G)) XT 0 0 4 [some (.ref h), some (.int (nI r)), some (.int (thC ρ r i)), some (.int (nI (r + i)))] [] G := by
  intro n
  induction n with
  | zero => intro i hn hi; exact absurd hn (Nat.not_lt_zero _)
  | succ n ih =>
    intro i hn hi
    have hN : rN ρ ≤ 6 := hR.bd.2.2.2.2
    refine P_iload_n dX6_countThrough_4 rfl ?_
    refine P_aload_n dX6_countThrough_5 rfl ?_
    refine P_get dX6_countThrough_6 flX6_33 hR.at rfl ?_
    refine P_icmp_ge (tgt := 30) dX6_countThrough_9 (by decide) (fun c9 => ?_) (fun c9 => ?_)
    · have hi2 : i = rN ρ - r := by have := Nat.not_lt.mp fun q : r + i < rN ρ => nI_ge q (by omega) c9; omega
      subst hi2
      refine P_iload_n dX6_countThrough_30 rfl ?_
      exact P_iret dX6_countThrough_31 rfl ⟨Nat.le_refl _, Nat.le_refl _⟩ ⟨rfl, rfl⟩
    · have hlt : r + i < rN ρ := Nat.not_le.mp fun q => c9 (nI_le q (by omega))
      refine P_aload_n dX6_countThrough_12 rfl ?_
      refine P_iload_n dX6_countThrough_13 rfl ?_
      refine P_iload_n dX6_countThrough_14 rfl ?_
      refine P_callVp dX6_countThrough_15 lkX6_83 okX6_flowsThrough ⟨Nat.le_of_ble_eq_true rfl, Nat.le_of_ble_eq_true rfl⟩ (t_flowsThrough l hR hv hlt hr) rfl rfl hR.at (Nat.le_of_ble_eq_true rfl) ⟨Nat.le_of_ble_eq_true rfl, Nat.le_of_ble_eq_true rfl⟩ ?_
      refine P_if_eq (tgt := 24) dX6_countThrough_18 (by decide) (fun c18 => ?_) (fun c18 => ?_)
      · have e : ¬ thr ρ r (r + i) = true := fun q => by rw [if_pos q] at c18; exact absurd c18 (by decide)
        have e2 : thC ρ r i = thC ρ r (i + 1) := by show _ = thC ρ r i + (if thr ρ r (r + i) then 1 else 0); rw [if_neg e]; simp
        rw [e2]
        refine P_iinc (L' := [_, _, _, _]) dX6_countThrough_24 rfl (ii_1 _) (Nat.le_of_ble_eq_true rfl) rfl ?_
        rw [nI_1, Nat.add_assoc]
        refine P_goto (tgt := 4) dX6_countThrough_27 (by decide) ?_
        exact ih (i + 1) (by omega) hlt
      · have e : thr ρ r (r + i) = true := Classical.byContradiction fun q => c18 (by rw [if_neg q])
        refine P_iinc (L' := [_, _, _, _]) dX6_countThrough_21 rfl (ii_1 _) (Nat.le_of_ble_eq_true rfl) rfl ?_
        rw [show thC ρ r i + 1 = thC ρ r (i + 1) by show _ = thC ρ r i + (if thr ρ r (r + i) then 1 else 0); rw [if_pos e]]
        refine P_iinc (L' := [_, _, _, _]) dX6_countThrough_24 rfl (ii_1 _) (Nat.le_of_ble_eq_true rfl) rfl ?_
        rw [nI_1, Nat.add_assoc]
        refine P_goto (tgt := 4) dX6_countThrough_27 (by decide) ?_
        exact ih (i + 1) (by omega) hlt
theorem t_countThrough (l : Launch) {G : PH} {h : Nat} {ρ : Riv} {r : Nat} (hR : isRiver G h ρ) (hv : rVal ρ) (hr : r < rN ρ) : Tri l mX6_countThrough 0 0 [.ref h, .int (nI r)] G (fun w G' => w = some (.int (thC ρ r (rN ρ - r))) ∧ G' = G) := by
  refine Tri.intro (L := [_, _, _, _]) okX6_countThrough.1 (Nat.le_of_ble_eq_true rfl) rfl ?_
  refine P_iconst dX6_countThrough_0 ci_0 ?_
  refine P_istore_n (L' := [_, _, _, _]) dX6_countThrough_1 (Nat.le_of_ble_eq_true rfl) rfl ?_
  refine P_iload_n dX6_countThrough_2 rfl ?_
  refine P_istore_n (L' := [_, _, _, _]) dX6_countThrough_3 (Nat.le_of_ble_eq_true rfl) rfl ?_
  exact lp_countThrough l hR hv hr (rN ρ + 1) 0 (by omega) (by omega)
theorem agr_A {ρ : Riv} {f1 f2 f3 g2 g3 : Nat → Int64} {b k x q : Int32} (ka : rAgr ρ f1 f2 f3) (h2 : ∀ j, j < 24 → g2 (rN ρ * 24 + j) = 0) (h2' : ∀ j, j < rN ρ * 24 ∨ (rN ρ + 1) * 24 ≤ j → g2 j = f2 j) (h3 : ∀ j, j < 24 → g3 (rN ρ * 24 + j) = 0) (h3' : ∀ j, j < rN ρ * 24 ∨ (rN ρ + 1) * 24 ≤ j → g3 j = f3 j) :
    rAgr (rvA ρ b k x q) (vp_updL (vp_updL (vp_updL (vp_updL f1 (rN ρ * 4 + 0) b.toInt64) (rN ρ * 4 + 3) q.toInt64) (rN ρ * 4 + 1) k.toInt64) (rN ρ * 4 + 2) x.toInt64) g2 g3 := by
  intro a ha
  have ha : a < rN ρ + 1 := ha
  refine ⟨fun i hi => ?_, fun t ht => ?_⟩
  · by_cases e : a = rN ρ
    · subst e
      show _ = (up2 (up2 (up2 (up2 (rF ρ) (rN ρ) 0 b) (rN ρ) 3 q) (rN ρ) 1 k) (rN ρ) 2 x (rN ρ) i).toInt64
      have : i = 0 ∨ i = 1 ∨ i = 2 ∨ i = 3 := by omega
      rcases this with rfl | rfl | rfl | rfl <;> simp [vp_updL, up2]
    · exact agr_f (n := rN ρ) (i := 2) (agr_f (n := rN ρ) (i := 1) (agr_f (n := rN ρ) (i := 3) (agr_f (n := rN ρ) (i := 0) (fun a ha => (ka a ha).1) (by decide)) (by decide)) (by decide)) (by decide) a (by omega) i hi
  · show g2 _ = (if a = rN ρ then 0 else rS ρ a t).toInt64 ∧ g3 _ = (if a = rN ρ then 0 else rE ρ a t).toInt64
    by_cases e : a = rN ρ
    · subst e
      rw [if_pos rfl, if_pos rfl, h2 t ht, h3 t ht]
      exact ⟨rfl, rfl⟩
    · rw [if_neg e, if_neg e, h2' _ (Or.inl (by omega)), h3' _ (Or.inl (by omega))]
      exact (ka a (by omega)).2 t ht
set_option maxHeartbeats 4000000 in
set_option maxRecDepth 100000 in
theorem t_addR (l : Launch) {G : PH} {h : Nat} {ρ : Riv} {b k0 x0 q0 : Int32} (hR : isRiver G h ρ) (h6 : rN ρ < 6) : Tri l mX6_addReach 0 0 [.ref h, .int b, .int k0, .int x0, .int q0] G (fun w G' => w = none ∧ isRiver G' h (rvA ρ b k0 x0 q0) ∧ Fr G G' h 7) := by
  obtain ⟨f1, f2, f3, k, ka, kb⟩ := id hR
  refine Tri.intro (L := [_, _, _, _, _, _]) okX6_addReach.1 (Nat.le_of_ble_eq_true rfl) rfl ?_
  refine P_aload_n dX6_addReach_0 rfl ?_
  refine P_callVp dX6_addReach_1 lkX6_71 okX6_hasRoomForReach ⟨Nat.le_of_ble_eq_true rfl, Nat.le_of_ble_eq_true rfl⟩ (t_hasRoom l hR) rfl rfl hR.at (Nat.le_of_ble_eq_true rfl) ⟨Nat.le_of_ble_eq_true rfl, Nat.le_of_ble_eq_true rfl⟩ ?_
  rw [if_pos h6]
  refine P_if_ne (tgt := 8) dX6_addReach_4 (by decide) (fun c4 => ?_) (fun c4 => ?_)
  · refine P_aload_n dX6_addReach_8 rfl ?_
    refine P_get dX6_addReach_9 flX6_33 k.1 rfl ?_
    refine P_istore (L' := [_, _, _, _, _, _]) dX6_addReach_12 (Nat.le_of_ble_eq_true rfl) rfl ?_
    refine P_aload_n dX6_addReach_14 rfl ?_
    refine P_get dX6_addReach_15 flX6_14 k.1 rfl ?_
    refine P_iload dX6_addReach_18 rfl ?_
    refine P_iconst dX6_addReach_20 ci_0 ?_
    refine P_iload_n dX6_addReach_21 rfl ?_
    refine P_i2l dX6_addReach_22 ?_
    refine P_callV dX6_addReach_23 lkX6_51 okX1_put ⟨Nat.le_of_ble_eq_true rfl, Nat.le_of_ble_eq_true rfl⟩ (t_put (c := 0) l k.2.1 h6 (by decide)) rfl rfl k.2.1.1 (Nat.le_of_ble_eq_true rfl) ⟨Nat.le_of_ble_eq_true rfl, Nat.le_of_ble_eq_true rfl⟩ (fun v23 G23 q23 => ?_)
    obtain ⟨rfl, kk1, hF1⟩ := q23
    refine P_aload_n dX6_addReach_26 rfl ?_
    refine P_get dX6_addReach_27 flX6_14 (hF1.at k.1 (by omega)) rfl ?_
    refine P_iload dX6_addReach_30 rfl ?_
    refine P_iconst dX6_addReach_32 ci_3 ?_
    refine P_iload dX6_addReach_33 rfl ?_
    refine P_i2l dX6_addReach_35 ?_
    refine P_callV dX6_addReach_36 lkX6_51 okX1_put ⟨Nat.le_of_ble_eq_true rfl, Nat.le_of_ble_eq_true rfl⟩ (t_put (c := 3) l kk1 h6 (by decide)) rfl rfl kk1.1 (Nat.le_of_ble_eq_true rfl) ⟨Nat.le_of_ble_eq_true rfl, Nat.le_of_ble_eq_true rfl⟩ (fun v36 G36 q36 => ?_)
    obtain ⟨rfl, kk2, hF2⟩ := q36
    have hF12 := hF1.tr hF2
    have k2 : riv0 G36 h (rT ρ) (rD ρ) (rN ρ) _ f2 f3 := ⟨hF12.at k.1 (by omega), kk2, k.2.2.1.fr hF12 (by omega), k.2.2.2.fr hF12 (by omega)⟩
    refine P_aload_n dX6_addReach_39 rfl ?_
    refine P_iload dX6_addReach_40 rfl ?_
    refine P_iload_n dX6_addReach_42 rfl ?_
    refine P_iload_n dX6_addReach_43 rfl ?_
    refine P_callV dX6_addReach_44 lkX6_75 okX6_setWeights ⟨Nat.le_of_ble_eq_true rfl, Nat.le_of_ble_eq_true rfl⟩ (t_setW0 l k2 h6) rfl rfl k2.1 (Nat.le_of_ble_eq_true rfl) ⟨Nat.le_of_ble_eq_true rfl, Nat.le_of_ble_eq_true rfl⟩ (fun v44 G44 q44 => ?_)
    obtain ⟨rfl, k3, hF3⟩ := q44
    refine P_aload_n dX6_addReach_47 rfl ?_
    refine P_get dX6_addReach_48 flX6_20 k3.1 rfl ?_
    refine P_iload dX6_addReach_51 rfl ?_
    refine P_callV dX6_addReach_53 lkX6_79 okX1_clearRow ⟨Nat.le_of_ble_eq_true rfl, Nat.le_of_ble_eq_true rfl⟩ (t_clearRow l k3.2.2.1 h6) rfl rfl k3.2.2.1.1 (Nat.le_of_ble_eq_true rfl) ⟨Nat.le_of_ble_eq_true rfl, Nat.le_of_ble_eq_true rfl⟩ (fun v53 G53 q53 => ?_)
    obtain ⟨rfl, g2, c2, z2, o2, hF4⟩ := q53
    have k4 : riv0 G53 h (rT ρ) (rD ρ) (rN ρ) _ g2 f3 := ⟨hF4.at k3.1 (by omega), k3.2.1.fr hF4 (by omega), c2, k3.2.2.2.fr hF4 (by omega)⟩
    refine P_aload_n dX6_addReach_56 rfl ?_
    refine P_get dX6_addReach_57 flX6_23 k4.1 rfl ?_
    refine P_iload dX6_addReach_60 rfl ?_
    refine P_callV dX6_addReach_62 lkX6_79 okX1_clearRow ⟨Nat.le_of_ble_eq_true rfl, Nat.le_of_ble_eq_true rfl⟩ (t_clearRow l k4.2.2.2 h6) rfl rfl k4.2.2.2.1 (Nat.le_of_ble_eq_true rfl) ⟨Nat.le_of_ble_eq_true rfl, Nat.le_of_ble_eq_true rfl⟩ (fun v62 G62 q62 => ?_)
    obtain ⟨rfl, g3, c3, z3, o3, hF5⟩ := q62
    have k5 : riv0 G62 h (rT ρ) (rD ρ) (rN ρ) _ g2 g3 := ⟨hF5.at k4.1 (by omega), k4.2.1.fr hF5 (by omega), k4.2.2.1.fr hF5 (by omega), c3⟩
    refine P_aload_n dX6_addReach_65 rfl ?_
    refine P_dup dX6_addReach_66 rfl ?_
    refine P_get dX6_addReach_67 flX6_33 k5.1 rfl ?_
    refine P_iconst dX6_addReach_70 ci_1 ?_
    refine P_iadd dX6_addReach_71 ?_
    rw [nI_1]
    refine P_putI dX6_addReach_72 flX6_33 k5.1 (Nat.le_of_ble_eq_true rfl) ?_
    exact P_vret dX6_addReach_75 rfl ⟨Nat.le_refl _, Nat.le_refl _⟩ ⟨rfl, ⟨_, g2, g3, ⟨set_at k5.1, k5.2.1.fr (Fr.set (a := h) (n := 1) (by omega) (by omega)) (by omega), k5.2.2.1.fr (Fr.set (a := h) (n := 1) (by omega) (by omega)) (by omega), k5.2.2.2.fr (Fr.set (a := h) (n := 1) (by omega) (by omega)) (by omega)⟩, agr_A ka z2 o2 z3 o3, ⟨kb.1, kb.2.1, kb.2.2.1, kb.2.2.2.1, h6⟩⟩, ((((hF12.wide (by omega) (by omega)).tr hF3).tr (hF4.wide (by omega) (by omega))).tr (hF5.wide (by omega) (by omega))).tr (Fr.set (by omega) (by omega))⟩
  · exact absurd c4 (by decide)
