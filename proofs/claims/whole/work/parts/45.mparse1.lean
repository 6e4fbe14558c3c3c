/-! the reader of the plain form: fields at, wrong, isT, isD, isMore, startAt of the object -/
abbrev oRd (o : MV) (a w t d m b : Int32) : MV := (mD o, mS o, mE o, mL o, mF o, mK o, mX o, a, w, t, d, m, b)
def mpr (G : PH) (o : MV) (fx : Nat → Int32) (n : Nat) (tx : Nat → Int32) : Prop := G[164]? = some (oM o) ∧ G[172]? = some (aI 200 fx) ∧ (∀ i, i < n → fx i = tx i) ∧ mL o = nI n ∧ n ≤ 200
theorem mpr.ob {G : PH} {o o' : MV} {fx : Nat → Int32} {n : Nat} {tx : Nat → Int32} (k : mpr G o fx n tx) (e : mL o' = mL o) : mpr (G.set 164 (oM o')) o' fx n tx := ⟨set_at k.1, set_ne k.2.1 (by decide), k.2.2.1, e.trans k.2.2.2.1, k.2.2.2.2⟩
theorem mpr.fr {G G' : PH} {o o' : MV} {fx : Nat → Int32} {n : Nat} {tx : Nat → Int32} (k : mpr G o fx n tx) (hF : Fr G G' 164 1) (h : G'[164]? = some (oM o')) (e : mL o' = mL o) : mpr G' o' fx n tx := ⟨h, hF.at k.2.1 (by decide), k.2.2.1, e.trans k.2.2.2.1, k.2.2.2.2⟩
theorem skp_st {n : Nat} {tx : Nat → Int32} {p : Nat} (h : p < n ∧ tx p = 32) : skp n tx p = skp n tx (p + 1) := by
  unfold skp
  rw [show n - p = (n - (p + 1)) + 1 by omega]
  exact if_pos h
theorem skp_no {n : Nat} {tx : Nat → Int32} {p : Nat} (h : ¬ (p < n ∧ tx p = 32)) : skp n tx p = p := by
  unfold skp
  cases n - p with
  | zero => rfl
  | succ f => exact if_neg h
theorem skp_bd {n : Nat} {tx : Nat → Int32} : ∀ (m p : Nat), n - p < m → p ≤ n → p ≤ skp n tx p ∧ skp n tx p ≤ n
  | 0, p, h, _ => absurd h (Nat.not_lt_zero _)
  | m + 1, p, h, hp => by
    by_cases e : p < n ∧ tx p = 32
    · rw [skp_st e]
      have := skp_bd (n := n) (tx := tx) m (p + 1) (by omega) (by omega)
      omega
    · rw [skp_no e]; omega
theorem skp_g2 {n p : Nat} (tx : Nat → Int32) (hp : p ≤ n) : p ≤ skp n tx p := (skp_bd (tx := tx) (n - p + 1) p (by omega) hp).1
theorem skp_ub {n p : Nat} (tx : Nat → Int32) (hp : p ≤ n) : skp n tx p ≤ n := (skp_bd (tx := tx) (n - p + 1) p (by omega) hp).2
set_option maxRecDepth 100000 in
theorem lp_mnext (l : Launch) {G0 : PH} {o : MV} {fx : Nat → Int32} {n9 : Nat} {tx : Nat → Int32} {p0 : Nat} : ∀ (n : Nat) (G : PH) (p : Nat), n9 - p < n → p ≤ n9 → mpr G (oRd o (nI p) (mW o) (mT o) (mZ o) (mO o) (mB o)) fx n9 tx → skp n9 tx p = skp n9 tx p0 → Fr G0 G 164 1 → WP mX10_next l (rmM mX10_next 0 0) (ZM 0 0 (fun w G' => w = some (.int (lt0 n9 tx (skp n9 tx p0))) ∧ G'[164]? = some (oM (oRd o (nI (skp n9 tx p0)) (mW o) (mT o) (mZ o) (mO o) (mB o))) ∧ Fr G0 G' 164 1)) XT 0 0 0 [some (.ref 164)] [] G := by
  intro n
  induction n with
  | zero => intro G  p hn hp k he hF; exact absurd hn (Nat.not_lt_zero _)
  | succ n ih =>
    intro G  p hn hp k he hF
    obtain ⟨ko, kx, hx, hl, h200⟩ := id k
    have hl : mL o = nI n9 := hl
    refine P_aload_n dX10_next_0 rfl ?_
    refine P_get dX10_next_1 flX10_197 ko rfl ?_
    refine P_aload_n dX10_next_4 rfl ?_
    refine P_get dX10_next_5 flX10_193 ko rfl ?_
    rw [show mL (oRd o (nI p) (mW o) (mT o) (mZ o) (mO o) (mB o)) = nI n9 from hl]
    refine P_icmp_ge (tgt := 38) dX10_next_8 (by decide) (fun c8 => ?_) (fun c8 => ?_)
    · have hno : skp n9 tx p = p := skp_no (fun z => nI_ge z.1 (by omega) c8)
      rw [hno] at he
      rw [← he]
      refine P_aload_n dX10_next_38 rfl ?_
      refine P_get dX10_next_39 flX10_197 ko rfl ?_
      refine P_aload_n dX10_next_42 rfl ?_
      refine P_get dX10_next_43 flX10_193 ko rfl ?_
      rw [show mL (oRd o (nI p) (mW o) (mT o) (mZ o) (mO o) (mB o)) = nI n9 from hl]
      refine P_icmp_ge (tgt := 61) dX10_next_46 (by decide) (fun c46 => ?_) (fun c46 => ?_)
      · have hge : ¬ p < n9 := fun z => nI_ge z (by omega) c46
        refine P_iconst dX10_next_61 ci_m1 ?_
        exact P_iret dX10_next_62 rfl ⟨Nat.le_refl _, Nat.le_refl _⟩ ⟨by first | exact congrArg (fun z => some (Value.int z)) (if_pos hlt2).symm | exact congrArg (fun z => some (Value.int z)) (if_neg hge).symm, ko, hF⟩
      · have hlt2 : p < n9 := Nat.not_le.mp fun q => c46 (nI_le q (by omega))
        refine P_aload_n dX10_next_49 rfl ?_
        refine P_get dX10_next_50 flX10_33 ko rfl ?_
        refine P_aload_n dX10_next_53 rfl ?_
        refine P_get dX10_next_54 flX10_197 ko rfl ?_
        refine P_iald dX10_next_57 kx (vp_in_nI (show p < 200 by omega) (by decide)) ?_
        rw [nI_clamp (by omega), hx p hlt2]
        refine P_goto (tgt := 62) dX10_next_58 (by decide) ?_
        exact P_iret dX10_next_62 rfl ⟨Nat.le_refl _, Nat.le_refl _⟩ ⟨by first | exact congrArg (fun z => some (Value.int z)) (if_pos hlt2).symm | exact congrArg (fun z => some (Value.int z)) (if_neg hge).symm, ko, hF⟩
    · have hlt : p < n9 := Nat.not_le.mp fun q => c8 (nI_le q (by omega))
      refine P_aload_n dX10_next_11 rfl ?_
      refine P_get dX10_next_12 flX10_33 ko rfl ?_
      refine P_aload_n dX10_next_15 rfl ?_
      refine P_get dX10_next_16 flX10_197 ko rfl ?_
      refine P_iald dX10_next_19 kx (vp_in_nI (show p < 200 by omega) (by decide)) ?_
      rw [nI_clamp (by omega), hx p hlt]
      refine P_bipush dX10_next_20 bp_32 ?_
      refine P_icmp_ne (tgt := 38) dX10_next_22 (by decide) (fun c22 => ?_) (fun c22 => ?_)
      · have hno : skp n9 tx p = p := skp_no (fun z => c22 z.2)
        rw [hno] at he
        rw [← he]
        refine P_aload_n dX10_next_38 rfl ?_
        refine P_get dX10_next_39 flX10_197 ko rfl ?_
        refine P_aload_n dX10_next_42 rfl ?_
        refine P_get dX10_next_43 flX10_193 ko rfl ?_
        rw [show mL (oRd o (nI p) (mW o) (mT o) (mZ o) (mO o) (mB o)) = nI n9 from hl]
        refine P_icmp_ge (tgt := 61) dX10_next_46 (by decide) (fun c46 => ?_) (fun c46 => ?_)
        · have hge : ¬ p < n9 := fun z => nI_ge z (by omega) c46
          refine P_iconst dX10_next_61 ci_m1 ?_
          exact P_iret dX10_next_62 rfl ⟨Nat.le_refl _, Nat.le_refl _⟩ ⟨by first | exact congrArg (fun z => some (Value.int z)) (if_pos hlt2).symm | exact congrArg (fun z => some (Value.int z)) (if_neg hge).symm, ko, hF⟩
        · have hlt2 : p < n9 := Nat.not_le.mp fun q => c46 (nI_le q (by omega))
          refine P_aload_n dX10_next_49 rfl ?_
          refine P_get dX10_next_50 flX10_33 ko rfl ?_
          refine P_aload_n dX10_next_53 rfl ?_
          refine P_get dX10_next_54 flX10_197 ko rfl ?_
          refine P_iald dX10_next_57 kx (vp_in_nI (show p < 200 by omega) (by decide)) ?_
          rw [nI_clamp (by omega), hx p hlt2]
          refine P_goto (tgt := 62) dX10_next_58 (by decide) ?_
          exact P_iret dX10_next_62 rfl ⟨Nat.le_refl _, Nat.le_refl _⟩ ⟨by first | exact congrArg (fun z => some (Value.int z)) (if_pos hlt2).symm | exact congrArg (fun z => some (Value.int z)) (if_neg hge).symm, ko, hF⟩
      · have hst := skp_st (n := n9) (tx := tx) (p := p) ⟨hlt, c22⟩
        refine P_aload_n dX10_next_25 rfl ?_
        refine P_dup dX10_next_26 rfl ?_
        refine P_get dX10_next_27 flX10_197 ko rfl ?_
        refine P_iconst dX10_next_30 ci_1 ?_
        refine P_iadd dX10_next_31 ?_
        rw [nI_1]
        refine P_putI dX10_next_32 flX10_197 ko (Nat.le_of_ble_eq_true rfl) ?_
        refine P_goto (tgt := 0) dX10_next_35 (by decide) ?_
        exact ih _ (p + 1) (by omega) (by omega) (k.ob (o' := oRd o (nI (p + 1)) (mW o) (mT o) (mZ o) (mO o) (mB o)) rfl) (hst.symm.trans he) (hF.tr (Fr.set (by omega) (by omega)))
theorem m_next (l : Launch) {G : PH} {o : MV} {fx : Nat → Int32} {n p : Nat} {tx : Nat → Int32} (k : mpr G o fx n tx) (hA : mA o = nI p) (hp : p ≤ n) : Tri l mX10_next 0 0 [.ref 164] G (fun w G' => w = some (.int (lt0 n tx (skp n tx p))) ∧ G'[164]? = some (oM (oRd o (nI (skp n tx p)) (mW o) (mT o) (mZ o) (mO o) (mB o))) ∧ Fr G G' 164 1) := by
  refine Tri.intro (L := [_]) okX10_next.1 (Nat.le_of_ble_eq_true rfl) rfl ?_
  have ko : oRd o (nI p) (mW o) (mT o) (mZ o) (mO o) (mB o) = o := by rw [← hA]
  exact lp_mnext l (n + 1) G p (by omega) hp (by rw [ko]; exact k) rfl Fr.rf
theorem m_isFigure (l : Launch) {G : PH} {c : Int32}  : Tri l mX10_isFigure 0 0 [.int c] G (fun w G' => w = some (.int (if figP c then 1 else 0)) ∧ G' = G) := by
  refine Tri.intro (L := [_]) okX10_isFigure.1 (Nat.le_of_ble_eq_true rfl) rfl ?_
  refine P_iload_n dX10_isFigure_0 rfl ?_
  refine P_bipush dX10_isFigure_1 bp_48 ?_
  refine P_icmp_lt (tgt := 16) dX10_isFigure_3 (by decide) (fun c3 => ?_) (fun c3 => ?_)
  · refine P_iconst dX10_isFigure_16 ci_0 ?_
    exact P_zret dX10_isFigure_17 rfl ⟨Nat.le_refl _, Nat.le_refl _⟩ (by first | exact Or.inl rfl | exact Or.inr rfl) ⟨by first | (simp [figP, c3, c9]; done) | (simp [figP, c3]; done), rfl⟩
  · refine P_iload_n dX10_isFigure_6 rfl ?_
    refine P_bipush dX10_isFigure_7 bp_57 ?_
    refine P_icmp_gt (tgt := 16) dX10_isFigure_9 (by decide) (fun c9 => ?_) (fun c9 => ?_)
    · refine P_iconst dX10_isFigure_16 ci_0 ?_
      exact P_zret dX10_isFigure_17 rfl ⟨Nat.le_refl _, Nat.le_refl _⟩ (by first | exact Or.inl rfl | exact Or.inr rfl) ⟨by first | (simp [figP, c3, c9]; done) | (simp [figP, c3]; done), rfl⟩
    · refine P_iconst dX10_isFigure_12 ci_1 ?_
      refine P_goto (tgt := 17) dX10_isFigure_13 (by decide) ?_
      exact P_zret dX10_isFigure_17 rfl ⟨Nat.le_refl _, Nat.le_refl _⟩ (by first | exact Or.inl rfl | exact Or.inr rfl) ⟨by first | (simp [figP, c3, c9]; done) | (simp [figP, c3]; done), rfl⟩
theorem m_fails (l : Launch) {G : PH} {o : MV} {a : Int32} (ko : G[164]? = some (oM o)) : Tri l mX10_fails 0 0 [.ref 164, .int a] G (fun w G' => w = none ∧ G' = G.set 164 (oM (oRd o (mA o) (if mW o = 0 then a else mW o) (mT o) (mZ o) (mO o) (mB o)))) := by
  refine Tri.intro (L := [_, _]) okX10_fails.1 (Nat.le_of_ble_eq_true rfl) rfl ?_
  refine P_aload_n dX10_fails_0 rfl ?_
  refine P_aload_n dX10_fails_1 rfl ?_
  refine P_get dX10_fails_2 flX10_200 ko rfl ?_
  refine P_if_ne (tgt := 12) dX10_fails_5 (by decide) (fun c5 => ?_) (fun c5 => ?_)
  · rw [if_neg c5]
    refine P_aload_n dX10_fails_12 rfl ?_
    refine P_get dX10_fails_13 flX10_200 ko rfl ?_
    refine P_putI dX10_fails_16 flX10_200 ko (Nat.le_of_ble_eq_true rfl) ?_
    exact P_vret dX10_fails_19 rfl ⟨Nat.le_refl _, Nat.le_refl _⟩ ⟨rfl, rfl⟩
  · rw [if_pos c5]
    refine P_iload_n dX10_fails_8 rfl ?_
    refine P_goto (tgt := 16) dX10_fails_9 (by decide) ?_
    refine P_putI dX10_fails_16 flX10_200 ko (Nat.le_of_ble_eq_true rfl) ?_
    exact P_vret dX10_fails_19 rfl ⟨Nat.le_refl _, Nat.le_refl _⟩ ⟨rfl, rfl⟩
/-- where the reader stands -/
def pS (o : MV) (n : Nat) : PS → Prop
  | .inl e => mW o = nI e.1 ∧ 1 ≤ e.1 ∧ e.1 ≤ 4 ∧ mA o = nI e.2
  | .inr p => mW o = 0 ∧ mA o = nI p ∧ p ≤ n
/-- what the reader does not touch -/
def oU (o o' : MV) : Prop := oS o o' ∧ mT o' = mT o ∧ mZ o' = mZ o ∧ mO o' = mO o
theorem oU.rf {o : MV} : oU o o := ⟨oS.rf, rfl, rfl, rfl⟩
theorem m_stops (l : Launch) {G : PH} {o : MV} {fx : Nat → Int32} {n : Nat} {tx : Nat → Int32} {σ : PS} (k : mpr G o fx n tx) (hs : pS o n σ) (htx : ∀ i, i < n → ¬ tx i = -1) : Tri l mX10_stops 0 0 [.ref 164] G (fun w G' => w = none ∧ (∃ o', G'[164]? = some (oM o') ∧ pS o' n (clS n tx σ) ∧ oU o o') ∧ Fr G G' 164 1) := by
  cases σ with
  | inl e =>
    obtain ⟨ew, e1, e4, ea⟩ := hs
    refine Tri.intro (L := [_]) okX10_stops.1 (Nat.le_of_ble_eq_true rfl) rfl ?_
    refine P_aload_n dX10_stops_0 rfl ?_
    refine P_get dX10_stops_1 flX10_200 k.1 rfl ?_
    refine P_if_ne (tgt := 21) dX10_stops_4 (by decide) (fun c4 => ?_) (fun c4 => ?_)
    · refine P_aload_n dX10_stops_21 rfl ?_
      refine P_dup dX10_stops_22 rfl ?_
      refine P_get dX10_stops_23 flX10_197 k.1 rfl ?_
      refine P_aload_n dX10_stops_26 rfl ?_
      refine P_get dX10_stops_27 flX10_200 k.1 rfl ?_
      refine P_if_ne (tgt := 37) dX10_stops_30 (by decide) (fun c30 => ?_) (fun c30 => ?_)
      · refine P_iconst dX10_stops_37 ci_0 ?_
        refine P_iadd dX10_stops_38 ?_
        rw [Int32.add_zero]
        refine P_putI dX10_stops_39 flX10_197 k.1 (Nat.le_of_ble_eq_true rfl) ?_
        exact P_vret dX10_stops_42 rfl ⟨Nat.le_refl _, Nat.le_refl _⟩ ⟨rfl, ⟨o, set_at k.1, ⟨ew, e1, e4, ea⟩, oU.rf⟩, Fr.set (by omega) (by omega)⟩
      · exact absurd (ew.symm.trans c30) (nI_ne0 (by omega) (by omega))
    · exact absurd (ew.symm.trans c4) (nI_ne0 (by omega) (by omega))
  | inr p =>
    obtain ⟨ew, ea, hp⟩ := hs
    refine Tri.intro (L := [_]) okX10_stops.1 (Nat.le_of_ble_eq_true rfl) rfl ?_
    refine P_aload_n dX10_stops_0 rfl ?_
    refine P_get dX10_stops_1 flX10_200 k.1 rfl ?_
    refine P_if_ne (tgt := 21) dX10_stops_4 (by decide) (fun c4 => ?_) (fun c4 => ?_)
    · exact absurd ew c4
    · refine P_aload_n dX10_stops_7 rfl ?_
      refine P_callV dX10_stops_8 lkX10_203 okX10_next ⟨Nat.le_of_ble_eq_true rfl, Nat.le_of_ble_eq_true rfl⟩ (m_next l k ea hp) rfl rfl k.1 (Nat.le_of_ble_eq_true rfl) ⟨Nat.le_of_ble_eq_true rfl, Nat.le_of_ble_eq_true rfl⟩ (fun v8 G8 q8 => ?_)
      obtain ⟨rfl, k1, hF1⟩ := q8
      refine P_bipush dX10_stops_11 bp_59 ?_
      refine P_icmp_eq (tgt := 21) dX10_stops_13 (by decide) (fun c13 => ?_) (fun c13 => ?_)
      · have hcl : clS n tx (.inr p) = .inr (skp n tx p + 1) := if_pos c13
        have hlt : skp n tx p < n := Classical.byContradiction fun z => by rw [show lt0 n tx (skp n tx p) = -1 from if_neg z] at c13; exact absurd c13 (by decide)
        have kz := k1
        refine P_aload_n dX10_stops_21 rfl ?_
        refine P_dup dX10_stops_22 rfl ?_
        refine P_get dX10_stops_23 flX10_197 kz rfl ?_
        refine P_aload_n dX10_stops_26 rfl ?_
        refine P_get dX10_stops_27 flX10_200 kz rfl ?_
        refine P_if_ne (tgt := 37) dX10_stops_30 (by decide) (fun c30 => ?_) (fun c30 => ?_)
        · exact absurd ew c30
        · refine P_iconst dX10_stops_33 ci_1 ?_
          refine P_goto (tgt := 38) dX10_stops_34 (by decide) ?_
          refine P_iadd dX10_stops_38 ?_
          refine P_putI dX10_stops_39 flX10_197 kz (Nat.le_of_ble_eq_true rfl) ?_
          exact P_vret dX10_stops_42 rfl ⟨Nat.le_refl _, Nat.le_refl _⟩ ⟨rfl, ⟨oRd o (nI (skp n tx p) + 1) (mW o) (mT o) (mZ o) (mO o) (mB o), set_at kz, by rw [hcl]; exact ⟨ew, nI_1 _, by omega⟩, ⟨⟨rfl, rfl, rfl, rfl, rfl⟩, rfl, rfl, rfl⟩⟩, hF1.tr (Fr.set (by omega) (by omega))⟩
      · have hcl : clS n tx (.inr p) = .inl (1, skp n tx p) := if_neg c13
        refine P_aload_n dX10_stops_16 rfl ?_
        refine P_iconst dX10_stops_17 ci_1 ?_
        refine P_callV dX10_stops_18 lkX10_210 okX10_fails ⟨Nat.le_of_ble_eq_true rfl, Nat.le_of_ble_eq_true rfl⟩ (m_fails l k1) rfl rfl k1 (Nat.le_of_ble_eq_true rfl) ⟨Nat.le_of_ble_eq_true rfl, Nat.le_of_ble_eq_true rfl⟩ (fun v18 G18 q18 => ?_)
        obtain ⟨rfl, rfl⟩ := q18
        have kz := set_at (c' := oM (oRd o (nI (skp n tx p)) 1 (mT o) (mZ o) (mO o) (mB o))) k1
        have hw1 : (if mW (oRd o (nI (skp n tx p)) (mW o) (mT o) (mZ o) (mO o) (mB o)) = 0 then (1 : Int32) else mW (oRd o (nI (skp n tx p)) (mW o) (mT o) (mZ o) (mO o) (mB o))) = 1 := if_pos ew
        rw [hw1]
        refine P_aload_n dX10_stops_21 rfl ?_
        refine P_dup dX10_stops_22 rfl ?_
        refine P_get dX10_stops_23 flX10_197 kz rfl ?_
        refine P_aload_n dX10_stops_26 rfl ?_
        refine P_get dX10_stops_27 flX10_200 kz rfl ?_
        refine P_if_ne (tgt := 37) dX10_stops_30 (by decide) (fun c30 => ?_) (fun c30 => ?_)
        · refine P_iconst dX10_stops_37 ci_0 ?_
          refine P_iadd dX10_stops_38 ?_
          refine P_putI dX10_stops_39 flX10_197 kz (Nat.le_of_ble_eq_true rfl) ?_
          exact P_vret dX10_stops_42 rfl ⟨Nat.le_refl _, Nat.le_refl _⟩ ⟨rfl, ⟨oRd o (nI (skp n tx p) + 0) 1 (mT o) (mZ o) (mO o) (mB o), set_at kz, by rw [hcl]; exact ⟨rfl, Nat.le_refl 1, (show 1 ≤ 4 by decide), Int32.add_zero _⟩, ⟨⟨rfl, rfl, rfl, rfl, rfl⟩, rfl, rfl, rfl⟩⟩, hF1.tr ((Fr.set (by omega) (by omega)).tr (Fr.set (by omega) (by omega)))⟩
        · exact absurd c30 (show ¬ (1 : Int32) = 0 by decide)
