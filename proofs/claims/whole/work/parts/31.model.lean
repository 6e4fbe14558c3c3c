/-! the plain form: its object at 164, its arrays at 165 .. 180 -/
abbrev MV : Type := Int32 × Int32 × Int32 × Int32 × Int32 × Int32 × Int32 × Int32 × Int32 × Int32 × Int32 × Int32 × Int32
abbrev mD (o : MV) : Int32 := o.1
abbrev mS (o : MV) : Int32 := o.2.1
abbrev mE (o : MV) : Int32 := o.2.2.1
abbrev mL (o : MV) : Int32 := o.2.2.2.1
abbrev mF (o : MV) : Int32 := o.2.2.2.2.1
abbrev mK (o : MV) : Int32 := o.2.2.2.2.2.1
abbrev mX (o : MV) : Int32 := o.2.2.2.2.2.2.1
abbrev mA (o : MV) : Int32 := o.2.2.2.2.2.2.2.1
abbrev mW (o : MV) : Int32 := o.2.2.2.2.2.2.2.2.1
abbrev mT (o : MV) : Int32 := o.2.2.2.2.2.2.2.2.2.1
abbrev mZ (o : MV) : Int32 := o.2.2.2.2.2.2.2.2.2.2.1
abbrev mO (o : MV) : Int32 := o.2.2.2.2.2.2.2.2.2.2.2.1
abbrev mB (o : MV) : Int32 := o.2.2.2.2.2.2.2.2.2.2.2.2
abbrev oM (o : MV) : PCell := .inr (10, [.ref 165, .ref 166, .int (mD o), .ref 167, .ref 168, .int (mS o), .ref 169, .ref 170, .ref 171, .int (mE o), .ref 172, .int (mL o), .int (mF o), .ref 173, .ref 174, .ref 175, .ref 176, .ref 177, .ref 178, .ref 179, .int (mK o), .int (mX o), .ref 180, .int (mA o), .int (mW o), .int (mT o), .int (mZ o), .int (mO o), .int (mB o)])
abbrev aZ (n : Nat) (f : Nat → Int32) : PCell := .inl (2, n, .inl f)
/-- a row of 315 holds a river -/
def rRow (ρ : Riv) (f : Nat → Int32) : Prop := f 0 = nI (rT ρ) ∧ f 1 = nI (rD ρ) ∧ f 2 = nI (rN ρ) ∧ ∀ r, r < rN ρ → (∀ i, i < 4 → f (3 + 52 * r + i) = rF ρ r i) ∧ ∀ t, t < 24 → f (3 + 52 * r + (4 + t)) = rS ρ r t ∧ f (3 + 52 * r + (28 + t)) = rE ρ r t
theorem ib_dec {N : Nat} (h : N < 2 ^ 31) (r : Int32) : nI N - 1 < r ↔ nI N ≤ r := by
  have e : (nI N - 1).toInt = (N : Int) - 1 := by
    cases N with
    | zero => decide +kernel
    | succ n => rw [nI_pred, nI_toInt (by omega)]; omega
  rw [Int32.lt_iff_toInt_lt, Int32.le_iff_toInt_le, e, nI_toInt h]
  omega
theorem ix52 (r i : Nat) : (3 : Int32) + 52 * nI r + nI i = nI (3 + 52 * r + i) := by
  rw [show (3 : Int32) = nI 3 from rfl, show (52 : Int32) = nI 52 from rfl, pk_mul, nI_add, nI_add]
theorem ix24 (r i : Nat) : (24 : Int32) * nI r + nI i = nI (24 * r + i) := by
  rw [show (24 : Int32) = nI 24 from rfl, pk_mul, nI_add]
theorem ix4 (t : Nat) : (4 : Int32) + nI t = nI (4 + t) := nI_add 4 t
theorem ix28 (t : Nat) : (28 : Int32) + nI t = nI (28 + t) := nI_add 28 t
theorem m_in (l : Launch) {G : PH} {v a b : Int32}  : Tri l mX10_in 0 0 [.int v, .int a, .int b] G (fun w G' => w = some (.int (if oB3 v a b then 0 else 1)) ∧ G' = G) := by
  refine Tri.intro (L := [_, _, _]) okX10_in.1 (Nat.le_of_ble_eq_true rfl) rfl ?_
  refine P_iload_n dX10_in_0 rfl ?_
  refine P_iload_n dX10_in_1 rfl ?_
  refine P_icmp_lt (tgt := 14) dX10_in_2 (by decide) (fun c2 => ?_) (fun c2 => ?_)
  · refine P_iconst dX10_in_14 ci_0 ?_
    exact P_zret dX10_in_15 rfl ⟨Nat.le_refl _, Nat.le_refl _⟩ (by first | exact Or.inl rfl | exact Or.inr rfl) ⟨by first | (rw [if_pos (Or.inl c2)]; done) | (rw [if_pos (Or.inr c7)]; done) | (rw [if_neg (fun z => z.elim c2 c7)]; done), rfl⟩
  · refine P_iload_n dX10_in_5 rfl ?_
    refine P_iload_n dX10_in_6 rfl ?_
    refine P_icmp_gt (tgt := 14) dX10_in_7 (by decide) (fun c7 => ?_) (fun c7 => ?_)
    · refine P_iconst dX10_in_14 ci_0 ?_
      exact P_zret dX10_in_15 rfl ⟨Nat.le_refl _, Nat.le_refl _⟩ (by first | exact Or.inl rfl | exact Or.inr rfl) ⟨by first | (rw [if_pos (Or.inl c2)]; done) | (rw [if_pos (Or.inr c7)]; done) | (rw [if_neg (fun z => z.elim c2 c7)]; done), rfl⟩
    · refine P_iconst dX10_in_10 ci_1 ?_
      refine P_goto (tgt := 15) dX10_in_11 (by decide) ?_
      exact P_zret dX10_in_15 rfl ⟨Nat.le_refl _, Nat.le_refl _⟩ (by first | exact Or.inl rfl | exact Or.inr rfl) ⟨by first | (rw [if_pos (Or.inl c2)]; done) | (rw [if_pos (Or.inr c7)]; done) | (rw [if_neg (fun z => z.elim c2 c7)]; done), rfl⟩
/-- what bring leaves in the second array -/
def brg (f g : Nat → Int32) (i j n : Nat) : Nat → Int32 := fun q => if j ≤ q ∧ q < j + n then f (i + (q - j)) else g q
theorem brg_s {f g : Nat → Int32} {i j n : Nat} : upd (brg f g i j n) (j + n) (f (i + n)) = brg f g i j (n + 1) := by
  funext q
  unfold upd brg
  by_cases e : q = j + n
  · subst e
    rw [if_pos rfl, if_pos (by omega), show j + n - j = n by omega]
  · rw [if_neg e]
    by_cases h : j ≤ q ∧ q < j + n
    · rw [if_pos h, if_pos (by omega)]
    · rw [if_neg h, if_neg (by omega)]
theorem brg_0 {f g : Nat → Int32} {i j : Nat} : brg f g i j 0 = g := by
  funext q
  exact if_neg (by omega)
set_option maxRecDepth 100000 in
theorem lp_bring (l : Launch) {G0 : PH} {a b i j n0 A B : Nat} {f g : Nat → Int32} (hab : a ≠ b) (hi : i + n0 ≤ A) (hj : j + n0 ≤ B) (hA : A < 2 ^ 31) (hB : B < 2 ^ 31) : ∀ (n : Nat) (G : PH) (m : Nat), n0 - m < n → m ≤ n0 → G[a]? = some (aI A f) → G[b]? = some (aI B (brg f g i j m)) → Fr G0 G b 1 → WP mX10_bring l (rmM mX10_bring 0 0) (ZM 0 0 (fun w G' => w = none ∧ G'[b]? = some (aI B (brg f g i j n0)) ∧ Fr G0 G' b 1)) XT 0 0 3 [some (.ref a), some (.int (nI i)), some (.ref b), some (.int (nI j)), some (.int (nI n0)), some (.int (nI m))] [] G := by
  intro n
  induction n with
  | zero => intro G  m hn hm ha hb hF; exact absurd hn (Nat.not_lt_zero _)
  | succ n ih =>
    intro G  m hn hm ha hb hF
    refine P_iload dX10_bring_3 rfl ?_
    refine P_iload dX10_bring_5 rfl ?_
    refine P_icmp_ge (tgt := 28) dX10_bring_7 (by decide) (fun c7 => ?_) (fun c7 => ?_)
    · have hi2 : m = n0 := Nat.le_antisymm hm (Nat.not_lt.mp fun q => nI_ge q (by omega) c7)
      subst hi2
      exact P_vret dX10_bring_28 rfl ⟨Nat.le_refl _, Nat.le_refl _⟩ ⟨rfl, hb, hF⟩
    · have hlt : m < n0 := Nat.not_le.mp fun q => c7 (nI_le q (by omega))
      refine P_aload_n dX10_bring_10 rfl ?_
      refine P_iload_n dX10_bring_11 rfl ?_
      refine P_iload dX10_bring_12 rfl ?_
      refine P_iadd dX10_bring_14 ?_
      rw [nI_add]
      refine P_aload_n dX10_bring_15 rfl ?_
      refine P_iload_n dX10_bring_16 rfl ?_
      refine P_iload dX10_bring_17 rfl ?_
      refine P_iadd dX10_bring_19 ?_
      rw [nI_add]
      refine P_iald dX10_bring_20 ha (vp_in_nI (by omega) hA) ?_
      rw [nI_clamp (by omega)]
      refine P_iast dX10_bring_21 hb (vp_in_nI (by omega) hB) ?_
      rw [nI_clamp (by omega)]
      refine P_iinc (L' := [_, _, _, _, _, _]) dX10_bring_22 rfl (ii_1 _) (Nat.le_of_ble_eq_true rfl) rfl ?_
      rw [nI_1]
      refine P_goto (tgt := 3) dX10_bring_25 (by decide) ?_
      refine ih _ (m + 1) (by omega) hlt (set_ne ha hab.symm) ?_ (hF.tr (Fr.set (by omega) (by omega)))
      rw [← brg_s]
      exact set_at hb
theorem m_bring (l : Launch) {G : PH} {a b i j n0 A B : Nat} {f g : Nat → Int32} (ha : G[a]? = some (aI A f)) (hb : G[b]? = some (aI B g)) (hab : a ≠ b) (hi : i + n0 ≤ A) (hj : j + n0 ≤ B) (hA : A < 2 ^ 31) (hB : B < 2 ^ 31) : Tri l mX10_bring 0 0 [.ref a, .int (nI i), .ref b, .int (nI j), .int (nI n0)] G (fun w G' => w = none ∧ G'[b]? = some (aI B (brg f g i j n0)) ∧ Fr G G' b 1) := by
  refine Tri.intro (L := [_, _, _, _, _, _]) okX10_bring.1 (Nat.le_of_ble_eq_true rfl) rfl ?_
  refine P_iconst dX10_bring_0 ci_0 ?_
  refine P_istore (L' := [_, _, _, _, _, _]) dX10_bring_1 (Nat.le_of_ble_eq_true rfl) rfl ?_
  exact lp_bring l hab hi hj hA hB (n0 + 1) G 0 (by omega) (Nat.zero_le _) ha (by rw [brg_0]; exact hb) Fr.rf
theorem brg_dn {f : Nat → Int32} {i j n : Nat} (h : j < i) : brg f f i j n (i + n) = f (i + n) := if_neg (by omega)
set_option maxRecDepth 100000 in
theorem lp_bring1 (l : Launch) {G0 : PH} {b i j n0 B : Nat} {f : Nat → Int32} (hij : j < i) (hi : i + n0 ≤ B) (hB : B < 2 ^ 31) : ∀ (n : Nat) (G : PH) (m : Nat), n0 - m < n → m ≤ n0 → G[b]? = some (aI B (brg f f i j m)) → Fr G0 G b 1 → WP mX10_bring l (rmM mX10_bring 0 0) (ZM 0 0 (fun w G' => w = none ∧ G'[b]? = some (aI B (brg f f i j n0)) ∧ Fr G0 G' b 1)) XT 0 0 3 [some (.ref b), some (.int (nI i)), some (.ref b), some (.int (nI j)), some (.int (nI n0)), some (.int (nI m))] [] G := by
  intro n
  induction n with
  | zero => intro G  m hn hm hb hF; exact absurd hn (Nat.not_lt_zero _)
  | succ n ih =>
    intro G  m hn hm hb hF
    refine P_iload dX10_bring_3 rfl ?_
    refine P_iload dX10_bring_5 rfl ?_
    refine P_icmp_ge (tgt := 28) dX10_bring_7 (by decide) (fun c7 => ?_) (fun c7 => ?_)
    · have hi2 : m = n0 := Nat.le_antisymm hm (Nat.not_lt.mp fun q => nI_ge q (by omega) c7)
      subst hi2
      exact P_vret dX10_bring_28 rfl ⟨Nat.le_refl _, Nat.le_refl _⟩ ⟨rfl, hb, hF⟩
    · have hlt : m < n0 := Nat.not_le.mp fun q => c7 (nI_le q (by omega))
      refine P_aload_n dX10_bring_10 rfl ?_
      refine P_iload_n dX10_bring_11 rfl ?_
      refine P_iload dX10_bring_12 rfl ?_
      refine P_iadd dX10_bring_14 ?_
      rw [nI_add]
      refine P_aload_n dX10_bring_15 rfl ?_
      refine P_iload_n dX10_bring_16 rfl ?_
      refine P_iload dX10_bring_17 rfl ?_
      refine P_iadd dX10_bring_19 ?_
      rw [nI_add]
      refine P_iald dX10_bring_20 hb (vp_in_nI (by omega) hB) ?_
      rw [nI_clamp (by omega), brg_dn hij]
      refine P_iast dX10_bring_21 hb (vp_in_nI (by omega) hB) ?_
      rw [nI_clamp (by omega)]
      refine P_iinc (L' := [_, _, _, _, _, _]) dX10_bring_22 rfl (ii_1 _) (Nat.le_of_ble_eq_true rfl) rfl ?_
      rw [nI_1]
      refine P_goto (tgt := 3) dX10_bring_25 (by decide) ?_
      refine ih _ (m + 1) (by omega) hlt ?_ (hF.tr (Fr.set (by omega) (by omega)))
      rw [← brg_s]
      exact set_at hb
theorem m_bring1 (l : Launch) {G : PH} {b i j n0 B : Nat} {f : Nat → Int32} (hb : G[b]? = some (aI B f)) (hij : j < i) (hi : i + n0 ≤ B) (hB : B < 2 ^ 31) : Tri l mX10_bring 0 0 [.ref b, .int (nI i), .ref b, .int (nI j), .int (nI n0)] G (fun w G' => w = none ∧ G'[b]? = some (aI B (brg f f i j n0)) ∧ Fr G G' b 1) := by
  refine Tri.intro (L := [_, _, _, _, _, _]) okX10_bring.1 (Nat.le_of_ble_eq_true rfl) rfl ?_
  refine P_iconst dX10_bring_0 ci_0 ?_
  refine P_istore (L' := [_, _, _, _, _, _]) dX10_bring_1 (Nat.le_of_ble_eq_true rfl) rfl ?_
  exact lp_bring1 l hij hi hB (n0 + 1) G 0 (by omega) (Nat.zero_le _) (by rw [brg_0]; exact hb) Fr.rf
theorem m_placeOf (l : Launch) {G : PH} {r i : Nat}  : Tri l mX10_placeOf 0 0 [.int (nI r), .int (nI i)] G (fun w G' => w = some (.int (nI (3 + 52 * r + i))) ∧ G' = G) := by
  refine Tri.intro (L := [_, _]) okX10_placeOf.1 (Nat.le_of_ble_eq_true rfl) rfl ?_
  refine P_iconst dX10_placeOf_0 ci_3 ?_
  refine P_bipush dX10_placeOf_1 bp_52 ?_
  refine P_iload_n dX10_placeOf_3 rfl ?_
  refine P_imul dX10_placeOf_4 ?_
  refine P_iadd dX10_placeOf_5 ?_
  refine P_iload_n dX10_placeOf_6 rfl ?_
  refine P_iadd dX10_placeOf_7 ?_
  exact P_iret dX10_placeOf_8 rfl ⟨Nat.le_refl _, Nat.le_refl _⟩ ⟨by rw [ix52], rfl⟩
theorem m_of (l : Launch) {G : PH} {o : MV} {f : Nat → Int32} {r i : Nat} (ho : G[164]? = some (oM o)) (hs : G[165]? = some (aI 315 f)) (h : 3 + 52 * r + i < 315) : Tri l mX10_of 0 0 [.ref 164, .int (nI r), .int (nI i)] G (fun w G' => w = some (.int (f (3 + 52 * r + i))) ∧ G' = G) := by
  refine Tri.intro (L := [_, _, _]) okX10_of.1 (Nat.le_of_ble_eq_true rfl) rfl ?_
  refine P_aload_n dX10_of_0 rfl ?_
  refine P_get dX10_of_1 flX10_7 ho rfl ?_
  refine P_iload_n dX10_of_4 rfl ?_
  refine P_iload_n dX10_of_5 rfl ?_
  refine P_callSp dX10_of_6 lkX10_64 okX10_placeOf ⟨Nat.le_of_ble_eq_true rfl, Nat.le_of_ble_eq_true rfl⟩ (m_placeOf l) rfl rfl (Nat.le_of_ble_eq_true rfl) ⟨Nat.le_of_ble_eq_true rfl, Nat.le_of_ble_eq_true rfl⟩ ?_
  refine P_iald dX10_of_9 hs (vp_in_nI h (by decide)) ?_
  rw [nI_clamp (by omega)]
  exact P_iret dX10_of_10 rfl ⟨Nat.le_refl _, Nat.le_refl _⟩ ⟨rfl, rfl⟩
theorem b01 (c : Prop) [Decidable c] : (if c then (0 : Int32) else 1) = 0 ∨ (if c then (0 : Int32) else 1) = 1 := by by_cases h : c <;> simp [h]
theorem if_sw {c d : Prop} [Decidable c] [Decidable d] (h : c ↔ ¬ d) : (if c then (0 : Int32) else 1) = if d then 1 else 0 := by
  by_cases e : d
  · rw [if_pos e, if_neg (fun z => h.mp z e)]
  · rw [if_neg e, if_pos (h.mpr e)]
theorem ib_in {N : Nat} (h : N < 2 ^ 31) (r : Int32) : oB3 r 0 (nI N - 1) ↔ ¬ inN r N := by
  show (r < 0 ∨ nI N - 1 < r) ↔ ¬ (¬ r < 0 ∧ ¬ nI N ≤ r)
  rw [ib_dec h]
  constructor
  · rintro (z | z) ⟨a, b⟩
    · exact a z
    · exact b z
  · intro z
    by_cases e : r < 0
    · exact Or.inl e
    · exact Or.inr (Classical.not_not.mp fun y => z ⟨e, y⟩)
theorem m_isReach (l : Launch) {G : PH} {o : MV} {f : Nat → Int32} {ρ : Riv} {r0 : Int32} (ho : G[164]? = some (oM o)) (hs : G[165]? = some (aI 315 f)) (hr : rRow ρ f) (hb : rBd ρ) : Tri l mX10_isReach 0 0 [.ref 164, .int r0] G (fun w G' => w = some (.int (if inN r0 (rN ρ) then 1 else 0)) ∧ G' = G) := by
  refine Tri.intro (L := [_, _]) okX10_isReach.1 (Nat.le_of_ble_eq_true rfl) rfl ?_
  refine P_iload_n dX10_isReach_0 rfl ?_
  refine P_iconst dX10_isReach_1 ci_0 ?_
  refine P_aload_n dX10_isReach_2 rfl ?_
  refine P_get dX10_isReach_3 flX10_7 ho rfl ?_
  refine P_iconst dX10_isReach_6 ci_2 ?_
  refine P_iald dX10_isReach_7 hs (vp_in_nI (show 2 < 315 by decide) (by decide)) ?_
  rw [show f (Int32.toNatClampNeg 2) = nI (rN ρ) from hr.2.2.1]
  refine P_iconst dX10_isReach_8 ci_1 ?_
  refine P_isub dX10_isReach_9 ?_
  refine P_callSp dX10_isReach_10 lkX10_68 okX10_in ⟨Nat.le_of_ble_eq_true rfl, Nat.le_of_ble_eq_true rfl⟩ (m_in l) rfl rfl (Nat.le_of_ble_eq_true rfl) ⟨Nat.le_of_ble_eq_true rfl, Nat.le_of_ble_eq_true rfl⟩ ?_
  exact P_zret dX10_isReach_13 rfl ⟨Nat.le_refl _, Nat.le_refl _⟩ (by first | exact Or.inl rfl | exact Or.inr rfl | exact (b01 _)) ⟨by congr 2; exact if_sw (ib_in (by have := hb.2.1; have := hb.2.2.2.2; omega) r0), rfl⟩
theorem m_isTime (l : Launch) {G : PH} {o : MV} {f : Nat → Int32} {ρ : Riv} {r0 : Int32} (ho : G[164]? = some (oM o)) (hs : G[165]? = some (aI 315 f)) (hr : rRow ρ f) (hb : rBd ρ) : Tri l mX10_isTime 0 0 [.ref 164, .int r0] G (fun w G' => w = some (.int (if inN r0 (rT ρ) then 1 else 0)) ∧ G' = G) := by
  refine Tri.intro (L := [_, _]) okX10_isTime.1 (Nat.le_of_ble_eq_true rfl) rfl ?_
  refine P_iload_n dX10_isTime_0 rfl ?_
  refine P_iconst dX10_isTime_1 ci_0 ?_
  refine P_aload_n dX10_isTime_2 rfl ?_
  refine P_get dX10_isTime_3 flX10_7 ho rfl ?_
  refine P_iconst dX10_isTime_6 ci_0 ?_
  refine P_iald dX10_isTime_7 hs (vp_in_nI (show 0 < 315 by decide) (by decide)) ?_
  rw [show f (Int32.toNatClampNeg 0) = nI (rT ρ) from hr.1]
  refine P_iconst dX10_isTime_8 ci_1 ?_
  refine P_isub dX10_isTime_9 ?_
  refine P_callSp dX10_isTime_10 lkX10_68 okX10_in ⟨Nat.le_of_ble_eq_true rfl, Nat.le_of_ble_eq_true rfl⟩ (m_in l) rfl rfl (Nat.le_of_ble_eq_true rfl) ⟨Nat.le_of_ble_eq_true rfl, Nat.le_of_ble_eq_true rfl⟩ ?_
  exact P_zret dX10_isTime_13 rfl ⟨Nat.le_refl _, Nat.le_refl _⟩ (by first | exact Or.inl rfl | exact Or.inr rfl | exact (b01 _)) ⟨by congr 2; exact if_sw (ib_in (by have := hb.2.1; have := hb.2.2.2.2; omega) r0), rfl⟩
theorem m_weightA (l : Launch) {G : PH} {o : MV} {f : Nat → Int32} {ρ : Riv} {k x : Int32} (ho : G[164]? = some (oM o)) (hs : G[165]? = some (aI 315 f)) (hr : rRow ρ f) : Tri l mX10_weightA 0 0 [.ref 164, .int k, .int x] G (fun w G' => w = some (.int (wA (nI (rD ρ)) k x)) ∧ G' = G) := by
  refine Tri.intro (L := [_, _, _]) okX10_weightA.1 (Nat.le_of_ble_eq_true rfl) rfl ?_
  refine P_bipush dX10_weightA_0 bp_10 ?_
  refine P_aload_n dX10_weightA_2 rfl ?_
  refine P_get dX10_weightA_3 flX10_7 ho rfl ?_
  refine P_iconst dX10_weightA_6 ci_1 ?_
  refine P_iald dX10_weightA_7 hs (vp_in_nI (show 1 < 315 by decide) (by decide)) ?_
  rw [show f (Int32.toNatClampNeg 1) = nI (rD ρ) from hr.2.1]
  refine P_imul dX10_weightA_8 ?_
  refine P_iload_n dX10_weightA_9 rfl ?_
  refine P_iload_n dX10_weightA_10 rfl ?_
  refine P_imul dX10_weightA_11 ?_
  refine P_isub dX10_weightA_12 ?_
  exact P_iret dX10_weightA_13 rfl ⟨Nat.le_refl _, Nat.le_refl _⟩ ⟨rfl, rfl⟩
theorem m_weightB (l : Launch) {G : PH} {o : MV} {f : Nat → Int32} {ρ : Riv} {k x : Int32} (ho : G[164]? = some (oM o)) (hs : G[165]? = some (aI 315 f)) (hr : rRow ρ f) : Tri l mX10_weightB 0 0 [.ref 164, .int k, .int x] G (fun w G' => w = some (.int (wB (nI (rD ρ)) k x)) ∧ G' = G) := by
  refine Tri.intro (L := [_, _, _]) okX10_weightB.1 (Nat.le_of_ble_eq_true rfl) rfl ?_
  refine P_bipush dX10_weightB_0 bp_10 ?_
  refine P_aload_n dX10_weightB_2 rfl ?_
  refine P_get dX10_weightB_3 flX10_7 ho rfl ?_
  refine P_iconst dX10_weightB_6 ci_1 ?_
  refine P_iald dX10_weightB_7 hs (vp_in_nI (show 1 < 315 by decide) (by decide)) ?_
  rw [show f (Int32.toNatClampNeg 1) = nI (rD ρ) from hr.2.1]
  refine P_imul dX10_weightB_8 ?_
  refine P_iload_n dX10_weightB_9 rfl ?_
  refine P_iload_n dX10_weightB_10 rfl ?_
  refine P_imul dX10_weightB_11 ?_
  refine P_iadd dX10_weightB_12 ?_
  exact P_iret dX10_weightB_13 rfl ⟨Nat.le_refl _, Nat.le_refl _⟩ ⟨rfl, rfl⟩
theorem m_weightC (l : Launch) {G : PH} {o : MV} {f : Nat → Int32} {ρ : Riv} {k x : Int32} (ho : G[164]? = some (oM o)) (hs : G[165]? = some (aI 315 f)) (hr : rRow ρ f) : Tri l mX10_weightC 0 0 [.ref 164, .int k, .int x] G (fun w G' => w = some (.int (wC (nI (rD ρ)) k x)) ∧ G' = G) := by
  refine Tri.intro (L := [_, _, _]) okX10_weightC.1 (Nat.le_of_ble_eq_true rfl) rfl ?_
  refine P_bipush dX10_weightC_0 bp_20 ?_
  refine P_iload_n dX10_weightC_2 rfl ?_
  refine P_imul dX10_weightC_3 ?_
  refine P_iload_n dX10_weightC_4 rfl ?_
  refine P_iload_n dX10_weightC_5 rfl ?_
  refine P_imul dX10_weightC_6 ?_
  refine P_isub dX10_weightC_7 ?_
  refine P_bipush dX10_weightC_8 bp_10 ?_
  refine P_aload_n dX10_weightC_10 rfl ?_
  refine P_get dX10_weightC_11 flX10_7 ho rfl ?_
  refine P_iconst dX10_weightC_14 ci_1 ?_
  refine P_iald dX10_weightC_15 hs (vp_in_nI (show 1 < 315 by decide) (by decide)) ?_
  rw [show f (Int32.toNatClampNeg 1) = nI (rD ρ) from hr.2.1]
  refine P_imul dX10_weightC_16 ?_
  refine P_isub dX10_weightC_17 ?_
  exact P_iret dX10_weightC_18 rfl ⟨Nat.le_refl _, Nat.le_refl _⟩ ⟨rfl, rfl⟩
theorem m_weightM (l : Launch) {G : PH} {o : MV} {f : Nat → Int32} {ρ : Riv} {k x : Int32} (ho : G[164]? = some (oM o)) (hs : G[165]? = some (aI 315 f)) (hr : rRow ρ f) : Tri l mX10_weightM 0 0 [.ref 164, .int k, .int x] G (fun w G' => w = some (.int (wM (nI (rD ρ)) k x)) ∧ G' = G) := by
  refine Tri.intro (L := [_, _, _]) okX10_weightM.1 (Nat.le_of_ble_eq_true rfl) rfl ?_
  refine P_bipush dX10_weightM_0 bp_20 ?_
  refine P_iload_n dX10_weightM_2 rfl ?_
  refine P_imul dX10_weightM_3 ?_
  refine P_iload_n dX10_weightM_4 rfl ?_
  refine P_iload_n dX10_weightM_5 rfl ?_
  refine P_imul dX10_weightM_6 ?_
  refine P_isub dX10_weightM_7 ?_
  refine P_bipush dX10_weightM_8 bp_10 ?_
  refine P_aload_n dX10_weightM_10 rfl ?_
  refine P_get dX10_weightM_11 flX10_7 ho rfl ?_
  refine P_iconst dX10_weightM_14 ci_1 ?_
  refine P_iald dX10_weightM_15 hs (vp_in_nI (show 1 < 315 by decide) (by decide)) ?_
  rw [show f (Int32.toNatClampNeg 1) = nI (rD ρ) from hr.2.1]
  refine P_imul dX10_weightM_16 ?_
  refine P_iadd dX10_weightM_17 ?_
  exact P_iret dX10_weightM_18 rfl ⟨Nat.le_refl _, Nat.le_refl _⟩ ⟨rfl, rfl⟩
theorem m_isLawful (l : Launch) {G : PH} {o : MV} {f : Nat → Int32} {ρ : Riv} {k x : Int32} (ho : G[164]? = some (oM o)) (hs : G[165]? = some (aI 315 f)) (hr : rRow ρ f) : Tri l mX10_isLawful 0 0 [.ref 164, .int k, .int x] G (fun w G' => w = some (.int (if lawP (nI (rD ρ)) k x then 1 else 0)) ∧ G' = G) := by
  refine Tri.intro (L := [_, _, _]) okX10_isLawful.1 (Nat.le_of_ble_eq_true rfl) rfl ?_
  refine P_aload_n dX10_isLawful_0 rfl ?_
  refine P_iload_n dX10_isLawful_1 rfl ?_
  refine P_iload_n dX10_isLawful_2 rfl ?_
  refine P_callVp dX10_isLawful_3 lkX10_79 okX10_weightA ⟨Nat.le_of_ble_eq_true rfl, Nat.le_of_ble_eq_true rfl⟩ (m_weightA l ho hs hr) rfl rfl ho (Nat.le_of_ble_eq_true rfl) ⟨Nat.le_of_ble_eq_true rfl, Nat.le_of_ble_eq_true rfl⟩ ?_
  refine P_if_lt (tgt := 22) dX10_isLawful_6 (by decide) (fun c6 => ?_) (fun c6 => ?_)
  · refine P_iconst dX10_isLawful_22 ci_0 ?_
    exact P_zret dX10_isLawful_23 rfl ⟨Nat.le_refl _, Nat.le_refl _⟩ (by first | exact Or.inl rfl | exact Or.inr rfl) ⟨by first | (simp [lawP, c6, c15]; done) | (simp [lawP, c6]; done), rfl⟩
  · refine P_aload_n dX10_isLawful_9 rfl ?_
    refine P_iload_n dX10_isLawful_10 rfl ?_
    refine P_iload_n dX10_isLawful_11 rfl ?_
    refine P_callVp dX10_isLawful_12 lkX10_82 okX10_weightC ⟨Nat.le_of_ble_eq_true rfl, Nat.le_of_ble_eq_true rfl⟩ (m_weightC l ho hs hr) rfl rfl ho (Nat.le_of_ble_eq_true rfl) ⟨Nat.le_of_ble_eq_true rfl, Nat.le_of_ble_eq_true rfl⟩ ?_
    refine P_if_lt (tgt := 22) dX10_isLawful_15 (by decide) (fun c15 => ?_) (fun c15 => ?_)
    · refine P_iconst dX10_isLawful_22 ci_0 ?_
      exact P_zret dX10_isLawful_23 rfl ⟨Nat.le_refl _, Nat.le_refl _⟩ (by first | exact Or.inl rfl | exact Or.inr rfl) ⟨by first | (simp [lawP, c6, c15]; done) | (simp [lawP, c6]; done), rfl⟩
    · refine P_iconst dX10_isLawful_18 ci_1 ?_
      refine P_goto (tgt := 23) dX10_isLawful_19 (by decide) ?_
      exact P_zret dX10_isLawful_23 rfl ⟨Nat.le_refl _, Nat.le_refl _⟩ (by first | exact Or.inl rfl | exact Or.inr rfl) ⟨by first | (simp [lawP, c6, c15]; done) | (simp [lawP, c6]; done), rfl⟩
set_option maxRecDepth 100000 in
theorem lp_partsOf (l : Launch) {G : PH} {h : Nat} {f : Nat → Int32} {ρ : Riv} (hs : G[h]? = some (aI 315 f)) (hr : rRow ρ f) (hN : rN ρ ≤ 6) : ∀ (n : Nat) (i : Nat), rN ρ - i < n → i ≤ rN ρ → WP mX10_partsOf l (rmM mX10_partsOf 0 0) (ZM 0 0 (fun w G' => w = some (.int (pSum ρ (rN ρ))) ∧ G' = G)) XT 0 0 4 [some (.ref 164), some (.ref h), some (.int (pSum ρ i)), some (.int (nI i))] [] G := by
  intro n
  induction n with
  | zero => intro i hn hi; exact absurd hn (Nat.not_lt_zero _)
  | succ n ih =>
    intro i hn hi
    refine P_iload_n dX10_partsOf_4 rfl ?_
    refine P_aload_n dX10_partsOf_5 rfl ?_
    refine P_iconst dX10_partsOf_6 ci_2 ?_
    refine P_iald dX10_partsOf_7 hs (vp_in_nI (show 2 < 315 by decide) (by decide)) ?_
    rw [show f (Int32.toNatClampNeg 2) = nI (rN ρ) from hr.2.2.1]
    refine P_icmp_ge (tgt := 27) dX10_partsOf_8 (by decide) (fun c8 => ?_) (fun c8 => ?_)
    · have hi2 : i = rN ρ := Nat.le_antisymm hi (Nat.not_lt.mp fun q => nI_ge q (by omega) c8)
      subst hi2
      refine P_iload_n dX10_partsOf_27 rfl ?_
      exact P_iret dX10_partsOf_28 rfl ⟨Nat.le_refl _, Nat.le_refl _⟩ ⟨rfl, rfl⟩
    · have hlt : i < rN ρ := Nat.not_le.mp fun q => c8 (nI_le q (by omega))
      refine P_iload_n dX10_partsOf_11 rfl ?_
      refine P_aload_n dX10_partsOf_12 rfl ?_
      refine P_iload_n dX10_partsOf_13 rfl ?_
      refine P_iconst dX10_partsOf_14 ci_3 ?_
      refine P_callSp dX10_partsOf_15 lkX10_64 okX10_placeOf ⟨Nat.le_of_ble_eq_true rfl, Nat.le_of_ble_eq_true rfl⟩ (m_placeOf (i := 3) l) rfl rfl (Nat.le_of_ble_eq_true rfl) ⟨Nat.le_of_ble_eq_true rfl, Nat.le_of_ble_eq_true rfl⟩ ?_
      refine P_iald dX10_partsOf_18 hs (vp_in_nI (by omega) (by decide)) ?_
      rw [nI_clamp (by omega), (hr.2.2.2 i hlt).1 3 (by decide)]
      refine P_iadd dX10_partsOf_19 ?_
      refine P_istore_n (L' := [_, _, _, _]) dX10_partsOf_20 (Nat.le_of_ble_eq_true rfl) rfl ?_
      refine P_iinc (L' := [_, _, _, _]) dX10_partsOf_21 rfl (ii_1 _) (Nat.le_of_ble_eq_true rfl) rfl ?_
      rw [nI_1]
      refine P_goto (tgt := 4) dX10_partsOf_24 (by decide) ?_
      exact ih (i + 1) (by omega) hlt
theorem m_partsOf (l : Launch) {G : PH} {h : Nat} {f : Nat → Int32} {ρ : Riv} (hs : G[h]? = some (aI 315 f)) (hr : rRow ρ f) (hN : rN ρ ≤ 6) : Tri l mX10_partsOf 0 0 [.ref 164, .ref h] G (fun w G' => w = some (.int (pSum ρ (rN ρ))) ∧ G' = G) := by
  refine Tri.intro (L := [_, _, _, _]) okX10_partsOf.1 (Nat.le_of_ble_eq_true rfl) rfl ?_
  refine P_iconst dX10_partsOf_0 ci_0 ?_
  refine P_istore_n (L' := [_, _, _, _]) dX10_partsOf_1 (Nat.le_of_ble_eq_true rfl) rfl ?_
  refine P_iconst dX10_partsOf_2 ci_0 ?_
  refine P_istore_n (L' := [_, _, _, _]) dX10_partsOf_3 (Nat.le_of_ble_eq_true rfl) rfl ?_
  exact lp_partsOf l hs hr hN (rN ρ + 1) 0 (by omega) (Nat.zero_le _)
