def b2 (b : Bool) : Int32 := if b then 1 else 0
theorem b2_0 (b : Bool) : b2 b = 0 ↔ b = false := by cases b <;> simp [b2]
def Fr2 (G G' : PH) (a n b m : Nat) : Prop := G'.length = G.length ∧ ∀ x : Nat, x < a ∨ a + n ≤ x → x < b ∨ b + m ≤ x → G'[x]? = G[x]?
theorem Fr2.rf {G : PH} {a n b m : Nat} : Fr2 G G a n b m := ⟨rfl, fun _ _ _ => rfl⟩
theorem Fr2.tr {G G' G'' : PH} {a n b m : Nat} (h : Fr2 G G' a n b m) (h' : Fr2 G' G'' a n b m) : Fr2 G G'' a n b m := ⟨h'.1.trans h.1, fun x h1 h2 => (h'.2 x h1 h2).trans (h.2 x h1 h2)⟩
theorem Fr.l2 {G G' : PH} {a n b m : Nat} (h : Fr G G' a n) : Fr2 G G' a n b m := ⟨h.1, fun x h1 _ => h.2 x h1⟩
theorem Fr.r2 {G G' : PH} {a n b m : Nat} (h : Fr G G' b m) : Fr2 G G' a n b m := ⟨h.1, fun x _ h2 => h.2 x h2⟩
theorem Fr2.at {G G' : PH} {a n b m x : Nat} {c : PCell} (h : Fr2 G G' a n b m) (hG : G[x]? = some c) (h1 : x < a ∨ a + n ≤ x) (h2 : x < b ∨ b + m ≤ x) : G'[x]? = some c := (h.2 x h1 h2).trans hG
/-! clauses -/
abbrev CS : Type := Nat × Riv × Bool × Bool
def v3 : (Nat × Nat) ⊕ (Int32 × Nat × Nat) → Int32
  | .inl _ => 0
  | .inr q => q.1
def v2 : (Nat × Nat) ⊕ (Int32 × Nat) → Int32
  | .inl _ => 0
  | .inr q => q.1
def clT (n : Nat) (tx : Nat → Int32) (p : Nat) (ρ : Riv) (tt td : Bool) : (Nat × Nat) ⊕ CS :=
  if tt = true ∨ 0 < rN ρ then .inl (3, p) else match clS n tx (st3 (num n tx 2 24 (p + 1))) with
    | .inl e => .inl e
    | .inr q => .inr (q, rvT ρ (v3 (num n tx 2 24 (p + 1))).toNatClampNeg, true, td)
def clD (n : Nat) (tx : Nat → Int32) (p : Nat) (ρ : Riv) (tt td : Bool) : (Nat × Nat) ⊕ CS :=
  if td = true ∨ 0 < rN ρ then .inl (3, p) else match clS n tx (st3 (num n tx 1 9 (p + 1))) with
    | .inl e => .inl e
    | .inr q => .inr (q, rvD ρ (v3 (num n tx 1 9 (p + 1))).toNatClampNeg, tt, true)
def rcB (n : Nat) (tx : Nat → Int32) (p : Nat) (ρ : Riv) : (Nat × Nat) ⊕ (Int32 × Nat) := blS n tx (nI (rN ρ) - 1) (.inr (p + 1))
def rcK (n : Nat) (tx : Nat → Int32) (p : Nat) (ρ : Riv) : (Nat × Nat) ⊕ (Int32 × Nat × Nat) := numS n tx 0 20 (st2 (rcB n tx p ρ))
def rcX (n : Nat) (tx : Nat → Int32) (p : Nat) (ρ : Riv) : (Nat × Nat) ⊕ (Int32 × Nat × Nat) := numS n tx 0 10 (st3 (rcK n tx p ρ))
def rcQ (n : Nat) (tx : Nat → Int32) (p : Nat) (ρ : Riv) : (Nat × Nat) ⊕ (Int32 × Nat) := prS n tx (8 - pSum ρ (rN ρ)) (st3 (rcX n tx p ρ))
def clR (n : Nat) (tx : Nat → Int32) (p : Nat) (ρ : Riv) (tt td : Bool) : (Nat × Nat) ⊕ CS :=
  if ¬ rN ρ < 6 then .inl (4, p) else match clS n tx (st2 (rcQ n tx p ρ)) with
    | .inl e => .inl e
    | .inr q => .inr (q, rvA ρ (v2 (rcB n tx p ρ)) (v3 (rcK n tx p ρ)) (v3 (rcX n tx p ρ)) (v2 (rcQ n tx p ρ)), tt, td)
def sdS (n : Nat) (tx : Nat → Int32) (r : Nat) : Nat → Nat → PS → Riv → PS × Riv
  | 0, _, σ, ρ => (σ, ρ)
  | _ + 1, _, .inl e, ρ => (.inl e, ρ)
  | f + 1, t, .inr p, ρ => if 0 < t ∧ ¬ figP (lt0 n tx (skp n tx p)) then (.inr (skp n tx p), ρ) else if ¬ t < rT ρ then (.inl (4, skp n tx p), ρ) else
      match num n tx 0 9999 p with
        | .inl e => (.inl e, ρ)
        | .inr (v, _, q) => sdS n tx r f (t + 1) (.inr q) (rvS ρ r t v)
def sdR (n : Nat) (tx : Nat → Int32) (p : Nat) (ρ : Riv) : PS × Riv := match num n tx 0 (nI (rN ρ) - 1) (p + 1) with
  | .inl e => (.inl e, ρ)
  | .inr (v, _, q) => sdS n tx v.toNatClampNeg 25 0 (.inr q) ρ
def clX (n : Nat) (tx : Nat → Int32) (p : Nat) (ρ : Riv) (tt td : Bool) : (Nat × Nat) ⊕ CS := match clS n tx (sdR n tx p ρ).1 with
  | .inl e => .inl e
  | .inr q => .inr (q, (sdR n tx p ρ).2, tt, td)
def cla (n : Nat) (tx : Nat → Int32) (p : Nat) (ρ : Riv) (tt td : Bool) : (Nat × Nat) ⊕ CS :=
  if lt0 n tx p = 116 then clT n tx p ρ tt td else if lt0 n tx p = 100 then clD n tx p ρ tt td else if lt0 n tx p = 114 then clR n tx p ρ tt td else if lt0 n tx p = 115 then clX n tx p ρ tt td else .inl (1, p)
def prs (n : Nat) (tx : Nat → Int32) : Nat → CS → (Nat × Nat) ⊕ Riv
  | 0, c => .inr c.2.1
  | f + 1, c => if n ≤ skp n tx c.1 then .inr c.2.1 else match cla n tx (skp n tx c.1) c.2.1 c.2.2.1 c.2.2.2 with
    | .inl e => .inl e
    | .inr c' => prs n tx f c'
theorem clS_r {n : Nat} {tx : Nat → Int32} {σ : PS} {q : Nat} (h : clS n tx σ = .inr q) : ∃ p, σ = .inr p ∧ lt0 n tx (skp n tx p) = 59 ∧ q = skp n tx p + 1 := by
  cases σ with
  | inl e => cases h
  | inr p =>
    by_cases e : lt0 n tx (skp n tx p) = 59
    · rw [show clS n tx (.inr p) = .inr (skp n tx p + 1) from if_pos e] at h; cases h; exact ⟨p, rfl, e, rfl⟩
    · rw [show clS n tx (.inr p) = .inl (1, skp n tx p) from if_neg e] at h; cases h
theorem st3_r {B : (Nat × Nat) ⊕ (Int32 × Nat × Nat)} {q : Nat} (h : st3 B = .inr q) : ∃ s, B = .inr (v3 B, s, q) := by
  cases B with
  | inl e => cases h
  | inr e => obtain ⟨v, s, q'⟩ := e; cases h; exact ⟨s, rfl⟩
theorem st2_r {B : (Nat × Nat) ⊕ (Int32 × Nat)} {q : Nat} (h : st2 B = .inr q) : B = .inr (v2 B, q) := by
  cases B with
  | inl e => cases h
  | inr e => obtain ⟨v, q'⟩ := e; cases h; rfl
theorem numS_r {n : Nat} {tx : Nat → Int32} {a b : Int32} {σ : PS} {y : Int32 × Nat × Nat} (h : numS n tx a b σ = .inr y) : ∃ p, σ = .inr p ∧ num n tx a b p = .inr y := by
  cases σ with
  | inl e => cases h
  | inr p => exact ⟨p, rfl, h⟩
theorem prS_r {n : Nat} {tx : Nat → Int32} {room : Int32} {σ : PS} {v : Int32} {q : Nat} (h : prS n tx room σ = .inr (v, q)) : ∃ s, numS n tx 1 4 σ = .inr (v, s, q) ∧ ¬ room < v := by
  unfold prS at h
  cases hn : numS n tx 1 4 σ with
  | inl e => rw [hn] at h; cases h
  | inr e =>
    obtain ⟨v1, s1, q1⟩ := e
    rw [hn] at h
    have h : (if room < v1 then (.inl (4, s1) : (Nat × Nat) ⊕ (Int32 × Nat)) else .inr (v1, q1)) = .inr (v, q) := h
    by_cases e : room < v1
    · rw [if_pos e] at h; cases h
    · rw [if_neg e] at h; cases h; exact ⟨s1, rfl, e⟩
theorem neg_nI {v : Int32} {a : Nat} (h : v < 0) (ha : a < 2 ^ 31) : v < nI a := by
  rw [Int32.lt_iff_toInt_lt] at *
  rw [nI_toInt ha]
  have : (0 : Int32).toInt = 0 := by decide
  omega
theorem num_nat {n : Nat} {tx : Nat → Int32} {b : Nat} {a : Nat} {p : Nat} {y : Int32 × Nat × Nat} (ha : a < 2 ^ 31) (hb : b < 2 ^ 31) (h : num n tx (nI a) (nI b) p = .inr y) : ∃ j, a ≤ j ∧ j ≤ b ∧ y.1 = nI j := by
  obtain ⟨v, s, q⟩ := y
  obtain ⟨h1, h2, -⟩ := num_le h
  have h0 : ¬ v < 0 := fun z => h1 (neg_nI z ha)
  obtain ⟨j, hj, rfl⟩ := nI_of h0
  exact ⟨j, Nat.not_lt.mp fun z => h1 (nI_lt z ha), Nat.not_lt.mp fun z => h2 (nI_lt z hj), rfl⟩
def cPost (G0 G' : PH) (h hr n : Nat) (tx : Nat → Int32) (res : (Nat × Nat) ⊕ CS) : Prop := (match res with
    | .inl e => (∃ tt td, tS G' h n tx (.inl e) tt td) ∧ ∃ ρ, isRiver G' hr ρ
    | .inr c => tS G' h n tx (.inr c.1) (b2 c.2.2.1) (b2 c.2.2.2) ∧ isRiver G' hr c.2.1) ∧ Fr2 G0 G' h 1 hr 7
theorem txt_of {G : PH} {h n p : Nat} {tx : Nat → Int32} {tt td : Int32} (k : tS G h n tx (.inr p) tt td) : txt G h n tx p 0 (-1) tt td := by
  obtain ⟨p', fn, fp, k, rfl, rfl, rfl⟩ := k
  exact k
theorem tS_of {G : PH} {h n p : Nat} {tx : Nat → Int32} {tt td : Int32} (k : txt G h n tx p 0 (-1) tt td) : tS G h n tx (.inr p) tt td := ⟨_, _, _, k, rfl, rfl, rfl⟩
theorem tS_bad {G : PH} {h n p f q : Nat} {tx : Nat → Int32} {tt td : Int32} (k : txt G h n tx p (nI f) (nI q) tt td) (h1 : 1 ≤ f) (h2 : f ≤ 4) : tS G h n tx (.inl (f, q)) tt td := ⟨_, _, _, k, rfl, h1, h2, rfl⟩
theorem right_of {σ : PS} (h : ¬ (if σ.isRight then (1 : Int32) else 0) = 0) : ∃ q, σ = .inr q := by
  cases σ with
  | inl e => exact absurd rfl h
  | inr q => exact ⟨q, rfl⟩
theorem left_of {σ : PS} (h : (if σ.isRight then (1 : Int32) else 0) = 0) : ∃ e, σ = .inl e := by
  cases σ with
  | inl e => exact ⟨e, rfl⟩
  | inr q => exact absurd h (show ¬ (1 : Int32) = 0 by decide)
theorem t_hasOthers (l : Launch) {G : PH} {h : Nat} {ρ : Riv} (hR : isRiver G h ρ) : Tri l mX8_hasOthers 0 0 [.ref h] G (fun w G' => w = some (.int (if 0 < rN ρ then 1 else 0)) ∧ G' = G) := by
  have hN : rN ρ ≤ 6 := hR.bd.2.2.2.2
  refine Tri.intro (L := [_]) okX8_hasOthers.1 (Nat.le_of_ble_eq_true rfl) rfl ?_
  refine P_aload_n dX8_hasOthers_0 rfl ?_
  refine P_callVp dX8_hasOthers_1 lkX8_89 okX6_reachCount ⟨Nat.le_of_ble_eq_true rfl, Nat.le_of_ble_eq_true rfl⟩ (t_reachCount l hR) rfl rfl hR.at (Nat.le_of_ble_eq_true rfl) ⟨Nat.le_of_ble_eq_true rfl, Nat.le_of_ble_eq_true rfl⟩ ?_
  refine P_if_le (tgt := 11) dX8_hasOthers_4 (by decide) (fun c4 => ?_) (fun c4 => ?_)
  · have e : ¬ 0 < rN ρ := fun q => nI_nle q (by omega) c4
    refine P_iconst dX8_hasOthers_11 ci_0 ?_
    exact P_zret dX8_hasOthers_12 rfl ⟨Nat.le_refl _, Nat.le_refl _⟩ (by first | exact Or.inl rfl | exact Or.inr rfl) ⟨by simp [e], rfl⟩
  · have e : 0 < rN ρ := Nat.pos_of_ne_zero fun q => c4 (by rw [q]; decide)
    refine P_iconst dX8_hasOthers_7 ci_1 ?_
    refine P_goto (tgt := 12) dX8_hasOthers_8 (by decide) ?_
    exact P_zret dX8_hasOthers_12 rfl ⟨Nat.le_refl _, Nat.le_refl _⟩ (by first | exact Or.inl rfl | exact Or.inr rfl) ⟨by simp [e], rfl⟩
set_option maxHeartbeats 4000000 in
set_option maxRecDepth 100000 in
theorem t_readTimes (l : Launch) {G : PH} {h hr n p : Nat} {tx : Nat → Int32} {ρ : Riv} {tt td : Bool} (hS : tS G h n tx (.inr p) (b2 tt) (b2 td)) (hR : isRiver G hr ρ) (hd : hr + 7 ≤ h ∨ h + 2 ≤ hr) (hp : p < n) : Tri l mX8_readTimes 0 0 [.ref h, .ref hr] G (fun w G' => w = none ∧ cPost G G' h hr n tx (clT n tx p ρ tt td)) := by
  have k := txt_of hS
  have hb := hR.bd
  refine Tri.intro (L := [_, _, _]) okX8_readTimes.1 (Nat.le_of_ble_eq_true rfl) rfl ?_
  refine P_aload_n dX8_readTimes_0 rfl ?_
  refine P_get dX8_readTimes_1 flX8_28 k.1 rfl ?_
  refine P_if_ne (tgt := 14) dX8_readTimes_4 (by decide) (fun c4 => ?_) (fun c4 => ?_)
  · have hcl : clT n tx p ρ tt td = .inl (3, p) := if_pos (Or.inl (by cases tt; exact absurd rfl c4; rfl))
    refine P_aload_n dX8_readTimes_14 rfl ?_
    refine P_iconst dX8_readTimes_15 ci_3 ?_
    refine P_aload_n dX8_readTimes_16 rfl ?_
    refine P_get dX8_readTimes_17 flX8_19 k.1 rfl ?_
    refine P_callV dX8_readTimes_20 lkX8_67 okX8_fail ⟨Nat.le_of_ble_eq_true rfl, Nat.le_of_ble_eq_true rfl⟩ (t_fail l k) rfl rfl k.1 (Nat.le_of_ble_eq_true rfl) ⟨Nat.le_of_ble_eq_true rfl, Nat.le_of_ble_eq_true rfl⟩ (fun v20 G20 q20 => ?_)
    obtain ⟨rfl, k2, hF2⟩ := q20
    rw [if_pos rfl, if_pos rfl] at k2
    exact P_vret dX8_readTimes_23 rfl ⟨Nat.le_refl _, Nat.le_refl _⟩ ⟨rfl, ⟨(by rw [hcl]; exact ⟨⟨_, _, tS_bad (f := 3) k2 (by decide) (by decide)⟩, ρ, hR.fr hF2 (by omega)⟩), hF2.l2⟩⟩
  · refine P_aload_n dX8_readTimes_7 rfl ?_
    refine P_callSp dX8_readTimes_8 lkX8_71 okX8_hasOthers ⟨Nat.le_of_ble_eq_true rfl, Nat.le_of_ble_eq_true rfl⟩ (t_hasOthers l hR) rfl rfl (Nat.le_of_ble_eq_true rfl) ⟨Nat.le_of_ble_eq_true rfl, Nat.le_of_ble_eq_true rfl⟩ ?_
    refine P_if_eq (tgt := 24) dX8_readTimes_11 (by decide) (fun c11 => ?_) (fun c11 => ?_)
    · have hno : ¬ 0 < rN ρ := (b2p _).mp c11
      refine P_aload_n dX8_readTimes_24 rfl ?_
      refine P_iconst dX8_readTimes_25 ci_1 ?_
      refine P_putZ dX8_readTimes_26 flX8_28 k.1 (Nat.le_of_ble_eq_true rfl) (by first | exact Or.inl rfl | exact Or.inr rfl) ?_
      refine P_aload_n dX8_readTimes_29 rfl ?_
      refine P_dup dX8_readTimes_30 rfl ?_
      refine P_get dX8_readTimes_31 flX8_19 (set_at k.1) rfl ?_
      refine P_iconst dX8_readTimes_34 ci_1 ?_
      refine P_iadd dX8_readTimes_35 ?_
      rw [nI_1]
      refine P_putI dX8_readTimes_36 flX8_19 (set_at k.1) (Nat.le_of_ble_eq_true rfl) ?_
      have hs : txt ((G.set h (oT h n p 0 (-1) 1 (b2 td))).set h (oT h n (p + 1) 0 (-1) 1 (b2 td))) h n tx (p + 1) 0 (-1) 1 (b2 td) ∧ Fr G ((G.set h (oT h n p 0 (-1) 1 (b2 td))).set h (oT h n (p + 1) 0 (-1) 1 (b2 td))) h 1 := ⟨⟨set_at (set_at k.1), set_ne (set_ne k.2.1 (by omega)) (by omega), k.2.2.1, hp⟩, (Fr.set (by omega) (by omega)).tr (Fr.set (by omega) (by omega))⟩
      refine P_aload_n dX8_readTimes_39 rfl ?_
      refine P_iconst dX8_readTimes_40 ci_2 ?_
      refine P_bipush dX8_readTimes_41 bp_24 ?_
      refine P_callV dX8_readTimes_43 lkX8_75 okX8_readNumber ⟨Nat.le_of_ble_eq_true rfl, Nat.le_of_ble_eq_true rfl⟩ (t_num l (tS_of hs.1)) rfl rfl hs.1.1 (Nat.le_of_ble_eq_true rfl) ⟨Nat.le_of_ble_eq_true rfl, Nat.le_of_ble_eq_true rfl⟩ (fun v43 G43 q43 => ?_)
      obtain ⟨⟨x9, rfl, hx9⟩, hS2, hF2⟩ := q43
      have hw2 := hS2.at
      refine P_istore_n (L' := [_, _, _]) dX8_readTimes_46 (Nat.le_of_ble_eq_true rfl) rfl ?_
      refine P_aload_n dX8_readTimes_47 rfl ?_
      refine P_callV dX8_readTimes_48 lkX8_79 okX8_closeClause ⟨Nat.le_of_ble_eq_true rfl, Nat.le_of_ble_eq_true rfl⟩ (t_close l hS2) rfl rfl hw2.choose_spec (Nat.le_of_ble_eq_true rfl) ⟨Nat.le_of_ble_eq_true rfl, Nat.le_of_ble_eq_true rfl⟩ (fun v48 G48 q48 => ?_)
      obtain ⟨rfl, hS3, hF3⟩ := q48
      have hw3 := hS3.at
      have hF13 := hs.2.tr (hF2.tr hF3)
      have hR3 := hR.fr hF13 (by omega)
      have hcl : clT n tx p ρ tt td = match clS n tx (st3 (num n tx 2 24 (p + 1))) with | .inl e => .inl e | .inr q => .inr (q, rvT ρ (v3 (num n tx 2 24 (p + 1))).toNatClampNeg, true, td) := if_neg (by intro q; rcases q with q | q; rw [q] at c4; exact absurd c4 (by decide); exact hno q)
      refine P_aload_n dX8_readTimes_51 rfl ?_
      refine P_callVp dX8_readTimes_52 lkX8_40 okX8_isSound ⟨Nat.le_of_ble_eq_true rfl, Nat.le_of_ble_eq_true rfl⟩ (t_sound l hS3) rfl rfl hw3.choose_spec (Nat.le_of_ble_eq_true rfl) ⟨Nat.le_of_ble_eq_true rfl, Nat.le_of_ble_eq_true rfl⟩ ?_
      refine P_if_eq (tgt := 63) dX8_readTimes_55 (by decide) (fun c55 => ?_) (fun c55 => ?_)
      · obtain ⟨e9, he9⟩ := left_of c55
        rw [show clS n tx (st3 (numS n tx 2 24 (.inr (p + 1)))) = clS n tx (st3 (num n tx 2 24 (p + 1))) from rfl] at he9
        exact P_vret dX8_readTimes_63 rfl ⟨Nat.le_refl _, Nat.le_refl _⟩ (by first | exact ⟨rfl, ⟨(by rw [hcl, show clS n tx (st3 (num n tx 2 24 (p + 1))) = .inl e9 from he9]; exact ⟨⟨_, _, by rw [← he9]; exact hS3⟩, ρ, hR3⟩), hF13.l2⟩⟩ | exact ⟨rfl, ⟨(by rw [hcl, show clS n tx (st3 (num n tx 2 24 (p + 1))) = .inr q9 from hq9, hvj]; exact ⟨by rw [← hq9]; exact hS3.fr hF4 (by omega), by show isRiver _ hr (rvT ρ (nI j).toNatClampNeg); rw [nI_clamp (by omega)]; exact hR4⟩), hF13.l2.tr hF4.r2⟩⟩)
      · obtain ⟨q9, hq9⟩ := right_of c55
        obtain ⟨p9, hp9, -, -⟩ := clS_r hq9
        obtain ⟨s9, hs9⟩ := st3_r hp9
        obtain ⟨j, hj1, hj2, ej⟩ := num_nat (a := 2) (b := 24) (by decide) (by decide) hs9
        have hxj : x9 = nI j := (hx9 _ _ _ hs9).trans ej
        have hvj : v3 (num n tx 2 24 (p + 1)) = nI j := ej
        subst hxj
        refine P_aload_n dX8_readTimes_58 rfl ?_
        refine P_iload_n dX8_readTimes_59 rfl ?_
        refine P_callV dX8_readTimes_60 lkX8_82 okX6_setTimeCount ⟨Nat.le_of_ble_eq_true rfl, Nat.le_of_ble_eq_true rfl⟩ (t_setT l hR3 (by omega) (by omega)) rfl rfl hR3.at (Nat.le_of_ble_eq_true rfl) ⟨Nat.le_of_ble_eq_true rfl, Nat.le_of_ble_eq_true rfl⟩ (fun v60 G60 q60 => ?_)
        obtain ⟨rfl, hR4, hF4⟩ := q60
        exact P_vret dX8_readTimes_63 rfl ⟨Nat.le_refl _, Nat.le_refl _⟩ (by first | exact ⟨rfl, ⟨(by rw [hcl, show clS n tx (st3 (num n tx 2 24 (p + 1))) = .inl e9 from he9]; exact ⟨⟨_, _, by rw [← he9]; exact hS3⟩, ρ, hR3⟩), hF13.l2⟩⟩ | exact ⟨rfl, ⟨(by rw [hcl, show clS n tx (st3 (num n tx 2 24 (p + 1))) = .inr q9 from hq9, hvj]; exact ⟨by rw [← hq9]; exact hS3.fr hF4 (by omega), by show isRiver _ hr (rvT ρ (nI j).toNatClampNeg); rw [nI_clamp (by omega)]; exact hR4⟩), hF13.l2.tr hF4.r2⟩⟩)
    · have hyes : 0 < rN ρ := Classical.not_not.mp (fun z => c11 ((b2p _).mpr z))
      have hcl : clT n tx p ρ tt td = .inl (3, p) := if_pos (Or.inr hyes)
      refine P_aload_n dX8_readTimes_14 rfl ?_
      refine P_iconst dX8_readTimes_15 ci_3 ?_
      refine P_aload_n dX8_readTimes_16 rfl ?_
      refine P_get dX8_readTimes_17 flX8_19 k.1 rfl ?_
      refine P_callV dX8_readTimes_20 lkX8_67 okX8_fail ⟨Nat.le_of_ble_eq_true rfl, Nat.le_of_ble_eq_true rfl⟩ (t_fail l k) rfl rfl k.1 (Nat.le_of_ble_eq_true rfl) ⟨Nat.le_of_ble_eq_true rfl, Nat.le_of_ble_eq_true rfl⟩ (fun v20 G20 q20 => ?_)
      obtain ⟨rfl, k2, hF2⟩ := q20
      rw [if_pos rfl, if_pos rfl] at k2
      exact P_vret dX8_readTimes_23 rfl ⟨Nat.le_refl _, Nat.le_refl _⟩ ⟨rfl, ⟨(by rw [hcl]; exact ⟨⟨_, _, tS_bad (f := 3) k2 (by decide) (by decide)⟩, ρ, hR.fr hF2 (by omega)⟩), hF2.l2⟩⟩
set_option maxHeartbeats 4000000 in
set_option maxRecDepth 100000 in
theorem t_readStep (l : Launch) {G : PH} {h hr n p : Nat} {tx : Nat → Int32} {ρ : Riv} {tt td : Bool} (hS : tS G h n tx (.inr p) (b2 tt) (b2 td)) (hR : isRiver G hr ρ) (hd : hr + 7 ≤ h ∨ h + 2 ≤ hr) (hp : p < n) : Tri l mX8_readStep 0 0 [.ref h, .ref hr] G (fun w G' => w = none ∧ cPost G G' h hr n tx (clD n tx p ρ tt td)) := by
  have k := txt_of hS
  have hb := hR.bd
  refine Tri.intro (L := [_, _, _]) okX8_readStep.1 (Nat.le_of_ble_eq_true rfl) rfl ?_
  refine P_aload_n dX8_readStep_0 rfl ?_
  refine P_get dX8_readStep_1 flX8_32 k.1 rfl ?_
  refine P_if_ne (tgt := 14) dX8_readStep_4 (by decide) (fun c4 => ?_) (fun c4 => ?_)
  · have hcl : clD n tx p ρ tt td = .inl (3, p) := if_pos (Or.inl (by cases td; exact absurd rfl c4; rfl))
    refine P_aload_n dX8_readStep_14 rfl ?_
    refine P_iconst dX8_readStep_15 ci_3 ?_
    refine P_aload_n dX8_readStep_16 rfl ?_
    refine P_get dX8_readStep_17 flX8_19 k.1 rfl ?_
    refine P_callV dX8_readStep_20 lkX8_67 okX8_fail ⟨Nat.le_of_ble_eq_true rfl, Nat.le_of_ble_eq_true rfl⟩ (t_fail l k) rfl rfl k.1 (Nat.le_of_ble_eq_true rfl) ⟨Nat.le_of_ble_eq_true rfl, Nat.le_of_ble_eq_true rfl⟩ (fun v20 G20 q20 => ?_)
    obtain ⟨rfl, k2, hF2⟩ := q20
    rw [if_pos rfl, if_pos rfl] at k2
    exact P_vret dX8_readStep_23 rfl ⟨Nat.le_refl _, Nat.le_refl _⟩ ⟨rfl, ⟨(by rw [hcl]; exact ⟨⟨_, _, tS_bad (f := 3) k2 (by decide) (by decide)⟩, ρ, hR.fr hF2 (by omega)⟩), hF2.l2⟩⟩
  · refine P_aload_n dX8_readStep_7 rfl ?_
    refine P_callSp dX8_readStep_8 lkX8_71 okX8_hasOthers ⟨Nat.le_of_ble_eq_true rfl, Nat.le_of_ble_eq_true rfl⟩ (t_hasOthers l hR) rfl rfl (Nat.le_of_ble_eq_true rfl) ⟨Nat.le_of_ble_eq_true rfl, Nat.le_of_ble_eq_true rfl⟩ ?_
    refine P_if_eq (tgt := 24) dX8_readStep_11 (by decide) (fun c11 => ?_) (fun c11 => ?_)
    · have hno : ¬ 0 < rN ρ := (b2p _).mp c11
      refine P_aload_n dX8_readStep_24 rfl ?_
      refine P_iconst dX8_readStep_25 ci_1 ?_
      refine P_putZ dX8_readStep_26 flX8_32 k.1 (Nat.le_of_ble_eq_true rfl) (by first | exact Or.inl rfl | exact Or.inr rfl) ?_
      refine P_aload_n dX8_readStep_29 rfl ?_
      refine P_dup dX8_readStep_30 rfl ?_
      refine P_get dX8_readStep_31 flX8_19 (set_at k.1) rfl ?_
      refine P_iconst dX8_readStep_34 ci_1 ?_
      refine P_iadd dX8_readStep_35 ?_
      rw [nI_1]
      refine P_putI dX8_readStep_36 flX8_19 (set_at k.1) (Nat.le_of_ble_eq_true rfl) ?_
      have hs : txt ((G.set h (oT h n p 0 (-1) (b2 tt) 1)).set h (oT h n (p + 1) 0 (-1) (b2 tt) 1)) h n tx (p + 1) 0 (-1) (b2 tt) 1 ∧ Fr G ((G.set h (oT h n p 0 (-1) (b2 tt) 1)).set h (oT h n (p + 1) 0 (-1) (b2 tt) 1)) h 1 := ⟨⟨set_at (set_at k.1), set_ne (set_ne k.2.1 (by omega)) (by omega), k.2.2.1, hp⟩, (Fr.set (by omega) (by omega)).tr (Fr.set (by omega) (by omega))⟩
      refine P_aload_n dX8_readStep_39 rfl ?_
      refine P_iconst dX8_readStep_40 ci_1 ?_
      refine P_bipush dX8_readStep_41 bp_9 ?_
      refine P_callV dX8_readStep_43 lkX8_75 okX8_readNumber ⟨Nat.le_of_ble_eq_true rfl, Nat.le_of_ble_eq_true rfl⟩ (t_num l (tS_of hs.1)) rfl rfl hs.1.1 (Nat.le_of_ble_eq_true rfl) ⟨Nat.le_of_ble_eq_true rfl, Nat.le_of_ble_eq_true rfl⟩ (fun v43 G43 q43 => ?_)
      obtain ⟨⟨x9, rfl, hx9⟩, hS2, hF2⟩ := q43
      have hw2 := hS2.at
      refine P_istore_n (L' := [_, _, _]) dX8_readStep_46 (Nat.le_of_ble_eq_true rfl) rfl ?_
      refine P_aload_n dX8_readStep_47 rfl ?_
      refine P_callV dX8_readStep_48 lkX8_79 okX8_closeClause ⟨Nat.le_of_ble_eq_true rfl, Nat.le_of_ble_eq_true rfl⟩ (t_close l hS2) rfl rfl hw2.choose_spec (Nat.le_of_ble_eq_true rfl) ⟨Nat.le_of_ble_eq_true rfl, Nat.le_of_ble_eq_true rfl⟩ (fun v48 G48 q48 => ?_)
      obtain ⟨rfl, hS3, hF3⟩ := q48
      have hw3 := hS3.at
      have hF13 := hs.2.tr (hF2.tr hF3)
      have hR3 := hR.fr hF13 (by omega)
      have hcl : clD n tx p ρ tt td = match clS n tx (st3 (num n tx 1 9 (p + 1))) with | .inl e => .inl e | .inr q => .inr (q, rvD ρ (v3 (num n tx 1 9 (p + 1))).toNatClampNeg, tt, true) := if_neg (by intro q; rcases q with q | q; rw [q] at c4; exact absurd c4 (by decide); exact hno q)
      refine P_aload_n dX8_readStep_51 rfl ?_
      refine P_callVp dX8_readStep_52 lkX8_40 okX8_isSound ⟨Nat.le_of_ble_eq_true rfl, Nat.le_of_ble_eq_true rfl⟩ (t_sound l hS3) rfl rfl hw3.choose_spec (Nat.le_of_ble_eq_true rfl) ⟨Nat.le_of_ble_eq_true rfl, Nat.le_of_ble_eq_true rfl⟩ ?_
      refine P_if_eq (tgt := 63) dX8_readStep_55 (by decide) (fun c55 => ?_) (fun c55 => ?_)
      · obtain ⟨e9, he9⟩ := left_of c55
        rw [show clS n tx (st3 (numS n tx 1 9 (.inr (p + 1)))) = clS n tx (st3 (num n tx 1 9 (p + 1))) from rfl] at he9
        exact P_vret dX8_readStep_63 rfl ⟨Nat.le_refl _, Nat.le_refl _⟩ (by first | exact ⟨rfl, ⟨(by rw [hcl, show clS n tx (st3 (num n tx 1 9 (p + 1))) = .inl e9 from he9]; exact ⟨⟨_, _, by rw [← he9]; exact hS3⟩, ρ, hR3⟩), hF13.l2⟩⟩ | exact ⟨rfl, ⟨(by rw [hcl, show clS n tx (st3 (num n tx 1 9 (p + 1))) = .inr q9 from hq9, hvj]; exact ⟨by rw [← hq9]; exact hS3.fr hF4 (by omega), by show isRiver _ hr (rvD ρ (nI j).toNatClampNeg); rw [nI_clamp (by omega)]; exact hR4⟩), hF13.l2.tr hF4.r2⟩⟩)
      · obtain ⟨q9, hq9⟩ := right_of c55
        obtain ⟨p9, hp9, -, -⟩ := clS_r hq9
        obtain ⟨s9, hs9⟩ := st3_r hp9
        obtain ⟨j, hj1, hj2, ej⟩ := num_nat (a := 1) (b := 9) (by decide) (by decide) hs9
        have hxj : x9 = nI j := (hx9 _ _ _ hs9).trans ej
        have hvj : v3 (num n tx 1 9 (p + 1)) = nI j := ej
        subst hxj
        refine P_aload_n dX8_readStep_58 rfl ?_
        refine P_iload_n dX8_readStep_59 rfl ?_
        refine P_callV dX8_readStep_60 lkX8_86 okX6_setTimeStep ⟨Nat.le_of_ble_eq_true rfl, Nat.le_of_ble_eq_true rfl⟩ (t_setD l hR3 (by omega) (by omega)) rfl rfl hR3.at (Nat.le_of_ble_eq_true rfl) ⟨Nat.le_of_ble_eq_true rfl, Nat.le_of_ble_eq_true rfl⟩ (fun v60 G60 q60 => ?_)
        obtain ⟨rfl, hR4, hF4⟩ := q60
        exact P_vret dX8_readStep_63 rfl ⟨Nat.le_refl _, Nat.le_refl _⟩ (by first | exact ⟨rfl, ⟨(by rw [hcl, show clS n tx (st3 (num n tx 1 9 (p + 1))) = .inl e9 from he9]; exact ⟨⟨_, _, by rw [← he9]; exact hS3⟩, ρ, hR3⟩), hF13.l2⟩⟩ | exact ⟨rfl, ⟨(by rw [hcl, show clS n tx (st3 (num n tx 1 9 (p + 1))) = .inr q9 from hq9, hvj]; exact ⟨by rw [← hq9]; exact hS3.fr hF4 (by omega), by show isRiver _ hr (rvD ρ (nI j).toNatClampNeg); rw [nI_clamp (by omega)]; exact hR4⟩), hF13.l2.tr hF4.r2⟩⟩)
    · have hyes : 0 < rN ρ := Classical.not_not.mp (fun z => c11 ((b2p _).mpr z))
      have hcl : clD n tx p ρ tt td = .inl (3, p) := if_pos (Or.inr hyes)
      refine P_aload_n dX8_readStep_14 rfl ?_
      refine P_iconst dX8_readStep_15 ci_3 ?_
      refine P_aload_n dX8_readStep_16 rfl ?_
      refine P_get dX8_readStep_17 flX8_19 k.1 rfl ?_
      refine P_callV dX8_readStep_20 lkX8_67 okX8_fail ⟨Nat.le_of_ble_eq_true rfl, Nat.le_of_ble_eq_true rfl⟩ (t_fail l k) rfl rfl k.1 (Nat.le_of_ble_eq_true rfl) ⟨Nat.le_of_ble_eq_true rfl, Nat.le_of_ble_eq_true rfl⟩ (fun v20 G20 q20 => ?_)
      obtain ⟨rfl, k2, hF2⟩ := q20
      rw [if_pos rfl, if_pos rfl] at k2
      exact P_vret dX8_readStep_23 rfl ⟨Nat.le_refl _, Nat.le_refl _⟩ ⟨rfl, ⟨(by rw [hcl]; exact ⟨⟨_, _, tS_bad (f := 3) k2 (by decide) (by decide)⟩, ρ, hR.fr hF2 (by omega)⟩), hF2.l2⟩⟩
