/-! all flows of a river -/
def inF (ρ : Riv) (o : Nat → Nat → Int64) (r t : Nat) : Nat → Int64
  | 0 => (rS ρ r t).toInt64
  | m + 1 => inF ρ o r t m + (if rF ρ (r + 1 + m) 0 = nI r then o (r + 1 + m) t else 0)
def inn (ρ : Riv) (o : Nat → Nat → Int64) (r t : Nat) : Int64 := inF ρ o r t (rN ρ - (r + 1))
abbrev rP (ρ : Riv) (r : Nat) : Nat := (rF ρ r 3).toNatClampNeg
def ouS (ρ : Riv) : Nat → Nat → Nat → Int64
  | 0 => fun _ _ => 0
  | m + 1 => fun r t => if r = rN ρ - 1 - m then flP (nI (rD ρ)) (rF ρ r 1) (rF ρ r 2) (rP ρ r) (fun t => inn ρ (ouS ρ m) r t) t else ouS ρ m r t
def OUT (ρ : Riv) (r t : Nat) : Int64 := ouS ρ (rN ρ) r t
def INN (ρ : Riv) (r t : Nat) : Int64 := inn ρ (OUT ρ) r t
def STO (ρ : Riv) (r t : Nat) : Int64 := hlP (nI (rD ρ)) (rF ρ r 1) (rF ρ r 2) (rP ρ r) (INN ρ r) t
theorem inF_cong {ρ : Riv} {o o' : Nat → Nat → Int64} {r t : Nat} : ∀ (m : Nat), (∀ j, r < j → j ≤ r + m → o j t = o' j t) → inF ρ o r t m = inF ρ o' r t m
  | 0, _ => rfl
  | m + 1, h => by
    simp only [inF]
    rw [inF_cong m (fun j h1 h2 => h j h1 (by omega)), h (r + 1 + m) (by omega) (by omega)]
theorem inn_cong {ρ : Riv} {o o' : Nat → Nat → Int64} {r t : Nat} (h : ∀ j, r < j → j < rN ρ → o j t = o' j t) : inn ρ o r t = inn ρ o' r t := inF_cong _ (fun j h1 h2 => h j h1 (by omega))
theorem ouS_st (ρ : Riv) {m r : Nat} (h : rN ρ - m ≤ r) (hr : r < rN ρ) : ∀ (n : Nat), m + n ≤ rN ρ → ouS ρ (m + n) r = ouS ρ m r
  | 0, _ => rfl
  | n + 1, hn => by
    funext t
    show (if r = rN ρ - 1 - (m + n) then _ else ouS ρ (m + n) r t) = _
    rw [if_neg (by omega), ouS_st ρ h hr n (by omega)]
theorem OUT_eq (ρ : Riv) {r : Nat} (hr : r < rN ρ) (t : Nat) : OUT ρ r t = flP (nI (rD ρ)) (rF ρ r 1) (rF ρ r 2) (rP ρ r) (INN ρ r) t := by
  have e : OUT ρ r = ouS ρ (rN ρ - 1 - r + 1) r := by
    have := ouS_st ρ (m := rN ρ - 1 - r + 1) (r := r) (by omega) hr r (by omega)
    rw [← this]
    show ouS ρ (rN ρ) r = _
    congr 1
    omega
  rw [e]
  show (if r = rN ρ - 1 - (rN ρ - 1 - r) then _ else _) = _
  rw [if_pos (by omega)]
  apply flP_cong
  intro j _
  apply inn_cong
  intro i h1 h2
  have := ouS_st ρ (m := rN ρ - 1 - r) (r := i) (by omega) h2 (r + 1) (by omega)
  have e2 : rN ρ - 1 - r + (r + 1) = rN ρ := by omega
  rw [e2] at this
  show _ = ouS ρ (rN ρ) i j
  rw [this]
theorem wM_nI {d k x : Nat} (hd : d ≤ 9) (hk : k ≤ 20) (hx : x ≤ 10) : wM (nI d) (nI k) (nI x) = nI (20 * k - k * x + 10 * d) := by
  have h1 : k * x ≤ 20 * k := by rw [Nat.mul_comm]; exact Nat.mul_le_mul_right k (by omega)
  unfold wM
  rw [show (20 : Int32) = nI 20 from rfl, show (10 : Int32) = nI 10 from rfl, pk_mul, pk_mul, pk_mul, pk_sub h1, nI_add]
theorem nI_64 {n : Nat} (h : n < 2 ^ 31) : (nI n).toInt64 = lN n := nI_l h
theorem lN_pos {n : Nat} (h0 : 0 < n) (h : n < 2 ^ 31) : 0 < lN n := by
  have := (pk_lLT (a := 0) (b := n) (by omega) (by omega)).mpr h0
  exact this
theorem wM_pos {d k x : Nat} (h1 : 1 ≤ d) (hd : d ≤ 9) (hk : k ≤ 20) (hx : x ≤ 10) : 0 < (wM (nI d) (nI k) (nI x)).toInt64 := by
  have h2 : 20 * k - k * x ≤ 400 := by omega
  rw [wM_nI hd hk hx, nI_64 (by omega)]
  exact lN_pos (by omega) (by omega)
theorem wM_ok {ρ : Riv} (hv : rVal ρ) (hb : rBd ρ) {r : Nat} (hr : r < rN ρ) : 0 < (wM (nI (rD ρ)) (rF ρ r 1) (rF ρ r 2)).toInt64 := by
  obtain ⟨-, ⟨k, hk, e1⟩, ⟨x, hx, e2⟩, -⟩ := hv r hr
  rw [e1, e2]
  exact wM_pos hb.2.2.1 hb.2.2.2.1 hk hx
set_option maxRecDepth 100000 in
theorem lp_passReach2 (l : Launch) {G0 : PH} {h T D r q : Nat} {fi fo fs : Nat → Int64} {k x : Int32} (hT : T ≤ 24) (hr : r < 6) (hq : q ≤ 4) (hM : 0 < (wM (nI D) k x).toInt64) : ∀ (n : Nat) (G : PH) (i : Nat) (g1 g2 : Nat → Int64), q - i < n → i ≤ q → rout G h T D fi fo fs g1 g2 → (∀ j, j < T → g1 j = flP (nI D) k x i (fun t => fi (r * 24 + t)) j ∧ g2 j = hlP (nI D) k x i (fun t => fi (r * 24 + t)) j) → Fr G0 G h 11 → WP mX7_passReach l (rmM mX7_passReach 0 0) (ZM 0 0 (fun w G' => w = none ∧ (∃ g1 g2, rout G' h T D fi fo fs g1 g2 ∧ ∀ j, j < T → g1 j = flP (nI D) k x q (fun t => fi (r * 24 + t)) j ∧ g2 j = hlP (nI D) k x q (fun t => fi (r * 24 + t)) j) ∧ Fr G0 G' h 11)) XT 0 0 52 [some (.ref h), some (.int (nI r)), some (.int (nI q)), some (.int k), some (.int x), some (.int (nI i))] [] G := by
  intro n
  induction n with
  | zero => intro G  i  g1 g2 hn hi kr hg hF; exact absurd hn (Nat.not_lt_zero _)
  | succ n ih =>
    intro G  i  g1 g2 hn hi kr hg hF
    refine P_iload dX7_passReach_52 rfl ?_
    refine P_iload_n dX7_passReach_54 rfl ?_
    refine P_icmp_ge (tgt := 71) dX7_passReach_55 (by decide) (fun c55 => ?_) (fun c55 => ?_)
    · have hi2 : i = q := Nat.le_antisymm hi (Nat.not_lt.mp fun z => nI_ge z (by omega) c55)
      subst hi2
      exact P_vret dX7_passReach_71 rfl ⟨Nat.le_refl _, Nat.le_refl _⟩ ⟨rfl, ⟨g1, g2, kr, hg⟩, hF⟩
    · have hlt : i < q := Nat.not_le.mp fun z => c55 (nI_le z (by omega))
      refine P_aload_n dX7_passReach_58 rfl ?_
      refine P_iload_n dX7_passReach_59 rfl ?_
      refine P_iload dX7_passReach_60 rfl ?_
      refine P_callV dX7_passReach_62 lkX7_72 okX7_passPart ⟨Nat.le_of_ble_eq_true rfl, Nat.le_of_ble_eq_true rfl⟩ (t_passPart l kr hT hM) rfl rfl kr.1 (Nat.le_of_ble_eq_true rfl) ⟨Nat.le_of_ble_eq_true rfl, Nat.le_of_ble_eq_true rfl⟩ (fun v62 G62 q62 => ?_)
      obtain ⟨rfl, ⟨g3, g4, kr2, hg2⟩, hF2⟩ := q62
      refine P_iinc (L' := [_, _, _, _, _, _]) dX7_passReach_65 rfl (ii_1 _) (Nat.le_of_ble_eq_true rfl) rfl ?_
      rw [nI_1]
      refine P_goto (tgt := 52) dX7_passReach_68 (by decide) ?_
      refine ih G62 (i + 1) g3 g4 (by omega) hlt kr2 (fun j hj => ?_) (hF.tr hF2)
      rw [(hg2 j hj).1, (hg2 j hj).2]
      exact ⟨oP_cong (fun a ha => (hg a (by omega)).1), hP_cong (fun a ha => (hg a (by omega)).1) (hg j hj).2⟩
set_option maxRecDepth 100000 in
theorem lp_passReach1 (l : Launch) {G0 : PH} {h T D r q : Nat} {fi fo fs : Nat → Int64} {k x : Int32} (hT : T ≤ 24) (hr : r < 6) (hq : q ≤ 4) (hM : 0 < (wM (nI D) k x).toInt64) : ∀ (n : Nat) (G : PH) (t : Nat) (g1 g2 : Nat → Int64), T - t < n → t ≤ T → rout G h T D fi fo fs g1 g2 → (∀ j, j < t → g1 j = fi (r * 24 + j) ∧ g2 j = 0) → Fr G0 G h 11 → WP mX7_passReach l (rmM mX7_passReach 0 0) (ZM 0 0 (fun w G' => w = none ∧ (∃ g1 g2, rout G' h T D fi fo fs g1 g2 ∧ ∀ j, j < T → g1 j = flP (nI D) k x q (fun t => fi (r * 24 + t)) j ∧ g2 j = hlP (nI D) k x q (fun t => fi (r * 24 + t)) j) ∧ Fr G0 G' h 11)) XT 0 0 3 [some (.ref h), some (.int (nI r)), some (.int (nI q)), some (.int k), some (.int x), some (.int (nI t))] [] G := by
  intro n
  induction n with
  | zero => intro G  t  g1 g2 hn ht kr hg hF; exact absurd hn (Nat.not_lt_zero _)
  | succ n ih =>
    intro G  t  g1 g2 hn ht kr hg hF
    refine P_iload dX7_passReach_3 rfl ?_
    refine P_aload_n dX7_passReach_5 rfl ?_
    refine P_get dX7_passReach_6 flX7_32 kr.1 rfl ?_
    refine P_icmp_ge (tgt := 49) dX7_passReach_9 (by decide) (fun c9 => ?_) (fun c9 => ?_)
    · have hi2 : t = T := Nat.le_antisymm ht (Nat.not_lt.mp fun z => nI_ge z (by omega) c9)
      subst hi2
      refine P_iconst dX7_passReach_49 ci_0 ?_
      refine P_istore (L' := [_, _, _, _, _, _]) dX7_passReach_50 (Nat.le_of_ble_eq_true rfl) rfl ?_
      exact lp_passReach2 l hT hr hq hM (q + 1) G 0 g1 g2 (by omega) (Nat.zero_le _) kr hg hF
    · have hlt : t < T := Nat.not_le.mp fun z => c9 (nI_le z (by omega))
      refine P_aload_n dX7_passReach_12 rfl ?_
      refine P_get dX7_passReach_13 flX7_26 kr.1 rfl ?_
      refine P_iconst dX7_passReach_16 ci_0 ?_
      refine P_iload dX7_passReach_17 rfl ?_
      refine P_aload_n dX7_passReach_19 rfl ?_
      refine P_get dX7_passReach_20 flX7_14 kr.1 rfl ?_
      refine P_iload_n dX7_passReach_23 rfl ?_
      refine P_iload dX7_passReach_24 rfl ?_
      refine P_callVp dX7_passReach_26 lkX7_61 okX1_at ⟨Nat.le_of_ble_eq_true rfl, Nat.le_of_ble_eq_true rfl⟩ (t_at l kr.2.1 hr (Nat.lt_of_lt_of_le hlt hT)) rfl rfl kr.2.1.1 (Nat.le_of_ble_eq_true rfl) ⟨Nat.le_of_ble_eq_true rfl, Nat.le_of_ble_eq_true rfl⟩ ?_
      refine P_callV dX7_passReach_29 lkX7_65 okX1_put ⟨Nat.le_of_ble_eq_true rfl, Nat.le_of_ble_eq_true rfl⟩ (t_put0 l kr.2.2.2.2.1 (by decide) (Nat.lt_of_lt_of_le hlt hT)) rfl rfl kr.2.2.2.2.1.1 (Nat.le_of_ble_eq_true rfl) ⟨Nat.le_of_ble_eq_true rfl, Nat.le_of_ble_eq_true rfl⟩ (fun v29 G29 q29 => ?_)
      obtain ⟨rfl, kc1, hF1⟩ := q29
      have kr1 := kr.lv hF1 kc1
      refine P_aload_n dX7_passReach_32 rfl ?_
      refine P_get dX7_passReach_33 flX7_29 kr1.1 rfl ?_
      refine P_iconst dX7_passReach_36 ci_0 ?_
      refine P_iload dX7_passReach_37 rfl ?_
      refine P_lconst dX7_passReach_39 lc_0 ?_
      refine P_callV dX7_passReach_40 lkX7_65 okX1_put ⟨Nat.le_of_ble_eq_true rfl, Nat.le_of_ble_eq_true rfl⟩ (t_put0 l kr1.2.2.2.2.2 (by decide) (Nat.lt_of_lt_of_le hlt hT)) rfl rfl kr1.2.2.2.2.2.1 (Nat.le_of_ble_eq_true rfl) ⟨Nat.le_of_ble_eq_true rfl, Nat.le_of_ble_eq_true rfl⟩ (fun v40 G40 q40 => ?_)
      obtain ⟨rfl, kc2, hF2⟩ := q40
      have kr2 := kr1.hd hF2 kc2
      refine P_iinc (L' := [_, _, _, _, _, _]) dX7_passReach_43 rfl (ii_1 _) (Nat.le_of_ble_eq_true rfl) rfl ?_
      rw [nI_1]
      refine P_goto (tgt := 3) dX7_passReach_46 (by decide) ?_
      refine ih G40 (t + 1) _ _ (by omega) (by omega) kr2 (fun j hj => ?_) (hF.tr ((hF1.wide (by omega) (by omega)).tr (hF2.wide (by omega) (by omega))))
      by_cases e : j = t
      · subst e; rw [pk_uLs, pk_uLs]; exact ⟨rfl, rfl⟩
      · rw [pk_uLn e, pk_uLn e]; exact hg j (by omega)
theorem t_passReach (l : Launch) {G : PH} {h T D r q : Nat} {fi fo fs fl fh : Nat → Int64} {k x : Int32} (kr : rout G h T D fi fo fs fl fh) (hT : T ≤ 24) (hr : r < 6) (hq : q ≤ 4) (hM : 0 < (wM (nI D) k x).toInt64) : Tri l mX7_passReach 0 0 [.ref h, .int (nI r), .int (nI q), .int k, .int x] G (fun w G' => w = none ∧ (∃ g1 g2, rout G' h T D fi fo fs g1 g2 ∧ ∀ j, j < T → g1 j = flP (nI D) k x q (fun t => fi (r * 24 + t)) j ∧ g2 j = hlP (nI D) k x q (fun t => fi (r * 24 + t)) j) ∧ Fr G G' h 11) := by
  refine Tri.intro (L := [_, _, _, _, _, _]) okX7_passReach.1 (Nat.le_of_ble_eq_true rfl) rfl ?_
  refine P_iconst dX7_passReach_0 ci_0 ?_
  refine P_istore (L' := [_, _, _, _, _, _]) dX7_passReach_1 (Nat.le_of_ble_eq_true rfl) rfl ?_
  exact lp_passReach1 l hT hr hq hM (T + 1) G 0 fl fh (by omega) (Nat.zero_le _) kr (fun j hj => absurd hj (Nat.not_lt_zero _)) Fr.rf
set_option maxRecDepth 100000 in
theorem lp_gather1 (l : Launch) {h hr0 D r t : Nat} {gi fo fs fl fh : Nat → Int64} {ρ : Riv} {Z : PZ} {G : PH} (hR : isRiver G hr0 ρ) (kr : rout G h (rT ρ) D gi fo fs fl fh) (hr : r < rN ρ) (ht : t < rT ρ) (hk : WP mX7_gatherIn l (rmM mX7_gatherIn 0 0) Z XT 0 0 65 [some (.ref h), some (.ref hr0), some (.int (nI r)), some (.int (nI t)), some (.long (inn ρ (fun a b => fo (a * 24 + b)) r t)), none, none] [] G) : ∀ (n : Nat) (m : Nat), rN ρ - (r + 1 + m) < n → r + 1 + m ≤ rN ρ → WP mX7_gatherIn l (rmM mX7_gatherIn 0 0) Z XT 0 0 24 [some (.ref h), some (.ref hr0), some (.int (nI r)), some (.int (nI t)), some (.long (inF ρ (fun a b => fo (a * 24 + b)) r t m)), none, some (.int (nI (r + 1 + m)))] [] G := by
  intro n
  induction n with
  | zero => intro m hn hm; exact absurd hn (Nat.not_lt_zero _)
  | succ n ih =>
    intro m hn hm
    have hb := hR.bd; have hN : rN ρ ≤ 6 := hb.2.2.2.2; have hT : rT ρ ≤ 24 := hb.2.1
    refine P_iload dX7_gatherIn_24 rfl ?_
    refine P_aload_n dX7_gatherIn_26 rfl ?_
    refine P_callVp dX7_gatherIn_27 lkX7_46 okX6_reachCount ⟨Nat.le_of_ble_eq_true rfl, Nat.le_of_ble_eq_true rfl⟩ (t_reachCount l hR) rfl rfl hR.at (Nat.le_of_ble_eq_true rfl) ⟨Nat.le_of_ble_eq_true rfl, Nat.le_of_ble_eq_true rfl⟩ ?_
    refine P_icmp_ge (tgt := 65) dX7_gatherIn_30 (by decide) (fun c30 => ?_) (fun c30 => ?_)
    · have hi2 : m = rN ρ - (r + 1) := by have := Nat.not_lt.mp fun q : r + 1 + m < rN ρ => nI_ge q (by omega) c30; omega
      subst hi2
      exact P_loc (by simp only [subL, List.head?_cons, List.tail_cons]; and_intros <;> first | rfl | trivial) hk
    · have hlt : r + 1 + m < rN ρ := Nat.not_le.mp fun q => c30 (nI_le q (by omega))
      refine P_aload_n dX7_gatherIn_33 rfl ?_
      refine P_iload dX7_gatherIn_34 rfl ?_
      refine P_iconst dX7_gatherIn_36 ci_0 ?_
      refine P_callVp dX7_gatherIn_37 lkX7_53 okX6_featureOf ⟨Nat.le_of_ble_eq_true rfl, Nat.le_of_ble_eq_true rfl⟩ (t_featureOf l 0 hR hlt (by decide)) rfl rfl hR.at (Nat.le_of_ble_eq_true rfl) ⟨Nat.le_of_ble_eq_true rfl, Nat.le_of_ble_eq_true rfl⟩ ?_
      refine P_iload_n dX7_gatherIn_40 rfl ?_
      refine P_icmp_ne (tgt := 59) dX7_gatherIn_41 (by decide) (fun c41 => ?_) (fun c41 => ?_)
      · have e2 : inF ρ (fun a b => fo (a * 24 + b)) r t m = inF ρ (fun a b => fo (a * 24 + b)) r t (m + 1) := by simp only [inF]; rw [if_neg c41]; simp
        rw [e2]
        refine P_iinc (L' := [_, _, _, _, _, _, _]) dX7_gatherIn_59 rfl (ii_1 _) (Nat.le_of_ble_eq_true rfl) rfl ?_
        rw [nI_1, Nat.add_assoc]
        refine P_goto (tgt := 24) dX7_gatherIn_62 (by decide) ?_
        exact ih (m + 1) (by omega) (by omega)
      · refine P_lload dX7_gatherIn_44 rfl ?_
        refine P_aload_n dX7_gatherIn_46 rfl ?_
        refine P_get dX7_gatherIn_47 flX7_20 kr.1 rfl ?_
        refine P_iload dX7_gatherIn_50 rfl ?_
        refine P_iload_n dX7_gatherIn_52 rfl ?_
        refine P_callVp dX7_gatherIn_53 lkX7_61 okX1_at ⟨Nat.le_of_ble_eq_true rfl, Nat.le_of_ble_eq_true rfl⟩ (t_at l kr.2.2.1 (by omega) (by omega)) rfl rfl kr.2.2.1.1 (Nat.le_of_ble_eq_true rfl) ⟨Nat.le_of_ble_eq_true rfl, Nat.le_of_ble_eq_true rfl⟩ ?_
        refine P_ladd dX7_gatherIn_56 ?_
        rw [show inF ρ (fun a b => fo (a * 24 + b)) r t m + fo ((r + 1 + m) * 24 + t) = inF ρ (fun a b => fo (a * 24 + b)) r t (m + 1) by simp only [inF]; rw [if_pos c41]]
        refine P_lstore (L' := [_, _, _, _, _, _, _]) dX7_gatherIn_57 (Nat.le_of_ble_eq_true rfl) rfl ?_
        refine P_iinc (L' := [_, _, _, _, _, _, _]) dX7_gatherIn_59 rfl (ii_1 _) (Nat.le_of_ble_eq_true rfl) rfl ?_
        rw [nI_1, Nat.add_assoc]
        refine P_goto (tgt := 24) dX7_gatherIn_62 (by decide) ?_
        exact ih (m + 1) (by omega) (by omega)
set_option maxRecDepth 100000 in
theorem lp_gather (l : Launch) {G0 : PH} {h hr0 D r : Nat} {fi fo fs fl fh : Nat → Int64} {ρ : Riv} (hd : hr0 + 7 ≤ h ∨ h + 11 ≤ hr0) (hr : r < rN ρ) : ∀ (n : Nat) (G : PH) (t : Nat) (gi : Nat → Int64), rT ρ - t < n → t ≤ rT ρ → isRiver G hr0 ρ → rout G h (rT ρ) D gi fo fs fl fh → (∀ j, j < t → gi (r * 24 + j) = inn ρ (fun a b => fo (a * 24 + b)) r j) → (∀ j, j < r * 24 ∨ (r + 1) * 24 ≤ j → gi j = fi j) → Fr G0 G h 11 → WP mX7_gatherIn l (rmM mX7_gatherIn 0 0) (ZM 0 0 (fun w G' => w = none ∧ (∃ gi, rout G' h (rT ρ) D gi fo fs fl fh ∧ (∀ j, j < rT ρ → gi (r * 24 + j) = inn ρ (fun a b => fo (a * 24 + b)) r j) ∧ ∀ j, j < r * 24 ∨ (r + 1) * 24 ≤ j → gi j = fi j) ∧ Fr G0 G' h 11)) XT 0 0 2 [some (.ref h), some (.ref hr0), some (.int (nI r)), some (.int (nI t)), none, none, none] [] G := by
  intro n
  induction n with
  | zero => intro G  t  gi hn ht hR kr hg ho hF; exact absurd hn (Nat.not_lt_zero _)
  | succ n ih =>
    intro G  t  gi hn ht hR kr hg ho hF
    have hb := hR.bd; have hN : rN ρ ≤ 6 := hb.2.2.2.2; have hT : rT ρ ≤ 24 := hb.2.1
    refine P_iload_n dX7_gatherIn_2 rfl ?_
    refine P_aload_n dX7_gatherIn_3 rfl ?_
    refine P_get dX7_gatherIn_4 flX7_32 kr.1 rfl ?_
    refine P_icmp_ge (tgt := 82) dX7_gatherIn_7 (by decide) (fun c7 => ?_) (fun c7 => ?_)
    · have hi2 : t = rT ρ := Nat.le_antisymm ht (Nat.not_lt.mp fun z => nI_ge z (by omega) c7)
      subst hi2
      exact P_vret dX7_gatherIn_82 rfl ⟨Nat.le_refl _, Nat.le_refl _⟩ ⟨rfl, ⟨gi, kr, hg, ho⟩, hF⟩
    · have hlt : t < rT ρ := Nat.not_le.mp fun z => c7 (nI_le z (by omega))
      refine P_aload_n dX7_gatherIn_10 rfl ?_
      refine P_iload_n dX7_gatherIn_11 rfl ?_
      refine P_iload_n dX7_gatherIn_12 rfl ?_
      refine P_callVp dX7_gatherIn_13 lkX7_69 okX6_sideAt ⟨Nat.le_of_ble_eq_true rfl, Nat.le_of_ble_eq_true rfl⟩ (t_sideAt l hR hr (by omega)) rfl rfl hR.at (Nat.le_of_ble_eq_true rfl) ⟨Nat.le_of_ble_eq_true rfl, Nat.le_of_ble_eq_true rfl⟩ ?_
      refine P_i2l dX7_gatherIn_16 ?_
      refine P_lstore (L' := [_, _, _, _, _, _, _]) dX7_gatherIn_17 (Nat.le_of_ble_eq_true rfl) rfl ?_
      refine P_iload_n dX7_gatherIn_19 rfl ?_
      refine P_iconst dX7_gatherIn_20 ci_1 ?_
      refine P_iadd dX7_gatherIn_21 ?_
      rw [nI_1]
      refine P_istore (L' := [_, _, _, _, _, _, _]) dX7_gatherIn_22 (Nat.le_of_ble_eq_true rfl) rfl ?_
      refine lp_gather1 l hR kr hr hlt ?_ (rN ρ + 1) 0 (by omega) (by omega)
      refine P_aload_n dX7_gatherIn_65 rfl ?_
      refine P_get dX7_gatherIn_66 flX7_14 kr.1 rfl ?_
      refine P_iload_n dX7_gatherIn_69 rfl ?_
      refine P_iload_n dX7_gatherIn_70 rfl ?_
      refine P_lload dX7_gatherIn_71 rfl ?_
      refine P_callV dX7_gatherIn_73 lkX7_65 okX1_put ⟨Nat.le_of_ble_eq_true rfl, Nat.le_of_ble_eq_true rfl⟩ (t_put l kr.2.1 (by omega) (by omega)) rfl rfl kr.2.1.1 (Nat.le_of_ble_eq_true rfl) ⟨Nat.le_of_ble_eq_true rfl, Nat.le_of_ble_eq_true rfl⟩ (fun v73 G73 q73 => ?_)
      obtain ⟨rfl, kc1, hF1⟩ := q73
      have kr1 := kr.ins hF1 kc1
      refine P_iinc (L' := [_, _, _, _, _, _, _]) dX7_gatherIn_76 rfl (ii_1 _) (Nat.le_of_ble_eq_true rfl) rfl ?_
      rw [nI_1]
      refine P_goto (tgt := 2) dX7_gatherIn_79 (by decide) ?_
      refine P_loc ?_ (ih G73 (t + 1) _ (by omega) hlt (hR.fr hF1 (by omega)) kr1 (fun j hj => ?_) (fun j hj => ?_) (hF.tr (hF1.wide (by omega) (by omega))))
      · simp only [subL, List.head?_cons, List.tail_cons]; and_intros <;> first | rfl | trivial
      · by_cases e : j = t
        · subst e; rw [pk_uLs]
        · rw [pk_uLn (by omega)]; exact hg j (by omega)
      · rw [pk_uLn (by omega)]; exact ho j hj
theorem t_gather (l : Launch) {G : PH} {h hr0 D r : Nat} {fi fo fs fl fh : Nat → Int64} {ρ : Riv} (hR : isRiver G hr0 ρ) (kr : rout G h (rT ρ) D fi fo fs fl fh) (hd : hr0 + 7 ≤ h ∨ h + 11 ≤ hr0) (hr : r < rN ρ) : Tri l mX7_gatherIn 0 0 [.ref h, .ref hr0, .int (nI r)] G (fun w G' => w = none ∧ (∃ gi, rout G' h (rT ρ) D gi fo fs fl fh ∧ (∀ j, j < rT ρ → gi (r * 24 + j) = inn ρ (fun a b => fo (a * 24 + b)) r j) ∧ ∀ j, j < r * 24 ∨ (r + 1) * 24 ≤ j → gi j = fi j) ∧ Fr G G' h 11) := by
  refine Tri.intro (L := [_, _, _, _, _, _, _]) okX7_gatherIn.1 (Nat.le_of_ble_eq_true rfl) rfl ?_
  refine P_iconst dX7_gatherIn_0 ci_0 ?_
  refine P_istore_n (L' := [_, _, _, _, _, _, _]) dX7_gatherIn_1 (Nat.le_of_ble_eq_true rfl) rfl ?_
  exact lp_gather l hd hr (rT ρ + 1) G 0 fi (by omega) (Nat.zero_le _) hR kr (fun j hj => absurd hj (Nat.not_lt_zero _)) (fun _ _ => rfl) Fr.rf
/-- the Routing has run through the river -/
def ranF (ρ : Riv) (i : Nat) (fi fo fs : Nat → Int64) : Prop := ∀ r, i ≤ r → r < rN ρ → ∀ t, t < rT ρ → fi (r * 24 + t) = INN ρ r t ∧ fo (r * 24 + t) = OUT ρ r t ∧ fs (r * 24 + t) = STO ρ r t
def ran (G : PH) (h : Nat) (ρ : Riv) : Prop := ∃ fi fo fs fl fh, rout G h (rT ρ) (rD ρ) fi fo fs fl fh ∧ ranF ρ 0 fi fo fs
set_option maxRecDepth 100000 in
theorem lp_run2 (l : Launch) {G0 : PH} {h hr0 r : Nat} {fi fl fh fo0 fs0 : Nat → Int64} {ρ : Riv} (hb : rBd ρ) (hr : r < rN ρ) (hl : ∀ j, j < rT ρ → fl j = OUT ρ r j ∧ fh j = STO ρ r j) {Z : PZ} (hk : ∀ (G : PH) (fo fs : Nat → Int64), rout G h (rT ρ) (rD ρ) fi fo fs fl fh → (∀ j, j < rT ρ → fo (r * 24 + j) = OUT ρ r j ∧ fs (r * 24 + j) = STO ρ r j) → (∀ j, (r + 1) * 24 ≤ j → fo j = fo0 j ∧ fs j = fs0 j) → Fr G0 G h 11 → WP mX7_runAll l (rmM mX7_runAll 0 0) Z XT 0 0 108 [some (.ref h), some (.ref hr0), some (.int (nI r)), none] [] G) : ∀ (n : Nat) (G : PH) (t : Nat) (fo fs : Nat → Int64), rT ρ - t < n → t ≤ rT ρ → rout G h (rT ρ) (rD ρ) fi fo fs fl fh → (∀ j, j < t → fo (r * 24 + j) = OUT ρ r j ∧ fs (r * 24 + j) = STO ρ r j) → (∀ j, (r + 1) * 24 ≤ j → fo j = fo0 j ∧ fs j = fs0 j) → Fr G0 G h 11 → WP mX7_runAll l (rmM mX7_runAll 0 0) Z XT 0 0 58 [some (.ref h), some (.ref hr0), some (.int (nI r)), some (.int (nI t))] [] G := by
  intro n
  induction n with
  | zero => intro G  t  fo fs hn ht kr hg ho hF; exact absurd hn (Nat.not_lt_zero _)
  | succ n ih =>
    intro G  t  fo fs hn ht kr hg ho hF
    have hN : rN ρ ≤ 6 := hb.2.2.2.2; have hT : rT ρ ≤ 24 := hb.2.1
    refine P_iload_n dX7_runAll_58 rfl ?_
    refine P_aload_n dX7_runAll_59 rfl ?_
    refine P_get dX7_runAll_60 flX7_32 kr.1 rfl ?_
    refine P_icmp_ge (tgt := 108) dX7_runAll_63 (by decide) (fun c63 => ?_) (fun c63 => ?_)
    · have hi2 : t = rT ρ := Nat.le_antisymm ht (Nat.not_lt.mp fun z => nI_ge z (by omega) c63)
      subst hi2
      exact P_loc (by simp only [subL, List.head?_cons, List.tail_cons]; and_intros <;> first | rfl | trivial) (hk G fo fs kr hg ho hF)
    · have hlt : t < rT ρ := Nat.not_le.mp fun z => c63 (nI_le z (by omega))
      refine P_aload_n dX7_runAll_66 rfl ?_
      refine P_get dX7_runAll_67 flX7_20 kr.1 rfl ?_
      refine P_iload_n dX7_runAll_70 rfl ?_
      refine P_iload_n dX7_runAll_71 rfl ?_
      refine P_aload_n dX7_runAll_72 rfl ?_
      refine P_get dX7_runAll_73 flX7_26 kr.1 rfl ?_
      refine P_iconst dX7_runAll_76 ci_0 ?_
      refine P_iload_n dX7_runAll_77 rfl ?_
      refine P_callVp dX7_runAll_78 lkX7_61 okX1_at ⟨Nat.le_of_ble_eq_true rfl, Nat.le_of_ble_eq_true rfl⟩ (t_at0 l kr.2.2.2.2.1 (by decide) (by omega)) rfl rfl kr.2.2.2.2.1.1 (Nat.le_of_ble_eq_true rfl) ⟨Nat.le_of_ble_eq_true rfl, Nat.le_of_ble_eq_true rfl⟩ ?_
      rw [(hl t hlt).1]
      refine P_callV dX7_runAll_81 lkX7_65 okX1_put ⟨Nat.le_of_ble_eq_true rfl, Nat.le_of_ble_eq_true rfl⟩ (t_put l kr.2.2.1 (by omega) (by omega)) rfl rfl kr.2.2.1.1 (Nat.le_of_ble_eq_true rfl) ⟨Nat.le_of_ble_eq_true rfl, Nat.le_of_ble_eq_true rfl⟩ (fun v81 G81 q81 => ?_)
      obtain ⟨rfl, kc1, hF1⟩ := q81
      have kr1 := kr.outs hF1 kc1
      refine P_aload_n dX7_runAll_84 rfl ?_
      refine P_get dX7_runAll_85 flX7_23 kr1.1 rfl ?_
      refine P_iload_n dX7_runAll_88 rfl ?_
      refine P_iload_n dX7_runAll_89 rfl ?_
      refine P_aload_n dX7_runAll_90 rfl ?_
      refine P_get dX7_runAll_91 flX7_29 kr1.1 rfl ?_
      refine P_iconst dX7_runAll_94 ci_0 ?_
      refine P_iload_n dX7_runAll_95 rfl ?_
      refine P_callVp dX7_runAll_96 lkX7_61 okX1_at ⟨Nat.le_of_ble_eq_true rfl, Nat.le_of_ble_eq_true rfl⟩ (t_at0 l kr1.2.2.2.2.2 (by decide) (by omega)) rfl rfl kr1.2.2.2.2.2.1 (Nat.le_of_ble_eq_true rfl) ⟨Nat.le_of_ble_eq_true rfl, Nat.le_of_ble_eq_true rfl⟩ ?_
      rw [(hl t hlt).2]
      refine P_callV dX7_runAll_99 lkX7_65 okX1_put ⟨Nat.le_of_ble_eq_true rfl, Nat.le_of_ble_eq_true rfl⟩ (t_put l kr1.2.2.2.1 (by omega) (by omega)) rfl rfl kr1.2.2.2.1.1 (Nat.le_of_ble_eq_true rfl) ⟨Nat.le_of_ble_eq_true rfl, Nat.le_of_ble_eq_true rfl⟩ (fun v99 G99 q99 => ?_)
      obtain ⟨rfl, kc2, hF2⟩ := q99
      have kr2 := kr1.sto hF2 kc2
      refine P_iinc (L' := [_, _, _, _]) dX7_runAll_102 rfl (ii_1 _) (Nat.le_of_ble_eq_true rfl) rfl ?_
      rw [nI_1]
      refine P_goto (tgt := 58) dX7_runAll_105 (by decide) ?_
      refine ih G99 (t + 1) _ _ (by omega) hlt kr2 (fun j hj => ?_) (fun j hj => ?_) (hF.tr ((hF1.wide (by omega) (by omega)).tr (hF2.wide (by omega) (by omega))))
      · by_cases e : j = t
        · subst e; rw [pk_uLs, pk_uLs]; exact ⟨rfl, rfl⟩
        · rw [pk_uLn (by omega), pk_uLn (by omega)]; exact hg j (by omega)
      · rw [pk_uLn (by omega), pk_uLn (by omega)]; exact ho j hj
set_option maxRecDepth 100000 in
theorem lp_run (l : Launch) {G0 : PH} {h hr0 : Nat} {ρ : Riv} (hR0 : isRiver G0 hr0 ρ) (hd : hr0 + 7 ≤ h ∨ h + 11 ≤ hr0) (hv : rVal ρ) (hb : rBd ρ) : ∀ (n : Nat) (G : PH) (i : Nat) (fi fo fs fl fh : Nat → Int64), i < n → i ≤ rN ρ → isRiver G hr0 ρ → rout G h (rT ρ) (rD ρ) fi fo fs fl fh → ranF ρ i fi fo fs → Fr G0 G h 11 → WP mX7_runAll l (rmM mX7_runAll 0 0) (ZM 0 0 (fun w G' => w = none ∧ ran G' h ρ ∧ Fr G0 G' h 11)) XT 0 0 23 [some (.ref h), some (.ref hr0), some (.int (nI i - 1)), none] [] G := by
  intro n
  induction n with
  | zero => intro G  i  fi fo fs fl fh hn hi hR kr hg hF; exact absurd hn (Nat.not_lt_zero _)
  | succ n ih =>
    intro G  i  fi fo fs fl fh hn hi hR kr hg hF
    have hN : rN ρ ≤ 6 := hb.2.2.2.2; have hT : rT ρ ≤ 24 := hb.2.1
    refine P_iload_n dX7_runAll_23 rfl ?_
    refine P_if_lt (tgt := 114) dX7_runAll_24 (by decide) (fun c24 => ?_) (fun c24 => ?_)
    · have hi0 : i = 0 := Classical.byContradiction fun q => by obtain ⟨u, rfl⟩ : ∃ u, i = u + 1 := ⟨i - 1, by omega⟩; rw [nI_pred] at c24; exact nI_pos (by omega) c24
      subst hi0
      exact P_vret dX7_runAll_114 rfl ⟨Nat.le_refl _, Nat.le_refl _⟩ ⟨rfl, ⟨fi, fo, fs, fl, fh, kr, hg⟩, hF⟩
    · obtain ⟨r, rfl⟩ : ∃ u, i = u + 1 := ⟨i - 1, by have : i ≠ 0 := fun q => c24 (by rw [q]; decide +kernel); omega⟩
      rw [nI_pred]
      have hr : r < rN ρ := hi
      refine P_aload_n dX7_runAll_27 rfl ?_
      refine P_aload_n dX7_runAll_28 rfl ?_
      refine P_iload_n dX7_runAll_29 rfl ?_
      refine P_callV dX7_runAll_30 lkX7_49 okX7_gatherIn ⟨Nat.le_of_ble_eq_true rfl, Nat.le_of_ble_eq_true rfl⟩ (t_gather l hR kr hd hr) rfl rfl kr.1 (Nat.le_of_ble_eq_true rfl) ⟨Nat.le_of_ble_eq_true rfl, Nat.le_of_ble_eq_true rfl⟩ (fun v30 G30 q30 => ?_)
      obtain ⟨rfl, ⟨gi, kr1, hgi, hgo⟩, hF1⟩ := q30
      have hR1 := hR.fr hF1 (by omega)
      obtain ⟨-, -, -, ⟨q0, -, hq4, eq0⟩, -⟩ := hv r hr
      refine P_aload_n dX7_runAll_33 rfl ?_
      refine P_iload_n dX7_runAll_34 rfl ?_
      refine P_aload_n dX7_runAll_35 rfl ?_
      refine P_iload_n dX7_runAll_36 rfl ?_
      refine P_iconst dX7_runAll_37 ci_3 ?_
      refine P_callVp dX7_runAll_38 lkX7_53 okX6_featureOf ⟨Nat.le_of_ble_eq_true rfl, Nat.le_of_ble_eq_true rfl⟩ (t_featureOf l 3 hR1 hr (by decide)) rfl rfl hR1.at (Nat.le_of_ble_eq_true rfl) ⟨Nat.le_of_ble_eq_true rfl, Nat.le_of_ble_eq_true rfl⟩ ?_
      refine P_aload_n dX7_runAll_41 rfl ?_
      refine P_iload_n dX7_runAll_42 rfl ?_
      refine P_iconst dX7_runAll_43 ci_1 ?_
      refine P_callVp dX7_runAll_44 lkX7_53 okX6_featureOf ⟨Nat.le_of_ble_eq_true rfl, Nat.le_of_ble_eq_true rfl⟩ (t_featureOf l 1 hR1 hr (by decide)) rfl rfl hR1.at (Nat.le_of_ble_eq_true rfl) ⟨Nat.le_of_ble_eq_true rfl, Nat.le_of_ble_eq_true rfl⟩ ?_
      refine P_aload_n dX7_runAll_47 rfl ?_
      refine P_iload_n dX7_runAll_48 rfl ?_
      refine P_iconst dX7_runAll_49 ci_2 ?_
      refine P_callVp dX7_runAll_50 lkX7_53 okX6_featureOf ⟨Nat.le_of_ble_eq_true rfl, Nat.le_of_ble_eq_true rfl⟩ (t_featureOf l 2 hR1 hr (by decide)) rfl rfl hR1.at (Nat.le_of_ble_eq_true rfl) ⟨Nat.le_of_ble_eq_true rfl, Nat.le_of_ble_eq_true rfl⟩ ?_
      rw [eq0]
      refine P_callV dX7_runAll_53 lkX7_57 okX7_passReach ⟨Nat.le_of_ble_eq_true rfl, Nat.le_of_ble_eq_true rfl⟩ (t_passReach l kr1 hT (by omega) hq4 (wM_ok hv hb hr)) rfl rfl kr1.1 (Nat.le_of_ble_eq_true rfl) ⟨Nat.le_of_ble_eq_true rfl, Nat.le_of_ble_eq_true rfl⟩ (fun v53 G53 q53 => ?_)
      obtain ⟨rfl, ⟨g1, g2, kr2, hg2⟩, hF2⟩ := q53
      have hR2 := hR1.fr hF2 (by omega)
      have hin : ∀ j, j < rT ρ → gi (r * 24 + j) = INN ρ r j := fun j hj => by rw [hgi j hj]; exact inn_cong (fun a h1 h2 => (hg a h1 h2 j hj).2.1)
      have hrP : rP ρ r = q0 := by show (rF ρ r 3).toNatClampNeg = q0; rw [eq0, nI_clamp (by omega)]
      have hl : ∀ j, j < rT ρ → g1 j = OUT ρ r j ∧ g2 j = STO ρ r j := fun j hj => by rw [(hg2 j hj).1, (hg2 j hj).2, OUT_eq ρ hr, hrP]; exact ⟨flP_cong q0 (fun a ha => hin a (by omega)), by show _ = hlP _ _ _ (rP ρ r) _ _; rw [hrP]; exact hlP_cong q0 (fun a ha => hin a (by omega))⟩
      refine P_iconst dX7_runAll_56 ci_0 ?_
      refine P_istore_n (L' := [_, _, _, _]) dX7_runAll_57 (Nat.le_of_ble_eq_true rfl) rfl ?_
      refine lp_run2 l (fo0 := fo) (fs0 := fs) (G0 := G0) hb hr hl ?_ (rT ρ + 1) G53 0 fo fs (by omega) (Nat.zero_le _) kr2 (fun j hj => absurd hj (Nat.not_lt_zero _)) (fun _ _ => ⟨rfl, rfl⟩) (hF.tr (hF1.tr hF2))
      intro G3 fo3 fs3 kr3 h3 h4 hF3
      refine P_iinc (L' := [_, _, _, _]) dX7_runAll_108 rfl (ii_m1 _) (Nat.le_of_ble_eq_true rfl) rfl ?_
      rw [show nI r + (-1) = nI r - 1 by rw [Int32.sub_eq_add_neg]]
      refine P_goto (tgt := 23) dX7_runAll_111 (by decide) ?_
      refine ih G3 r gi fo3 fs3 g1 g2 (by omega) (by omega) (hR0.fr hF3 (by omega)) kr3 (fun a h1 h2 j hj => ?_) hF3
      by_cases e : a = r
      · subst e; exact ⟨hin j hj, h3 j hj⟩
      · have := hg a (by omega) h2 j hj
        rw [hgo _ (by omega), (h4 _ (by omega)).1, (h4 _ (by omega)).2]; exact this
theorem t_runAll (l : Launch) {G : PH} {h hr0 T0 D0 : Nat} {fi fo fs fl fh : Nat → Int64} {ρ : Riv} (hR : isRiver G hr0 ρ) (kr : rout G h T0 D0 fi fo fs fl fh) (hd : hr0 + 7 ≤ h ∨ h + 11 ≤ hr0) (hv : rVal ρ) : Tri l mX7_runAll 0 0 [.ref h, .ref hr0] G (fun w G' => w = none ∧ ran G' h ρ ∧ Fr G G' h 11) := by
  have hb := hR.bd
  refine Tri.intro (L := [_, _, _, _]) okX7_runAll.1 (Nat.le_of_ble_eq_true rfl) rfl ?_
  refine P_aload_n dX7_runAll_0 rfl ?_
  refine P_aload_n dX7_runAll_1 rfl ?_
  refine P_callVp dX7_runAll_2 lkX7_39 okX6_timeCount ⟨Nat.le_of_ble_eq_true rfl, Nat.le_of_ble_eq_true rfl⟩ (t_timeCount l hR) rfl rfl hR.at (Nat.le_of_ble_eq_true rfl) ⟨Nat.le_of_ble_eq_true rfl, Nat.le_of_ble_eq_true rfl⟩ ?_
  refine P_putI dX7_runAll_5 flX7_32 kr.1 (Nat.le_of_ble_eq_true rfl) ?_
  have hFa : Fr G (G.set h (.inr (7, [.ref (h + 1), .ref (h + 3), .ref (h + 5), .ref (h + 7), .ref (h + 9), .int (nI (rT ρ)), .int (nI D0)]))) h 1 := Fr.set (by omega) (by omega)
  have hRa := hR.fr hFa (by omega)
  refine P_aload_n dX7_runAll_8 rfl ?_
  refine P_aload_n dX7_runAll_9 rfl ?_
  refine P_callVp dX7_runAll_10 lkX7_44 okX6_timeStep ⟨Nat.le_of_ble_eq_true rfl, Nat.le_of_ble_eq_true rfl⟩ (t_timeStep l hRa) rfl rfl hRa.at (Nat.le_of_ble_eq_true rfl) ⟨Nat.le_of_ble_eq_true rfl, Nat.le_of_ble_eq_true rfl⟩ ?_
  refine P_putI dX7_runAll_13 flX7_36 (set_at kr.1) (Nat.le_of_ble_eq_true rfl) ?_
  have hFb := hFa.tr (Fr.set (a := h) (n := 1) (i := h) (c := .inr (7, [.ref (h + 1), .ref (h + 3), .ref (h + 5), .ref (h + 7), .ref (h + 9), .int (nI (rT ρ)), .int (nI (rD ρ))])) (by omega) (by omega))
  have hRb := hR.fr hFb (by omega)
  have krb : rout _ h (rT ρ) (rD ρ) fi fo fs fl fh := ⟨set_at (set_at kr.1), kr.2.1.fr hFb (by omega), kr.2.2.1.fr hFb (by omega), kr.2.2.2.1.fr hFb (by omega), kr.2.2.2.2.1.fr hFb (by omega), kr.2.2.2.2.2.fr hFb (by omega)⟩
  refine P_aload_n dX7_runAll_16 rfl ?_
  refine P_callVp dX7_runAll_17 lkX7_46 okX6_reachCount ⟨Nat.le_of_ble_eq_true rfl, Nat.le_of_ble_eq_true rfl⟩ (t_reachCount l hRb) rfl rfl hRb.at (Nat.le_of_ble_eq_true rfl) ⟨Nat.le_of_ble_eq_true rfl, Nat.le_of_ble_eq_true rfl⟩ ?_
  refine P_iconst dX7_runAll_20 ci_1 ?_
  refine P_isub dX7_runAll_21 ?_
  refine P_istore_n (L' := [_, _, _, _]) dX7_runAll_22 (Nat.le_of_ble_eq_true rfl) rfl ?_
  exact lp_run l hR hd hv hb (rN ρ + 1) _ (rN ρ) fi fo fs fl fh (by omega) (Nat.le_refl _) hRb krb (fun r h1 h2 => absurd h2 (by omega)) (hFb.wide (by omega) (by omega))
