theorem q64_rem (x y : Int64) : (x - x / y * y).toInt = x.toInt.tmod y.toInt := by
  have e : (x % y).toInt = x.toInt.tmod y.toInt := Int64.toInt_mod x y
  have h1 := Int64.toInt_lt (x % y)
  have h2 := Int64.le_toInt (x % y)
  rw [e] at h1 h2
  have d : x.toInt.tmod y.toInt = x.toInt - y.toInt * x.toInt.tdiv y.toInt := Int.tmod_def _ _
  simp only [Int64.toInt_sub, Int64.toInt_mul, Int64.toInt_div, Int.bmod_mul_bmod, Int.sub_bmod_bmod]
  rw [Int.mul_comm (x.toInt.tdiv y.toInt), ← d]
  exact Int.bmod_eq_of_le (by omega) (by omega)
theorem s64_0 {a b : Int64} (h : a - b = 0) : a = b := by rw [Int64.sub_eq_iff_eq_add.mp h, Int64.zero_add]
theorem xneg {a m : Int64} (hm : 0 < m) : (a ^^^ m) < 0 ↔ a < 0 := by
  have e : m.toBitVec.msb = false := by
    have h := Int64.lt_iff_toInt_lt.mp hm
    have h0 : (0 : Int64).toInt = 0 := rfl
    rw [h0] at h
    rw [BitVec.msb_eq_toInt]
    exact decide_eq_false (by show ¬ m.toInt < 0; omega)
  have g : ∀ x : Int64, x < 0 ↔ x.toBitVec.msb = true := fun x => by
    rw [BitVec.msb_eq_toInt, Int64.lt_iff_toInt_lt]
    have h0 : (0 : Int64).toInt = 0 := rfl
    rw [h0, decide_eq_true_iff]
    exact Iff.rfl
  rw [g, g, Int64.toBitVec_xor, BitVec.msb_xor, e, Bool.xor_false]
theorem les_eq {a m : Int64} (hm : 0 < m) : (a - a / m * m < 0) ↔ ((a ^^^ m) < 0 ∧ ¬ a / m * m = a) := by
  have h0 : (0 : Int64).toInt = 0 := rfl
  have hm' := Int64.lt_iff_toInt_lt.mp hm
  rw [h0] at hm'
  rw [xneg hm, Int64.lt_iff_toInt_lt, Int64.lt_iff_toInt_lt, q64_rem, h0]
  constructor
  · intro h
    refine ⟨Int.not_le.mp fun z => absurd h (Int.not_lt.mpr (Int.tmod_nonneg _ z)), fun z => ?_⟩
    have : (a - a / m * m).toInt = 0 := by rw [z, Int64.sub_self]; rfl
    rw [q64_rem] at this
    omega
  · rintro ⟨h1, h2⟩
    have h3 : a.toInt.tmod m.toInt ≤ 0 := by
      have := Int.tmod_nonneg (a := -a.toInt) m.toInt (by omega)
      rw [Int.neg_tmod] at this
      omega
    have h4 : a.toInt.tmod m.toInt ≠ 0 := fun z => h2 (by
      have e : a - a / m * m = 0 := Int64.toInt_inj.mp (by rw [q64_rem, z]; rfl)
      exact (s64_0 e).symm)
    omega
theorem les_rest {a m : Int64} : a - m * jfd a m = jfm a m := by
  unfold jfd jfm
  by_cases h : (a ^^^ m) < 0 ∧ ¬ a / m * m = a
  · have h2 : (a ^^^ m) < 0 ∧ ¬ a - a / m * m = 0 := ⟨h.1, fun z => h.2 (s64_0 z).symm⟩
    rw [if_pos h, if_pos h2]
    generalize a / m = q
    grind
  · have h2 : ¬ ((a ^^^ m) < 0 ∧ ¬ a - a / m * m = 0) := fun z => h ⟨z.1, fun y => z.2 (by rw [y, Int64.sub_self])⟩
    rw [if_neg h, if_neg h2, Int64.mul_comm]
theorem sto_eq {k x : Nat} (hk : k ≤ 20) (hx : x ≤ 10) (h a b r : Int64) : h + ((nI k * nI x).toInt64 * a + (nI k * (20 - nI x)).toInt64 * b + r) = h + (nI k).toInt64 * ((nI x).toInt64 * a + (20 - nI x).toInt64 * b) + r := by
  have h1 : k * x ≤ 20 * x := Nat.mul_le_mul_right x hk
  have h2 : k * (20 - x) ≤ 20 * (20 - x) := Nat.mul_le_mul_right _ hk
  rw [show (20 : Int32) - nI x = nI (20 - x) from pk_sub (a := 20) (by omega), pk_mul, pk_mul, nI_64 (by omega), nI_64 (by omega), nI_64 (by omega), nI_64 (by omega), nI_64 (by omega)]
  have e1 : lN (k * x) = lN k * lN x := Int64.ofNat_mul k x
  have e2 : lN (k * (20 - x)) = lN k * lN (20 - x) := Int64.ofNat_mul k (20 - x)
  rw [e1, e2]
  generalize lN k = K
  generalize lN x = X
  generalize lN (20 - x) = Y
  grind
theorem m_lesser (l : Launch) {G : PH} {a m : Int64} (hm : 0 < m) : Tri l mX10_lesser 0 0 [.long a, .long m] G (fun w G' => w = some (.long (jfd a m)) ∧ G' = G) := by
  have hm0 : ¬ m = 0 := fun q => by rw [q] at hm; exact absurd hm (by decide)
  refine Tri.intro (L := [_, _, _, _, _, _]) okX10_lesser.1 (Nat.le_of_ble_eq_true rfl) rfl ?_
  refine P_lload_n dX10_lesser_0 rfl ?_
  refine P_lload_n dX10_lesser_1 rfl ?_
  refine P_ldiv dX10_lesser_2 hm0 ?_
  refine P_lstore (L' := [_, _, _, _, _, _]) dX10_lesser_3 (Nat.le_of_ble_eq_true rfl) rfl ?_
  refine P_lload_n dX10_lesser_5 rfl ?_
  refine P_lload_n dX10_lesser_6 rfl ?_
  refine P_lrem dX10_lesser_7 hm0 ?_
  refine P_lconst dX10_lesser_8 lc_0 ?_
  refine P_lcmp dX10_lesser_9 ?_
  refine P_if_ge (tgt := 20) dX10_lesser_10 (by decide) (fun c10 => ?_) (fun c10 => ?_)
  · rw [lg_cmp_ge] at c10
    have hc : ¬ ((a ^^^ m) < 0 ∧ ¬ a / m * m = a) := fun z => absurd ((les_eq hm).mpr z) (Int64.not_lt.mpr c10)
    refine P_lload dX10_lesser_20 rfl ?_
    exact P_lret dX10_lesser_22 rfl ⟨Nat.le_refl _, Nat.le_refl _⟩ ⟨by unfold jfd; first | rw [if_pos hc] | rw [if_neg hc], rfl⟩
  · rw [lg_cmp_ge] at c10
    have hc := (les_eq hm).mp (Int64.not_le.mp c10)
    refine P_lload dX10_lesser_13 rfl ?_
    refine P_lconst dX10_lesser_15 lc_1 ?_
    refine P_lsub dX10_lesser_16 ?_
    refine P_goto (tgt := 22) dX10_lesser_17 (by decide) ?_
    exact P_lret dX10_lesser_22 rfl ⟨Nat.le_refl _, Nat.le_refl _⟩ ⟨by unfold jfd; first | rw [if_pos hc] | rw [if_neg hc], rfl⟩
/-- the arrays of flows: ins, outs, stored, into, outOf -/
def mfl (G : PH) (fi fo fs fa fb : Nat → Int64) : Prop := G[173]? = some (aJ 144 fi) ∧ G[174]? = some (aJ 144 fo) ∧ G[175]? = some (aJ 144 fs) ∧ G[176]? = some (aJ 24 fa) ∧ G[177]? = some (aJ 24 fb)
theorem mfl.fr {G G' : PH} {fi fo fs fa fb : Nat → Int64} {a n : Nat} (k : mfl G fi fo fs fa fb) (hF : Fr G G' a n) (hd : 178 ≤ a ∨ a + n ≤ 173) : mfl G' fi fo fs fa fb := ⟨hF.at k.1 (by omega), hF.at k.2.1 (by omega), hF.at k.2.2.1 (by omega), hF.at k.2.2.2.1 (by omega), hF.at k.2.2.2.2 (by omega)⟩
theorem mfl.si {G : PH} {fi fo fs fa fb g : Nat → Int64} (k : mfl G fi fo fs fa fb) : mfl (G.set 173 (aJ 144 g)) g fo fs fa fb := ⟨set_at k.1, set_ne k.2.1 (by decide), set_ne k.2.2.1 (by decide), set_ne k.2.2.2.1 (by decide), set_ne k.2.2.2.2 (by decide)⟩
theorem mfl.so {G : PH} {fi fo fs fa fb g : Nat → Int64} (k : mfl G fi fo fs fa fb) : mfl (G.set 174 (aJ 144 g)) fi g fs fa fb := ⟨set_ne k.1 (by decide), set_at k.2.1, set_ne k.2.2.1 (by decide), set_ne k.2.2.2.1 (by decide), set_ne k.2.2.2.2 (by decide)⟩
theorem mfl.ss {G : PH} {fi fo fs fa fb g : Nat → Int64} (k : mfl G fi fo fs fa fb) : mfl (G.set 175 (aJ 144 g)) fi fo g fa fb := ⟨set_ne k.1 (by decide), set_ne k.2.1 (by decide), set_at k.2.2.1, set_ne k.2.2.2.1 (by decide), set_ne k.2.2.2.2 (by decide)⟩
theorem mfl.sa {G : PH} {fi fo fs fa fb g : Nat → Int64} (k : mfl G fi fo fs fa fb) : mfl (G.set 176 (aJ 24 g)) fi fo fs g fb := ⟨set_ne k.1 (by decide), set_ne k.2.1 (by decide), set_ne k.2.2.1 (by decide), set_at k.2.2.2.1, set_ne k.2.2.2.2 (by decide)⟩
theorem mfl.sb {G : PH} {fi fo fs fa fb g : Nat → Int64} (k : mfl G fi fo fs fa fb) : mfl (G.set 177 (aJ 24 g)) fi fo fs fa g := ⟨set_ne k.1 (by decide), set_ne k.2.1 (by decide), set_ne k.2.2.1 (by decide), set_ne k.2.2.2.1 (by decide), set_at k.2.2.2.2⟩
/-- object and state of the plain form, as far as flows go -/
def mst (G : PH) (o : MV) (f : Nat → Int32) (ρ : Riv) : Prop := G[164]? = some (oM o) ∧ G[165]? = some (aI 315 f) ∧ rRow ρ f ∧ rBd ρ
theorem mst.fr {G G' : PH} {o : MV} {f : Nat → Int32} {ρ : Riv} {a n : Nat} (k : mst G o f ρ) (hF : Fr G G' a n) (hd : 166 ≤ a ∨ a + n ≤ 164) : mst G' o f ρ := ⟨hF.at k.1 (by omega), hF.at k.2.1 (by omega), k.2.2⟩
theorem fr5 {G : PH} {i : Nat} {c : PCell} (h1 : 173 ≤ i) (h2 : i < 178) : Fr G (G.set i c) 173 5 := Fr.set (by omega) (by omega)
set_option maxHeartbeats 4000000 in
set_option maxRecDepth 100000 in
theorem lp_flowsPart (l : Launch) {G0 : PH} {o : MV} {f : Nat → Int32} {ρ : Riv} {r k x : Nat} {fi fo fs fa : Nat → Int64} (hr : r < 6) (hk2 : k ≤ 20) (hx2 : x ≤ 10) (hT : rT ρ ≤ 24) (hM : 0 < (wM (nI (rD ρ)) (nI k) (nI x)).toInt64) : ∀ (n : Nat) (G : PH) (t : Nat) (fs1 fb : Nat → Int64), rT ρ - t < n → t ≤ rT ρ → mst G o f ρ → mfl G fi fo fs1 fa fb → (∀ j, j < t → fb j = oP (nI (rD ρ)) (nI k) (nI x) fa j) → (∀ j, j < t → fs1 (24 * r + j) = hP (nI (rD ρ)) (nI k) (nI x) fa j (fs (24 * r + j))) → (∀ j, j < 24 * r ∨ 24 * r + t ≤ j → fs1 j = fs j) → Fr G0 G 173 5 →
    WP mX10_flowsPart l (rmM mX10_flowsPart 0 0) (ZM 0 0 (fun w G' => w = none ∧ (∃ fs' fb', mfl G' fi fo fs' fa fb' ∧ (∀ j, j < rT ρ → fb' j = oP (nI (rD ρ)) (nI k) (nI x) fa j) ∧ (∀ j, j < rT ρ → fs' (24 * r + j) = hP (nI (rD ρ)) (nI k) (nI x) fa j (fs (24 * r + j))) ∧ ∀ j, j < 24 * r ∨ 24 * r + 24 ≤ j → fs' j = fs j) ∧ Fr G0 G' 173 5)) XT 0 0 15 [some (.ref 164), some (.int (nI k)), some (.int (nI x)), some (.int (nI (24 * r))), some (.long (pv (eP (nI (rD ρ)) (nI k) (nI x) fa) t)), none, some (.long (wM (nI (rD ρ)) (nI k) (nI x)).toInt64), none, some (.int (nI t)), none, none] [] G := by
  intro n
  induction n with
  | zero => intro G t fs1 fb hn; exact absurd hn (Nat.not_lt_zero _)
  | succ n ih =>
    intro G t fs1 fb hn ht hk km hb2 hs2 ho2 hF
    have htail : t < rT ρ → ∀ (G : PH) (fb : Nat → Int64) (e9 : Int64), mst G o f ρ → mfl G fi fo fs1 fa fb → fb t = oP (nI (rD ρ)) (nI k) (nI x) fa t → (∀ j, j < t → fb j = oP (nI (rD ρ)) (nI k) (nI x) fa j) → e9 = eP (nI (rD ρ)) (nI k) (nI x) fa t → Fr G0 G 173 5 → WP mX10_flowsPart l (rmM mX10_flowsPart 0 0) (ZM 0 0 (fun w G' => w = none ∧ (∃ fs' fb', mfl G' fi fo fs' fa fb' ∧ (∀ j, j < rT ρ → fb' j = oP (nI (rD ρ)) (nI k) (nI x) fa j) ∧ (∀ j, j < rT ρ → fs' (24 * r + j) = hP (nI (rD ρ)) (nI k) (nI x) fa j (fs (24 * r + j))) ∧ ∀ j, j < 24 * r ∨ 24 * r + 24 ≤ j → fs' j = fs j) ∧ Fr G0 G' 173 5)) XT 0 0 131 [some (.ref 164), some (.int (nI k)), some (.int (nI x)), some (.int (nI (24 * r))), some (.long e9), none, some (.long (wM (nI (rD ρ)) (nI k) (nI x)).toInt64), none, some (.int (nI t)), none, none] [] G := by
      intro hlt G fb e9 hk1 km1 hbt hb3 he9 hF1
      subst he9
      refine P_aload_n dX10_flowsPart_131 rfl ?_
      refine P_get dX10_flowsPart_132 flX10_46 hk1.1 rfl ?_
      refine P_iload_n dX10_flowsPart_135 rfl ?_
      refine P_iload dX10_flowsPart_136 rfl ?_
      refine P_iadd dX10_flowsPart_138 ?_
      rw [nI_add]
      refine P_dup2 dX10_flowsPart_139 rfl rfl ?_
      refine P_lald dX10_flowsPart_140 km1.2.2.1 (vp_in_nI (by omega) (by decide)) ?_
      rw [nI_clamp (by omega), ho2 (24 * r + t) (by omega)]
      refine P_iload_n dX10_flowsPart_141 rfl ?_
      refine P_iload_n dX10_flowsPart_142 rfl ?_
      refine P_imul dX10_flowsPart_143 ?_
      refine P_i2l dX10_flowsPart_144 ?_
      refine P_aload_n dX10_flowsPart_145 rfl ?_
      refine P_get dX10_flowsPart_146 flX10_49 hk1.1 rfl ?_
      refine P_iload dX10_flowsPart_149 rfl ?_
      refine P_lald dX10_flowsPart_151 km1.2.2.2.1 (vp_in_nI (by omega) (by decide)) ?_
      rw [nI_clamp (by omega)]
      refine P_lmul dX10_flowsPart_152 ?_
      refine P_iload_n dX10_flowsPart_153 rfl ?_
      refine P_bipush dX10_flowsPart_154 bp_20 ?_
      refine P_iload_n dX10_flowsPart_156 rfl ?_
      refine P_isub dX10_flowsPart_157 ?_
      refine P_imul dX10_flowsPart_158 ?_
      refine P_i2l dX10_flowsPart_159 ?_
      refine P_aload_n dX10_flowsPart_160 rfl ?_
      refine P_get dX10_flowsPart_161 flX10_52 hk1.1 rfl ?_
      refine P_iload dX10_flowsPart_164 rfl ?_
      refine P_lald dX10_flowsPart_166 km1.2.2.2.2 (vp_in_nI (by omega) (by decide)) ?_
      rw [nI_clamp (by omega), hbt]
      refine P_lmul dX10_flowsPart_167 ?_
      refine P_ladd dX10_flowsPart_168 ?_
      refine P_lload dX10_flowsPart_169 rfl ?_
      refine P_ladd dX10_flowsPart_171 ?_
      refine P_ladd dX10_flowsPart_172 ?_
      rw [sto_eq hk2 hx2]
      refine P_last dX10_flowsPart_173 km1.2.2.1 (vp_in_nI (by omega) (by decide)) ?_
      rw [nI_clamp (by omega)]
      refine P_iinc (L' := [_, _, _, _, _, _, _, _, _, _, _]) dX10_flowsPart_174 rfl (ii_1 _) (Nat.le_of_ble_eq_true rfl) rfl ?_
      rw [nI_1]
      refine P_goto (tgt := 15) dX10_flowsPart_177 (by decide) ?_
      refine P_loc ?_ (ih _ (t + 1) _ _ (by omega) hlt (hk1.fr (fr5 (by decide) (by decide)) (by decide)) km1.ss (fun j hj => ?_) (fun j hj => ?_) (fun j hj => ?_) (hF1.tr (fr5 (by decide) (by decide))))
      · simp only [subL, List.head?_cons, List.tail_cons]; and_intros <;> first | rfl | trivial
      · by_cases e : j = t
        · subst e; exact hbt
        · exact hb3 j (by omega)
      · by_cases e : j = t
        · subst e; rw [pk_uLs]; rfl
        · rw [pk_uLn (by omega)]; exact hs2 j (by omega)
      · rw [pk_uLn (by omega)]; exact ho2 j (by omega)
    refine P_iload dX10_flowsPart_15 rfl ?_
    refine P_aload_n dX10_flowsPart_17 rfl ?_
    refine P_get dX10_flowsPart_18 flX10_7 hk.1 rfl ?_
    refine P_iconst dX10_flowsPart_21 ci_0 ?_
    refine P_iald dX10_flowsPart_22 hk.2.1 (vp_in_nI (show 0 < 315 by decide) (by decide)) ?_
    rw [show f (Int32.toNatClampNeg 0) = nI (rT ρ) from hk.2.2.1.1]
    refine P_icmp_ge (tgt := 180) dX10_flowsPart_23 (by decide) (fun c23 => ?_) (fun c23 => ?_)
    · have hi2 : t = rT ρ := Nat.le_antisymm ht (Nat.not_lt.mp fun q => nI_ge q (by omega) c23)
      subst hi2
      exact P_vret dX10_flowsPart_180 rfl ⟨Nat.le_refl _, Nat.le_refl _⟩ ⟨rfl, ⟨fs1, fb, km, hb2, hs2, fun j hj => ho2 j (by omega)⟩, hF⟩
    · have hlt : t < rT ρ := Nat.not_le.mp fun q => c23 (nI_le q (by omega))
      refine P_iload dX10_flowsPart_26 rfl ?_
      refine P_if_ne (tgt := 46) dX10_flowsPart_28 (by decide) (fun c28 => ?_) (fun c28 => ?_)
      · have h0 : 0 < t := Nat.pos_of_ne_zero fun q => c28 (by rw [q]; rfl)
        obtain ⟨u, rfl⟩ : ∃ u, t = u + 1 := ⟨t - 1, by omega⟩
        refine P_aload_n dX10_flowsPart_46 rfl ?_
        refine P_iload_n dX10_flowsPart_47 rfl ?_
        refine P_iload_n dX10_flowsPart_48 rfl ?_
        refine P_callVp dX10_flowsPart_49 lkX10_79 okX10_weightA ⟨Nat.le_of_ble_eq_true rfl, Nat.le_of_ble_eq_true rfl⟩ (m_weightA l hk.1 hk.2.1 hk.2.2.1) rfl rfl hk.1 (Nat.le_of_ble_eq_true rfl) ⟨Nat.le_of_ble_eq_true rfl, Nat.le_of_ble_eq_true rfl⟩ ?_
        refine P_i2l dX10_flowsPart_52 ?_
        refine P_aload_n dX10_flowsPart_53 rfl ?_
        refine P_get dX10_flowsPart_54 flX10_49 hk.1 rfl ?_
        refine P_iload dX10_flowsPart_57 rfl ?_
        refine P_lald dX10_flowsPart_59 km.2.2.2.1 (vp_in_nI (by omega) (by decide)) ?_
        rw [nI_clamp (by omega)]
        refine P_lmul dX10_flowsPart_60 ?_
        refine P_aload_n dX10_flowsPart_61 rfl ?_
        refine P_iload_n dX10_flowsPart_62 rfl ?_
        refine P_iload_n dX10_flowsPart_63 rfl ?_
        refine P_callVp dX10_flowsPart_64 lkX10_88 okX10_weightB ⟨Nat.le_of_ble_eq_true rfl, Nat.le_of_ble_eq_true rfl⟩ (m_weightB l hk.1 hk.2.1 hk.2.2.1) rfl rfl hk.1 (Nat.le_of_ble_eq_true rfl) ⟨Nat.le_of_ble_eq_true rfl, Nat.le_of_ble_eq_true rfl⟩ ?_
        refine P_i2l dX10_flowsPart_67 ?_
        refine P_aload_n dX10_flowsPart_68 rfl ?_
        refine P_get dX10_flowsPart_69 flX10_49 hk.1 rfl ?_
        refine P_iload dX10_flowsPart_72 rfl ?_
        refine P_iconst dX10_flowsPart_74 ci_1 ?_
        refine P_isub dX10_flowsPart_75 ?_
        rw [nI_pred]
        refine P_lald dX10_flowsPart_76 km.2.2.2.1 (vp_in_nI (by omega) (by decide)) ?_
        rw [nI_clamp (by omega)]
        refine P_lmul dX10_flowsPart_77 ?_
        refine P_ladd dX10_flowsPart_78 ?_
        refine P_aload_n dX10_flowsPart_79 rfl ?_
        refine P_iload_n dX10_flowsPart_80 rfl ?_
        refine P_iload_n dX10_flowsPart_81 rfl ?_
        refine P_callVp dX10_flowsPart_82 lkX10_82 okX10_weightC ⟨Nat.le_of_ble_eq_true rfl, Nat.le_of_ble_eq_true rfl⟩ (m_weightC l hk.1 hk.2.1 hk.2.2.1) rfl rfl hk.1 (Nat.le_of_ble_eq_true rfl) ⟨Nat.le_of_ble_eq_true rfl, Nat.le_of_ble_eq_true rfl⟩ ?_
        refine P_i2l dX10_flowsPart_85 ?_
        refine P_aload_n dX10_flowsPart_86 rfl ?_
        refine P_get dX10_flowsPart_87 flX10_52 hk.1 rfl ?_
        refine P_iload dX10_flowsPart_90 rfl ?_
        refine P_iconst dX10_flowsPart_92 ci_1 ?_
        refine P_isub dX10_flowsPart_93 ?_
        rw [nI_pred]
        refine P_lald dX10_flowsPart_94 km.2.2.2.2 (vp_in_nI (by omega) (by decide)) ?_
        rw [nI_clamp (by omega), hb2 u (by omega)]
        refine P_lmul dX10_flowsPart_95 ?_
        refine P_ladd dX10_flowsPart_96 ?_
        refine P_lload dX10_flowsPart_97 rfl ?_
        refine P_ladd dX10_flowsPart_99 ?_
        refine P_lstore (L' := [_, _, _, _, _, _, _, _, _, _, _]) dX10_flowsPart_100 (Nat.le_of_ble_eq_true rfl) rfl ?_
        refine P_aload_n dX10_flowsPart_102 rfl ?_
        refine P_get dX10_flowsPart_103 flX10_52 hk.1 rfl ?_
        refine P_iload dX10_flowsPart_106 rfl ?_
        refine P_lload dX10_flowsPart_108 rfl ?_
        refine P_lload dX10_flowsPart_110 rfl ?_
        refine P_callSp dX10_flowsPart_112 lkX10_91 okX10_lesser ⟨Nat.le_of_ble_eq_true rfl, Nat.le_of_ble_eq_true rfl⟩ (m_lesser l hM) rfl rfl (Nat.le_of_ble_eq_true rfl) ⟨Nat.le_of_ble_eq_true rfl, Nat.le_of_ble_eq_true rfl⟩ ?_
        refine P_last dX10_flowsPart_115 km.2.2.2.2 (vp_in_nI (by omega) (by decide)) ?_
        rw [nI_clamp (by omega)]
        have km1 := km.sb (g := vp_updL fb (u + 1) (oP (nI (rD ρ)) (nI k) (nI x) fa (u + 1)))
        have hk1 := hk.fr (fr5 (G := G) (i := 177) (c := aJ 24 (vp_updL fb (u + 1) (oP (nI (rD ρ)) (nI k) (nI x) fa (u + 1)))) (by decide) (by decide)) (by decide)
        refine P_lload dX10_flowsPart_116 rfl ?_
        refine P_lload dX10_flowsPart_118 rfl ?_
        refine P_aload_n dX10_flowsPart_120 rfl ?_
        refine P_get dX10_flowsPart_121 flX10_52 hk1.1 rfl ?_
        refine P_iload dX10_flowsPart_124 rfl ?_
        refine P_lald dX10_flowsPart_126 km1.2.2.2.2 (vp_in_nI (by omega) (by decide)) ?_
        rw [nI_clamp (by omega), pk_uLs]
        refine P_lmul dX10_flowsPart_127 ?_
        refine P_lsub dX10_flowsPart_128 ?_
        refine P_lstore (L' := [_, _, _, _, _, _, _, _, _, _, _]) dX10_flowsPart_129 (Nat.le_of_ble_eq_true rfl) rfl ?_
        exact P_loc (by simp only [subL, List.head?_cons, List.tail_cons]; and_intros <;> first | rfl | trivial) (htail hlt _ _ _ hk1 km1 (pk_uLs.trans rfl) (fun j hj => by rw [pk_uLn (by omega)]; exact hb2 j hj) (by first | exact les_rest | exact rfl) (hF.tr (fr5 (by decide) (by decide))))
      · have h0 : t = 0 := (nI_eq (b := 0) (by omega) (by decide)).mp c28
        subst h0
        refine P_aload_n dX10_flowsPart_31 rfl ?_
        refine P_get dX10_flowsPart_32 flX10_52 hk.1 rfl ?_
        refine P_iconst dX10_flowsPart_35 ci_0 ?_
        refine P_aload_n dX10_flowsPart_36 rfl ?_
        refine P_get dX10_flowsPart_37 flX10_49 hk.1 rfl ?_
        refine P_iconst dX10_flowsPart_40 ci_0 ?_
        refine P_lald dX10_flowsPart_41 km.2.2.2.1 (vp_in_nI (show 0 < 24 by decide) (by decide)) ?_
        refine P_last dX10_flowsPart_42 km.2.2.2.2 (vp_in_nI (show 0 < 24 by decide) (by decide)) ?_
        have km1 := km.sb (g := vp_updL fb 0 (fa 0))
        have hk1 := hk.fr (fr5 (G := G) (i := 177) (c := aJ 24 (vp_updL fb 0 (fa 0))) (by decide) (by decide)) (by decide)
        refine P_goto (tgt := 131) dX10_flowsPart_43 (by decide) ?_
        exact P_loc (by simp only [subL, List.head?_cons, List.tail_cons]; and_intros <;> first | rfl | trivial) (htail hlt _ _ _ hk1 km1 (pk_uLs.trans rfl) (fun j hj => by rw [pk_uLn (by omega)]; exact hb2 j hj) (by first | exact les_rest | exact rfl) (hF.tr (fr5 (by decide) (by decide))))
set_option maxHeartbeats 4000000 in
set_option maxRecDepth 100000 in
theorem m_flowsPart (l : Launch) {G : PH} {o : MV} {f : Nat → Int32} {ρ : Riv} {r k x : Nat} {fi fo fs fa fb : Nat → Int64} (hk : mst G o f ρ) (km : mfl G fi fo fs fa fb) (hr : r < 6) (hk2 : k ≤ 20) (hx2 : x ≤ 10) : Tri l mX10_flowsPart 0 0 [.ref 164, .int (nI k), .int (nI x), .int (nI (24 * r))] G (fun w G' => w = none ∧ (∃ fs' fb', mfl G' fi fo fs' fa fb' ∧ (∀ j, j < rT ρ → fb' j = oP (nI (rD ρ)) (nI k) (nI x) fa j) ∧ (∀ j, j < rT ρ → fs' (24 * r + j) = hP (nI (rD ρ)) (nI k) (nI x) fa j (fs (24 * r + j))) ∧ ∀ j, j < 24 * r ∨ 24 * r + 24 ≤ j → fs' j = fs j) ∧ Fr G G' 173 5) := by
  have hb := hk.2.2.2
  have hT : rT ρ ≤ 24 := hb.2.1
  refine Tri.intro (L := [_, _, _, _, _, _, _, _, _, _, _]) okX10_flowsPart.1 (Nat.le_of_ble_eq_true rfl) rfl ?_
  refine P_lconst dX10_flowsPart_0 lc_0 ?_
  refine P_lstore (L' := [_, _, _, _, _, _, _, _, _, _, _]) dX10_flowsPart_1 (Nat.le_of_ble_eq_true rfl) rfl ?_
  refine P_aload_n dX10_flowsPart_3 rfl ?_
  refine P_iload_n dX10_flowsPart_4 rfl ?_
  refine P_iload_n dX10_flowsPart_5 rfl ?_
  refine P_callVp dX10_flowsPart_6 lkX10_85 okX10_weightM ⟨Nat.le_of_ble_eq_true rfl, Nat.le_of_ble_eq_true rfl⟩ (m_weightM l hk.1 hk.2.1 hk.2.2.1) rfl rfl hk.1 (Nat.le_of_ble_eq_true rfl) ⟨Nat.le_of_ble_eq_true rfl, Nat.le_of_ble_eq_true rfl⟩ ?_
  refine P_i2l dX10_flowsPart_9 ?_
  refine P_lstore (L' := [_, _, _, _, _, _, _, _, _, _, _]) dX10_flowsPart_10 (Nat.le_of_ble_eq_true rfl) rfl ?_
  refine P_iconst dX10_flowsPart_12 ci_0 ?_
  refine P_istore (L' := [_, _, _, _, _, _, _, _, _, _, _]) dX10_flowsPart_13 (Nat.le_of_ble_eq_true rfl) rfl ?_
  exact P_loc (by simp only [subL, List.head?_cons, List.tail_cons]; and_intros <;> first | rfl | trivial) (lp_flowsPart l hr hk2 hx2 hT (wM_pos hb.2.2.1 hb.2.2.2.1 hk2 hx2) (rT ρ + 1) G 0 fs fb (by omega) (Nat.zero_le _) hk km (fun j hj => absurd hj (Nat.not_lt_zero _)) (fun j hj => absurd hj (Nat.not_lt_zero _)) (fun _ _ => rfl) Fr.rf)
