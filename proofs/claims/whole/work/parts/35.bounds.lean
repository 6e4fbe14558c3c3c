/-! the figures stay small where the reach is lawful -/
theorem law_nat {D k x : Nat} (hD : D ≤ 9) (hk : k ≤ 20) (hx : x ≤ 10) (h : lawP (nI D) (nI k) (nI x)) : k * x ≤ 10 * D ∧ 10 * D ≤ 20 * k - k * x := by
  have h1 : k * x ≤ 20 * k := by rw [Nat.mul_comm]; exact Nat.mul_le_mul_right k (by omega)
  have h0 : (0 : Int32).toInt = 0 := rfl
  have eA : wA (nI D) (nI k) (nI x) = nI (10 * D) - nI (k * x) := by
    unfold wA; rw [show (10 : Int32) = nI 10 from rfl, pk_mul, pk_mul]
  have eC : wC (nI D) (nI k) (nI x) = nI (20 * k - k * x) - nI (10 * D) := by
    unfold wC; rw [show (20 : Int32) = nI 20 from rfl, show (10 : Int32) = nI 10 from rfl, pk_mul, pk_mul, pk_mul, pk_sub h1]
  obtain ⟨a, c⟩ := h
  rw [eA, Int32.lt_iff_toInt_lt, pk_sub_toInt (by omega) (by omega), h0] at a
  rw [eC, Int32.lt_iff_toInt_lt, pk_sub_toInt (by omega) (by omega), h0] at c
  omega
theorem lN_nn {n : Nat} (h : n < 2 ^ 63) : ¬ lN n < 0 := fun z => absurd ((pk_lLT (b := 0) h (by decide)).mp z) (Nat.not_lt_zero _)
theorem lN_ps {n : Nat} (h0 : 0 < n) (h : n < 2 ^ 63) : 0 < lN n := (pk_lLT (a := 0) (by decide) h).mpr h0
theorem jfd_N {S M : Nat} (hS : S < 2 ^ 63) (h0 : 0 < M) (hM : M < 2 ^ 63) : jfd (lN S) (lN M) = lN (S / M) := by
  unfold jfd
  rw [if_neg (fun z => lN_nn hS ((xneg (lN_ps h0 hM)).mp z.1)), pk_lDiv hS h0 hM]
theorem jfm_N {S M : Nat} (hS : S < 2 ^ 63) (h0 : 0 < M) (hM : M < 2 ^ 63) : jfm (lN S) (lN M) = lN (S % M) := by
  unfold jfm
  rw [if_neg (fun z => lN_nn hS ((xneg (lN_ps h0 hM)).mp z.1)), pk_lRem hS h0 hM]
theorem prt_bd {D k x : Nat} (hD1 : 1 ≤ D) (hD : D ≤ 9) (hk : k ≤ 20) (hx : x ≤ 10) (hl : lawP (nI D) (nI k) (nI x)) {inp : Nat → Int64} : ∀ t, (∀ j, j ≤ t → ∃ m : Nat, m ≤ 99999 ∧ inp j = lN m) → ∃ a b : Nat, a ≤ 99999 ∧ b < 20 * k - k * x + 10 * D ∧ prt (nI D) (nI k) (nI x) inp t = (lN a, lN b)
  | 0, h => by
    obtain ⟨m, hm, e⟩ := h 0 (Nat.le_refl _)
    exact ⟨m, 0, hm, by omega, by show (inp 0, 0) = _; rw [e]; rfl⟩
  | t + 1, h => by
    obtain ⟨a, b, ha, hb, e⟩ := prt_bd hD1 hD hk hx hl t (fun j hj => h j (by omega))
    obtain ⟨i1, hi1, e1⟩ := h (t + 1) (Nat.le_refl _)
    obtain ⟨i0, hi0, e0⟩ := h t (by omega)
    obtain ⟨l1, l2⟩ := law_nat hD hk hx hl
    have h1 : k * x ≤ 20 * k := by rw [Nat.mul_comm]; exact Nat.mul_le_mul_right k (by omega)
    have eA : wA (nI D) (nI k) (nI x) = nI (10 * D - k * x) := by
      unfold wA; rw [show (10 : Int32) = nI 10 from rfl, pk_mul, pk_mul, pk_sub l1]
    have eB : wB (nI D) (nI k) (nI x) = nI (10 * D + k * x) := by
      unfold wB; rw [show (10 : Int32) = nI 10 from rfl, pk_mul, pk_mul, nI_add]
    have eC : wC (nI D) (nI k) (nI x) = nI (20 * k - k * x - 10 * D) := by
      unfold wC; rw [show (20 : Int32) = nI 20 from rfl, show (10 : Int32) = nI 10 from rfl, pk_mul, pk_mul, pk_mul, pk_sub h1, pk_sub l2]
    have eM := wM_nI hD hk hx
    obtain ⟨A, hA⟩ : ∃ A, A = 10 * D - k * x := ⟨_, rfl⟩
    obtain ⟨B, hB⟩ : ∃ B, B = 10 * D + k * x := ⟨_, rfl⟩
    obtain ⟨C, hC⟩ : ∃ C, C = 20 * k - k * x - 10 * D := ⟨_, rfl⟩
    obtain ⟨M, hM⟩ : ∃ M, M = 20 * k - k * x + 10 * D := ⟨_, rfl⟩
    have hs : A + B + C = M := by omega
    have hM0 : 0 < M := by omega
    have hMs : M ≤ 490 := by omega
    rw [← hM] at hb eM ⊢
    rw [← hA] at eA; rw [← hB] at eB; rw [← hC] at eC
    have s1 : A * i1 ≤ A * 99999 := Nat.mul_le_mul_left A hi1
    have s2 : B * i0 ≤ B * 99999 := Nat.mul_le_mul_left B hi0
    have s3 : C * a ≤ C * 99999 := Nat.mul_le_mul_left C ha
    have hS : A * i1 + B * i0 + C * a + b < M * 100000 := by omega
    have e9 : prt (nI D) (nI k) (nI x) inp (t + 1) = (jfd (lN (A * i1 + B * i0 + C * a + b)) (lN M), jfm (lN (A * i1 + B * i0 + C * a + b)) (lN M)) := by
      simp only [prt]
      rw [e, eA, eB, eC, eM, e1, e0, nI_64 (by omega), nI_64 (by omega), nI_64 (by omega), nI_64 (by omega)]
      rw [lN_mul, lN_mul, lN_mul, lN_add, lN_add, lN_add]
    rw [e9, jfd_N (by omega) hM0 (by omega), jfm_N (by omega) hM0 (by omega)]
    exact ⟨_, _, Nat.le_of_lt_succ (Nat.div_lt_of_lt_mul hS), Nat.mod_lt _ hM0, rfl⟩
theorem flP_bd {D k x : Nat} (hD1 : 1 ≤ D) (hD : D ≤ 9) (hk : k ≤ 20) (hx : x ≤ 10) (hl : lawP (nI D) (nI k) (nI x)) {inp : Nat → Int64} : ∀ (q t : Nat), (∀ j, j ≤ t → ∃ m : Nat, m ≤ 99999 ∧ inp j = lN m) → ∃ m : Nat, m ≤ 99999 ∧ flP (nI D) (nI k) (nI x) q inp t = lN m
  | 0, t, h => h t (Nat.le_refl _)
  | q + 1, t, h => by
    obtain ⟨a, b, ha, -, e⟩ := prt_bd hD1 hD hk hx hl t (fun j hj => flP_bd hD1 hD hk hx hl q j (fun i hi => h i (by omega)))
    exact ⟨a, ha, by show (prt _ _ _ _ t).1 = _; rw [e]⟩
theorem INN_bd {ρ : Riv} {r : Nat} (hf : fitB ρ r (rT ρ) = true) {j : Nat} (hj : j < rT ρ) : ∃ m : Nat, m ≤ 99999 ∧ INN ρ r j = lN m := by
  obtain ⟨h1, h2⟩ := fitB_all hf j hj
  obtain ⟨m, hm, e⟩ := pk_lOf h1
  rw [e] at h2
  exact ⟨m, (pk_lLE (b := 99999) hm (by decide)).mp h2, e⟩
theorem jabs_bd {a c : Nat} (ha : a ≤ 99999) (hc : c ≤ 99999) : ∃ m : Nat, m ≤ 99999 ∧ jabs (lN a - lN c) = lN m := by
  unfold jabs
  by_cases h : c ≤ a
  · rw [lN_sub h, if_neg (lN_nn (by omega))]
    exact ⟨_, by omega, rfl⟩
  · have e : lN a - lN c < 0 := by
      rw [Int64.lt_iff_toInt_lt, Int64.toInt_sub, pk_lT (by omega), pk_lT (by omega), Int.bmod_eq_of_le (by omega) (by omega)]
      show (a : Int) - c < 0
      omega
    rw [if_pos e, Int64.neg_sub, lN_sub (by omega)]
    exact ⟨_, by omega, rfl⟩
theorem DF_bd {ρ : Riv} {r k x : Nat} (hb : rBd ρ) (hv : rVal ρ) (hr : r < rN ρ) (hk : k ≤ 20) (hx : x ≤ 10) (hl : lawP (nI (rD ρ)) (nI k) (nI x)) (hf : fitB ρ r (rT ρ) = true) : ∀ t, t ≤ rT ρ → ∃ m : Nat, m ≤ 99999 * t ∧ dfS ρ r (nI k) (nI x) t = lN m
  | 0, _ => ⟨0, by omega, rfl⟩
  | t + 1, ht => by
    have hT : rT ρ ≤ 24 := hb.2.1
    obtain ⟨m, hm, e⟩ := DF_bd hb hv hr hk hx hl hf t (by omega)
    obtain ⟨a, ha, ea⟩ := flP_bd hb.2.2.1 hb.2.2.2.1 hk hx hl (rP ρ r) t (fun j hj => INN_bd hf (j := j) (by omega))
    obtain ⟨c, hc, ec⟩ := ((hv r hr).2.2.2.2 t (by omega)).2
    obtain ⟨d, hd, ed⟩ := jabs_bd (a := a) (c := c) ha (by omega)
    refine ⟨m + d, by omega, ?_⟩
    show dfS ρ r (nI k) (nI x) t + jabs (flP _ _ _ _ _ t - (rE ρ r t).toInt64) = _
    rw [e, ea, ec, nI_64 (by omega), ed, lN_add]
theorem DF_nn {ρ : Riv} {r k x : Nat} (hb : rBd ρ) (hv : rVal ρ) (hr : r < rN ρ) (hk : k ≤ 20) (hx : x ≤ 10) (hl : lawP (nI (rD ρ)) (nI k) (nI x)) (hf : fitB ρ r (rT ρ) = true) : ¬ DF ρ r (nI k) (nI x) < 0 := by
  have hT : rT ρ ≤ 24 := hb.2.1
  obtain ⟨m, hm, e⟩ := DF_bd hb hv hr hk hx hl hf (rT ρ) (Nat.le_refl _)
  show ¬ dfS ρ r (nI k) (nI x) (rT ρ) < 0
  rw [e]
  exact lN_nn (by omega)
theorem bsS_nn {ρ : Riv} {r : Nat} (hb : rBd ρ) (hv : rVal ρ) (hr : r < rN ρ) (hf : fitB ρ r (rT ρ) = true) : ∀ (i : Nat) (b : Nat × Nat × Int64), i ≤ 231 → bsS ρ r i = some b → ¬ b.2.2 < 0
  | 0, b, _, h => by cases h
  | i + 1, b, hi, h => by
    have ih := bsS_nn hb hv hr hf i
    simp only [bsS] at h
    split at h
    · rename_i hl
      have hn := DF_nn hb hv hr (k := i / 11) (x := i % 11) (by omega) (by omega) hl hf
      split at h
      · cases h; exact hn
      · rename_i b9 e9
        split at h
        · cases h; exact hn
        · cases h; exact ih b (by omega) e9
    · exact ih b (by omega) h
theorem fb_bd {ρ : Riv} {r x : Nat} (hv : rVal ρ) (hb : rBd ρ) (hr : r < rN ρ) (hx : x ≤ 10) (hf : fitB ρ r (rT ρ) = true) {j : Nat} (hj : j < rT ρ) : ∃ m : Nat, m ≤ 1199970 ∧ fbS ρ r (nI x) j = lN m := by
  have hT : rT ρ ≤ 24 := hb.2.1
  obtain ⟨m, hm, e⟩ := INN_bd hf hj
  obtain ⟨c, hc, ec⟩ := ((hv r hr).2.2.2.2 j (by omega)).2
  refine ⟨x * m + (20 - x) * c, ?_, ?_⟩
  · have h1 : x * m ≤ 10 * m := Nat.mul_le_mul_right m hx
    have h2 : (20 - x) * c ≤ 20 * c := Nat.mul_le_mul_right c (by omega)
    omega
  · unfold fbS
    rw [e, ec, nI_64 (n := x) (by omega), nI_64 (n := c) (by omega), lN_20 (by omega), lN_mul, lN_mul, lN_add]
theorem mm_bd {f : Nat → Int64} {B : Nat} (hB : B < 2 ^ 63) : ∀ n, (∀ j, j ≤ n → ∃ m : Nat, m ≤ B ∧ f j = lN m) → ∃ a b : Nat, a ≤ b ∧ b ≤ B ∧ mnF f n = lN a ∧ mxF f n = lN b
  | 0, h => by obtain ⟨m, hm, e⟩ := h 0 (Nat.le_refl _); exact ⟨m, m, Nat.le_refl _, hm, e, e⟩
  | n + 1, h => by
    obtain ⟨a, b, h1, h2, e1, e2⟩ := mm_bd hB n (fun j hj => h j (by omega))
    obtain ⟨m, hm, e⟩ := h (n + 1) (Nat.le_refl _)
    have g1 : mnF f (n + 1) = lN (min a m) := by
      show jmin (mnF f n) (f (n + 1)) = _
      rw [e1, e]; unfold jmin
      by_cases z : m < a
      · rw [if_pos ((pk_lLT (by omega) (by omega)).mpr z), Nat.min_eq_right (by omega)]
      · rw [if_neg (fun y => z ((pk_lLT (by omega) (by omega)).mp y)), Nat.min_eq_left (by omega)]
    have g2 : mxF f (n + 1) = lN (max b m) := by
      show jmax (mxF f n) (f (n + 1)) = _
      rw [e2, e]; unfold jmax
      by_cases z : b < m
      · rw [if_pos ((pk_lLT (by omega) (by omega)).mpr z), Nat.max_eq_right (by omega)]
      · rw [if_neg (fun y => z ((pk_lLT (by omega) (by omega)).mp y)), Nat.max_eq_left (by omega)]
    exact ⟨min a m, max b m, by omega, by omega, g1, g2⟩
theorem fw_nn {ρ : Riv} {r x : Nat} (hv : rVal ρ) (hb : rBd ρ) (hr : r < rN ρ) (hx : x ≤ 10) (hf : fitB ρ r (rT ρ) = true) (h : ¬ fwS ρ r (nI x) = 0) : 0 < fwS ρ r (nI x) := by
  have hT : 2 ≤ rT ρ := hb.1
  obtain ⟨a, b, h1, h2, e1, e2⟩ := mm_bd (f := fbS ρ r (nI x)) (B := 1199970) (by decide) (rT ρ - 1) (fun j hj => fb_bd hv hb hr hx hf (by omega))
  have e9 : fwS ρ r (nI x) = lN (b - a) := by unfold fwS; rw [e1, e2, lN_sub h1]
  rw [e9] at h ⊢
  exact lN_ps (Nat.pos_of_ne_zero fun z => h (by rw [z]; rfl)) (by omega)
