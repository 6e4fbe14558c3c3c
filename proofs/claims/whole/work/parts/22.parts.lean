theorem t_isFull (l : Launch) {G : PH} {h n p : Nat} {tx : Nat → Int32} {fn fp tt td : Int32} (k : txw G h n tx p fn fp tt td) : Tri l mX8_isFull 0 0 [.ref h] G (fun w G' => w = some (.int (if n < 200 then 0 else 1)) ∧ G' = G) := by
  have h200 := k.2.2
  refine Tri.intro (L := [_]) okX8_isFull.1 (Nat.le_of_ble_eq_true rfl) rfl ?_
  refine P_aload_n dX8_isFull_0 rfl ?_
  refine P_get dX8_isFull_1 flX8_15 k.1 rfl ?_
  refine P_aload_n dX8_isFull_4 rfl ?_
  refine P_get dX8_isFull_5 flX8_9 k.1 rfl ?_
  refine P_alen (v := nI 200) dX8_isFull_8 k.2.1 (fun _ => rfl) rfl ?_
  refine P_icmp_lt (tgt := 16) dX8_isFull_9 (by decide) (fun c9 => ?_) (fun c9 => ?_)
  · have e : n < 200 := Nat.not_le.mp fun q => absurd c9 (Int32.not_lt.mpr (nI_le q (by omega)))
    refine P_iconst dX8_isFull_16 ci_0 ?_
    exact P_zret dX8_isFull_17 rfl ⟨Nat.le_refl _, Nat.le_refl _⟩ (by first | exact Or.inl rfl | exact Or.inr rfl) ⟨by simp [e], rfl⟩
  · have e : ¬ n < 200 := fun q => c9 (nI_lt q (by omega))
    refine P_iconst dX8_isFull_12 ci_1 ?_
    refine P_goto (tgt := 17) dX8_isFull_13 (by decide) ?_
    exact P_zret dX8_isFull_17 rfl ⟨Nat.le_refl _, Nat.le_refl _⟩ (by first | exact Or.inl rfl | exact Or.inr rfl) ⟨by simp [e], rfl⟩
theorem t_append (l : Launch) {G : PH} {h n p : Nat} {tx : Nat → Int32} {fn fp tt td : Int32} {c : Int32} (k : txw G h n tx p fn fp tt td) (hn : n < 200) : Tri l mX8_append 0 0 [.ref h, .int c] G (fun w G' => w = none ∧ txw G' h (n + 1) (upd tx n c) p fn fp tt td ∧ Fr G G' h 2) := by
  refine Tri.intro (L := [_, _]) okX8_append.1 (Nat.le_of_ble_eq_true rfl) rfl ?_
  refine P_aload_n dX8_append_0 rfl ?_
  refine P_get dX8_append_1 flX8_15 k.1 rfl ?_
  refine P_aload_n dX8_append_4 rfl ?_
  refine P_get dX8_append_5 flX8_9 k.1 rfl ?_
  refine P_alen (v := nI 200) dX8_append_8 k.2.1 (fun _ => rfl) rfl ?_
  refine P_icmp_ge (tgt := 32) dX8_append_9 (by decide) (fun c9 => ?_) (fun c9 => ?_)
  · exact absurd c9 (nI_ge hn (by decide))
  · refine P_aload_n dX8_append_12 rfl ?_
    refine P_get dX8_append_13 flX8_9 k.1 rfl ?_
    refine P_aload_n dX8_append_16 rfl ?_
    refine P_get dX8_append_17 flX8_15 k.1 rfl ?_
    refine P_iload_n dX8_append_20 rfl ?_
    refine P_iast dX8_append_21 k.2.1 (vp_in_nI hn (by omega)) ?_
    rw [nI_clamp (by omega)]
    refine P_aload_n dX8_append_22 rfl ?_
    refine P_dup dX8_append_23 rfl ?_
    refine P_get dX8_append_24 flX8_15 (set_ne k.1 (by omega)) rfl ?_
    refine P_iconst dX8_append_27 ci_1 ?_
    refine P_iadd dX8_append_28 ?_
    rw [nI_1]
    refine P_putI dX8_append_29 flX8_15 (set_ne k.1 (by omega)) (Nat.le_of_ble_eq_true rfl) ?_
    exact P_vret dX8_append_32 rfl ⟨Nat.le_refl _, Nat.le_refl _⟩ ⟨rfl, ⟨set_at (set_ne k.1 (by omega)), set_ne (set_at k.2.1) (by omega), hn⟩, (Fr.set (by omega) (by omega)).tr (Fr.set (by omega) (by omega))⟩
theorem t_letterCount (l : Launch) {G : PH} {h n p : Nat} {tx : Nat → Int32} {fn fp tt td : Int32} (k : txw G h n tx p fn fp tt td) : Tri l mX8_letterCount 0 0 [.ref h] G (fun w G' => w = some (.int (nI n)) ∧ G' = G) := by
  refine Tri.intro (L := [_]) okX8_letterCount.1 (Nat.le_of_ble_eq_true rfl) rfl ?_
  refine P_aload_n dX8_letterCount_0 rfl ?_
  refine P_get dX8_letterCount_1 flX8_15 k.1 rfl ?_
  exact P_iret dX8_letterCount_4 rfl ⟨Nat.le_refl _, Nat.le_refl _⟩ ⟨rfl, rfl⟩
theorem t_placeOfFault (l : Launch) {G : PH} {h n p : Nat} {tx : Nat → Int32} {fn fp tt td : Int32} (k : txw G h n tx p fn fp tt td) : Tri l mX8_placeOfFault 0 0 [.ref h] G (fun w G' => w = some (.int fp) ∧ G' = G) := by
  refine Tri.intro (L := [_]) okX8_placeOfFault.1 (Nat.le_of_ble_eq_true rfl) rfl ?_
  refine P_aload_n dX8_placeOfFault_0 rfl ?_
  refine P_get dX8_placeOfFault_1 flX8_25 k.1 rfl ?_
  exact P_iret dX8_placeOfFault_4 rfl ⟨Nat.le_refl _, Nat.le_refl _⟩ ⟨rfl, rfl⟩
theorem t_clearT (l : Launch) {G : PH} {h n p : Nat} {tx : Nat → Int32} {fn fp tt td : Int32} (k : txw G h n tx p fn fp tt td) : Tri l mX8_clear 0 0 [.ref h] G (fun w G' => w = none ∧ txw G' h 0 tx p fn fp tt td ∧ Fr G G' h 1) := by
  refine Tri.intro (L := [_]) okX8_clear.1 (Nat.le_of_ble_eq_true rfl) rfl ?_
  refine P_aload_n dX8_clear_0 rfl ?_
  refine P_iconst dX8_clear_1 ci_0 ?_
  refine P_putI dX8_clear_2 flX8_15 k.1 (Nat.le_of_ble_eq_true rfl) ?_
  exact P_vret dX8_clear_5 rfl ⟨Nat.le_refl _, Nat.le_refl _⟩ ⟨rfl, ⟨set_at k.1, set_ne k.2.1 (by omega), Nat.zero_le _⟩, Fr.set (by omega) (by omega)⟩
abbrev oW (s : Nat) : PCell := .inr (2, [.int (nI s)])
def nxS (s : Nat) : Nat := (s * 1103515245 + 12345) % 2147483648
theorem nxS_lt (s : Nat) : nxS s < 2 ^ 31 := Nat.mod_lt _ (by decide)
theorem lN_inj64 {a b : Int64} (h : a.toBitVec = b.toBitVec) : a = b := Int64.toBitVec_inj.mp h
theorem lN_and31 {n : Nat} (h : n < 2 ^ 63) : lN n &&& 2147483647 = lN (n % 2147483648) := by
  apply lN_inj64
  rw [Int64.toBitVec_and]
  apply BitVec.eq_of_toNat_eq
  rw [BitVec.toNat_and]
  have e1 : (lN n).toBitVec.toNat = n := by
    show (Int64.ofNat n).toBitVec.toNat = n
    rw [Int64.toBitVec_ofNat', BitVec.toNat_ofNat]
    exact Nat.mod_eq_of_lt (by omega)
  have e2 : (lN (n % 2147483648)).toBitVec.toNat = n % 2147483648 := by
    show (Int64.ofNat _).toBitVec.toNat = _
    rw [Int64.toBitVec_ofNat', BitVec.toNat_ofNat]
    exact Nat.mod_eq_of_lt (by omega)
  have e3 : (2147483647 : Int64).toBitVec.toNat = 2 ^ 31 - 1 := by decide +kernel
  rw [e1, e2, e3, Nat.and_two_pow_sub_one_eq_mod]
theorem draw_val {s : Nat} (h : s < 2 ^ 31) : (((nI s).toInt64 * 1103515245 + 12345) &&& 2147483647).toInt32 = nI (nxS s) := by
  rw [nI_64 h, show (1103515245 : Int64) = lN 1103515245 from rfl, show (12345 : Int64) = lN 12345 from rfl, lN_mul, lN_add, lN_and31 (by omega), lN_i]
  rfl
theorem t_next (l : Launch) {G : PH} {h s m : Nat} (k : G[h]? = some (oW s)) (hs : s < 2 ^ 31) (hm : 0 < m) (hm2 : m < 100) : Tri l mX2_next 0 0 [.ref h, .int (nI m)] G (fun w G' => w = some (.int (nI (nxS s / 65536 % m))) ∧ G'[h]? = some (oW (nxS s)) ∧ Fr G G' h 1) := by
  have hx := nxS_lt s
  refine Tri.intro (L := [_, _]) okX2_next.1 (Nat.le_of_ble_eq_true rfl) rfl ?_
  refine P_aload_n dX2_next_0 rfl ?_
  refine P_aload_n dX2_next_1 rfl ?_
  refine P_get dX2_next_2 flX2_7 k rfl ?_
  refine P_i2l dX2_next_5 ?_
  refine P_ldc2 dX2_next_6 kcX2_13 ?_
  refine P_lmul dX2_next_9 ?_
  refine P_ldc2 dX2_next_10 kcX2_15 ?_
  refine P_ladd dX2_next_13 ?_
  refine P_ldc2 dX2_next_14 kcX2_17 ?_
  refine P_land dX2_next_17 ?_
  refine P_l2i dX2_next_18 ?_
  rw [draw_val hs]
  refine P_putI dX2_next_19 flX2_7 k (Nat.le_of_ble_eq_true rfl) ?_
  refine P_iload_n dX2_next_22 rfl ?_
  refine P_if_le (tgt := 38) dX2_next_23 (by decide) (fun c23 => ?_) (fun c23 => ?_)
  · exact absurd c23 (nI_nle hm (by omega))
  · refine P_aload_n dX2_next_26 rfl ?_
    refine P_get dX2_next_27 flX2_7 (set_at k) rfl ?_
    refine P_ldc dX2_next_30 kcX2_19 ?_
    refine P_idiv dX2_next_32 (by decide) ?_
    refine P_iload_n dX2_next_33 rfl ?_
    refine P_irem dX2_next_34 (nI_ne0 hm (by omega)) ?_
    rw [show (65536 : Int32) = nI 65536 from rfl, pk_div (by omega) (by decide) (by decide), pk_rem (by omega) hm (by omega)]
    refine P_goto (tgt := 39) dX2_next_35 (by decide) ?_
    exact P_iret dX2_next_39 rfl ⟨Nat.le_refl _, Nat.le_refl _⟩ ⟨rfl, set_at k, Fr.set (by omega) (by omega)⟩
theorem t_value (l : Launch) {G : PH} {h s : Nat} (k : G[h]? = some (oW s)) : Tri l mX2_value 0 0 [.ref h] G (fun w G' => w = some (.int (nI s)) ∧ G' = G) := by
  refine Tri.intro (L := [_]) okX2_value.1 (Nat.le_of_ble_eq_true rfl) rfl ?_
  refine P_aload_n dX2_value_0 rfl ?_
  refine P_get dX2_value_1 flX2_7 k rfl ?_
  exact P_iret dX2_value_4 rfl ⟨Nat.le_refl _, Nat.le_refl _⟩ ⟨rfl, rfl⟩
theorem t_setValue (l : Launch) {G : PH} {h s v : Nat} (k : G[h]? = some (oW s)) : Tri l mX2_setValue 0 0 [.ref h, .int (nI v)] G (fun w G' => w = none ∧ G'[h]? = some (oW v) ∧ Fr G G' h 1) := by
  refine Tri.intro (L := [_, _]) okX2_setValue.1 (Nat.le_of_ble_eq_true rfl) rfl ?_
  refine P_aload_n dX2_setValue_0 rfl ?_
  refine P_iload_n dX2_setValue_1 rfl ?_
  refine P_putI dX2_setValue_2 flX2_7 k (Nat.le_of_ble_eq_true rfl) ?_
  exact P_vret dX2_setValue_5 rfl ⟨Nat.le_refl _, Nat.le_refl _⟩ ⟨rfl, set_at k, Fr.set (by omega) (by omega)⟩
abbrev Bk : Type := Nat → Nat × Nat × Int64
def isBook (G : PH) (h c : Nat) (bk : Bk) : Prop := c ≤ 20 ∧ G[h]? = some (.inr (0, [.ref (h + 1), .int (nI c)])) ∧ ∃ f, cells G (h + 1) 20 3 f ∧ ∀ i, i < c → (bk i).1 < 2 ^ 31 ∧ (bk i).2.1 < 2 ^ 31 ∧ f (i * 3 + 0) = (nI (bk i).1).toInt64 ∧ f (i * 3 + 1) = (nI (bk i).2.1).toInt64 ∧ f (i * 3 + 2) = (bk i).2.2
theorem isBook.fr {G G' : PH} {h c a n : Nat} {bk : Bk} (k : isBook G h c bk) (hF : Fr G G' a n) (hd : h + 3 ≤ a ∨ a + n ≤ h) : isBook G' h c bk := by
  obtain ⟨h1, h2, f, h3, h4⟩ := k
  exact ⟨h1, hF.at h2 (by omega), f, h3.fr hF (by omega), h4⟩
def bkA (bk : Bk) (c r t : Nat) (v : Int64) : Bk := fun i => if i = c then (r, t, v) else bk i
abbrev wrP (ρ : Riv) (e : Nat × Nat × Int64) : Prop := ¬ (e.1 < rN ρ ∧ e.2.1 < rT ρ) ∨ ¬ OUT ρ e.1 e.2.1 = e.2.2
def wrS (ρ : Riv) (bk : Bk) : Nat → Nat → Int32
  | 0, _ => -1
  | f + 1, i => if wrP ρ (bk i) then nI i else wrS ρ bk f (i + 1)
theorem t_bookFull (l : Launch) {G : PH} {h c : Nat} {bk : Bk} (k : isBook G h c bk) : Tri l mX0_isFull 0 0 [.ref h] G (fun w G' => w = some (.int (if c < 20 then 0 else 1)) ∧ G' = G) := by
  have h20 := k.1
  refine Tri.intro (L := [_]) okX0_isFull.1 (Nat.le_of_ble_eq_true rfl) rfl ?_
  refine P_aload_n dX0_isFull_0 rfl ?_
  refine P_get dX0_isFull_1 flX0_20 k.2.1 rfl ?_
  refine P_bipush dX0_isFull_4 bp_20 ?_
  refine P_icmp_lt (tgt := 13) dX0_isFull_6 (by decide) (fun c6 => ?_) (fun c6 => ?_)
  · have e : c < 20 := Nat.not_le.mp fun q => absurd c6 (Int32.not_lt.mpr (nI_le (a := 20) q (by omega)))
    refine P_iconst dX0_isFull_13 ci_0 ?_
    exact P_zret dX0_isFull_14 rfl ⟨Nat.le_refl _, Nat.le_refl _⟩ (by first | exact Or.inl rfl | exact Or.inr rfl) ⟨by simp [e], rfl⟩
  · have e : ¬ c < 20 := fun q => c6 (nI_lt (b := 20) q (by decide))
    refine P_iconst dX0_isFull_9 ci_1 ?_
    refine P_goto (tgt := 14) dX0_isFull_10 (by decide) ?_
    exact P_zret dX0_isFull_14 rfl ⟨Nat.le_refl _, Nat.le_refl _⟩ (by first | exact Or.inl rfl | exact Or.inr rfl) ⟨by simp [e], rfl⟩
theorem t_entryCount (l : Launch) {G : PH} {h c : Nat} {bk : Bk} (k : isBook G h c bk) : Tri l mX0_entryCount 0 0 [.ref h] G (fun w G' => w = some (.int (nI c)) ∧ G' = G) := by
  refine Tri.intro (L := [_]) okX0_entryCount.1 (Nat.le_of_ble_eq_true rfl) rfl ?_
  refine P_aload_n dX0_entryCount_0 rfl ?_
  refine P_get dX0_entryCount_1 flX0_20 k.2.1 rfl ?_
  exact P_iret dX0_entryCount_4 rfl ⟨Nat.le_refl _, Nat.le_refl _⟩ ⟨rfl, rfl⟩
theorem t_bookClear (l : Launch) {G : PH} {h c : Nat} {bk : Bk} (k : isBook G h c bk) : Tri l mX0_clear 0 0 [.ref h] G (fun w G' => w = none ∧ isBook G' h 0 bk ∧ Fr G G' h 1) := by
  obtain ⟨h1, h2, f, h3, h4⟩ := k
  refine Tri.intro (L := [_]) okX0_clear.1 (Nat.le_of_ble_eq_true rfl) rfl ?_
  refine P_aload_n dX0_clear_0 rfl ?_
  refine P_iconst dX0_clear_1 ci_0 ?_
  refine P_putI dX0_clear_2 flX0_20 h2 (Nat.le_of_ble_eq_true rfl) ?_
  exact P_vret dX0_clear_5 rfl ⟨Nat.le_refl _, Nat.le_refl _⟩ ⟨rfl, ⟨Nat.zero_le _, set_at h2, f, h3.fr (Fr.set (a := h) (n := 1) (by omega) (by omega)) (by omega), fun i hi => absurd hi (Nat.not_lt_zero _)⟩, Fr.set (by omega) (by omega)⟩
theorem bkA_ok {bk : Bk} {c r t : Nat} {v : Int64} {f : Nat → Int64} (h : ∀ i, i < c → (bk i).1 < 2 ^ 31 ∧ (bk i).2.1 < 2 ^ 31 ∧ f (i * 3 + 0) = (nI (bk i).1).toInt64 ∧ f (i * 3 + 1) = (nI (bk i).2.1).toInt64 ∧ f (i * 3 + 2) = (bk i).2.2) (hr : r < 2 ^ 31) (ht : t < 2 ^ 31) :
    ∀ i, i < c + 1 → (bkA bk c r t v i).1 < 2 ^ 31 ∧ (bkA bk c r t v i).2.1 < 2 ^ 31 ∧ vp_updL (vp_updL (vp_updL f (c * 3 + 0) (nI r).toInt64) (c * 3 + 1) (nI t).toInt64) (c * 3 + 2) v (i * 3 + 0) = (nI (bkA bk c r t v i).1).toInt64 ∧ vp_updL (vp_updL (vp_updL f (c * 3 + 0) (nI r).toInt64) (c * 3 + 1) (nI t).toInt64) (c * 3 + 2) v (i * 3 + 1) = (nI (bkA bk c r t v i).2.1).toInt64 ∧ vp_updL (vp_updL (vp_updL f (c * 3 + 0) (nI r).toInt64) (c * 3 + 1) (nI t).toInt64) (c * 3 + 2) v (i * 3 + 2) = (bkA bk c r t v i).2.2 := by
  intro i hi
  by_cases e : i = c
  · subst e
    rw [show bkA bk i r t v i = (r, t, v) from if_pos rfl]
    refine ⟨hr, ht, ?_, ?_, ?_⟩
    · rw [pk_uLn (by omega), pk_uLn (by omega), pk_uLs]
    · rw [pk_uLn (by omega), pk_uLs]
    · rw [pk_uLs]
  · rw [show bkA bk c r t v i = bk i from if_neg e]
    obtain ⟨a1, a2, a3, a4, a5⟩ := h i (by omega)
    refine ⟨a1, a2, ?_, ?_, ?_⟩
    · rw [pk_uLn (by omega), pk_uLn (by omega), pk_uLn (by omega)]; exact a3
    · rw [pk_uLn (by omega), pk_uLn (by omega), pk_uLn (by omega)]; exact a4
    · rw [pk_uLn (by omega), pk_uLn (by omega), pk_uLn (by omega)]; exact a5
set_option maxHeartbeats 4000000 in
set_option maxRecDepth 100000 in
theorem t_bookAdd (l : Launch) {G : PH} {h c : Nat} {bk : Bk} {r t : Nat} {v : Int64} (k : isBook G h c bk) (hc : c < 20) (hr : r < 2 ^ 31) (ht : t < 2 ^ 31) : Tri l mX0_add 0 0 [.ref h, .int (nI r), .int (nI t), .long v] G (fun w G' => w = none ∧ isBook G' h (c + 1) (bkA bk c r t v) ∧ Fr G G' h 3) := by
  obtain ⟨h1, h2, f, h3, h4⟩ := id k
  refine Tri.intro (L := [_, _, _, _, _]) okX0_add.1 (Nat.le_of_ble_eq_true rfl) rfl ?_
  refine P_aload_n dX0_add_0 rfl ?_
  refine P_callVp dX0_add_1 lkX0_24 okX0_isFull ⟨Nat.le_of_ble_eq_true rfl, Nat.le_of_ble_eq_true rfl⟩ (t_bookFull l k) rfl rfl h2 (Nat.le_of_ble_eq_true rfl) ⟨Nat.le_of_ble_eq_true rfl, Nat.le_of_ble_eq_true rfl⟩ ?_
  rw [if_pos hc]
  refine P_if_ne (tgt := 58) dX0_add_4 (by decide) (fun c4 => ?_) (fun c4 => ?_)
  · exact absurd rfl c4
  · refine P_aload_n dX0_add_7 rfl ?_
    refine P_get dX0_add_8 flX0_14 h2 rfl ?_
    refine P_aload_n dX0_add_11 rfl ?_
    refine P_get dX0_add_12 flX0_20 h2 rfl ?_
    refine P_iconst dX0_add_15 ci_0 ?_
    refine P_iload_n dX0_add_16 rfl ?_
    refine P_i2l dX0_add_17 ?_
    refine P_callV dX0_add_18 lkX0_28 okX1_put ⟨Nat.le_of_ble_eq_true rfl, Nat.le_of_ble_eq_true rfl⟩ (t_put (c := 0) l h3 hc (by decide)) rfl rfl h3.1 (Nat.le_of_ble_eq_true rfl) ⟨Nat.le_of_ble_eq_true rfl, Nat.le_of_ble_eq_true rfl⟩ (fun v18 G18 q18 => ?_)
    obtain ⟨rfl, c1, hF1⟩ := q18
    refine P_aload_n dX0_add_21 rfl ?_
    refine P_get dX0_add_22 flX0_14 (hF1.at h2 (by omega)) rfl ?_
    refine P_aload_n dX0_add_25 rfl ?_
    refine P_get dX0_add_26 flX0_20 (hF1.at h2 (by omega)) rfl ?_
    refine P_iconst dX0_add_29 ci_1 ?_
    refine P_iload_n dX0_add_30 rfl ?_
    refine P_i2l dX0_add_31 ?_
    refine P_callV dX0_add_32 lkX0_28 okX1_put ⟨Nat.le_of_ble_eq_true rfl, Nat.le_of_ble_eq_true rfl⟩ (t_put (c := 1) l c1 hc (by decide)) rfl rfl c1.1 (Nat.le_of_ble_eq_true rfl) ⟨Nat.le_of_ble_eq_true rfl, Nat.le_of_ble_eq_true rfl⟩ (fun v32 G32 q32 => ?_)
    obtain ⟨rfl, c2, hG2⟩ := q32
    have hF2 := hF1.tr hG2
    refine P_aload_n dX0_add_35 rfl ?_
    refine P_get dX0_add_36 flX0_14 (hF2.at h2 (by omega)) rfl ?_
    refine P_aload_n dX0_add_39 rfl ?_
    refine P_get dX0_add_40 flX0_20 (hF2.at h2 (by omega)) rfl ?_
    refine P_iconst dX0_add_43 ci_2 ?_
    refine P_lload_n dX0_add_44 rfl ?_
    refine P_callV dX0_add_45 lkX0_28 okX1_put ⟨Nat.le_of_ble_eq_true rfl, Nat.le_of_ble_eq_true rfl⟩ (t_put (c := 2) l c2 hc (by decide)) rfl rfl c2.1 (Nat.le_of_ble_eq_true rfl) ⟨Nat.le_of_ble_eq_true rfl, Nat.le_of_ble_eq_true rfl⟩ (fun v45 G45 q45 => ?_)
    obtain ⟨rfl, c3, hG3⟩ := q45
    have hF3 := hF2.tr hG3
    refine P_aload_n dX0_add_48 rfl ?_
    refine P_dup dX0_add_49 rfl ?_
    refine P_get dX0_add_50 flX0_20 (hF3.at h2 (by omega)) rfl ?_
    refine P_iconst dX0_add_53 ci_1 ?_
    refine P_iadd dX0_add_54 ?_
    rw [nI_1]
    refine P_putI dX0_add_55 flX0_20 (hF3.at h2 (by omega)) (Nat.le_of_ble_eq_true rfl) ?_
    exact P_vret dX0_add_58 rfl ⟨Nat.le_refl _, Nat.le_refl _⟩ ⟨rfl, ⟨hc, set_at (hF3.at h2 (by omega)), _, c3.fr (Fr.set (a := h) (n := 1) (by omega) (by omega)) (by omega), bkA_ok h4 hr ht⟩, (hF3.wide (by omega) (by omega)).tr (Fr.set (by omega) (by omega))⟩
set_option maxRecDepth 100000 in
theorem lp_wrong (l : Launch) {G : PH} {h a b c : Nat} {bk : Bk} {ρ : Riv} (k : isBook G h c bk) (hR : isRiver G a ρ) (hq : ran G b ρ) : ∀ (n : Nat) (i : Nat), c - i < n → i ≤ c → wrS ρ bk (c - i) i = wrS ρ bk c 0 → WP mX0_firstWrong l (rmM mX0_firstWrong 0 0) (ZM 0 0 (fun w G' => w = some (.int (wrS ρ bk c 0)) ∧ G' = G)) XT 0 0 2 [some (.ref h), some (.ref a), some (.ref b), some (.int (nI i)), none, none, none] [] G := by
  intro n
  induction n with
  | zero => intro i hn hi hE; exact absurd hn (Nat.not_lt_zero _)
  | succ n ih =>
    intro i hn hi hE
    have hb := hR.bd; have hN : rN ρ ≤ 6 := hb.2.2.2.2; have hT : rT ρ ≤ 24 := hb.2.1
    obtain ⟨h1, h2, f, h3, h4⟩ := id k
    refine P_iload_n dX0_firstWrong_2 rfl ?_
    refine P_aload_n dX0_firstWrong_3 rfl ?_
    refine P_get dX0_firstWrong_4 flX0_20 h2 rfl ?_
    refine P_icmp_ge (tgt := 93) dX0_firstWrong_7 (by decide) (fun c7 => ?_) (fun c7 => ?_)
    · have hi2 : i = c := Nat.le_antisymm hi (Nat.not_lt.mp fun q => nI_ge q (by omega) c7)
      subst hi2
      rw [Nat.sub_self] at hE
      have hE : (-1 : Int32) = wrS ρ bk i 0 := hE
      refine P_iconst dX0_firstWrong_93 ci_m1 ?_
      exact P_iret dX0_firstWrong_94 rfl ⟨Nat.le_refl _, Nat.le_refl _⟩ ⟨by rw [← hE], rfl⟩
    · have hlt : i < c := Nat.not_le.mp fun q => c7 (nI_le q (by omega))
      obtain ⟨e1, e2, e3, e4, e5⟩ := h4 i hlt
      obtain ⟨g, hg⟩ : ∃ g, c - i = g + 1 := ⟨c - i - 1, by omega⟩
      rw [hg] at hE
      refine P_aload_n dX0_firstWrong_10 rfl ?_
      refine P_get dX0_firstWrong_11 flX0_14 h2 rfl ?_
      refine P_iload_n dX0_firstWrong_14 rfl ?_
      refine P_iconst dX0_firstWrong_15 ci_0 ?_
      refine P_callVp dX0_firstWrong_16 lkX0_32 okX1_at ⟨Nat.le_of_ble_eq_true rfl, Nat.le_of_ble_eq_true rfl⟩ (t_at (c := 0) l h3 (by omega) (by decide)) rfl rfl h3.1 (Nat.le_of_ble_eq_true rfl) ⟨Nat.le_of_ble_eq_true rfl, Nat.le_of_ble_eq_true rfl⟩ ?_
      rw [e3]
      refine P_l2i dX0_firstWrong_19 ?_
      rw [i64_32]
      refine P_istore (L' := [_, _, _, _, _, _, _]) dX0_firstWrong_20 (Nat.le_of_ble_eq_true rfl) rfl ?_
      refine P_aload_n dX0_firstWrong_22 rfl ?_
      refine P_get dX0_firstWrong_23 flX0_14 h2 rfl ?_
      refine P_iload_n dX0_firstWrong_26 rfl ?_
      refine P_iconst dX0_firstWrong_27 ci_1 ?_
      refine P_callVp dX0_firstWrong_28 lkX0_32 okX1_at ⟨Nat.le_of_ble_eq_true rfl, Nat.le_of_ble_eq_true rfl⟩ (t_at (c := 1) l h3 (by omega) (by decide)) rfl rfl h3.1 (Nat.le_of_ble_eq_true rfl) ⟨Nat.le_of_ble_eq_true rfl, Nat.le_of_ble_eq_true rfl⟩ ?_
      rw [e4]
      refine P_l2i dX0_firstWrong_31 ?_
      rw [i64_32]
      refine P_istore (L' := [_, _, _, _, _, _, _]) dX0_firstWrong_32 (Nat.le_of_ble_eq_true rfl) rfl ?_
      refine P_aload_n dX0_firstWrong_34 rfl ?_
      refine P_iload dX0_firstWrong_35 rfl ?_
      refine P_callVp dX0_firstWrong_37 lkX0_36 okX6_hasReach ⟨Nat.le_of_ble_eq_true rfl, Nat.le_of_ble_eq_true rfl⟩ (t_hasReach l hR) rfl rfl hR.at (Nat.le_of_ble_eq_true rfl) ⟨Nat.le_of_ble_eq_true rfl, Nat.le_of_ble_eq_true rfl⟩ ?_
      refine P_if_eq (tgt := 56) dX0_firstWrong_40 (by decide) (fun c40 => ?_) (fun c40 => ?_)
      · have hno : ¬ (bk i).1 < rN ρ := fun z => (b2p _).mp c40 (inN_nI z (by omega))
        have hw : wrP ρ (bk i) := Or.inl (fun z => hno z.1)
        refine P_iconst dX0_firstWrong_56 ci_0 ?_
        refine P_istore (L' := [_, _, _, _, _, _, _]) dX0_firstWrong_57 (Nat.le_of_ble_eq_true rfl) rfl ?_
        refine P_iload dX0_firstWrong_59 rfl ?_
        refine P_if_eq (tgt := 85) dX0_firstWrong_61 (by decide) (fun c61 => ?_) (fun c61 => absurd rfl c61)
        refine P_iload_n dX0_firstWrong_85 rfl ?_
        exact P_iret dX0_firstWrong_86 rfl ⟨Nat.le_refl _, Nat.le_refl _⟩ ⟨by rw [← hE]; exact congrArg (fun z => some (Value.int z)) (if_pos hw).symm, rfl⟩
      · have hy := Classical.not_not.mp (fun z => c40 ((b2p _).mpr z))
        have hrN : (bk i).1 < rN ρ := Nat.not_le.mp fun z => hy.2 (nI_le z e1)
        refine P_aload_n dX0_firstWrong_43 rfl ?_
        refine P_iload dX0_firstWrong_44 rfl ?_
        refine P_callVp dX0_firstWrong_46 lkX0_42 okX6_hasTime ⟨Nat.le_of_ble_eq_true rfl, Nat.le_of_ble_eq_true rfl⟩ (t_hasTime l hR) rfl rfl hR.at (Nat.le_of_ble_eq_true rfl) ⟨Nat.le_of_ble_eq_true rfl, Nat.le_of_ble_eq_true rfl⟩ ?_
        refine P_if_eq (tgt := 56) dX0_firstWrong_49 (by decide) (fun c49 => ?_) (fun c49 => ?_)
        · have hno : ¬ (bk i).2.1 < rT ρ := fun z => (b2p _).mp c49 (inN_nI z (by omega))
          have hw : wrP ρ (bk i) := Or.inl (fun z => hno z.2)
          refine P_iconst dX0_firstWrong_56 ci_0 ?_
          refine P_istore (L' := [_, _, _, _, _, _, _]) dX0_firstWrong_57 (Nat.le_of_ble_eq_true rfl) rfl ?_
          refine P_iload dX0_firstWrong_59 rfl ?_
          refine P_if_eq (tgt := 85) dX0_firstWrong_61 (by decide) (fun c61 => ?_) (fun c61 => absurd rfl c61)
          refine P_iload_n dX0_firstWrong_85 rfl ?_
          exact P_iret dX0_firstWrong_86 rfl ⟨Nat.le_refl _, Nat.le_refl _⟩ ⟨by rw [← hE]; exact congrArg (fun z => some (Value.int z)) (if_pos hw).symm, rfl⟩
        · have hy2 := Classical.not_not.mp (fun z => c49 ((b2p _).mpr z))
          have htT : (bk i).2.1 < rT ρ := Nat.not_le.mp fun z => hy2.2 (nI_le z e2)
          refine P_iconst dX0_firstWrong_52 ci_1 ?_
          refine P_goto (tgt := 57) dX0_firstWrong_53 (by decide) ?_
          refine P_istore (L' := [_, _, _, _, _, _, _]) dX0_firstWrong_57 (Nat.le_of_ble_eq_true rfl) rfl ?_
          refine P_iload dX0_firstWrong_59 rfl ?_
          refine P_if_eq (tgt := 85) dX0_firstWrong_61 (by decide) (fun c61 => ?_) (fun c61 => ?_)
          · exact absurd c61 (by decide)
          · refine P_aload_n dX0_firstWrong_64 rfl ?_
            refine P_iload dX0_firstWrong_65 rfl ?_
            refine P_iload dX0_firstWrong_67 rfl ?_
            refine P_callVp dX0_firstWrong_69 lkX0_45 okX7_outAt ⟨Nat.le_of_ble_eq_true rfl, Nat.le_of_ble_eq_true rfl⟩ (t_outAt l hq hb hrN htT) rfl rfl hq.at (Nat.le_of_ble_eq_true rfl) ⟨Nat.le_of_ble_eq_true rfl, Nat.le_of_ble_eq_true rfl⟩ ?_
            refine P_aload_n dX0_firstWrong_72 rfl ?_
            refine P_get dX0_firstWrong_73 flX0_14 h2 rfl ?_
            refine P_iload_n dX0_firstWrong_76 rfl ?_
            refine P_iconst dX0_firstWrong_77 ci_2 ?_
            refine P_callVp dX0_firstWrong_78 lkX0_32 okX1_at ⟨Nat.le_of_ble_eq_true rfl, Nat.le_of_ble_eq_true rfl⟩ (t_at (c := 2) l h3 (by omega) (by decide)) rfl rfl h3.1 (Nat.le_of_ble_eq_true rfl) ⟨Nat.le_of_ble_eq_true rfl, Nat.le_of_ble_eq_true rfl⟩ ?_
            rw [e5]
            refine P_lcmp dX0_firstWrong_81 ?_
            refine P_if_eq (tgt := 87) dX0_firstWrong_82 (by decide) (fun c82 => ?_) (fun c82 => ?_)
            · rw [lg_cmp_eq] at c82
              have hw : ¬ wrP ρ (bk i) := fun z => z.elim (fun y => y ⟨hrN, htT⟩) (fun y => y c82)
              refine P_iinc (L' := [_, _, _, _, _, _, _]) dX0_firstWrong_87 rfl (ii_1 _) (Nat.le_of_ble_eq_true rfl) rfl ?_
              rw [nI_1]
              refine P_goto (tgt := 2) dX0_firstWrong_90 (by decide) ?_
              refine P_loc ?_ (ih (i + 1) (by omega) hlt ?_)
              · simp only [subL, List.head?_cons, List.tail_cons]; and_intros <;> first | rfl | trivial
              · rw [← hE, show c - (i + 1) = g by omega]; exact (if_neg hw).symm
            · rw [lg_cmp_eq] at c82
              have hw : wrP ρ (bk i) := Or.inr c82
              refine P_iload_n dX0_firstWrong_85 rfl ?_
              exact P_iret dX0_firstWrong_86 rfl ⟨Nat.le_refl _, Nat.le_refl _⟩ ⟨by rw [← hE]; exact congrArg (fun z => some (Value.int z)) (if_pos hw).symm, rfl⟩
theorem t_firstWrong (l : Launch) {G : PH} {h a b c : Nat} {bk : Bk} {ρ : Riv} (k : isBook G h c bk) (hR : isRiver G a ρ) (hq : ran G b ρ) : Tri l mX0_firstWrong 0 0 [.ref h, .ref a, .ref b] G (fun w G' => w = some (.int (wrS ρ bk c 0)) ∧ G' = G) := by
  refine Tri.intro (L := [_, _, _, _, _, _, _]) okX0_firstWrong.1 (Nat.le_of_ble_eq_true rfl) rfl ?_
  refine P_iconst dX0_firstWrong_0 ci_0 ?_
  refine P_istore_n (L' := [_, _, _, _, _, _, _]) dX0_firstWrong_1 (Nat.le_of_ble_eq_true rfl) rfl ?_
  exact P_loc (by simp only [subL, List.head?_cons, List.tail_cons]; and_intros <;> first | rfl | trivial) (lp_wrong l k hR hq (c + 1) 0 (by omega) (Nat.zero_le _) (by rw [Nat.sub_zero]))
