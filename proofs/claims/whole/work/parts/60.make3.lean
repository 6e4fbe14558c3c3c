def nRt (h : Nat) : PH := [oQ h 0 0, oC (h + 2) 6 24, aJ 144 (fun _ => 0), oC (h + 4) 6 24, aJ 144 (fun _ => 0), oC (h + 6) 6 24, aJ 144 (fun _ => 0), oC (h + 8) 1 24, aJ 24 (fun _ => 0), oC (h + 10) 1 24, aJ 24 (fun _ => 0)]
def nTx (h : Nat) : PH := [oT h 0 0 0 (-1) 0 0, aI 200 (fun _ => 0)]
def nBk (h : Nat) : PH := [.inr (0, [.ref (h + 1), .int (nI 0)]), oC (h + 2) 20 3, aJ 60 (fun _ => 0)]
def nIm (h : Nat) : PH := [.inr (4, [.ref (h + 1), .int 0, .int 0])] ++ nRv (h + 1)
set_option maxHeartbeats 4000000 in
set_option maxRecDepth 100000 in
theorem n_routing (l : Launch) {G : PH} {G0 : PH}  : Tri l mX7_init 10 495 [.ref G0.length] (G0 ++ [.inr (7, [.null, .null, .null, .null, .null, .int 0, .int 0])]) (fun w G' => w = none ∧ G' = G0 ++ nRt G0.length) := by
  refine Tri.intro (L := [_]) okX7_init.1 (Nat.le_of_ble_eq_true rfl) rfl ?_
  refine P_aload_n dX7_init_0 rfl ?_
  refine P_objInit dX7_init_1 lkX7_3 ⟨Nat.le_of_ble_eq_true rfl, Nat.le_of_ble_eq_true rfl⟩ ?_
  refine P_aload_n dX7_init_4 rfl ?_
  refine P_new (fs := [.null, .int 0, .int 0]) dX7_init_5 clX7_9 inX1 ckX1 (by decide) ⟨Nat.le_of_ble_eq_true rfl, Nat.le_of_ble_eq_true rfl⟩ ?_
  refine P_dup dX7_init_8 rfl ?_
  refine P_bipush dX7_init_9 bp_6 ?_
  refine P_bipush dX7_init_11 bp_24 ?_
  refine P_callI dX7_init_13 lkX7_11 okX1_init ⟨Nat.le_of_ble_eq_true rfl, Nat.le_of_ble_eq_true rfl⟩ (n_cells_6_24 (G := []) l) rfl rfl (Nat.le_of_ble_eq_true rfl) ⟨Nat.le_of_ble_eq_true rfl, Nat.le_of_ble_eq_true rfl⟩ (fun v13 G13 q13 => ?_)
  obtain ⟨rfl, rfl⟩ := q13
  simp only [List.append_assoc, List.cons_append, List.nil_append, List.length_append, List.length_cons, List.length_nil]
  refine P_putFR dX7_init_16 flX7_14 ⟨_, _, rfl⟩ rfl ap_at (Nat.le_of_ble_eq_true rfl) ?_
  rw [ap_set]
  refine P_aload_n dX7_init_19 rfl ?_
  refine P_new (fs := [.null, .int 0, .int 0]) dX7_init_20 clX7_9 inX1 ckX1 (by decide) ⟨Nat.le_of_ble_eq_true rfl, Nat.le_of_ble_eq_true rfl⟩ ?_
  refine P_dup dX7_init_23 rfl ?_
  refine P_bipush dX7_init_24 bp_6 ?_
  refine P_bipush dX7_init_26 bp_24 ?_
  refine P_callI dX7_init_28 lkX7_11 okX1_init ⟨Nat.le_of_ble_eq_true rfl, Nat.le_of_ble_eq_true rfl⟩ (n_cells_6_24 (G := []) l) rfl rfl (Nat.le_of_ble_eq_true rfl) ⟨Nat.le_of_ble_eq_true rfl, Nat.le_of_ble_eq_true rfl⟩ (fun v28 G28 q28 => ?_)
  obtain ⟨rfl, rfl⟩ := q28
  simp only [List.append_assoc, List.cons_append, List.nil_append, List.length_append, List.length_cons, List.length_nil]
  refine P_putFR dX7_init_31 flX7_20 ⟨_, _, rfl⟩ rfl ap_at (Nat.le_of_ble_eq_true rfl) ?_
  rw [ap_set]
  refine P_aload_n dX7_init_34 rfl ?_
  refine P_new (fs := [.null, .int 0, .int 0]) dX7_init_35 clX7_9 inX1 ckX1 (by decide) ⟨Nat.le_of_ble_eq_true rfl, Nat.le_of_ble_eq_true rfl⟩ ?_
  refine P_dup dX7_init_38 rfl ?_
  refine P_bipush dX7_init_39 bp_6 ?_
  refine P_bipush dX7_init_41 bp_24 ?_
  refine P_callI dX7_init_43 lkX7_11 okX1_init ⟨Nat.le_of_ble_eq_true rfl, Nat.le_of_ble_eq_true rfl⟩ (n_cells_6_24 (G := []) l) rfl rfl (Nat.le_of_ble_eq_true rfl) ⟨Nat.le_of_ble_eq_true rfl, Nat.le_of_ble_eq_true rfl⟩ (fun v43 G43 q43 => ?_)
  obtain ⟨rfl, rfl⟩ := q43
  simp only [List.append_assoc, List.cons_append, List.nil_append, List.length_append, List.length_cons, List.length_nil]
  refine P_putFR dX7_init_46 flX7_23 ⟨_, _, rfl⟩ rfl ap_at (Nat.le_of_ble_eq_true rfl) ?_
  rw [ap_set]
  refine P_aload_n dX7_init_49 rfl ?_
  refine P_new (fs := [.null, .int 0, .int 0]) dX7_init_50 clX7_9 inX1 ckX1 (by decide) ⟨Nat.le_of_ble_eq_true rfl, Nat.le_of_ble_eq_true rfl⟩ ?_
  refine P_dup dX7_init_53 rfl ?_
  refine P_iconst dX7_init_54 ci_1 ?_
  refine P_bipush dX7_init_55 bp_24 ?_
  refine P_callI dX7_init_57 lkX7_11 okX1_init ⟨Nat.le_of_ble_eq_true rfl, Nat.le_of_ble_eq_true rfl⟩ (n_cells_1_24 (G := []) l) rfl rfl (Nat.le_of_ble_eq_true rfl) ⟨Nat.le_of_ble_eq_true rfl, Nat.le_of_ble_eq_true rfl⟩ (fun v57 G57 q57 => ?_)
  obtain ⟨rfl, rfl⟩ := q57
  simp only [List.append_assoc, List.cons_append, List.nil_append, List.length_append, List.length_cons, List.length_nil]
  refine P_putFR dX7_init_60 flX7_26 ⟨_, _, rfl⟩ rfl ap_at (Nat.le_of_ble_eq_true rfl) ?_
  rw [ap_set]
  refine P_aload_n dX7_init_63 rfl ?_
  refine P_new (fs := [.null, .int 0, .int 0]) dX7_init_64 clX7_9 inX1 ckX1 (by decide) ⟨Nat.le_of_ble_eq_true rfl, Nat.le_of_ble_eq_true rfl⟩ ?_
  refine P_dup dX7_init_67 rfl ?_
  refine P_iconst dX7_init_68 ci_1 ?_
  refine P_bipush dX7_init_69 bp_24 ?_
  refine P_callI dX7_init_71 lkX7_11 okX1_init ⟨Nat.le_of_ble_eq_true rfl, Nat.le_of_ble_eq_true rfl⟩ (n_cells_1_24 (G := []) l) rfl rfl (Nat.le_of_ble_eq_true rfl) ⟨Nat.le_of_ble_eq_true rfl, Nat.le_of_ble_eq_true rfl⟩ (fun v71 G71 q71 => ?_)
  obtain ⟨rfl, rfl⟩ := q71
  simp only [List.append_assoc, List.cons_append, List.nil_append, List.length_append, List.length_cons, List.length_nil]
  refine P_putFR dX7_init_74 flX7_29 ⟨_, _, rfl⟩ rfl ap_at (Nat.le_of_ble_eq_true rfl) ?_
  rw [ap_set]
  refine P_aload_n dX7_init_77 rfl ?_
  refine P_iconst dX7_init_78 ci_0 ?_
  refine P_putI dX7_init_79 flX7_32 ap_at (Nat.le_of_ble_eq_true rfl) ?_
  rw [ap_set]
  refine P_aload_n dX7_init_82 rfl ?_
  refine P_iconst dX7_init_83 ci_0 ?_
  refine P_putI dX7_init_84 flX7_36 ap_at (Nat.le_of_ble_eq_true rfl) ?_
  rw [ap_set]
  exact P_vret dX7_init_87 rfl ⟨Nat.le_refl _, Nat.le_refl _⟩ ⟨rfl, rfl⟩
theorem n_fitting (l : Launch) {G : PH} {G0 : PH}  : Tri l mX3_init 0 0 [.ref G0.length] (G0 ++ [.inr (3, [.int 0, .int 0, .long 0])]) (fun w G' => w = none ∧ G' = G0 ++ [oB 0 0 0]) := by
  refine Tri.intro (L := [_]) okX3_init.1 (Nat.le_of_ble_eq_true rfl) rfl ?_
  refine P_aload_n dX3_init_0 rfl ?_
  refine P_objInit dX3_init_1 lkX3_3 ⟨Nat.le_of_ble_eq_true rfl, Nat.le_of_ble_eq_true rfl⟩ ?_
  refine P_aload_n dX3_init_4 rfl ?_
  refine P_iconst dX3_init_5 ci_0 ?_
  refine P_putI dX3_init_6 flX3_9 ap_at (Nat.le_of_ble_eq_true rfl) ?_
  rw [ap_set]
  refine P_aload_n dX3_init_9 rfl ?_
  refine P_iconst dX3_init_10 ci_0 ?_
  refine P_putI dX3_init_11 flX3_15 ap_at (Nat.le_of_ble_eq_true rfl) ?_
  rw [ap_set]
  refine P_aload_n dX3_init_14 rfl ?_
  refine P_lconst dX3_init_15 lc_0 ?_
  refine P_putJ dX3_init_16 flX3_18 ap_at (Nat.le_of_ble_eq_true rfl) ?_
  rw [ap_set]
  exact P_vret dX3_init_19 rfl ⟨Nat.le_refl _, Nat.le_refl _⟩ ⟨rfl, rfl⟩
set_option maxHeartbeats 4000000 in
set_option maxRecDepth 100000 in
theorem n_text (l : Launch) {G : PH} {G0 : PH}  : Tri l mX8_init 1 200 [.ref G0.length] (G0 ++ [.inr (8, [.null, .int 0, .int 0, .int 0, .int 0, .int 0, .int 0])]) (fun w G' => w = none ∧ G' = G0 ++ nTx G0.length) := by
  refine Tri.intro (L := [_]) okX8_init.1 (Nat.le_of_ble_eq_true rfl) rfl ?_
  refine P_aload_n dX8_init_0 rfl ?_
  refine P_objInit dX8_init_1 lkX8_3 ⟨Nat.le_of_ble_eq_true rfl, Nat.le_of_ble_eq_true rfl⟩ ?_
  refine P_aload_n dX8_init_4 rfl ?_
  refine P_sipush dX8_init_5 sp_200 ?_
  refine P_newa (k := 0) (n0 := 200) (a0 := (200, .inl (fun _ => 0))) dX8_init_8 rfl ac_int (fun _ => rfl) (fun _ h => by cases h) (fun _ _ => rfl) (by decide) (by decide) (by decide) ⟨Nat.le_of_ble_eq_true rfl, Nat.le_of_ble_eq_true rfl⟩ ?_
  simp only [List.append_assoc, List.cons_append, List.nil_append, List.length_append, List.length_cons, List.length_nil]
  refine P_putFA dX8_init_10 flX8_9 ⟨_, _, rfl⟩ rfl ap_at (Nat.le_of_ble_eq_true rfl) ?_
  rw [ap_set]
  refine P_aload_n dX8_init_13 rfl ?_
  refine P_iconst dX8_init_14 ci_0 ?_
  refine P_putI dX8_init_15 flX8_15 ap_at (Nat.le_of_ble_eq_true rfl) ?_
  rw [ap_set]
  refine P_aload_n dX8_init_18 rfl ?_
  refine P_iconst dX8_init_19 ci_0 ?_
  refine P_putI dX8_init_20 flX8_19 ap_at (Nat.le_of_ble_eq_true rfl) ?_
  rw [ap_set]
  refine P_aload_n dX8_init_23 rfl ?_
  refine P_iconst dX8_init_24 ci_0 ?_
  refine P_putI dX8_init_25 flX8_22 ap_at (Nat.le_of_ble_eq_true rfl) ?_
  rw [ap_set]
  refine P_aload_n dX8_init_28 rfl ?_
  refine P_iconst dX8_init_29 ci_m1 ?_
  refine P_putI dX8_init_30 flX8_25 ap_at (Nat.le_of_ble_eq_true rfl) ?_
  rw [ap_set]
  refine P_aload_n dX8_init_33 rfl ?_
  refine P_iconst dX8_init_34 ci_0 ?_
  refine P_putZ dX8_init_35 flX8_28 ap_at (Nat.le_of_ble_eq_true rfl) (by first | exact Or.inl rfl | exact Or.inr rfl) ?_
  rw [ap_set]
  refine P_aload_n dX8_init_38 rfl ?_
  refine P_iconst dX8_init_39 ci_0 ?_
  refine P_putZ dX8_init_40 flX8_32 ap_at (Nat.le_of_ble_eq_true rfl) (by first | exact Or.inl rfl | exact Or.inr rfl) ?_
  rw [ap_set]
  exact P_vret dX8_init_43 rfl ⟨Nat.le_refl _, Nat.le_refl _⟩ ⟨rfl, rfl⟩
set_option maxHeartbeats 4000000 in
set_option maxRecDepth 100000 in
theorem n_book (l : Launch) {G : PH} {G0 : PH}  : Tri l mX0_init 2 63 [.ref G0.length] (G0 ++ [.inr (0, [.null, .int 0])]) (fun w G' => w = none ∧ G' = G0 ++ nBk G0.length) := by
  refine Tri.intro (L := [_]) okX0_init.1 (Nat.le_of_ble_eq_true rfl) rfl ?_
  refine P_aload_n dX0_init_0 rfl ?_
  refine P_objInit dX0_init_1 lkX0_3 ⟨Nat.le_of_ble_eq_true rfl, Nat.le_of_ble_eq_true rfl⟩ ?_
  refine P_aload_n dX0_init_4 rfl ?_
  refine P_new (fs := [.null, .int 0, .int 0]) dX0_init_5 clX0_9 inX1 ckX1 (by decide) ⟨Nat.le_of_ble_eq_true rfl, Nat.le_of_ble_eq_true rfl⟩ ?_
  refine P_dup dX0_init_8 rfl ?_
  refine P_bipush dX0_init_9 bp_20 ?_
  refine P_iconst dX0_init_11 ci_3 ?_
  refine P_callI dX0_init_12 lkX0_11 okX1_init ⟨Nat.le_of_ble_eq_true rfl, Nat.le_of_ble_eq_true rfl⟩ (n_cells_20_3 (G := []) l) rfl rfl (Nat.le_of_ble_eq_true rfl) ⟨Nat.le_of_ble_eq_true rfl, Nat.le_of_ble_eq_true rfl⟩ (fun v12 G12 q12 => ?_)
  obtain ⟨rfl, rfl⟩ := q12
  simp only [List.append_assoc, List.cons_append, List.nil_append, List.length_append, List.length_cons, List.length_nil]
  refine P_putFR dX0_init_15 flX0_14 ⟨_, _, rfl⟩ rfl ap_at (Nat.le_of_ble_eq_true rfl) ?_
  rw [ap_set]
  refine P_aload_n dX0_init_18 rfl ?_
  refine P_iconst dX0_init_19 ci_0 ?_
  refine P_putI dX0_init_20 flX0_20 ap_at (Nat.le_of_ble_eq_true rfl) ?_
  rw [ap_set]
  exact P_vret dX0_init_23 rfl ⟨Nat.le_refl _, Nat.le_refl _⟩ ⟨rfl, rfl⟩
theorem n_draws (l : Launch) {G : PH} {G0 : PH}  : Tri l mX2_init 0 0 [.ref G0.length] (G0 ++ [.inr (2, [.int 0])]) (fun w G' => w = none ∧ G' = G0 ++ [oW 0]) := by
  refine Tri.intro (L := [_]) okX2_init.1 (Nat.le_of_ble_eq_true rfl) rfl ?_
  refine P_aload_n dX2_init_0 rfl ?_
  refine P_objInit dX2_init_1 lkX2_1 ⟨Nat.le_of_ble_eq_true rfl, Nat.le_of_ble_eq_true rfl⟩ ?_
  refine P_aload_n dX2_init_4 rfl ?_
  refine P_iconst dX2_init_5 ci_0 ?_
  refine P_putI dX2_init_6 flX2_7 ap_at (Nat.le_of_ble_eq_true rfl) ?_
  rw [ap_set]
  exact P_vret dX2_init_9 rfl ⟨Nat.le_refl _, Nat.le_refl _⟩ ⟨rfl, rfl⟩
set_option maxHeartbeats 4000000 in
set_option maxRecDepth 100000 in
theorem n_image (l : Launch) {G : PH} {G0 : PH}  : Tri l mX4_init 7 327 [.ref G0.length] (G0 ++ [.inr (4, [.null, .int 0, .int 0])]) (fun w G' => w = none ∧ G' = G0 ++ nIm G0.length) := by
  refine Tri.intro (L := [_]) okX4_init.1 (Nat.le_of_ble_eq_true rfl) rfl ?_
  refine P_aload_n dX4_init_0 rfl ?_
  refine P_objInit dX4_init_1 lkX4_1 ⟨Nat.le_of_ble_eq_true rfl, Nat.le_of_ble_eq_true rfl⟩ ?_
  refine P_aload_n dX4_init_4 rfl ?_
  refine P_new (fs := [.null, .null, .null, .int 0, .int 0, .int 0]) dX4_init_5 clX4_7 inX6 ckX6 (by decide) ⟨Nat.le_of_ble_eq_true rfl, Nat.le_of_ble_eq_true rfl⟩ ?_
  refine P_dup dX4_init_8 rfl ?_
  refine P_callI dX4_init_9 lkX4_9 okX6_init ⟨Nat.le_of_ble_eq_true rfl, Nat.le_of_ble_eq_true rfl⟩ (n_river (G := []) l) rfl rfl (Nat.le_of_ble_eq_true rfl) ⟨Nat.le_of_ble_eq_true rfl, Nat.le_of_ble_eq_true rfl⟩ (fun v9 G9 q9 => ?_)
  obtain ⟨rfl, rfl⟩ := q9
  simp only [List.append_assoc, List.cons_append, List.nil_append, List.length_append, List.length_cons, List.length_nil]
  refine P_putFR dX4_init_12 flX4_10 ⟨_, _, rfl⟩ rfl ap_at (Nat.le_of_ble_eq_true rfl) ?_
  rw [ap_set]
  refine P_aload_n dX4_init_15 rfl ?_
  refine P_iconst dX4_init_16 ci_0 ?_
  refine P_putI dX4_init_17 flX4_16 ap_at (Nat.le_of_ble_eq_true rfl) ?_
  rw [ap_set]
  refine P_aload_n dX4_init_20 rfl ?_
  refine P_iconst dX4_init_21 ci_0 ?_
  refine P_putZ dX4_init_22 flX4_20 ap_at (Nat.le_of_ble_eq_true rfl) (by first | exact Or.inl rfl | exact Or.inr rfl) ?_
  rw [ap_set]
  exact P_vret dX4_init_25 rfl ⟨Nat.le_refl _, Nat.le_refl _⟩ ⟨rfl, rfl⟩
