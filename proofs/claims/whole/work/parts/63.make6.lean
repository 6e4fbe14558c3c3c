def nMd (h : Nat) : PH := [.inr (10, [.ref (h + 1), .ref (h + 2), .int 0, .ref (h + 3), .ref (h + 4), .int 0, .ref (h + 5), .ref (h + 6), .ref (h + 7), .int 0, .ref (h + 8), .int 0, .int (-1), .ref (h + 9), .ref (h + 10), .ref (h + 11), .ref (h + 12), .ref (h + 13), .ref (h + 14), .ref (h + 15), .int 0, .int 0, .ref (h + 16), .int 0, .int 0, .int 0, .int 0, .int 0, .int 0]), aI 315 (upd (upd (fun _ => 0) 0 12) 1 1), aI 5040 (fun _ => 0), aI 632 (fun _ => 0), aZ 2 (fun _ => 0), aI 20 (fun _ => 0), aI 20 (fun _ => 0), aJ 20 (fun _ => 0), aI 200 (fun _ => 0), aJ 144 (fun _ => 0), aJ 144 (fun _ => 0), aJ 144 (fun _ => 0), aJ 24 (fun _ => 0), aJ 24 (fun _ => 0), aJ 24 (fun _ => 0), aJ 24 (fun _ => 0), aI 315 (fun _ => 0)]
set_option maxHeartbeats 4000000 in
set_option maxRecDepth 100000 in
theorem n_model (l : Launch) {G : PH} {G0 : PH}  : Tri l mX10_init 16 7092 [.ref G0.length] (G0 ++ [.inr (10, [.null, .null, .int 0, .null, .null, .int 0, .null, .null, .null, .int 0, .null, .int 0, .int 0, .null, .null, .null, .null, .null, .null, .null, .int 0, .int 0, .null, .int 0, .int 0, .int 0, .int 0, .int 0, .int 0])]) (fun w G' => w = none ∧ G' = G0 ++ nMd G0.length) := by
  refine Tri.intro (L := [_]) okX10_init.1 (Nat.le_of_ble_eq_true rfl) rfl ?_
  refine P_aload_n dX10_init_0 rfl ?_
  refine P_objInit dX10_init_1 lkX10_1 ⟨Nat.le_of_ble_eq_true rfl, Nat.le_of_ble_eq_true rfl⟩ ?_
  refine P_aload_n dX10_init_4 rfl ?_
  refine P_sipush dX10_init_5 sp_315 ?_
  refine P_newa (k := 0) (n0 := 315) (a0 := (315, .inl (fun _ => 0))) dX10_init_8 rfl ac_int (fun _ => rfl) (fun _ h => by cases h) (fun _ _ => rfl) (by decide) (by decide) (by decide) ⟨Nat.le_of_ble_eq_true rfl, Nat.le_of_ble_eq_true rfl⟩ ?_
  simp only [List.append_assoc, List.cons_append, List.nil_append, List.length_append, List.length_cons, List.length_nil]
  refine P_putFA dX10_init_10 flX10_7 ⟨_, _, rfl⟩ rfl ap_at (Nat.le_of_ble_eq_true rfl) ?_
  rw [ap_set]
  refine P_aload_n dX10_init_13 rfl ?_
  refine P_sipush dX10_init_14 sp_5040 ?_
  refine P_newa (k := 0) (n0 := 5040) (a0 := (5040, .inl (fun _ => 0))) dX10_init_17 rfl ac_int (fun _ => rfl) (fun _ h => by cases h) (fun _ _ => rfl) (by decide) (by decide) (by decide) ⟨Nat.le_of_ble_eq_true rfl, Nat.le_of_ble_eq_true rfl⟩ ?_
  simp only [List.append_assoc, List.cons_append, List.nil_append, List.length_append, List.length_cons, List.length_nil]
  refine P_putFA dX10_init_19 flX10_13 ⟨_, _, rfl⟩ rfl ap_at (Nat.le_of_ble_eq_true rfl) ?_
  rw [ap_set]
  refine P_aload_n dX10_init_22 rfl ?_
  refine P_sipush dX10_init_23 sp_632 ?_
  refine P_newa (k := 0) (n0 := 632) (a0 := (632, .inl (fun _ => 0))) dX10_init_26 rfl ac_int (fun _ => rfl) (fun _ h => by cases h) (fun _ _ => rfl) (by decide) (by decide) (by decide) ⟨Nat.le_of_ble_eq_true rfl, Nat.le_of_ble_eq_true rfl⟩ ?_
  simp only [List.append_assoc, List.cons_append, List.nil_append, List.length_append, List.length_cons, List.length_nil]
  refine P_putFA dX10_init_28 flX10_16 ⟨_, _, rfl⟩ rfl ap_at (Nat.le_of_ble_eq_true rfl) ?_
  rw [ap_set]
  refine P_aload_n dX10_init_31 rfl ?_
  refine P_iconst dX10_init_32 ci_2 ?_
  refine P_newa (k := 2) (n0 := 2) (a0 := (2, .inl (fun _ => 0))) dX10_init_33 rfl ac_boolean (fun _ => rfl) (fun _ h => by cases h) (fun _ _ => rfl) (by decide) (by decide) (by decide) ⟨Nat.le_of_ble_eq_true rfl, Nat.le_of_ble_eq_true rfl⟩ ?_
  simp only [List.append_assoc, List.cons_append, List.nil_append, List.length_append, List.length_cons, List.length_nil]
  refine P_putFA dX10_init_35 flX10_19 ⟨_, _, rfl⟩ rfl ap_at (Nat.le_of_ble_eq_true rfl) ?_
  rw [ap_set]
  refine P_aload_n dX10_init_38 rfl ?_
  refine P_bipush dX10_init_39 bp_20 ?_
  refine P_newa (k := 0) (n0 := 20) (a0 := (20, .inl (fun _ => 0))) dX10_init_41 rfl ac_int (fun _ => rfl) (fun _ h => by cases h) (fun _ _ => rfl) (by decide) (by decide) (by decide) ⟨Nat.le_of_ble_eq_true rfl, Nat.le_of_ble_eq_true rfl⟩ ?_
  simp only [List.append_assoc, List.cons_append, List.nil_append, List.length_append, List.length_cons, List.length_nil]
  refine P_putFA dX10_init_43 flX10_23 ⟨_, _, rfl⟩ rfl ap_at (Nat.le_of_ble_eq_true rfl) ?_
  rw [ap_set]
  refine P_aload_n dX10_init_46 rfl ?_
  refine P_bipush dX10_init_47 bp_20 ?_
  refine P_newa (k := 0) (n0 := 20) (a0 := (20, .inl (fun _ => 0))) dX10_init_49 rfl ac_int (fun _ => rfl) (fun _ h => by cases h) (fun _ _ => rfl) (by decide) (by decide) (by decide) ⟨Nat.le_of_ble_eq_true rfl, Nat.le_of_ble_eq_true rfl⟩ ?_
  simp only [List.append_assoc, List.cons_append, List.nil_append, List.length_append, List.length_cons, List.length_nil]
  refine P_putFA dX10_init_51 flX10_26 ⟨_, _, rfl⟩ rfl ap_at (Nat.le_of_ble_eq_true rfl) ?_
  rw [ap_set]
  refine P_aload_n dX10_init_54 rfl ?_
  refine P_bipush dX10_init_55 bp_20 ?_
  refine P_newa (k := 1) (n0 := 20) (a0 := (20, .inr (.inl (fun _ => 0)))) dX10_init_57 rfl ac_long (fun _ => rfl) (fun _ h => by cases h) (fun _ _ => rfl) (by decide) (by decide) (by decide) ⟨Nat.le_of_ble_eq_true rfl, Nat.le_of_ble_eq_true rfl⟩ ?_
  simp only [List.append_assoc, List.cons_append, List.nil_append, List.length_append, List.length_cons, List.length_nil]
  refine P_putFA dX10_init_59 flX10_29 ⟨_, _, rfl⟩ rfl ap_at (Nat.le_of_ble_eq_true rfl) ?_
  rw [ap_set]
  refine P_aload_n dX10_init_62 rfl ?_
  refine P_sipush dX10_init_63 sp_200 ?_
  refine P_newa (k := 0) (n0 := 200) (a0 := (200, .inl (fun _ => 0))) dX10_init_66 rfl ac_int (fun _ => rfl) (fun _ h => by cases h) (fun _ _ => rfl) (by decide) (by decide) (by decide) ⟨Nat.le_of_ble_eq_true rfl, Nat.le_of_ble_eq_true rfl⟩ ?_
  simp only [List.append_assoc, List.cons_append, List.nil_append, List.length_append, List.length_cons, List.length_nil]
  refine P_putFA dX10_init_68 flX10_33 ⟨_, _, rfl⟩ rfl ap_at (Nat.le_of_ble_eq_true rfl) ?_
  rw [ap_set]
  refine P_aload_n dX10_init_71 rfl ?_
  refine P_iconst dX10_init_72 ci_m1 ?_
  refine P_putI dX10_init_73 flX10_36 ap_at (Nat.le_of_ble_eq_true rfl) ?_
  rw [ap_set]
  refine P_aload_n dX10_init_76 rfl ?_
  refine P_sipush dX10_init_77 sp_144 ?_
  refine P_newa (k := 1) (n0 := 144) (a0 := (144, .inr (.inl (fun _ => 0)))) dX10_init_80 rfl ac_long (fun _ => rfl) (fun _ h => by cases h) (fun _ _ => rfl) (by decide) (by decide) (by decide) ⟨Nat.le_of_ble_eq_true rfl, Nat.le_of_ble_eq_true rfl⟩ ?_
  simp only [List.append_assoc, List.cons_append, List.nil_append, List.length_append, List.length_cons, List.length_nil]
  refine P_putFA dX10_init_82 flX10_40 ⟨_, _, rfl⟩ rfl ap_at (Nat.le_of_ble_eq_true rfl) ?_
  rw [ap_set]
  refine P_aload_n dX10_init_85 rfl ?_
  refine P_sipush dX10_init_86 sp_144 ?_
  refine P_newa (k := 1) (n0 := 144) (a0 := (144, .inr (.inl (fun _ => 0)))) dX10_init_89 rfl ac_long (fun _ => rfl) (fun _ h => by cases h) (fun _ _ => rfl) (by decide) (by decide) (by decide) ⟨Nat.le_of_ble_eq_true rfl, Nat.le_of_ble_eq_true rfl⟩ ?_
  simp only [List.append_assoc, List.cons_append, List.nil_append, List.length_append, List.length_cons, List.length_nil]
  refine P_putFA dX10_init_91 flX10_43 ⟨_, _, rfl⟩ rfl ap_at (Nat.le_of_ble_eq_true rfl) ?_
  rw [ap_set]
  refine P_aload_n dX10_init_94 rfl ?_
  refine P_sipush dX10_init_95 sp_144 ?_
  refine P_newa (k := 1) (n0 := 144) (a0 := (144, .inr (.inl (fun _ => 0)))) dX10_init_98 rfl ac_long (fun _ => rfl) (fun _ h => by cases h) (fun _ _ => rfl) (by decide) (by decide) (by decide) ⟨Nat.le_of_ble_eq_true rfl, Nat.le_of_ble_eq_true rfl⟩ ?_
  simp only [List.append_assoc, List.cons_append, List.nil_append, List.length_append, List.length_cons, List.length_nil]
  refine P_putFA dX10_init_100 flX10_46 ⟨_, _, rfl⟩ rfl ap_at (Nat.le_of_ble_eq_true rfl) ?_
  rw [ap_set]
  refine P_aload_n dX10_init_103 rfl ?_
  refine P_bipush dX10_init_104 bp_24 ?_
  refine P_newa (k := 1) (n0 := 24) (a0 := (24, .inr (.inl (fun _ => 0)))) dX10_init_106 rfl ac_long (fun _ => rfl) (fun _ h => by cases h) (fun _ _ => rfl) (by decide) (by decide) (by decide) ⟨Nat.le_of_ble_eq_true rfl, Nat.le_of_ble_eq_true rfl⟩ ?_
  simp only [List.append_assoc, List.cons_append, List.nil_append, List.length_append, List.length_cons, List.length_nil]
  refine P_putFA dX10_init_108 flX10_49 ⟨_, _, rfl⟩ rfl ap_at (Nat.le_of_ble_eq_true rfl) ?_
  rw [ap_set]
  refine P_aload_n dX10_init_111 rfl ?_
  refine P_bipush dX10_init_112 bp_24 ?_
  refine P_newa (k := 1) (n0 := 24) (a0 := (24, .inr (.inl (fun _ => 0)))) dX10_init_114 rfl ac_long (fun _ => rfl) (fun _ h => by cases h) (fun _ _ => rfl) (by decide) (by decide) (by decide) ⟨Nat.le_of_ble_eq_true rfl, Nat.le_of_ble_eq_true rfl⟩ ?_
  simp only [List.append_assoc, List.cons_append, List.nil_append, List.length_append, List.length_cons, List.length_nil]
  refine P_putFA dX10_init_116 flX10_52 ⟨_, _, rfl⟩ rfl ap_at (Nat.le_of_ble_eq_true rfl) ?_
  rw [ap_set]
  refine P_aload_n dX10_init_119 rfl ?_
  refine P_bipush dX10_init_120 bp_24 ?_
  refine P_newa (k := 1) (n0 := 24) (a0 := (24, .inr (.inl (fun _ => 0)))) dX10_init_122 rfl ac_long (fun _ => rfl) (fun _ h => by cases h) (fun _ _ => rfl) (by decide) (by decide) (by decide) ⟨Nat.le_of_ble_eq_true rfl, Nat.le_of_ble_eq_true rfl⟩ ?_
  simp only [List.append_assoc, List.cons_append, List.nil_append, List.length_append, List.length_cons, List.length_nil]
  refine P_putFA dX10_init_124 flX10_55 ⟨_, _, rfl⟩ rfl ap_at (Nat.le_of_ble_eq_true rfl) ?_
  rw [ap_set]
  refine P_aload_n dX10_init_127 rfl ?_
  refine P_bipush dX10_init_128 bp_24 ?_
  refine P_newa (k := 1) (n0 := 24) (a0 := (24, .inr (.inl (fun _ => 0)))) dX10_init_130 rfl ac_long (fun _ => rfl) (fun _ h => by cases h) (fun _ _ => rfl) (by decide) (by decide) (by decide) ⟨Nat.le_of_ble_eq_true rfl, Nat.le_of_ble_eq_true rfl⟩ ?_
  simp only [List.append_assoc, List.cons_append, List.nil_append, List.length_append, List.length_cons, List.length_nil]
  refine P_putFA dX10_init_132 flX10_58 ⟨_, _, rfl⟩ rfl ap_at (Nat.le_of_ble_eq_true rfl) ?_
  rw [ap_set]
  refine P_aload_n dX10_init_135 rfl ?_
  refine P_sipush dX10_init_136 sp_315 ?_
  refine P_newa (k := 0) (n0 := 315) (a0 := (315, .inl (fun _ => 0))) dX10_init_139 rfl ac_int (fun _ => rfl) (fun _ h => by cases h) (fun _ _ => rfl) (by decide) (by decide) (by decide) ⟨Nat.le_of_ble_eq_true rfl, Nat.le_of_ble_eq_true rfl⟩ ?_
  simp only [List.append_assoc, List.cons_append, List.nil_append, List.length_append, List.length_cons, List.length_nil]
  refine P_putFA dX10_init_141 flX10_61 ⟨_, _, rfl⟩ rfl ap_at (Nat.le_of_ble_eq_true rfl) ?_
  rw [ap_set]
  refine P_aload_n dX10_init_144 rfl ?_
  refine P_get dX10_init_145 flX10_7 ap_at rfl ?_
  refine P_iconst dX10_init_148 ci_0 ?_
  refine P_bipush dX10_init_149 bp_12 ?_
  refine P_iast dX10_init_151 ap_at1 (vp_in_nI (show 0 < 315 by decide) (by decide)) ?_
  rw [ap_set1, show Int32.toNatClampNeg 0 = 0 from rfl]
  refine P_aload_n dX10_init_152 rfl ?_
  refine P_get dX10_init_153 flX10_7 ap_at rfl ?_
  refine P_iconst dX10_init_156 ci_1 ?_
  refine P_iconst dX10_init_157 ci_1 ?_
  refine P_iast dX10_init_158 ap_at1 (vp_in_nI (show 1 < 315 by decide) (by decide)) ?_
  rw [ap_set1, show Int32.toNatClampNeg 1 = 1 from rfl]
  exact P_vret dX10_init_159 rfl ⟨Nat.le_refl _, Nat.le_refl _⟩ ⟨rfl, rfl⟩
