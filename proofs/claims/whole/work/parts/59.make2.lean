/-- the cells of a river that is new -/
def nRv (h : Nat) : PH := [oR h 12 1 0, oC (h + 2) 6 4, aJ 24 (fun _ => 0), oC (h + 4) 6 24, aJ 144 (fun _ => 0), oC (h + 6) 6 24, aJ 144 (fun _ => 0)]
set_option maxHeartbeats 4000000 in
set_option maxRecDepth 100000 in
theorem n_river (l : Launch) {G : PH} {G0 : PH}  : Tri l mX6_init 6 321 [.ref G0.length] (G0 ++ [.inr (6, [.null, .null, .null, .int 0, .int 0, .int 0])]) (fun w G' => w = none ∧ G' = G0 ++ nRv G0.length) := by
  refine Tri.intro (L := [_]) okX6_init.1 (Nat.le_of_ble_eq_true rfl) rfl ?_
  refine P_aload_n dX6_init_0 rfl ?_
  refine P_objInit dX6_init_1 lkX6_3 ⟨Nat.le_of_ble_eq_true rfl, Nat.le_of_ble_eq_true rfl⟩ ?_
  refine P_aload_n dX6_init_4 rfl ?_
  refine P_new (fs := [.null, .int 0, .int 0]) dX6_init_5 clX6_9 inX1 ckX1 (by decide) ⟨Nat.le_of_ble_eq_true rfl, Nat.le_of_ble_eq_true rfl⟩ ?_
  refine P_dup dX6_init_8 rfl ?_
  refine P_bipush dX6_init_9 bp_6 ?_
  refine P_iconst dX6_init_11 ci_4 ?_
  refine P_callI dX6_init_12 lkX6_11 okX1_init ⟨Nat.le_of_ble_eq_true rfl, Nat.le_of_ble_eq_true rfl⟩ (n_cells_6_4 (G := []) l) rfl rfl (Nat.le_of_ble_eq_true rfl) ⟨Nat.le_of_ble_eq_true rfl, Nat.le_of_ble_eq_true rfl⟩ (fun v12 G12 q12 => ?_)
  obtain ⟨rfl, rfl⟩ := q12
  simp only [List.append_assoc, List.cons_append, List.nil_append, List.length_append, List.length_cons, List.length_nil]
  refine P_putFR dX6_init_15 flX6_14 ⟨_, _, rfl⟩ rfl ap_at (Nat.le_of_ble_eq_true rfl) ?_
  rw [ap_set]
  refine P_aload_n dX6_init_18 rfl ?_
  refine P_new (fs := [.null, .int 0, .int 0]) dX6_init_19 clX6_9 inX1 ckX1 (by decide) ⟨Nat.le_of_ble_eq_true rfl, Nat.le_of_ble_eq_true rfl⟩ ?_
  refine P_dup dX6_init_22 rfl ?_
  refine P_bipush dX6_init_23 bp_6 ?_
  refine P_bipush dX6_init_25 bp_24 ?_
  refine P_callI dX6_init_27 lkX6_11 okX1_init ⟨Nat.le_of_ble_eq_true rfl, Nat.le_of_ble_eq_true rfl⟩ (n_cells_6_24 (G := []) l) rfl rfl (Nat.le_of_ble_eq_true rfl) ⟨Nat.le_of_ble_eq_true rfl, Nat.le_of_ble_eq_true rfl⟩ (fun v27 G27 q27 => ?_)
  obtain ⟨rfl, rfl⟩ := q27
  simp only [List.append_assoc, List.cons_append, List.nil_append, List.length_append, List.length_cons, List.length_nil]
  refine P_putFR dX6_init_30 flX6_20 ⟨_, _, rfl⟩ rfl ap_at (Nat.le_of_ble_eq_true rfl) ?_
  rw [ap_set]
  refine P_aload_n dX6_init_33 rfl ?_
  refine P_new (fs := [.null, .int 0, .int 0]) dX6_init_34 clX6_9 inX1 ckX1 (by decide) ⟨Nat.le_of_ble_eq_true rfl, Nat.le_of_ble_eq_true rfl⟩ ?_
  refine P_dup dX6_init_37 rfl ?_
  refine P_bipush dX6_init_38 bp_6 ?_
  refine P_bipush dX6_init_40 bp_24 ?_
  refine P_callI dX6_init_42 lkX6_11 okX1_init ⟨Nat.le_of_ble_eq_true rfl, Nat.le_of_ble_eq_true rfl⟩ (n_cells_6_24 (G := []) l) rfl rfl (Nat.le_of_ble_eq_true rfl) ⟨Nat.le_of_ble_eq_true rfl, Nat.le_of_ble_eq_true rfl⟩ (fun v42 G42 q42 => ?_)
  obtain ⟨rfl, rfl⟩ := q42
  simp only [List.append_assoc, List.cons_append, List.nil_append, List.length_append, List.length_cons, List.length_nil]
  refine P_putFR dX6_init_45 flX6_23 ⟨_, _, rfl⟩ rfl ap_at (Nat.le_of_ble_eq_true rfl) ?_
  rw [ap_set]
  refine P_aload_n dX6_init_48 rfl ?_
  refine P_bipush dX6_init_49 bp_12 ?_
  refine P_putI dX6_init_51 flX6_26 ap_at (Nat.le_of_ble_eq_true rfl) ?_
  rw [ap_set]
  refine P_aload_n dX6_init_54 rfl ?_
  refine P_iconst dX6_init_55 ci_1 ?_
  refine P_putI dX6_init_56 flX6_30 ap_at (Nat.le_of_ble_eq_true rfl) ?_
  rw [ap_set]
  refine P_aload_n dX6_init_59 rfl ?_
  refine P_iconst dX6_init_60 ci_0 ?_
  refine P_putI dX6_init_61 flX6_33 ap_at (Nat.le_of_ble_eq_true rfl) ?_
  rw [ap_set]
  exact P_vret dX6_init_64 rfl ⟨Nat.le_refl _, Nat.le_refl _⟩ ⟨rfl, rfl⟩
