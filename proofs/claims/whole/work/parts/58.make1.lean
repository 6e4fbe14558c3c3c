/-! lists that grow -/
theorem ap_at {A B : PH} {x : PCell} : (A ++ x :: B)[A.length]? = some x := by
  rw [List.getElem?_append_right (Nat.le_refl _), Nat.sub_self]; rfl
theorem ap_set {A B : PH} {x y : PCell} : (A ++ x :: B).set A.length y = A ++ y :: B := by
  rw [List.set_append_right _ _ (Nat.le_refl _), Nat.sub_self]; rfl
theorem ap_len {A B : PH} {x : PCell} : (A ++ x :: B).length = A.length + 1 + B.length := by
  rw [List.length_append, List.length_cons]; omega
set_option maxHeartbeats 4000000 in
set_option maxRecDepth 100000 in
theorem n_cells_6_4 (l : Launch) {G : PH} {G0 : PH}  : Tri l mX1_init 1 24 [.ref G0.length, .int 6, .int 4] (G0 ++ [.inr (1, [.null, .int 0, .int 0])]) (fun w G' => w = none ∧ G' = G0 ++ [oC (G0.length + 1) 6 4, aJ 24 (fun _ => 0)]) := by
  refine Tri.intro (L := [_, _, _]) okX1_init.1 (Nat.le_of_ble_eq_true rfl) rfl ?_
  refine P_aload_n dX1_init_0 rfl ?_
  refine P_objInit dX1_init_1 lkX1_1 ⟨Nat.le_of_ble_eq_true rfl, Nat.le_of_ble_eq_true rfl⟩ ?_
  refine P_aload_n dX1_init_4 rfl ?_
  refine P_iconst dX1_init_5 ci_0 ?_
  refine P_iload_n dX1_init_6 rfl ?_
  refine P_callSp dX1_init_7 lkX1_7 okJ9_max_7cf53 ⟨Nat.le_of_ble_eq_true rfl, Nat.le_of_ble_eq_true rfl⟩ (t_imax l) rfl rfl (Nat.le_of_ble_eq_true rfl) ⟨Nat.le_of_ble_eq_true rfl, Nat.le_of_ble_eq_true rfl⟩ ?_
  rw [show imax 0 6 = nI 6 from by decide +kernel]
  refine P_putFI dX1_init_10 flX1_13 ⟨_, _, rfl⟩ rfl ap_at (Nat.le_of_ble_eq_true rfl) ?_
  rw [ap_set]
  refine P_aload_n dX1_init_13 rfl ?_
  refine P_iconst dX1_init_14 ci_0 ?_
  refine P_iload_n dX1_init_15 rfl ?_
  refine P_callSp dX1_init_16 lkX1_7 okJ9_max_7cf53 ⟨Nat.le_of_ble_eq_true rfl, Nat.le_of_ble_eq_true rfl⟩ (t_imax l) rfl rfl (Nat.le_of_ble_eq_true rfl) ⟨Nat.le_of_ble_eq_true rfl, Nat.le_of_ble_eq_true rfl⟩ ?_
  rw [show imax 0 4 = nI 4 from by decide +kernel]
  refine P_putFI dX1_init_19 flX1_19 ⟨_, _, rfl⟩ rfl ap_at (Nat.le_of_ble_eq_true rfl) ?_
  rw [ap_set]
  refine P_aload_n dX1_init_22 rfl ?_
  refine P_aload_n dX1_init_23 rfl ?_
  refine P_get dX1_init_24 flX1_13 ap_at rfl ?_
  refine P_aload_n dX1_init_27 rfl ?_
  refine P_get dX1_init_28 flX1_19 ap_at rfl ?_
  refine P_imul dX1_init_31 ?_
  rw [show nI 6 * nI 4 = nI 24 from by decide +kernel]
  refine P_newa (k := 1) (n0 := 24) (a0 := (24, .inr (.inl (fun _ => 0)))) dX1_init_32 rfl ac_long (fun _ => rfl) (fun _ h => by cases h) (fun _ _ => rfl) (by decide) (by decide) (by decide) ⟨Nat.le_of_ble_eq_true rfl, Nat.le_of_ble_eq_true rfl⟩ ?_
  rw [List.append_assoc]
  refine P_putFA dX1_init_34 flX1_22 ⟨_, _, rfl⟩ rfl ap_at (Nat.le_of_ble_eq_true rfl) ?_
  rw [List.cons_append, ap_set]
  exact P_vret dX1_init_37 rfl ⟨Nat.le_refl _, Nat.le_refl _⟩ ⟨rfl, by rw [ap_len]; rfl⟩
set_option maxHeartbeats 4000000 in
set_option maxRecDepth 100000 in
theorem n_cells_6_24 (l : Launch) {G : PH} {G0 : PH}  : Tri l mX1_init 1 144 [.ref G0.length, .int 6, .int 24] (G0 ++ [.inr (1, [.null, .int 0, .int 0])]) (fun w G' => w = none ∧ G' = G0 ++ [oC (G0.length + 1) 6 24, aJ 144 (fun _ => 0)]) := by
  refine Tri.intro (L := [_, _, _]) okX1_init.1 (Nat.le_of_ble_eq_true rfl) rfl ?_
  refine P_aload_n dX1_init_0 rfl ?_
  refine P_objInit dX1_init_1 lkX1_1 ⟨Nat.le_of_ble_eq_true rfl, Nat.le_of_ble_eq_true rfl⟩ ?_
  refine P_aload_n dX1_init_4 rfl ?_
  refine P_iconst dX1_init_5 ci_0 ?_
  refine P_iload_n dX1_init_6 rfl ?_
  refine P_callSp dX1_init_7 lkX1_7 okJ9_max_7cf53 ⟨Nat.le_of_ble_eq_true rfl, Nat.le_of_ble_eq_true rfl⟩ (t_imax l) rfl rfl (Nat.le_of_ble_eq_true rfl) ⟨Nat.le_of_ble_eq_true rfl, Nat.le_of_ble_eq_true rfl⟩ ?_
  rw [show imax 0 6 = nI 6 from by decide +kernel]
  refine P_putFI dX1_init_10 flX1_13 ⟨_, _, rfl⟩ rfl ap_at (Nat.le_of_ble_eq_true rfl) ?_
  rw [ap_set]
  refine P_aload_n dX1_init_13 rfl ?_
  refine P_iconst dX1_init_14 ci_0 ?_
  refine P_iload_n dX1_init_15 rfl ?_
  refine P_callSp dX1_init_16 lkX1_7 okJ9_max_7cf53 ⟨Nat.le_of_ble_eq_true rfl, Nat.le_of_ble_eq_true rfl⟩ (t_imax l) rfl rfl (Nat.le_of_ble_eq_true rfl) ⟨Nat.le_of_ble_eq_true rfl, Nat.le_of_ble_eq_true rfl⟩ ?_
  rw [show imax 0 24 = nI 24 from by decide +kernel]
  refine P_putFI dX1_init_19 flX1_19 ⟨_, _, rfl⟩ rfl ap_at (Nat.le_of_ble_eq_true rfl) ?_
  rw [ap_set]
  refine P_aload_n dX1_init_22 rfl ?_
  refine P_aload_n dX1_init_23 rfl ?_
  refine P_get dX1_init_24 flX1_13 ap_at rfl ?_
  refine P_aload_n dX1_init_27 rfl ?_
  refine P_get dX1_init_28 flX1_19 ap_at rfl ?_
  refine P_imul dX1_init_31 ?_
  rw [show nI 6 * nI 24 = nI 144 from by decide +kernel]
  refine P_newa (k := 1) (n0 := 144) (a0 := (144, .inr (.inl (fun _ => 0)))) dX1_init_32 rfl ac_long (fun _ => rfl) (fun _ h => by cases h) (fun _ _ => rfl) (by decide) (by decide) (by decide) ⟨Nat.le_of_ble_eq_true rfl, Nat.le_of_ble_eq_true rfl⟩ ?_
  rw [List.append_assoc]
  refine P_putFA dX1_init_34 flX1_22 ⟨_, _, rfl⟩ rfl ap_at (Nat.le_of_ble_eq_true rfl) ?_
  rw [List.cons_append, ap_set]
  exact P_vret dX1_init_37 rfl ⟨Nat.le_refl _, Nat.le_refl _⟩ ⟨rfl, by rw [ap_len]; rfl⟩
set_option maxHeartbeats 4000000 in
set_option maxRecDepth 100000 in
theorem n_cells_1_24 (l : Launch) {G : PH} {G0 : PH}  : Tri l mX1_init 1 24 [.ref G0.length, .int 1, .int 24] (G0 ++ [.inr (1, [.null, .int 0, .int 0])]) (fun w G' => w = none ∧ G' = G0 ++ [oC (G0.length + 1) 1 24, aJ 24 (fun _ => 0)]) := by
  refine Tri.intro (L := [_, _, _]) okX1_init.1 (Nat.le_of_ble_eq_true rfl) rfl ?_
  refine P_aload_n dX1_init_0 rfl ?_
  refine P_objInit dX1_init_1 lkX1_1 ⟨Nat.le_of_ble_eq_true rfl, Nat.le_of_ble_eq_true rfl⟩ ?_
  refine P_aload_n dX1_init_4 rfl ?_
  refine P_iconst dX1_init_5 ci_0 ?_
  refine P_iload_n dX1_init_6 rfl ?_
  refine P_callSp dX1_init_7 lkX1_7 okJ9_max_7cf53 ⟨Nat.le_of_ble_eq_true rfl, Nat.le_of_ble_eq_true rfl⟩ (t_imax l) rfl rfl (Nat.le_of_ble_eq_true rfl) ⟨Nat.le_of_ble_eq_true rfl, Nat.le_of_ble_eq_true rfl⟩ ?_
  rw [show imax 0 1 = nI 1 from by decide +kernel]
  refine P_putFI dX1_init_10 flX1_13 ⟨_, _, rfl⟩ rfl ap_at (Nat.le_of_ble_eq_true rfl) ?_
  rw [ap_set]
  refine P_aload_n dX1_init_13 rfl ?_
  refine P_iconst dX1_init_14 ci_0 ?_
  refine P_iload_n dX1_init_15 rfl ?_
  refine P_callSp dX1_init_16 lkX1_7 okJ9_max_7cf53 ⟨Nat.le_of_ble_eq_true rfl, Nat.le_of_ble_eq_true rfl⟩ (t_imax l) rfl rfl (Nat.le_of_ble_eq_true rfl) ⟨Nat.le_of_ble_eq_true rfl, Nat.le_of_ble_eq_true rfl⟩ ?_
  rw [show imax 0 24 = nI 24 from by decide +kernel]
  refine P_putFI dX1_init_19 flX1_19 ⟨_, _, rfl⟩ rfl ap_at (Nat.le_of_ble_eq_true rfl) ?_
  rw [ap_set]
  refine P_aload_n dX1_init_22 rfl ?_
  refine P_aload_n dX1_init_23 rfl ?_
  refine P_get dX1_init_24 flX1_13 ap_at rfl ?_
  refine P_aload_n dX1_init_27 rfl ?_
  refine P_get dX1_init_28 flX1_19 ap_at rfl ?_
  refine P_imul dX1_init_31 ?_
  rw [show nI 1 * nI 24 = nI 24 from by decide +kernel]
  refine P_newa (k := 1) (n0 := 24) (a0 := (24, .inr (.inl (fun _ => 0)))) dX1_init_32 rfl ac_long (fun _ => rfl) (fun _ h => by cases h) (fun _ _ => rfl) (by decide) (by decide) (by decide) ⟨Nat.le_of_ble_eq_true rfl, Nat.le_of_ble_eq_true rfl⟩ ?_
  rw [List.append_assoc]
  refine P_putFA dX1_init_34 flX1_22 ⟨_, _, rfl⟩ rfl ap_at (Nat.le_of_ble_eq_true rfl) ?_
  rw [List.cons_append, ap_set]
  exact P_vret dX1_init_37 rfl ⟨Nat.le_refl _, Nat.le_refl _⟩ ⟨rfl, by rw [ap_len]; rfl⟩
set_option maxHeartbeats 4000000 in
set_option maxRecDepth 100000 in
theorem n_cells_20_3 (l : Launch) {G : PH} {G0 : PH}  : Tri l mX1_init 1 60 [.ref G0.length, .int 20, .int 3] (G0 ++ [.inr (1, [.null, .int 0, .int 0])]) (fun w G' => w = none ∧ G' = G0 ++ [oC (G0.length + 1) 20 3, aJ 60 (fun _ => 0)]) := by
  refine Tri.intro (L := [_, _, _]) okX1_init.1 (Nat.le_of_ble_eq_true rfl) rfl ?_
  refine P_aload_n dX1_init_0 rfl ?_
  refine P_objInit dX1_init_1 lkX1_1 ⟨Nat.le_of_ble_eq_true rfl, Nat.le_of_ble_eq_true rfl⟩ ?_
  refine P_aload_n dX1_init_4 rfl ?_
  refine P_iconst dX1_init_5 ci_0 ?_
  refine P_iload_n dX1_init_6 rfl ?_
  refine P_callSp dX1_init_7 lkX1_7 okJ9_max_7cf53 ⟨Nat.le_of_ble_eq_true rfl, Nat.le_of_ble_eq_true rfl⟩ (t_imax l) rfl rfl (Nat.le_of_ble_eq_true rfl) ⟨Nat.le_of_ble_eq_true rfl, Nat.le_of_ble_eq_true rfl⟩ ?_
  rw [show imax 0 20 = nI 20 from by decide +kernel]
  refine P_putFI dX1_init_10 flX1_13 ⟨_, _, rfl⟩ rfl ap_at (Nat.le_of_ble_eq_true rfl) ?_
  rw [ap_set]
  refine P_aload_n dX1_init_13 rfl ?_
  refine P_iconst dX1_init_14 ci_0 ?_
  refine P_iload_n dX1_init_15 rfl ?_
  refine P_callSp dX1_init_16 lkX1_7 okJ9_max_7cf53 ⟨Nat.le_of_ble_eq_true rfl, Nat.le_of_ble_eq_true rfl⟩ (t_imax l) rfl rfl (Nat.le_of_ble_eq_true rfl) ⟨Nat.le_of_ble_eq_true rfl, Nat.le_of_ble_eq_true rfl⟩ ?_
  rw [show imax 0 3 = nI 3 from by decide +kernel]
  refine P_putFI dX1_init_19 flX1_19 ⟨_, _, rfl⟩ rfl ap_at (Nat.le_of_ble_eq_true rfl) ?_
  rw [ap_set]
  refine P_aload_n dX1_init_22 rfl ?_
  refine P_aload_n dX1_init_23 rfl ?_
  refine P_get dX1_init_24 flX1_13 ap_at rfl ?_
  refine P_aload_n dX1_init_27 rfl ?_
  refine P_get dX1_init_28 flX1_19 ap_at rfl ?_
  refine P_imul dX1_init_31 ?_
  rw [show nI 20 * nI 3 = nI 60 from by decide +kernel]
  refine P_newa (k := 1) (n0 := 60) (a0 := (60, .inr (.inl (fun _ => 0)))) dX1_init_32 rfl ac_long (fun _ => rfl) (fun _ h => by cases h) (fun _ _ => rfl) (by decide) (by decide) (by decide) ⟨Nat.le_of_ble_eq_true rfl, Nat.le_of_ble_eq_true rfl⟩ ?_
  rw [List.append_assoc]
  refine P_putFA dX1_init_34 flX1_22 ⟨_, _, rfl⟩ rfl ap_at (Nat.le_of_ble_eq_true rfl) ?_
  rw [List.cons_append, ap_set]
  exact P_vret dX1_init_37 rfl ⟨Nat.le_refl _, Nat.le_refl _⟩ ⟨rfl, by rw [ap_len]; rfl⟩
