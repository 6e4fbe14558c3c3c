set_option maxHeartbeats 4000000 in
set_option maxRecDepth 100000 in
theorem lp_npast (l : Launch) {G0 : PH} : ∀ (n : Nat) (i : Nat), 16 - i < n → i ≤ 16 → WP mX5_init l (rmM mX5_init 113 5248) (ZM 113 5248 (fun w G' => w = none ∧ G' = G0 ++ nPs G0.length)) XT (1 + 7 * i) (16 + 327 * i) 25 [some (.ref G0.length), some (.int (nI i))] [] (G0 ++ .inr (5, [.ref (G0.length + 1), .int 0, .int 0]) :: aQ 3 16 (nFs (G0.length + 2) i) :: nRs (G0.length + 2) i) := by
  intro n
  induction n with
  | zero => intro i hn hi; exact absurd hn (Nat.not_lt_zero _)
  | succ n ih =>
    intro i hn hi
    refine P_iload_n dX5_init_25 rfl ?_
    refine P_aload_n dX5_init_26 rfl ?_
    refine P_get dX5_init_27 flX5_11 ap_at rfl ?_
    refine P_alen (v := nI 16) dX5_init_30 ap_at1 (fun _ => rfl) rfl ?_
    refine P_icmp_ge (tgt := 53) dX5_init_31 (by decide) (fun c31 => ?_) (fun c31 => ?_)
    · have hi2 : i = 16 := by have : ¬ i < 16 := fun q => nI_ge (b := 16) q (by decide) c31; omega
      subst hi2
      exact P_vret dX5_init_53 rfl ⟨Nat.le_refl _, Nat.le_refl _⟩ ⟨rfl, rfl⟩
    · have hlt : i < 16 := Nat.not_le.mp fun q => c31 (nI_le (a := 16) q (by omega))
      refine P_aload_n dX5_init_34 rfl ?_
      refine P_get dX5_init_35 flX5_11 ap_at rfl ?_
      refine P_iload_n dX5_init_38 rfl ?_
      refine P_new (fs := [.null, .null, .null, .int 0, .int 0, .int 0]) dX5_init_39 clX5_9 inX6 ckX6 (by decide) ⟨by show _ ≤ 113; omega, by show _ ≤ 5248; omega⟩ ?_
      refine P_dup dX5_init_42 rfl ?_
      refine P_callI dX5_init_43 lkX5_24 okX6_init ⟨Nat.le_of_ble_eq_true rfl, Nat.le_of_ble_eq_true rfl⟩ (n_river (G := []) l) rfl rfl (Nat.le_of_ble_eq_true rfl) ⟨by show _ ≤ 113; omega, by show _ ≤ 5248; omega⟩ (fun v43 G43 q43 => ?_)
      obtain ⟨rfl, rfl⟩ := q43
      have hlen : (G0 ++ .inr (5, [.ref (G0.length + 1), .int 0, .int 0]) :: aQ 3 16 (nFs (G0.length + 2) i) :: nRs (G0.length + 2) i).length = G0.length + 2 + 7 * i := by rw [ap_len, List.length_cons, nRs_len]; omega
      rw [hlen]
      have hy : (G0 ++ .inr (5, [.ref (G0.length + 1), .int 0, .int 0]) :: aQ 3 16 (nFs (G0.length + 2) i) :: nRs (G0.length + 2) i ++ nRv (G0.length + 2 + 7 * i))[G0.length + 2 + 7 * i]? = some (oR (G0.length + 2 + 7 * i) 12 1 0) := by rw [List.getElem?_append_right (by rw [hlen]; exact Nat.le_refl _), hlen, Nat.sub_self]; rfl
      simp only [List.append_assoc, List.cons_append, List.nil_append, List.length_append, List.length_cons, List.length_nil]
      simp only [List.append_assoc, List.cons_append, List.nil_append, List.length_append, List.length_cons, List.length_nil] at hy
      refine P_aast3 dX5_init_46 ap_at1 hy (vp_in_nI hlt (by decide)) ?_
      rw [nI_clamp (by omega), ap_set1, nFs_up]
      refine P_iinc (L' := [_, _]) dX5_init_47 rfl (ii_1 _) (Nat.le_of_ble_eq_true rfl) rfl ?_
      rw [nI_1]
      refine P_goto (tgt := 25) dX5_init_50 (by decide) ?_
      have := ih (i + 1) (by omega) hlt
      rw [show 1 + 7 * (i + 1) = 1 + 7 * i + 1 + 6 by omega, show 16 + 327 * (i + 1) = 16 + 327 * i + 6 + 321 by omega] at this
      exact this
set_option maxHeartbeats 4000000 in
set_option maxRecDepth 100000 in
theorem n_past (l : Launch) {G : PH} {G0 : PH}  : Tri l mX5_init 113 5248 [.ref G0.length] (G0 ++ [.inr (5, [.null, .int 0, .int 0])]) (fun w G' => w = none ∧ G' = G0 ++ nPs G0.length) := by
  refine Tri.intro (L := [_, _]) okX5_init.1 (Nat.le_of_ble_eq_true rfl) rfl ?_
  refine P_aload_n dX5_init_0 rfl ?_
  refine P_objInit dX5_init_1 lkX5_3 ⟨Nat.le_of_ble_eq_true rfl, Nat.le_of_ble_eq_true rfl⟩ ?_
  refine P_aload_n dX5_init_4 rfl ?_
  refine P_bipush dX5_init_5 bp_16 ?_
  refine P_anew (k := 3) (n0 := 16) dX5_init_7 clX5_9 (fun _ _ h => h.2.2.2.1) (fun _ => rfl) (by decide) (by decide) (by decide) ⟨Nat.le_of_ble_eq_true rfl, Nat.le_of_ble_eq_true rfl⟩ ?_
  simp only [List.append_assoc, List.cons_append, List.nil_append, List.length_append, List.length_cons, List.length_nil]
  refine P_putFA dX5_init_10 flX5_11 ⟨_, _, rfl⟩ rfl ap_at (Nat.le_of_ble_eq_true rfl) ?_
  rw [ap_set]
  refine P_aload_n dX5_init_13 rfl ?_
  refine P_iconst dX5_init_14 ci_0 ?_
  refine P_putI dX5_init_15 flX5_17 ap_at (Nat.le_of_ble_eq_true rfl) ?_
  rw [ap_set]
  refine P_aload_n dX5_init_18 rfl ?_
  refine P_iconst dX5_init_19 ci_0 ?_
  refine P_putI dX5_init_20 flX5_21 ap_at (Nat.le_of_ble_eq_true rfl) ?_
  rw [ap_set]
  refine P_iconst dX5_init_23 ci_0 ?_
  refine P_istore_n (L' := [_, _]) dX5_init_24 (Nat.le_of_ble_eq_true rfl) rfl ?_
  have e0 : (fun _ => none : Nat → Option Nat) = nFs (G0.length + 2) 0 := by funext j; exact (if_neg (Nat.not_lt_zero _)).symm
  rw [e0]
  exact lp_npast l 17 0 (by omega) (by omega)
