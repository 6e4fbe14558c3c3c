set_option maxHeartbeats 4000000 in
set_option maxRecDepth 100000 in
theorem lw_loop (l : Launch) {Ln : Nat} {xs : Nat → Int32} (hL : Ln ≤ 2560) : ∀ (n i : Nat) (G : PH) (σ : Sg), Ln < i + n → i ≤ Ln → Cls G σ → Mod G σ → sVal σ → sTx σ → WP mL_law l room_1 ZL (XL Ln xs) 181 14476 18 (LL i) [] G := by
  intro n
  induction n with
  | zero => intro i G σ hn hi; exact absurd hn (by omega)
  | succ n ih =>
    intro i G σ hn hi kC kM hv ht
    refine P_iload_n dL_law_18 rfl ?_
    refine P_aload_nF dL_law_19 rfl ?_
    refine P_slen dL_law_20 ?_
    refine P_iconst dL_law_21 ci_5 ?_
    refine P_isub dL_law_22 ?_
    refine P_icmp_gt (tgt := 885) dL_law_23 (by decide) (fun c23 => ?_) (fun c23 => ?_)
    · refine P_iconst dL_law_885 ci_1 ?_
      exact P_law1 dL_law_886 (by decide) (by decide)
    · have hle := law_end hL hi c23
      have hin : vp_in (nI i) Ln := vp_in_nI (by omega) (by omega)
      have kk : ∀ G' σ', Cls G' σ' → Mod G' σ' → sVal σ' → sTx σ' → WP mL_law l room_1 ZL (XL Ln xs) 181 14476 879 (LL i) [] G' := by
        intro G' σ' kC' kM' hv' ht'
        refine P_iinc (L' := [_, _, _, _]) dL_law_879 rfl (ii_5 _) (Nat.le_of_ble_eq_true rfl) rfl ?_
        refine P_goto (tgt := 18) dL_law_882 (by decide) ?_
        rw [show nI i + 5 = nI (i + 5) from nI_add i 5]
        exact ih (i + 5) G' σ' (by omega) hle kC' kM' hv' ht'
      refine P_aload_nF dL_law_26 rfl ?_
      refine P_iload_n dL_law_27 rfl ?_
      refine P_sld dL_law_28 hin ?_
      refine P_bipush dL_law_29 bp_31 ?_
      refine P_iand dL_law_31 ?_
      generalize xs (nI i).toNatClampNeg &&& 31 = wv
      by_cases w0 : wv = 0
      · subst w0
        refine P_tabIn (off := 112) (tgt := 144) dL_law_32 (by decide) (by decide) (by decide) (by decide) ?_
        exact lw_feed l hle hL kC kM hv ht kk
      by_cases w1 : wv = 1
      · subst w1
        refine P_tabIn (off := 135) (tgt := 167) dL_law_32 (by decide) (by decide) (by decide) (by decide) ?_
        exact lw_river l hle hL kC kM hv ht kk
      by_cases w2 : wv = 2
      · subst w2
        refine P_tabIn (off := 148) (tgt := 180) dL_law_32 (by decide) (by decide) (by decide) (by decide) ?_
        exact lw_fault l hle hL kC kM hv ht kk
      by_cases w3 : wv = 3
      · subst w3
        refine P_tabIn (off := 161) (tgt := 193) dL_law_32 (by decide) (by decide) (by decide) (by decide) ?_
        exact lw_told l hle hL kC kM hv ht kk
      by_cases w4 : wv = 4
      · subst w4
        refine P_tabIn (off := 184) (tgt := 216) dL_law_32 (by decide) (by decide) (by decide) (by decide) ?_
        exact lw_reachAt l hle hL kC kM hv ht kk
      by_cases w5 : wv = 5
      · subst w5
        refine P_tabIn (off := 217) (tgt := 249) dL_law_32 (by decide) (by decide) (by decide) (by decide) ?_
        exact lw_weight l hle hL kC kM hv ht kk
      by_cases w6 : wv = 6
      · subst w6
        refine P_tabIn (off := 250) (tgt := 282) dL_law_32 (by decide) (by decide) (by decide) (by decide) ?_
        exact lw_flow l hle hL kC kM hv ht kk
      by_cases w7 : wv = 7
      · subst w7
        refine P_tabIn (off := 294) (tgt := 326) dL_law_32 (by decide) (by decide) (by decide) (by decide) ?_
        exact lw_sum l hle hL kC kM hv ht kk
      by_cases w8 : wv = 8
      · subst w8
        refine P_tabIn (off := 328) (tgt := 360) dL_law_32 (by decide) (by decide) (by decide) (by decide) ?_
        exact lw_would l hle hL kC kM hv ht kk
      by_cases w9 : wv = 9
      · subst w9
        refine P_tabIn (off := 382) (tgt := 414) dL_law_32 (by decide) (by decide) (by decide) (by decide) ?_
        exact lw_times l hle hL kC kM hv ht kk
      by_cases w10 : wv = 10
      · subst w10
        refine P_tabIn (off := 405) (tgt := 437) dL_law_32 (by decide) (by decide) (by decide) (by decide) ?_
        exact lw_step l hle hL kC kM hv ht kk
      by_cases w11 : wv = 11
      · subst w11
        refine P_tabIn (off := 428) (tgt := 460) dL_law_32 (by decide) (by decide) (by decide) (by decide) ?_
        exact lw_reach l hle hL kC kM hv ht kk
      by_cases w12 : wv = 12
      · subst w12
        refine P_tabIn (off := 481) (tgt := 513) dL_law_32 (by decide) (by decide) (by decide) (by decide) ?_
        exact lw_change l hle hL kC kM hv ht kk
      by_cases w13 : wv = 13
      · subst w13
        refine P_tabIn (off := 524) (tgt := 556) dL_law_32 (by decide) (by decide) (by decide) (by decide) ?_
        exact lw_side l hle hL kC kM hv ht kk
      by_cases w14 : wv = 14
      · subst w14
        refine P_tabIn (off := 567) (tgt := 599) dL_law_32 (by decide) (by decide) (by decide) (by decide) ?_
        exact lw_seen l hle hL kC kM hv ht kk
      by_cases w15 : wv = 15
      · subst w15
        refine P_tabIn (off := 610) (tgt := 642) dL_law_32 (by decide) (by decide) (by decide) (by decide) ?_
        exact lw_show l hle hL kC kM hv ht kk
      by_cases w16 : wv = 16
      · subst w16
        refine P_tabIn (off := 633) (tgt := 665) dL_law_32 (by decide) (by decide) (by decide) (by decide) ?_
        exact lw_take l hle hL kC kM hv ht kk
      by_cases w17 : wv = 17
      · subst w17
        refine P_tabIn (off := 646) (tgt := 678) dL_law_32 (by decide) (by decide) (by decide) (by decide) ?_
        exact lw_drift l hle hL kC kM hv ht kk
      by_cases w18 : wv = 18
      · subst w18
        refine P_tabIn (off := 669) (tgt := 701) dL_law_32 (by decide) (by decide) (by decide) (by decide) ?_
        exact lw_undo l hle hL kC kM hv ht kk
      by_cases w19 : wv = 19
      · subst w19
        refine P_tabIn (off := 692) (tgt := 724) dL_law_32 (by decide) (by decide) (by decide) (by decide) ?_
        exact lw_write l hle hL kC kM hv ht kk
      by_cases w20 : wv = 20
      · subst w20
        refine P_tabIn (off := 765) (tgt := 797) dL_law_32 (by decide) (by decide) (by decide) (by decide) ?_
        exact lw_tear l hle hL kC kM hv ht kk
      by_cases w21 : wv = 21
      · subst w21
        refine P_tabIn (off := 778) (tgt := 810) dL_law_32 (by decide) (by decide) (by decide) (by decide) ?_
        exact lw_seed l hle hL kC kM hv ht kk
      by_cases w22 : wv = 22
      · subst w22
        refine P_tabIn (off := 801) (tgt := 833) dL_law_32 (by decide) (by decide) (by decide) (by decide) ?_
        exact lw_keep l hle hL kC kM hv ht kk
      by_cases w23 : wv = 23
      · subst w23
        refine P_tabIn (off := 824) (tgt := 856) dL_law_32 (by decide) (by decide) (by decide) (by decide) ?_
        exact lw_back l hle hL kC kM hv ht kk
      refine P_tabOut (tgt := 879) dL_law_32 (tabo (n := 23) (fun j hj => by rcases (by omega : j = 0 ∨ j = 1 ∨ j = 2 ∨ j = 3 ∨ j = 4 ∨ j = 5 ∨ j = 6 ∨ j = 7 ∨ j = 8 ∨ j = 9 ∨ j = 10 ∨ j = 11 ∨ j = 12 ∨ j = 13 ∨ j = 14 ∨ j = 15 ∨ j = 16 ∨ j = 17 ∨ j = 18 ∨ j = 19 ∨ j = 20 ∨ j = 21 ∨ j = 22 ∨ j = 23) with rfl | rfl | rfl | rfl | rfl | rfl | rfl | rfl | rfl | rfl | rfl | rfl | rfl | rfl | rfl | rfl | rfl | rfl | rfl | rfl | rfl | rfl | rfl | rfl <;> assumption)) (by decide) ?_
      exact kk G σ kC kM hv ht
theorem nCl_len : nCl.length = 164 := by
  have h := nG_len
  unfold nG at h
  rw [List.length_append, nMd_len] at h
  omega
set_option maxHeartbeats 4000000 in
set_option maxRecDepth 100000 in
theorem lw_start (l : Launch) {Ln : Nat} {xs : Nat → Int32} (hL : Ln ≤ 2560) : WP mL_law l room_1 ZL (XL Ln xs) 0 0 0 [some (.float 0), none, none, none] [] [] := by
  refine P_new (fs := [.null, .null, .null, .null, .null, .null, .null, .null, .null, .int 0]) dL_law_0 clL_7 inX9 ckX9 (by decide) ⟨Nat.le_of_ble_eq_true rfl, Nat.le_of_ble_eq_true rfl⟩ ?_
  refine P_dup dL_law_3 rfl ?_
  refine P_callI dL_law_4 lkL_9 okX9_init ⟨Nat.le_of_ble_eq_true rfl, Nat.le_of_ble_eq_true rfl⟩ (n_class (G := []) l) rfl rfl (Nat.le_of_ble_eq_true rfl) ⟨Nat.le_of_ble_eq_true rfl, Nat.le_of_ble_eq_true rfl⟩ (fun v4 G4 q4 => ?_)
  obtain ⟨rfl, rfl⟩ := q4
  refine P_astore_n (L' := [_, _, _, _]) dL_law_7 (Nat.le_of_ble_eq_true rfl) rfl ?_
  refine P_new (fs := [.null, .null, .int 0, .null, .null, .int 0, .null, .null, .null, .int 0, .null, .int 0, .int 0, .null, .null, .null, .null, .null, .null, .null, .int 0, .int 0, .null, .int 0, .int 0, .int 0, .int 0, .int 0, .int 0]) dL_law_8 clL_10 inX10 ckX10 (by decide) ⟨Nat.le_of_ble_eq_true rfl, Nat.le_of_ble_eq_true rfl⟩ ?_
  refine P_dup dL_law_11 rfl ?_
  refine P_callI dL_law_12 lkL_12 okX10_init ⟨Nat.le_of_ble_eq_true rfl, Nat.le_of_ble_eq_true rfl⟩ (n_model (G := []) l) rfl rfl (Nat.le_of_ble_eq_true rfl) ⟨Nat.le_of_ble_eq_true rfl, Nat.le_of_ble_eq_true rfl⟩ (fun v12 G12 q12 => ?_)
  obtain ⟨rfl, rfl⟩ := q12
  rw [nCl_len]
  refine P_astore_n (L' := [_, _, _, _]) dL_law_15 (Nat.le_of_ble_eq_true rfl) rfl ?_
  refine P_iconst dL_law_16 ci_0 ?_
  refine P_istore_n (L' := [_, _, _, _]) dL_law_17 (Nat.le_of_ble_eq_true rfl) rfl ?_
  exact lw_loop l hL (Ln + 1) 0 nG sg0 (by omega) (Nat.zero_le _) Cls_0 Mod_0 sVal_0 sTx_0
