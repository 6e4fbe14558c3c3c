set_option maxRecDepth 100000 in
theorem lp_zero (l : Launch) {G0 : PH} {o o2 : MV} {fx : Nat → Int32} {n9 : Nat} {tx : Nat → Int32} (htx : ∀ i, i < n9 → ¬ tx i = -1) (h200 : n9 ≤ 200) (hs : pS o2 n9 (.inr 0)) (eT : mT o2 = b2 false) (eZ : mZ o2 = b2 false) (eO : mO o2 = b2 (decide (0 < rN rZ))) (hS : oS o o2) : ∀ (n : Nat) (G : PH) (i : Nat) (g : Nat → Int32), 315 - i < n → i ≤ 315 → mpr G o2 fx n9 tx → G[180]? = some (aI 315 g) → (∀ j, j < i → g j = 0) → Fr2 G0 G 164 1 180 1 → WP mX10_readsAll l (rmM mX10_readsAll 0 0) (ZM 0 0 (fun w G' => w = none ∧ (∃ o' f', G'[164]? = some (oM o') ∧ G'[180]? = some (aI 315 f') ∧ oS o o' ∧ aR n9 (prs n9 tx 201 (0, rZ, false, false)) o' f') ∧ Fr2 G0 G' 164 1 180 1)) XT 0 0 27 [some (.ref 164), some (.int (nI i))] [] G := by
  intro n
  induction n with
  | zero => intro G  i  g hn hi k kd hg hF; exact absurd hn (Nat.not_lt_zero _)
  | succ n ih =>
    intro G  i  g hn hi k kd hg hF
    refine P_iload_n dX10_readsAll_27 rfl ?_
    refine P_sipush dX10_readsAll_28 sp_315 ?_
    refine P_icmp_ge (tgt := 47) dX10_readsAll_31 (by decide) (fun c31 => ?_) (fun c31 => ?_)
    · have hi2 : i = 315 := by have : ¬ i < 315 := fun q => nI_ge (b := 315) q (by decide) c31; omega
      subst hi2
      refine P_aload_n dX10_readsAll_47 rfl ?_
      refine P_get dX10_readsAll_48 flX10_61 k.1 rfl ?_
      refine P_iconst dX10_readsAll_51 ci_0 ?_
      refine P_bipush dX10_readsAll_52 bp_12 ?_
      refine P_iast dX10_readsAll_54 kd (vp_in_nI (show 0 < 315 by decide) (by decide)) ?_
      rw [show Int32.toNatClampNeg 0 = 0 from rfl]
      refine P_aload_n dX10_readsAll_55 rfl ?_
      refine P_get dX10_readsAll_56 flX10_61 k.s180.1 rfl ?_
      refine P_iconst dX10_readsAll_59 ci_1 ?_
      refine P_iconst dX10_readsAll_60 ci_1 ?_
      refine P_iast dX10_readsAll_61 (set_at kd) (vp_in_nI (show 1 < 315 by decide) (by decide)) ?_
      rw [show Int32.toNatClampNeg 1 = 1 from rfl]
      exact P_loc (by simp only [subL, List.head?_cons, List.tail_cons]; and_intros <;> first | rfl | trivial) (lp_all l htx h200 202 _ 0 (0, rZ, false, false) (upd (upd g 0 12) 1 1) o2 (by omega) (Nat.zero_le _) k.s180.s180 (set_at (set_at kd)) hs (mdV_Z ((upd_n (by decide)).trans upd_a) upd_a (fun j h1 h2 => (upd_n (by omega)).trans ((upd_n (by omega)).trans (hg j h2)))) eT eZ eO sOk_Z rfl hS (hF.tr (s180.tr s180)))
    · have hlt : i < 315 := Nat.not_le.mp fun q => c31 (nI_le (a := 315) q (by omega))
      refine P_aload_n dX10_readsAll_34 rfl ?_
      refine P_get dX10_readsAll_35 flX10_61 k.1 rfl ?_
      refine P_iload_n dX10_readsAll_38 rfl ?_
      refine P_iconst dX10_readsAll_39 ci_0 ?_
      refine P_iast dX10_readsAll_40 kd (vp_in_nI (by omega) (by decide)) ?_
      rw [nI_clamp (by omega)]
      refine P_iinc (L' := [_, _]) dX10_readsAll_41 rfl (ii_1 _) (Nat.le_of_ble_eq_true rfl) rfl ?_
      rw [nI_1]
      refine P_goto (tgt := 27) dX10_readsAll_44 (by decide) ?_
      refine ih _ (i + 1) _ (by omega) hlt k.s180 (set_at kd) (fun j hj => ?_) (hF.tr s180)
      by_cases e : j = i
      · subst e; exact upd_a
      · rw [upd_n e]; exact hg j (by omega)
set_option maxHeartbeats 4000000 in
set_option maxRecDepth 100000 in
theorem m_readsAll (l : Launch) {G : PH} {o : MV} {fx fm : Nat → Int32} {n9 : Nat} {tx : Nat → Int32} (k : mpr G o fx n9 tx) (kd : G[180]? = some (aI 315 fm)) (htx : ∀ i, i < n9 → ¬ tx i = -1) : Tri l mX10_readsAll 0 0 [.ref 164] G (fun w G' => w = none ∧ (∃ o' f', G'[164]? = some (oM o') ∧ G'[180]? = some (aI 315 f') ∧ oS o o' ∧ aR n9 (prs n9 tx 201 (0, rZ, false, false)) o' f') ∧ Fr2 G G' 164 1 180 1) := by
  refine Tri.intro (L := [_, _]) okX10_readsAll.1 (Nat.le_of_ble_eq_true rfl) rfl ?_
  refine P_aload_n dX10_readsAll_0 rfl ?_
  refine P_iconst dX10_readsAll_1 ci_0 ?_
  refine P_putI dX10_readsAll_2 flX10_197 k.1 (Nat.le_of_ble_eq_true rfl) ?_
  refine P_aload_n dX10_readsAll_5 rfl ?_
  refine P_iconst dX10_readsAll_6 ci_0 ?_
  refine P_putI dX10_readsAll_7 flX10_200 (set_at k.1) (Nat.le_of_ble_eq_true rfl) ?_
  refine P_aload_n dX10_readsAll_10 rfl ?_
  refine P_iconst dX10_readsAll_11 ci_0 ?_
  refine P_putZ dX10_readsAll_12 flX10_217 (set_at (set_at k.1)) (Nat.le_of_ble_eq_true rfl) (by first | exact Or.inl rfl | exact Or.inr rfl) ?_
  refine P_aload_n dX10_readsAll_15 rfl ?_
  refine P_iconst dX10_readsAll_16 ci_0 ?_
  refine P_putZ dX10_readsAll_17 flX10_227 (set_at (set_at (set_at k.1))) (Nat.le_of_ble_eq_true rfl) (by first | exact Or.inl rfl | exact Or.inr rfl) ?_
  refine P_aload_n dX10_readsAll_20 rfl ?_
  refine P_iconst dX10_readsAll_21 ci_0 ?_
  refine P_putZ dX10_readsAll_22 flX10_221 (set_at (set_at (set_at (set_at k.1)))) (Nat.le_of_ble_eq_true rfl) (by first | exact Or.inl rfl | exact Or.inr rfl) ?_
  rw [List.set_set, List.set_set, List.set_set, List.set_set]
  obtain ⟨o2, eo2⟩ : ∃ o2 : MV, o2 = oRd o 0 0 0 0 0 (mB o) := ⟨_, rfl⟩
  have k2 : mpr (G.set 164 (oM o2)) o2 fx n9 tx := k.ob (by rw [eo2])
  have kd2 : (G.set 164 (oM o2))[180]? = some (aI 315 fm) := set_ne kd (by decide)
  have hs2 : pS o2 n9 (.inr 0) := by rw [eo2]; exact ⟨rfl, rfl, Nat.zero_le _⟩
  have hS2 : oS o o2 := by rw [eo2]; exact ⟨rfl, rfl, rfl, rfl, rfl⟩
  have eT2 : mT o2 = b2 false := by rw [eo2]; rfl
  have eZ2 : mZ o2 = b2 false := by rw [eo2]; rfl
  have eO2 : mO o2 = b2 (decide (0 < rN rZ)) := by rw [eo2]; rfl
  have hF2 : Fr2 G (G.set 164 (oM o2)) 164 1 180 1 := (Fr.set (by omega) (by omega)).l2
  generalize hG2 : G.set 164 (oM o2) = G2 at k2 kd2 hF2
  suffices hgo : WP mX10_readsAll l (rmM mX10_readsAll 0 0) (ZM 0 0 (fun w G' => w = none ∧ (∃ o' f', G'[164]? = some (oM o') ∧ G'[180]? = some (aI 315 f') ∧ oS o o' ∧ aR n9 (prs n9 tx 201 (0, rZ, false, false)) o' f') ∧ Fr2 G G' 164 1 180 1)) XT 0 0 25 [some (.ref 164), none] [] G2 by rw [← hG2, eo2] at hgo; exact hgo
  clear hG2 eo2
  refine P_iconst dX10_readsAll_25 ci_0 ?_
  refine P_istore_n (L' := [_, _]) dX10_readsAll_26 (Nat.le_of_ble_eq_true rfl) rfl ?_
  exact lp_zero l htx k.2.2.2.2 hs2 eT2 eZ2 eO2 hS2 316 G2 0 fm (by omega) (Nat.zero_le _) k2 kd2 (fun j hj => absurd hj (Nat.not_lt_zero _)) hF2
