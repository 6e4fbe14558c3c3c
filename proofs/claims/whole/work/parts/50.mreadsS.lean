theorem mdV_S {ρ : Riv} {f : Nat → Int32} (k : mdV ρ f) {q u : Nat} (hq : q < rN ρ) (hN : rN ρ ≤ 6) (hu : u < 24) (v : Int32) : mdV (rvS ρ q u v) (upd f (3 + 52 * q + (4 + u)) v) := ⟨rRow_S k.1 hu v, fun j h1 h2 => (upd_n (by have h1 : 3 + 52 * rN ρ ≤ j := h1; omega)).trans (k.2 j h1 h2)⟩
theorem sdS_1 {n : Nat} {tx : Nat → Int32} {r : Nat} : ∀ (f t : Nat) (σ : PS) (ρ : Riv), (sdS n tx r f t σ ρ).2.1 = ρ.1
  | 0, _, _, _ => rfl
  | _ + 1, _, .inl _, _ => rfl
  | f + 1, t, .inr p, ρ => by
    simp only [sdS]
    split
    · rfl
    · split
      · rfl
      · split
        · rfl
        · rename_i v s q e
          exact (sdS_1 f (t + 1) (.inr q) _).trans rfl
theorem lp_rs0 (l : Launch) {G0 G : PH} {o2 o' : MV} {fx f' : Nat → Int32} {n9 : Nat} {tx : Nat → Int32} {F : PS × Riv} {x y : Int32} {e : Nat × Nat} (k : mpr G o' fx n9 tx) (kd : G[180]? = some (aI 315 f')) (hs : pS o' n9 (.inl e)) (hE : F.1 = .inl e) (hU : oU o2 o') (hF : Fr2 G0 G 164 1 180 1) : WP mX10_readsSide l (rmM mX10_readsSide 0 0) (ZM 0 0 (fun w G' => w = none ∧ (∃ o' f', G'[164]? = some (oM o') ∧ G'[180]? = some (aI 315 f') ∧ oU o2 o' ∧ pS o' n9 F.1 ∧ ∀ q, F.1 = .inr q → mdV F.2 f') ∧ Fr2 G0 G' 164 1 180 1)) XT 0 0 31 [some (.ref 164), some (.int x), some (.int y), none] [] G := by
  refine P_aload_n dX10_readsSide_31 rfl ?_
  refine P_get dX10_readsSide_32 flX10_200 k.1 rfl ?_
  refine P_if_ne (tgt := 113) dX10_readsSide_35 (by decide) (fun c35 => ?_) (fun c35 => ?_)
  · exact P_vret dX10_readsSide_113 rfl ⟨Nat.le_refl _, Nat.le_refl _⟩ ⟨rfl, ⟨o', f', k.1, kd, hU, by rw [hE]; exact hs, fun q z => by rw [hE] at z; cases z⟩, hF⟩
  · exact absurd (hs.1.symm.trans c35) (nI_ne0 (by have := hs.2.1; omega) (by have := hs.2.2.1; omega))
set_option maxHeartbeats 4000000 in
set_option maxRecDepth 100000 in
theorem lp_rside (l : Launch) {G0 : PH} {o2 : MV} {fx : Nat → Int32} {n9 r : Nat} {tx : Nat → Int32} {F : PS × Riv} : ∀ (n : Nat) (G : PH) (t p' : Nat) (ρ' : Riv) (f' : Nat → Int32) (o' : MV), 25 - t < n → mpr G o' fx n9 tx → G[180]? = some (aI 315 f') → pS o' n9 (.inr p') → mdV ρ' f' → r < rN ρ' → rBd ρ' → t ≤ rT ρ' → sdS n9 tx r (25 - t) t (.inr p') ρ' = F → oU o2 o' → Fr2 G0 G 164 1 180 1 →
    WP mX10_readsSide l (rmM mX10_readsSide 0 0) (ZM 0 0 (fun w G' => w = none ∧ (∃ o' f', G'[164]? = some (oM o') ∧ G'[180]? = some (aI 315 f') ∧ oU o2 o' ∧ pS o' n9 F.1 ∧ ∀ q, F.1 = .inr q → mdV F.2 f') ∧ Fr2 G0 G' 164 1 180 1)) XT 0 0 31 [some (.ref 164), some (.int (nI r)), some (.int (nI t)), none] [] G := by
  intro n
  induction n with
  | zero => intro G t p' ρ' f' o' hn; exact absurd hn (Nat.not_lt_zero _)
  | succ n ih =>
    intro G t p' ρ' f' o' hn k kd hs hmd hrN hbd htT hE hU hF
    have hT24 : rT ρ' ≤ 24 := hbd.2.1
    have hN6 : rN ρ' ≤ 6 := hbd.2.2.2.2
    obtain ⟨g, hg⟩ : ∃ g, 25 - t = g + 1 := ⟨24 - t, by omega⟩
    have htail : ∀ (G4 : PH) (o4 : MV) (p4 : Nat), mpr G4 o4 fx n9 tx → G4[180]? = some (aI 315 f') → pS o4 n9 (.inr p4) → num n9 tx 0 9999 p4 = num n9 tx 0 9999 p' → (t = rT ρ' → p4 = skp n9 tx p') → oU o2 o4 → Fr2 G0 G4 164 1 180 1 → ¬ (0 < t ∧ ¬ figP (lt0 n9 tx (skp n9 tx p'))) → WP mX10_readsSide l (rmM mX10_readsSide 0 0) (ZM 0 0 (fun w G' => w = none ∧ (∃ o' f', G'[164]? = some (oM o') ∧ G'[180]? = some (aI 315 f') ∧ oU o2 o' ∧ pS o' n9 F.1 ∧ ∀ q, F.1 = .inr q → mdV F.2 f') ∧ Fr2 G0 G' 164 1 180 1)) XT 0 0 52 [some (.ref 164), some (.int (nI r)), some (.int (nI t)), none] [] G4 := by
      intro G4 o4 p4 k4 kd4 hs4 hnm hpT hU4 hF4 hgo
      refine P_iload_n dX10_readsSide_52 rfl ?_
      refine P_aload_n dX10_readsSide_53 rfl ?_
      refine P_get dX10_readsSide_54 flX10_61 k4.1 rfl ?_
      refine P_iconst dX10_readsSide_57 ci_0 ?_
      refine P_iald dX10_readsSide_58 kd4 (vp_in_nI (show 0 < 315 by decide) (by decide)) ?_
      rw [show f' (Int32.toNatClampNeg 0) = nI (rT ρ') from hmd.1.1]
      refine P_icmp_ne (tgt := 67) dX10_readsSide_59 (by decide) (fun c59 => ?_) (fun c59 => ?_)
      · have hTt : t < rT ρ' := Nat.lt_of_le_of_ne htT fun z => c59 (by rw [z])
        refine P_aload_n dX10_readsSide_67 rfl ?_
        refine P_get dX10_readsSide_68 flX10_200 (by first | exact k6.1 | exact k4.1) rfl ?_
        refine P_if_ne (tgt := 85) dX10_readsSide_71 (by decide) (fun c71 => ?_) (fun c71 => ?_)
        · exact absurd hs4.1 c71
        · refine P_aload_n dX10_readsSide_74 rfl ?_
          refine P_iconst dX10_readsSide_75 ci_0 ?_
          refine P_sipush dX10_readsSide_76 sp_9999 ?_
          refine P_callV dX10_readsSide_79 lkX10_224 okX10_number ⟨Nat.le_of_ble_eq_true rfl, Nat.le_of_ble_eq_true rfl⟩ (m_number l k4 hs4) rfl rfl k4.1 (Nat.le_of_ble_eq_true rfl) ⟨Nat.le_of_ble_eq_true rfl, Nat.le_of_ble_eq_true rfl⟩ (fun v79 G79 q79 => ?_)
          obtain ⟨⟨o6, ko6, hs6, hU64, x5, rfl, hx5⟩, hF64⟩ := q79
          rw [show numS n9 tx 0 9999 (.inr p4) = num n9 tx 0 9999 p' from hnm] at hs6 hx5
          have k6 := k4.fr hF64 ko6 hU64.1.2.2.2.1
          have kd6 := hF64.at kd4 (by decide)
          have hU6 := hU4.tr hU64
          have hF6 := hF4.tr (f180 hF64)
          refine P_goto (tgt := 86) dX10_readsSide_82 (by decide) ?_
          refine P_istore_n (L' := [_, _, _, _]) dX10_readsSide_86 (Nat.le_of_ble_eq_true rfl) rfl ?_
          refine P_aload_n dX10_readsSide_87 rfl ?_
          refine P_get dX10_readsSide_88 flX10_200 k6.1 rfl ?_
          refine P_if_ne (tgt := 110) dX10_readsSide_91 (by decide) (fun c91 => ?_) (fun c91 => ?_)
          · obtain ⟨e9, he9⟩ : ∃ e, num n9 tx 0 9999 p' = .inl e := by
              cases hN : num n9 tx 0 9999 p' with
              | inl e => exact ⟨e, rfl⟩
              | inr y => rw [hN] at hs6; exact absurd hs6.1 c91
            have hEE : F.1 = .inl e9 := by rw [← hE, hg]; simp only [sdS]; rw [if_neg hgo, if_neg (fun z => z hTt), he9]
            rw [he9] at hs6
            refine P_goto (tgt := 31) dX10_readsSide_110 (by decide) ?_
            exact P_loc (by simp only [subL, List.head?_cons, List.tail_cons]; and_intros <;> first | rfl | trivial) (lp_rs0 l k6 kd6 hs6 hEE hU6 hF6)
          · obtain ⟨v9, s9, q9, hN9⟩ : ∃ v s q, num n9 tx 0 9999 p' = .inr (v, s, q) := by
              cases hN : num n9 tx 0 9999 p' with
              | inl e => rw [hN] at hs6; exact absurd (hs6.1.symm.trans c91) (nI_ne0 (by have := hs6.2.1; omega) (by have := hs6.2.2.1; omega))
              | inr y => exact ⟨y.1, y.2.1, y.2.2, rfl⟩
            have hxv := (hx5 _ _ _ hN9).1
            rw [hN9] at hs6
            refine P_aload_n dX10_readsSide_94 rfl ?_
            refine P_get dX10_readsSide_95 flX10_61 k6.1 rfl ?_
            refine P_iload_n dX10_readsSide_98 rfl ?_
            refine P_iconst dX10_readsSide_99 ci_4 ?_
            refine P_iload_n dX10_readsSide_100 rfl ?_
            refine P_iadd dX10_readsSide_101 ?_
            rw [ix4]
            refine P_callSp dX10_readsSide_102 lkX10_64 okX10_placeOf ⟨Nat.le_of_ble_eq_true rfl, Nat.le_of_ble_eq_true rfl⟩ (m_placeOf l) rfl rfl (Nat.le_of_ble_eq_true rfl) ⟨Nat.le_of_ble_eq_true rfl, Nat.le_of_ble_eq_true rfl⟩ ?_
            refine P_iload_n dX10_readsSide_105 rfl ?_
            refine P_iast dX10_readsSide_106 kd6 (vp_in_nI (by omega) (by decide)) ?_
            rw [nI_clamp (by omega)]
            refine P_iinc (L' := [_, _, _, _]) dX10_readsSide_107 rfl (ii_1 _) (Nat.le_of_ble_eq_true rfl) rfl ?_
            rw [nI_1]
            refine P_goto (tgt := 31) dX10_readsSide_110 (by decide) ?_
            refine P_loc ?_ (ih _ (t + 1) q9 (rvS ρ' r t v9) _ o6 (by omega) k6.s180 (set_at kd6) hs6 (by rw [hxv]; exact mdV_S hmd hrN hbd.2.2.2.2 (by omega) v9) hrN hbd hTt ?_ hU6 (hF6.tr s180))
            · simp only [subL, List.head?_cons, List.tail_cons]; and_intros <;> first | rfl | trivial
            · rw [← hE, hg, show 25 - (t + 1) = g by omega]; simp only [sdS]; rw [if_neg hgo, if_neg (fun z => z hTt), hN9]
      · have hTt : t = rT ρ' := (nI_eq (by omega) (by omega)).mp c59
        refine P_aload_n dX10_readsSide_62 rfl ?_
        refine P_iconst dX10_readsSide_63 ci_4 ?_
        refine P_callV dX10_readsSide_64 lkX10_210 okX10_fails ⟨Nat.le_of_ble_eq_true rfl, Nat.le_of_ble_eq_true rfl⟩ (m_fails l k4.1) rfl rfl k4.1 (Nat.le_of_ble_eq_true rfl) ⟨Nat.le_of_ble_eq_true rfl, Nat.le_of_ble_eq_true rfl⟩ (fun v64 G64 q64 => ?_)
        obtain ⟨rfl, rfl⟩ := q64
        obtain ⟨o6, eo6⟩ : ∃ o6 : MV, o6 = oRd o4 (mA o4) (if mW o4 = 0 then 4 else mW o4) (mT o4) (mZ o4) (mO o4) (mB o4) := ⟨_, rfl⟩
        rw [← eo6]
        have k6 : mpr (G4.set 164 (oM o6)) o6 fx n9 tx := k4.ob (by rw [eo6])
        have kd6 : (G4.set 164 (oM o6))[180]? = some (aI 315 f') := set_ne kd4 (by decide)
        have hs6 : pS o6 n9 (.inl (4, skp n9 tx p')) := by rw [eo6]; exact ⟨if_pos hs4.1, (show 1 ≤ 4 by decide), Nat.le_refl 4, hs4.2.1.trans (congrArg nI (hpT hTt))⟩
        have hU6 : oU o2 o6 := by rw [eo6]; exact hU4
        have hF6 := hF4.tr ((Fr.set (G := G4) (a := 164) (n := 1) (i := 164) (c := oM o6) (by omega) (by omega)).l2 (b := 180) (m := 1))
        refine P_aload_n dX10_readsSide_67 rfl ?_
        refine P_get dX10_readsSide_68 flX10_200 (by first | exact k6.1 | exact k4.1) rfl ?_
        refine P_if_ne (tgt := 85) dX10_readsSide_71 (by decide) (fun c71 => ?_) (fun c71 => ?_)
        · refine P_iconst dX10_readsSide_85 ci_0 ?_
          refine P_istore_n (L' := [_, _, _, _]) dX10_readsSide_86 (Nat.le_of_ble_eq_true rfl) rfl ?_
          refine P_aload_n dX10_readsSide_87 rfl ?_
          refine P_get dX10_readsSide_88 flX10_200 k6.1 rfl ?_
          refine P_if_ne (tgt := 110) dX10_readsSide_91 (by decide) (fun c91 => ?_) (fun c91 => ?_)
          · have hEE : F.1 = .inl (4, skp n9 tx p') := by rw [← hE, hg]; simp only [sdS]; rw [if_neg hgo, if_pos (fun z => by omega)]
            refine P_goto (tgt := 31) dX10_readsSide_110 (by decide) ?_
            exact P_loc (by simp only [subL, List.head?_cons, List.tail_cons]; and_intros <;> first | rfl | trivial) (lp_rs0 l k6 kd6 hs6 hEE hU6 hF6)
          · exact absurd (hs6.1.symm.trans c91) (show ¬ nI 4 = 0 by decide)
        · exact absurd (hs6.1.symm.trans c71) (show ¬ nI 4 = 0 by decide)
    refine P_aload_n dX10_readsSide_31 rfl ?_
    refine P_get dX10_readsSide_32 flX10_200 k.1 rfl ?_
    refine P_if_ne (tgt := 113) dX10_readsSide_35 (by decide) (fun c35 => ?_) (fun c35 => ?_)
    · exact absurd hs.1 c35
    · refine P_iload_n dX10_readsSide_38 rfl ?_
      refine P_if_eq (tgt := 52) dX10_readsSide_39 (by decide) (fun c39 => ?_) (fun c39 => ?_)
      · have ht0 : t = 0 := (nI_eq (b := 0) (by omega) (by decide)).mp c39
        exact htail G o' p' k kd hs rfl (fun z => by have := hbd.1; omega) hU hF (fun z => by omega)
      · have ht0 : 0 < t := Nat.pos_of_ne_zero fun z => c39 (by rw [z]; rfl)
        refine P_aload_n dX10_readsSide_42 rfl ?_
        refine P_callV dX10_readsSide_43 lkX10_203 okX10_next ⟨Nat.le_of_ble_eq_true rfl, Nat.le_of_ble_eq_true rfl⟩ (m_next l k hs.2.1 hs.2.2) rfl rfl k.1 (Nat.le_of_ble_eq_true rfl) ⟨Nat.le_of_ble_eq_true rfl, Nat.le_of_ble_eq_true rfl⟩ (fun v43 G43 q43 => ?_)
        obtain ⟨rfl, ko4, hF44⟩ := q43
        have k4 := k.fr hF44 ko4 rfl
        refine P_callSp dX10_readsSide_46 lkX10_207 okX10_isFigure ⟨Nat.le_of_ble_eq_true rfl, Nat.le_of_ble_eq_true rfl⟩ (m_isFigure l) rfl rfl (Nat.le_of_ble_eq_true rfl) ⟨Nat.le_of_ble_eq_true rfl, Nat.le_of_ble_eq_true rfl⟩ ?_
        refine P_if_eq (tgt := 113) dX10_readsSide_49 (by decide) (fun c49 => ?_) (fun c49 => ?_)
        · have hfg := (b2p _).mp c49
          have hEE : F = (.inr (skp n9 tx p'), ρ') := by rw [← hE, hg]; simp only [sdS]; rw [if_pos ⟨ht0, hfg⟩]
          exact P_vret dX10_readsSide_113 rfl ⟨Nat.le_refl _, Nat.le_refl _⟩ ⟨rfl, ⟨_, f', ko4, hF44.at kd (by decide), hU.tr ⟨⟨rfl, rfl, rfl, rfl, rfl⟩, rfl, rfl, rfl⟩, by rw [hEE]; exact ⟨hs.1, rfl, skp_ub tx hs.2.2⟩, fun q z => by rw [hEE]; exact hmd⟩, hF.tr (f180 hF44)⟩
        · have hfg := b2y c49
          exact htail G43 _ (skp n9 tx p') k4 (hF44.at kd (by decide)) ⟨hs.1, rfl, skp_ub tx hs.2.2⟩ (num_skp _ _ _ _ _) (fun _ => rfl) (hU.tr ⟨⟨rfl, rfl, rfl, rfl, rfl⟩, rfl, rfl, rfl⟩) (hF.tr (f180 hF44)) (fun z => z.2 hfg)
