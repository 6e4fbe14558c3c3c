set_option maxRecDepth 100000 in
theorem lp_ft3 (l : Launch) {G0 : PH} {o : MV} {f : Nat → Int32} {ρ : Riv} {r k x i : Nat} {fi fo fs fb : Nat → Int64} {Z : PZ} (hr : r < 6) (hT : rT ρ ≤ 24) (hK : ∀ (G : PH) (fa : Nat → Int64), mst G o f ρ → mfl G fi fo fs fa fb → (∀ j, j < rT ρ → fa j = fo (24 * r + j)) → Fr G0 G 173 5 → WP mX10_flowsThrough l (rmM mX10_flowsThrough 0 0)  Z XT 0 0 110 [some (.ref 164), some (.int (nI r)), some (.int (nI k)), some (.int (nI x)), some (.int (nI i)), none] [] G) : ∀ (n : Nat) (G : PH) (t : Nat) (fa : Nat → Int64), rT ρ - t < n → t ≤ rT ρ → mst G o f ρ → mfl G fi fo fs fa fb → (∀ j, j < t → fa j = fo (24 * r + j)) → Fr G0 G 173 5 → WP mX10_flowsThrough l (rmM mX10_flowsThrough 0 0) Z XT 0 0 74 [some (.ref 164), some (.int (nI r)), some (.int (nI k)), some (.int (nI x)), some (.int (nI i)), some (.int (nI t))] [] G := by
  intro n
  induction n with
  | zero => intro G  t  fa hn ht hk km hg hF; exact absurd hn (Nat.not_lt_zero _)
  | succ n ih =>
    intro G  t  fa hn ht hk km hg hF
    refine P_iload dX10_flowsThrough_74 rfl ?_
    refine P_aload_n dX10_flowsThrough_76 rfl ?_
    refine P_get dX10_flowsThrough_77 flX10_7 hk.1 rfl ?_
    refine P_iconst dX10_flowsThrough_80 ci_0 ?_
    refine P_iald dX10_flowsThrough_81 hk.2.1 (vp_in_nI (show 0 < 315 by decide) (by decide)) ?_
    rw [show f (Int32.toNatClampNeg 0) = nI (rT ρ) from hk.2.2.1.1]
    refine P_icmp_ge (tgt := 110) dX10_flowsThrough_82 (by decide) (fun c82 => ?_) (fun c82 => ?_)
    · have hi2 : t = rT ρ := Nat.le_antisymm ht (Nat.not_lt.mp fun q => nI_ge q (by omega) c82)
      subst hi2
      exact P_loc (by simp only [subL, List.head?_cons, List.tail_cons]; and_intros <;> first | rfl | trivial) (hK G fa hk km hg hF)
    · have hlt : t < rT ρ := Nat.not_le.mp fun q => c82 (nI_le q (by omega))
      refine P_aload_n dX10_flowsThrough_85 rfl ?_
      refine P_get dX10_flowsThrough_86 flX10_49 hk.1 rfl ?_
      refine P_iload dX10_flowsThrough_89 rfl ?_
      refine P_aload_n dX10_flowsThrough_91 rfl ?_
      refine P_get dX10_flowsThrough_92 flX10_43 hk.1 rfl ?_
      refine P_bipush dX10_flowsThrough_95 bp_24 ?_
      refine P_iload_n dX10_flowsThrough_97 rfl ?_
      refine P_imul dX10_flowsThrough_98 ?_
      refine P_iload dX10_flowsThrough_99 rfl ?_
      refine P_iadd dX10_flowsThrough_101 ?_
      rw [ix24]
      refine P_lald dX10_flowsThrough_102 km.2.1 (vp_in_nI (by omega) (by decide)) ?_
      rw [nI_clamp (by omega)]
      refine P_last dX10_flowsThrough_103 km.2.2.2.1 (vp_in_nI (by omega) (by decide)) ?_
      rw [nI_clamp (by omega)]
      refine P_iinc (L' := [_, _, _, _, _, _]) dX10_flowsThrough_104 rfl (ii_1 _) (Nat.le_of_ble_eq_true rfl) rfl ?_
      rw [nI_1]
      refine P_goto (tgt := 74) dX10_flowsThrough_107 (by decide) ?_
      refine ih _ (t + 1) _ (by omega) hlt (hk.fr (fr5 (by decide) (by decide)) (by decide)) km.sa (fun j hj => ?_) (hF.tr (fr5 (by decide) (by decide)))
      by_cases e : j = t
      · subst e; rw [pk_uLs]
      · rw [pk_uLn e]; exact hg j (by omega)
set_option maxRecDepth 100000 in
theorem lp_ft4 (l : Launch) {G0 : PH} {o : MV} {f : Nat → Int32} {ρ : Riv} {r k x i : Nat} {fi fo0 fs fa fb : Nat → Int64} {Z : PZ} (hr : r < 6) (hT : rT ρ ≤ 24) (hK : ∀ (G : PH) (fo : Nat → Int64), mst G o f ρ → mfl G fi fo fs fa fb → (∀ j, j < rT ρ → fo (24 * r + j) = fb j) → (∀ j, j < 24 * r ∨ 24 * r + 24 ≤ j → fo j = fo0 j) → Fr G0 G 173 5 → WP mX10_flowsThrough l (rmM mX10_flowsThrough 0 0)  Z XT 0 0 159 [some (.ref 164), some (.int (nI r)), some (.int (nI k)), some (.int (nI x)), some (.int (nI i)), none] [] G) : ∀ (n : Nat) (G : PH) (t : Nat) (fo : Nat → Int64), rT ρ - t < n → t ≤ rT ρ → mst G o f ρ → mfl G fi fo fs fa fb → (∀ j, j < t → fo (24 * r + j) = fb j) → (∀ j, j < 24 * r ∨ 24 * r + 24 ≤ j → fo j = fo0 j) → Fr G0 G 173 5 → WP mX10_flowsThrough l (rmM mX10_flowsThrough 0 0) Z XT 0 0 123 [some (.ref 164), some (.int (nI r)), some (.int (nI k)), some (.int (nI x)), some (.int (nI i)), some (.int (nI t))] [] G := by
  intro n
  induction n with
  | zero => intro G  t  fo hn ht hk km hg ho hF; exact absurd hn (Nat.not_lt_zero _)
  | succ n ih =>
    intro G  t  fo hn ht hk km hg ho hF
    refine P_iload dX10_flowsThrough_123 rfl ?_
    refine P_aload_n dX10_flowsThrough_125 rfl ?_
    refine P_get dX10_flowsThrough_126 flX10_7 hk.1 rfl ?_
    refine P_iconst dX10_flowsThrough_129 ci_0 ?_
    refine P_iald dX10_flowsThrough_130 hk.2.1 (vp_in_nI (show 0 < 315 by decide) (by decide)) ?_
    rw [show f (Int32.toNatClampNeg 0) = nI (rT ρ) from hk.2.2.1.1]
    refine P_icmp_ge (tgt := 159) dX10_flowsThrough_131 (by decide) (fun c131 => ?_) (fun c131 => ?_)
    · have hi2 : t = rT ρ := Nat.le_antisymm ht (Nat.not_lt.mp fun q => nI_ge q (by omega) c131)
      subst hi2
      exact P_loc (by simp only [subL, List.head?_cons, List.tail_cons]; and_intros <;> first | rfl | trivial) (hK G fo hk km hg ho hF)
    · have hlt : t < rT ρ := Nat.not_le.mp fun q => c131 (nI_le q (by omega))
      refine P_aload_n dX10_flowsThrough_134 rfl ?_
      refine P_get dX10_flowsThrough_135 flX10_43 hk.1 rfl ?_
      refine P_bipush dX10_flowsThrough_138 bp_24 ?_
      refine P_iload_n dX10_flowsThrough_140 rfl ?_
      refine P_imul dX10_flowsThrough_141 ?_
      refine P_iload dX10_flowsThrough_142 rfl ?_
      refine P_iadd dX10_flowsThrough_144 ?_
      rw [ix24]
      refine P_aload_n dX10_flowsThrough_145 rfl ?_
      refine P_get dX10_flowsThrough_146 flX10_52 hk.1 rfl ?_
      refine P_iload dX10_flowsThrough_149 rfl ?_
      refine P_lald dX10_flowsThrough_151 km.2.2.2.2 (vp_in_nI (by omega) (by decide)) ?_
      rw [nI_clamp (by omega)]
      refine P_last dX10_flowsThrough_152 km.2.1 (vp_in_nI (by omega) (by decide)) ?_
      rw [nI_clamp (by omega)]
      refine P_iinc (L' := [_, _, _, _, _, _]) dX10_flowsThrough_153 rfl (ii_1 _) (Nat.le_of_ble_eq_true rfl) rfl ?_
      rw [nI_1]
      refine P_goto (tgt := 123) dX10_flowsThrough_156 (by decide) ?_
      refine ih _ (t + 1) _ (by omega) hlt (hk.fr (fr5 (by decide) (by decide)) (by decide)) km.so (fun j hj => ?_) (fun j hj => ?_) (hF.tr (fr5 (by decide) (by decide)))
      · by_cases e : j = t
        · subst e; rw [pk_uLs]
        · rw [pk_uLn (by omega)]; exact hg j (by omega)
      · rw [pk_uLn (by omega)]; exact ho j hj
set_option maxRecDepth 100000 in
theorem lp_ft2 (l : Launch) {G0 : PH} {o : MV} {f : Nat → Int32} {ρ : Riv} {r k x q : Nat} {fi fo0 fs0 : Nat → Int64} (hr : r < rN ρ) (hN : rN ρ ≤ 6) (hT : rT ρ ≤ 24) (hk2 : k ≤ 20) (hx2 : x ≤ 10) (hq : q ≤ 4) (eq : rF ρ r 3 = nI q) : ∀ (n : Nat) (G : PH) (i : Nat) (fo fs fa fb : Nat → Int64), q - i < n → i ≤ q → mst G o f ρ → mfl G fi fo fs fa fb → (∀ j, j < rT ρ → fo (24 * r + j) = flP (nI (rD ρ)) (nI k) (nI x) i (fun t => fi (24 * r + t)) j ∧ fs (24 * r + j) = hlP (nI (rD ρ)) (nI k) (nI x) i (fun t => fi (24 * r + t)) j) → (∀ j, j < 24 * r ∨ 24 * r + 24 ≤ j → fo j = fo0 j ∧ fs j = fs0 j) → Fr G0 G 173 5 → WP mX10_flowsThrough l (rmM mX10_flowsThrough 0 0) (ZM 0 0 (fun w G' => w = none ∧ (∃ fo' fs' fa' fb', mfl G' fi fo' fs' fa' fb' ∧ (∀ j, j < rT ρ → fo' (24 * r + j) = flP (nI (rD ρ)) (nI k) (nI x) q (fun t => fi (24 * r + t)) j ∧ fs' (24 * r + j) = hlP (nI (rD ρ)) (nI k) (nI x) q (fun t => fi (24 * r + t)) j) ∧ ∀ j, j < 24 * r ∨ 24 * r + 24 ≤ j → fo' j = fo0 j ∧ fs' j = fs0 j) ∧ Fr G0 G' 173 5)) XT 0 0 60 [some (.ref 164), some (.int (nI r)), some (.int (nI k)), some (.int (nI x)), some (.int (nI i)), none] [] G := by
  intro n
  induction n with
  | zero => intro G  i  fo fs fa fb hn hi hk km hg ho hF; exact absurd hn (Nat.not_lt_zero _)
  | succ n ih =>
    intro G  i  fo fs fa fb hn hi hk km hg ho hF
    refine P_iload dX10_flowsThrough_60 rfl ?_
    refine P_aload_n dX10_flowsThrough_62 rfl ?_
    refine P_iload_n dX10_flowsThrough_63 rfl ?_
    refine P_iconst dX10_flowsThrough_64 ci_3 ?_
    refine P_callVp dX10_flowsThrough_65 lkX10_95 okX10_of ⟨Nat.le_of_ble_eq_true rfl, Nat.le_of_ble_eq_true rfl⟩ (m_of (i := 3) l hk.1 hk.2.1 (by omega)) rfl rfl hk.1 (Nat.le_of_ble_eq_true rfl) ⟨Nat.le_of_ble_eq_true rfl, Nat.le_of_ble_eq_true rfl⟩ ?_
    rw [(hk.2.2.1.2.2.2 r hr).1 3 (by decide), eq]
    refine P_icmp_ge (tgt := 165) dX10_flowsThrough_68 (by decide) (fun c68 => ?_) (fun c68 => ?_)
    · have hi2 : i = q := Nat.le_antisymm hi (Nat.not_lt.mp fun z => nI_ge z (by omega) c68)
      subst hi2
      exact P_vret dX10_flowsThrough_165 rfl ⟨Nat.le_refl _, Nat.le_refl _⟩ ⟨rfl, ⟨fo, fs, fa, fb, km, hg, ho⟩, hF⟩
    · have hlt : i < q := Nat.not_le.mp fun z => c68 (nI_le z (by omega))
      refine P_iconst dX10_flowsThrough_71 ci_0 ?_
      refine P_istore (L' := [_, _, _, _, _, _]) dX10_flowsThrough_72 (Nat.le_of_ble_eq_true rfl) rfl ?_
      refine lp_ft3 l (by omega) hT ?_ (rT ρ + 1) G 0 fa (by omega) (Nat.zero_le _) hk km (fun j hj => absurd hj (Nat.not_lt_zero _)) hF
      intro G9 fa9 hk9 km9 hg9 hF9
      refine P_aload_n dX10_flowsThrough_110 rfl ?_
      refine P_iload_n dX10_flowsThrough_111 rfl ?_
      refine P_iload_n dX10_flowsThrough_112 rfl ?_
      refine P_bipush dX10_flowsThrough_113 bp_24 ?_
      refine P_iload_n dX10_flowsThrough_115 rfl ?_
      refine P_imul dX10_flowsThrough_116 ?_
      rw [show (24 : Int32) * nI r = nI (24 * r) from pk_mul 24 r]
      refine P_callV dX10_flowsThrough_117 lkX10_98 okX10_flowsPart ⟨Nat.le_of_ble_eq_true rfl, Nat.le_of_ble_eq_true rfl⟩ (m_flowsPart l hk9 km9 (by omega) hk2 hx2) rfl rfl hk9.1 (Nat.le_of_ble_eq_true rfl) ⟨Nat.le_of_ble_eq_true rfl, Nat.le_of_ble_eq_true rfl⟩ (fun v117 G117 q117 => ?_)
      obtain ⟨rfl, ⟨fs8, fb8, km8, hb8, hs8, ho8⟩, hF8⟩ := q117
      have hk8 := hk9.fr hF8 (by decide)
      refine P_iconst dX10_flowsThrough_120 ci_0 ?_
      refine P_istore (L' := [_, _, _, _, _, _]) dX10_flowsThrough_121 (Nat.le_of_ble_eq_true rfl) rfl ?_
      refine lp_ft4 l (fo0 := fo) (by omega) hT ?_ (rT ρ + 1) G117 0 fo (by omega) (Nat.zero_le _) hk8 km8 (fun j hj => absurd hj (Nat.not_lt_zero _)) (fun _ _ => rfl) (hF9.tr hF8)
      intro G7 fo7 hk7 km7 hg7 ho7 hF7
      refine P_iinc (L' := [_, _, _, _, _, _]) dX10_flowsThrough_159 rfl (ii_1 _) (Nat.le_of_ble_eq_true rfl) rfl ?_
      rw [nI_1]
      refine P_goto (tgt := 60) dX10_flowsThrough_162 (by decide) ?_
      refine ih G7 (i + 1) fo7 fs8 fa9 fb8 (by omega) hlt hk7 km7 (fun j hj => ?_) (fun j hj => ?_) hF7
      · rw [hg7 j hj, hb8 j hj, hs8 j hj]
        exact ⟨oP_cong (fun a ha => (hg9 a (by omega)).trans (hg a (by omega)).1), hP_cong (fun a ha => (hg9 a (by omega)).trans (hg a (by omega)).1) (hg j hj).2⟩
      · rw [ho7 j hj, ho8 j hj]; exact ho j hj
set_option maxRecDepth 100000 in
theorem lp_ft1 (l : Launch) {G0 : PH} {o : MV} {f : Nat → Int32} {ρ : Riv} {r k x q : Nat} {fi fo0 fs0 fa fb : Nat → Int64} (hr : r < rN ρ) (hN : rN ρ ≤ 6) (hT : rT ρ ≤ 24) (hk2 : k ≤ 20) (hx2 : x ≤ 10) (hq : q ≤ 4) (eq : rF ρ r 3 = nI q) : ∀ (n : Nat) (G : PH) (t : Nat) (fo fs : Nat → Int64), rT ρ - t < n → t ≤ rT ρ → mst G o f ρ → mfl G fi fo fs fa fb → (∀ j, j < t → fo (24 * r + j) = fi (24 * r + j) ∧ fs (24 * r + j) = 0) → (∀ j, j < 24 * r ∨ 24 * r + 24 ≤ j → fo j = fo0 j ∧ fs j = fs0 j) → Fr G0 G 173 5 → WP mX10_flowsThrough l (rmM mX10_flowsThrough 0 0) (ZM 0 0 (fun w G' => w = none ∧ (∃ fo' fs' fa' fb', mfl G' fi fo' fs' fa' fb' ∧ (∀ j, j < rT ρ → fo' (24 * r + j) = flP (nI (rD ρ)) (nI k) (nI x) q (fun t => fi (24 * r + t)) j ∧ fs' (24 * r + j) = hlP (nI (rD ρ)) (nI k) (nI x) q (fun t => fi (24 * r + t)) j) ∧ ∀ j, j < 24 * r ∨ 24 * r + 24 ≤ j → fo' j = fo0 j ∧ fs' j = fs0 j) ∧ Fr G0 G' 173 5)) XT 0 0 3 [some (.ref 164), some (.int (nI r)), some (.int (nI k)), some (.int (nI x)), some (.int (nI t)), none] [] G := by
  intro n
  induction n with
  | zero => intro G  t  fo fs hn ht hk km hg ho hF; exact absurd hn (Nat.not_lt_zero _)
  | succ n ih =>
    intro G  t  fo fs hn ht hk km hg ho hF
    refine P_iload dX10_flowsThrough_3 rfl ?_
    refine P_aload_n dX10_flowsThrough_5 rfl ?_
    refine P_get dX10_flowsThrough_6 flX10_7 hk.1 rfl ?_
    refine P_iconst dX10_flowsThrough_9 ci_0 ?_
    refine P_iald dX10_flowsThrough_10 hk.2.1 (vp_in_nI (show 0 < 315 by decide) (by decide)) ?_
    rw [show f (Int32.toNatClampNeg 0) = nI (rT ρ) from hk.2.2.1.1]
    refine P_icmp_ge (tgt := 57) dX10_flowsThrough_11 (by decide) (fun c11 => ?_) (fun c11 => ?_)
    · have hi2 : t = rT ρ := Nat.le_antisymm ht (Nat.not_lt.mp fun q => nI_ge q (by omega) c11)
      subst hi2
      refine P_iconst dX10_flowsThrough_57 ci_0 ?_
      refine P_istore (L' := [_, _, _, _, _, _]) dX10_flowsThrough_58 (Nat.le_of_ble_eq_true rfl) rfl ?_
      exact P_loc (by simp only [subL, List.head?_cons, List.tail_cons]; and_intros <;> first | rfl | trivial) (lp_ft2 l hr hN hT hk2 hx2 hq eq (q + 1) G 0 fo fs fa fb (by omega) (Nat.zero_le _) hk km hg ho hF)
    · have hlt : t < rT ρ := Nat.not_le.mp fun q => c11 (nI_le q (by omega))
      refine P_aload_n dX10_flowsThrough_14 rfl ?_
      refine P_get dX10_flowsThrough_15 flX10_43 hk.1 rfl ?_
      refine P_bipush dX10_flowsThrough_18 bp_24 ?_
      refine P_iload_n dX10_flowsThrough_20 rfl ?_
      refine P_imul dX10_flowsThrough_21 ?_
      refine P_iload dX10_flowsThrough_22 rfl ?_
      refine P_iadd dX10_flowsThrough_24 ?_
      rw [ix24]
      refine P_aload_n dX10_flowsThrough_25 rfl ?_
      refine P_get dX10_flowsThrough_26 flX10_40 hk.1 rfl ?_
      refine P_bipush dX10_flowsThrough_29 bp_24 ?_
      refine P_iload_n dX10_flowsThrough_31 rfl ?_
      refine P_imul dX10_flowsThrough_32 ?_
      refine P_iload dX10_flowsThrough_33 rfl ?_
      refine P_iadd dX10_flowsThrough_35 ?_
      rw [ix24]
      refine P_lald dX10_flowsThrough_36 km.1 (vp_in_nI (by omega) (by decide)) ?_
      rw [nI_clamp (by omega)]
      refine P_last dX10_flowsThrough_37 km.2.1 (vp_in_nI (by omega) (by decide)) ?_
      rw [nI_clamp (by omega)]
      have km1 := km.so (g := vp_updL fo (24 * r + t) (fi (24 * r + t)))
      have hk1 := hk.fr (fr5 (G := G) (i := 174) (c := aJ 144 (vp_updL fo (24 * r + t) (fi (24 * r + t)))) (by decide) (by decide)) (by decide)
      refine P_aload_n dX10_flowsThrough_38 rfl ?_
      refine P_get dX10_flowsThrough_39 flX10_46 hk1.1 rfl ?_
      refine P_bipush dX10_flowsThrough_42 bp_24 ?_
      refine P_iload_n dX10_flowsThrough_44 rfl ?_
      refine P_imul dX10_flowsThrough_45 ?_
      refine P_iload dX10_flowsThrough_46 rfl ?_
      refine P_iadd dX10_flowsThrough_48 ?_
      rw [ix24]
      refine P_lconst dX10_flowsThrough_49 lc_0 ?_
      refine P_last dX10_flowsThrough_50 km1.2.2.1 (vp_in_nI (by omega) (by decide)) ?_
      rw [nI_clamp (by omega)]
      refine P_iinc (L' := [_, _, _, _, _, _]) dX10_flowsThrough_51 rfl (ii_1 _) (Nat.le_of_ble_eq_true rfl) rfl ?_
      rw [nI_1]
      refine P_goto (tgt := 3) dX10_flowsThrough_54 (by decide) ?_
      refine ih _ (t + 1) _ _ (by omega) hlt (hk1.fr (fr5 (by decide) (by decide)) (by decide)) km1.ss (fun j hj => ?_) (fun j hj => ?_) ((hF.tr (fr5 (by decide) (by decide))).tr (fr5 (by decide) (by decide)))
      · by_cases e : j = t
        · subst e; rw [pk_uLs, pk_uLs]; exact ⟨rfl, rfl⟩
        · rw [pk_uLn (by omega), pk_uLn (by omega)]; exact hg j (by omega)
      · rw [pk_uLn (by omega), pk_uLn (by omega)]; exact ho j hj
set_option maxHeartbeats 4000000 in
set_option maxRecDepth 100000 in
theorem m_flowsThrough (l : Launch) {G : PH} {o : MV} {f : Nat → Int32} {ρ : Riv} {r k x q : Nat} {fi fo fs fa fb : Nat → Int64} (hk : mst G o f ρ) (km : mfl G fi fo fs fa fb) (hr : r < rN ρ) (hk2 : k ≤ 20) (hx2 : x ≤ 10) (hq : q ≤ 4) (eq : rF ρ r 3 = nI q) : Tri l mX10_flowsThrough 0 0 [.ref 164, .int (nI r), .int (nI k), .int (nI x)] G (fun w G' => w = none ∧ (∃ fo' fs' fa' fb', mfl G' fi fo' fs' fa' fb' ∧ (∀ j, j < rT ρ → fo' (24 * r + j) = flP (nI (rD ρ)) (nI k) (nI x) q (fun t => fi (24 * r + t)) j ∧ fs' (24 * r + j) = hlP (nI (rD ρ)) (nI k) (nI x) q (fun t => fi (24 * r + t)) j) ∧ ∀ j, j < 24 * r ∨ 24 * r + 24 ≤ j → fo' j = fo j ∧ fs' j = fs j) ∧ Fr G G' 173 5) := by
  have hb := hk.2.2.2
  have hT : rT ρ ≤ 24 := hb.2.1; have hN : rN ρ ≤ 6 := hb.2.2.2.2
  refine Tri.intro (L := [_, _, _, _, _, _]) okX10_flowsThrough.1 (Nat.le_of_ble_eq_true rfl) rfl ?_
  refine P_iconst dX10_flowsThrough_0 ci_0 ?_
  refine P_istore (L' := [_, _, _, _, _, _]) dX10_flowsThrough_1 (Nat.le_of_ble_eq_true rfl) rfl ?_
  exact P_loc (by simp only [subL, List.head?_cons, List.tail_cons]; and_intros <;> first | rfl | trivial) (lp_ft1 l hr hN hT hk2 hx2 hq eq (rT ρ + 1) G 0 fo fs (by omega) (Nat.zero_le _) hk km (fun j hj => absurd hj (Nat.not_lt_zero _)) (fun _ _ => ⟨rfl, rfl⟩) Fr.rf)
/-- the flows of a river lie in the arrays -/
def mranF (ρ : Riv) (i : Nat) (fi fo fs : Nat → Int64) : Prop := ∀ r, i ≤ r → r < rN ρ → ∀ t, t < rT ρ → fi (24 * r + t) = INN ρ r t ∧ fo (24 * r + t) = OUT ρ r t ∧ fs (24 * r + t) = STO ρ r t
def mran (G : PH) (ρ : Riv) : Prop := ∃ fi fo fs fa fb, mfl G fi fo fs fa fb ∧ mranF ρ 0 fi fo fs
theorem mran.fr {G G' : PH} {ρ : Riv} {a n : Nat} (k : mran G ρ) (hF : Fr G G' a n) (hd : 178 ≤ a ∨ a + n ≤ 173) : mran G' ρ := by
  obtain ⟨fi, fo, fs, fa, fb, km, hg⟩ := k
  exact ⟨fi, fo, fs, fa, fb, km.fr hF hd, hg⟩
/-- the river as flows(q, k, x) takes it -/
def rQ (ρ ρ' : Riv) (q k x : Int32) : Prop := ρ'.1 = ρ.1 ∧ rS ρ' = rS ρ ∧ (∀ r, rF ρ' r 0 = rF ρ r 0 ∧ rF ρ' r 3 = rF ρ r 3) ∧ ∀ r, r < rN ρ → rF ρ' r 1 = (if nI r = q then k else rF ρ r 1) ∧ rF ρ' r 2 = (if nI r = q then x else rF ρ r 2)
theorem rQ_no {ρ : Riv} (h6 : rN ρ ≤ 6) : rQ ρ ρ (-1) 0 0 := ⟨rfl, rfl, fun _ => ⟨rfl, rfl⟩, fun r hr => by
  have h : ¬ nI r = -1 := fun z => nI_pos (n := r) (by omega) (by rw [z]; decide)
  rw [if_neg h, if_neg h]; exact ⟨rfl, rfl⟩⟩
theorem rQ_W {ρ : Riv} (h6 : rN ρ ≤ 6) {q : Nat} (hq : q < rN ρ) {k x : Int32} : rQ ρ (rvW ρ q k x) (nI q) k x := by
  refine ⟨rfl, rfl, fun r => ⟨(up2_ne (by omega)).trans (up2_ne (by omega)), (up2_ne (by omega)).trans (up2_ne (by omega))⟩, fun r hr => ?_⟩
  by_cases e : r = q
  · subst e
    rw [if_pos rfl, if_pos rfl]
    exact ⟨(up2_ne (by omega)).trans (up2_eq ⟨rfl, rfl⟩), up2_eq ⟨rfl, rfl⟩⟩
  · have h : ¬ nI r = nI q := fun z => e ((nI_eq (by omega) (by omega)).mp z)
    rw [if_neg h, if_neg h]
    exact ⟨(up2_ne (by omega)).trans (up2_ne (by omega)), (up2_ne (by omega)).trans (up2_ne (by omega))⟩
set_option maxRecDepth 100000 in
theorem lp_fl3 (l : Launch) {o : MV} {f : Nat → Int32} {ρ ρ' : Riv} {q0 k0 x0 : Int32} {G : PH} {r t : Nat} {fi fo fs fa fb : Nat → Int64} {Z : PZ} (hk : mst G o f ρ) (km : mfl G fi fo fs fa fb) (hQ : rQ ρ ρ' q0 k0 x0) (hr : r < rN ρ) (ht : t < rT ρ) (hK : WP mX10_flows l (rmM mX10_flows 0 0)  Z XT 0 0 99 [some (.ref 164), some (.int q0), some (.int k0), some (.int x0), some (.int (nI r)), some (.int (nI t)), some (.long (inn ρ' (fun a b => fo (24 * a + b)) r t)), none, none] [] G) : ∀ (n : Nat) (m : Nat), rN ρ - (r + 1 + m) < n → r + 1 + m ≤ rN ρ → WP mX10_flows l (rmM mX10_flows 0 0) Z XT 0 0 48 [some (.ref 164), some (.int q0), some (.int k0), some (.int x0), some (.int (nI r)), some (.int (nI t)), some (.long (inF ρ' (fun a b => fo (24 * a + b)) r t m)), none, some (.int (nI (r + 1 + m)))] [] G := by
  intro n
  induction n with
  | zero => intro m hn hm; exact absurd hn (Nat.not_lt_zero _)
  | succ n ih =>
    intro m hn hm
    have hb := hk.2.2.2; have hN : rN ρ ≤ 6 := hb.2.2.2.2; have hT : rT ρ ≤ 24 := hb.2.1
    have eN : rN ρ' = rN ρ := congrArg (·.2.2) hQ.1
    refine P_iload dX10_flows_48 rfl ?_
    refine P_aload_n dX10_flows_50 rfl ?_
    refine P_get dX10_flows_51 flX10_7 hk.1 rfl ?_
    refine P_iconst dX10_flows_54 ci_2 ?_
    refine P_iald dX10_flows_55 hk.2.1 (vp_in_nI (show 2 < 315 by decide) (by decide)) ?_
    rw [show f (Int32.toNatClampNeg 2) = nI (rN ρ) from hk.2.2.1.2.2.1]
    refine P_icmp_ge (tgt := 99) dX10_flows_56 (by decide) (fun c56 => ?_) (fun c56 => ?_)
    · have hi2 : m = rN ρ' - (r + 1) := by have := Nat.not_lt.mp fun q : r + 1 + m < rN ρ => nI_ge q (by omega) c56; omega
      subst hi2
      exact P_loc (by simp only [subL, List.head?_cons, List.tail_cons]; and_intros <;> first | rfl | trivial) hK
    · have hlt : r + 1 + m < rN ρ := Nat.not_le.mp fun q => c56 (nI_le q (by omega))
      refine P_lload dX10_flows_59 rfl ?_
      refine P_aload_n dX10_flows_61 rfl ?_
      refine P_iload dX10_flows_62 rfl ?_
      refine P_iconst dX10_flows_64 ci_0 ?_
      refine P_callVp dX10_flows_65 lkX10_95 okX10_of ⟨Nat.le_of_ble_eq_true rfl, Nat.le_of_ble_eq_true rfl⟩ (m_of (i := 0) l hk.1 hk.2.1 (by omega)) rfl rfl hk.1 (Nat.le_of_ble_eq_true rfl) ⟨Nat.le_of_ble_eq_true rfl, Nat.le_of_ble_eq_true rfl⟩ ?_
      rw [(hk.2.2.1.2.2.2 (r + 1 + m) hlt).1 0 (by decide), ← (hQ.2.2.1 (r + 1 + m)).1]
      refine P_iload dX10_flows_68 rfl ?_
      refine P_icmp_ne (tgt := 89) dX10_flows_70 (by decide) (fun c70 => ?_) (fun c70 => ?_)
      · refine P_lconst dX10_flows_89 lc_0 ?_
        refine P_ladd dX10_flows_90 ?_
        rw [show inF ρ' (fun a b => fo (24 * a + b)) r t m + 0 = inF ρ' (fun a b => fo (24 * a + b)) r t (m + 1) by simp only [inF]; rw [if_neg c70]]
        refine P_lstore (L' := [_, _, _, _, _, _, _, _, _]) dX10_flows_91 (Nat.le_of_ble_eq_true rfl) rfl ?_
        refine P_iinc (L' := [_, _, _, _, _, _, _, _, _]) dX10_flows_93 rfl (ii_1 _) (Nat.le_of_ble_eq_true rfl) rfl ?_
        rw [nI_1, Nat.add_assoc]
        refine P_goto (tgt := 48) dX10_flows_96 (by decide) ?_
        exact ih (m + 1) (by omega) (by omega)
      · refine P_aload_n dX10_flows_73 rfl ?_
        refine P_get dX10_flows_74 flX10_43 hk.1 rfl ?_
        refine P_bipush dX10_flows_77 bp_24 ?_
        refine P_iload dX10_flows_79 rfl ?_
        refine P_imul dX10_flows_81 ?_
        refine P_iload dX10_flows_82 rfl ?_
        refine P_iadd dX10_flows_84 ?_
        rw [ix24]
        refine P_lald dX10_flows_85 km.2.1 (vp_in_nI (by omega) (by decide)) ?_
        rw [nI_clamp (by omega)]
        refine P_goto (tgt := 90) dX10_flows_86 (by decide) ?_
        refine P_ladd dX10_flows_90 ?_
        rw [show inF ρ' (fun a b => fo (24 * a + b)) r t m + fo (24 * (r + 1 + m) + t) = inF ρ' (fun a b => fo (24 * a + b)) r t (m + 1) by simp only [inF]; rw [if_pos c70]]
        refine P_lstore (L' := [_, _, _, _, _, _, _, _, _]) dX10_flows_91 (Nat.le_of_ble_eq_true rfl) rfl ?_
        refine P_iinc (L' := [_, _, _, _, _, _, _, _, _]) dX10_flows_93 rfl (ii_1 _) (Nat.le_of_ble_eq_true rfl) rfl ?_
        rw [nI_1, Nat.add_assoc]
        refine P_goto (tgt := 48) dX10_flows_96 (by decide) ?_
        exact ih (m + 1) (by omega) (by omega)
set_option maxRecDepth 100000 in
theorem lp_fl2 (l : Launch) {o : MV} {f : Nat → Int32} {ρ ρ' : Riv} {q0 k0 x0 : Int32} {G0 : PH} {r : Nat} {fi0 fo fs fa fb : Nat → Int64} {Z : PZ} (hQ : rQ ρ ρ' q0 k0 x0) (hr : r < rN ρ) (hK : ∀ (G : PH) (fi : Nat → Int64), mst G o f ρ → mfl G fi fo fs fa fb → (∀ j, j < rT ρ → fi (24 * r + j) = inn ρ' (fun a b => fo (24 * a + b)) r j) → (∀ j, j < 24 * r ∨ 24 * r + 24 ≤ j → fi j = fi0 j) → Fr G0 G 173 5 → WP mX10_flows l (rmM mX10_flows 0 0)  Z XT 0 0 120 [some (.ref 164), some (.int q0), some (.int k0), some (.int x0), some (.int (nI r)), none, none, none, none] [] G) : ∀ (n : Nat) (G : PH) (t : Nat) (fi : Nat → Int64), rT ρ - t < n → t ≤ rT ρ → mst G o f ρ → mfl G fi fo fs fa fb → (∀ j, j < t → fi (24 * r + j) = inn ρ' (fun a b => fo (24 * a + b)) r j) → (∀ j, j < 24 * r ∨ 24 * r + 24 ≤ j → fi j = fi0 j) → Fr G0 G 173 5 → WP mX10_flows l (rmM mX10_flows 0 0) Z XT 0 0 18 [some (.ref 164), some (.int q0), some (.int k0), some (.int x0), some (.int (nI r)), some (.int (nI t)), none, none, none] [] G := by
  intro n
  induction n with
  | zero => intro G  t  fi hn ht hk km hg ho hF; exact absurd hn (Nat.not_lt_zero _)
  | succ n ih =>
    intro G  t  fi hn ht hk km hg ho hF
    have hb := hk.2.2.2; have hN : rN ρ ≤ 6 := hb.2.2.2.2; have hT : rT ρ ≤ 24 := hb.2.1
    refine P_iload dX10_flows_18 rfl ?_
    refine P_aload_n dX10_flows_20 rfl ?_
    refine P_get dX10_flows_21 flX10_7 hk.1 rfl ?_
    refine P_iconst dX10_flows_24 ci_0 ?_
    refine P_iald dX10_flows_25 hk.2.1 (vp_in_nI (show 0 < 315 by decide) (by decide)) ?_
    rw [show f (Int32.toNatClampNeg 0) = nI (rT ρ) from hk.2.2.1.1]
    refine P_icmp_ge (tgt := 120) dX10_flows_26 (by decide) (fun c26 => ?_) (fun c26 => ?_)
    · have hi2 : t = rT ρ := Nat.le_antisymm ht (Nat.not_lt.mp fun q => nI_ge q (by omega) c26)
      subst hi2
      exact P_loc (by simp only [subL, List.head?_cons, List.tail_cons]; and_intros <;> first | rfl | trivial) (hK G fi hk km hg ho hF)
    · have hlt : t < rT ρ := Nat.not_le.mp fun q => c26 (nI_le q (by omega))
      refine P_aload_n dX10_flows_29 rfl ?_
      refine P_iload dX10_flows_30 rfl ?_
      refine P_iconst dX10_flows_32 ci_4 ?_
      refine P_iload dX10_flows_33 rfl ?_
      refine P_iadd dX10_flows_35 ?_
      rw [ix4]
      refine P_callVp dX10_flows_36 lkX10_95 okX10_of ⟨Nat.le_of_ble_eq_true rfl, Nat.le_of_ble_eq_true rfl⟩ (m_of l hk.1 hk.2.1 (by omega)) rfl rfl hk.1 (Nat.le_of_ble_eq_true rfl) ⟨Nat.le_of_ble_eq_true rfl, Nat.le_of_ble_eq_true rfl⟩ ?_
      rw [((hk.2.2.1.2.2.2 r hr).2 t (by omega)).1, ← hQ.2.1]
      refine P_i2l dX10_flows_39 ?_
      refine P_lstore (L' := [_, _, _, _, _, _, _, _, _]) dX10_flows_40 (Nat.le_of_ble_eq_true rfl) rfl ?_
      refine P_iload dX10_flows_42 rfl ?_
      refine P_iconst dX10_flows_44 ci_1 ?_
      refine P_iadd dX10_flows_45 ?_
      rw [nI_1]
      refine P_istore (L' := [_, _, _, _, _, _, _, _, _]) dX10_flows_46 (Nat.le_of_ble_eq_true rfl) rfl ?_
      refine lp_fl3 l hk km hQ hr hlt ?_ (rN ρ + 1) 0 (by omega) (by omega)
      refine P_aload_n dX10_flows_99 rfl ?_
      refine P_get dX10_flows_100 flX10_40 hk.1 rfl ?_
      refine P_bipush dX10_flows_103 bp_24 ?_
      refine P_iload dX10_flows_105 rfl ?_
      refine P_imul dX10_flows_107 ?_
      refine P_iload dX10_flows_108 rfl ?_
      refine P_iadd dX10_flows_110 ?_
      rw [ix24]
      refine P_lload dX10_flows_111 rfl ?_
      refine P_last dX10_flows_113 km.1 (vp_in_nI (by omega) (by decide)) ?_
      rw [nI_clamp (by omega)]
      refine P_iinc (L' := [_, _, _, _, _, _, _, _, _]) dX10_flows_114 rfl (ii_1 _) (Nat.le_of_ble_eq_true rfl) rfl ?_
      rw [nI_1]
      refine P_goto (tgt := 18) dX10_flows_117 (by decide) ?_
      refine P_loc ?_ (ih _ (t + 1) _ (by omega) hlt (hk.fr (fr5 (by decide) (by decide)) (by decide)) km.si (fun j hj => ?_) (fun j hj => ?_) (hF.tr (fr5 (by decide) (by decide))))
      · simp only [subL, List.head?_cons, List.tail_cons]; and_intros <;> first | rfl | trivial
      · by_cases e : j = t
        · subst e; rw [pk_uLs]
        · rw [pk_uLn (by omega)]; exact hg j (by omega)
      · rw [pk_uLn (by omega)]; exact ho j hj
set_option maxHeartbeats 4000000 in
set_option maxRecDepth 100000 in
theorem lp_fl1 (l : Launch) {o : MV} {f : Nat → Int32} {ρ ρ' : Riv} {q0 k0 x0 : Int32} {G0 : PH} (hQ : rQ ρ ρ' q0 k0 x0) (hv : rVal ρ') (hb' : rBd ρ') : ∀ (n : Nat) (G : PH) (i : Nat) (fi fo fs fa fb : Nat → Int64), i < n → i ≤ rN ρ → mst G o f ρ → mfl G fi fo fs fa fb → mranF ρ' i fi fo fs → Fr G0 G 173 5 → WP mX10_flows l (rmM mX10_flows 0 0) (ZM 0 0 (fun w G' => w = none ∧ mran G' ρ' ∧ Fr G0 G' 173 5)) XT 0 0 10 [some (.ref 164), some (.int q0), some (.int k0), some (.int x0), some (.int (nI i - 1)), none, none, none, none] [] G := by
  intro n
  induction n with
  | zero => intro G  i  fi fo fs fa fb hn hi hk km hg hF; exact absurd hn (Nat.not_lt_zero _)
  | succ n ih =>
    intro G  i  fi fo fs fa fb hn hi hk km hg hF
    have hb := hk.2.2.2; have hN : rN ρ ≤ 6 := hb.2.2.2.2; have hT : rT ρ ≤ 24 := hb.2.1
    have eT : rT ρ' = rT ρ := congrArg (·.1) hQ.1; have eD : rD ρ' = rD ρ := congrArg (·.2.1) hQ.1; have eN : rN ρ' = rN ρ := congrArg (·.2.2) hQ.1
    refine P_iload dX10_flows_10 rfl ?_
    refine P_if_lt (tgt := 166) dX10_flows_12 (by decide) (fun c12 => ?_) (fun c12 => ?_)
    · have hi0 : i = 0 := Classical.byContradiction fun q => by obtain ⟨u, rfl⟩ : ∃ u, i = u + 1 := ⟨i - 1, by omega⟩; rw [nI_pred] at c12; exact nI_pos (by omega) c12
      subst hi0
      exact P_vret dX10_flows_166 rfl ⟨Nat.le_refl _, Nat.le_refl _⟩ ⟨rfl, ⟨fi, fo, fs, fa, fb, km, hg⟩, hF⟩
    · obtain ⟨r, rfl⟩ : ∃ u, i = u + 1 := ⟨i - 1, by have : i ≠ 0 := fun q => c12 (by rw [q]; decide +kernel); omega⟩
      rw [nI_pred]
      have hr : r < rN ρ := hi
      have hr' : r < rN ρ' := by omega
      obtain ⟨-, ⟨kk, hk2, ek⟩, ⟨xx, hx2, ex⟩, ⟨qq, hq1, hq4, eq⟩, -⟩ := hv r hr'
      have ek2 := (hQ.2.2.2 r hr).1.symm.trans ek; have ex2 := (hQ.2.2.2 r hr).2.symm.trans ex; have eq2 := (hQ.2.2.1 r).2.symm.trans eq
      refine P_iconst dX10_flows_15 ci_0 ?_
      refine P_istore (L' := [_, _, _, _, _, _, _, _, _]) dX10_flows_16 (Nat.le_of_ble_eq_true rfl) rfl ?_
      refine P_loc (by simp only [subL, List.head?_cons, List.tail_cons]; and_intros <;> first | rfl | trivial) (lp_fl2 l (fi0 := fi) (G0 := G0) hQ hr ?_ (rT ρ + 1) G 0 fi (by omega) (Nat.zero_le _) hk km (fun j hj => absurd hj (Nat.not_lt_zero _)) (fun _ _ => rfl) hF)
      intro G9 fi9 hk9 km9 hg9 ho9 hF9
      refine P_aload_n dX10_flows_120 rfl ?_
      refine P_iload dX10_flows_121 rfl ?_
      refine P_iload dX10_flows_123 rfl ?_
      refine P_iload_n dX10_flows_125 rfl ?_
      have e1 : (if nI r = q0 then k0 else rF ρ r 1) = nI kk := ek2
      by_cases hq9 : nI r = q0
      · skip
        refine P_icmp_ne (tgt := 133) dX10_flows_126 (by decide) (fun c126 => ?_) (fun c126 => ?_)
        · exact absurd hq9 c126
        · refine P_iload_n dX10_flows_129 rfl ?_
          refine P_goto (tgt := 140) dX10_flows_130 (by decide) ?_
          refine P_iload dX10_flows_140 rfl ?_
          refine P_iload_n dX10_flows_142 rfl ?_
          refine P_icmp_ne (tgt := 150) dX10_flows_143 (by decide) (fun c143 => ?_) (fun c143 => ?_)
          · exact absurd hq9 c143
          · refine P_iload_n dX10_flows_146 rfl ?_
            refine P_goto (tgt := 157) dX10_flows_147 (by decide) ?_
            have g1 : k0 = nI kk := (if_pos hq9).symm.trans ek2; have g2 : x0 = nI xx := (if_pos hq9).symm.trans ex2
            rw [g1, g2]
            refine P_callV dX10_flows_157 lkX10_102 okX10_flowsThrough ⟨Nat.le_of_ble_eq_true rfl, Nat.le_of_ble_eq_true rfl⟩ (m_flowsThrough l hk9 km9 hr hk2 hx2 hq4 eq2) rfl rfl hk9.1 (Nat.le_of_ble_eq_true rfl) ⟨Nat.le_of_ble_eq_true rfl, Nat.le_of_ble_eq_true rfl⟩ (fun v157 G157 q157 => ?_)
            obtain ⟨rfl, ⟨fo8, fs8, fa8, fb8, km8, hg8, ho8⟩, hF8⟩ := q157
            have hk8 := hk9.fr hF8 (by decide)
            have hin : ∀ j, j < rT ρ → fi9 (24 * r + j) = INN ρ' r j := fun j hj => by rw [hg9 j hj]; exact inn_cong (fun a h1 h2 => (hg a h1 h2 j (by omega)).2.1)
            have hrP : rP ρ' r = qq := by show (rF ρ' r 3).toNatClampNeg = qq; rw [eq, nI_clamp (by omega)]
            have hl : ∀ j, j < rT ρ → fo8 (24 * r + j) = OUT ρ' r j ∧ fs8 (24 * r + j) = STO ρ' r j := fun j hj => by rw [(hg8 j hj).1, (hg8 j hj).2, OUT_eq ρ' hr', hrP, ek, ex, eD]; exact ⟨flP_cong qq (fun a ha => hin a (by omega)), by show _ = hlP _ _ _ (rP ρ' r) _ _; rw [hrP, ek, ex, eD]; exact hlP_cong qq (fun a ha => hin a (by omega))⟩
            refine P_iinc (L' := [_, _, _, _, _, _, _, _, _]) dX10_flows_160 rfl (ii_m1 _) (Nat.le_of_ble_eq_true rfl) rfl ?_
            rw [show nI r + (-1) = nI r - 1 by rw [Int32.sub_eq_add_neg]]
            refine P_goto (tgt := 10) dX10_flows_163 (by decide) ?_
            refine P_loc ?_ (ih G157 r fi9 fo8 fs8 fa8 fb8 (by omega) (by omega) hk8 km8 (fun a h1 h2 j hj => ?_) (hF9.tr hF8))
            · simp only [subL, List.head?_cons, List.tail_cons]; and_intros <;> first | rfl | trivial | rw [g1] | rw [g2]
            · by_cases e : a = r
              · subst e; exact ⟨hin j (by omega), hl j (by omega)⟩
              · have := hg a (by omega) h2 j hj
                rw [ho9 _ (by omega), (ho8 _ (by omega)).1, (ho8 _ (by omega)).2]; exact this
      · skip
        refine P_icmp_ne (tgt := 133) dX10_flows_126 (by decide) (fun c126 => ?_) (fun c126 => ?_)
        · refine P_aload_n dX10_flows_133 rfl ?_
          refine P_iload dX10_flows_134 rfl ?_
          refine P_iconst dX10_flows_136 ci_1 ?_
          refine P_callVp dX10_flows_137 lkX10_95 okX10_of ⟨Nat.le_of_ble_eq_true rfl, Nat.le_of_ble_eq_true rfl⟩ (m_of (i := 1) l hk9.1 hk9.2.1 (by omega)) rfl rfl hk9.1 (Nat.le_of_ble_eq_true rfl) ⟨Nat.le_of_ble_eq_true rfl, Nat.le_of_ble_eq_true rfl⟩ ?_
          rw [(hk9.2.2.1.2.2.2 r hr).1 1 (by decide)]
          refine P_iload dX10_flows_140 rfl ?_
          refine P_iload_n dX10_flows_142 rfl ?_
          refine P_icmp_ne (tgt := 150) dX10_flows_143 (by decide) (fun c143 => ?_) (fun c143 => ?_)
          · refine P_aload_n dX10_flows_150 rfl ?_
            refine P_iload dX10_flows_151 rfl ?_
            refine P_iconst dX10_flows_153 ci_2 ?_
            refine P_callVp dX10_flows_154 lkX10_95 okX10_of ⟨Nat.le_of_ble_eq_true rfl, Nat.le_of_ble_eq_true rfl⟩ (m_of (i := 2) l hk9.1 hk9.2.1 (by omega)) rfl rfl hk9.1 (Nat.le_of_ble_eq_true rfl) ⟨Nat.le_of_ble_eq_true rfl, Nat.le_of_ble_eq_true rfl⟩ ?_
            rw [(hk9.2.2.1.2.2.2 r hr).1 2 (by decide)]
            have g1 : rF ρ r 1 = nI kk := (if_neg hq9).symm.trans ek2; have g2 : rF ρ r 2 = nI xx := (if_neg hq9).symm.trans ex2
            rw [g1, g2]
            refine P_callV dX10_flows_157 lkX10_102 okX10_flowsThrough ⟨Nat.le_of_ble_eq_true rfl, Nat.le_of_ble_eq_true rfl⟩ (m_flowsThrough l hk9 km9 hr hk2 hx2 hq4 eq2) rfl rfl hk9.1 (Nat.le_of_ble_eq_true rfl) ⟨Nat.le_of_ble_eq_true rfl, Nat.le_of_ble_eq_true rfl⟩ (fun v157 G157 q157 => ?_)
            obtain ⟨rfl, ⟨fo8, fs8, fa8, fb8, km8, hg8, ho8⟩, hF8⟩ := q157
            have hk8 := hk9.fr hF8 (by decide)
            have hin : ∀ j, j < rT ρ → fi9 (24 * r + j) = INN ρ' r j := fun j hj => by rw [hg9 j hj]; exact inn_cong (fun a h1 h2 => (hg a h1 h2 j (by omega)).2.1)
            have hrP : rP ρ' r = qq := by show (rF ρ' r 3).toNatClampNeg = qq; rw [eq, nI_clamp (by omega)]
            have hl : ∀ j, j < rT ρ → fo8 (24 * r + j) = OUT ρ' r j ∧ fs8 (24 * r + j) = STO ρ' r j := fun j hj => by rw [(hg8 j hj).1, (hg8 j hj).2, OUT_eq ρ' hr', hrP, ek, ex, eD]; exact ⟨flP_cong qq (fun a ha => hin a (by omega)), by show _ = hlP _ _ _ (rP ρ' r) _ _; rw [hrP, ek, ex, eD]; exact hlP_cong qq (fun a ha => hin a (by omega))⟩
            refine P_iinc (L' := [_, _, _, _, _, _, _, _, _]) dX10_flows_160 rfl (ii_m1 _) (Nat.le_of_ble_eq_true rfl) rfl ?_
            rw [show nI r + (-1) = nI r - 1 by rw [Int32.sub_eq_add_neg]]
            refine P_goto (tgt := 10) dX10_flows_163 (by decide) ?_
            refine P_loc ?_ (ih G157 r fi9 fo8 fs8 fa8 fb8 (by omega) (by omega) hk8 km8 (fun a h1 h2 j hj => ?_) (hF9.tr hF8))
            · simp only [subL, List.head?_cons, List.tail_cons]; and_intros <;> first | rfl | trivial | rw [g1] | rw [g2]
            · by_cases e : a = r
              · subst e; exact ⟨hin j (by omega), hl j (by omega)⟩
              · have := hg a (by omega) h2 j hj
                rw [ho9 _ (by omega), (ho8 _ (by omega)).1, (ho8 _ (by omega)).2]; exact this
          · exact absurd c143 hq9
        · exact absurd c126 hq9
theorem m_flows (l : Launch) {G : PH} {o : MV} {f : Nat → Int32} {ρ ρ' : Riv} {q0 k0 x0 : Int32} {fi fo fs fa fb : Nat → Int64} (hk : mst G o f ρ) (km : mfl G fi fo fs fa fb) (hQ : rQ ρ ρ' q0 k0 x0) (hv : rVal ρ') (hb' : rBd ρ') : Tri l mX10_flows 0 0 [.ref 164, .int q0, .int k0, .int x0] G (fun w G' => w = none ∧ mran G' ρ' ∧ Fr G G' 173 5) := by
  have eN : rN ρ' = rN ρ := congrArg (·.2.2) hQ.1
  refine Tri.intro (L := [_, _, _, _, _, _, _, _, _]) okX10_flows.1 (Nat.le_of_ble_eq_true rfl) rfl ?_
  refine P_aload_n dX10_flows_0 rfl ?_
  refine P_get dX10_flows_1 flX10_7 hk.1 rfl ?_
  refine P_iconst dX10_flows_4 ci_2 ?_
  refine P_iald dX10_flows_5 hk.2.1 (vp_in_nI (show 2 < 315 by decide) (by decide)) ?_
  rw [show f (Int32.toNatClampNeg 2) = nI (rN ρ) from hk.2.2.1.2.2.1]
  refine P_iconst dX10_flows_6 ci_1 ?_
  refine P_isub dX10_flows_7 ?_
  refine P_istore (L' := [_, _, _, _, _, _, _, _, _]) dX10_flows_8 (Nat.le_of_ble_eq_true rfl) rfl ?_
  exact P_loc (by simp only [subL, List.head?_cons, List.tail_cons]; and_intros <;> first | rfl | trivial) (lp_fl1 l hQ hv hb' (rN ρ + 1) G (rN ρ) fi fo fs fa fb (by omega) (Nat.le_refl _) hk km (fun r h1 h2 => absurd h2 (by omega)) Fr.rf)
theorem m_flowsNow (l : Launch) {G : PH} {o : MV} {f : Nat → Int32} {ρ : Riv} {fi fo fs fa fb : Nat → Int64} (hk : mst G o f ρ) (km : mfl G fi fo fs fa fb) (hv : rVal ρ) : Tri l mX10_flowsNow 0 0 [.ref 164] G (fun w G' => w = none ∧ mran G' ρ ∧ Fr G G' 173 5) := by
  refine Tri.intro (L := [_]) okX10_flowsNow.1 (Nat.le_of_ble_eq_true rfl) rfl ?_
  refine P_aload_n dX10_flowsNow_0 rfl ?_
  refine P_iconst dX10_flowsNow_1 ci_m1 ?_
  refine P_iconst dX10_flowsNow_2 ci_0 ?_
  refine P_iconst dX10_flowsNow_3 ci_0 ?_
  refine P_callV dX10_flowsNow_4 lkX10_105 okX10_flows ⟨Nat.le_of_ble_eq_true rfl, Nat.le_of_ble_eq_true rfl⟩ (m_flows l hk km (rQ_no hk.2.2.2.2.2.2.2) hv hk.2.2.2) rfl rfl hk.1 (Nat.le_of_ble_eq_true rfl) ⟨Nat.le_of_ble_eq_true rfl, Nat.le_of_ble_eq_true rfl⟩ (fun v4 G4 q4 => ?_)
  obtain ⟨rfl, a4, b4⟩ := q4
  exact P_vret dX10_flowsNow_7 rfl ⟨Nat.le_refl _, Nat.le_refl _⟩ ⟨rfl, a4, b4⟩
