theorem t_numU (l : Launch) {G : PH} {h n p : Nat} {tx : Nat → Int32} {fn fp tt td : Int32} {a b : Int32} (k : txt G h n tx p fn fp tt td) (hu : ¬ fn = 0) : Tri l mX8_readNumber 0 0 [.ref h, .int a, .int b] G (fun w G' => w = some (.int (-1)) ∧ G' = G) := by
  refine Tri.intro (L := [_, _, _, _, _, _]) okX8_readNumber.1 (Nat.le_of_ble_eq_true rfl) rfl ?_
  refine P_aload_n dX8_readNumber_0 rfl ?_
  refine P_callVp dX8_readNumber_1 lkX8_40 okX8_isSound ⟨Nat.le_of_ble_eq_true rfl, Nat.le_of_ble_eq_true rfl⟩ (t_isSound l k) rfl rfl k.1 (Nat.le_of_ble_eq_true rfl) ⟨Nat.le_of_ble_eq_true rfl, Nat.le_of_ble_eq_true rfl⟩ ?_
  rw [if_neg hu]
  refine P_if_ne (tgt := 9) dX8_readNumber_4 (by decide) (fun c4 => ?_) (fun c4 => ?_)
  · exact absurd rfl c4
  · refine P_iconst dX8_readNumber_7 ci_m1 ?_
    exact P_iret dX8_readNumber_8 rfl ⟨Nat.le_refl _, Nat.le_refl _⟩ ⟨rfl, rfl⟩
set_option maxRecDepth 100000 in
theorem rn_tail (l : Launch) {G0 G : PH} {h n p0 q i : Nat} {tx : Nat → Int32} {a b tt td : Int32} (k : txt G h n tx (q + i) 0 (-1) tt td) (eq0 : q = skp n tx p0) (hf0 : figP (lt0 n tx q)) (hfg : ∀ j, j < i → figP (lt0 n tx (q + j))) (hi : i ≤ 4) (hex : i = 4 ∨ ¬ figP (lt0 n tx (q + i))) (hF : Fr G0 G h 1) :
    WP mX8_readNumber l (rmM mX8_readNumber 0 0) (ZM 0 0 (fun w G' => (∃ x, w = some (.int x) ∧ ∀ v s q, num n tx a b p0 = .inr (v, s, q) → x = v) ∧ tS G' h n tx (st3 (num n tx a b p0)) tt td ∧ Fr G0 G' h 1)) XT 0 0 92 [some (.ref h), some (.int a), some (.int b), some (.int (nI q)), some (.int (vlF tx q i)), some (.int (nI i))] [] G := by
  refine P_aload_n dX8_readNumber_92 rfl ?_
  refine P_callVp dX8_readNumber_93 lkX8_51 okX8_letterHere ⟨Nat.le_of_ble_eq_true rfl, Nat.le_of_ble_eq_true rfl⟩ (t_letter l k) rfl rfl k.1 (Nat.le_of_ble_eq_true rfl) ⟨Nat.le_of_ble_eq_true rfl, Nat.le_of_ble_eq_true rfl⟩ ?_
  refine P_callSp dX8_readNumber_96 lkX8_110 okX8_isFigure ⟨Nat.le_of_ble_eq_true rfl, Nat.le_of_ble_eq_true rfl⟩ (t_isFigure l) rfl rfl (Nat.le_of_ble_eq_true rfl) ⟨Nat.le_of_ble_eq_true rfl, Nat.le_of_ble_eq_true rfl⟩ ?_
  refine P_if_eq (tgt := 114) dX8_readNumber_99 (by decide) (fun c99 => ?_) (fun c99 => ?_)
  · rw [b2p] at c99
    have hc : cnt n tx 5 q = i := cnt_eq 5 q i hfg (Or.inr ⟨by omega, c99⟩)
    have hi1 : i ≠ 0 := fun z => by subst z; exact c99 hf0
    refine P_iload dX8_readNumber_114 rfl ?_
    refine P_iload_n dX8_readNumber_116 rfl ?_
    refine P_iload_n dX8_readNumber_117 rfl ?_
    refine P_callSNp (M' := mX9_outOf) (host := RX9) dX8_readNumber_118 (fun _ _ h => h.2.1) okX9_outOf ⟨Nat.le_of_ble_eq_true rfl, Nat.le_of_ble_eq_true rfl⟩ (t_outOf l) rfl rfl (Nat.le_of_ble_eq_true rfl) ⟨Nat.le_of_ble_eq_true rfl, Nat.le_of_ble_eq_true rfl⟩ ?_
    refine P_if_eq (tgt := 130) dX8_readNumber_121 (by decide) (fun c121 => ?_) (fun c121 => ?_)
    · rw [b2p] at c121
      have hn9 : num n tx a b p0 = .inr (vlF tx q i, q, q + i) := by unfold num; rw [← eq0, hc, if_neg (by omega), if_neg (by omega), if_neg c121]
      refine P_iload dX8_readNumber_130 rfl ?_
      exact P_iret dX8_readNumber_132 rfl ⟨Nat.le_refl _, Nat.le_refl _⟩ (by first | exact ⟨⟨_, rfl, fun v s q9 e => by rw [hn9] at e; cases e; rfl⟩, by rw [hn9]; exact ⟨_, _, _, k, rfl, rfl, rfl⟩, hF⟩ | exact ⟨⟨_, rfl, fun v s q9 e => by rw [hn9] at e; cases e⟩, by rw [hn9]; exact ⟨_, _, _, k2, rfl, Nat.le_of_ble_eq_true rfl, Nat.le_of_ble_eq_true rfl, by first | rfl | (rw [hi4, eq0])  | (rw [eq0])⟩, hF.tr hF2⟩)
    · rw [b2p, Classical.not_not] at c121
      have hov := c121
      refine P_aload_n dX8_readNumber_124 rfl ?_
      refine P_iconst dX8_readNumber_125 ci_2 ?_
      refine P_iload_n dX8_readNumber_126 rfl ?_
      refine P_callV dX8_readNumber_127 lkX8_67 okX8_fail ⟨Nat.le_of_ble_eq_true rfl, Nat.le_of_ble_eq_true rfl⟩ (t_fail l k) rfl rfl k.1 (Nat.le_of_ble_eq_true rfl) ⟨Nat.le_of_ble_eq_true rfl, Nat.le_of_ble_eq_true rfl⟩ (fun v127 G127 q127 => ?_)
      obtain ⟨rfl, k2, hF2⟩ := q127
      rw [if_pos rfl, if_pos rfl] at k2
      have hn9 : num n tx a b p0 = .inl (2, skp n tx p0) := by unfold num; rw [← eq0, hc, if_neg (by omega), if_neg (by omega), if_pos hov]
      refine P_iload dX8_readNumber_130 rfl ?_
      exact P_iret dX8_readNumber_132 rfl ⟨Nat.le_refl _, Nat.le_refl _⟩ (by first | exact ⟨⟨_, rfl, fun v s q9 e => by rw [hn9] at e; cases e; rfl⟩, by rw [hn9]; exact ⟨_, _, _, k, rfl, rfl, rfl⟩, hF⟩ | exact ⟨⟨_, rfl, fun v s q9 e => by rw [hn9] at e; cases e⟩, by rw [hn9]; exact ⟨_, _, _, k2, rfl, Nat.le_of_ble_eq_true rfl, Nat.le_of_ble_eq_true rfl, by first | rfl | (rw [hi4, eq0])  | (rw [eq0])⟩, hF.tr hF2⟩)
  · rw [b2p, Classical.not_not] at c99
    have hi4 : i = 4 := by rcases hex with z | z; exact z; exact absurd c99 z
    have hc : cnt n tx 5 q = 5 := cnt_eq 5 q 5 (fun j hj => by by_cases z : j < i; exact hfg j z; rw [show j = i by omega]; exact c99) (Or.inl rfl)
    refine P_aload_n dX8_readNumber_102 rfl ?_
    refine P_iconst dX8_readNumber_103 ci_2 ?_
    refine P_aload_n dX8_readNumber_104 rfl ?_
    refine P_get dX8_readNumber_105 flX8_19 k.1 rfl ?_
    refine P_callV dX8_readNumber_108 lkX8_67 okX8_fail ⟨Nat.le_of_ble_eq_true rfl, Nat.le_of_ble_eq_true rfl⟩ (t_fail l k) rfl rfl k.1 (Nat.le_of_ble_eq_true rfl) ⟨Nat.le_of_ble_eq_true rfl, Nat.le_of_ble_eq_true rfl⟩ (fun v108 G108 q108 => ?_)
    obtain ⟨rfl, k2, hF2⟩ := q108
    rw [if_pos rfl, if_pos rfl] at k2
    have hn9 : num n tx a b p0 = .inl (2, skp n tx p0 + 4) := by unfold num; rw [← eq0, hc]; rfl
    refine P_goto (tgt := 130) dX8_readNumber_111 (by decide) ?_
    refine P_iload dX8_readNumber_130 rfl ?_
    exact P_iret dX8_readNumber_132 rfl ⟨Nat.le_refl _, Nat.le_refl _⟩ (by first | exact ⟨⟨_, rfl, fun v s q9 e => by rw [hn9] at e; cases e; rfl⟩, by rw [hn9]; exact ⟨_, _, _, k, rfl, rfl, rfl⟩, hF⟩ | exact ⟨⟨_, rfl, fun v s q9 e => by rw [hn9] at e; cases e⟩, by rw [hn9]; exact ⟨_, _, _, k2, rfl, Nat.le_of_ble_eq_true rfl, Nat.le_of_ble_eq_true rfl, by first | rfl | (rw [hi4, eq0])  | (rw [eq0])⟩, hF.tr hF2⟩)
set_option maxRecDepth 100000 in
theorem lp_figures (l : Launch) {G0 : PH} {h n p0 q : Nat} {tx : Nat → Int32} {a b tt td : Int32} (eq0 : q = skp n tx p0) (hf0 : figP (lt0 n tx q)) : ∀ (m : Nat) (G : PH) (i : Nat), 4 - i < m → i ≤ 4 → txt G h n tx (q + i) 0 (-1) tt td → (∀ j, j < i → figP (lt0 n tx (q + j))) → Fr G0 G h 1 → WP mX8_readNumber l (rmM mX8_readNumber 0 0) (ZM 0 0 (fun w G' => (∃ x, w = some (.int x) ∧ ∀ v s q, num n tx a b p0 = .inr (v, s, q) → x = v) ∧ tS G' h n tx (st3 (num n tx a b p0)) tt td ∧ Fr G0 G' h 1)) XT 0 0 45 [some (.ref h), some (.int a), some (.int b), some (.int (nI q)), some (.int (vlF tx q i)), some (.int (nI i))] [] G := by
  intro m
  induction m with
  | zero => intro G  i hn hi k hfg hF; exact absurd hn (Nat.not_lt_zero _)
  | succ m ih =>
    intro G  i hn hi k hfg hF
    have h200 := k.2.2.1; have hpn := k.2.2.2
    refine P_iload dX8_readNumber_45 rfl ?_
    refine P_iconst dX8_readNumber_47 ci_4 ?_
    refine P_icmp_ge (tgt := 92) dX8_readNumber_48 (by decide) (fun c48 => ?_) (fun c48 => ?_)
    · have hi4 : i = 4 := by have : ¬ i < 4 := fun z => nI_ge (b := 4) z (by decide) c48; omega
      exact rn_tail l k eq0 hf0 hfg hi (Or.inl hi4) hF
    · have hi4 : i < 4 := Nat.not_le.mp fun z => c48 (nI_le (a := 4) z (by omega))
      refine P_aload_n dX8_readNumber_51 rfl ?_
      refine P_callVp dX8_readNumber_52 lkX8_51 okX8_letterHere ⟨Nat.le_of_ble_eq_true rfl, Nat.le_of_ble_eq_true rfl⟩ (t_letter l k) rfl rfl k.1 (Nat.le_of_ble_eq_true rfl) ⟨Nat.le_of_ble_eq_true rfl, Nat.le_of_ble_eq_true rfl⟩ ?_
      refine P_callSp dX8_readNumber_55 lkX8_110 okX8_isFigure ⟨Nat.le_of_ble_eq_true rfl, Nat.le_of_ble_eq_true rfl⟩ (t_isFigure l) rfl rfl (Nat.le_of_ble_eq_true rfl) ⟨Nat.le_of_ble_eq_true rfl, Nat.le_of_ble_eq_true rfl⟩ ?_
      refine P_if_eq (tgt := 92) dX8_readNumber_58 (by decide) (fun c58 => ?_) (fun c58 => ?_)
      · rw [b2p] at c58
        exact rn_tail l k eq0 hf0 hfg hi (Or.inr c58) hF
      · rw [b2p, Classical.not_not] at c58
        have hlt := fig_lt c58
        refine P_bipush dX8_readNumber_61 bp_10 ?_
        refine P_iload dX8_readNumber_63 rfl ?_
        refine P_imul dX8_readNumber_65 ?_
        refine P_aload_n dX8_readNumber_66 rfl ?_
        refine P_callVp dX8_readNumber_67 lkX8_51 okX8_letterHere ⟨Nat.le_of_ble_eq_true rfl, Nat.le_of_ble_eq_true rfl⟩ (t_letter l k) rfl rfl k.1 (Nat.le_of_ble_eq_true rfl) ⟨Nat.le_of_ble_eq_true rfl, Nat.le_of_ble_eq_true rfl⟩ ?_
        rw [show lt0 n tx (q + i) = tx (q + i) from if_pos (fig_lt c58)]
        refine P_iadd dX8_readNumber_70 ?_
        refine P_bipush dX8_readNumber_71 bp_48 ?_
        refine P_isub dX8_readNumber_73 ?_
        refine P_istore (L' := [_, _, _, _, _, _]) dX8_readNumber_74 (Nat.le_of_ble_eq_true rfl) rfl ?_
        refine P_aload_n dX8_readNumber_76 rfl ?_
        refine P_dup dX8_readNumber_77 rfl ?_
        refine P_get dX8_readNumber_78 flX8_19 k.1 rfl ?_
        refine P_iconst dX8_readNumber_81 ci_1 ?_
        refine P_iadd dX8_readNumber_82 ?_
        rw [nI_1]
        refine P_putI dX8_readNumber_83 flX8_19 k.1 (Nat.le_of_ble_eq_true rfl) ?_
        refine P_iinc (L' := [_, _, _, _, _, _]) dX8_readNumber_86 rfl (ii_1 _) (Nat.le_of_ble_eq_true rfl) rfl ?_
        rw [nI_1]
        refine P_goto (tgt := 45) dX8_readNumber_89 (by decide) ?_
        have hs := k.set (p' := q + i + 1) (fn' := 0) (fp' := -1) (tt' := tt) (td' := td) (by omega)
        exact ih _ (i + 1) (by omega) (by omega) hs.1 (fun j hj => by by_cases z : j < i; exact hfg j z; rw [show j = i by omega]; exact c58) (hF.tr hs.2)
theorem t_numO (l : Launch) {G : PH} {h n p : Nat} {tx : Nat → Int32} {tt td : Int32} {a b : Int32} (k : txt G h n tx p 0 (-1) tt td) : Tri l mX8_readNumber 0 0 [.ref h, .int a, .int b] G (fun w G' => (∃ x, w = some (.int x) ∧ ∀ v s q, num n tx a b p = .inr (v, s, q) → x = v) ∧ tS G' h n tx (st3 (num n tx a b p)) tt td ∧ Fr G G' h 1) := by
  refine Tri.intro (L := [_, _, _, _, _, _]) okX8_readNumber.1 (Nat.le_of_ble_eq_true rfl) rfl ?_
  refine P_aload_n dX8_readNumber_0 rfl ?_
  refine P_callVp dX8_readNumber_1 lkX8_40 okX8_isSound ⟨Nat.le_of_ble_eq_true rfl, Nat.le_of_ble_eq_true rfl⟩ (t_isSound l k) rfl rfl k.1 (Nat.le_of_ble_eq_true rfl) ⟨Nat.le_of_ble_eq_true rfl, Nat.le_of_ble_eq_true rfl⟩ ?_
  rw [if_pos rfl]
  refine P_if_ne (tgt := 9) dX8_readNumber_4 (by decide) (fun c4 => ?_) (fun c4 => ?_)
  · refine P_aload_n dX8_readNumber_9 rfl ?_
    refine P_callV dX8_readNumber_10 lkX8_44 okX8_skipBlanks ⟨Nat.le_of_ble_eq_true rfl, Nat.le_of_ble_eq_true rfl⟩ (t_skip l k) rfl rfl k.1 (Nat.le_of_ble_eq_true rfl) ⟨Nat.le_of_ble_eq_true rfl, Nat.le_of_ble_eq_true rfl⟩ (fun v10 G10 q10 => ?_)
    obtain ⟨rfl, k1, hF1⟩ := q10
    refine P_aload_n dX8_readNumber_13 rfl ?_
    refine P_get dX8_readNumber_14 flX8_19 k1.1 rfl ?_
    refine P_istore_n (L' := [_, _, _, _, _, _]) dX8_readNumber_17 (Nat.le_of_ble_eq_true rfl) rfl ?_
    refine P_aload_n dX8_readNumber_18 rfl ?_
    refine P_callVp dX8_readNumber_19 lkX8_51 okX8_letterHere ⟨Nat.le_of_ble_eq_true rfl, Nat.le_of_ble_eq_true rfl⟩ (t_letter l k1) rfl rfl k1.1 (Nat.le_of_ble_eq_true rfl) ⟨Nat.le_of_ble_eq_true rfl, Nat.le_of_ble_eq_true rfl⟩ ?_
    refine P_callSp dX8_readNumber_22 lkX8_110 okX8_isFigure ⟨Nat.le_of_ble_eq_true rfl, Nat.le_of_ble_eq_true rfl⟩ (t_isFigure l) rfl rfl (Nat.le_of_ble_eq_true rfl) ⟨Nat.le_of_ble_eq_true rfl, Nat.le_of_ble_eq_true rfl⟩ ?_
    refine P_if_ne (tgt := 39) dX8_readNumber_25 (by decide) (fun c25 => ?_) (fun c25 => ?_)
    · have hfy : figP (lt0 n tx (skp n tx p)) := Classical.byContradiction fun z => c25 (by rw [if_neg z])
      refine P_iconst dX8_readNumber_39 ci_0 ?_
      refine P_istore (L' := [_, _, _, _, _, _]) dX8_readNumber_40 (Nat.le_of_ble_eq_true rfl) rfl ?_
      refine P_iconst dX8_readNumber_42 ci_0 ?_
      refine P_istore (L' := [_, _, _, _, _, _]) dX8_readNumber_43 (Nat.le_of_ble_eq_true rfl) rfl ?_
      exact lp_figures l (p0 := p) rfl hfy 5 G10 0 (by omega) (by omega) k1 (fun j hj => absurd hj (Nat.not_lt_zero _)) hF1
    · have hnf : ¬ figP (lt0 n tx (skp n tx p)) := (b2p _).mp c25
      refine P_aload_n dX8_readNumber_28 rfl ?_
      refine P_iconst dX8_readNumber_29 ci_1 ?_
      refine P_aload_n dX8_readNumber_30 rfl ?_
      refine P_get dX8_readNumber_31 flX8_19 k1.1 rfl ?_
      refine P_callV dX8_readNumber_34 lkX8_67 okX8_fail ⟨Nat.le_of_ble_eq_true rfl, Nat.le_of_ble_eq_true rfl⟩ (t_fail l k1) rfl rfl k1.1 (Nat.le_of_ble_eq_true rfl) ⟨Nat.le_of_ble_eq_true rfl, Nat.le_of_ble_eq_true rfl⟩ (fun v34 G34 q34 => ?_)
      obtain ⟨rfl, k2, hF2⟩ := q34
      rw [if_pos rfl, if_pos rfl] at k2
      have hn9 : num n tx a b p = .inl (1, skp n tx p) := by unfold num; rw [cnt_eq 5 (skp n tx p) 0 (fun j hj => absurd hj (Nat.not_lt_zero _)) (Or.inr ⟨by decide, hnf⟩)]; rfl
      refine P_iconst dX8_readNumber_37 ci_m1 ?_
      exact P_iret dX8_readNumber_38 rfl ⟨Nat.le_refl _, Nat.le_refl _⟩ ⟨⟨_, rfl, fun v s q9 e => by rw [hn9] at e; cases e⟩, by rw [hn9]; exact ⟨_, _, _, k2, rfl, Nat.le_of_ble_eq_true rfl, Nat.le_of_ble_eq_true rfl, rfl⟩, hF1.tr hF2⟩
  · exact absurd c4 (by decide)
theorem t_num (l : Launch) {G : PH} {h n : Nat} {tx : Nat → Int32} {σ : PS} {a b tt td : Int32} (hS : tS G h n tx σ tt td) : Tri l mX8_readNumber 0 0 [.ref h, .int a, .int b] G (fun w G' => (∃ x, w = some (.int x) ∧ ∀ v s q, numS n tx a b σ = .inr (v, s, q) → x = v) ∧ tS G' h n tx (st3 (numS n tx a b σ)) tt td ∧ Fr G G' h 1) := by
  cases σ with
  | inl e =>
    obtain ⟨p, fn, fp, k, h1, h2, h3, h4⟩ := hS
    refine (t_numU l k (by rw [h1]; exact nI_ne0 (by omega) (by omega))).mono (fun v G' q => ?_)
    obtain ⟨rfl, rfl⟩ := q
    exact ⟨⟨_, rfl, fun v s q e => by cases e⟩, ⟨p, fn, fp, k, h1, h2, h3, h4⟩, Fr.rf⟩
  | inr p' =>
    obtain ⟨p, fn, fp, k, rfl, rfl, rfl⟩ := hS
    exact t_numO l k
theorem t_closeU (l : Launch) {G : PH} {h n p : Nat} {tx : Nat → Int32} {fn fp tt td : Int32} (k : txt G h n tx p fn fp tt td) (hu : ¬ fn = 0) : Tri l mX8_closeClause 0 0 [.ref h] G (fun w G' => w = none ∧ G' = G) := by
  refine Tri.intro (L := [_]) okX8_closeClause.1 (Nat.le_of_ble_eq_true rfl) rfl ?_
  refine P_aload_n dX8_closeClause_0 rfl ?_
  refine P_callVp dX8_closeClause_1 lkX8_40 okX8_isSound ⟨Nat.le_of_ble_eq_true rfl, Nat.le_of_ble_eq_true rfl⟩ (t_isSound l k) rfl rfl k.1 (Nat.le_of_ble_eq_true rfl) ⟨Nat.le_of_ble_eq_true rfl, Nat.le_of_ble_eq_true rfl⟩ ?_
  rw [if_neg hu]
  refine P_if_ne (tgt := 8) dX8_closeClause_4 (by decide) (fun c4 => ?_) (fun c4 => ?_)
  · exact absurd rfl c4
  · exact P_vret dX8_closeClause_7 rfl ⟨Nat.le_refl _, Nat.le_refl _⟩ ⟨rfl, rfl⟩
theorem t_closeO (l : Launch) {G : PH} {h n p : Nat} {tx : Nat → Int32} {tt td : Int32} (k : txt G h n tx p 0 (-1) tt td) : Tri l mX8_closeClause 0 0 [.ref h] G (fun w G' => w = none ∧ tS G' h n tx (clS n tx (.inr p)) tt td ∧ Fr G G' h 1) := by
  refine Tri.intro (L := [_]) okX8_closeClause.1 (Nat.le_of_ble_eq_true rfl) rfl ?_
  refine P_aload_n dX8_closeClause_0 rfl ?_
  refine P_callVp dX8_closeClause_1 lkX8_40 okX8_isSound ⟨Nat.le_of_ble_eq_true rfl, Nat.le_of_ble_eq_true rfl⟩ (t_isSound l k) rfl rfl k.1 (Nat.le_of_ble_eq_true rfl) ⟨Nat.le_of_ble_eq_true rfl, Nat.le_of_ble_eq_true rfl⟩ ?_
  rw [if_pos rfl]
  refine P_if_ne (tgt := 8) dX8_closeClause_4 (by decide) (fun c4 => ?_) (fun c4 => ?_)
  · refine P_aload_n dX8_closeClause_8 rfl ?_
    refine P_callV dX8_closeClause_9 lkX8_44 okX8_skipBlanks ⟨Nat.le_of_ble_eq_true rfl, Nat.le_of_ble_eq_true rfl⟩ (t_skip l k) rfl rfl k.1 (Nat.le_of_ble_eq_true rfl) ⟨Nat.le_of_ble_eq_true rfl, Nat.le_of_ble_eq_true rfl⟩ (fun v9 G9 q9 => ?_)
    obtain ⟨rfl, k1, hF1⟩ := q9
    refine P_aload_n dX8_closeClause_12 rfl ?_
    refine P_callVp dX8_closeClause_13 lkX8_51 okX8_letterHere ⟨Nat.le_of_ble_eq_true rfl, Nat.le_of_ble_eq_true rfl⟩ (t_letter l k1) rfl rfl k1.1 (Nat.le_of_ble_eq_true rfl) ⟨Nat.le_of_ble_eq_true rfl, Nat.le_of_ble_eq_true rfl⟩ ?_
    refine P_bipush dX8_closeClause_16 bp_59 ?_
    refine P_icmp_ne (tgt := 34) dX8_closeClause_18 (by decide) (fun c18 => ?_) (fun c18 => ?_)
    · refine P_aload_n dX8_closeClause_34 rfl ?_
      refine P_iconst dX8_closeClause_35 ci_1 ?_
      refine P_aload_n dX8_closeClause_36 rfl ?_
      refine P_get dX8_closeClause_37 flX8_19 k1.1 rfl ?_
      refine P_callV dX8_closeClause_40 lkX8_67 okX8_fail ⟨Nat.le_of_ble_eq_true rfl, Nat.le_of_ble_eq_true rfl⟩ (t_fail l k1) rfl rfl k1.1 (Nat.le_of_ble_eq_true rfl) ⟨Nat.le_of_ble_eq_true rfl, Nat.le_of_ble_eq_true rfl⟩ (fun v40 G40 q40 => ?_)
      obtain ⟨rfl, k2, hF2⟩ := q40
      rw [if_pos rfl, if_pos rfl] at k2
      have e9 : clS n tx (.inr p) = .inl (1, skp n tx p) := if_neg c18
      exact P_vret dX8_closeClause_43 rfl ⟨Nat.le_refl _, Nat.le_refl _⟩ (by first | exact ⟨rfl, by rw [e9]; exact ⟨_, _, _, k2, rfl, Nat.le_of_ble_eq_true rfl, Nat.le_of_ble_eq_true rfl, rfl⟩, hF1.tr hF2⟩ | exact ⟨rfl, by rw [e9]; exact ⟨_, _, _, hs.1, rfl, rfl, rfl⟩, hF1.tr hs.2⟩)
    · refine P_aload_n dX8_closeClause_21 rfl ?_
      refine P_dup dX8_closeClause_22 rfl ?_
      refine P_get dX8_closeClause_23 flX8_19 k1.1 rfl ?_
      refine P_iconst dX8_closeClause_26 ci_1 ?_
      refine P_iadd dX8_closeClause_27 ?_
      rw [nI_1]
      refine P_putI dX8_closeClause_28 flX8_19 k1.1 (Nat.le_of_ble_eq_true rfl) ?_
      refine P_goto (tgt := 43) dX8_closeClause_31 (by decide) ?_
      have hlt : skp n tx p < n := Classical.byContradiction fun z => by unfold lt0 at c18; rw [if_neg z] at c18; exact absurd c18 (by decide)
      have hs := k1.set (p' := skp n tx p + 1) (fn' := 0) (fp' := -1) (tt' := tt) (td' := td) hlt
      have e9 : clS n tx (.inr p) = .inr (skp n tx p + 1) := if_pos c18
      exact P_vret dX8_closeClause_43 rfl ⟨Nat.le_refl _, Nat.le_refl _⟩ (by first | exact ⟨rfl, by rw [e9]; exact ⟨_, _, _, k2, rfl, Nat.le_of_ble_eq_true rfl, Nat.le_of_ble_eq_true rfl, rfl⟩, hF1.tr hF2⟩ | exact ⟨rfl, by rw [e9]; exact ⟨_, _, _, hs.1, rfl, rfl, rfl⟩, hF1.tr hs.2⟩)
  · exact absurd c4 (by decide)
theorem t_close (l : Launch) {G : PH} {h n : Nat} {tx : Nat → Int32} {σ : PS} {tt td : Int32} (hS : tS G h n tx σ tt td) : Tri l mX8_closeClause 0 0 [.ref h] G (fun w G' => w = none ∧ tS G' h n tx (clS n tx σ) tt td ∧ Fr G G' h 1) := by
  cases σ with
  | inl e =>
    obtain ⟨p, fn, fp, k, h1, h2, h3, h4⟩ := hS
    refine (t_closeU l k (by rw [h1]; exact nI_ne0 (by omega) (by omega))).mono (fun v G' q => ?_)
    obtain ⟨rfl, rfl⟩ := q
    exact ⟨rfl, ⟨p, fn, fp, k, h1, h2, h3, h4⟩, Fr.rf⟩
  | inr p' =>
    obtain ⟨p, fn, fp, k, rfl, rfl, rfl⟩ := hS
    exact t_closeO l k
theorem t_sound (l : Launch) {G : PH} {h n : Nat} {tx : Nat → Int32} {σ : PS} {tt td : Int32} (hS : tS G h n tx σ tt td) : Fn l mX8_isSound [.ref h] G (.int (if σ.isRight then 1 else 0)) := by
  cases σ with
  | inl e =>
    obtain ⟨p, fn, fp, k, h1, h2, h3, h4⟩ := hS
    have := t_isSound l k
    rw [if_neg (by rw [h1]; exact nI_ne0 (by omega) (by omega))] at this
    exact this
  | inr p' =>
    obtain ⟨p, fn, fp, k, rfl, rfl, rfl⟩ := hS
    exact t_isSound l k
theorem t_partsU (l : Launch) {G : PH} {h n p : Nat} {tx : Nat → Int32} {fn fp tt td : Int32} {room : Int32} (k : txt G h n tx p fn fp tt td) (hu : ¬ fn = 0) : Tri l mX8_readParts 0 0 [.ref h, .int room] G (fun w G' => (∃ x, w = some (.int x)) ∧ (∃ p', txt G' h n tx p' fn fp tt td) ∧ Fr G G' h 1) := by
  refine Tri.intro (L := [_, _, _, _]) okX8_readParts.1 (Nat.le_of_ble_eq_true rfl) rfl ?_
  refine P_aload_n dX8_readParts_0 rfl ?_
  refine P_callV dX8_readParts_1 lkX8_44 okX8_skipBlanks ⟨Nat.le_of_ble_eq_true rfl, Nat.le_of_ble_eq_true rfl⟩ (t_skip l k) rfl rfl k.1 (Nat.le_of_ble_eq_true rfl) ⟨Nat.le_of_ble_eq_true rfl, Nat.le_of_ble_eq_true rfl⟩ (fun v1 G1 q1 => ?_)
  obtain ⟨rfl, k1, hF1⟩ := q1
  refine P_aload_n dX8_readParts_4 rfl ?_
  refine P_get dX8_readParts_5 flX8_19 k1.1 rfl ?_
  refine P_istore_n (L' := [_, _, _, _]) dX8_readParts_8 (Nat.le_of_ble_eq_true rfl) rfl ?_
  refine P_aload_n dX8_readParts_9 rfl ?_
  refine P_iconst dX8_readParts_10 ci_1 ?_
  refine P_iconst dX8_readParts_11 ci_4 ?_
  refine P_callVp dX8_readParts_12 lkX8_75 okX8_readNumber ⟨Nat.le_of_ble_eq_true rfl, Nat.le_of_ble_eq_true rfl⟩ (t_numU l k1 hu) rfl rfl k1.1 (Nat.le_of_ble_eq_true rfl) ⟨Nat.le_of_ble_eq_true rfl, Nat.le_of_ble_eq_true rfl⟩ ?_
  refine P_istore_n (L' := [_, _, _, _]) dX8_readParts_15 (Nat.le_of_ble_eq_true rfl) rfl ?_
  refine P_iload_n dX8_readParts_16 rfl ?_
  refine P_iload_n dX8_readParts_17 rfl ?_
  refine P_icmp_le (tgt := 27) dX8_readParts_18 (by decide) (fun c18 => ?_) (fun c18 => ?_)
  · refine P_iload_n dX8_readParts_27 rfl ?_
    exact P_iret dX8_readParts_28 rfl ⟨Nat.le_refl _, Nat.le_refl _⟩ (by first | exact ⟨⟨_, rfl⟩, ⟨_, k2⟩, hF1.tr hF2⟩ | exact ⟨⟨_, rfl⟩, ⟨_, k1⟩, hF1⟩)
  · refine P_aload_n dX8_readParts_21 rfl ?_
    refine P_iconst dX8_readParts_22 ci_4 ?_
    refine P_iload_n dX8_readParts_23 rfl ?_
    refine P_callV dX8_readParts_24 lkX8_67 okX8_fail ⟨Nat.le_of_ble_eq_true rfl, Nat.le_of_ble_eq_true rfl⟩ (t_fail l k1) rfl rfl k1.1 (Nat.le_of_ble_eq_true rfl) ⟨Nat.le_of_ble_eq_true rfl, Nat.le_of_ble_eq_true rfl⟩ (fun v24 G24 q24 => ?_)
    obtain ⟨rfl, k2, hF2⟩ := q24
    rw [if_neg hu, if_neg hu] at k2
    refine P_iload_n dX8_readParts_27 rfl ?_
    exact P_iret dX8_readParts_28 rfl ⟨Nat.le_refl _, Nat.le_refl _⟩ (by first | exact ⟨⟨_, rfl⟩, ⟨_, k2⟩, hF1.tr hF2⟩ | exact ⟨⟨_, rfl⟩, ⟨_, k1⟩, hF1⟩)
theorem num_5 {n : Nat} {tx : Nat → Int32} {a b : Int32} {p : Nat} {e : Nat × Nat} (h : num n tx a b p = .inl e) : 1 ≤ e.1 ∧ e.1 ≤ 4 := by
  unfold num at h
  split at h
  · cases h; exact ⟨Nat.le_of_ble_eq_true rfl, Nat.le_of_ble_eq_true rfl⟩
  · split at h
    · cases h; exact ⟨Nat.le_of_ble_eq_true rfl, Nat.le_of_ble_eq_true rfl⟩
    · split at h
      · cases h; exact ⟨Nat.le_of_ble_eq_true rfl, Nat.le_of_ble_eq_true rfl⟩
      · cases h
theorem num_s {n : Nat} {tx : Nat → Int32} {a b : Int32} {p : Nat} {v : Int32} {s q : Nat} (h : num n tx a b p = .inr (v, s, q)) : s = skp n tx p := by
  unfold num at h
  split at h
  · cases h
  · split at h
    · cases h
    · split at h
      · cases h
      · cases h; rfl
theorem rp_lo {G G' : PH} {h n p : Nat} {tx : Nat → Int32} {tt td room x : Int32} (hx : ∀ v s q, num n tx 1 4 p = .inr (v, s, q) → x = v) (hS : tS G' h n tx (st3 (num n tx 1 4 p)) tt td) (hc : x ≤ room) (hF : Fr G G' h 1) : (∃ x', some (Value.int x) = some (.int x') ∧ ∀ v q, prS n tx room (.inr p) = .inr (v, q) → x' = v) ∧ tS G' h n tx (st2 (prS n tx room (.inr p))) tt td ∧ Fr G G' h 1 := by
  refine ⟨⟨x, rfl, fun v q e => ?_⟩, ?_, hF⟩
  · unfold prS numS at e
    split at e
    · cases e
    · rename_i v1 s1 q1 e1
      rw [if_neg (by rw [← hx _ _ _ e1]; exact Int32.not_lt.mpr hc)] at e
      cases e
      exact hx _ _ _ e1
  · unfold prS
    show tS G' h n tx (st2 (match num n tx 1 4 p with | .inl e => .inl e | .inr (v, s, q) => if room < v then .inl (4, s) else .inr (v, q))) tt td
    cases hn : num n tx 1 4 p with
    | inl e => rw [hn] at hS; exact hS
    | inr e =>
      obtain ⟨v1, s1, q1⟩ := e
      rw [hn] at hS
      show tS G' h n tx (st2 (if room < v1 then .inl (4, s1) else .inr (v1, q1))) tt td
      rw [if_neg (by rw [← hx _ _ _ hn]; exact Int32.not_lt.mpr hc)]
      exact hS
theorem rp_hi {G G' : PH} {h n p p3 : Nat} {tx : Nat → Int32} {tt td room x fn3 fp3 : Int32} (hx : ∀ v s q, num n tx 1 4 p = .inr (v, s, q) → x = v) (h3 : match st3 (num n tx 1 4 p) with | .inl e => fn3 = nI e.1 ∧ 1 ≤ e.1 ∧ e.1 ≤ 4 ∧ fp3 = nI e.2 | .inr p' => fn3 = 0 ∧ fp3 = -1 ∧ p3 = p') (hc : ¬ x ≤ room) (k4 : txt G' h n tx p3 (if fn3 = 0 then 4 else fn3) (if fn3 = 0 then nI (skp n tx p) else fp3) tt td) (hF : Fr G G' h 1) : (∃ x', some (Value.int x) = some (.int x') ∧ ∀ v q, prS n tx room (.inr p) = .inr (v, q) → x' = v) ∧ tS G' h n tx (st2 (prS n tx room (.inr p))) tt td ∧ Fr G G' h 1 := by
  have key : prS n tx room (.inr p) = match num n tx 1 4 p with | .inl e => .inl e | .inr (_, s, _) => .inl (4, s) := by
    show (match num n tx 1 4 p with | .inl e => (.inl e : (Nat × Nat) ⊕ (Int32 × Nat)) | .inr (v, s, q) => if room < v then .inl (4, s) else .inr (v, q)) = _
    cases hn : num n tx 1 4 p with
    | inl e => rfl
    | inr e =>
      obtain ⟨v1, s1, q1⟩ := e
      show (if room < v1 then _ else _) = _
      rw [if_pos (by rw [← hx _ _ _ hn]; exact Int32.not_le.mp hc)]
  refine ⟨⟨x, rfl, fun v q e => ?_⟩, ?_, hF⟩
  · rw [key] at e
    cases hn : num n tx 1 4 p with
    | inl e1 => rw [hn] at e; cases e
    | inr e1 => rw [hn] at e; cases e
  · rw [key]
    cases hn : num n tx 1 4 p with
    | inl e1 =>
      rw [hn] at h3
      obtain ⟨a1, a2, a3, a4⟩ := h3
      have hz : ¬ fn3 = 0 := by rw [a1]; exact nI_ne0 (by omega) (by omega)
      rw [if_neg hz, if_neg hz] at k4
      exact ⟨p3, fn3, fp3, k4, a1, a2, a3, a4⟩
    | inr e1 =>
      obtain ⟨v1, s1, q1⟩ := e1
      rw [hn] at h3
      obtain ⟨rfl, rfl, rfl⟩ := h3
      rw [if_pos rfl, if_pos rfl] at k4
      exact ⟨_, _, _, k4, rfl, Nat.le_of_ble_eq_true rfl, Nat.le_of_ble_eq_true rfl, by rw [num_s hn]⟩
set_option maxHeartbeats 4000000 in
set_option maxRecDepth 100000 in
theorem t_partsO (l : Launch) {G : PH} {h n p : Nat} {tx : Nat → Int32} {tt td : Int32} {room : Int32} (k : txt G h n tx p 0 (-1) tt td) : Tri l mX8_readParts 0 0 [.ref h, .int room] G (fun w G' => (∃ x, w = some (.int x) ∧ ∀ v q, prS n tx room (.inr p) = .inr (v, q) → x = v) ∧ tS G' h n tx (st2 (prS n tx room (.inr p))) tt td ∧ Fr G G' h 1) := by
  refine Tri.intro (L := [_, _, _, _]) okX8_readParts.1 (Nat.le_of_ble_eq_true rfl) rfl ?_
  refine P_aload_n dX8_readParts_0 rfl ?_
  refine P_callV dX8_readParts_1 lkX8_44 okX8_skipBlanks ⟨Nat.le_of_ble_eq_true rfl, Nat.le_of_ble_eq_true rfl⟩ (t_skip l k) rfl rfl k.1 (Nat.le_of_ble_eq_true rfl) ⟨Nat.le_of_ble_eq_true rfl, Nat.le_of_ble_eq_true rfl⟩ (fun v1 G1 q1 => ?_)
  obtain ⟨rfl, k1, hF1⟩ := q1
  refine P_aload_n dX8_readParts_4 rfl ?_
  refine P_get dX8_readParts_5 flX8_19 k1.1 rfl ?_
  refine P_istore_n (L' := [_, _, _, _]) dX8_readParts_8 (Nat.le_of_ble_eq_true rfl) rfl ?_
  refine P_aload_n dX8_readParts_9 rfl ?_
  refine P_iconst dX8_readParts_10 ci_1 ?_
  refine P_iconst dX8_readParts_11 ci_4 ?_
  refine P_callV dX8_readParts_12 lkX8_75 okX8_readNumber ⟨Nat.le_of_ble_eq_true rfl, Nat.le_of_ble_eq_true rfl⟩ (t_numO l k1) rfl rfl k1.1 (Nat.le_of_ble_eq_true rfl) ⟨Nat.le_of_ble_eq_true rfl, Nat.le_of_ble_eq_true rfl⟩ (fun v12 G12 q12 => ?_)
  obtain ⟨⟨x9, rfl, hx9⟩, hS2, hF2⟩ := q12
  rw [num_skp] at hx9 hS2
  have hF12 := hF1.tr hF2
  obtain ⟨p3, fn3, fp3, k3, h3⟩ := id hS2
  refine P_istore_n (L' := [_, _, _, _]) dX8_readParts_15 (Nat.le_of_ble_eq_true rfl) rfl ?_
  refine P_iload_n dX8_readParts_16 rfl ?_
  refine P_iload_n dX8_readParts_17 rfl ?_
  refine P_icmp_le (tgt := 27) dX8_readParts_18 (by decide) (fun c18 => ?_) (fun c18 => ?_)
  · refine P_iload_n dX8_readParts_27 rfl ?_
    exact P_iret dX8_readParts_28 rfl ⟨Nat.le_refl _, Nat.le_refl _⟩ (by first | exact rp_hi hx9 h3 c18 k4 (hF12.tr hF4) | exact rp_lo hx9 hS2 c18 hF12)
  · refine P_aload_n dX8_readParts_21 rfl ?_
    refine P_iconst dX8_readParts_22 ci_4 ?_
    refine P_iload_n dX8_readParts_23 rfl ?_
    refine P_callV dX8_readParts_24 lkX8_67 okX8_fail ⟨Nat.le_of_ble_eq_true rfl, Nat.le_of_ble_eq_true rfl⟩ (t_fail l k3) rfl rfl k3.1 (Nat.le_of_ble_eq_true rfl) ⟨Nat.le_of_ble_eq_true rfl, Nat.le_of_ble_eq_true rfl⟩ (fun v24 G24 q24 => ?_)
    obtain ⟨rfl, k4, hF4⟩ := q24
    refine P_iload_n dX8_readParts_27 rfl ?_
    exact P_iret dX8_readParts_28 rfl ⟨Nat.le_refl _, Nat.le_refl _⟩ (by first | exact rp_hi hx9 h3 c18 k4 (hF12.tr hF4) | exact rp_lo hx9 hS2 c18 hF12)
theorem t_parts (l : Launch) {G : PH} {h n : Nat} {tx : Nat → Int32} {σ : PS} {room tt td : Int32} (hS : tS G h n tx σ tt td) : Tri l mX8_readParts 0 0 [.ref h, .int room] G (fun w G' => (∃ x, w = some (.int x) ∧ ∀ v q, prS n tx room σ = .inr (v, q) → x = v) ∧ tS G' h n tx (st2 (prS n tx room σ)) tt td ∧ Fr G G' h 1) := by
  cases σ with
  | inl e =>
    obtain ⟨p, fn, fp, k, h1, h2, h3, h4⟩ := hS
    refine (t_partsU l k (by rw [h1]; exact nI_ne0 (by omega) (by omega))).mono (fun v G' q => ?_)
    obtain ⟨⟨x, rfl⟩, ⟨p', k'⟩, hF⟩ := q
    exact ⟨⟨_, rfl, fun v q e => by cases e⟩, ⟨p', fn, fp, k', h1, h2, h3, h4⟩, hF⟩
  | inr p' =>
    obtain ⟨p, fn, fp, k, rfl, rfl, rfl⟩ := hS
    exact t_partsO l k
theorem t_belowU (l : Launch) {G : PH} {h n p : Nat} {tx : Nat → Int32} {fn fp tt td : Int32} {hr : Nat} {ρ : Riv} (k : txt G h n tx p fn fp tt td) (hu : ¬ fn = 0) (hR : isRiver G hr ρ) (hd : hr + 7 ≤ h ∨ h + 2 ≤ hr) : Tri l mX8_readBelow 0 0 [.ref h, .ref hr] G (fun w G' => (∃ x, w = some (.int x)) ∧ (∃ p', txt G' h n tx p' fn fp tt td) ∧ Fr G G' h 1) := by
  refine Tri.intro (L := [_, _]) okX8_readBelow.1 (Nat.le_of_ble_eq_true rfl) rfl ?_
  refine P_aload_n dX8_readBelow_0 rfl ?_
  refine P_callV dX8_readBelow_1 lkX8_44 okX8_skipBlanks ⟨Nat.le_of_ble_eq_true rfl, Nat.le_of_ble_eq_true rfl⟩ (t_skip l k) rfl rfl k.1 (Nat.le_of_ble_eq_true rfl) ⟨Nat.le_of_ble_eq_true rfl, Nat.le_of_ble_eq_true rfl⟩ (fun v1 G1 q1 => ?_)
  obtain ⟨rfl, k1, hF1⟩ := q1
  refine P_aload_n dX8_readBelow_4 rfl ?_
  refine P_callVp dX8_readBelow_5 lkX8_51 okX8_letterHere ⟨Nat.le_of_ble_eq_true rfl, Nat.le_of_ble_eq_true rfl⟩ (t_letter l k1) rfl rfl k1.1 (Nat.le_of_ble_eq_true rfl) ⟨Nat.le_of_ble_eq_true rfl, Nat.le_of_ble_eq_true rfl⟩ ?_
  refine P_bipush dX8_readBelow_8 bp_45 ?_
  refine P_icmp_ne (tgt := 25) dX8_readBelow_10 (by decide) (fun c10 => ?_) (fun c10 => ?_)
  · refine P_aload_n dX8_readBelow_25 rfl ?_
    refine P_iconst dX8_readBelow_26 ci_0 ?_
    refine P_aload_n dX8_readBelow_27 rfl ?_
    refine P_callVp dX8_readBelow_28 lkX8_89 okX6_reachCount ⟨Nat.le_of_ble_eq_true rfl, Nat.le_of_ble_eq_true rfl⟩ (t_reachCount l (hR.fr hF1 (by omega))) rfl rfl (hR.fr hF1 (by omega)).at (Nat.le_of_ble_eq_true rfl) ⟨Nat.le_of_ble_eq_true rfl, Nat.le_of_ble_eq_true rfl⟩ ?_
    refine P_iconst dX8_readBelow_31 ci_1 ?_
    refine P_isub dX8_readBelow_32 ?_
    refine P_callVp dX8_readBelow_33 lkX8_75 okX8_readNumber ⟨Nat.le_of_ble_eq_true rfl, Nat.le_of_ble_eq_true rfl⟩ (t_numU l k1 hu) rfl rfl k1.1 (Nat.le_of_ble_eq_true rfl) ⟨Nat.le_of_ble_eq_true rfl, Nat.le_of_ble_eq_true rfl⟩ ?_
    exact P_iret dX8_readBelow_36 rfl ⟨Nat.le_refl _, Nat.le_refl _⟩ ⟨⟨_, rfl⟩, ⟨_, k1⟩, hF1⟩
  · refine P_aload_n dX8_readBelow_13 rfl ?_
    refine P_dup dX8_readBelow_14 rfl ?_
    refine P_get dX8_readBelow_15 flX8_19 k1.1 rfl ?_
    refine P_iconst dX8_readBelow_18 ci_1 ?_
    refine P_iadd dX8_readBelow_19 ?_
    rw [nI_1]
    refine P_putI dX8_readBelow_20 flX8_19 k1.1 (Nat.le_of_ble_eq_true rfl) ?_
    have hlt : skp n tx p < n := Classical.byContradiction fun z => by unfold lt0 at c10; rw [if_neg z] at c10; exact absurd c10 (by decide)
    have hs := k1.set (p' := skp n tx p + 1) (fn' := fn) (fp' := fp) (tt' := tt) (td' := td) hlt
    refine P_iconst dX8_readBelow_23 ci_m1 ?_
    exact P_iret dX8_readBelow_24 rfl ⟨Nat.le_refl _, Nat.le_refl _⟩ ⟨⟨_, rfl⟩, ⟨_, hs.1⟩, hF1.tr hs.2⟩
theorem rb_num {G G' : PH} {h n p : Nat} {tx : Nat → Int32} {tt td b x : Int32} (hc : ¬ lt0 n tx (skp n tx p) = 45) (hx : ∀ v s q, num n tx 0 b p = .inr (v, s, q) → x = v) (hS : tS G' h n tx (st3 (num n tx 0 b p)) tt td) (hF : Fr G G' h 1) : (∃ x', some (Value.int x) = some (.int x') ∧ ∀ v q, blS n tx b (.inr p) = .inr (v, q) → x' = v) ∧ tS G' h n tx (st2 (blS n tx b (.inr p))) tt td ∧ Fr G G' h 1 := by
  have key : blS n tx b (.inr p) = match num n tx 0 b p with | .inl e => .inl e | .inr (v, _, q) => .inr (v, q) := if_neg hc
  rw [key]
  refine ⟨⟨x, rfl, fun v q e => ?_⟩, ?_, hF⟩
  · cases hn : num n tx 0 b p with
    | inl e1 => rw [hn] at e; cases e
    | inr e1 => obtain ⟨v1, s1, q1⟩ := e1; rw [hn] at e; cases e; exact hx _ _ _ hn
  · cases hn : num n tx 0 b p with
    | inl e1 => rw [hn] at hS; exact hS
    | inr e1 => obtain ⟨v1, s1, q1⟩ := e1; rw [hn] at hS; exact hS
theorem t_belowO (l : Launch) {G : PH} {h n p : Nat} {tx : Nat → Int32} {tt td : Int32} {hr : Nat} {ρ : Riv} (k : txt G h n tx p 0 (-1) tt td) (hR : isRiver G hr ρ) (hd : hr + 7 ≤ h ∨ h + 2 ≤ hr) : Tri l mX8_readBelow 0 0 [.ref h, .ref hr] G (fun w G' => (∃ x, w = some (.int x) ∧ ∀ v q, blS n tx (nI (rN ρ) - 1) (.inr p) = .inr (v, q) → x = v) ∧ tS G' h n tx (st2 (blS n tx (nI (rN ρ) - 1) (.inr p))) tt td ∧ Fr G G' h 1) := by
  refine Tri.intro (L := [_, _]) okX8_readBelow.1 (Nat.le_of_ble_eq_true rfl) rfl ?_
  refine P_aload_n dX8_readBelow_0 rfl ?_
  refine P_callV dX8_readBelow_1 lkX8_44 okX8_skipBlanks ⟨Nat.le_of_ble_eq_true rfl, Nat.le_of_ble_eq_true rfl⟩ (t_skip l k) rfl rfl k.1 (Nat.le_of_ble_eq_true rfl) ⟨Nat.le_of_ble_eq_true rfl, Nat.le_of_ble_eq_true rfl⟩ (fun v1 G1 q1 => ?_)
  obtain ⟨rfl, k1, hF1⟩ := q1
  refine P_aload_n dX8_readBelow_4 rfl ?_
  refine P_callVp dX8_readBelow_5 lkX8_51 okX8_letterHere ⟨Nat.le_of_ble_eq_true rfl, Nat.le_of_ble_eq_true rfl⟩ (t_letter l k1) rfl rfl k1.1 (Nat.le_of_ble_eq_true rfl) ⟨Nat.le_of_ble_eq_true rfl, Nat.le_of_ble_eq_true rfl⟩ ?_
  refine P_bipush dX8_readBelow_8 bp_45 ?_
  refine P_icmp_ne (tgt := 25) dX8_readBelow_10 (by decide) (fun c10 => ?_) (fun c10 => ?_)
  · refine P_aload_n dX8_readBelow_25 rfl ?_
    refine P_iconst dX8_readBelow_26 ci_0 ?_
    refine P_aload_n dX8_readBelow_27 rfl ?_
    refine P_callVp dX8_readBelow_28 lkX8_89 okX6_reachCount ⟨Nat.le_of_ble_eq_true rfl, Nat.le_of_ble_eq_true rfl⟩ (t_reachCount l (hR.fr hF1 (by omega))) rfl rfl (hR.fr hF1 (by omega)).at (Nat.le_of_ble_eq_true rfl) ⟨Nat.le_of_ble_eq_true rfl, Nat.le_of_ble_eq_true rfl⟩ ?_
    refine P_iconst dX8_readBelow_31 ci_1 ?_
    refine P_isub dX8_readBelow_32 ?_
    refine P_callV dX8_readBelow_33 lkX8_75 okX8_readNumber ⟨Nat.le_of_ble_eq_true rfl, Nat.le_of_ble_eq_true rfl⟩ (t_numO l k1) rfl rfl k1.1 (Nat.le_of_ble_eq_true rfl) ⟨Nat.le_of_ble_eq_true rfl, Nat.le_of_ble_eq_true rfl⟩ (fun v33 G33 q33 => ?_)
    obtain ⟨⟨x9, rfl, hx9⟩, hS2, hF2⟩ := q33
    rw [num_skp] at hx9 hS2
    exact P_iret dX8_readBelow_36 rfl ⟨Nat.le_refl _, Nat.le_refl _⟩ (rb_num c10 hx9 hS2 (hF1.tr hF2))
  · refine P_aload_n dX8_readBelow_13 rfl ?_
    refine P_dup dX8_readBelow_14 rfl ?_
    refine P_get dX8_readBelow_15 flX8_19 k1.1 rfl ?_
    refine P_iconst dX8_readBelow_18 ci_1 ?_
    refine P_iadd dX8_readBelow_19 ?_
    rw [nI_1]
    refine P_putI dX8_readBelow_20 flX8_19 k1.1 (Nat.le_of_ble_eq_true rfl) ?_
    have hlt : skp n tx p < n := Classical.byContradiction fun z => by unfold lt0 at c10; rw [if_neg z] at c10; exact absurd c10 (by decide)
    have hs := k1.set (p' := skp n tx p + 1) (fn' := 0) (fp' := -1) (tt' := tt) (td' := td) hlt
    refine P_iconst dX8_readBelow_23 ci_m1 ?_
    exact P_iret dX8_readBelow_24 rfl ⟨Nat.le_refl _, Nat.le_refl _⟩ ⟨⟨_, rfl, fun v q e => by rw [show blS n tx (nI (rN ρ) - 1) (.inr p) = .inr (-1, skp n tx p + 1) from if_pos c10] at e; cases e; rfl⟩, (by rw [show blS n tx (nI (rN ρ) - 1) (.inr p) = .inr (-1, skp n tx p + 1) from if_pos c10]; exact ⟨_, _, _, hs.1, rfl, rfl, rfl⟩), hF1.tr hs.2⟩
theorem t_below (l : Launch) {G : PH} {h n hr : Nat} {tx : Nat → Int32} {σ : PS} {tt td : Int32} {ρ : Riv} (hS : tS G h n tx σ tt td) (hR : isRiver G hr ρ) (hd : hr + 7 ≤ h ∨ h + 2 ≤ hr) : Tri l mX8_readBelow 0 0 [.ref h, .ref hr] G (fun w G' => (∃ x, w = some (.int x) ∧ ∀ v q, blS n tx (nI (rN ρ) - 1) σ = .inr (v, q) → x = v) ∧ tS G' h n tx (st2 (blS n tx (nI (rN ρ) - 1) σ)) tt td ∧ Fr G G' h 1) := by
  cases σ with
  | inl e =>
    obtain ⟨p, fn, fp, k, h1, h2, h3, h4⟩ := hS
    refine (t_belowU l k (by rw [h1]; exact nI_ne0 (by omega) (by omega)) hR hd).mono (fun v G' q => ?_)
    obtain ⟨⟨x, rfl⟩, ⟨p', k'⟩, hF⟩ := q
    exact ⟨⟨_, rfl, fun v q e => by cases e⟩, ⟨p', fn, fp, k', h1, h2, h3, h4⟩, hF⟩
  | inr p' =>
    obtain ⟨p, fn, fp, k, rfl, rfl, rfl⟩ := hS
    exact t_belowO l k hR hd
