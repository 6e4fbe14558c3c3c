theorem nRv_len (h : Nat) : (nRv h).length = 7 := rfl
theorem nRt_len (h : Nat) : (nRt h).length = 11 := rfl
theorem nTx_len (h : Nat) : (nTx h).length = 2 := rfl
theorem nBk_len (h : Nat) : (nBk h).length = 3 := rfl
theorem nIm_len (h : Nat) : (nIm h).length = 8 := rfl
theorem nPs_len (h : Nat) : (nPs h).length = 114 := by
  show (nRs (h + 2) 16).length + 1 + 1 = _
  rw [nRs_len]
theorem nMd_len (h : Nat) : (nMd h).length = 17 := rfl
theorem ap_set0 {A : PH} {x y : PCell} : (x :: A).set 0 y = y :: A := rfl
theorem ap_at0 {A : PH} {x : PCell} : (x :: A)[0]? = some x := rfl
/-- the images' row, behind what is of length n -/
theorem ap_atT {T R : PH} {x y : PCell} {n : Nat} (h : T.length = n) : (x :: (T ++ y :: R))[n + 1]? = some y := by
  subst h; rw [List.getElem?_cons_succ]; exact ap_at
theorem ap_setT {T R : PH} {x y z : PCell} {n : Nat} (h : T.length = n) : (x :: (T ++ y :: R)).set (n + 1) z = x :: (T ++ z :: R) := by
  subst h; rw [List.set_cons_succ, ap_set]
def nRest : PH := nRv 1 ++ (nRv 8 ++ (nRt 15 ++ (oB 0 0 0 :: (nTx 27 ++ (nBk 29 ++ (nPs 32 ++ [oW 0]))))))
theorem nRest_len : nRest.length = 146 := by
  unfold nRest
  simp only [List.length_append, List.length_cons, List.length_nil, nRv_len, nRt_len, nTx_len, nBk_len, nPs_len]
def fI (i : Nat) : Nat → Option Nat := fun j => if j < i then some (148 + 8 * j) else none
def nCl : PH := o9 (-1) :: (nRest ++ aQ 4 2 (fI 2) :: (nIm 148 ++ nIm 156))
theorem fI_up0 : va_up (fI 0) 0 (some 148) = fI 1 := by
  funext j; unfold va_up fI
  by_cases e : j = 0
  · subst e; rfl
  · rw [if_neg e, if_neg (by omega), if_neg (by omega)]
theorem fI_up1 : va_up (fI 1) 1 (some 156) = fI 2 := by
  funext j; unfold va_up fI
  by_cases e : j = 1
  · subst e; rfl
  · rw [if_neg e]
    by_cases g : j < 1
    · rw [if_pos g, if_pos (by omega)]
    · rw [if_neg g, if_neg (by omega)]
set_option maxHeartbeats 4000000 in
set_option maxRecDepth 100000 in
theorem lp_ncl2 (l : Launch) : WP mX9_init l (rmM mX9_init 163 7345) (ZM 163 7345 (fun w G' => w = none ∧ G' = nCl)) XT 163 7345 107 [some (.ref 0), some (.int 2)] [] (o9 (-1) :: (nRest ++ aQ 4 2 (fI 2) :: (nIm 148 ++ nIm 156))) := by
  refine P_iload_n dX9_init_107 rfl ?_
  refine P_aload_n dX9_init_108 rfl ?_
  refine P_get dX9_init_109 flX9_63 ap_at0 rfl ?_
  refine P_alen (v := 2) dX9_init_112 (ap_atT nRest_len) (fun _ => rfl) rfl ?_
  refine P_icmp_ge (tgt := 135) dX9_init_113 (by decide) (fun c113 => ?_) (fun c113 => ?_)
  · exact P_vret dX9_init_135 rfl ⟨Nat.le_refl _, Nat.le_refl _⟩ ⟨rfl, rfl⟩
  · exact absurd (show (2 : Int32) ≤ 2 by decide) c113
set_option maxHeartbeats 4000000 in
set_option maxRecDepth 100000 in
theorem lp_ncl1 (l : Launch) : WP mX9_init l (rmM mX9_init 163 7345) (ZM 163 7345 (fun w G' => w = none ∧ G' = nCl)) XT 155 7015 107 [some (.ref 0), some (.int 1)] [] (o9 (-1) :: (nRest ++ aQ 4 2 (fI 1) :: nIm 148)) := by
  refine P_iload_n dX9_init_107 rfl ?_
  refine P_aload_n dX9_init_108 rfl ?_
  refine P_get dX9_init_109 flX9_63 ap_at0 rfl ?_
  refine P_alen (v := 2) dX9_init_112 (ap_atT nRest_len) (fun _ => rfl) rfl ?_
  refine P_icmp_ge (tgt := 135) dX9_init_113 (by decide) (fun c113 => ?_) (fun c113 => ?_)
  · exact absurd c113 (show ¬ (2 : Int32) ≤ 1 by decide)
  · refine P_aload_n dX9_init_116 rfl ?_
    refine P_get dX9_init_117 flX9_63 ap_at0 rfl ?_
    refine P_iload_n dX9_init_120 rfl ?_
    refine P_new (fs := [.null, .int 0, .int 0]) dX9_init_121 clX9_61 inX4 ckX4 (by decide) ⟨Nat.le_of_ble_eq_true rfl, Nat.le_of_ble_eq_true rfl⟩ ?_
    refine P_dup dX9_init_124 rfl ?_
    refine P_callI dX9_init_125 lkX9_71 okX4_init ⟨Nat.le_of_ble_eq_true rfl, Nat.le_of_ble_eq_true rfl⟩ (n_image (G := []) l) rfl rfl (Nat.le_of_ble_eq_true rfl) ⟨Nat.le_of_ble_eq_true rfl, Nat.le_of_ble_eq_true rfl⟩ (fun v125 G125 q125 => ?_)
    obtain ⟨rfl, rfl⟩ := q125
    have hlen : (o9 (-1) :: (nRest ++ aQ 4 2 (fI 1) :: nIm 148)).length = 156 := by simp only [List.length_append, List.length_cons, List.length_nil, nRv_len, nRt_len, nTx_len, nBk_len, nPs_len, nIm_len, Nat.reduceAdd, Nat.zero_add, nRest_len]
    rw [hlen]
    have hy : ((o9 (-1) :: (nRest ++ aQ 4 2 (fI 1) :: nIm 148)) ++ nIm 156)[156]? = some (.inr (4, [.ref 157, .int 0, .int 0])) := by rw [List.getElem?_append_right (by rw [hlen]; exact Nat.le_refl _), hlen]; rfl
    simp only [List.append_assoc, List.cons_append, List.nil_append] at hy ⊢
    refine P_aast4 dX9_init_128 (ap_atT nRest_len) hy (vp_in_nI (show 1 < 2 by decide) (by decide)) ?_
    rw [ap_setT nRest_len, show Int32.toNatClampNeg 1 = 1 from rfl, fI_up1]
    refine P_iinc (L' := [_, _]) dX9_init_129 rfl (ii_1 _) (Nat.le_of_ble_eq_true rfl) rfl ?_
    rw [show (1 : Int32) + 1 = 2 from rfl]
    refine P_goto (tgt := 107) dX9_init_132 (by decide) ?_
    exact lp_ncl2 l
set_option maxHeartbeats 4000000 in
set_option maxRecDepth 100000 in
theorem lp_ncl0 (l : Launch) : WP mX9_init l (rmM mX9_init 163 7345) (ZM 163 7345 (fun w G' => w = none ∧ G' = nCl)) XT 147 6685 107 [some (.ref 0), some (.int 0)] [] (o9 (-1) :: (nRest ++ aQ 4 2 (fI 0) :: [])) := by
  refine P_iload_n dX9_init_107 rfl ?_
  refine P_aload_n dX9_init_108 rfl ?_
  refine P_get dX9_init_109 flX9_63 ap_at0 rfl ?_
  refine P_alen (v := 2) dX9_init_112 (ap_atT nRest_len) (fun _ => rfl) rfl ?_
  refine P_icmp_ge (tgt := 135) dX9_init_113 (by decide) (fun c113 => ?_) (fun c113 => ?_)
  · exact absurd c113 (show ¬ (2 : Int32) ≤ 0 by decide)
  · refine P_aload_n dX9_init_116 rfl ?_
    refine P_get dX9_init_117 flX9_63 ap_at0 rfl ?_
    refine P_iload_n dX9_init_120 rfl ?_
    refine P_new (fs := [.null, .int 0, .int 0]) dX9_init_121 clX9_61 inX4 ckX4 (by decide) ⟨Nat.le_of_ble_eq_true rfl, Nat.le_of_ble_eq_true rfl⟩ ?_
    refine P_dup dX9_init_124 rfl ?_
    refine P_callI dX9_init_125 lkX9_71 okX4_init ⟨Nat.le_of_ble_eq_true rfl, Nat.le_of_ble_eq_true rfl⟩ (n_image (G := []) l) rfl rfl (Nat.le_of_ble_eq_true rfl) ⟨Nat.le_of_ble_eq_true rfl, Nat.le_of_ble_eq_true rfl⟩ (fun v125 G125 q125 => ?_)
    obtain ⟨rfl, rfl⟩ := q125
    have hlen : (o9 (-1) :: (nRest ++ aQ 4 2 (fI 0) :: [])).length = 148 := by simp only [List.length_append, List.length_cons, List.length_nil, nRv_len, nRt_len, nTx_len, nBk_len, nPs_len, nIm_len, Nat.reduceAdd, Nat.zero_add, nRest_len]
    rw [hlen]
    have hy : ((o9 (-1) :: (nRest ++ aQ 4 2 (fI 0) :: [])) ++ nIm 148)[148]? = some (.inr (4, [.ref 149, .int 0, .int 0])) := by rw [List.getElem?_append_right (by rw [hlen]; exact Nat.le_refl _), hlen]; rfl
    simp only [List.append_assoc, List.cons_append, List.nil_append] at hy ⊢
    refine P_aast4 dX9_init_128 (ap_atT nRest_len) hy (vp_in_nI (show 0 < 2 by decide) (by decide)) ?_
    rw [ap_setT nRest_len, show Int32.toNatClampNeg 0 = 0 from rfl, fI_up0]
    refine P_iinc (L' := [_, _]) dX9_init_129 rfl (ii_1 _) (Nat.le_of_ble_eq_true rfl) rfl ?_
    rw [show (0 : Int32) + 1 = 1 from rfl]
    refine P_goto (tgt := 107) dX9_init_132 (by decide) ?_
    exact lp_ncl1 l
set_option maxHeartbeats 4000000 in
set_option maxRecDepth 100000 in
theorem n_class (l : Launch) {G : PH}   : Tri l mX9_init 163 7345 [.ref 0] [.inr (9, [.null, .null, .null, .null, .null, .null, .null, .null, .null, .int 0])] (fun w G' => w = none ∧ G' = nCl) := by
  refine Tri.intro (L := [_, _]) okX9_init.1 (Nat.le_of_ble_eq_true rfl) rfl ?_
  refine P_aload_n dX9_init_0 rfl ?_
  refine P_objInit dX9_init_1 lkX9_1 ⟨Nat.le_of_ble_eq_true rfl, Nat.le_of_ble_eq_true rfl⟩ ?_
  refine P_aload_n dX9_init_4 rfl ?_
  refine P_new (fs := [.null, .null, .null, .int 0, .int 0, .int 0]) dX9_init_5 clX9_7 inX6 ckX6 (by decide) ⟨Nat.le_of_ble_eq_true rfl, Nat.le_of_ble_eq_true rfl⟩ ?_
  refine P_dup dX9_init_8 rfl ?_
  refine P_callI dX9_init_9 lkX9_9 okX6_init ⟨Nat.le_of_ble_eq_true rfl, Nat.le_of_ble_eq_true rfl⟩ (n_river (G := []) l) rfl rfl (Nat.le_of_ble_eq_true rfl) ⟨Nat.le_of_ble_eq_true rfl, Nat.le_of_ble_eq_true rfl⟩ (fun v9 G9 q9 => ?_)
  obtain ⟨rfl, rfl⟩ := q9
  simp only [List.append_assoc, List.cons_append, List.nil_append, List.length_append, List.length_cons, List.length_nil, nRv_len, nRt_len, nTx_len, nBk_len, nPs_len, nIm_len, Nat.reduceAdd, Nat.zero_add]
  refine P_putFR dX9_init_12 flX9_10 ⟨_, _, rfl⟩ rfl ap_at0 (Nat.le_of_ble_eq_true rfl) ?_
  rw [ap_set0]
  refine P_aload_n dX9_init_15 rfl ?_
  refine P_new (fs := [.null, .null, .null, .int 0, .int 0, .int 0]) dX9_init_16 clX9_7 inX6 ckX6 (by decide) ⟨Nat.le_of_ble_eq_true rfl, Nat.le_of_ble_eq_true rfl⟩ ?_
  refine P_dup dX9_init_19 rfl ?_
  refine P_callI dX9_init_20 lkX9_9 okX6_init ⟨Nat.le_of_ble_eq_true rfl, Nat.le_of_ble_eq_true rfl⟩ (n_river (G := []) l) rfl rfl (Nat.le_of_ble_eq_true rfl) ⟨Nat.le_of_ble_eq_true rfl, Nat.le_of_ble_eq_true rfl⟩ (fun v20 G20 q20 => ?_)
  obtain ⟨rfl, rfl⟩ := q20
  simp only [List.append_assoc, List.cons_append, List.nil_append, List.length_append, List.length_cons, List.length_nil, nRv_len, nRt_len, nTx_len, nBk_len, nPs_len, nIm_len, Nat.reduceAdd, Nat.zero_add]
  refine P_putFR dX9_init_23 flX9_16 ⟨_, _, rfl⟩ rfl ap_at0 (Nat.le_of_ble_eq_true rfl) ?_
  rw [ap_set0]
  refine P_aload_n dX9_init_26 rfl ?_
  refine P_new (fs := [.null, .null, .null, .null, .null, .int 0, .int 0]) dX9_init_27 clX9_19 inX7 ckX7 (by decide) ⟨Nat.le_of_ble_eq_true rfl, Nat.le_of_ble_eq_true rfl⟩ ?_
  refine P_dup dX9_init_30 rfl ?_
  refine P_callI dX9_init_31 lkX9_21 okX7_init ⟨Nat.le_of_ble_eq_true rfl, Nat.le_of_ble_eq_true rfl⟩ (n_routing (G := []) l) rfl rfl (Nat.le_of_ble_eq_true rfl) ⟨Nat.le_of_ble_eq_true rfl, Nat.le_of_ble_eq_true rfl⟩ (fun v31 G31 q31 => ?_)
  obtain ⟨rfl, rfl⟩ := q31
  simp only [List.append_assoc, List.cons_append, List.nil_append, List.length_append, List.length_cons, List.length_nil, nRv_len, nRt_len, nTx_len, nBk_len, nPs_len, nIm_len, Nat.reduceAdd, Nat.zero_add]
  refine P_putFR dX9_init_34 flX9_22 ⟨_, _, rfl⟩ rfl ap_at0 (Nat.le_of_ble_eq_true rfl) ?_
  rw [ap_set0]
  refine P_aload_n dX9_init_37 rfl ?_
  refine P_new (fs := [.int 0, .int 0, .long 0]) dX9_init_38 clX9_26 inX3 ckX3 (by decide) ⟨Nat.le_of_ble_eq_true rfl, Nat.le_of_ble_eq_true rfl⟩ ?_
  refine P_dup dX9_init_41 rfl ?_
  refine P_callI dX9_init_42 lkX9_28 okX3_init ⟨Nat.le_of_ble_eq_true rfl, Nat.le_of_ble_eq_true rfl⟩ (n_fitting (G := []) l) rfl rfl (Nat.le_of_ble_eq_true rfl) ⟨Nat.le_of_ble_eq_true rfl, Nat.le_of_ble_eq_true rfl⟩ (fun v42 G42 q42 => ?_)
  obtain ⟨rfl, rfl⟩ := q42
  simp only [List.append_assoc, List.cons_append, List.nil_append, List.length_append, List.length_cons, List.length_nil, nRv_len, nRt_len, nTx_len, nBk_len, nPs_len, nIm_len, Nat.reduceAdd, Nat.zero_add]
  refine P_putFR dX9_init_45 flX9_29 ⟨_, _, rfl⟩ rfl ap_at0 (Nat.le_of_ble_eq_true rfl) ?_
  rw [ap_set0]
  refine P_aload_n dX9_init_48 rfl ?_
  refine P_new (fs := [.null, .int 0, .int 0, .int 0, .int 0, .int 0, .int 0]) dX9_init_49 clX9_33 inX8 ckX8 (by decide) ⟨Nat.le_of_ble_eq_true rfl, Nat.le_of_ble_eq_true rfl⟩ ?_
  refine P_dup dX9_init_52 rfl ?_
  refine P_callI dX9_init_53 lkX9_35 okX8_init ⟨Nat.le_of_ble_eq_true rfl, Nat.le_of_ble_eq_true rfl⟩ (n_text (G := []) l) rfl rfl (Nat.le_of_ble_eq_true rfl) ⟨Nat.le_of_ble_eq_true rfl, Nat.le_of_ble_eq_true rfl⟩ (fun v53 G53 q53 => ?_)
  obtain ⟨rfl, rfl⟩ := q53
  simp only [List.append_assoc, List.cons_append, List.nil_append, List.length_append, List.length_cons, List.length_nil, nRv_len, nRt_len, nTx_len, nBk_len, nPs_len, nIm_len, Nat.reduceAdd, Nat.zero_add]
  refine P_putFR dX9_init_56 flX9_36 ⟨_, _, rfl⟩ rfl ap_at0 (Nat.le_of_ble_eq_true rfl) ?_
  rw [ap_set0]
  refine P_aload_n dX9_init_59 rfl ?_
  refine P_new (fs := [.null, .int 0]) dX9_init_60 clX9_40 inX0 ckX0 (by decide) ⟨Nat.le_of_ble_eq_true rfl, Nat.le_of_ble_eq_true rfl⟩ ?_
  refine P_dup dX9_init_63 rfl ?_
  refine P_callI dX9_init_64 lkX9_42 okX0_init ⟨Nat.le_of_ble_eq_true rfl, Nat.le_of_ble_eq_true rfl⟩ (n_book (G := []) l) rfl rfl (Nat.le_of_ble_eq_true rfl) ⟨Nat.le_of_ble_eq_true rfl, Nat.le_of_ble_eq_true rfl⟩ (fun v64 G64 q64 => ?_)
  obtain ⟨rfl, rfl⟩ := q64
  simp only [List.append_assoc, List.cons_append, List.nil_append, List.length_append, List.length_cons, List.length_nil, nRv_len, nRt_len, nTx_len, nBk_len, nPs_len, nIm_len, Nat.reduceAdd, Nat.zero_add]
  refine P_putFR dX9_init_67 flX9_43 ⟨_, _, rfl⟩ rfl ap_at0 (Nat.le_of_ble_eq_true rfl) ?_
  rw [ap_set0]
  refine P_aload_n dX9_init_70 rfl ?_
  refine P_new (fs := [.null, .int 0, .int 0]) dX9_init_71 clX9_47 inX5 ckX5 (by decide) ⟨Nat.le_of_ble_eq_true rfl, Nat.le_of_ble_eq_true rfl⟩ ?_
  refine P_dup dX9_init_74 rfl ?_
  refine P_callI dX9_init_75 lkX9_49 okX5_init ⟨Nat.le_of_ble_eq_true rfl, Nat.le_of_ble_eq_true rfl⟩ (n_past (G := []) l) rfl rfl (Nat.le_of_ble_eq_true rfl) ⟨Nat.le_of_ble_eq_true rfl, Nat.le_of_ble_eq_true rfl⟩ (fun v75 G75 q75 => ?_)
  obtain ⟨rfl, rfl⟩ := q75
  simp only [List.append_assoc, List.cons_append, List.nil_append, List.length_append, List.length_cons, List.length_nil, nRv_len, nRt_len, nTx_len, nBk_len, nPs_len, nIm_len, Nat.reduceAdd, Nat.zero_add]
  refine P_putFR dX9_init_78 flX9_50 ⟨_, _, rfl⟩ rfl ap_at0 (Nat.le_of_ble_eq_true rfl) ?_
  rw [ap_set0]
  refine P_aload_n dX9_init_81 rfl ?_
  refine P_new (fs := [.int 0]) dX9_init_82 clX9_54 inX2 ckX2 (by decide) ⟨Nat.le_of_ble_eq_true rfl, Nat.le_of_ble_eq_true rfl⟩ ?_
  refine P_dup dX9_init_85 rfl ?_
  refine P_callI dX9_init_86 lkX9_56 okX2_init ⟨Nat.le_of_ble_eq_true rfl, Nat.le_of_ble_eq_true rfl⟩ (n_draws (G := []) l) rfl rfl (Nat.le_of_ble_eq_true rfl) ⟨Nat.le_of_ble_eq_true rfl, Nat.le_of_ble_eq_true rfl⟩ (fun v86 G86 q86 => ?_)
  obtain ⟨rfl, rfl⟩ := q86
  simp only [List.append_assoc, List.cons_append, List.nil_append, List.length_append, List.length_cons, List.length_nil, nRv_len, nRt_len, nTx_len, nBk_len, nPs_len, nIm_len, Nat.reduceAdd, Nat.zero_add]
  refine P_putFR dX9_init_89 flX9_57 ⟨_, _, rfl⟩ rfl ap_at0 (Nat.le_of_ble_eq_true rfl) ?_
  rw [ap_set0]
  refine P_aload_n dX9_init_92 rfl ?_
  refine P_iconst dX9_init_93 ci_2 ?_
  refine P_anew (k := 4) (n0 := 2) dX9_init_94 clX9_61 (fun _ _ h => h.2.2.2.2) (fun _ => rfl) (by decide) (by decide) (by decide) ⟨Nat.le_of_ble_eq_true rfl, Nat.le_of_ble_eq_true rfl⟩ ?_
  simp only [List.append_assoc, List.cons_append, List.nil_append, List.length_append, List.length_cons, List.length_nil, nRv_len, nRt_len, nTx_len, nBk_len, nPs_len, nIm_len, Nat.reduceAdd, Nat.zero_add]
  refine P_putFA dX9_init_97 flX9_63 ⟨_, _, rfl⟩ rfl ap_at0 (Nat.le_of_ble_eq_true rfl) ?_
  rw [ap_set0]
  refine P_aload_n dX9_init_100 rfl ?_
  refine P_iconst dX9_init_101 ci_m1 ?_
  refine P_putI dX9_init_102 flX9_67 ap_at0 (Nat.le_of_ble_eq_true rfl) ?_
  rw [ap_set0]
  refine P_iconst dX9_init_105 ci_0 ?_
  refine P_istore_n (L' := [_, _]) dX9_init_106 (Nat.le_of_ble_eq_true rfl) rfl ?_
  have e0 : (fun _ => none : Nat → Option Nat) = fI 0 := by funext j; exact (if_neg (Nat.not_lt_zero _)).symm
  have := lp_ncl0 l
  unfold nRest at this
  simp only [List.append_assoc, List.cons_append, List.nil_append] at this
  rw [e0]
  exact this
