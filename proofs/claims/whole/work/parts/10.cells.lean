/-! Math -/
def imax (a b : Int32) : Int32 := if a < b then b else a
def imin (a b : Int32) : Int32 := if b < a then b else a
def jmax (a b : Int64) : Int64 := if a < b then b else a
def jmin (a b : Int64) : Int64 := if b < a then b else a
def jabs (a : Int64) : Int64 := if a < 0 then -a else a
def jfd (x y : Int64) : Int64 := if (x ^^^ y) < 0 ∧ ¬ x / y * y = x then x / y - 1 else x / y
def jfm (x y : Int64) : Int64 := if (x ^^^ y) < 0 ∧ ¬ x - x / y * y = 0 then x - x / y * y + y else x - x / y * y
def ifm (x y : Int32) : Int32 := if (x ^^^ y) < 0 ∧ ¬ x - x / y * y = 0 then x - x / y * y + y else x - x / y * y
theorem t_imax (l : Launch) {G : PH} {a b : Int32}  : Tri l mJ9_max_7cf53 0 0 [.int a, .int b] G (fun w G' => w = some (.int (imax a b)) ∧ G' = G) := by
  refine Tri.intro (L := [_, _]) okJ9_max_7cf53.1 (Nat.le_of_ble_eq_true rfl) rfl ?_
  refine P_iload_n dJ9_max_7cf53_0 rfl ?_
  refine P_iload_n dJ9_max_7cf53_1 rfl ?_
  refine P_icmp_lt (tgt := 9) dJ9_max_7cf53_2 (by decide) (fun c2 => ?_) (fun c2 => ?_)
  · refine P_iload_n dJ9_max_7cf53_9 rfl ?_
    exact P_iret dJ9_max_7cf53_10 rfl ⟨Nat.le_refl _, Nat.le_refl _⟩ ⟨by simp [imax, c2], rfl⟩
  · refine P_iload_n dJ9_max_7cf53_5 rfl ?_
    refine P_goto (tgt := 10) dJ9_max_7cf53_6 (by decide) ?_
    exact P_iret dJ9_max_7cf53_10 rfl ⟨Nat.le_refl _, Nat.le_refl _⟩ ⟨by simp [imax, c2], rfl⟩
theorem t_imin (l : Launch) {G : PH} {a b : Int32}  : Tri l mJ9_min_7cf53 0 0 [.int a, .int b] G (fun w G' => w = some (.int (imin a b)) ∧ G' = G) := by
  refine Tri.intro (L := [_, _]) okJ9_min_7cf53.1 (Nat.le_of_ble_eq_true rfl) rfl ?_
  refine P_iload_n dJ9_min_7cf53_0 rfl ?_
  refine P_iload_n dJ9_min_7cf53_1 rfl ?_
  refine P_icmp_gt (tgt := 9) dJ9_min_7cf53_2 (by decide) (fun c2 => ?_) (fun c2 => ?_)
  · refine P_iload_n dJ9_min_7cf53_9 rfl ?_
    exact P_iret dJ9_min_7cf53_10 rfl ⟨Nat.le_refl _, Nat.le_refl _⟩ ⟨by simp [imin, c2], rfl⟩
  · refine P_iload_n dJ9_min_7cf53_5 rfl ?_
    refine P_goto (tgt := 10) dJ9_min_7cf53_6 (by decide) ?_
    exact P_iret dJ9_min_7cf53_10 rfl ⟨Nat.le_refl _, Nat.le_refl _⟩ ⟨by simp [imin, c2], rfl⟩
theorem t_jmax (l : Launch) {G : PH} {a b : Int64}  : Tri l mJ9_max_f86c9 0 0 [.long a, .long b] G (fun w G' => w = some (.long (jmax a b)) ∧ G' = G) := by
  refine Tri.intro (L := [_, _, _, _]) okJ9_max_f86c9.1 (Nat.le_of_ble_eq_true rfl) rfl ?_
  refine P_lload_n dJ9_max_f86c9_0 rfl ?_
  refine P_lload_n dJ9_max_f86c9_1 rfl ?_
  refine P_lcmp dJ9_max_f86c9_2 ?_
  refine P_if_lt (tgt := 10) dJ9_max_f86c9_3 (by decide) (fun c3 => ?_) (fun c3 => ?_)
  · refine P_lload_n dJ9_max_f86c9_10 rfl ?_
    exact P_lret dJ9_max_f86c9_11 rfl ⟨Nat.le_refl _, Nat.le_refl _⟩ ⟨by rw [lg_cmp_lt] at c3; simp [jmax, c3], rfl⟩
  · refine P_lload_n dJ9_max_f86c9_6 rfl ?_
    refine P_goto (tgt := 11) dJ9_max_f86c9_7 (by decide) ?_
    exact P_lret dJ9_max_f86c9_11 rfl ⟨Nat.le_refl _, Nat.le_refl _⟩ ⟨by rw [lg_cmp_lt] at c3; simp [jmax, c3], rfl⟩
theorem t_jmin (l : Launch) {G : PH} {a b : Int64}  : Tri l mJ9_min_f86c9 0 0 [.long a, .long b] G (fun w G' => w = some (.long (jmin a b)) ∧ G' = G) := by
  refine Tri.intro (L := [_, _, _, _]) okJ9_min_f86c9.1 (Nat.le_of_ble_eq_true rfl) rfl ?_
  refine P_lload_n dJ9_min_f86c9_0 rfl ?_
  refine P_lload_n dJ9_min_f86c9_1 rfl ?_
  refine P_lcmp dJ9_min_f86c9_2 ?_
  refine P_if_gt (tgt := 10) dJ9_min_f86c9_3 (by decide) (fun c3 => ?_) (fun c3 => ?_)
  · refine P_lload_n dJ9_min_f86c9_10 rfl ?_
    exact P_lret dJ9_min_f86c9_11 rfl ⟨Nat.le_refl _, Nat.le_refl _⟩ ⟨by rw [lg_cmp_gt] at c3; simp [jmin, c3], rfl⟩
  · refine P_lload_n dJ9_min_f86c9_6 rfl ?_
    refine P_goto (tgt := 11) dJ9_min_f86c9_7 (by decide) ?_
    exact P_lret dJ9_min_f86c9_11 rfl ⟨Nat.le_refl _, Nat.le_refl _⟩ ⟨by rw [lg_cmp_gt] at c3; simp [jmin, c3], rfl⟩
theorem t_jabs (l : Launch) {G : PH} {a : Int64}  : Tri l mJ9_abs_067f4 0 0 [.long a] G (fun w G' => w = some (.long (jabs a)) ∧ G' = G) := by
  refine Tri.intro (L := [_, _]) okJ9_abs_067f4.1 (Nat.le_of_ble_eq_true rfl) rfl ?_
  refine P_lload_n dJ9_abs_067f4_0 rfl ?_
  refine P_lconst dJ9_abs_067f4_1 lc_0 ?_
  refine P_lcmp dJ9_abs_067f4_2 ?_
  refine P_if_ge (tgt := 11) dJ9_abs_067f4_3 (by decide) (fun c3 => ?_) (fun c3 => ?_)
  · refine P_lload_n dJ9_abs_067f4_11 rfl ?_
    exact P_lret dJ9_abs_067f4_12 rfl ⟨Nat.le_refl _, Nat.le_refl _⟩ ⟨by rw [lg_cmp_ge] at c3; first | simp [jabs, Int64.not_lt.mpr c3] | simp [jabs, Int64.not_le.mp c3], rfl⟩
  · refine P_lload_n dJ9_abs_067f4_6 rfl ?_
    refine P_lneg dJ9_abs_067f4_7 ?_
    refine P_goto (tgt := 12) dJ9_abs_067f4_8 (by decide) ?_
    exact P_lret dJ9_abs_067f4_12 rfl ⟨Nat.le_refl _, Nat.le_refl _⟩ ⟨by rw [lg_cmp_ge] at c3; first | simp [jabs, Int64.not_lt.mpr c3] | simp [jabs, Int64.not_le.mp c3], rfl⟩
theorem t_jfd (l : Launch) {G : PH} {a b : Int64} (hb : ¬ b = 0) : Tri l mJ9_floorDiv_f86c9 0 0 [.long a, .long b] G (fun w G' => w = some (.long (jfd a b)) ∧ G' = G) := by
  refine Tri.intro (L := [_, _, _, _, _, _]) okJ9_floorDiv_f86c9.1 (Nat.le_of_ble_eq_true rfl) rfl ?_
  refine P_lload_n dJ9_floorDiv_f86c9_0 rfl ?_
  refine P_lload_n dJ9_floorDiv_f86c9_1 rfl ?_
  refine P_ldiv dJ9_floorDiv_f86c9_2 hb ?_
  refine P_lstore (L' := [_, _, _, _, _, _]) dJ9_floorDiv_f86c9_3 (Nat.le_of_ble_eq_true rfl) rfl ?_
  refine P_lload_n dJ9_floorDiv_f86c9_5 rfl ?_
  refine P_lload_n dJ9_floorDiv_f86c9_6 rfl ?_
  refine P_lxor dJ9_floorDiv_f86c9_7 ?_
  refine P_lconst dJ9_floorDiv_f86c9_8 lc_0 ?_
  refine P_lcmp dJ9_floorDiv_f86c9_9 ?_
  refine P_if_ge (tgt := 27) dJ9_floorDiv_f86c9_10 (by decide) (fun c10 => ?_) (fun c10 => ?_)
  · refine P_lload dJ9_floorDiv_f86c9_27 rfl ?_
    exact P_lret dJ9_floorDiv_f86c9_29 rfl ⟨Nat.le_refl _, Nat.le_refl _⟩ ⟨by rw [lg_cmp_ge] at c10; first | simp [jfd, Int64.not_lt.mpr c10] | (rw [lg_cmp_eq] at c19; simp [jfd, Int64.not_le.mp c10, c19]), rfl⟩
  · refine P_lload dJ9_floorDiv_f86c9_13 rfl ?_
    refine P_lload_n dJ9_floorDiv_f86c9_15 rfl ?_
    refine P_lmul dJ9_floorDiv_f86c9_16 ?_
    refine P_lload_n dJ9_floorDiv_f86c9_17 rfl ?_
    refine P_lcmp dJ9_floorDiv_f86c9_18 ?_
    refine P_if_eq (tgt := 27) dJ9_floorDiv_f86c9_19 (by decide) (fun c19 => ?_) (fun c19 => ?_)
    · refine P_lload dJ9_floorDiv_f86c9_27 rfl ?_
      exact P_lret dJ9_floorDiv_f86c9_29 rfl ⟨Nat.le_refl _, Nat.le_refl _⟩ ⟨by rw [lg_cmp_ge] at c10; first | simp [jfd, Int64.not_lt.mpr c10] | (rw [lg_cmp_eq] at c19; simp [jfd, Int64.not_le.mp c10, c19]), rfl⟩
    · refine P_lload dJ9_floorDiv_f86c9_22 rfl ?_
      refine P_lconst dJ9_floorDiv_f86c9_24 lc_1 ?_
      refine P_lsub dJ9_floorDiv_f86c9_25 ?_
      exact P_lret dJ9_floorDiv_f86c9_26 rfl ⟨Nat.le_refl _, Nat.le_refl _⟩ ⟨by rw [lg_cmp_ge] at c10; first | simp [jfd, Int64.not_lt.mpr c10] | (rw [lg_cmp_eq] at c19; simp [jfd, Int64.not_le.mp c10, c19]), rfl⟩
theorem t_jfm (l : Launch) {G : PH} {a b : Int64} (hb : ¬ b = 0) : Tri l mJ9_floorMod_f86c9 0 0 [.long a, .long b] G (fun w G' => w = some (.long (jfm a b)) ∧ G' = G) := by
  refine Tri.intro (L := [_, _, _, _, _, _]) okJ9_floorMod_f86c9.1 (Nat.le_of_ble_eq_true rfl) rfl ?_
  refine P_lload_n dJ9_floorMod_f86c9_0 rfl ?_
  refine P_lload_n dJ9_floorMod_f86c9_1 rfl ?_
  refine P_lrem dJ9_floorMod_f86c9_2 hb ?_
  refine P_lstore (L' := [_, _, _, _, _, _]) dJ9_floorMod_f86c9_3 (Nat.le_of_ble_eq_true rfl) rfl ?_
  refine P_lload_n dJ9_floorMod_f86c9_5 rfl ?_
  refine P_lload_n dJ9_floorMod_f86c9_6 rfl ?_
  refine P_lxor dJ9_floorMod_f86c9_7 ?_
  refine P_lconst dJ9_floorMod_f86c9_8 lc_0 ?_
  refine P_lcmp dJ9_floorMod_f86c9_9 ?_
  refine P_if_ge (tgt := 25) dJ9_floorMod_f86c9_10 (by decide) (fun c10 => ?_) (fun c10 => ?_)
  · refine P_lload dJ9_floorMod_f86c9_25 rfl ?_
    exact P_lret dJ9_floorMod_f86c9_27 rfl ⟨Nat.le_refl _, Nat.le_refl _⟩ ⟨by rw [lg_cmp_ge] at c10; first | simp [jfm, Int64.not_lt.mpr c10] | (rw [lg_cmp_eq] at c17; simp [jfm, Int64.not_le.mp c10, c17]), rfl⟩
  · refine P_lload dJ9_floorMod_f86c9_13 rfl ?_
    refine P_lconst dJ9_floorMod_f86c9_15 lc_0 ?_
    refine P_lcmp dJ9_floorMod_f86c9_16 ?_
    refine P_if_eq (tgt := 25) dJ9_floorMod_f86c9_17 (by decide) (fun c17 => ?_) (fun c17 => ?_)
    · refine P_lload dJ9_floorMod_f86c9_25 rfl ?_
      exact P_lret dJ9_floorMod_f86c9_27 rfl ⟨Nat.le_refl _, Nat.le_refl _⟩ ⟨by rw [lg_cmp_ge] at c10; first | simp [jfm, Int64.not_lt.mpr c10] | (rw [lg_cmp_eq] at c17; simp [jfm, Int64.not_le.mp c10, c17]), rfl⟩
    · refine P_lload dJ9_floorMod_f86c9_20 rfl ?_
      refine P_lload_n dJ9_floorMod_f86c9_22 rfl ?_
      refine P_ladd dJ9_floorMod_f86c9_23 ?_
      exact P_lret dJ9_floorMod_f86c9_24 rfl ⟨Nat.le_refl _, Nat.le_refl _⟩ ⟨by rw [lg_cmp_ge] at c10; first | simp [jfm, Int64.not_lt.mpr c10] | (rw [lg_cmp_eq] at c17; simp [jfm, Int64.not_le.mp c10, c17]), rfl⟩
theorem t_ifm (l : Launch) {G : PH} {a b : Int32} (hb : ¬ b = 0) : Tri l mJ9_floorMod_7cf53 0 0 [.int a, .int b] G (fun w G' => w = some (.int (ifm a b)) ∧ G' = G) := by
  refine Tri.intro (L := [_, _, _]) okJ9_floorMod_7cf53.1 (Nat.le_of_ble_eq_true rfl) rfl ?_
  refine P_iload_n dJ9_floorMod_7cf53_0 rfl ?_
  refine P_iload_n dJ9_floorMod_7cf53_1 rfl ?_
  refine P_irem dJ9_floorMod_7cf53_2 hb ?_
  refine P_istore_n (L' := [_, _, _]) dJ9_floorMod_7cf53_3 (Nat.le_of_ble_eq_true rfl) rfl ?_
  refine P_iload_n dJ9_floorMod_7cf53_4 rfl ?_
  refine P_iload_n dJ9_floorMod_7cf53_5 rfl ?_
  refine P_ixor dJ9_floorMod_7cf53_6 ?_
  refine P_if_ge (tgt := 18) dJ9_floorMod_7cf53_7 (by decide) (fun c7 => ?_) (fun c7 => ?_)
  · refine P_iload_n dJ9_floorMod_7cf53_18 rfl ?_
    exact P_iret dJ9_floorMod_7cf53_19 rfl ⟨Nat.le_refl _, Nat.le_refl _⟩ ⟨by first | simp [ifm, Int32.not_lt.mpr c7] | simp [ifm, Int32.not_le.mp c7, c11], rfl⟩
  · refine P_iload_n dJ9_floorMod_7cf53_10 rfl ?_
    refine P_if_eq (tgt := 18) dJ9_floorMod_7cf53_11 (by decide) (fun c11 => ?_) (fun c11 => ?_)
    · refine P_iload_n dJ9_floorMod_7cf53_18 rfl ?_
      exact P_iret dJ9_floorMod_7cf53_19 rfl ⟨Nat.le_refl _, Nat.le_refl _⟩ ⟨by first | simp [ifm, Int32.not_lt.mpr c7] | simp [ifm, Int32.not_le.mp c7, c11], rfl⟩
    · refine P_iload_n dJ9_floorMod_7cf53_14 rfl ?_
      refine P_iload_n dJ9_floorMod_7cf53_15 rfl ?_
      refine P_iadd dJ9_floorMod_7cf53_16 ?_
      exact P_iret dJ9_floorMod_7cf53_17 rfl ⟨Nat.le_refl _, Nat.le_refl _⟩ ⟨by first | simp [ifm, Int32.not_lt.mpr c7] | simp [ifm, Int32.not_le.mp c7, c11], rfl⟩
/-! frames and cells -/
def Fr (G G' : PH) (a n : Nat) : Prop := G'.length = G.length ∧ ∀ x : Nat, x < a ∨ a + n ≤ x → G'[x]? = G[x]?
theorem Fr.rf {G : PH} {a n : Nat} : Fr G G a n := ⟨rfl, fun _ _ => rfl⟩
theorem Fr.tr {G G' G'' : PH} {a n : Nat} (h : Fr G G' a n) (h' : Fr G' G'' a n) : Fr G G'' a n := ⟨h'.1.trans h.1, fun x hx => (h'.2 x hx).trans (h.2 x hx)⟩
theorem Fr.wide {G G' : PH} {a n b m : Nat} (h : Fr G G' a n) (h1 : b ≤ a) (h2 : a + n ≤ b + m) : Fr G G' b m := ⟨h.1, fun x hx => h.2 x (by omega)⟩
theorem Fr.set {G : PH} {a n i : Nat} {c : PCell} (h1 : a ≤ i) (h2 : i < a + n) : Fr G (G.set i c) a n := ⟨List.length_set, fun x hx => List.getElem?_set_ne (by omega)⟩
theorem Fr.at {G G' : PH} {a n x : Nat} {c : PCell} (h : Fr G G' a n) (hG : G[x]? = some c) (hx : x < a ∨ a + n ≤ x) : G'[x]? = some c := (h.2 x hx).trans hG
theorem set_at {G : PH} {i : Nat} {c c' : PCell} (h : G[i]? = some c) : (G.set i c')[i]? = some c' := List.getElem?_set_self (List.getElem?_eq_some_iff.mp h).1
theorem set_ne {G : PH} {i j : Nat} {c c' : PCell} (h : G[j]? = some c) (hn : i ≠ j) : (G.set i c')[j]? = some c := (List.getElem?_set_ne hn).trans h
theorem idx_lt {r c R C : Nat} (hr : r < R) (hc : c < C) : r * C + c < R * C := by
  have h := Nat.mul_le_mul_right C (Nat.succ_le_of_lt hr)
  rw [Nat.succ_mul] at h
  omega
theorem idx_bd {R C : Nat} (h : R ≤ 32 ∧ C ≤ 32) : R * C ≤ 1024 := Nat.mul_le_mul h.1 h.2
abbrev oC (a : Nat) (R C : Nat) : PCell := .inr (1, [.ref a, .int (nI R), .int (nI C)])
abbrev aJ (n : Nat) (f : Nat → Int64) : PCell := .inl (1, n, .inr (.inl f))
abbrev aI (n : Nat) (f : Nat → Int32) : PCell := .inl (0, n, .inl f)
/-- a Cells object at h, its row behind it -/
def cells (G : PH) (h R C : Nat) (f : Nat → Int64) : Prop := G[h]? = some (oC (h + 1) R C) ∧ G[h + 1]? = some (aJ (R * C) f) ∧ R ≤ 32 ∧ C ≤ 32
theorem cells.fr {G G' : PH} {h R C a n : Nat} {f : Nat → Int64} (k : cells G h R C f) (hF : Fr G G' a n) (hd : h + 2 ≤ a ∨ a + n ≤ h) : cells G' h R C f := ⟨hF.at k.1 (by omega), hF.at k.2.1 (by omega), k.2.2⟩
theorem cells.put {G : PH} {h R C : Nat} {f f' : Nat → Int64} (k : cells G h R C f) : cells (G.set (h + 1) (aJ (R * C) f')) h R C f' := ⟨set_ne k.1 (by omega), set_at k.2.1, k.2.2⟩
theorem t_at (l : Launch) {G : PH} {h R C r c : Nat} {f : Nat → Int64} (k : cells G h R C f) (hr : r < R) (hc : c < C) : Tri l mX1_at 0 0 [.ref h, .int (nI r), .int (nI c)] G (fun w G' => w = some (.long (f (r * C + c))) ∧ G' = G) := by
  have hR := k.2.2.1; have hC := k.2.2.2; have hi := idx_lt hr hc; have hb := idx_bd k.2.2
  refine Tri.intro (L := [_, _, _]) okX1_at.1 (Nat.le_of_ble_eq_true rfl) rfl ?_
  refine P_iload_n dX1_at_0 rfl ?_
  refine P_if_lt (tgt := 24) dX1_at_1 (by decide) (fun c1 => ?_) (fun c1 => ?_)
  · exact absurd c1 (nI_pos (by omega))
  · refine P_iload_n dX1_at_4 rfl ?_
    refine P_aload_n dX1_at_5 rfl ?_
    refine P_get dX1_at_6 flX1_13 k.1 rfl ?_
    refine P_icmp_ge (tgt := 24) dX1_at_9 (by decide) (fun c9 => ?_) (fun c9 => ?_)
    · exact absurd c9 (nI_ge hr (by omega))
    · refine P_iload_n dX1_at_12 rfl ?_
      refine P_if_lt (tgt := 24) dX1_at_13 (by decide) (fun c13 => ?_) (fun c13 => ?_)
      · exact absurd c13 (nI_pos (by omega))
      · refine P_iload_n dX1_at_16 rfl ?_
        refine P_aload_n dX1_at_17 rfl ?_
        refine P_get dX1_at_18 flX1_19 k.1 rfl ?_
        refine P_icmp_lt (tgt := 26) dX1_at_21 (by decide) (fun c21 => ?_) (fun c21 => ?_)
        · refine P_aload_n dX1_at_26 rfl ?_
          refine P_get dX1_at_27 flX1_22 k.1 rfl ?_
          refine P_iload_n dX1_at_30 rfl ?_
          refine P_aload_n dX1_at_31 rfl ?_
          refine P_get dX1_at_32 flX1_19 k.1 rfl ?_
          refine P_imul dX1_at_35 ?_
          refine P_iload_n dX1_at_36 rfl ?_
          refine P_iadd dX1_at_37 ?_
          rw [pk_mul, nI_add]
          refine P_lald dX1_at_38 k.2.1 (vp_in_nI hi (by omega)) ?_
          rw [nI_clamp (by omega)]
          exact P_lret dX1_at_39 rfl ⟨Nat.le_refl _, Nat.le_refl _⟩ ⟨rfl, rfl⟩
        · exact absurd (nI_lt hc (by omega)) c21
theorem t_put (l : Launch) {G : PH} {h R C r c : Nat} {f : Nat → Int64} {v : Int64} (k : cells G h R C f) (hr : r < R) (hc : c < C) : Tri l mX1_put 0 0 [.ref h, .int (nI r), .int (nI c), .long v] G (fun w G' => w = none ∧ cells G' h R C (vp_updL f (r * C + c) v) ∧ Fr G G' h 2) := by
  have hR := k.2.2.1; have hC := k.2.2.2; have hi := idx_lt hr hc; have hb := idx_bd k.2.2
  refine Tri.intro (L := [_, _, _, _, _]) okX1_put.1 (Nat.le_of_ble_eq_true rfl) rfl ?_
  refine P_iload_n dX1_put_0 rfl ?_
  refine P_if_lt (tgt := 24) dX1_put_1 (by decide) (fun c1 => ?_) (fun c1 => ?_)
  · exact absurd c1 (nI_pos (by omega))
  · refine P_iload_n dX1_put_4 rfl ?_
    refine P_aload_n dX1_put_5 rfl ?_
    refine P_get dX1_put_6 flX1_13 k.1 rfl ?_
    refine P_icmp_ge (tgt := 24) dX1_put_9 (by decide) (fun c9 => ?_) (fun c9 => ?_)
    · exact absurd c9 (nI_ge hr (by omega))
    · refine P_iload_n dX1_put_12 rfl ?_
      refine P_if_lt (tgt := 24) dX1_put_13 (by decide) (fun c13 => ?_) (fun c13 => ?_)
      · exact absurd c13 (nI_pos (by omega))
      · refine P_iload_n dX1_put_16 rfl ?_
        refine P_aload_n dX1_put_17 rfl ?_
        refine P_get dX1_put_18 flX1_19 k.1 rfl ?_
        refine P_icmp_lt (tgt := 25) dX1_put_21 (by decide) (fun c21 => ?_) (fun c21 => ?_)
        · refine P_aload_n dX1_put_25 rfl ?_
          refine P_get dX1_put_26 flX1_22 k.1 rfl ?_
          refine P_iload_n dX1_put_29 rfl ?_
          refine P_aload_n dX1_put_30 rfl ?_
          refine P_get dX1_put_31 flX1_19 k.1 rfl ?_
          refine P_imul dX1_put_34 ?_
          refine P_iload_n dX1_put_35 rfl ?_
          refine P_iadd dX1_put_36 ?_
          refine P_lload_n dX1_put_37 rfl ?_
          rw [pk_mul, nI_add]
          refine P_last dX1_put_38 k.2.1 (vp_in_nI hi (by omega)) ?_
          rw [nI_clamp (by omega)]
          exact P_vret dX1_put_39 rfl ⟨Nat.le_refl _, Nat.le_refl _⟩ ⟨rfl, k.put, Fr.set (by omega) (by omega)⟩
        · exact absurd (nI_lt hc (by omega)) c21
theorem lp_clearRow (l : Launch) {G0 : PH} {h R C r : Nat} {f : Nat → Int64} (hr : r < R) (hb : R ≤ 32 ∧ C ≤ 32) : ∀ (n : Nat) (G : PH) (f1 : Nat → Int64) (c : Nat), c ≤ C → C - c = n → cells G h R C f1 → (∀ j, j < c → f1 (r * C + j) = 0) → (∀ j, j < r * C ∨ (r + 1) * C ≤ j → f1 j = f j) → Fr G0 G h 2 →
    WP mX1_clearRow l (rmM mX1_clearRow 0 0) (ZM 0 0 (fun w G' => w = none ∧ ∃ f', cells G' h R C f' ∧ (∀ j, j < C → f' (r * C + j) = 0) ∧ (∀ j, j < r * C ∨ (r + 1) * C ≤ j → f' j = f j) ∧ Fr G0 G' h 2)) XT 0 0 2 [some (.ref h), some (.int (nI r)), some (.int (nI c))] [] G := by
  intro n
  induction n with
  | zero =>
    intro G f1 c hle hn kk hz ho hF
    have hcc : c = C := by omega
    subst hcc
    refine P_iload_n dX1_clearRow_2 rfl ?_
    refine P_aload_n dX1_clearRow_3 rfl ?_
    refine P_get dX1_clearRow_4 flX1_19 kk.1 rfl ?_
    refine P_icmp_ge (tgt := 23) dX1_clearRow_7 (by decide) (fun c7 => ?_) (fun c7 => ?_)
    · exact P_vret dX1_clearRow_23 rfl ⟨Nat.le_refl _, Nat.le_refl _⟩ ⟨rfl, f1, kk, hz, ho, hF⟩
    · exact absurd (nI_le (Nat.le_refl c) (by omega)) c7
  | succ n ih =>
    intro G f1 c hle hn kk hz ho hF
    refine P_iload_n dX1_clearRow_2 rfl ?_
    refine P_aload_n dX1_clearRow_3 rfl ?_
    refine P_get dX1_clearRow_4 flX1_19 kk.1 rfl ?_
    refine P_icmp_ge (tgt := 23) dX1_clearRow_7 (by decide) (fun c7 => ?_) (fun c7 => ?_)
    · have hcc : c = C := Nat.le_antisymm hle (Nat.not_lt.mp fun q => nI_ge q (by omega) c7)
      subst hcc
      exact P_vret dX1_clearRow_23 rfl ⟨Nat.le_refl _, Nat.le_refl _⟩ ⟨rfl, f1, kk, hz, ho, hF⟩
    · have hc : c < C := Nat.not_le.mp fun q => c7 (nI_le q (by omega))
      refine P_aload_n dX1_clearRow_10 rfl ?_
      refine P_iload_n dX1_clearRow_11 rfl ?_
      refine P_iload_n dX1_clearRow_12 rfl ?_
      refine P_lconst dX1_clearRow_13 lc_0 ?_
      refine P_callV dX1_clearRow_14 lkX1_26 okX1_put ⟨Nat.le_of_ble_eq_true rfl, Nat.le_of_ble_eq_true rfl⟩ (t_put l kk hr hc) rfl rfl kk.1 (Nat.le_of_ble_eq_true rfl) ⟨Nat.le_of_ble_eq_true rfl, Nat.le_of_ble_eq_true rfl⟩ (fun v14 G14 q14 => ?_)
      obtain ⟨rfl, kk, hF1⟩ := q14
      refine P_iinc (L' := [_, _, _]) dX1_clearRow_17 rfl (ii_1 _) (Nat.le_of_ble_eq_true rfl) rfl ?_
      rw [nI_1]
      refine P_goto (tgt := 2) dX1_clearRow_20 (by decide) ?_
      exact ih G14 _ (c + 1) (by omega) (by omega) kk (fun j hj => by by_cases e : j = c; subst e; simp [vp_updL]; simp [vp_updL]; intro e2; exact hz j (by omega)) (fun j hj => by rw [show vp_updL f1 (r * C + c) 0 j = f1 j from if_neg (by rcases hj with hj | hj; omega; rw [Nat.succ_mul] at hj; omega)]; exact ho j hj) (hF.tr hF1)
theorem t_clearRow (l : Launch) {G : PH} {h R C r : Nat} {f : Nat → Int64} (k : cells G h R C f) (hr : r < R) : Tri l mX1_clearRow 0 0 [.ref h, .int (nI r)] G (fun w G' => w = none ∧ ∃ f', cells G' h R C f' ∧ (∀ j, j < C → f' (r * C + j) = 0) ∧ (∀ j, j < r * C ∨ (r + 1) * C ≤ j → f' j = f j) ∧ Fr G G' h 2) := by
  refine Tri.intro (L := [_, _, _]) okX1_clearRow.1 (Nat.le_of_ble_eq_true rfl) rfl ?_
  refine P_iconst dX1_clearRow_0 ci_0 ?_
  refine P_istore_n (L' := [_, _, _]) dX1_clearRow_1 (Nat.le_of_ble_eq_true rfl) rfl ?_
  exact lp_clearRow l hr k.2.2 C G f 0 (Nat.zero_le _) rfl k (fun j hj => absurd hj (Nat.not_lt_zero _)) (fun _ _ => rfl) Fr.rf
theorem t_copyCells (l : Launch) {G : PH} {h h' R C : Nat} {f g : Nat → Int64} (k : cells G h R C f) (k' : cells G h' R C g) : Tri l mX1_copyFrom 0 0 [.ref h, .ref h'] G (fun w G' => w = none ∧ ∃ f', cells G' h R C f' ∧ (∀ j, j < R * C → f' j = g j) ∧ Fr G G' h 2) := by
  have hb := idx_bd k.2.2
  refine Tri.intro (L := [_, _, _]) okX1_copyFrom.1 (Nat.le_of_ble_eq_true rfl) rfl ?_
  refine P_aload_n dX1_copyFrom_0 rfl ?_
  refine P_get dX1_copyFrom_1 flX1_22 k.1 rfl ?_
  refine P_alen (v := nI (R * C)) dX1_copyFrom_4 k.2.1 (fun _ => rfl) rfl ?_
  refine P_aload_n dX1_copyFrom_5 rfl ?_
  refine P_get dX1_copyFrom_6 flX1_22 k'.1 rfl ?_
  refine P_alen (v := nI (R * C)) dX1_copyFrom_9 k'.2.1 (fun _ => rfl) rfl ?_
  refine P_callSp dX1_copyFrom_10 lkX1_30 okJ9_min_7cf53 ⟨Nat.le_of_ble_eq_true rfl, Nat.le_of_ble_eq_true rfl⟩ (t_imin l) rfl rfl (Nat.le_of_ble_eq_true rfl) ⟨Nat.le_of_ble_eq_true rfl, Nat.le_of_ble_eq_true rfl⟩ ?_
  have e9 : imin (nI (R * C)) (nI (R * C)) = nI (R * C) := by simp [imin]
  rw [e9]
  refine P_istore_n (L' := [_, _, _]) dX1_copyFrom_13 (Nat.le_of_ble_eq_true rfl) rfl ?_
  refine P_aload_n dX1_copyFrom_14 rfl ?_
  refine P_get dX1_copyFrom_15 flX1_22 k'.1 rfl ?_
  refine P_iconst dX1_copyFrom_18 ci_0 ?_
  refine P_aload_n dX1_copyFrom_19 rfl ?_
  refine P_get dX1_copyFrom_20 flX1_22 k.1 rfl ?_
  refine P_iconst dX1_copyFrom_23 ci_0 ?_
  refine P_iload_n dX1_copyFrom_24 rfl ?_
  refine P_copyl dX1_copyFrom_25 lkX1_33 k'.2.1 k.2.1 (by decide) (by decide) (nI_pos (by omega)) (by rw [nI_clamp (by omega)]; exact Nat.le_of_eq (Nat.zero_add _)) (by rw [nI_clamp (by omega)]; exact Nat.le_of_eq (Nat.zero_add _)) ⟨Nat.le_of_ble_eq_true rfl, Nat.le_of_ble_eq_true rfl⟩ ?_
  exact P_vret dX1_copyFrom_28 rfl ⟨Nat.le_refl _, Nat.le_refl _⟩ ⟨rfl, _, k.put, fun j hj => by rw [nI_clamp (by omega)]; simp [va_cpy]; omega, Fr.set (by omega) (by omega)⟩
