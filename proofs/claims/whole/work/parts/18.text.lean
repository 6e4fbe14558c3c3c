/-! THE TEXT: letters, blanks, numbers -/
def lt0 (n : Nat) (tx : Nat → Int32) (p : Nat) : Int32 := if p < n then tx p else -1
def skF (n : Nat) (tx : Nat → Int32) : Nat → Nat → Nat
  | 0, p => p
  | f + 1, p => if p < n ∧ tx p = 32 then skF n tx f (p + 1) else p
def skp (n : Nat) (tx : Nat → Int32) (p : Nat) : Nat := skF n tx (n - p) p
theorem skp_y {n : Nat} {tx : Nat → Int32} {p : Nat} (h : p < n) (hb : tx p = 32) : skp n tx p = skp n tx (p + 1) := by
  unfold skp
  obtain ⟨f, hf⟩ : ∃ f, n - p = f + 1 := ⟨n - p - 1, by omega⟩
  rw [hf, show n - (p + 1) = f by omega]
  show (if p < n ∧ tx p = 32 then skF n tx f (p + 1) else p) = _
  rw [if_pos ⟨h, hb⟩]
theorem skp_n {n : Nat} {tx : Nat → Int32} {p : Nat} (h : ¬ (p < n ∧ tx p = 32)) : skp n tx p = p := by
  unfold skp
  cases n - p with
  | zero => rfl
  | succ f => show (if p < n ∧ tx p = 32 then skF n tx f (p + 1) else p) = _; rw [if_neg h]
theorem skp_sp (n : Nat) (tx : Nat → Int32) : ∀ (f p : Nat), n - p ≤ f → p ≤ skp n tx p ∧ (p ≤ n → skp n tx p ≤ n) ∧ ¬ (skp n tx p < n ∧ tx (skp n tx p) = 32)
  | 0, p, h => by
    rw [skp_n (by omega)]
    exact ⟨Nat.le_refl _, id, by omega⟩
  | f + 1, p, h => by
    by_cases e : p < n ∧ tx p = 32
    · rw [skp_y e.1 e.2]
      have := skp_sp n tx f (p + 1) (by omega)
      exact ⟨by omega, fun _ => this.2.1 (by omega), this.2.2⟩
    · rw [skp_n e]
      exact ⟨Nat.le_refl _, id, e⟩
theorem skp_ge (n : Nat) (tx : Nat → Int32) (p : Nat) : p ≤ skp n tx p := (skp_sp n tx _ p (Nat.le_refl _)).1
theorem skp_le {n : Nat} {tx : Nat → Int32} {p : Nat} (h : p ≤ n) : skp n tx p ≤ n := (skp_sp n tx _ p (Nat.le_refl _)).2.1 h
theorem skp_id (n : Nat) (tx : Nat → Int32) (p : Nat) : skp n tx (skp n tx p) = skp n tx p := skp_n (skp_sp n tx _ p (Nat.le_refl _)).2.2
abbrev figP (c : Int32) : Prop := ¬ c < 48 ∧ ¬ 57 < c
theorem fig_lt {n : Nat} {tx : Nat → Int32} {p : Nat} (h : figP (lt0 n tx p)) : p < n := by
  by_cases e : p < n
  · exact e
  · unfold lt0 at h; rw [if_neg e] at h; exact absurd h (by decide)
/-- figures from q on, at most m -/
def cnt (n : Nat) (tx : Nat → Int32) : Nat → Nat → Nat
  | 0, _ => 0
  | m + 1, q => if figP (lt0 n tx q) then cnt n tx m (q + 1) + 1 else 0
theorem cnt_eq {n : Nat} {tx : Nat → Int32} : ∀ (m q i : Nat), (∀ j, j < i → figP (lt0 n tx (q + j))) → (i = m ∨ i < m ∧ ¬ figP (lt0 n tx (q + i))) → cnt n tx m q = i
  | 0, q, i, h, h2 => by rcases h2 with rfl | h2; rfl; omega
  | m + 1, q, 0, h, h2 => by
    rcases h2 with h2 | h2
    · omega
    · show (if figP (lt0 n tx q) then _ else 0) = 0; rw [if_neg (show ¬ figP (lt0 n tx q) from h2.2)]
  | m + 1, q, i + 1, h, h2 => by
    show (if figP (lt0 n tx q) then cnt n tx m (q + 1) + 1 else 0) = i + 1
    rw [if_pos (show figP (lt0 n tx q) from h 0 (by omega)), cnt_eq m (q + 1) i (fun j hj => by have := h (j + 1) (by omega); rwa [show q + 1 + j = q + (j + 1) by omega]) (by rcases h2 with h2 | h2; left; omega; right; refine ⟨by omega, ?_⟩; rw [show q + 1 + i = q + (i + 1) by omega]; exact h2.2)]
/-- the value of i figures -/
def vlF (tx : Nat → Int32) (q : Nat) : Nat → Int32
  | 0 => 0
  | i + 1 => 10 * vlF tx q i + tx (q + i) - 48
abbrev PS : Type := (Nat × Nat) ⊕ Nat
def num (n : Nat) (tx : Nat → Int32) (a b : Int32) (p : Nat) : (Nat × Nat) ⊕ (Int32 × Nat × Nat) :=
  if cnt n tx 5 (skp n tx p) = 0 then .inl (1, skp n tx p)
  else if cnt n tx 5 (skp n tx p) = 5 then .inl (2, skp n tx p + 4)
  else if vlF tx (skp n tx p) (cnt n tx 5 (skp n tx p)) < a ∨ b < vlF tx (skp n tx p) (cnt n tx 5 (skp n tx p)) then .inl (2, skp n tx p)
  else .inr (vlF tx (skp n tx p) (cnt n tx 5 (skp n tx p)), skp n tx p, skp n tx p + cnt n tx 5 (skp n tx p))
def numS (n : Nat) (tx : Nat → Int32) (a b : Int32) : PS → (Nat × Nat) ⊕ (Int32 × Nat × Nat)
  | .inl e => .inl e
  | .inr p => num n tx a b p
def st3 : (Nat × Nat) ⊕ (Int32 × Nat × Nat) → PS
  | .inl e => .inl e
  | .inr q => .inr q.2.2
def st2 : (Nat × Nat) ⊕ (Int32 × Nat) → PS
  | .inl e => .inl e
  | .inr q => .inr q.2
def clS (n : Nat) (tx : Nat → Int32) : PS → PS
  | .inl e => .inl e
  | .inr p => if lt0 n tx (skp n tx p) = 59 then .inr (skp n tx p + 1) else .inl (1, skp n tx p)
def prS (n : Nat) (tx : Nat → Int32) (room : Int32) (σ : PS) : (Nat × Nat) ⊕ (Int32 × Nat) := match numS n tx 1 4 σ with
  | .inl e => .inl e
  | .inr (v, s, q) => if room < v then .inl (4, s) else .inr (v, q)
def blS (n : Nat) (tx : Nat → Int32) (b : Int32) : PS → (Nat × Nat) ⊕ (Int32 × Nat)
  | .inl e => .inl e
  | .inr p => if lt0 n tx (skp n tx p) = 45 then .inr (-1, skp n tx p + 1) else match num n tx 0 b p with
    | .inl e => .inl e
    | .inr (v, _, q) => .inr (v, q)
theorem num_skp (n : Nat) (tx : Nat → Int32) (a b : Int32) (p : Nat) : num n tx a b (skp n tx p) = num n tx a b p := by unfold num; rw [skp_id]
theorem num_le {n : Nat} {tx : Nat → Int32} {a b : Int32} {p : Nat} {v : Int32} {s q : Nat} (h : num n tx a b p = .inr (v, s, q)) : ¬ v < a ∧ ¬ b < v ∧ p < q ∧ s < q ∧ p ≤ s := by
  unfold num at h
  split at h
  · cases h
  · rename_i h0
    split at h
    · cases h
    · split at h
      · cases h
      · rename_i h2
        cases h
        have := skp_ge n tx p
        exact ⟨fun z => h2 (Or.inl z), fun z => h2 (Or.inr z), by omega, by omega, this⟩
/-! the Text object -/
abbrev oT (h n p : Nat) (fn fp tt td : Int32) : PCell := .inr (8, [.ref (h + 1), .int (nI n), .int (nI p), .int fn, .int fp, .int tt, .int td])
def txt (G : PH) (h n : Nat) (tx : Nat → Int32) (p : Nat) (fn fp tt td : Int32) : Prop := G[h]? = some (oT h n p fn fp tt td) ∧ G[h + 1]? = some (aI 200 tx) ∧ n ≤ 200 ∧ p ≤ n
theorem txt.fr {G G' : PH} {h n p a m : Nat} {tx : Nat → Int32} {fn fp tt td : Int32} (k : txt G h n tx p fn fp tt td) (hF : Fr G G' a m) (hd : h + 2 ≤ a ∨ a + m ≤ h) : txt G' h n tx p fn fp tt td := ⟨hF.at k.1 (by omega), hF.at k.2.1 (by omega), k.2.2⟩
theorem txt.set {G : PH} {h n p p' : Nat} {tx : Nat → Int32} {fn fp tt td fn' fp' tt' td' : Int32} (k : txt G h n tx p fn fp tt td) (hp : p' ≤ n) : txt (G.set h (oT h n p' fn' fp' tt' td')) h n tx p' fn' fp' tt' td' ∧ Fr G (G.set h (oT h n p' fn' fp' tt' td')) h 1 := ⟨⟨set_at k.1, set_ne k.2.1 (by omega), k.2.2.1, hp⟩, Fr.set (by omega) (by omega)⟩
/-- sound at a place, or at fault -/
def tS (G : PH) (h n : Nat) (tx : Nat → Int32) (σ : PS) (tt td : Int32) : Prop := ∃ p fn fp, txt G h n tx p fn fp tt td ∧ match σ with
  | .inl e => fn = nI e.1 ∧ 1 ≤ e.1 ∧ e.1 ≤ 4 ∧ fp = nI e.2
  | .inr p' => fn = 0 ∧ fp = -1 ∧ p = p'
theorem tS.fr {G G' : PH} {h n a m : Nat} {tx : Nat → Int32} {σ : PS} {tt td : Int32} (k : tS G h n tx σ tt td) (hF : Fr G G' a m) (hd : h + 2 ≤ a ∨ a + m ≤ h) : tS G' h n tx σ tt td := by
  obtain ⟨p, fn, fp, h1, h2⟩ := k
  exact ⟨p, fn, fp, h1.fr hF hd, h2⟩
theorem tS.at {G : PH} {h n : Nat} {tx : Nat → Int32} {σ : PS} {tt td : Int32} (k : tS G h n tx σ tt td) : ∃ fs, G[h]? = some (.inr (8, fs)) := by
  obtain ⟨p, fn, fp, h1, h2⟩ := k
  exact ⟨_, h1.1⟩
theorem t_outOf (l : Launch) {G : PH} {v a b : Int32}  : Tri l mX9_outOf 0 0 [.int v, .int a, .int b] G (fun w G' => w = some (.int (if v < a ∨ b < v then 1 else 0)) ∧ G' = G) := by
  refine Tri.intro (L := [_, _, _]) okX9_outOf.1 (Nat.le_of_ble_eq_true rfl) rfl ?_
  refine P_iload_n dX9_outOf_0 rfl ?_
  refine P_iload_n dX9_outOf_1 rfl ?_
  refine P_icmp_lt (tgt := 10) dX9_outOf_2 (by decide) (fun c2 => ?_) (fun c2 => ?_)
  · refine P_iconst dX9_outOf_10 ci_1 ?_
    refine P_goto (tgt := 15) dX9_outOf_11 (by decide) ?_
    exact P_zret dX9_outOf_15 rfl ⟨Nat.le_refl _, Nat.le_refl _⟩ (by first | exact Or.inl rfl | exact Or.inr rfl) ⟨by first | (simp [c2]; done) | (simp [c2]; done) | (simp [c2, c7]; done), rfl⟩
  · refine P_iload_n dX9_outOf_5 rfl ?_
    refine P_iload_n dX9_outOf_6 rfl ?_
    refine P_icmp_le (tgt := 14) dX9_outOf_7 (by decide) (fun c7 => ?_) (fun c7 => ?_)
    · refine P_iconst dX9_outOf_14 ci_0 ?_
      exact P_zret dX9_outOf_15 rfl ⟨Nat.le_refl _, Nat.le_refl _⟩ (by first | exact Or.inl rfl | exact Or.inr rfl) ⟨by first | (simp [c2]; done) | (simp [c2]; done) | (simp [c2, c7]; done), rfl⟩
    · refine P_iconst dX9_outOf_10 ci_1 ?_
      refine P_goto (tgt := 15) dX9_outOf_11 (by decide) ?_
      exact P_zret dX9_outOf_15 rfl ⟨Nat.le_refl _, Nat.le_refl _⟩ (by first | exact Or.inl rfl | exact Or.inr rfl) ⟨by first | (simp [c2]; done) | (simp [c2]; done) | (simp [c2, c7]; done), rfl⟩
theorem t_isFigure (l : Launch) {G : PH} {c : Int32}  : Tri l mX8_isFigure 0 0 [.int c] G (fun w G' => w = some (.int (if figP c then 1 else 0)) ∧ G' = G) := by
  refine Tri.intro (L := [_]) okX8_isFigure.1 (Nat.le_of_ble_eq_true rfl) rfl ?_
  refine P_iload_n dX8_isFigure_0 rfl ?_
  refine P_bipush dX8_isFigure_1 bp_48 ?_
  refine P_icmp_lt (tgt := 16) dX8_isFigure_3 (by decide) (fun c3 => ?_) (fun c3 => ?_)
  · refine P_iconst dX8_isFigure_16 ci_0 ?_
    exact P_zret dX8_isFigure_17 rfl ⟨Nat.le_refl _, Nat.le_refl _⟩ (by first | exact Or.inl rfl | exact Or.inr rfl) ⟨by first | (simp [figP, c3]; done) | (simp [figP, c3, c9]; done), rfl⟩
  · refine P_iload_n dX8_isFigure_6 rfl ?_
    refine P_bipush dX8_isFigure_7 bp_57 ?_
    refine P_icmp_gt (tgt := 16) dX8_isFigure_9 (by decide) (fun c9 => ?_) (fun c9 => ?_)
    · refine P_iconst dX8_isFigure_16 ci_0 ?_
      exact P_zret dX8_isFigure_17 rfl ⟨Nat.le_refl _, Nat.le_refl _⟩ (by first | exact Or.inl rfl | exact Or.inr rfl) ⟨by first | (simp [figP, c3]; done) | (simp [figP, c3, c9]; done), rfl⟩
    · refine P_iconst dX8_isFigure_12 ci_1 ?_
      refine P_goto (tgt := 17) dX8_isFigure_13 (by decide) ?_
      exact P_zret dX8_isFigure_17 rfl ⟨Nat.le_refl _, Nat.le_refl _⟩ (by first | exact Or.inl rfl | exact Or.inr rfl) ⟨by first | (simp [figP, c3]; done) | (simp [figP, c3, c9]; done), rfl⟩
theorem t_isSound (l : Launch) {G : PH} {h n p : Nat} {tx : Nat → Int32} {fn fp tt td : Int32} (k : txt G h n tx p fn fp tt td) : Tri l mX8_isSound 0 0 [.ref h] G (fun w G' => w = some (.int (if fn = 0 then 1 else 0)) ∧ G' = G) := by
  refine Tri.intro (L := [_]) okX8_isSound.1 (Nat.le_of_ble_eq_true rfl) rfl ?_
  refine P_aload_n dX8_isSound_0 rfl ?_
  refine P_get dX8_isSound_1 flX8_22 k.1 rfl ?_
  refine P_if_ne (tgt := 11) dX8_isSound_4 (by decide) (fun c4 => ?_) (fun c4 => ?_)
  · refine P_iconst dX8_isSound_11 ci_0 ?_
    exact P_zret dX8_isSound_12 rfl ⟨Nat.le_refl _, Nat.le_refl _⟩ (by first | exact Or.inl rfl | exact Or.inr rfl) ⟨by simp [c4], rfl⟩
  · refine P_iconst dX8_isSound_7 ci_1 ?_
    refine P_goto (tgt := 12) dX8_isSound_8 (by decide) ?_
    exact P_zret dX8_isSound_12 rfl ⟨Nat.le_refl _, Nat.le_refl _⟩ (by first | exact Or.inl rfl | exact Or.inr rfl) ⟨by simp [c4], rfl⟩
theorem t_fail (l : Launch) {G : PH} {h n p : Nat} {tx : Nat → Int32} {fn fp tt td : Int32} {a b : Int32} (k : txt G h n tx p fn fp tt td) : Tri l mX8_fail 0 0 [.ref h, .int a, .int b] G (fun w G' => w = none ∧ txt G' h n tx p (if fn = 0 then a else fn) (if fn = 0 then b else fp) tt td ∧ Fr G G' h 1) := by
  refine Tri.intro (L := [_, _, _]) okX8_fail.1 (Nat.le_of_ble_eq_true rfl) rfl ?_
  refine P_aload_n dX8_fail_0 rfl ?_
  refine P_get dX8_fail_1 flX8_22 k.1 rfl ?_
  refine P_if_ne (tgt := 17) dX8_fail_4 (by decide) (fun c4 => ?_) (fun c4 => ?_)
  · exact P_vret dX8_fail_17 rfl ⟨Nat.le_refl _, Nat.le_refl _⟩ (by first | exact ⟨rfl, by rw [if_neg c4, if_neg c4]; exact k, Fr.rf⟩ | exact ⟨rfl, by rw [if_pos (Classical.not_not.mp c4), if_pos (Classical.not_not.mp c4)]; exact ⟨set_at (set_at k.1), set_ne (set_ne k.2.1 (by omega)) (by omega), k.2.2⟩, (Fr.set (by omega) (by omega)).tr (Fr.set (by omega) (by omega))⟩ | exact ⟨rfl, by rw [if_pos c4, if_pos c4]; exact ⟨set_at (set_at k.1), set_ne (set_ne k.2.1 (by omega)) (by omega), k.2.2⟩, (Fr.set (by omega) (by omega)).tr (Fr.set (by omega) (by omega))⟩)
  · refine P_aload_n dX8_fail_7 rfl ?_
    refine P_iload_n dX8_fail_8 rfl ?_
    refine P_putI dX8_fail_9 flX8_22 k.1 (Nat.le_of_ble_eq_true rfl) ?_
    refine P_aload_n dX8_fail_12 rfl ?_
    refine P_iload_n dX8_fail_13 rfl ?_
    refine P_putI dX8_fail_14 flX8_25 (set_at k.1) (Nat.le_of_ble_eq_true rfl) ?_
    exact P_vret dX8_fail_17 rfl ⟨Nat.le_refl _, Nat.le_refl _⟩ (by first | exact ⟨rfl, by rw [if_neg c4, if_neg c4]; exact k, Fr.rf⟩ | exact ⟨rfl, by rw [if_pos (Classical.not_not.mp c4), if_pos (Classical.not_not.mp c4)]; exact ⟨set_at (set_at k.1), set_ne (set_ne k.2.1 (by omega)) (by omega), k.2.2⟩, (Fr.set (by omega) (by omega)).tr (Fr.set (by omega) (by omega))⟩ | exact ⟨rfl, by rw [if_pos c4, if_pos c4]; exact ⟨set_at (set_at k.1), set_ne (set_ne k.2.1 (by omega)) (by omega), k.2.2⟩, (Fr.set (by omega) (by omega)).tr (Fr.set (by omega) (by omega))⟩)
theorem t_letter (l : Launch) {G : PH} {h n p : Nat} {tx : Nat → Int32} {fn fp tt td : Int32} (k : txt G h n tx p fn fp tt td) : Tri l mX8_letterHere 0 0 [.ref h] G (fun w G' => w = some (.int (lt0 n tx p)) ∧ G' = G) := by
  have h200 := k.2.2.1; have hpn := k.2.2.2
  refine Tri.intro (L := [_]) okX8_letterHere.1 (Nat.le_of_ble_eq_true rfl) rfl ?_
  refine P_aload_n dX8_letterHere_0 rfl ?_
  refine P_get dX8_letterHere_1 flX8_19 k.1 rfl ?_
  refine P_if_lt (tgt := 42) dX8_letterHere_4 (by decide) (fun c4 => ?_) (fun c4 => ?_)
  · exact absurd c4 (nI_pos (by omega))
  · refine P_aload_n dX8_letterHere_7 rfl ?_
    refine P_get dX8_letterHere_8 flX8_19 k.1 rfl ?_
    refine P_aload_n dX8_letterHere_11 rfl ?_
    refine P_get dX8_letterHere_12 flX8_15 k.1 rfl ?_
    refine P_icmp_ge (tgt := 42) dX8_letterHere_15 (by decide) (fun c15 => ?_) (fun c15 => ?_)
    · have e : ¬ p < n := fun q => nI_ge q (by omega) c15
      refine P_iconst dX8_letterHere_42 ci_m1 ?_
      exact P_iret dX8_letterHere_43 rfl ⟨Nat.le_refl _, Nat.le_refl _⟩ ⟨by simp [lt0, e], rfl⟩
    · refine P_aload_n dX8_letterHere_18 rfl ?_
      refine P_get dX8_letterHere_19 flX8_19 k.1 rfl ?_
      refine P_aload_n dX8_letterHere_22 rfl ?_
      refine P_get dX8_letterHere_23 flX8_9 k.1 rfl ?_
      refine P_alen (v := nI 200) dX8_letterHere_26 k.2.1 (fun _ => rfl) rfl ?_
      refine P_icmp_ge (tgt := 42) dX8_letterHere_27 (by decide) (fun c27 => ?_) (fun c27 => ?_)
      · have e : p < n := Nat.not_le.mp fun q => c15 (nI_le q (by omega))
        exact absurd c27 (nI_ge (by omega) (by decide))
      · have e : p < n := Nat.not_le.mp fun q => c15 (nI_le q (by omega))
        refine P_aload_n dX8_letterHere_30 rfl ?_
        refine P_get dX8_letterHere_31 flX8_9 k.1 rfl ?_
        refine P_aload_n dX8_letterHere_34 rfl ?_
        refine P_get dX8_letterHere_35 flX8_19 k.1 rfl ?_
        refine P_iald dX8_letterHere_38 k.2.1 (vp_in_nI (by omega) (by omega)) ?_
        rw [nI_clamp (by omega)]
        refine P_goto (tgt := 43) dX8_letterHere_39 (by decide) ?_
        exact P_iret dX8_letterHere_43 rfl ⟨Nat.le_refl _, Nat.le_refl _⟩ ⟨by simp [lt0, e], rfl⟩
theorem b2p (c : Prop) [Decidable c] : ((if c then (1 : Int32) else 0) = 0) ↔ ¬ c := by by_cases h : c <;> simp [h]
set_option maxRecDepth 100000 in
theorem lp_skip (l : Launch) {G0 : PH} {h n : Nat} {tx : Nat → Int32} {fn fp tt td : Int32} {p0 : Nat} : ∀ (m : Nat) (G : PH) (p : Nat), n - p < m → txt G h n tx p fn fp tt td → skp n tx p = skp n tx p0 → Fr G0 G h 1 → WP mX8_skipBlanks l (rmM mX8_skipBlanks 0 0) (ZM 0 0 (fun w G' => w = none ∧ txt G' h n tx (skp n tx p0) fn fp tt td ∧ Fr G0 G' h 1)) XT 0 0 0 [some (.ref h)] [] G := by
  intro m
  induction m with
  | zero => intro G  p hn k e hF; exact absurd hn (Nat.not_lt_zero _)
  | succ m ih =>
    intro G  p hn k e hF
    have h200 := k.2.2.1; have hpn := k.2.2.2
    refine P_aload_n dX8_skipBlanks_0 rfl ?_
    refine P_get dX8_skipBlanks_1 flX8_19 k.1 rfl ?_
    refine P_if_lt (tgt := 57) dX8_skipBlanks_4 (by decide) (fun c4 => ?_) (fun c4 => ?_)
    · exact absurd c4 (nI_pos (by omega))
    · refine P_aload_n dX8_skipBlanks_7 rfl ?_
      refine P_get dX8_skipBlanks_8 flX8_19 k.1 rfl ?_
      refine P_aload_n dX8_skipBlanks_11 rfl ?_
      refine P_get dX8_skipBlanks_12 flX8_15 k.1 rfl ?_
      refine P_icmp_ge (tgt := 57) dX8_skipBlanks_15 (by decide) (fun c15 => ?_) (fun c15 => ?_)
      · have e1 : ¬ p < n := fun q => nI_ge q (by omega) c15
        have e2 := skp_n (n := n) (tx := tx) (p := p) (by omega)
        exact P_vret dX8_skipBlanks_57 rfl ⟨Nat.le_refl _, Nat.le_refl _⟩ ⟨rfl, by rw [← e, e2]; exact k, hF⟩
      · refine P_aload_n dX8_skipBlanks_18 rfl ?_
        refine P_get dX8_skipBlanks_19 flX8_19 k.1 rfl ?_
        refine P_aload_n dX8_skipBlanks_22 rfl ?_
        refine P_get dX8_skipBlanks_23 flX8_9 k.1 rfl ?_
        refine P_alen (v := nI 200) dX8_skipBlanks_26 k.2.1 (fun _ => rfl) rfl ?_
        refine P_icmp_ge (tgt := 57) dX8_skipBlanks_27 (by decide) (fun c27 => ?_) (fun c27 => ?_)
        · have e1 : p < n := Nat.not_le.mp fun q => c15 (nI_le q (by omega))
          exact absurd c27 (nI_ge (by omega) (by decide))
        · have e1 : p < n := Nat.not_le.mp fun q => c15 (nI_le q (by omega))
          refine P_aload_n dX8_skipBlanks_30 rfl ?_
          refine P_get dX8_skipBlanks_31 flX8_9 k.1 rfl ?_
          refine P_aload_n dX8_skipBlanks_34 rfl ?_
          refine P_get dX8_skipBlanks_35 flX8_19 k.1 rfl ?_
          refine P_iald dX8_skipBlanks_38 k.2.1 (vp_in_nI (by omega) (by omega)) ?_
          rw [nI_clamp (by omega)]
          refine P_bipush dX8_skipBlanks_39 bp_32 ?_
          refine P_icmp_ne (tgt := 57) dX8_skipBlanks_41 (by decide) (fun c41 => ?_) (fun c41 => ?_)
          · have e2 := skp_n (n := n) (tx := tx) (p := p) (fun q => c41 q.2)
            exact P_vret dX8_skipBlanks_57 rfl ⟨Nat.le_refl _, Nat.le_refl _⟩ ⟨rfl, by rw [← e, e2]; exact k, hF⟩
          · refine P_aload_n dX8_skipBlanks_44 rfl ?_
            refine P_dup dX8_skipBlanks_45 rfl ?_
            refine P_get dX8_skipBlanks_46 flX8_19 k.1 rfl ?_
            refine P_iconst dX8_skipBlanks_49 ci_1 ?_
            refine P_iadd dX8_skipBlanks_50 ?_
            rw [nI_1]
            refine P_putI dX8_skipBlanks_51 flX8_19 k.1 (Nat.le_of_ble_eq_true rfl) ?_
            refine P_goto (tgt := 0) dX8_skipBlanks_54 (by decide) ?_
            have hs := k.set (p' := p + 1) (fn' := fn) (fp' := fp) (tt' := tt) (td' := td) (by omega)
            exact ih _ (p + 1) (by omega) hs.1 (by rw [← e]; exact (skp_y e1 c41).symm) (hF.tr hs.2)
theorem t_skip (l : Launch) {G : PH} {h n p : Nat} {tx : Nat → Int32} {fn fp tt td : Int32} (k : txt G h n tx p fn fp tt td) : Tri l mX8_skipBlanks 0 0 [.ref h] G (fun w G' => w = none ∧ txt G' h n tx (skp n tx p) fn fp tt td ∧ Fr G G' h 1) := by
  refine Tri.intro (L := [_]) okX8_skipBlanks.1 (Nat.le_of_ble_eq_true rfl) rfl ?_
  exact lp_skip l (n + 1) G p (by omega) k rfl Fr.rf
