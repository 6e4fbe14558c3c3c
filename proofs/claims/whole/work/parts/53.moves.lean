/-! a clause that is read moves on -/
theorem skp_u {n : Nat} {tx : Nat → Int32} : ∀ (f p : Nat), p ≤ skF n tx f p
  | 0, _ => Nat.le_refl _
  | f + 1, p => by
    show p ≤ if p < n ∧ tx p = 32 then skF n tx f (p + 1) else p
    split
    · have := skp_u (n := n) (tx := tx) f (p + 1); omega
    · exact Nat.le_refl _
theorem skp_v (n : Nat) (tx : Nat → Int32) (p : Nat) : p ≤ skp n tx p := skp_u _ _
theorem num_v {n : Nat} {tx : Nat → Int32} {a b : Int32} {p : Nat} {v : Int32} {s q : Nat} (h : num n tx a b p = .inr (v, s, q)) : p ≤ q := by
  have hs := skp_v n tx p
  unfold num at h
  split at h
  · cases h
  · split at h
    · cases h
    · split at h
      · cases h
      · cases h; omega
theorem sdS_v {n : Nat} {tx : Nat → Int32} {r : Nat} : ∀ (f t p : Nat) (ρ : Riv) (q : Nat), (sdS n tx r f t (.inr p) ρ).1 = .inr q → p ≤ q
  | 0, _, p, _, q, h => by cases h; exact Nat.le_refl _
  | f + 1, t, p, ρ, q, h => by
    simp only [sdS] at h
    split at h
    · cases h; exact skp_v n tx p
    · split at h
      · cases h
      · split at h
        · cases h
        · rename_i v s q1 e
          have h1 := num_v e
          have h2 := sdS_v f (t + 1) q1 _ q h
          omega
theorem clS_v {n : Nat} {tx : Nat → Int32} {s : PS} {q : Nat} (h : clS n tx s = .inr q) : ∃ p, s = .inr p ∧ p < q ∧ q ≤ n := by
  obtain ⟨p, e1, e2, e3⟩ := clS_r h
  have h1 := skp_v n tx p
  have h2 : skp n tx p < n := Classical.byContradiction fun z => by rw [show lt0 n tx (skp n tx p) = -1 from if_neg z] at e2; exact absurd e2 (by decide)
  exact ⟨p, e1, by omega, by omega⟩
theorem cla_v {n : Nat} {tx : Nat → Int32} {p : Nat} {ρ : Riv} {tt td : Bool} {c : CS} (hc : cla n tx p ρ tt td = .inr c) : p < c.1 ∧ c.1 ≤ n := by
  unfold cla at hc
  split at hc
  · unfold clT at hc
    split at hc
    · cases hc
    · cases e : clS n tx (st3 (num n tx 2 24 (p + 1))) with
      | inl e1 => rw [e] at hc; cases hc
      | inr q =>
        rw [e] at hc; cases hc
        obtain ⟨p1, e1, h1, h2⟩ := clS_v e
        obtain ⟨s, e2⟩ := st3_r e1
        have := num_v e2
        exact ⟨by show p < q; omega, h2⟩
  · split at hc
    · unfold clD at hc
      split at hc
      · cases hc
      · cases e : clS n tx (st3 (num n tx 1 9 (p + 1))) with
        | inl e1 => rw [e] at hc; cases hc
        | inr q =>
          rw [e] at hc; cases hc
          obtain ⟨p1, e1, h1, h2⟩ := clS_v e
          obtain ⟨s, e2⟩ := st3_r e1
          have := num_v e2
          exact ⟨by show p < q; omega, h2⟩
    · split at hc
      · unfold clR at hc
        split at hc
        · cases hc
        · cases e : clS n tx (st2 (rcQ n tx p ρ)) with
          | inl e1 => rw [e] at hc; cases hc
          | inr q =>
            rw [e] at hc; cases hc
            obtain ⟨p1, e1, h1, h2⟩ := clS_v e
            obtain ⟨s, e2, -⟩ := prS_r (st2_r e1)
            obtain ⟨p2, e3, e4⟩ := numS_r e2
            have g1 := num_v e4
            obtain ⟨s2, e6⟩ := st3_r e3
            obtain ⟨p3, e7, e8⟩ := numS_r e6
            have g2 := num_v e8
            obtain ⟨s3, f1⟩ := st3_r e7
            obtain ⟨p4, f2, f3⟩ := numS_r f1
            have g3 := num_v f3
            have f5 := st2_r f2
            have g4 : p + 1 ≤ p4 := by
              by_cases g : lt0 n tx (skp n tx (p + 1)) = 45
              · have e9 : rcB n tx p ρ = .inr (-1, skp n tx (p + 1) + 1) := if_pos g
                rw [e9] at f5; cases f5
                have := skp_v n tx (p + 1); omega
              · obtain ⟨s9, e9⟩ := (rcB_no (ρ := ρ) g).2 _ _ f5
                exact num_v e9
            exact ⟨by show p < q; omega, h2⟩
      · split at hc
        · unfold clX at hc
          cases e : clS n tx (sdR n tx p ρ).1 with
          | inl e1 => rw [e] at hc; cases hc
          | inr q =>
            rw [e] at hc; cases hc
            obtain ⟨p1, e1, h1, h2⟩ := clS_v e
            cases hn : num n tx 0 (nI (rN ρ) - 1) (p + 1) with
            | inl e2 => unfold sdR at e1; rw [hn] at e1; cases e1
            | inr y =>
              obtain ⟨v, s, q1⟩ := y
              unfold sdR at e1
              rw [hn] at e1
              have g1 := num_v hn
              have g2 := sdS_v _ _ _ _ _ e1
              exact ⟨by show p < q; omega, h2⟩
        · cases hc
