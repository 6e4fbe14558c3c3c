/-! no letter of the text is -1 -/
def sTx (σ : Sg) : Prop := ∀ i, i < gN σ → ¬ gX σ i = -1
theorem sTx.of {σ τ : Sg} (h : sTx σ) (e : τ.2.1 = σ.2.1) : sTx τ := by unfold sTx gN gX at *; rw [e]; exact h
theorem xFeed {σ : Sg} (h : sTx σ) (c : Int32) : sTx (spFeed σ c).2 := by
  unfold spFeed
  split
  · exact h
  · rename_i hc
    split
    · intro i hi
      have hi : i < gN σ + 1 := hi
      show ¬ upd (gX σ) (gN σ) c i = -1
      by_cases e : i = gN σ
      · rw [e, upd_a]
        intro z
        rw [z] at hc
        exact hc (Or.inl (by decide))
      · rw [upd_n e]; exact h i (by omega)
    · exact h
theorem xRiver (σ : Sg) : sTx (spRiver σ).2 := by
  unfold spRiver
  split
  · exact fun i hi => absurd hi (Nat.not_lt_zero _)
  · exact fun i hi => absurd hi (Nat.not_lt_zero _)
theorem xTimes (σ : Sg) (t : Int32) : (spTimes σ t).2.2.1 = σ.2.1 := by unfold spTimes; split <;> rfl
theorem xStep (σ : Sg) (t : Int32) : (spStep σ t).2.2.1 = σ.2.1 := by unfold spStep; split <;> rfl
theorem xReach (σ : Sg) (b k x q : Int32) : (spReach σ b k x q).2.2.1 = σ.2.1 := by unfold spReach; split <;> (try split) <;> (try split) <;> rfl
theorem xChange (σ : Sg) (r k x : Int32) : (spChange σ r k x).2.2.1 = σ.2.1 := by unfold spChange; split <;> (try split) <;> rfl
theorem xSide (σ : Sg) (r t v : Int32) : (spSide σ r t v).2.2.1 = σ.2.1 := by unfold spSide; split <;> (try split) <;> rfl
theorem xSeen (σ : Sg) (r t v : Int32) : (spSeen σ r t v).2.2.1 = σ.2.1 := by unfold spSeen; split <;> (try split) <;> rfl
theorem xShow (σ : Sg) (r : Int32) : (spShow σ r).2.2.1 = σ.2.1 := by unfold spShow; split <;> rfl
theorem xTake (σ : Sg) : (spTake σ).2.2.1 = σ.2.1 := by unfold spTake; split <;> rfl
theorem xDr1 (σ : Sg) : (dr1 σ).2.1 = σ.2.1 := by
  by_cases h0 : rN (gR σ) = 0
  · rw [show dr1 σ = σ from if_pos h0]
  · obtain ⟨a, b, c, ea, eb, ec, -, -, -⟩ := nx3 (gS σ)
    rw [dr1_eq h0 ea eb ec]; rfl
theorem xDrN (σ : Sg) : ∀ n, (drN σ n).2.1 = σ.2.1
  | 0 => rfl
  | n + 1 => (xDr1 (drN σ n)).trans (xDrN σ n)
theorem xDrift (σ : Sg) (n : Int32) : (spDrift σ n).2.2.1 = σ.2.1 := by
  unfold spDrift
  split
  · rfl
  · exact xDrN σ _
theorem xUndo (σ : Sg) (n : Int32) : (spUndo σ n).2.2.1 = σ.2.1 := by unfold spUndo; split <;> (try split) <;> rfl
theorem xWrite (σ : Sg) (r t : Int32) (v : Int64) : (spWrite σ r t v).2.2.1 = σ.2.1 := by unfold spWrite; split <;> (try split) <;> rfl
theorem xTear (σ : Sg) : (spTear σ).2.2.1 = σ.2.1 := rfl
theorem xSeed (σ : Sg) (v : Int32) : (spSeed σ v).2.2.1 = σ.2.1 := by unfold spSeed; split <;> rfl
theorem xKeep (σ : Sg) (i : Int32) : (spKeep σ i).2.2.1 = σ.2.1 := by unfold spKeep; split <;> rfl
theorem xBack (σ : Sg) (i : Int32) : (spBack σ i).2.2.1 = σ.2.1 := by unfold spBack; split <;> (try split) <;> rfl
/-! the first state -/
def sg0 : Sg := (rZ, (0, fun _ => 0, -1), (0, fun _ => (0, 0, 0)), (0, fun _ => rZ), 0, fun _ => none)
theorem sVal_0 : sVal sg0 := ⟨sOk_Z, by decide, by decide, by decide, fun j hj => absurd hj (Nat.not_lt_zero _), by decide, fun i q h => by cases h⟩
theorem sTx_0 : sTx sg0 := fun i hi => absurd hi (Nat.not_lt_zero _)
