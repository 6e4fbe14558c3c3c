theorem ap_at1 {A B : PH} {x y : PCell} : (A ++ x :: y :: B)[A.length + 1]? = some y := by
  rw [List.getElem?_append_right (by omega), show A.length + 1 - A.length = 1 by omega]; rfl
theorem ap_set1 {A B : PH} {x y z : PCell} : (A ++ x :: y :: B).set (A.length + 1) z = A ++ x :: z :: B := by
  rw [List.set_append_right _ _ (by omega), show A.length + 1 - A.length = 1 by omega]; rfl
/-- rivers one after another -/
def nRs (h : Nat) : Nat → PH
  | 0 => []
  | i + 1 => nRs h i ++ nRv (h + 7 * i)
theorem nRs_len (h : Nat) : ∀ i, (nRs h i).length = 7 * i
  | 0 => rfl
  | i + 1 => by show (nRs h i ++ nRv (h + 7 * i)).length = _; rw [List.length_append, nRs_len h i]; show 7 * i + 7 = _; omega
def nFs (h i : Nat) : Nat → Option Nat := fun j => if j < i then some (h + 7 * j) else none
theorem nFs_up {h i : Nat} : va_up (nFs h i) i (some (h + 7 * i)) = nFs h (i + 1) := by
  funext j
  unfold va_up nFs
  by_cases e : j = i
  · subst e; rw [if_pos rfl, if_pos (by omega)]
  · rw [if_neg e]
    by_cases g : j < i
    · rw [if_pos g, if_pos (by omega)]
    · rw [if_neg g, if_neg (by omega)]
def nPs (h : Nat) : PH := .inr (5, [.ref (h + 1), .int 0, .int 0]) :: aQ 3 16 (nFs (h + 2) 16) :: nRs (h + 2) 16
