/-! The river as a value: T, D, N; features, SIDE, SEEN by reach -/
abbrev Riv : Type := (Nat × Nat × Nat) × (Nat → Nat → Int32) × (Nat → Nat → Int32) × (Nat → Nat → Int32)
abbrev rT (ρ : Riv) : Nat := ρ.1.1
abbrev rD (ρ : Riv) : Nat := ρ.1.2.1
abbrev rN (ρ : Riv) : Nat := ρ.1.2.2
abbrev rF (ρ : Riv) : Nat → Nat → Int32 := ρ.2.1
abbrev rS (ρ : Riv) : Nat → Nat → Int32 := ρ.2.2.1
abbrev rE (ρ : Riv) : Nat → Nat → Int32 := ρ.2.2.2
def up2 (f : Nat → Nat → Int32) (r t : Nat) (v : Int32) : Nat → Nat → Int32 := fun a b => if a = r ∧ b = t then v else f a b
theorem up2_s {f : Nat → Nat → Int32} {r t : Nat} {v : Int32} : up2 f r t v r t = v := if_pos ⟨rfl, rfl⟩
theorem up2_n {f : Nat → Nat → Int32} {r t a b : Nat} {v : Int32} (h : ¬ (a = r ∧ b = t)) : up2 f r t v a b = f a b := if_neg h
def rvT (ρ : Riv) (t : Nat) : Riv := ((t, rD ρ, rN ρ), ρ.2)
def rvD (ρ : Riv) (d : Nat) : Riv := ((rT ρ, d, rN ρ), ρ.2)
def rvN (ρ : Riv) (n : Nat) : Riv := ((rT ρ, rD ρ, n), ρ.2)
def rvW (ρ : Riv) (r : Nat) (k x : Int32) : Riv := (ρ.1, up2 (up2 (rF ρ) r 1 k) r 2 x, rS ρ, rE ρ)
def rvS (ρ : Riv) (r t : Nat) (v : Int32) : Riv := (ρ.1, rF ρ, up2 (rS ρ) r t v, rE ρ)
def rvE (ρ : Riv) (r t : Nat) (v : Int32) : Riv := (ρ.1, rF ρ, rS ρ, up2 (rE ρ) r t v)
/-- a REACH comes -/
def rvA (ρ : Riv) (b k x q : Int32) : Riv := ((rT ρ, rD ρ, rN ρ + 1), up2 (up2 (up2 (up2 (rF ρ) (rN ρ) 0 b) (rN ρ) 3 q) (rN ρ) 1 k) (rN ρ) 2 x, (fun a c => if a = rN ρ then 0 else rS ρ a c), (fun a c => if a = rN ρ then 0 else rE ρ a c))
def wA (d k x : Int32) : Int32 := 10 * d - k * x
def wB (d k x : Int32) : Int32 := 10 * d + k * x
def wC (d k x : Int32) : Int32 := 20 * k - k * x - 10 * d
def wM (d k x : Int32) : Int32 := 20 * k - k * x + 10 * d
abbrev lawP (d k x : Int32) : Prop := ¬ wA d k x < 0 ∧ ¬ wC d k x < 0
abbrev lawR (ρ : Riv) (r : Nat) : Prop := lawP (nI (rD ρ)) (rF ρ r 1) (rF ρ r 2)
def lawC (ρ : Riv) : Nat → Int32
  | 0 => 0
  | n + 1 => lawC ρ n + (if lawR ρ n then 1 else 0)
def pSum (ρ : Riv) : Nat → Int32
  | 0 => 0
  | n + 1 => pSum ρ n + rF ρ n 3
abbrev inN (r : Int32) (n : Nat) : Prop := ¬ r < 0 ∧ ¬ nI n ≤ r
theorem inN_of {r : Int32} {n : Nat} (h : inN r n) (hn : n < 2 ^ 31) : ∃ j : Nat, j < n ∧ r = nI j := by
  obtain ⟨j, hj, rfl⟩ := nI_of h.1
  exact ⟨j, Nat.not_le.mp fun q => h.2 (nI_le q hj), rfl⟩
theorem inN_nI {j n : Nat} (h : j < n) (hn : n < 2 ^ 31) : inN (nI j) n := ⟨nI_pos (by omega), nI_ge h hn⟩
/-! the river in the heap -/
abbrev oR (h T D N : Nat) : PCell := .inr (6, [.ref (h + 1), .ref (h + 3), .ref (h + 5), .int (nI T), .int (nI D), .int (nI N)])
def riv0 (G : PH) (h T D N : Nat) (f1 f2 f3 : Nat → Int64) : Prop := G[h]? = some (oR h T D N) ∧ cells G (h + 1) 6 4 f1 ∧ cells G (h + 3) 6 24 f2 ∧ cells G (h + 5) 6 24 f3
def rAgr (ρ : Riv) (f1 f2 f3 : Nat → Int64) : Prop := ∀ r, r < rN ρ → (∀ i, i < 4 → f1 (r * 4 + i) = (rF ρ r i).toInt64) ∧ ∀ t, t < 24 → f2 (r * 24 + t) = (rS ρ r t).toInt64 ∧ f3 (r * 24 + t) = (rE ρ r t).toInt64
def rBd (ρ : Riv) : Prop := 2 ≤ rT ρ ∧ rT ρ ≤ 24 ∧ 1 ≤ rD ρ ∧ rD ρ ≤ 9 ∧ rN ρ ≤ 6
def isRiver (G : PH) (h : Nat) (ρ : Riv) : Prop := ∃ f1 f2 f3, riv0 G h (rT ρ) (rD ρ) (rN ρ) f1 f2 f3 ∧ rAgr ρ f1 f2 f3 ∧ rBd ρ
theorem riv0.fr {G G' : PH} {h T D N a n : Nat} {f1 f2 f3 : Nat → Int64} (k : riv0 G h T D N f1 f2 f3) (hF : Fr G G' a n) (hd : h + 7 ≤ a ∨ a + n ≤ h) : riv0 G' h T D N f1 f2 f3 :=
  ⟨hF.at k.1 (by omega), k.2.1.fr hF (by omega), k.2.2.1.fr hF (by omega), k.2.2.2.fr hF (by omega)⟩
theorem isRiver.fr {G G' : PH} {h a n : Nat} {ρ : Riv} (k : isRiver G h ρ) (hF : Fr G G' a n) (hd : h + 7 ≤ a ∨ a + n ≤ h) : isRiver G' h ρ := by
  obtain ⟨f1, f2, f3, k1, k2⟩ := k
  exact ⟨f1, f2, f3, k1.fr hF hd, k2⟩
theorem isRiver.bd {G : PH} {h : Nat} {ρ : Riv} (k : isRiver G h ρ) : rBd ρ := by obtain ⟨_, _, _, _, _, b⟩ := k; exact b
theorem isRiver.at {G : PH} {h : Nat} {ρ : Riv} (k : isRiver G h ρ) : G[h]? = some (oR h (rT ρ) (rD ρ) (rN ρ)) := by obtain ⟨_, _, _, k, _⟩ := k; exact k.1
theorem i64_32 (x : Int32) : x.toInt64.toInt32 = x := by
  apply Int32.toInt_inj.mp
  rw [Int64.toInt_toInt32, Int32.toInt_toInt64]
  exact Int32.toInt_bmod_size x
