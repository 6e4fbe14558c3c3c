/-! The state as a value: river; text (letters, their number, place of the fault); book; past; seed; images -/
abbrev Sg : Type := Riv × (Nat × (Nat → Int32) × Int32) × (Nat × Bk) × (Nat × (Nat → Riv)) × Nat × (Nat → Option (Riv × Nat))
abbrev gR (σ : Sg) : Riv := σ.1
abbrev gN (σ : Sg) : Nat := σ.2.1.1
abbrev gX (σ : Sg) : Nat → Int32 := σ.2.1.2.1
abbrev gF (σ : Sg) : Int32 := σ.2.1.2.2
abbrev gC (σ : Sg) : Nat := σ.2.2.1.1
abbrev gB (σ : Sg) : Bk := σ.2.2.1.2
abbrev gP (σ : Sg) : Nat := σ.2.2.2.1.1
abbrev gQ (σ : Sg) : Nat → Riv := σ.2.2.2.1.2
abbrev gS (σ : Sg) : Nat := σ.2.2.2.2.1
abbrev gI (σ : Sg) : Nat → Option (Riv × Nat) := σ.2.2.2.2.2
def sgR (σ : Sg) (ρ : Riv) : Sg := (ρ, σ.2)
def sgT (σ : Sg) (n : Nat) (tx : Nat → Int32) (f : Int32) : Sg := (σ.1, (n, tx, f), σ.2.2)
def sgB (σ : Sg) (c : Nat) (b : Bk) : Sg := (σ.1, σ.2.1, (c, b), σ.2.2.2)
def sgP (σ : Sg) (c : Nat) (q : Nat → Riv) : Sg := (σ.1, σ.2.1, σ.2.2.1, (c, q), σ.2.2.2.2)
def sgS (σ : Sg) (s : Nat) : Sg := (σ.1, σ.2.1, σ.2.2.1, σ.2.2.2.1, s, gI σ)
def sgI (σ : Sg) (i : Nat) (o : Option (Riv × Nat)) : Sg := (σ.1, σ.2.1, σ.2.2.1, σ.2.2.2.1, gS σ, fun j => if j = i then o else gI σ j)
/-- a deed: what was is remembered -/
def deed (σ : Sg) (ρ : Riv) : Sg := sgR (sgP σ (min 16 (gP σ + 1)) (psA (gQ σ) (gR σ))) ρ
/-- what holds of every state -/
def sOk (ρ : Riv) : Prop := rBd ρ ∧ rVal ρ
def sVal (σ : Sg) : Prop := sOk (gR σ) ∧ gN σ ≤ 200 ∧ gC σ ≤ 20 ∧ gP σ ≤ 16 ∧ (∀ j, j < gP σ → sOk (gQ σ j)) ∧ gS σ < 2 ^ 31 ∧ ∀ i q, gI σ i = some q → sOk q.1 ∧ q.2 < 2 ^ 31
/-! the object of the class, at 0 .. 163 -/
abbrev o9 (f : Int32) : PCell := .inr (9, [.ref 1, .ref 8, .ref 15, .ref 26, .ref 27, .ref 29, .ref 32, .ref 146, .ref 147, .int f])
def Cls (G : PH) (σ : Sg) : Prop := G[0]? = some (o9 (gF σ)) ∧ isRiver G 1 (gR σ) ∧ (∃ ρ, isRiver G 8 ρ) ∧ (∃ T D fi fo fs fl fh, rout G 15 T D fi fo fs fl fh) ∧ (∃ k x d, G[26]? = some (oB k x d)) ∧ (∃ p fn fp tt td, txw G 27 (gN σ) (gX σ) p fn fp tt td) ∧ isBook G 29 (gC σ) (gB σ) ∧ isPast G 32 (gP σ) (gQ σ) ∧ G[146]? = some (oW (gS σ)) ∧ (∃ f, G[147]? = some (aQ 4 2 f) ∧ f 0 = some 148 ∧ f 1 = some 156) ∧ isImage G 148 (gI σ 0) ∧ isImage G 156 (gI σ 1)
theorem Cls.frs {G G' : PH} {σ : Sg} (k : Cls G σ) {a n : Nat} (hF : Fr G G' a n) :
    (0 < a ∨ a + n ≤ 0 → G'[0]? = some (o9 (gF σ))) ∧ (8 ≤ a ∨ a + n ≤ 1 → isRiver G' 1 (gR σ)) ∧ (15 ≤ a ∨ a + n ≤ 8 → ∃ ρ, isRiver G' 8 ρ) ∧ (26 ≤ a ∨ a + n ≤ 15 → ∃ T D fi fo fs fl fh, rout G' 15 T D fi fo fs fl fh) ∧ (26 < a ∨ a + n ≤ 26 → ∃ k x d, G'[26]? = some (oB k x d)) ∧ (29 ≤ a ∨ a + n ≤ 27 → ∃ p fn fp tt td, txw G' 27 (gN σ) (gX σ) p fn fp tt td) ∧ (32 ≤ a ∨ a + n ≤ 29 → isBook G' 29 (gC σ) (gB σ)) ∧ (146 ≤ a ∨ a + n ≤ 32 → isPast G' 32 (gP σ) (gQ σ)) ∧ (146 < a ∨ a + n ≤ 146 → G'[146]? = some (oW (gS σ))) ∧ (147 < a ∨ a + n ≤ 147 → ∃ f, G'[147]? = some (aQ 4 2 f) ∧ f 0 = some 148 ∧ f 1 = some 156) ∧ (156 ≤ a ∨ a + n ≤ 148 → isImage G' 148 (gI σ 0)) ∧ (164 ≤ a ∨ a + n ≤ 156 → isImage G' 156 (gI σ 1)) := by
  obtain ⟨k0, k1, ⟨r2, k2⟩, ⟨T, D, fi, fo, fs, fl, fh, k3⟩, ⟨a1, a2, a3, k4⟩, ⟨b1, b2, b3, b4, b5, k5⟩, k6, k7, k8, ⟨f, k9, e0, e1⟩, k10, k11⟩ := k
  exact ⟨fun h => hF.at k0 (by omega), fun h => k1.fr hF (by omega), fun h => ⟨r2, k2.fr hF (by omega)⟩, fun h => ⟨T, D, fi, fo, fs, fl, fh, k3.fr hF (by omega)⟩, fun h => ⟨a1, a2, a3, hF.at k4 (by omega)⟩, fun h => ⟨b1, b2, b3, b4, b5, k5.fr hF (by omega)⟩, fun h => k6.fr hF (by omega), fun h => k7.fr hF (by omega), fun h => hF.at k8 (by omega), fun h => ⟨f, hF.at k9 (by omega), e0, e1⟩, fun h => k10.fr hF (by omega), fun h => k11.fr hF (by omega)⟩
theorem Cls.now {G G' : PH} {σ : Sg} (k : Cls G σ) {ρ : Riv} (hF : Fr G G' 1 7) (h : isRiver G' 1 ρ) : Cls G' (sgR σ ρ) := by
  have hF9 := k.frs hF
  exact ⟨(hF9.1 (by omega)), h, (hF9.2.2.1 (by omega)), (hF9.2.2.2.1 (by omega)), (hF9.2.2.2.2.1 (by omega)), (hF9.2.2.2.2.2.1 (by omega)), (hF9.2.2.2.2.2.2.1 (by omega)), (hF9.2.2.2.2.2.2.2.1 (by omega)), (hF9.2.2.2.2.2.2.2.2.1 (by omega)), (hF9.2.2.2.2.2.2.2.2.2.1 (by omega)), (hF9.2.2.2.2.2.2.2.2.2.2.1 (by omega)), (hF9.2.2.2.2.2.2.2.2.2.2.2 (by omega))⟩
theorem Cls.oth {G G' : PH} {σ : Sg} (k : Cls G σ) (hF : Fr G G' 8 7) (h : ∃ ρ, isRiver G' 8 ρ) : Cls G' σ := by
  have hF9 := k.frs hF
  exact ⟨(hF9.1 (by omega)), (hF9.2.1 (by omega)), h, (hF9.2.2.2.1 (by omega)), (hF9.2.2.2.2.1 (by omega)), (hF9.2.2.2.2.2.1 (by omega)), (hF9.2.2.2.2.2.2.1 (by omega)), (hF9.2.2.2.2.2.2.2.1 (by omega)), (hF9.2.2.2.2.2.2.2.2.1 (by omega)), (hF9.2.2.2.2.2.2.2.2.2.1 (by omega)), (hF9.2.2.2.2.2.2.2.2.2.2.1 (by omega)), (hF9.2.2.2.2.2.2.2.2.2.2.2 (by omega))⟩
theorem Cls.rtg {G G' : PH} {σ : Sg} (k : Cls G σ) (hF : Fr G G' 15 11) (h : ∃ T D fi fo fs fl fh, rout G' 15 T D fi fo fs fl fh) : Cls G' σ := by
  have hF9 := k.frs hF
  exact ⟨(hF9.1 (by omega)), (hF9.2.1 (by omega)), (hF9.2.2.1 (by omega)), h, (hF9.2.2.2.2.1 (by omega)), (hF9.2.2.2.2.2.1 (by omega)), (hF9.2.2.2.2.2.2.1 (by omega)), (hF9.2.2.2.2.2.2.2.1 (by omega)), (hF9.2.2.2.2.2.2.2.2.1 (by omega)), (hF9.2.2.2.2.2.2.2.2.2.1 (by omega)), (hF9.2.2.2.2.2.2.2.2.2.2.1 (by omega)), (hF9.2.2.2.2.2.2.2.2.2.2.2 (by omega))⟩
theorem Cls.fit {G G' : PH} {σ : Sg} (k : Cls G σ) (hF : Fr G G' 15 12) (h : ∃ T D fi fo fs fl fh, rout G' 15 T D fi fo fs fl fh) (h2 : ∃ k x d, G'[26]? = some (oB k x d)) : Cls G' σ := by
  have hF9 := k.frs hF
  exact ⟨(hF9.1 (by omega)), (hF9.2.1 (by omega)), (hF9.2.2.1 (by omega)), h, h2, (hF9.2.2.2.2.2.1 (by omega)), (hF9.2.2.2.2.2.2.1 (by omega)), (hF9.2.2.2.2.2.2.2.1 (by omega)), (hF9.2.2.2.2.2.2.2.2.1 (by omega)), (hF9.2.2.2.2.2.2.2.2.2.1 (by omega)), (hF9.2.2.2.2.2.2.2.2.2.2.1 (by omega)), (hF9.2.2.2.2.2.2.2.2.2.2.2 (by omega))⟩
theorem Cls.txt {G G' : PH} {σ : Sg} (k : Cls G σ) {n : Nat} {tx : Nat → Int32} (hF : Fr G G' 27 2) (h : ∃ p fn fp tt td, txw G' 27 n tx p fn fp tt td) : Cls G' (sgT σ n tx (gF σ)) := by
  have hF9 := k.frs hF
  exact ⟨(hF9.1 (by omega)), (hF9.2.1 (by omega)), (hF9.2.2.1 (by omega)), (hF9.2.2.2.1 (by omega)), (hF9.2.2.2.2.1 (by omega)), h, (hF9.2.2.2.2.2.2.1 (by omega)), (hF9.2.2.2.2.2.2.2.1 (by omega)), (hF9.2.2.2.2.2.2.2.2.1 (by omega)), (hF9.2.2.2.2.2.2.2.2.2.1 (by omega)), (hF9.2.2.2.2.2.2.2.2.2.2.1 (by omega)), (hF9.2.2.2.2.2.2.2.2.2.2.2 (by omega))⟩
theorem Cls.flt {G G' : PH} {σ : Sg} (k : Cls G σ) {f : Int32} (hF : Fr G G' 0 1) (h : G'[0]? = some (o9 f)) : Cls G' (sgT σ (gN σ) (gX σ) f) := by
  have hF9 := k.frs hF
  exact ⟨h, (hF9.2.1 (by omega)), (hF9.2.2.1 (by omega)), (hF9.2.2.2.1 (by omega)), (hF9.2.2.2.2.1 (by omega)), (hF9.2.2.2.2.2.1 (by omega)), (hF9.2.2.2.2.2.2.1 (by omega)), (hF9.2.2.2.2.2.2.2.1 (by omega)), (hF9.2.2.2.2.2.2.2.2.1 (by omega)), (hF9.2.2.2.2.2.2.2.2.2.1 (by omega)), (hF9.2.2.2.2.2.2.2.2.2.2.1 (by omega)), (hF9.2.2.2.2.2.2.2.2.2.2.2 (by omega))⟩
theorem Cls.book {G G' : PH} {σ : Sg} (k : Cls G σ) {c : Nat} {b : Bk} (hF : Fr G G' 29 3) (h : isBook G' 29 c b) : Cls G' (sgB σ c b) := by
  have hF9 := k.frs hF
  exact ⟨(hF9.1 (by omega)), (hF9.2.1 (by omega)), (hF9.2.2.1 (by omega)), (hF9.2.2.2.1 (by omega)), (hF9.2.2.2.2.1 (by omega)), (hF9.2.2.2.2.2.1 (by omega)), h, (hF9.2.2.2.2.2.2.2.1 (by omega)), (hF9.2.2.2.2.2.2.2.2.1 (by omega)), (hF9.2.2.2.2.2.2.2.2.2.1 (by omega)), (hF9.2.2.2.2.2.2.2.2.2.2.1 (by omega)), (hF9.2.2.2.2.2.2.2.2.2.2.2 (by omega))⟩
theorem Cls.past {G G' : PH} {σ : Sg} (k : Cls G σ) {c : Nat} {q : Nat → Riv} (hF : Fr G G' 32 114) (h : isPast G' 32 c q) : Cls G' (sgP σ c q) := by
  have hF9 := k.frs hF
  exact ⟨(hF9.1 (by omega)), (hF9.2.1 (by omega)), (hF9.2.2.1 (by omega)), (hF9.2.2.2.1 (by omega)), (hF9.2.2.2.2.1 (by omega)), (hF9.2.2.2.2.2.1 (by omega)), (hF9.2.2.2.2.2.2.1 (by omega)), h, (hF9.2.2.2.2.2.2.2.2.1 (by omega)), (hF9.2.2.2.2.2.2.2.2.2.1 (by omega)), (hF9.2.2.2.2.2.2.2.2.2.2.1 (by omega)), (hF9.2.2.2.2.2.2.2.2.2.2.2 (by omega))⟩
theorem Cls.draw {G G' : PH} {σ : Sg} (k : Cls G σ) {s : Nat} (hF : Fr G G' 146 1) (h : G'[146]? = some (oW s)) : Cls G' (sgS σ s) := by
  have hF9 := k.frs hF
  exact ⟨(hF9.1 (by omega)), (hF9.2.1 (by omega)), (hF9.2.2.1 (by omega)), (hF9.2.2.2.1 (by omega)), (hF9.2.2.2.2.1 (by omega)), (hF9.2.2.2.2.2.1 (by omega)), (hF9.2.2.2.2.2.2.1 (by omega)), (hF9.2.2.2.2.2.2.2.1 (by omega)), h, (hF9.2.2.2.2.2.2.2.2.2.1 (by omega)), (hF9.2.2.2.2.2.2.2.2.2.2.1 (by omega)), (hF9.2.2.2.2.2.2.2.2.2.2.2 (by omega))⟩
theorem Cls.im0 {G G' : PH} {σ : Sg} (k : Cls G σ) {o : Option (Riv × Nat)} (hF : Fr G G' 148 8) (h : isImage G' 148 o) : Cls G' (sgI σ 0 o) := by
  have hF9 := k.frs hF
  exact ⟨(hF9.1 (by omega)), (hF9.2.1 (by omega)), (hF9.2.2.1 (by omega)), (hF9.2.2.2.1 (by omega)), (hF9.2.2.2.2.1 (by omega)), (hF9.2.2.2.2.2.1 (by omega)), (hF9.2.2.2.2.2.2.1 (by omega)), (hF9.2.2.2.2.2.2.2.1 (by omega)), (hF9.2.2.2.2.2.2.2.2.1 (by omega)), (hF9.2.2.2.2.2.2.2.2.2.1 (by omega)), h, (hF9.2.2.2.2.2.2.2.2.2.2.2 (by omega))⟩
theorem Cls.im1 {G G' : PH} {σ : Sg} (k : Cls G σ) {o : Option (Riv × Nat)} (hF : Fr G G' 156 8) (h : isImage G' 156 o) : Cls G' (sgI σ 1 o) := by
  have hF9 := k.frs hF
  exact ⟨(hF9.1 (by omega)), (hF9.2.1 (by omega)), (hF9.2.2.1 (by omega)), (hF9.2.2.2.1 (by omega)), (hF9.2.2.2.2.1 (by omega)), (hF9.2.2.2.2.2.1 (by omega)), (hF9.2.2.2.2.2.2.1 (by omega)), (hF9.2.2.2.2.2.2.2.1 (by omega)), (hF9.2.2.2.2.2.2.2.2.1 (by omega)), (hF9.2.2.2.2.2.2.2.2.2.1 (by omega)), (hF9.2.2.2.2.2.2.2.2.2.2.1 (by omega)), h⟩
theorem ran.rout {G : PH} {h : Nat} {ρ : Riv} (k : ran G h ρ) : ∃ T D fi fo fs fl fh, rout G h T D fi fo fs fl fh := by
  obtain ⟨fi, fo, fs, fl, fh, k, _⟩ := k
  exact ⟨_, _, fi, fo, fs, fl, fh, k⟩
/-! what each call answers and does -/
abbrev UNK : Int32 := -1000000001
abbrev OUTS : Int32 := -1000000002
abbrev NOTT : Int32 := -1000000003
abbrev FUL : Int32 := -1000000004
abbrev PLU : Int64 := 4000000000000000000
abbrev oB3 (v a b : Int32) : Prop := v < a ∨ b < v
def spFeed (σ : Sg) (c : Int32) : Int32 × Sg := if oB3 c 0 255 then (OUTS, σ) else if gN σ < 200 then (nI (gN σ + 1), sgT σ (gN σ + 1) (upd (gX σ) (gN σ) c) (gF σ)) else (FUL, σ)
def spRiver (σ : Sg) : Int32 × Sg := match prs (gN σ) (gX σ) 201 (0, rZ, false, false) with
  | .inl e => (-10 - nI e.1, sgT σ 0 (gX σ) (nI e.2))
  | .inr ρ => (nI (rN ρ), sgT (deed σ ρ) 0 (gX σ) (-1))
def spTold (σ : Sg) (w : Int32) : Int32 := if w = 0 then nI (rT (gR σ)) else if w = 1 then nI (rD (gR σ)) else if w = 2 then nI (rN (gR σ)) else if w = 3 then pSum (gR σ) (rN (gR σ)) else if w = 4 then lawC (gR σ) (rN (gR σ)) else if w = 5 then nI (gN σ) else if w = 6 then nI (gC σ) else if w = 7 then wrS (gR σ) (gB σ) (gC σ) 0 else if w = 8 then nI (gP σ) else if w = 9 then nI (gS σ) else OUTS
def bsG (ρ : Riv) (r : Nat) : Nat × Nat × Int64 := (bsS ρ r 231).getD (0, 0, 0)
def spFit (ρ : Riv) (r : Nat) (w : Int32) : Int32 := if fitB ρ r (rT ρ) = true then (if w = 8 then nI (nwS ρ r 10).1 else if w = 9 then lnS ρ r (nI (nwS ρ r 10).1) else if w = 10 then nI (bsG ρ r).1 else nI (bsG ρ r).2.1) else -1
def spRch (ρ : Riv) (r : Nat) (w : Int32) : Int32 := if w = 0 then rF ρ r 0 else if w = 1 then rF ρ r 1 else if w = 2 then rF ρ r 2 else if w = 3 then rF ρ r 3 else if w = 4 then (if lawR ρ r then 1 else 0) else if w = 5 then nI (pkT (INN ρ r) (rT ρ - 1)) else if w = 6 then nI (pkT (OUT ρ r) (rT ρ - 1)) else if w = 7 then thC ρ r (rN ρ - r) else if w = 8 ∨ w = 9 ∨ w = 10 ∨ w = 11 then spFit ρ r w else OUTS
def spReachAt (σ : Sg) (r w : Int32) : Int32 := if inN r (rN (gR σ)) then spRch (gR σ) r.toNatClampNeg w else UNK
def spWgt (ρ : Riv) (r : Nat) (w : Int32) : Int32 := if w = 0 then wA (nI (rD ρ)) (rF ρ r 1) (rF ρ r 2) + 1000 else if w = 1 then wB (nI (rD ρ)) (rF ρ r 1) (rF ρ r 2) else if w = 2 then wC (nI (rD ρ)) (rF ρ r 1) (rF ρ r 2) + 1000 else if w = 3 then wM (nI (rD ρ)) (rF ρ r 1) (rF ρ r 2) else OUTS
def spWeight (σ : Sg) (r w : Int32) : Int32 := if inN r (rN (gR σ)) then spWgt (gR σ) r.toNatClampNeg w else UNK
def spFlw (ρ : Riv) (r t : Nat) (w : Int32) : Int64 := if w = 0 then (rS ρ r t).toInt64 else if w = 1 then (rE ρ r t).toInt64 else if w = 2 then PLU + INN ρ r t else if w = 3 then PLU + OUT ρ r t else if w = 4 then PLU + STO ρ r t else -1000000002
def spFlow (σ : Sg) (r t w : Int32) : Int64 := if inN r (rN (gR σ)) ∧ inN t (rT (gR σ)) then spFlw (gR σ) r.toNatClampNeg t.toNatClampNeg w else -1000000001
def spFts (ρ : Riv) (r : Nat) (w : Int32) : Int64 := if fitB ρ r (rT ρ) = true then (if w = 5 then lpS ρ r (rF ρ r 2) else if w = 6 then DF ρ r (rF ρ r 1) (rF ρ r 2) else (bsG ρ r).2.2) else -1
def spSm (ρ : Riv) (r : Nat) (w : Int32) : Int64 := if w = 0 then PLU + INN ρ r (pkT (INN ρ r) (rT ρ - 1)) else if w = 1 then PLU + OUT ρ r (pkT (OUT ρ r) (rT ρ - 1)) else if w = 2 then PLU + mnF (OUT ρ r) (rT ρ - 1) else if w = 3 then PLU + voF (nI (rD ρ)).toInt64 (INN ρ r) (rT ρ - 1) else if w = 4 then PLU + voF (nI (rD ρ)).toInt64 (OUT ρ r) (rT ρ - 1) else spFts ρ r w
def spSum (σ : Sg) (r w : Int32) : Int64 := if inN r (rN (gR σ)) then (if oB3 w 0 7 then -1000000002 else spSm (gR σ) r.toNatClampNeg w) else -1000000001
def spWould (σ : Sg) (r q k x : Int32) : Int64 := if inN r (rN (gR σ)) ∧ inN q (rN (gR σ)) then (if oB3 k 0 20 ∨ oB3 x 0 10 then -1000000002 else PLU + OUT (rvW (gR σ) q.toNatClampNeg k x) r.toNatClampNeg (pkT (OUT (rvW (gR σ) q.toNatClampNeg k x) r.toNatClampNeg) (rT (gR σ) - 1))) else -1000000001
def spTimes (σ : Sg) (t : Int32) : Int32 × Sg := if oB3 t 2 24 then (OUTS, σ) else (nI (rT (gR σ)), deed σ (rvT (gR σ) t.toNatClampNeg))
def spStep (σ : Sg) (d : Int32) : Int32 × Sg := if oB3 d 1 9 then (OUTS, σ) else (nI (rD (gR σ)), deed σ (rvD (gR σ) d.toNatClampNeg))
def spReach (σ : Sg) (b k x q : Int32) : Int32 × Sg := if ¬ b = -1 ∧ ¬ inN b (rN (gR σ)) then (UNK, σ) else if oB3 k 0 20 ∨ oB3 x 0 10 ∨ oB3 q 1 4 then (OUTS, σ) else if ¬ rN (gR σ) < 6 ∨ ¬ q ≤ 8 - pSum (gR σ) (rN (gR σ)) then (FUL, σ) else (nI (rN (gR σ)), deed σ (rvA (gR σ) b k x q))
def spChange (σ : Sg) (r k x : Int32) : Int32 × Sg := if inN r (rN (gR σ)) then (if oB3 k 0 20 ∨ oB3 x 0 10 then (OUTS, σ) else (if lawP (nI (rD (gR σ))) k x then 1 else 0, deed σ (rvW (gR σ) r.toNatClampNeg k x))) else (UNK, σ)
def spSide (σ : Sg) (r t v : Int32) : Int32 × Sg := if inN r (rN (gR σ)) ∧ inN t (rT (gR σ)) then (if oB3 v 0 9999 then (OUTS, σ) else (rS (gR σ) r.toNatClampNeg t.toNatClampNeg, deed σ (rvS (gR σ) r.toNatClampNeg t.toNatClampNeg v))) else (UNK, σ)
def spSeen (σ : Sg) (r t v : Int32) : Int32 × Sg := if inN r (rN (gR σ)) ∧ inN t (rT (gR σ)) then (if oB3 v 0 9999 then (OUTS, σ) else (rE (gR σ) r.toNatClampNeg t.toNatClampNeg, deed σ (rvE (gR σ) r.toNatClampNeg t.toNatClampNeg v))) else (UNK, σ)
def shv (o : Int64) : Int64 := jmax 0 (jmin 9999 o)
def shR (ρ : Riv) (r : Nat) : Nat → Riv
  | 0 => ρ
  | t + 1 => rvE (shR ρ r t) r t (shv (OUT ρ r t)).toInt32
def shC (ρ : Riv) (r : Nat) : Nat → Int32
  | 0 => 0
  | t + 1 => if shv (OUT ρ r t) = OUT ρ r t then shC ρ r t else shC ρ r t + 1
def spShow (σ : Sg) (r : Int32) : Int32 × Sg := if inN r (rN (gR σ)) then (shC (gR σ) r.toNatClampNeg (rT (gR σ)), deed σ (shR (gR σ) r.toNatClampNeg (rT (gR σ)))) else (UNK, σ)
def spTake (σ : Sg) : Int32 × Sg := if rN (gR σ) = 0 then (NOTT, σ) else (nI (rN (gR σ) - 1), deed σ (rvN (gR σ) (rN (gR σ) - 1)))
def dr1 (σ : Sg) : Sg := if rN (gR σ) = 0 then σ else sgS (deed σ (rvS (gR σ) (nxS (gS σ) / 65536 % rN (gR σ)) (nxS (nxS (gS σ)) / 65536 % rT (gR σ)) (nI (11 * (nxS (nxS (nxS (gS σ))) / 65536 % 10))))) (nxS (nxS (nxS (gS σ))))
def drN (σ : Sg) : Nat → Sg
  | 0 => σ
  | n + 1 => dr1 (drN σ n)
def spDrift (σ : Sg) (n : Int32) : Int32 × Sg := if oB3 n 1 20 then (OUTS, σ) else (nI (gS (drN σ n.toNatClampNeg)), drN σ n.toNatClampNeg)
def spUndo (σ : Sg) (n : Int32) : Int32 × Sg := if oB3 n 1 16 then (OUTS, σ) else if gP σ < n.toNatClampNeg then (NOTT, σ) else (nI (rN (gQ σ (n.toNatClampNeg - 1))), sgR (sgP σ (gP σ - n.toNatClampNeg) (fun j => gQ σ (n.toNatClampNeg + j))) (gQ σ (n.toNatClampNeg - 1)))
def spWrite (σ : Sg) (r t : Int32) (v : Int64) : Int32 × Sg := if inN r (rN (gR σ)) ∧ inN t (rT (gR σ)) then (if gC σ < 20 then (nI (gC σ + 1), sgB σ (gC σ + 1) (bkA (gB σ) (gC σ) r.toNatClampNeg t.toNatClampNeg v)) else (FUL, σ)) else (UNK, σ)
def spTear (σ : Sg) : Int32 × Sg := (nI (gC σ), sgB σ 0 (gB σ))
def spSeed (σ : Sg) (v : Int32) : Int32 × Sg := if v < 0 then (OUTS, σ) else (nI (gS σ), sgS σ v.toNatClampNeg)
def spKeep (σ : Sg) (i : Int32) : Int32 × Sg := if oB3 i 0 1 then (UNK, σ) else (1, sgP (sgI σ i.toNatClampNeg (some (gR σ, gS σ))) 0 (gQ σ))
def spBack (σ : Sg) (i : Int32) : Int32 × Sg := if oB3 i 0 1 then (UNK, σ) else match gI σ i.toNatClampNeg with
  | none => (NOTT, σ)
  | some q => (1, sgP (sgS (sgR σ q.1) q.2) 0 (gQ σ))
