/-! the heap with which the loop of the law begins -/
theorem nRs_at (h : Nat) : ∀ k i j, i < k → j < 7 → (nRs h k)[7 * i + j]? = (nRv (h + 7 * i))[j]?
  | 0, i, j, hi, hj => absurd hi (Nat.not_lt_zero _)
  | k + 1, i, j, hi, hj => by
    show (nRs h k ++ nRv (h + 7 * k))[7 * i + j]? = _
    by_cases e : i < k
    · rw [List.getElem?_append_left (by rw [nRs_len]; omega)]
      exact nRs_at h k i j e hj
    · have e2 : i = k := by omega
      subst e2
      rw [List.getElem?_append_right (by rw [nRs_len]; omega), nRs_len, show 7 * i + j - 7 * i = j by omega]
def nG : PH := nCl ++ nMd 164
def nA : PH := o9 (-1) :: (nRv 1 ++ (nRv 8 ++ (nRt 15 ++ (oB 0 0 0 :: (nTx 27 ++ (nBk 29 ++ [.inr (5, [.ref 33, .int 0, .int 0]), aQ 3 16 (nFs 34 16)]))))))
def nB : PH := oW 0 :: aQ 4 2 (fI 2) :: (nIm 148 ++ (nIm 156 ++ nMd 164))
theorem nG_eq : nG = nA ++ (nRs 34 16 ++ nB) := by
  unfold nG nCl nRest nPs nA nB
  simp only [List.append_assoc, List.cons_append, List.nil_append]
theorem nA_len : nA.length = 34 := rfl
theorem nG_len : nG.length = 181 := by
  rw [nG_eq, List.length_append, List.length_append, nRs_len]; rfl
theorem gA {x : Nat} (h : x < 34) : nG[x]? = nA[x]? := by rw [nG_eq, List.getElem?_append_left h]
theorem gB' {x : Nat} (h : 146 ≤ x) : nG[x]? = nB[x - 146]? := by
  rw [nG_eq, List.getElem?_append_right (by rw [nA_len]; omega), List.getElem?_append_right (by rw [nA_len, nRs_len]; omega), nA_len, nRs_len, show x - 34 - 7 * 16 = x - 146 by omega]
theorem gRv {i j : Nat} (hi : i < 16) (hj : j < 7) : nG[34 + 7 * i + j]? = (nRv (34 + 7 * i))[j]? := by
  rw [nG_eq, List.getElem?_append_right (by rw [nA_len]; omega), nA_len, List.getElem?_append_left (by rw [nRs_len]; omega), show 34 + 7 * i + j - 34 = 7 * i + j by omega]
  exact nRs_at 34 16 i j hi hj
theorem isR0 {G : PH} {h : Nat} (k : ∀ j, j < 7 → G[h + j]? = (nRv h)[j]?) : isRiver G h rZ := by
  have z : ∀ i, i < 7 → G[h + i]? = (nRv h)[i]? := k
  exact ⟨fun _ => 0, fun _ => 0, fun _ => 0, ⟨z 0 (by decide), ⟨z 1 (by decide), z 2 (by decide), by decide, by decide⟩, ⟨z 3 (by decide), z 4 (by decide), by decide, by decide⟩, ⟨z 5 (by decide), z 6 (by decide), by decide, by decide⟩⟩, fun r hr => absurd hr (Nat.not_lt_zero _), by decide, by decide, by decide, by decide, by decide⟩
theorem j7 {P : Nat → Prop} (a0 : P 0) (a1 : P 1) (a2 : P 2) (a3 : P 3) (a4 : P 4) (a5 : P 5) (a6 : P 6) : ∀ j, j < 7 → P j
  | 0, _ => a0 | 1, _ => a1 | 2, _ => a2 | 3, _ => a3 | 4, _ => a4 | 5, _ => a5 | 6, _ => a6
  | j + 7, h => absurd h (by omega)
set_option maxRecDepth 100000 in
theorem isI0 : isImage nG 148 none ∧ isImage nG 156 none := by
  refine ⟨⟨0, 0, rZ, (gB' (by decide)).trans rfl, isR0 (j7 ?_ ?_ ?_ ?_ ?_ ?_ ?_), rfl⟩, ⟨0, 0, rZ, (gB' (by decide)).trans rfl, isR0 (j7 ?_ ?_ ?_ ?_ ?_ ?_ ?_), rfl⟩⟩ <;> exact (gB' (by decide)).trans rfl
set_option maxRecDepth 100000 in
theorem past_0 : isPast nG 32 0 (fun _ => rZ) := by
  refine ⟨0, nFs 34 16, ⟨by decide, by decide, (gA (by decide)).trans rfl, (gA (by decide)).trans rfl, fun i hi => if_pos hi, fun i hi => ⟨rZ, isR0 fun j hj => gRv hi hj⟩⟩, fun j hj => absurd hj (Nat.not_lt_zero _)⟩
set_option maxRecDepth 100000 in
theorem Cls_0 : Cls nG sg0 := by
  have a : ∀ {x : Nat}, x < 34 → nG[x]? = nA[x]? := gA
  have b : ∀ {x : Nat}, 146 ≤ x → nG[x]? = nB[x - 146]? := gB'
  have hx : (6 : Nat) ≤ 32 ∧ (24 : Nat) ≤ 32 ∧ (1 : Nat) ≤ 32 ∧ (20 : Nat) ≤ 32 ∧ (3 : Nat) ≤ 32 := ⟨by decide, by decide, by decide, by decide, by decide⟩
  refine ⟨(a (by decide)).trans rfl, isR0 (j7 ?_ ?_ ?_ ?_ ?_ ?_ ?_), ⟨rZ, isR0 (j7 ?_ ?_ ?_ ?_ ?_ ?_ ?_)⟩, ⟨0, 0, fun _ => 0, fun _ => 0, fun _ => 0, fun _ => 0, fun _ => 0, ?_, ⟨?_, ?_, hx.1, hx.2.1⟩, ⟨?_, ?_, hx.1, hx.2.1⟩, ⟨?_, ?_, hx.1, hx.2.1⟩, ⟨?_, ?_, hx.2.2.1, hx.2.1⟩, ⟨?_, ?_, hx.2.2.1, hx.2.1⟩⟩, ⟨0, 0, 0, ?_⟩, ⟨0, 0, -1, 0, 0, ?_, ?_, Nat.zero_le _⟩, ⟨Nat.zero_le _, ?_, fun _ => 0, ⟨?_, ?_, hx.2.2.2.1, hx.2.2.2.2⟩, fun i hi => absurd hi (Nat.not_lt_zero _)⟩, past_0, (b (by decide)).trans rfl, ⟨fI 2, (b (by decide)).trans rfl, rfl, rfl⟩, isI0.1, isI0.2⟩ <;> exact (a (by decide)).trans rfl
set_option maxRecDepth 100000 in
theorem Mod_0 : Mod nG sg0 := by
  have b : ∀ {x : Nat}, 146 ≤ x → nG[x]? = nB[x - 146]? := gB'
  refine ⟨(0, 0, 0, 0, -1, 0, 0, 0, 0, 0, 0, 0, 0), upd (upd (fun _ => 0) 0 12) 1 1, ⟨?_, ?_, ⟨rfl, rfl, rfl, fun r hr => absurd hr (Nat.not_lt_zero _)⟩, ⟨by decide, by decide, by decide, by decide, by decide⟩⟩, rfl, rfl, rfl, rfl, rfl, ⟨⟨fun _ => 0, ?_, fun j hj => absurd hj (Nat.not_lt_zero _)⟩, ⟨fun _ => 0, fun _ => 0, ?_, ?_, fun i hi => ⟨fun _ => rfl, fun q h => by cases h⟩⟩, ⟨fun _ => 0, fun _ => 0, fun _ => 0, ?_, ?_, ?_, fun i hi => absurd hi (Nat.not_lt_zero _)⟩, ⟨fun _ => 0, ?_, fun i hi => absurd hi (Nat.not_lt_zero _)⟩⟩, ⟨⟨fun _ => 0, fun _ => 0, fun _ => 0, fun _ => 0, fun _ => 0, ?_, ?_, ?_, ?_, ?_⟩, ⟨fun _ => 0, fun _ => 0, ?_, ?_⟩, ⟨fun _ => 0, ?_⟩⟩⟩ <;> exact (b (by decide)).trans rfl
/-! each side keeps what the other does -/
theorem Cls.out {G G' : PH} {σ : Sg} (k : Cls G σ) (hF : Fr G G' 164 17) : Cls G' σ := by
  have hF9 := k.frs hF
  exact ⟨hF9.1 (by omega), hF9.2.1 (by omega), hF9.2.2.1 (by omega), hF9.2.2.2.1 (by omega), hF9.2.2.2.2.1 (by omega), hF9.2.2.2.2.2.1 (by omega), hF9.2.2.2.2.2.2.1 (by omega), hF9.2.2.2.2.2.2.2.1 (by omega), hF9.2.2.2.2.2.2.2.2.1 (by omega), hF9.2.2.2.2.2.2.2.2.2.1 (by omega), hF9.2.2.2.2.2.2.2.2.2.2.1 (by omega), hF9.2.2.2.2.2.2.2.2.2.2.2 (by omega)⟩
theorem Mod.out {G G' : PH} {σ : Sg} (k : Mod G σ) (hF : Fr G G' 0 164) : Mod G' σ := by
  obtain ⟨o, f, k⟩ := k
  exact ⟨o, f, k.1.fr hF (by omega), k.2.1, k.2.2.1, k.2.2.2.1, k.2.2.2.2.1, k.2.2.2.2.2.1, k.2.2.2.2.2.2.1.sm (fun x h1 h2 => hF.2 x (by omega)), k.2.2.2.2.2.2.2.fr hF (by omega)⟩
