theorem ci_m1 : Int32.ofInt (-1) = (-1) := by decide +kernel
theorem ci_0 : Int32.ofInt (0) = 0 := by decide +kernel
theorem ci_1 : Int32.ofInt (1) = 1 := by decide +kernel
theorem ci_2 : Int32.ofInt (2) = 2 := by decide +kernel
theorem ci_3 : Int32.ofInt (3) = 3 := by decide +kernel
theorem ci_4 : Int32.ofInt (4) = 4 := by decide +kernel
theorem ci_5 : Int32.ofInt (5) = 5 := by decide +kernel
theorem bp_12 : (Int8.ofInt (12)).toInt32 = 12 := by decide +kernel
theorem bp_m10 : (Int8.ofInt (-10)).toInt32 = (-10) := by decide +kernel
theorem bp_31 : (Int8.ofInt (31)).toInt32 = 31 := by decide +kernel
theorem bp_6 : (Int8.ofInt (6)).toInt32 = 6 := by decide +kernel
theorem bp_59 : (Int8.ofInt (59)).toInt32 = 59 := by decide +kernel
theorem bp_32 : (Int8.ofInt (32)).toInt32 = 32 := by decide +kernel
theorem bp_48 : (Int8.ofInt (48)).toInt32 = 48 := by decide +kernel
theorem bp_20 : (Int8.ofInt (20)).toInt32 = 20 := by decide +kernel
theorem bp_9 : (Int8.ofInt (9)).toInt32 = 9 := by decide +kernel
theorem bp_7 : (Int8.ofInt (7)).toInt32 = 7 := by decide +kernel
theorem bp_16 : (Int8.ofInt (16)).toInt32 = 16 := by decide +kernel
theorem bp_45 : (Int8.ofInt (45)).toInt32 = 45 := by decide +kernel
theorem bp_11 : (Int8.ofInt (11)).toInt32 = 11 := by decide +kernel
theorem bp_57 : (Int8.ofInt (57)).toInt32 = 57 := by decide +kernel
theorem bp_10 : (Int8.ofInt (10)).toInt32 = 10 := by decide +kernel
theorem bp_24 : (Int8.ofInt (24)).toInt32 = 24 := by decide +kernel
theorem bp_52 : (Int8.ofInt (52)).toInt32 = 52 := by decide +kernel
theorem bp_28 : (Int8.ofInt (28)).toInt32 = 28 := by decide +kernel
theorem bp_8 : (Int8.ofInt (8)).toInt32 = 8 := by decide +kernel
theorem sp_315 : (Int16.ofInt 315).toInt32 = 315 := by decide +kernel
theorem sp_4725 : (Int16.ofInt 4725).toInt32 = 4725 := by decide +kernel
theorem sp_200 : (Int16.ofInt 200).toInt32 = 200 := by decide +kernel
theorem sp_1000 : (Int16.ofInt 1000).toInt32 = 1000 := by decide +kernel
theorem sp_9999 : (Int16.ofInt 9999).toInt32 = 9999 := by decide +kernel
theorem sp_632 : (Int16.ofInt 632).toInt32 = 632 := by decide +kernel
theorem sp_255 : (Int16.ofInt 255).toInt32 = 255 := by decide +kernel
theorem sp_316 : (Int16.ofInt 316).toInt32 = 316 := by decide +kernel
theorem sp_144 : (Int16.ofInt 144).toInt32 = 144 := by decide +kernel
theorem sp_5040 : (Int16.ofInt 5040).toInt32 = 5040 := by decide +kernel
theorem ii_1 (x : Int32) : x + Int32.ofInt (1) = x + 1 := by rw [show Int32.ofInt (1) = 1 by decide +kernel]
theorem ii_m1 (x : Int32) : x + Int32.ofInt (-1) = x + (-1) := by rw [show Int32.ofInt (-1) = (-1) by decide +kernel]
theorem ii_5 (x : Int32) : x + Int32.ofInt (5) = x + 5 := by rw [show Int32.ofInt (5) = 5 by decide +kernel]
theorem lc_0 : Int64.ofNat (((0 : Fin 2)) : Nat) = 0 := by decide +kernel
theorem lc_1 : Int64.ofNat (((1 : Fin 2)) : Nat) = 1 := by decide +kernel
/-- a contract that answers x and leaves the heap -/
abbrev Fn (l : Launch) (M : MD) (av : List Value) (G : PH) (x : Value) : Prop := Tri l M 0 0 av G (fun w G' => w = some x ∧ G' = G)
theorem nfw7 : nativeFrameWords "java/lang/System" "arraycopy" 5 = 7 := by decide +kernel
section PURE
variable {M : MD} {l : Launch} {R : Room} {Z : PZ} {X : PX} {cells slots pc : Nat} {L L' : List (Option Value)} {st : List Value} {G : PH}
variable {M' : MD} {n idx h : Nat} {As rest : List Value} {x : Value}
theorem P_callVp {ci : Nat} {fs : List Value} (hd : decode (mdC M) pc = .ok (.invokevirtual idx, 3)) (hl : Cond.methodLink (mdN M).cls idx (mdN M') ∈ TB) (ok : OKv M' ci n) (hr : mdF M' + 1 ≤ R.frames ∧ 8 + (mdL M' + 11) + mdO M' ≤ R.locals) (hT : Fn l M' (.ref h :: As) G x) (hst : st = As.reverse ++ .ref h :: rest) (hn : As.length = n) (hG : G[h]? = some (.inr (ci, fs))) (hw : (rest.map fun v => v.category).sum ≤ 8) (hc : cells ≤ R.cells ∧ slots ≤ R.slots)
    (kk : WP M l R Z X cells slots (pc + 3) L (x :: rest) G) : WP M l R Z X cells slots pc L st G :=
  P_callV hd hl ok hr hT hst hn hG hw hc (fun v G' hq => by obtain ⟨rfl, rfl⟩ := hq; exact kk)
theorem P_callSp (hd : decode (mdC M) pc = .ok (.invokestatic idx, 3)) (hl : Cond.methodLink (mdN M).cls idx (mdN M') ∈ TB) (ok : OKs M' n) (hr : mdF M' + 1 ≤ R.frames ∧ 8 + (mdL M' + 11) + mdO M' ≤ R.locals) (hT : Fn l M' As G x) (hst : st = As.reverse ++ rest) (hn : As.length = n) (hw : (rest.map fun v => v.category).sum ≤ 8) (hc : cells ≤ R.cells ∧ slots ≤ R.slots)
    (kk : WP M l R Z X cells slots (pc + 3) L (x :: rest) G) : WP M l R Z X cells slots pc L st G :=
  P_callS hd hl ok hr hT hst hn hw hc (fun v G' hq => by obtain ⟨rfl, rfl⟩ := hq; exact kk)
theorem P_callSNp {host : String} (hd : decode (mdC M) pc = .ok (.invokestatic idx, 3)) (hl : ∀ E s, Kn E s → va_Nw (.methodLinkNest (mdN M).cls idx (mdN M') host) s) (ok : OKs M' n) (hr : mdF M' + 1 ≤ R.frames ∧ 8 + (mdL M' + 11) + mdO M' ≤ R.locals) (hT : Fn l M' As G x) (hst : st = As.reverse ++ rest) (hn : As.length = n) (hw : (rest.map fun v => v.category).sum ≤ 8) (hc : cells ≤ R.cells ∧ slots ≤ R.slots)
    (kk : WP M l R Z X cells slots (pc + 3) L (x :: rest) G) : WP M l R Z X cells slots pc L st G :=
  P_callSN hd hl ok hr hT hst hn hw hc (fun v G' hq => by obtain ⟨rfl, rfl⟩ := hq; exact kk)
theorem P_copyl {h0 h1 n0 n1 : Nat} {f g : Nat → Int64} {sp dp n : Int32} (hd : decode (mdC M) pc = .ok (.invokestatic idx, 3)) (hl : Cond.methodLink (mdN M).cls idx arraycopyName ∈ TB) (hG0 : G[h0]? = some (.inl (1, n0, .inr (.inl f)))) (hG1 : G[h1]? = some (.inl (1, n1, .inr (.inl g)))) (i1 : ¬ sp < 0) (i2 : ¬ dp < 0) (i3 : ¬ n < 0) (i4 : sp.toNatClampNeg + n.toNatClampNeg ≤ n0) (i5 : dp.toNatClampNeg + n.toNatClampNeg ≤ n1) (hr : 1 ≤ R.frames ∧ (st.map fun v => v.category).sum + 18 ≤ R.locals)
    (kk : WP M l R Z X cells slots (pc + 3) L st (G.set h1 (.inl (1, n1, .inr (.inl (va_cpy f g sp.toNatClampNeg dp.toNatClampNeg n.toNatClampNeg)))))) : WP M l R Z X cells slots pc L (.int n :: .int dp :: .ref h1 :: .int sp :: .ref h0 :: st) G := by
  intro E p e s m args below meth c H locs Ls hC hX hR hS hL
  have hts := hC.2.2.2.2.2.2.1
  have hK := hC.2.2.2.2.2.2.2.1.1
  have nn : ∀ z : Int32, ¬ z < 0 → z.toInt = (z.toNatClampNeg : Int) := by
    intro z hz
    have hz0 : (0 : Int) ≤ z.toInt := by
      have := Int32.not_lt.mp hz
      simpa using Int32.le_iff_toInt_le.mp this
    show z.toInt = ((z.toInt.toNat : Nat) : Int)
    omega
  intro T hT XX
  have hc0 : H[pB E + h0]? = some (vp_cell (E.2.1 1) (n0, .inr (.inl f))) := hR.at hG0
  have hc1 : H[pB E + h1]? = some (vp_cell (E.2.1 1) (n1, .inr (.inl g))) := hR.at hG1
  obtain ⟨-, k0, hk0, cm0, hkk0⟩ := (hK.2 1 _ rfl).1 n0 (fun j => .long (f j))
  obtain ⟨vm', X', step⟩ := XX.arraycopy hC.1 hC.2.2.2.2.2.1 (hts _ hl) (hts _ w_acN) (hts _ w_acS) (hts _ w_acI) (src := pB E + h0) (dst := pB E + h1) (cs := vp_cell (E.2.1 1) (n0, .inr (.inl f))) (cd := vp_cell (E.2.1 1) (n1, .inr (.inl g))) (srcPos := sp) (destPos := dp) (n := n) (by rw [hT]; exact hc0) (by rw [hT]; exact hc1)
    (fun _ h => by cases h) (fun _ h => by cases h) (fun h => by cases h) (fun h => by cases h) hk0 hk0 hkk0 hkk0 (by simp [refKind]) i1 i2 i3
    (by rw [nn sp i1, nn n i3]; show ¬ _ > ((arrV (E.2.1 1) n0 (fun j => .long (f j))).slots.size : Int); rw [arrV_size]; omega)
    (by rw [nn dp i2, nn n i3]; show ¬ _ > ((arrV (E.2.1 1) n1 (fun j => .long (g j))).slots.size : Int); rw [arrV_size]; omega)
    (fun vm₁ _ i hi => by
      have e : (vp_cell (E.2.1 1) (n0, .inr (.inl f))).slots.getD (sp.toNatClampNeg + i) .null = .long (f (sp.toNatClampNeg + i)) := by
        show (arrV (E.2.1 1) n0 (fun j => .long (f j))).slots.getD _ _ = _
        rw [Array.getD_eq_getD_getElem?, arrV_read _ _ (by omega)]
        rfl
      refine ⟨?_, ?_⟩
      · rw [e]; rfl
      · rw [e]
        exact trivial)
    (g := F0 m pc Ls (.int n :: .int dp :: .ref (pB E + h1) :: .int sp :: .ref (pB E + h0) :: st.map (cv E))) rfl (hL.1.trans hC.2.2.1.symm) (rest := st.map (cv E)) rfl (by rw [hC.2.1]; exact hd) hr.1 (by rw [cv_cats]; show 2 * 0 + _ + (nativeFrameWords "java/lang/System" "arraycopy" 5 + 11) ≤ _; rw [nfw7]; omega)
  have e1 : copied (vp_cell (E.2.1 1) (n0, .inr (.inl f))) (vp_cell (E.2.1 1) (n1, .inr (.inl g))) sp dp n = vp_cell (E.2.1 1) (n1, .inr (.inl (va_cpy f g sp.toNatClampNeg dp.toNatClampNeg n.toNatClampNeg))) := va_copied (fun z => .long z) (E.2.1 1) (E.2.1 1) f g i4
  rw [e1] at X' step
  generalize hv : vp_cell (E.2.1 1) (n1, .inr (.inl (va_cpy f g sp.toNatClampNeg dp.toNatClampNeg n.toNatClampNeg))) = cl9 at X' step
  have hl9 : pB E + h1 < H.size := (Array.getElem?_eq_some_iff.mp hc1).1
  have hheap : ((T.setVm vm').setCell (pB E + h1) cl9).heap = H.setIfInBounds (pB E + h1) cl9 := by rw [← hT]; rfl
  have oq : ∀ q : Nat, q ≠ pB E + h1 → (H.setIfInBounds (pB E + h1) cl9)[q]? = H[q]? := fun q hq => by simp [Array.getElem?_setIfInBounds, Ne.symm hq]
  have z9 : (H.setIfInBounds (pB E + h1) cl9).size = H.size := by simp
  obtain ⟨t, a1, b1⟩ := kk E p e s m args below meth c _ _ Ls hC hX (hR.set (show (H.setIfInBounds (pB E + h1) cl9)[pB E + h1]? = some _ by simp [hl9]; exact hv.symm) z9 oq) ⟨by rw [z9]; exact hS.1, fun q g1 g2 => by
      rw [oq q (fun e => g2 (by show pB E ≤ q; omega))]
      exact hS.2.1 q g1 g2, fun q hq => by
      rcases List.mem_append.mp hq with h | h
      · exact hS.2.2 q h
      · obtain ⟨z, -, hz⟩ := List.mem_map.mp h
        rw [← hz]
        exact Nat.le_add_right _ _⟩ hL _ hheap X'
  exact ⟨t, step t a1, b1⟩
end PURE
