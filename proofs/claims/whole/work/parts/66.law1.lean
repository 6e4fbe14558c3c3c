def R_law : String := "ReachFlowsLaw"
def lw_P (b : Addr) (xs : List Int32) (args : Array Value) (s : State) : Prop := args = #[.ref b] ∧ s.IntsAt b xs ∧ xs.length ≤ 2560 ∧ (Jvm.Cond.and given_1 narrow_1).before args s = true
def lw_Q (_ : Array Value) (s : State) (o : Outcome) (t : State) : Prop := o = .returned (some (.int 1)) ∧ Framed s o t [] 600000 7302250
def lw_Z (below : List Frame) (a : Array Value) (s : State) : State → Prop := fun t => ∃ o, t.status = .running ∧ Ended t below o ∧ lw_Q a s o t
/-- the law's own end, with 1 on the stack, nothing written that was there before, its room as the claim has it -/
theorem lw_ret {p : Program} {l : Launch} {e : Env} {s : State} {m : MethodId} {below : List Frame} {meth : Method} {c : Code} {b : Nat} (hx : p.tables.exec = Jvm.exec) (hb : c.code = code) (hr : meth.sig.returnType = ret) (hlocks : meth.locks = false) {pc : Nat} {H : Heap} {ls : Array Slot} (hdg : decode code pc = .ok (.ireturn, 1)) : W p l e room_1 s m #[Value.ref b] below meth c H [] 600000 7302250 (lw_Z below #[Value.ref b] s) (F0 m pc ls [.int 1]) := by
  intro T hT X
  obtain ⟨fs, hret, hrun, hended, hW, hframe⟩ := X.leave (v := some (.int 1)) (hlocks := hlocks) (fun h => by rw [hr] at h; cases h)
  have hmeth' : T.vm.method? m = some meth := X.method'
  refine ⟨T.setFrames fs, ?_, .returned (some (.int 1)), hrun, hended, rfl, ⟨_, rfl⟩, hW, hframe⟩
  jvm_step X.here [X.here.top, hx, hb, hdg, hmeth', hr, ret, narrow_b1]
  (try refine ⟨rfl, ?_⟩); (try refine ⟨rfl, ?_⟩)
  first | (intro acts; rw [hret _ acts rfl rfl rfl]) | rw [hret _ _ rfl rfl rfl]
  exact Steps.refl _
/-- what holds at the law's entry: the machine, the code, the tables' words (any of lw_tbl by 'hts w (by decide +kernel)'), the script of L ints xs at the cell b, what the Statement gives of the start (any of its parts by flat_of_before) -/
def lw_At (p : Program) (s : State) (m : MethodId) (meth : Method) (c : Code) (b L : Nat) (xs : Nat → Int32) : Prop :=
  p.tables.exec = Jvm.exec ∧ c.code = code ∧ meth.sig.returnType = ret ∧ c.maxLocals = 4 ∧ s.vm.findClass R_law = some m.cls ∧ (∀ w ∈ lw_tbl, w.before #[Value.ref b] s = true) ∧ va_X b L xs s s.heap ∧ b < s.heap.size ∧ meth.locks = false ∧ (Jvm.Cond.and given_1 narrow_1).before #[Value.ref b] s = true
/-! the law: its script stands for the value .float, its end is lw_ret -/
def XL (Ln : Nat) (xs : Nat → Int32) : PX := fun E s args => args = #[Value.ref E.2.2.2] ∧ va_X E.2.2.2 Ln xs s s.heap ∧ E.2.2.2 < pB E ∧ pB E = s.heap.size
def ZL : PZ := fun _ below args s => lw_Z below args s
section LAW
variable {M : MD} {l : Launch} {R : Room} {Z : PZ} {cells slots pc Ln : Nat} {xs : Nat → Int32} {L : List (Option Value)} {st : List Value} {G : PH} {z : UInt32}
theorem P_sld {i : Int32} (hd : decode (mdC M) pc = .ok (.iaload, 1)) (hin : vp_in i Ln) (kk : WP M l R Z (XL Ln xs) cells slots (pc + 1) L (.int (xs i.toNatClampNeg) :: st) G) : WP M l R Z (XL Ln xs) cells slots pc L (.int i :: .float z :: st) G := by
  intro E p e s m args below meth c H locs Ls hC hX hR hS hL
  obtain ⟨ea, hx, hbl, hB⟩ := id hX
  exact va_sld hC.1 hC.2.1 hx (by rw [← hB]; exact hbl) (Nat.not_le.mpr hbl) hS hin hd (kk E p e s m args below meth c H locs Ls hC hX hR hS hL)
theorem P_slen (hd : decode (mdC M) pc = .ok (.arraylength, 1)) (kk : WP M l R Z (XL Ln xs) cells slots (pc + 1) L (.int (nI Ln) :: st) G) : WP M l R Z (XL Ln xs) cells slots pc L (.float z :: st) G := by
  intro E p e s m args below meth c H locs Ls hC hX hR hS hL
  obtain ⟨ea, hx, hbl, hB⟩ := id hX
  exact va_slen hC.1 hC.2.1 hx (by rw [← hB]; exact hbl) (Nat.not_le.mpr hbl) hS hd (kk E p e s m args below meth c H locs Ls hC hX hR hS hL)
theorem P_law1 (hd : decode (mdC mL_law) pc = .ok (.ireturn, 1)) (h1 : cells ≤ 600000) (h2 : slots ≤ 7302250) : WP mL_law l room_1 ZL (XL Ln xs) cells slots pc L [.int 1] G := by
  intro E p e s m args below meth c H locs Ls hC hX hR hS hL
  obtain ⟨rfl, hx, hbl, hB⟩ := hX
  refine va_forget (fun q hq => by have := hS.2.2 q hq; rw [← hB]; exact this) ?_
  exact W.widen h1 h2 (lw_ret hC.1 hC.2.1 hC.2.2.2.1 hC.2.2.2.2.1 hd)
end LAW
abbrev LL (i : Nat) : List (Option Value) := [some (.float 0), some (.ref 0), some (.ref 164), some (.int (nI i))]
theorem six {i Ln k : Nat} (hi : i + 5 ≤ Ln) (hL : Ln ≤ 2560) (hk : k < 5) : vp_in (nI i + nI k) Ln := by
  rw [nI_add]; exact vp_in_nI (by omega) (by omega)
theorem law_end {i Ln : Nat} (hL : Ln ≤ 2560) (hi : i ≤ Ln) (h : ¬ nI Ln - 5 < nI i) : i + 5 ≤ Ln := by
  by_cases e : 5 ≤ Ln
  · have e1 : nI Ln - 5 = nI (Ln - 5) := by
      have : nI (Ln - 5) + 5 = nI Ln := by rw [show (5 : Int32) = nI 5 from rfl, nI_add]; congr 1; omega
      rw [← this, Int32.add_sub_cancel]
    rw [e1] at h
    have : ¬ Ln - 5 < i := fun q => h (nI_lt q (by omega))
    omega
  · exfalso
    apply h
    rcases (by omega : Ln = 0 ∨ Ln = 1 ∨ Ln = 2 ∨ Ln = 3 ∨ Ln = 4) with rfl | rfl | rfl | rfl | rfl
    · rw [show i = 0 by omega]; decide
    · rcases (by omega : i = 0 ∨ i = 1) with rfl | rfl <;> decide
    · rcases (by omega : i = 0 ∨ i = 1 ∨ i = 2) with rfl | rfl | rfl <;> decide
    · rcases (by omega : i = 0 ∨ i = 1 ∨ i = 2 ∨ i = 3) with rfl | rfl | rfl | rfl <;> decide
    · rcases (by omega : i = 0 ∨ i = 1 ∨ i = 2 ∨ i = 3 ∨ i = 4) with rfl | rfl | rfl | rfl | rfl <;> decide
