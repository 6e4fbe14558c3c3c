/-! The abstract heap: cells by handles (handle h stands for the address B + h), and what it says of the machine's heap. -/
abbrev PCell : Type := (Nat × vp_A) ⊕ (Nat × List Value)
abbrev PH : Type := List PCell
/-- classes and slots, array classes, the first address that is ours, the script's address -/
abbrev PE : Type := va_G × (Nat → ClassId) × Nat × Nat
def pB (E : PE) : Nat := E.2.2.1
def cv (E : PE) (v : Value) : Value := match v with
  | .ref h => .ref (pB E + h)
  | .float _ => .ref E.2.2.2
  | v => v
def ca (E : PE) (a : vp_A) : vp_A := match a with
  | (n, .inl f) => (n, .inl f)
  | (n, .inr (.inl f)) => (n, .inr (.inl f))
  | (n, .inr (.inr (.inl f))) => (n, .inr (.inr (.inl f)))
  | (n, .inr (.inr (.inr (.inl f)))) => (n, .inr (.inr (.inr (.inl f))))
  | (n, .inr (.inr (.inr (.inr f)))) => (n, .inr (.inr (.inr (.inr (fun j => (f j).map (fun h => pB E + h))))))
def ce (E : PE) (c : PCell) : va_E := match c with
  | .inl a => .inl (E.2.1 a.1, ca E a.2)
  | .inr q => .inr (q.1, q.2.map (cv E))
def wl (E : PE) (G : PH) : va_W := G.mapIdx (fun h c => (pB E + h, ce E c))
theorem wl_get {E : PE} {G : PH} {h : Nat} {c : PCell} (hG : G[h]? = some c) : (wl E G)[h]? = some (pB E + h, ce E c) := by
  unfold wl; rw [List.getElem?_mapIdx, hG]; rfl
theorem wl_of {E : PE} {G : PH} {h : Nat} {q : Nat × va_E} (hq : (wl E G)[h]? = some q) : ∃ c, G[h]? = some c ∧ q = (pB E + h, ce E c) := by
  unfold wl at hq; rw [List.getElem?_mapIdx] at hq
  cases hG : G[h]? with
  | none => rw [hG] at hq; cases hq
  | some c => rw [hG] at hq; exact ⟨c, rfl, (Option.some.inj hq).symm⟩
theorem wl_D (E : PE) (G : PH) : va_D (fun q => pB E ≤ q) (wl E G) := by
  refine ⟨fun i j x y hi hj hxy => ?_, fun k q hk => ?_⟩
  · obtain ⟨c1, -, rfl⟩ := wl_of hi
    obtain ⟨c2, -, rfl⟩ := wl_of hj
    exact Nat.add_left_cancel hxy
  · obtain ⟨c1, -, rfl⟩ := wl_of hk
    exact Nat.le_add_right _ _
def tyl (E : PE) : List (ClassId × FieldType) := [(E.2.1 0, .int), (E.2.1 1, .long), (E.2.1 2, .boolean), (E.2.1 3, .object RX6), (E.2.1 4, .object RX4)]
/-- what is known of the tables all the while -/
def Kn (E : PE) (U : State) : Prop := va_K E.1 cls11 (tyl E) U ∧ va_Nw (.methodLinkNest RX8 121 yX9_outOf RX9) U ∧ va_Nw (.methodLinkNest RX5 42 yX9_outOf RX9) U ∧ va_AO RX6 U ∧ va_AO RX4 U
theorem Kn.warm {E : PE} {s U : State} (hW : s.WarmedH U.vm) (h : Kn E s) : Kn E U := ⟨va_K.moved hW.alike h.1, va_Nw.warmM hW h.2.1, va_Nw.warmM hW h.2.2.1, va_AO.moved hW.alike h.2.2.2.1, va_AO.moved hW.alike h.2.2.2.2⟩
theorem Kn.same {E : PE} {s U : State} (h : s.vm = U.vm) (k : Kn E s) : Kn E U := by
  have hA : s.vm.Alike U.vm := h ▸ Vm.Alike.refl s.vm
  exact ⟨va_K.moved hA k.1, va_Nw.same rfl h k.2.1, va_Nw.same rfl h k.2.2.1, va_AO.moved hA k.2.2.2.1, va_AO.moved hA k.2.2.2.2⟩
def Rep (E : PE) (G : PH) (H : Heap) : Prop := H.size = pB E + G.length ∧ va_P E.1 cls11 (wl E G) H
theorem Rep.at {E : PE} {G : PH} {H : Heap} (hR : Rep E G H) {h : Nat} {c : PCell} (hG : G[h]? = some c) : va_at E.1 cls11 (pB E + h, ce E c) H := hR.2 h _ (wl_get hG)
theorem Rep.set {E : PE} {G : PH} {H H1 : Heap} (hR : Rep E G H) {h : Nat} {c : PCell} (e : va_at E.1 cls11 (pB E + h, ce E c) H1) (z : H1.size = H.size) (oq : ∀ q : Nat, q ≠ pB E + h → H1[q]? = H[q]?) : Rep E (G.set h c) H1 := by
  refine ⟨by rw [z, hR.1, List.length_set], fun k q hk => ?_⟩
  obtain ⟨c1, h1, rfl⟩ := wl_of hk
  by_cases hkh : k = h
  · subst hkh
    by_cases hl : k < G.length
    · rw [List.getElem?_set_self hl] at h1
      cases h1
      exact e
    · rw [List.getElem?_eq_none (by rw [List.length_set]; omega)] at h1
      cases h1
  · rw [List.getElem?_set_ne (Ne.symm hkh)] at h1
    exact (hR.at h1).kept (oq _ (fun z => hkh (Nat.add_left_cancel z)))
theorem Rep.push {E : PE} {G : PH} {H H1 : Heap} (hR : Rep E G H) {c : PCell} (e : va_at E.1 cls11 (H.size, ce E c) H1) (z : H1.size = H.size + 1) (oq : ∀ q : Nat, q < H.size → H1[q]? = H[q]?) : Rep E (G ++ [c]) H1 := by
  refine ⟨by rw [z, hR.1, List.length_append]; rfl, fun k q hk => ?_⟩
  obtain ⟨c1, h1, rfl⟩ := wl_of hk
  by_cases hl : k < G.length
  · rw [List.getElem?_append_left hl] at h1
    exact (hR.at h1).kept (oq _ (by rw [hR.1]; omega))
  · rw [List.getElem?_append_right (by omega)] at h1
    have hz : k - G.length < 1 := (List.getElem?_eq_some_iff.mp h1).1
    have hk0 : k = G.length := by omega
    subst hk0
    rw [Nat.sub_self] at h1
    cases h1
    rw [← hR.1]
    exact e
/-- the locals -/
def Has (E : PE) (Ls : Array Slot) (n : Nat) (L : List (Option Value)) : Prop := Ls.size = n ∧ lv_wf Ls ∧ ∀ (i : Nat) (v : Value), L[i]? = some (some v) → Ls[i]? = some (.val (cv E v))
theorem cv_cat (E : PE) (v : Value) : (cv E v).category = v.category := by cases v <;> rfl
theorem cv_cats (E : PE) (st : List Value) : ((st.map (cv E)).map fun v => v.category).sum = (st.map fun v => v.category).sum := by
  rw [List.map_map]; congr 1; apply List.map_congr_left; intro v _; exact cv_cat E v
/-- the context of a method's body -/
def Cx (M : MD) (E : PE) (p : Program) (s : State) (m : MethodId) (args : Array Value) (meth : Method) (c : Code) : Prop :=
  p.tables.exec = Jvm.exec ∧ c.code = mdC M ∧ c.maxLocals = mdL M ∧ meth.sig.returnType = mdR M ∧ meth.locks = false ∧ s.vm.findClass (mdN M).cls = some m.cls ∧ (∀ w ∈ TB, w.before args s = true) ∧ Kn E s ∧ pB E ≤ s.heap.size ∧ meth.name = (mdN M).name
abbrev PZ : Type := PE → List Frame → Array Value → State → State → Prop
abbrev PX : Type := PE → State → Array Value → Prop
def WP (M : MD) (l : Launch) (R : Room) (Z : PZ) (X : PX) (cells slots pc : Nat) (L : List (Option Value)) (st : List Value) (G : PH) : Prop :=
  ∀ (E : PE) (p : Program) (e : Env) (s : State) (m : MethodId) (args : Array Value) (below : List Frame) (meth : Method) (c : Code) (H : Heap) (locs : List Loc) (Ls : Array Slot),
    Cx M E p s m args meth c → X E s args → Rep E G H → va_S (fun q => pB E ≤ q) s.heap H locs → Has E Ls (mdL M) L →
    W p l e R s m args below meth c H locs cells slots (Z E below args s) (F0 m pc Ls (st.map (cv E)))
def Pst (E : PE) (Q : Option Value → PH → Prop) : Array Value → State → Outcome → State → Prop := fun _ st oc t => (∃ (v : Option Value) (G : PH), oc = .returned (v.map (cv E)) ∧ Q v G ∧ Rep E G t.heap ∧ Kn E t) ∧ st.heap.size ≤ t.heap.size ∧ ∀ q : Nat, q < pB E → t.heap[q]? = st.heap[q]?
def ZM (mc ms : Nat) (Q : Option Value → PH → Prop) : PZ := fun E below args s => MQ below (Pst E Q) args s mc ms (fun q => pB E ≤ q)
def XT : PX := fun _ _ _ => True
def wsM (M : MD) : List Cond := Cond.code (mdN M) (mdC M) (mdL M) (mdR M) :: TB
abbrev rmM (M : MD) (mc ms : Nat) : Room := { frames := mdF M, cells := mc, slots := ms, locals := mdO M }
/-- a method's contract: from the heap G, with these arguments, it ends with Q -/
def Tri (l : Launch) (M : MD) (mc ms : Nat) (av : List Value) (G : PH) (Q : Option Value → PH → Prop) : Prop :=
  ∀ E : PE, Met l (mdN M) (wsM M) (rmM M mc ms) (va_Pc (av.map (cv E)) (fun U => Rep E G U.heap ∧ Kn E U)) (Pst E Q) mc ms (fun q => pB E ≤ q)
/-- the locals with which a method begins -/
def ent : List Value → List (Option Value)
  | [] => []
  | v :: vs => if v.category = 2 then some v :: none :: ent vs else some v :: ent vs
theorem ent_args (E : PE) : ∀ (vs : List Value) (k i : Nat) (v : Value), (ent vs)[i]? = some (some v) → (k + i, cv E v) ∈ lv_args k (vs.map (cv E))
  | [], k, i, v, h => by simp [ent] at h
  | w :: ws, k, i, v, h => by
    have hc : (cv E w).category = w.category := cv_cat E w
    by_cases h2 : w.category = 2
    · simp only [ent, h2, if_true] at h
      simp only [List.map_cons, lv_args, hc, h2, if_true]
      match i, h with
      | 0, h => simp at h; subst h; exact List.mem_cons_self
      | 1, h => simp at h
      | i + 2, h =>
        have h' : (ent ws)[i]? = some (some v) := by simpa using h
        have := ent_args E ws (k + 2) i v h'
        exact List.mem_cons_of_mem _ (by rw [show k + (i + 2) = k + 2 + i by omega]; exact this)
    · simp only [ent, h2, if_false] at h
      simp only [List.map_cons, lv_args, hc, h2, if_false]
      match i, h with
      | 0, h => simp at h; subst h; exact List.mem_cons_self
      | i + 1, h =>
        have h' : (ent ws)[i]? = some (some v) := by simpa using h
        have := ent_args E ws (k + 1) i v h'
        exact List.mem_cons_of_mem _ (by rw [show k + (i + 1) = k + 1 + i by omega]; exact this)
theorem ent_len (E : PE) : ∀ vs : List Value, (lg_sl (vs.map (cv E))).length = (ent vs).length
  | [] => rfl
  | w :: ws => by
    have ih := ent_len E ws
    have hc : (cv E w).category = w.category := cv_cat E w
    show ((if (cv E w).category = 2 then [Slot.val (cv E w), Slot.second] else [Slot.val (cv E w)]) ++ lg_sl (ws.map (cv E))).length = _
    rw [List.length_append, ih, hc]
    by_cases h2 : w.category = 2
    · simp [ent, h2]; omega
    · simp [ent, h2]; omega
theorem has_entry (E : PE) (av : List Value) (n : Nat) (L : List (Option Value)) (hn : (ent av).length ≤ n) (hL : ent av ++ List.replicate (n - (ent av).length) none = L) : Has E ((lg_sl (av.map (cv E)) ++ List.replicate (n - (lg_sl (av.map (cv E))).length) Slot.unset).toArray) n L := by
  have h := lv_entry (av.map (cv E)) (n := n) (by rw [ent_len]; exact hn)
  refine ⟨h.1, h.2.1, fun i v hi => ?_⟩
  subst hL
  have hi' : (ent av)[i]? = some (some v) := by
    by_cases hl : i < (ent av).length
    · rwa [List.getElem?_append_left hl] at hi
    · rw [List.getElem?_append_right (by omega)] at hi
      have := List.eq_of_mem_replicate (List.mem_of_getElem? hi)
      cases this
  have := ent_args E av 0 i v hi'
  rw [Nat.zero_add] at this
  exact h.2.2 _ this
theorem Tri.intro {l : Launch} {M : MD} {mc ms n : Nat} {av : List Value} {G : PH} {Q : Option Value → PH → Prop} {L : List (Option Value)} (ok : OKm M n) (hn : (ent av).length ≤ mdL M) (hL : ent av ++ List.replicate (mdL M - (ent av).length) none = L)
    (h : WP M l (rmM M mc ms) (ZM mc ms Q) XT 0 0 0 L [] G) : Tri l M mc ms av G Q := by
  intro E
  refine va_MetF (cc := mdC M) (maxL := mdL M) (ret := mdR M) ok.2.2.1 rfl ?_
  intro p e s m args below meth c s₁ B hml hv
  obtain ⟨rfl, hR, hK⟩ := hv
  have hts := atoms_spec (ws := wsM M) B.pre
  have hown : s.vm.findClass (mdN M).cls = some m.cls := findClass_of_methodNamed B.named
  rw [lg_entry_eq]
  exact h E p e s m _ below meth c s.heap [] _ ⟨B.exec, B.bytes, hml, B.returns, B.notSynchronized, hown, fun w hw => hts w (List.mem_cons_of_mem _ hw), hK, by rw [hR.1]; exact Nat.le_add_right _ _, (name_of_methodNamed B.named B.method).1⟩ trivial hR va_S.rf (has_entry E av (mdL M) L hn hL)
section RULES
variable {M : MD} {l : Launch} {R : Room} {Z : PZ} {X : PX} {cells slots pc : Nat} {L L' : List (Option Value)} {st : List Value} {G : PH}
theorem P_iadd {x y : Int32} (hd : decode (mdC M) pc = .ok (.iadd, 1)) (k : WP M l R Z X cells slots (pc + 1) L (.int (x + y) :: st) G) : WP M l R Z X cells slots pc L (.int y :: .int x :: st) G :=
  fun E p e s m args below meth c H locs Ls hC hX hR hS hL => lv_iadd hC.1 hC.2.1 hd (k E p e s m args below meth c H locs Ls hC hX hR hS hL)
theorem P_isub {x y : Int32} (hd : decode (mdC M) pc = .ok (.isub, 1)) (k : WP M l R Z X cells slots (pc + 1) L (.int (x - y) :: st) G) : WP M l R Z X cells slots pc L (.int y :: .int x :: st) G :=
  fun E p e s m args below meth c H locs Ls hC hX hR hS hL => lv_isub hC.1 hC.2.1 hd (k E p e s m args below meth c H locs Ls hC hX hR hS hL)
theorem P_imul {x y : Int32} (hd : decode (mdC M) pc = .ok (.imul, 1)) (k : WP M l R Z X cells slots (pc + 1) L (.int (x * y) :: st) G) : WP M l R Z X cells slots pc L (.int y :: .int x :: st) G :=
  fun E p e s m args below meth c H locs Ls hC hX hR hS hL => lv_imul hC.1 hC.2.1 hd (k E p e s m args below meth c H locs Ls hC hX hR hS hL)
theorem P_iand {x y : Int32} (hd : decode (mdC M) pc = .ok (.iand, 1)) (k : WP M l R Z X cells slots (pc + 1) L (.int (x &&& y) :: st) G) : WP M l R Z X cells slots pc L (.int y :: .int x :: st) G :=
  fun E p e s m args below meth c H locs Ls hC hX hR hS hL => lv_iand hC.1 hC.2.1 hd (k E p e s m args below meth c H locs Ls hC hX hR hS hL)
theorem P_ior {x y : Int32} (hd : decode (mdC M) pc = .ok (.ior, 1)) (k : WP M l R Z X cells slots (pc + 1) L (.int (x ||| y) :: st) G) : WP M l R Z X cells slots pc L (.int y :: .int x :: st) G :=
  fun E p e s m args below meth c H locs Ls hC hX hR hS hL => lv_ior hC.1 hC.2.1 hd (k E p e s m args below meth c H locs Ls hC hX hR hS hL)
theorem P_ishl {x y : Int32} (hd : decode (mdC M) pc = .ok (.ishl, 1)) (k : WP M l R Z X cells slots (pc + 1) L (.int (x <<< (y &&& 31)) :: st) G) : WP M l R Z X cells slots pc L (.int y :: .int x :: st) G :=
  fun E p e s m args below meth c H locs Ls hC hX hR hS hL => lv_ishl hC.1 hC.2.1 hd (k E p e s m args below meth c H locs Ls hC hX hR hS hL)
theorem P_ishr {x y : Int32} (hd : decode (mdC M) pc = .ok (.ishr, 1)) (k : WP M l R Z X cells slots (pc + 1) L (.int (x >>> (y &&& 31)) :: st) G) : WP M l R Z X cells slots pc L (.int y :: .int x :: st) G :=
  fun E p e s m args below meth c H locs Ls hC hX hR hS hL => lv_ishr hC.1 hC.2.1 hd (k E p e s m args below meth c H locs Ls hC hX hR hS hL)
theorem P_ixor {x y : Int32} (hd : decode (mdC M) pc = .ok (.ixor, 1)) (k : WP M l R Z X cells slots (pc + 1) L (.int (x ^^^ y) :: st) G) : WP M l R Z X cells slots pc L (.int y :: .int x :: st) G :=
  fun E p e s m args below meth c H locs Ls hC hX hR hS hL => lv_ixor hC.1 hC.2.1 hd (k E p e s m args below meth c H locs Ls hC hX hR hS hL)
theorem P_ladd {x y : Int64} (hd : decode (mdC M) pc = .ok (.ladd, 1)) (k : WP M l R Z X cells slots (pc + 1) L (.long (x + y) :: st) G) : WP M l R Z X cells slots pc L (.long y :: .long x :: st) G :=
  fun E p e s m args below meth c H locs Ls hC hX hR hS hL => lv_ladd hC.1 hC.2.1 hd (k E p e s m args below meth c H locs Ls hC hX hR hS hL)
theorem P_lsub {x y : Int64} (hd : decode (mdC M) pc = .ok (.lsub, 1)) (k : WP M l R Z X cells slots (pc + 1) L (.long (x - y) :: st) G) : WP M l R Z X cells slots pc L (.long y :: .long x :: st) G :=
  fun E p e s m args below meth c H locs Ls hC hX hR hS hL => lv_lsub hC.1 hC.2.1 hd (k E p e s m args below meth c H locs Ls hC hX hR hS hL)
theorem P_lmul {x y : Int64} (hd : decode (mdC M) pc = .ok (.lmul, 1)) (k : WP M l R Z X cells slots (pc + 1) L (.long (x * y) :: st) G) : WP M l R Z X cells slots pc L (.long y :: .long x :: st) G :=
  fun E p e s m args below meth c H locs Ls hC hX hR hS hL => lv_lmul hC.1 hC.2.1 hd (k E p e s m args below meth c H locs Ls hC hX hR hS hL)
theorem P_land {x y : Int64} (hd : decode (mdC M) pc = .ok (.land, 1)) (k : WP M l R Z X cells slots (pc + 1) L (.long (x &&& y) :: st) G) : WP M l R Z X cells slots pc L (.long y :: .long x :: st) G :=
  fun E p e s m args below meth c H locs Ls hC hX hR hS hL => lv_land hC.1 hC.2.1 hd (k E p e s m args below meth c H locs Ls hC hX hR hS hL)
theorem P_lor {x y : Int64} (hd : decode (mdC M) pc = .ok (.lor, 1)) (k : WP M l R Z X cells slots (pc + 1) L (.long (x ||| y) :: st) G) : WP M l R Z X cells slots pc L (.long y :: .long x :: st) G :=
  fun E p e s m args below meth c H locs Ls hC hX hR hS hL => lv_lor hC.1 hC.2.1 hd (k E p e s m args below meth c H locs Ls hC hX hR hS hL)
theorem P_lxor {x y : Int64} (hd : decode (mdC M) pc = .ok (.lxor, 1)) (k : WP M l R Z X cells slots (pc + 1) L (.long (x ^^^ y) :: st) G) : WP M l R Z X cells slots pc L (.long y :: .long x :: st) G :=
  fun E p e s m args below meth c H locs Ls hC hX hR hS hL => lv_lxor hC.1 hC.2.1 hd (k E p e s m args below meth c H locs Ls hC hX hR hS hL)
theorem P_idiv {x y : Int32} (hd : decode (mdC M) pc = .ok (.idiv, 1)) (hne : ¬ y = 0) (k : WP M l R Z X cells slots (pc + 1) L (.int (x / y) :: st) G) : WP M l R Z X cells slots pc L (.int y :: .int x :: st) G :=
  fun E p e s m args below meth c H locs Ls hC hX hR hS hL => lv_idiv hC.1 hC.2.1 hd hne (k E p e s m args below meth c H locs Ls hC hX hR hS hL)
theorem P_irem {x y : Int32} (hd : decode (mdC M) pc = .ok (.irem, 1)) (hne : ¬ y = 0) (k : WP M l R Z X cells slots (pc + 1) L (.int (x - x / y * y) :: st) G) : WP M l R Z X cells slots pc L (.int y :: .int x :: st) G :=
  fun E p e s m args below meth c H locs Ls hC hX hR hS hL => lv_irem hC.1 hC.2.1 hd hne (k E p e s m args below meth c H locs Ls hC hX hR hS hL)
theorem P_ldiv {x y : Int64} (hd : decode (mdC M) pc = .ok (.ldiv, 1)) (hne : ¬ y = 0) (k : WP M l R Z X cells slots (pc + 1) L (.long (x / y) :: st) G) : WP M l R Z X cells slots pc L (.long y :: .long x :: st) G :=
  fun E p e s m args below meth c H locs Ls hC hX hR hS hL => lv_ldiv hC.1 hC.2.1 hd hne (k E p e s m args below meth c H locs Ls hC hX hR hS hL)
theorem P_lrem {x y : Int64} (hd : decode (mdC M) pc = .ok (.lrem, 1)) (hne : ¬ y = 0) (k : WP M l R Z X cells slots (pc + 1) L (.long (x - x / y * y) :: st) G) : WP M l R Z X cells slots pc L (.long y :: .long x :: st) G :=
  fun E p e s m args below meth c H locs Ls hC hX hR hS hL => lv_lrem hC.1 hC.2.1 hd hne (k E p e s m args below meth c H locs Ls hC hX hR hS hL)
theorem P_lneg {x : Int64} (hd : decode (mdC M) pc = .ok (.lneg, 1)) (k : WP M l R Z X cells slots (pc + 1) L (.long (-x) :: st) G) : WP M l R Z X cells slots pc L (.long x :: st) G :=
  fun E p e s m args below meth c H locs Ls hC hX hR hS hL => lv_lneg hC.1 hC.2.1 hd (k E p e s m args below meth c H locs Ls hC hX hR hS hL)
theorem P_i2l {x : Int32} (hd : decode (mdC M) pc = .ok (.i2l, 1)) (k : WP M l R Z X cells slots (pc + 1) L (.long x.toInt64 :: st) G) : WP M l R Z X cells slots pc L (.int x :: st) G :=
  fun E p e s m args below meth c H locs Ls hC hX hR hS hL => lv_i2l hC.1 hC.2.1 hd rfl (k E p e s m args below meth c H locs Ls hC hX hR hS hL)
theorem P_l2i {x : Int64} (hd : decode (mdC M) pc = .ok (.l2i, 1)) (k : WP M l R Z X cells slots (pc + 1) L (.int x.toInt32 :: st) G) : WP M l R Z X cells slots pc L (.long x :: st) G :=
  fun E p e s m args below meth c H locs Ls hC hX hR hS hL => lv_l2i hC.1 hC.2.1 hd rfl (k E p e s m args below meth c H locs Ls hC hX hR hS hL)
theorem P_lshl {x : Int64} {y : Int32} (hd : decode (mdC M) pc = .ok (.lshl, 1)) (k : WP M l R Z X cells slots (pc + 1) L (.long (x <<< (y.toInt64 &&& 63)) :: st) G) : WP M l R Z X cells slots pc L (.int y :: .long x :: st) G :=
  fun E p e s m args below meth c H locs Ls hC hX hR hS hL => lv_lshl hC.1 hC.2.1 hd rfl (k E p e s m args below meth c H locs Ls hC hX hR hS hL)
theorem P_lcmp {x y : Int64} (hd : decode (mdC M) pc = .ok (.lcmp, 1)) (k : WP M l R Z X cells slots (pc + 1) L (.int (lg_cmp x y) :: st) G) : WP M l R Z X cells slots pc L (.long y :: .long x :: st) G :=
  fun E p e s m args below meth c H locs Ls hC hX hR hS hL => W.lcmp hC.1 hC.2.1 hd (k E p e s m args below meth c H locs Ls hC hX hR hS hL)
theorem P_dup {v : Value} (hd : decode (mdC M) pc = .ok (.dup, 1)) (hv : v.category = 1) (k : WP M l R Z X cells slots (pc + 1) L (v :: v :: st) G) : WP M l R Z X cells slots pc L (v :: st) G :=
  fun E p e s m args below meth c H locs Ls hC hX hR hS hL => lv_dup hC.1 hC.2.1 hd ((cv_cat E v).trans hv) (k E p e s m args below meth c H locs Ls hC hX hR hS hL)
theorem P_dup2 {v w : Value} (hd : decode (mdC M) pc = .ok (.dup2, 1)) (hv : v.category = 1) (hw : w.category = 1) (k : WP M l R Z X cells slots (pc + 1) L (v :: w :: v :: w :: st) G) : WP M l R Z X cells slots pc L (v :: w :: st) G :=
  fun E p e s m args below meth c H locs Ls hC hX hR hS hL => lv_dup2_11 hC.1 hC.2.1 hd ((cv_cat E v).trans hv) ((cv_cat E w).trans hw) (k E p e s m args below meth c H locs Ls hC hX hR hS hL)
theorem P_pop2 {v : Value} (hd : decode (mdC M) pc = .ok (.pop2, 1)) (hv : v.category = 2) (k : WP M l R Z X cells slots (pc + 1) L (st) G) : WP M l R Z X cells slots pc L (v :: st) G :=
  fun E p e s m args below meth c H locs Ls hC hX hR hS hL => lv_pop2_2 hC.1 hC.2.1 hd ((cv_cat E v).trans hv) (k E p e s m args below meth c H locs Ls hC hX hR hS hL)
theorem P_iconst {n : Int} {v : Int32} (hd : decode (mdC M) pc = .ok (.iconst n, 1)) (hv : Int32.ofInt n = v) (k : WP M l R Z X cells slots (pc + 1) L (.int v :: st) G) : WP M l R Z X cells slots pc L (st) G :=
  fun E p e s m args below meth c H locs Ls hC hX hR hS hL => lv_iconst hC.1 hC.2.1 hd hv (k E p e s m args below meth c H locs Ls hC hX hR hS hL)
theorem P_bipush {n : Int} {v : Int32} (hd : decode (mdC M) pc = .ok (.bipush n, 2)) (hv : (Int8.ofInt n).toInt32 = v) (k : WP M l R Z X cells slots (pc + 2) L (.int v :: st) G) : WP M l R Z X cells slots pc L (st) G :=
  fun E p e s m args below meth c H locs Ls hC hX hR hS hL => lv_bipush hC.1 hC.2.1 hd hv (k E p e s m args below meth c H locs Ls hC hX hR hS hL)
theorem P_sipush {n : Int} {v : Int32} (hd : decode (mdC M) pc = .ok (.sipush n, 3)) (hv : (Int16.ofInt n).toInt32 = v) (k : WP M l R Z X cells slots (pc + 3) L (.int v :: st) G) : WP M l R Z X cells slots pc L (st) G :=
  fun E p e s m args below meth c H locs Ls hC hX hR hS hL => lv_sipush hC.1 hC.2.1 hd hv (k E p e s m args below meth c H locs Ls hC hX hR hS hL)
theorem P_lconst {n : Fin 2} {v : Int64} (hd : decode (mdC M) pc = .ok (.lconst n, 1)) (hv : Int64.ofNat (n : Nat) = v) (k : WP M l R Z X cells slots (pc + 1) L (.long v :: st) G) : WP M l R Z X cells slots pc L (st) G :=
  fun E p e s m args below meth c H locs Ls hC hX hR hS hL => lv_lconst hC.1 hC.2.1 hd hv (k E p e s m args below meth c H locs Ls hC hX hR hS hL)
theorem P_null  (hd : decode (mdC M) pc = .ok (.aconst_null, 1)) (k : WP M l R Z X cells slots (pc + 1) L (.null :: st) G) : WP M l R Z X cells slots pc L (st) G :=
  fun E p e s m args below meth c H locs Ls hC hX hR hS hL => lv_null hC.1 hC.2.1 hd (k E p e s m args below meth c H locs Ls hC hX hR hS hL)
theorem P_ldc {i : Nat} {v : Int32} (hd : decode (mdC M) pc = .ok (.ldc i, 2)) (hw : Cond.constant (mdN M).cls i v ∈ TB) (k : WP M l R Z X cells slots (pc + 2) L (.int v :: st) G) : WP M l R Z X cells slots pc L (st) G :=
  fun E p e s m args below meth c H locs Ls hC hX hR hS hL => lv_ldc hC.1 hC.2.1 hC.2.2.2.2.2.1 (hC.2.2.2.2.2.2.1 _ hw) hd (k E p e s m args below meth c H locs Ls hC hX hR hS hL)
theorem P_ldcw {i : Nat} {v : Int32} (hd : decode (mdC M) pc = .ok (.ldc_w i, 3)) (hw : Cond.constant (mdN M).cls i v ∈ TB) (k : WP M l R Z X cells slots (pc + 3) L (.int v :: st) G) : WP M l R Z X cells slots pc L (st) G :=
  fun E p e s m args below meth c H locs Ls hC hX hR hS hL => lv_ldcw hC.1 hC.2.1 hC.2.2.2.2.2.1 (hC.2.2.2.2.2.2.1 _ hw) hd (k E p e s m args below meth c H locs Ls hC hX hR hS hL)
theorem P_ldc2 {i : Nat} {v : Int64} (hd : decode (mdC M) pc = .ok (.ldc2_w i, 3)) (hw : Cond.constantLong (mdN M).cls i v ∈ TB) (k : WP M l R Z X cells slots (pc + 3) L (.long v :: st) G) : WP M l R Z X cells slots pc L (st) G :=
  fun E p e s m args below meth c H locs Ls hC hX hR hS hL => lv_ldc2 hC.1 hC.2.1 hC.2.2.2.2.2.1 (hC.2.2.2.2.2.2.1 _ hw) hd (k E p e s m args below meth c H locs Ls hC hX hR hS hL)
theorem P_iload_n {i : Fin 4} {x : Int32} (hd : decode (mdC M) pc = .ok (.iload_n i, 1)) (hl : L[(i : Nat)]? = some (some (.int x))) (k : WP M l R Z X cells slots (pc + 1) L (.int x :: st) G) : WP M l R Z X cells slots pc L (st) G :=
  fun E p e s m args below meth c H locs Ls hC hX hR hS hL => lv_iload_n hC.1 hC.2.1 hd rfl (hL.2.2 _ _ hl) (k E p e s m args below meth c H locs Ls hC hX hR hS hL)
theorem P_iload {i : Nat} {x : Int32} (hd : decode (mdC M) pc = .ok (.iload i, 2)) (hl : L[i]? = some (some (.int x))) (k : WP M l R Z X cells slots (pc + 2) L (.int x :: st) G) : WP M l R Z X cells slots pc L (st) G :=
  fun E p e s m args below meth c H locs Ls hC hX hR hS hL => lv_iload hC.1 hC.2.1 hd (hL.2.2 _ _ hl) (k E p e s m args below meth c H locs Ls hC hX hR hS hL)
theorem P_lload_n {i : Fin 4} {x : Int64} (hd : decode (mdC M) pc = .ok (.lload_n i, 1)) (hl : L[(i : Nat)]? = some (some (.long x))) (k : WP M l R Z X cells slots (pc + 1) L (.long x :: st) G) : WP M l R Z X cells slots pc L (st) G :=
  fun E p e s m args below meth c H locs Ls hC hX hR hS hL => lv_lload_n hC.1 hC.2.1 hd rfl (hL.2.2 _ _ hl) (k E p e s m args below meth c H locs Ls hC hX hR hS hL)
theorem P_lload {i : Nat} {x : Int64} (hd : decode (mdC M) pc = .ok (.lload i, 2)) (hl : L[i]? = some (some (.long x))) (k : WP M l R Z X cells slots (pc + 2) L (.long x :: st) G) : WP M l R Z X cells slots pc L (st) G :=
  fun E p e s m args below meth c H locs Ls hC hX hR hS hL => lv_lload hC.1 hC.2.1 hd (hL.2.2 _ _ hl) (k E p e s m args below meth c H locs Ls hC hX hR hS hL)
theorem P_aload_n {i : Fin 4} {x : Nat} (hd : decode (mdC M) pc = .ok (.aload_n i, 1)) (hl : L[(i : Nat)]? = some (some (.ref x))) (k : WP M l R Z X cells slots (pc + 1) L (.ref x :: st) G) : WP M l R Z X cells slots pc L (st) G :=
  fun E p e s m args below meth c H locs Ls hC hX hR hS hL => lv_aload_n hC.1 hC.2.1 hd rfl (hL.2.2 _ _ hl) (k E p e s m args below meth c H locs Ls hC hX hR hS hL)
theorem P_aload {i : Nat} {x : Nat} (hd : decode (mdC M) pc = .ok (.aload i, 2)) (hl : L[i]? = some (some (.ref x))) (k : WP M l R Z X cells slots (pc + 2) L (.ref x :: st) G) : WP M l R Z X cells slots pc L (st) G :=
  fun E p e s m args below meth c H locs Ls hC hX hR hS hL => lv_aload hC.1 hC.2.1 hd (hL.2.2 _ _ hl) (k E p e s m args below meth c H locs Ls hC hX hR hS hL)
theorem P_aload_nF {i : Fin 4} {x : UInt32} (hd : decode (mdC M) pc = .ok (.aload_n i, 1)) (hl : L[(i : Nat)]? = some (some (.float x))) (k : WP M l R Z X cells slots (pc + 1) L (.float x :: st) G) : WP M l R Z X cells slots pc L (st) G :=
  fun E p e s m args below meth c H locs Ls hC hX hR hS hL => lv_aload_n hC.1 hC.2.1 hd rfl (hL.2.2 _ _ hl) (k E p e s m args below meth c H locs Ls hC hX hR hS hL)
theorem P_aload_nN {i : Fin 4} (hd : decode (mdC M) pc = .ok (.aload_n i, 1)) (hl : L[(i : Nat)]? = some (some .null)) (k : WP M l R Z X cells slots (pc + 1) L (.null :: st) G) : WP M l R Z X cells slots pc L (st) G :=
  fun E p e s m args below meth c H locs Ls hC hX hR hS hL => lv_aload_nN hC.1 hC.2.1 hd rfl (hL.2.2 _ _ hl) (k E p e s m args below meth c H locs Ls hC hX hR hS hL)
/-- storing: a long whose second half is hit goes -/
def clr (L : List (Option Value)) : Nat → List (Option Value)
  | 0 => L
  | i + 1 => match L[i]? with
    | some (some (.long _)) => L.set i none
    | some (some (.double _)) => L.set i none
    | _ => L
def sto (L : List (Option Value)) (i : Nat) (v : Value) : List (Option Value) := (clr L i).set i (some v)
def sto2 (L : List (Option Value)) (i : Nat) (v : Value) : List (Option Value) := ((clr L i).set i (some v)).set (i + 1) none
def al (E : PE) (L : List (Option Value)) : List (Nat × Value) := (List.range L.length).filterMap (fun i => (L[i]?).join.map (fun v => (i, cv E v)))
theorem al_mem {E : PE} {L : List (Option Value)} {i : Nat} {v : Value} (h : L[i]? = some (some v)) : (i, cv E v) ∈ al E L := by
  refine List.mem_filterMap.mpr ⟨i, List.mem_range.mpr (List.getElem?_eq_some_iff.mp h).1, ?_⟩
  rw [h]; rfl
theorem al_has {E : PE} {Ls : Array Slot} {n : Nat} {L : List (Option Value)} (h : Has E Ls n L) : lv_has Ls n (al E L) := by
  refine ⟨h.1, h.2.1, fun q hq => ?_⟩
  obtain ⟨i, -, hi⟩ := List.mem_filterMap.mp hq
  cases hL : L[i]? with
  | none => rw [hL] at hi; cases hi
  | some w =>
    cases w with
    | none => rw [hL] at hi; cases hi
    | some v =>
      rw [hL] at hi
      cases hi
      exact h.2.2 i v hL
theorem clr_get {L : List (Option Value)} {i j : Nat} {v : Value} (h : (clr L i)[j]? = some (some v)) : L[j]? = some (some v) ∧ ¬ (j + 1 = i ∧ v.category = 2) := by
  cases i with
  | zero => exact ⟨h, fun q => by omega⟩
  | succ i =>
    have key : ∀ w, L[i]? = some (some w) → w.category = 2 → (L.set i none)[j]? = some (some v) → L[j]? = some (some v) ∧ ¬ (j + 1 = i + 1 ∧ v.category = 2) := by
      intro w hw _ h
      by_cases hj : j = i
      · subst hj
        rw [List.getElem?_set_self (List.getElem?_eq_some_iff.mp hw).1] at h
        cases h
      · rw [List.getElem?_set_ne (Ne.symm hj)] at h
        exact ⟨h, fun q => by omega⟩
    have h' : (match L[i]? with | some (some (.long _)) => L.set i none | some (some (.double _)) => L.set i none | _ => L)[j]? = some (some v) := h
    split at h'
    · rename_i hw; exact key _ hw rfl h'
    · rename_i hw; exact key _ hw rfl h'
    · rename_i h1 h2
      refine ⟨h', fun q => ?_⟩
      have : j = i := by omega
      subst this
      cases v with
      | long x => exact h1 x h'
      | double x => exact h2 x h'
      | _ => simp [Value.category] at q
theorem sto_get {L : List (Option Value)} {i j : Nat} {v w : Value} (h : (sto L i v)[j]? = some (some w)) : (j = i ∧ w = v) ∨ (j ≠ i ∧ L[j]? = some (some w) ∧ ¬ (j + 1 = i ∧ w.category = 2)) := by
  unfold sto at h
  by_cases hj : j = i
  · subst hj
    rw [List.getElem?_set] at h
    split at h
    · split at h
      · cases h; exact Or.inl ⟨rfl, rfl⟩
      · cases h
    · rename_i hz; exact absurd rfl hz
  · rw [List.getElem?_set_ne (Ne.symm hj)] at h
    exact Or.inr ⟨hj, clr_get h⟩
theorem sto2_get {L : List (Option Value)} {i j : Nat} {v w : Value} (h : (sto2 L i v)[j]? = some (some w)) : (j = i ∧ w = v) ∨ (j ≠ i ∧ j ≠ i + 1 ∧ L[j]? = some (some w) ∧ ¬ (j + 1 = i ∧ w.category = 2)) := by
  unfold sto2 at h
  by_cases hj : j = i + 1
  · subst hj
    rw [List.getElem?_set] at h
    split at h
    · split at h <;> cases h
    · rename_i hz; exact absurd rfl hz
  · rw [List.getElem?_set_ne (Ne.symm hj)] at h
    rcases sto_get (show (sto L i v)[j]? = _ from h) with h | h
    · exact Or.inl h
    · exact Or.inr ⟨h.1, hj, h.2⟩
theorem has_sto {E : PE} {Ls' : Array Slot} {n i : Nat} {L L' : List (Option Value)} {v : Value} (hs : sto L i v = L') (h : lv_has Ls' n ((i, cv E v) :: (al E L).filter (fun q => !(q.1 == i) && !(q.1 + 1 == i && q.2.category == 2)))) : Has E Ls' n L' := by
  subst hs
  refine ⟨h.1, h.2.1, fun j w hw => ?_⟩
  rcases sto_get hw with ⟨rfl, rfl⟩ | ⟨h1, h2, h3⟩
  · exact h.2.2 _ List.mem_cons_self
  · refine h.2.2 (j, cv E w) (List.mem_cons_of_mem _ (List.mem_filter.mpr ⟨al_mem h2, ?_⟩))
    simp only [cv_cat]
    have h3' : j + 1 = i → ¬ w.category = 2 := fun a b => h3 ⟨a, b⟩
    simp [h1]
    exact (Classical.em (j + 1 = i)).elim (fun a => Or.inr (h3' a)) Or.inl
theorem has_sto2 {E : PE} {Ls' : Array Slot} {n i : Nat} {L L' : List (Option Value)} {v : Value} (hs : sto2 L i v = L') (h : lv_has Ls' n ((i, cv E v) :: (al E L).filter (fun q => !(q.1 == i) && (!(q.1 == i + 1) && !(q.1 + 1 == i && q.2.category == 2))))) : Has E Ls' n L' := by
  subst hs
  refine ⟨h.1, h.2.1, fun j w hw => ?_⟩
  rcases sto2_get hw with ⟨rfl, rfl⟩ | ⟨h1, h1', h2, h3⟩
  · exact h.2.2 _ List.mem_cons_self
  · refine h.2.2 (j, cv E w) (List.mem_cons_of_mem _ (List.mem_filter.mpr ⟨al_mem h2, ?_⟩))
    simp only [cv_cat]
    have h3' : j + 1 = i → ¬ w.category = 2 := fun a b => h3 ⟨a, b⟩
    simp [h1, h1']
    exact (Classical.em (j + 1 = i)).elim (fun a => Or.inr (h3' a)) Or.inl
theorem P_istore_n {i : Fin 4} {x : Int32} (hd : decode (mdC M) pc = .ok (.istore_n i, 1)) (hn : (i : Nat) < mdL M) (hs : sto L (i : Nat) (.int x) = L') (k : WP M l R Z X cells slots (pc + 1) L' st G) : WP M l R Z X cells slots pc L (.int x :: st) G :=
  fun E p e s m args below meth c H locs Ls hC hX hR hS hL => lv_istore_n hC.1 hC.2.1 hd rfl (al_has hL) hn rfl (fun ls' hl => k E p e s m args below meth c H locs ls' hC hX hR hS (has_sto hs hl))
theorem P_istore {i : Nat} {x : Int32} (hd : decode (mdC M) pc = .ok (.istore i, 2)) (hn : (i : Nat) < mdL M) (hs : sto L (i : Nat) (.int x) = L') (k : WP M l R Z X cells slots (pc + 2) L' st G) : WP M l R Z X cells slots pc L (.int x :: st) G :=
  fun E p e s m args below meth c H locs Ls hC hX hR hS hL => lv_istore hC.1 hC.2.1 hd (al_has hL) hn rfl (fun ls' hl => k E p e s m args below meth c H locs ls' hC hX hR hS (has_sto hs hl))
theorem P_lstore_n {i : Fin 4} {x : Int64} (hd : decode (mdC M) pc = .ok (.lstore_n i, 1)) (hn : (i : Nat) + 1 < mdL M) (hs : sto2 L (i : Nat) (.long x) = L') (k : WP M l R Z X cells slots (pc + 1) L' st G) : WP M l R Z X cells slots pc L (.long x :: st) G :=
  fun E p e s m args below meth c H locs Ls hC hX hR hS hL => lv_lstore_n hC.1 hC.2.1 hd rfl (al_has hL) hn rfl (fun ls' hl => k E p e s m args below meth c H locs ls' hC hX hR hS (has_sto2 hs hl))
theorem P_lstore {i : Nat} {x : Int64} (hd : decode (mdC M) pc = .ok (.lstore i, 2)) (hn : (i : Nat) + 1 < mdL M) (hs : sto2 L (i : Nat) (.long x) = L') (k : WP M l R Z X cells slots (pc + 2) L' st G) : WP M l R Z X cells slots pc L (.long x :: st) G :=
  fun E p e s m args below meth c H locs Ls hC hX hR hS hL => lv_lstore hC.1 hC.2.1 hd (al_has hL) hn rfl (fun ls' hl => k E p e s m args below meth c H locs ls' hC hX hR hS (has_sto2 hs hl))
theorem P_astore_n {i : Fin 4} {x : Nat} (hd : decode (mdC M) pc = .ok (.astore_n i, 1)) (hn : (i : Nat) < mdL M) (hs : sto L (i : Nat) (.ref x) = L') (k : WP M l R Z X cells slots (pc + 1) L' st G) : WP M l R Z X cells slots pc L (.ref x :: st) G :=
  fun E p e s m args below meth c H locs Ls hC hX hR hS hL => lv_astore_n hC.1 hC.2.1 hd rfl (al_has hL) hn rfl (fun ls' hl => k E p e s m args below meth c H locs ls' hC hX hR hS (has_sto hs hl))
theorem P_astore {i : Nat} {x : Nat} (hd : decode (mdC M) pc = .ok (.astore i, 2)) (hn : (i : Nat) < mdL M) (hs : sto L (i : Nat) (.ref x) = L') (k : WP M l R Z X cells slots (pc + 2) L' st G) : WP M l R Z X cells slots pc L (.ref x :: st) G :=
  fun E p e s m args below meth c H locs Ls hC hX hR hS hL => lv_astore hC.1 hC.2.1 hd (al_has hL) hn rfl (fun ls' hl => k E p e s m args below meth c H locs ls' hC hX hR hS (has_sto hs hl))
theorem P_astore_nN {i : Fin 4} (hd : decode (mdC M) pc = .ok (.astore_n i, 1)) (hn : (i : Nat) < mdL M) (hs : sto L (i : Nat) .null = L') (k : WP M l R Z X cells slots (pc + 1) L' st G) : WP M l R Z X cells slots pc L (.null :: st) G :=
  fun E p e s m args below meth c H locs Ls hC hX hR hS hL => lv_astore_nN hC.1 hC.2.1 hd rfl (al_has hL) hn rfl (fun ls' hl => k E p e s m args below meth c H locs ls' hC hX hR hS (has_sto (v := .null) hs hl))
theorem P_iinc {i : Nat} {n : Int} {x v : Int32} (hd : decode (mdC M) pc = .ok (.iinc i n, 3)) (hl : L[i]? = some (some (.int x))) (hv : x + Int32.ofInt n = v) (hn : i < mdL M) (hs : sto L i (.int v) = L') (k : WP M l R Z X cells slots (pc + 3) L' st G) : WP M l R Z X cells slots pc L st G := by
  intro E p e s m args below meth c H locs Ls hC hX hR hS hL
  obtain ⟨q, hq⟩ := List.getElem?_of_mem (al_mem (E := E) hl)
  exact lv_iinc hC.1 hC.2.1 hd (al_has hL) hq hv hn rfl (fun ls' hl => k E p e s m args below meth c H locs ls' hC hX hR hS (has_sto hs hl))
theorem P_if_eq {x : Int32} {off : Int} {tgt : Nat} (hd : decode (mdC M) pc = .ok (.ifCond .eq off, 3)) (ht : (pc : Int) + off = (tgt : Int)) (kt : x = 0 → WP M l R Z X cells slots tgt L st G) (kf : ¬ x = 0 → WP M l R Z X cells slots (pc + 3) L st G) : WP M l R Z X cells slots pc L (.int x :: st) G :=
  fun E p e s m args below meth c H locs Ls hC hX hR hS hL => lv_if_eq hC.1 hC.2.1 hd ht (fun q => kt q E p e s m args below meth c H locs Ls hC hX hR hS hL) (fun q => kf q E p e s m args below meth c H locs Ls hC hX hR hS hL)
theorem P_icmp_eq {x y : Int32} {off : Int} {tgt : Nat} (hd : decode (mdC M) pc = .ok (.if_icmp .eq off, 3)) (ht : (pc : Int) + off = (tgt : Int)) (kt : x = y → WP M l R Z X cells slots tgt L st G) (kf : ¬ x = y → WP M l R Z X cells slots (pc + 3) L st G) : WP M l R Z X cells slots pc L (.int y :: .int x :: st) G :=
  fun E p e s m args below meth c H locs Ls hC hX hR hS hL => lv_icmp_eq hC.1 hC.2.1 hd ht (fun q => kt q E p e s m args below meth c H locs Ls hC hX hR hS hL) (fun q => kf q E p e s m args below meth c H locs Ls hC hX hR hS hL)
theorem P_if_ne {x : Int32} {off : Int} {tgt : Nat} (hd : decode (mdC M) pc = .ok (.ifCond .ne off, 3)) (ht : (pc : Int) + off = (tgt : Int)) (kt : ¬ x = 0 → WP M l R Z X cells slots tgt L st G) (kf : x = 0 → WP M l R Z X cells slots (pc + 3) L st G) : WP M l R Z X cells slots pc L (.int x :: st) G :=
  fun E p e s m args below meth c H locs Ls hC hX hR hS hL => lv_if_ne hC.1 hC.2.1 hd ht (fun q => kt q E p e s m args below meth c H locs Ls hC hX hR hS hL) (fun q => kf q E p e s m args below meth c H locs Ls hC hX hR hS hL)
theorem P_icmp_ne {x y : Int32} {off : Int} {tgt : Nat} (hd : decode (mdC M) pc = .ok (.if_icmp .ne off, 3)) (ht : (pc : Int) + off = (tgt : Int)) (kt : ¬ x = y → WP M l R Z X cells slots tgt L st G) (kf : x = y → WP M l R Z X cells slots (pc + 3) L st G) : WP M l R Z X cells slots pc L (.int y :: .int x :: st) G :=
  fun E p e s m args below meth c H locs Ls hC hX hR hS hL => lv_icmp_ne hC.1 hC.2.1 hd ht (fun q => kt q E p e s m args below meth c H locs Ls hC hX hR hS hL) (fun q => kf q E p e s m args below meth c H locs Ls hC hX hR hS hL)
theorem P_if_lt {x : Int32} {off : Int} {tgt : Nat} (hd : decode (mdC M) pc = .ok (.ifCond .lt off, 3)) (ht : (pc : Int) + off = (tgt : Int)) (kt : x < 0 → WP M l R Z X cells slots tgt L st G) (kf : ¬ x < 0 → WP M l R Z X cells slots (pc + 3) L st G) : WP M l R Z X cells slots pc L (.int x :: st) G :=
  fun E p e s m args below meth c H locs Ls hC hX hR hS hL => lv_if_lt hC.1 hC.2.1 hd ht (fun q => kt q E p e s m args below meth c H locs Ls hC hX hR hS hL) (fun q => kf q E p e s m args below meth c H locs Ls hC hX hR hS hL)
theorem P_icmp_lt {x y : Int32} {off : Int} {tgt : Nat} (hd : decode (mdC M) pc = .ok (.if_icmp .lt off, 3)) (ht : (pc : Int) + off = (tgt : Int)) (kt : x < y → WP M l R Z X cells slots tgt L st G) (kf : ¬ x < y → WP M l R Z X cells slots (pc + 3) L st G) : WP M l R Z X cells slots pc L (.int y :: .int x :: st) G :=
  fun E p e s m args below meth c H locs Ls hC hX hR hS hL => lv_icmp_lt hC.1 hC.2.1 hd ht (fun q => kt q E p e s m args below meth c H locs Ls hC hX hR hS hL) (fun q => kf q E p e s m args below meth c H locs Ls hC hX hR hS hL)
theorem P_if_ge {x : Int32} {off : Int} {tgt : Nat} (hd : decode (mdC M) pc = .ok (.ifCond .ge off, 3)) (ht : (pc : Int) + off = (tgt : Int)) (kt : 0 ≤ x → WP M l R Z X cells slots tgt L st G) (kf : ¬ 0 ≤ x → WP M l R Z X cells slots (pc + 3) L st G) : WP M l R Z X cells slots pc L (.int x :: st) G :=
  fun E p e s m args below meth c H locs Ls hC hX hR hS hL => lv_if_ge hC.1 hC.2.1 hd ht (fun q => kt q E p e s m args below meth c H locs Ls hC hX hR hS hL) (fun q => kf q E p e s m args below meth c H locs Ls hC hX hR hS hL)
theorem P_icmp_ge {x y : Int32} {off : Int} {tgt : Nat} (hd : decode (mdC M) pc = .ok (.if_icmp .ge off, 3)) (ht : (pc : Int) + off = (tgt : Int)) (kt : y ≤ x → WP M l R Z X cells slots tgt L st G) (kf : ¬ y ≤ x → WP M l R Z X cells slots (pc + 3) L st G) : WP M l R Z X cells slots pc L (.int y :: .int x :: st) G :=
  fun E p e s m args below meth c H locs Ls hC hX hR hS hL => lv_icmp_ge hC.1 hC.2.1 hd ht (fun q => kt q E p e s m args below meth c H locs Ls hC hX hR hS hL) (fun q => kf q E p e s m args below meth c H locs Ls hC hX hR hS hL)
theorem P_if_gt {x : Int32} {off : Int} {tgt : Nat} (hd : decode (mdC M) pc = .ok (.ifCond .gt off, 3)) (ht : (pc : Int) + off = (tgt : Int)) (kt : 0 < x → WP M l R Z X cells slots tgt L st G) (kf : ¬ 0 < x → WP M l R Z X cells slots (pc + 3) L st G) : WP M l R Z X cells slots pc L (.int x :: st) G :=
  fun E p e s m args below meth c H locs Ls hC hX hR hS hL => lv_if_gt hC.1 hC.2.1 hd ht (fun q => kt q E p e s m args below meth c H locs Ls hC hX hR hS hL) (fun q => kf q E p e s m args below meth c H locs Ls hC hX hR hS hL)
theorem P_icmp_gt {x y : Int32} {off : Int} {tgt : Nat} (hd : decode (mdC M) pc = .ok (.if_icmp .gt off, 3)) (ht : (pc : Int) + off = (tgt : Int)) (kt : y < x → WP M l R Z X cells slots tgt L st G) (kf : ¬ y < x → WP M l R Z X cells slots (pc + 3) L st G) : WP M l R Z X cells slots pc L (.int y :: .int x :: st) G :=
  fun E p e s m args below meth c H locs Ls hC hX hR hS hL => lv_icmp_gt hC.1 hC.2.1 hd ht (fun q => kt q E p e s m args below meth c H locs Ls hC hX hR hS hL) (fun q => kf q E p e s m args below meth c H locs Ls hC hX hR hS hL)
theorem P_if_le {x : Int32} {off : Int} {tgt : Nat} (hd : decode (mdC M) pc = .ok (.ifCond .le off, 3)) (ht : (pc : Int) + off = (tgt : Int)) (kt : x ≤ 0 → WP M l R Z X cells slots tgt L st G) (kf : ¬ x ≤ 0 → WP M l R Z X cells slots (pc + 3) L st G) : WP M l R Z X cells slots pc L (.int x :: st) G :=
  fun E p e s m args below meth c H locs Ls hC hX hR hS hL => lv_if_le hC.1 hC.2.1 hd ht (fun q => kt q E p e s m args below meth c H locs Ls hC hX hR hS hL) (fun q => kf q E p e s m args below meth c H locs Ls hC hX hR hS hL)
theorem P_icmp_le {x y : Int32} {off : Int} {tgt : Nat} (hd : decode (mdC M) pc = .ok (.if_icmp .le off, 3)) (ht : (pc : Int) + off = (tgt : Int)) (kt : x ≤ y → WP M l R Z X cells slots tgt L st G) (kf : ¬ x ≤ y → WP M l R Z X cells slots (pc + 3) L st G) : WP M l R Z X cells slots pc L (.int y :: .int x :: st) G :=
  fun E p e s m args below meth c H locs Ls hC hX hR hS hL => lv_icmp_le hC.1 hC.2.1 hd ht (fun q => kt q E p e s m args below meth c H locs Ls hC hX hR hS hL) (fun q => kf q E p e s m args below meth c H locs Ls hC hX hR hS hL)
theorem P_goto {off : Int} {tgt : Nat} (hd : decode (mdC M) pc = .ok (.goto off, 3)) (ht : (pc : Int) + off = (tgt : Int)) (k : WP M l R Z X cells slots tgt L st G) : WP M l R Z X cells slots pc L st G :=
  fun E p e s m args below meth c H locs Ls hC hX hR hS hL => lv_goto hC.1 hC.2.1 hd ht (k E p e s m args below meth c H locs Ls hC hX hR hS hL)
theorem P_ifnonnull {x : Nat} {off : Int} {tgt : Nat} (hd : decode (mdC M) pc = .ok (.ifnonnull off, 3)) (ht : (pc : Int) + off = (tgt : Int)) (k : WP M l R Z X cells slots tgt L st G) : WP M l R Z X cells slots pc L (.ref x :: st) G :=
  fun E p e s m args below meth c H locs Ls hC hX hR hS hL => lv_ifnonnull hC.1 hC.2.1 hd ht (k E p e s m args below meth c H locs Ls hC hX hR hS hL)
theorem P_ifnonnullN {off : Int} (hd : decode (mdC M) pc = .ok (.ifnonnull off, 3)) (k : WP M l R Z X cells slots (pc + 3) L st G) : WP M l R Z X cells slots pc L (.null :: st) G :=
  fun E p e s m args below meth c H locs Ls hC hX hR hS hL => lv_ifnonnullN hC.1 hC.2.1 hd (k E p e s m args below meth c H locs Ls hC hX hR hS hL)
theorem P_tabOut {dflt lo hi : Int} {offs : Array Int} {len : Nat} {x : Int32} {tgt : Nat} (hd : decode (mdC M) pc = .ok (.tableswitch dflt lo hi offs, len)) (h : x.toInt < lo ∨ hi < x.toInt) (ht : (pc : Int) + dflt = (tgt : Int)) (k : WP M l R Z X cells slots tgt L st G) : WP M l R Z X cells slots pc L (.int x :: st) G :=
  fun E p e s m args below meth c H locs Ls hC hX hR hS hL => lv_tableOut hC.1 hC.2.1 hd h ht (k E p e s m args below meth c H locs Ls hC hX hR hS hL)
theorem P_tabIn {dflt lo hi : Int} {offs : Array Int} {len : Nat} {x : Int32} {off : Int} {tgt : Nat} (hd : decode (mdC M) pc = .ok (.tableswitch dflt lo hi offs, len)) (h1 : ¬ x.toInt < lo) (h2 : ¬ hi < x.toInt) (ho : offs[(x.toInt - lo).toNat]? = some off) (ht : (pc : Int) + off = (tgt : Int)) (k : WP M l R Z X cells slots tgt L st G) : WP M l R Z X cells slots pc L (.int x :: st) G :=
  fun E p e s m args below meth c H locs Ls hC hX hR hS hL => lv_tableIn hC.1 hC.2.1 hd h1 h2 ho ht (k E p e s m args below meth c H locs Ls hC hX hR hS hL)
theorem P_lookup {dflt : Int} {ps : Array (Int × Int)} {len : Nat} {x : Int32} {off : Int} {tgt : Nat} (hd : decode (mdC M) pc = .ok (.lookupswitch dflt ps, len)) (hp : (ps.toList.zip (ps.toList.drop 1)).all (fun (a, next) => a.1 < next.1) = true) (ho : Op.lookupswitch.offset ps.toList dflt x.toInt = off) (ht : (pc : Int) + off = (tgt : Int)) (k : WP M l R Z X cells slots tgt L st G) : WP M l R Z X cells slots pc L (.int x :: st) G :=
  fun E p e s m args below meth c H locs Ls hC hX hR hS hL => lv_lookup hC.1 hC.2.1 hd hp ho ht (k E p e s m args below meth c H locs Ls hC hX hR hS hL)
end RULES
