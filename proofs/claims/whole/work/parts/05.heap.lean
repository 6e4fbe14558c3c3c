section HEAPRULES
variable {M : MD} {l : Launch} {R : Room} {Z : PZ} {X : PX} {cells slots pc : Nat} {L L' : List (Option Value)} {st : List Value} {G : PH}
theorem P_get {idx ci k h : Nat} {fs : List Value} {v : Value} {fty : FieldType} {fin : Bool} (hd : decode (mdC M) pc = .ok (.getfield idx, 3)) (hf : FL (mdN M).cls idx ci k fty fin) (hG : G[h]? = some (.inr (ci, fs))) (hv : fs[k]? = some v) (kk : WP M l R Z X cells slots (pc + 3) L (v :: st) G) : WP M l R Z X cells slots pc L (.ref h :: st) G := by
  intro E p e s m args below meth c H locs Ls hC hX hR hS hL
  obtain ⟨C, T, N, ty, ⟨hc, hin, -, -⟩, hk, -, -, -, hlk⟩ := hf
  exact va_get hC.1 hC.2.1 hC.2.2.2.2.2.2.1 hin hC.2.2.2.2.2.1 hC.2.2.2.2.2.2.2.1.1 hR.2 h (wl_get hG) hc k hk (hC.2.2.2.2.2.2.1 _ hlk) (fun _ h9 => h9) (by show (fs.map (cv E))[k]? = _; rw [List.getElem?_map, hv]; rfl) hd (kk E p e s m args below meth c H locs Ls hC hX hR hS hL)
theorem P_put {idx ci k h : Nat} {fs : List Value} {v : Value} {fty : FieldType} (hd : decode (mdC M) pc = .ok (.putfield idx, 3)) (hf : FL (mdN M).cls idx ci k fty false) (hG : G[h]? = some (.inr (ci, fs))) (hl : k < fs.length) (hn : ∀ E, narrow fty (cv E v) = cv E v) (hfit : ∀ E, fits fty (cv E v) = true) (kk : WP M l R Z X cells slots (pc + 3) L st (G.set h (.inr (ci, fs.set k v)))) : WP M l R Z X cells slots pc L (v :: .ref h :: st) G := by
  intro E p e s m args below meth c H locs Ls hC hX hR hS hL
  obtain ⟨C, T, N, ty, ⟨hc, hin, hty, hnm⟩, hk, rfl, hfin, -, hlk⟩ := hf
  have hts := hC.2.2.2.2.2.2.1
  have hK := hC.2.2.2.2.2.2.2.1.1
  have hap := va_apart (own := C) hts hin ty hty hnm hK hc
  obtain ⟨r, h1, cell, q1, q2, q3, q4⟩ := hR.at hG
  have hr : r = (C, T, N) := Option.some.inj (h1.symm.trans hc)
  subst hr
  obtain ⟨hS', hfc, kC, hkC, hkind⟩ := hK.1 ci _ hc
  obtain ⟨cf, kf, fi, f, hi, hsl⟩ := hS' k hk
  have hlay := hts _ (hin _ (u_in_lay hk))
  unfold u_lay at hlay
  rw [if_neg (by rw [hfin]; decide)] at hlay
  have hst := (u_facts hfc hkC (u_lays hts hin hk) hi).1
  have h6 := u_store hfc hkC hkind hlay hi (hty k hk) (hn E) (hfit E)
  refine W.putK hC.1 hC.2.1 (f := f) ⟨hC.2.2.2.2.2.1, hts _ hlk, ⟨_, _, _, hi⟩, hst⟩ (by rw [q2]; exact h6) q1 q3 (by rw [hsl]; exact k2_hasslot (q4 k hk)) rfl rfl hd fun H' e1 e2 e3 => ?_
  rw [hsl] at e1 ⊢
  refine kk E p e s m args below meth c H' _ Ls hC hX (hR.set ⟨_, hc, t_OB.to (V := updV (vp_V (fs.map (cv E))) k (cv E v)) ⟨_, e1, q2, q3, t_set q4 hap hk _⟩ (fun j _ => ?_)⟩ e2 e3) (hS.put e2 e3 (Nat.le_add_right _ _)) hL
  rw [vp_updV_set (by simpa using hl)]
  show _ = vp_V ((fs.set k v).map (cv E)) j
  rw [List.map_set]
theorem P_putF {idx ci k h : Nat} {fs : List Value} {v : Value} {fty : FieldType} (hd : decode (mdC M) pc = .ok (.putfield idx, 3)) (hf : FL (mdN M).cls idx ci k fty true) (hoc : ∃ T N, cls11[ci]? = some ((mdN M).cls, T, N)) (hi0 : (mdN M).name = "<init>") (hG : G[h]? = some (.inr (ci, fs))) (hl : k < fs.length) (hn : ∀ E, narrow fty (cv E v) = cv E v) (hfit : ∀ E, fits fty (cv E v) = true) (kk : WP M l R Z X cells slots (pc + 3) L st (G.set h (.inr (ci, fs.set k v)))) : WP M l R Z X cells slots pc L (v :: .ref h :: st) G := by
  intro E p e s m args below meth c H locs Ls hC hX hR hS hL
  obtain ⟨C, T, N, ty, ⟨hc, hin, hty, hnm⟩, hk, rfl, hfin, hTC, hlk⟩ := hf
  obtain ⟨T9, N9, h9⟩ := hoc
  have hCo : C = (mdN M).cls := by have := Option.some.inj (hc.symm.trans h9); exact congrArg (fun z => z.1) this
  have hts := hC.2.2.2.2.2.2.1
  have hK := hC.2.2.2.2.2.2.2.1.1
  have hap := va_apart (own := C) hts hin ty hty hnm hK hc
  obtain ⟨r, h1, cell, q1, q2, q3, q4⟩ := hR.at hG
  have hr : r = (C, T, N) := Option.some.inj (h1.symm.trans hc)
  subst hr
  obtain ⟨hS', hfc, kC, hkC, hkind⟩ := hK.1 ci _ hc
  obtain ⟨cf, kf, fi, f, hi, hsl⟩ := hS' k hk
  have hlay := hts _ (hin _ (u_in_lay hk))
  unfold u_lay at hlay
  rw [if_pos hfin] at hlay
  have hst := (u_facts hfc hkC (u_lays hts hin hk) hi).1
  have hown := hC.2.2.2.2.2.1
  have hcf : m.cls = cf := by
    obtain ⟨_, _, c', _, _, _, -, -, hf', -, -, -, hown2, -⟩ := Cond.laysFinal_spec hlay
    have e1 : c' = cf := by have := hi.symm.trans hf'; simp at this; exact this.1.symm
    rw [hTC, hCo] at hown2
    rw [← e1]; exact Option.some.inj (hown.symm.trans hown2)
  have h6 := u_fits hfc hkC hkind (Or.inr hlay) hi (hty k hk) (hn E) (hfit E)
  refine W.putFinK hC.1 hC.2.1 hown (hts _ hlk) hi hst hcf (hC.2.2.2.2.2.2.2.2.2.trans hi0) (by rw [q2]; exact h6) q1 q3 (by rw [hsl]; exact k2_hasslot (q4 k hk)) rfl rfl hd fun H' e1 e2 e3 => ?_
  rw [hsl] at e1 ⊢
  refine kk E p e s m args below meth c H' _ Ls hC hX (hR.set ⟨_, hc, t_OB.to (V := updV (vp_V (fs.map (cv E))) k (cv E v)) ⟨_, e1, q2, q3, t_set q4 hap hk _⟩ (fun j _ => ?_)⟩ e2 e3) (hS.put e2 e3 (Nat.le_add_right _ _)) hL
  rw [vp_updV_set (by simpa using hl)]
  show _ = vp_V ((fs.set k v).map (cv E)) j
  rw [List.map_set]
theorem nb01 {x : Int32} (h : x = 0 ∨ x = 1) : narrow .boolean (.int x) = .int x ∧ fits .boolean (.int x) = true := by
  rcases h with rfl | rfl <;> decide +kernel
theorem P_putI {idx ci k h : Nat} {fs : List Value} {x : Int32} (hd : decode (mdC M) pc = .ok (.putfield idx, 3)) (hf : FL (mdN M).cls idx ci k .int false) (hG : G[h]? = some (.inr (ci, fs))) (hl : k < fs.length) (kk : WP M l R Z X cells slots (pc + 3) L st (G.set h (.inr (ci, fs.set k (.int x))))) : WP M l R Z X cells slots pc L ((.int x) :: .ref h :: st) G := P_put hd hf hG hl (fun _ => rfl) (fun _ => rfl) kk
theorem P_putJ {idx ci k h : Nat} {fs : List Value} {x : Int64} (hd : decode (mdC M) pc = .ok (.putfield idx, 3)) (hf : FL (mdN M).cls idx ci k .long false) (hG : G[h]? = some (.inr (ci, fs))) (hl : k < fs.length) (kk : WP M l R Z X cells slots (pc + 3) L st (G.set h (.inr (ci, fs.set k (.long x))))) : WP M l R Z X cells slots pc L ((.long x) :: .ref h :: st) G := P_put hd hf hG hl (fun _ => rfl) (fun _ => rfl) kk
theorem P_putFI {idx ci k h : Nat} {fs : List Value} {x : Int32} (hd : decode (mdC M) pc = .ok (.putfield idx, 3)) (hf : FL (mdN M).cls idx ci k .int true) (hoc : ∃ T N, cls11[ci]? = some ((mdN M).cls, T, N)) (hi0 : (mdN M).name = "<init>") (hG : G[h]? = some (.inr (ci, fs))) (hl : k < fs.length) (kk : WP M l R Z X cells slots (pc + 3) L st (G.set h (.inr (ci, fs.set k (.int x))))) : WP M l R Z X cells slots pc L ((.int x) :: .ref h :: st) G := P_putF hd hf hoc hi0 hG hl (fun _ => rfl) (fun _ => rfl) kk
theorem P_putFR {idx ci k h : Nat} {fs : List Value} {x : Nat} {D : String} (hd : decode (mdC M) pc = .ok (.putfield idx, 3)) (hf : FL (mdN M).cls idx ci k (.object D) true) (hoc : ∃ T N, cls11[ci]? = some ((mdN M).cls, T, N)) (hi0 : (mdN M).name = "<init>") (hG : G[h]? = some (.inr (ci, fs))) (hl : k < fs.length) (kk : WP M l R Z X cells slots (pc + 3) L st (G.set h (.inr (ci, fs.set k (.ref x))))) : WP M l R Z X cells slots pc L ((.ref x) :: .ref h :: st) G := P_putF hd hf hoc hi0 hG hl (fun _ => rfl) (fun _ => rfl) kk
theorem P_putFA {idx ci k h : Nat} {fs : List Value} {x : Nat} {ty : FieldType} (hd : decode (mdC M) pc = .ok (.putfield idx, 3)) (hf : FL (mdN M).cls idx ci k (.array ty) true) (hoc : ∃ T N, cls11[ci]? = some ((mdN M).cls, T, N)) (hi0 : (mdN M).name = "<init>") (hG : G[h]? = some (.inr (ci, fs))) (hl : k < fs.length) (kk : WP M l R Z X cells slots (pc + 3) L st (G.set h (.inr (ci, fs.set k (.ref x))))) : WP M l R Z X cells slots pc L ((.ref x) :: .ref h :: st) G := P_putF hd hf hoc hi0 hG hl (fun _ => rfl) (fun _ => rfl) kk
theorem P_putZ {idx ci k h : Nat} {fs : List Value} {x : Int32} (hd : decode (mdC M) pc = .ok (.putfield idx, 3)) (hf : FL (mdN M).cls idx ci k .boolean false) (hG : G[h]? = some (.inr (ci, fs))) (hl : k < fs.length) (hz : x = 0 ∨ x = 1) (kk : WP M l R Z X cells slots (pc + 3) L st (G.set h (.inr (ci, fs.set k (.int x))))) : WP M l R Z X cells slots pc L ((.int x) :: .ref h :: st) G := P_put hd hf hG hl (fun _ => (nb01 hz).1) (fun _ => (nb01 hz).2) kk
theorem P_iald {h n : Nat} {f : Nat → Int32} {i : Int32} (hd : decode (mdC M) pc = .ok (.iaload, 1)) (hG : G[h]? = some (.inl (0, n, .inl f))) (hin : vp_in i n) (kk : WP M l R Z X cells slots (pc + 1) L (.int (f i.toNatClampNeg) :: st) G) : WP M l R Z X cells slots pc L (.int i :: .ref h :: st) G := by
  intro E p e s m args below meth c H locs Ls hC hX hR hS hL
  exact va_iald hC.1 hC.2.1 hC.2.2.2.2.2.2.2.1.1 hR.2 h 0 (cA := E.2.1 0) (n := n) (f := f) (wl_get hG) rfl hin hd (kk E p e s m args below meth c H locs Ls hC hX hR hS hL)
theorem P_lald {h n : Nat} {f : Nat → Int64} {i : Int32} (hd : decode (mdC M) pc = .ok (.laload, 1)) (hG : G[h]? = some (.inl (1, n, .inr (.inl f)))) (hin : vp_in i n) (kk : WP M l R Z X cells slots (pc + 1) L (.long (f i.toNatClampNeg) :: st) G) : WP M l R Z X cells slots pc L (.int i :: .ref h :: st) G := by
  intro E p e s m args below meth c H locs Ls hC hX hR hS hL
  exact va_lald hC.1 hC.2.1 hC.2.2.2.2.2.2.2.1.1 hR.2 h 1 (cA := E.2.1 1) (n := n) (f := f) (wl_get hG) rfl hin hd (kk E p e s m args below meth c H locs Ls hC hX hR hS hL)
theorem P_zald {h n : Nat} {f : Nat → Int32} {i : Int32} (hd : decode (mdC M) pc = .ok (.baload, 1)) (hG : G[h]? = some (.inl (2, n, .inl f))) (hin : vp_in i n) (kk : WP M l R Z X cells slots (pc + 1) L (.int (f i.toNatClampNeg) :: st) G) : WP M l R Z X cells slots pc L (.int i :: .ref h :: st) G := by
  intro E p e s m args below meth c H locs Ls hC hX hR hS hL
  exact va_zald hC.1 hC.2.1 hC.2.2.2.2.2.2.2.1.1 hR.2 h 2 (cA := E.2.1 2) (n := n) (f := f) (wl_get hG) rfl hin hd (kk E p e s m args below meth c H locs Ls hC hX hR hS hL)
theorem P_aald3 {h n : Nat} {f : Nat → Option Nat} {i : Int32} (hd : decode (mdC M) pc = .ok (.aaload, 1)) (hG : G[h]? = some (.inl (3, n, .inr (.inr (.inr (.inr f)))))) (hin : vp_in i n) (kk : WP M l R Z X cells slots (pc + 1) L (va_rf (f i.toNatClampNeg) :: st) G) : WP M l R Z X cells slots pc L (.int i :: .ref h :: st) G := by
  intro E p e s m args below meth c H locs Ls hC hX hR hS hL
  refine va_aldq hC.1 hC.2.1 hC.2.2.2.2.2.2.2.1.1 hR.2 h 3 (cA := E.2.1 3) (C := RX6) (n := n) (f := fun j => (f j).map (fun h => pB E + h)) (wl_get hG) rfl hin hd ?_
  have := kk E p e s m args below meth c H locs Ls hC hX hR hS hL
  rw [List.map_cons] at this
  have e1 : cv E (va_rf (f i.toNatClampNeg)) = va_rf ((f i.toNatClampNeg).map (fun h => pB E + h)) := by cases f i.toNatClampNeg <;> rfl
  rw [e1] at this
  exact this
theorem P_aald4 {h n : Nat} {f : Nat → Option Nat} {i : Int32} (hd : decode (mdC M) pc = .ok (.aaload, 1)) (hG : G[h]? = some (.inl (4, n, .inr (.inr (.inr (.inr f)))))) (hin : vp_in i n) (kk : WP M l R Z X cells slots (pc + 1) L (va_rf (f i.toNatClampNeg) :: st) G) : WP M l R Z X cells slots pc L (.int i :: .ref h :: st) G := by
  intro E p e s m args below meth c H locs Ls hC hX hR hS hL
  refine va_aldq hC.1 hC.2.1 hC.2.2.2.2.2.2.2.1.1 hR.2 h 4 (cA := E.2.1 4) (C := RX4) (n := n) (f := fun j => (f j).map (fun h => pB E + h)) (wl_get hG) rfl hin hd ?_
  have := kk E p e s m args below meth c H locs Ls hC hX hR hS hL
  rw [List.map_cons] at this
  have e1 : cv E (va_rf (f i.toNatClampNeg)) = va_rf ((f i.toNatClampNeg).map (fun h => pB E + h)) := by cases f i.toNatClampNeg <;> rfl
  rw [e1] at this
  exact this
theorem P_alen {h k : Nat} {a : vp_A} {ty : FieldType} {v : Int32} (hd : decode (mdC M) pc = .ok (.arraylength, 1)) (hG : G[h]? = some (.inl (k, a))) (ht : ∀ E : PE, (tyl E)[k]? = some (E.2.1 k, ty)) (hv : Int32.ofNat a.1 = v) (kk : WP M l R Z X cells slots (pc + 1) L (.int v :: st) G) : WP M l R Z X cells slots pc L (.ref h :: st) G := by
  intro E p e s m args below meth c H locs Ls hC hX hR hS hL
  exact va_alen hC.1 hC.2.1 hC.2.2.2.2.2.2.2.1.1 hR.2 h k (cA := E.2.1 k) (x := ca E a) (wl_get hG) (ht E) (by rw [← hv]; obtain ⟨n, f | f | f | f | f⟩ := a <;> rfl) hd (kk E p e s m args below meth c H locs Ls hC hX hR hS hL)
theorem P_iast {h n : Nat} {f : Nat → Int32} {i : Int32} {x : Int32} (hd : decode (mdC M) pc = .ok (.iastore, 1)) (hG : G[h]? = some (.inl (0, n, .inl f))) (hin : vp_in i n) (kk : WP M l R Z X cells slots (pc + 1) L st (G.set h (.inl (0, n, .inl (upd f i.toNatClampNeg x))))) : WP M l R Z X cells slots pc L (.int x :: .int i :: .ref h :: st) G := by
  intro E p e s m args below meth c H locs Ls hC hX hR hS hL
  have hK := hC.2.2.2.2.2.2.2.1.1
  refine W.iast hC.1 hC.2.1 (hR.at hG) ((hK.2 0 _ rfl).1 n (fun j => .int (f j))) (fun q => by cases q) (by show ¬ (i < 0 ∨ (arrV _ _ _).slots.size ≤ _); rw [arrV_size]; exact hin) rfl rfl hd fun H1 e9 z oq => ?_
  refine kk E p e s m args below meth c H1 _ Ls hC hX (hR.set ?_ z oq) (hS.put z oq (Nat.le_add_right _ _)) hL
  show H1[pB E + h]? = some (vp_cell (E.2.1 0) (n, .inl (upd f i.toNatClampNeg x)))
  rw [e9]
  show some (Cell.setSlot (vp_cell (E.2.1 0) (n, .inl f)) _ _) = _
  rw [vp_cell_i, vp_cell_i, arrV_store]
  congr 2
  funext q
  by_cases hq : q = i.toNatClampNeg
  · subst hq
    simp [updV, upd]
    try rfl
  · simp [updV, upd, hq]
theorem P_last {h n : Nat} {f : Nat → Int64} {i : Int32} {x : Int64} (hd : decode (mdC M) pc = .ok (.lastore, 1)) (hG : G[h]? = some (.inl (1, n, .inr (.inl f)))) (hin : vp_in i n) (kk : WP M l R Z X cells slots (pc + 1) L st (G.set h (.inl (1, n, .inr (.inl (vp_updL f i.toNatClampNeg x)))))) : WP M l R Z X cells slots pc L (.long x :: .int i :: .ref h :: st) G := by
  intro E p e s m args below meth c H locs Ls hC hX hR hS hL
  have hK := hC.2.2.2.2.2.2.2.1.1
  refine W.last hC.1 hC.2.1 (hR.at hG) ((hK.2 1 _ rfl).1 n (fun j => .long (f j))) (fun q => by cases q) (by show ¬ (i < 0 ∨ (arrV _ _ _).slots.size ≤ _); rw [arrV_size]; exact hin) rfl rfl hd fun H1 e9 z oq => ?_
  refine kk E p e s m args below meth c H1 _ Ls hC hX (hR.set ?_ z oq) (hS.put z oq (Nat.le_add_right _ _)) hL
  show H1[pB E + h]? = some (vp_cell (E.2.1 1) (n, .inr (.inl (vp_updL f i.toNatClampNeg x))))
  rw [e9]
  show some (Cell.setSlot (vp_cell (E.2.1 1) (n, .inr (.inl f))) _ _) = _
  rw [vp_cell_l, vp_cell_l, arrV_store]
  congr 2
  funext q
  by_cases hq : q = i.toNatClampNeg
  · subst hq
    simp [updV, vp_updL]
    try rfl
  · simp [updV, vp_updL, hq]
theorem P_zast {h n : Nat} {f : Nat → Int32} {i : Int32} {x : Int32} (hd : decode (mdC M) pc = .ok (.bastore, 1)) (hG : G[h]? = some (.inl (2, n, .inl f))) (hin : vp_in i n) (kk : WP M l R Z X cells slots (pc + 1) L st (G.set h (.inl (2, n, .inl (upd f i.toNatClampNeg (vp_nar .boolean x)))))) : WP M l R Z X cells slots pc L (.int x :: .int i :: .ref h :: st) G := by
  intro E p e s m args below meth c H locs Ls hC hX hR hS hL
  have hK := hC.2.2.2.2.2.2.2.1.1
  refine W.zast hC.1 hC.2.1 (hR.at hG) ((hK.2 2 _ rfl).1 n (fun j => .int (f j))) (fun q => by cases q) (by show ¬ (i < 0 ∨ (arrV _ _ _).slots.size ≤ _); rw [arrV_size]; exact hin) rfl rfl hd fun H1 e9 z oq => ?_
  refine kk E p e s m args below meth c H1 _ Ls hC hX (hR.set ?_ z oq) (hS.put z oq (Nat.le_add_right _ _)) hL
  show H1[pB E + h]? = some (vp_cell (E.2.1 2) (n, .inl (upd f i.toNatClampNeg (vp_nar .boolean x))))
  rw [e9]
  show some (Cell.setSlot (vp_cell (E.2.1 2) (n, .inl f)) _ _) = _
  rw [vp_cell_i, vp_cell_i, arrV_store]
  congr 2
  funext q
  by_cases hq : q = i.toNatClampNeg
  · subst hq
    simp [updV, upd, vp_nar]
    try rfl
  · simp [updV, upd, hq]
theorem P_aast3 {h n y : Nat} {f : Nat → Option Nat} {i : Int32} {vs : List Value} (hd : decode (mdC M) pc = .ok (.aastore, 1)) (hG : G[h]? = some (.inl (3, n, .inr (.inr (.inr (.inr f)))))) (hy : G[y]? = some (.inr (6, vs))) (hin : vp_in i n) (kk : WP M l R Z X cells slots (pc + 1) L st (G.set h (.inl (3, n, .inr (.inr (.inr (.inr (va_up f i.toNatClampNeg (some y))))))))) : WP M l R Z X cells slots pc L (.ref y :: .int i :: .ref h :: st) G := by
  intro E p e s m args below meth c H locs Ls hC hX hR hS hL
  have hK := hC.2.2.2.2.2.2.2.1.1
  have hlt : i.toNatClampNeg < n := Nat.not_le.mp fun q => hin (Or.inr q)
  have h0 : ¬ i < 0 := fun q => hin (Or.inl q)
  obtain ⟨r', hr', cellV, g1, g2, g3, -⟩ := hR.at hy
  have hcls := (hK.1 6 _ rfl).2
  obtain ⟨kA, comp, k1, k2, k3, -⟩ := (hK.2 3 _ rfl).2
  have hcomp : comp = E.1.1 6 := Option.some.inj (k3.symm.trans hcls.1)
  subst hcomp
  obtain ⟨kC, hkC, hkd⟩ := hcls.2
  refine W.aast hC.1 hC.2.1 (hR.at hG) (fun q h => by cases h) (fun h => by cases h) k1 k2 rfl hkC ⟨h0, by show _ < (arrV _ _ _).slots.size; rw [arrV_size]; exact hlt⟩ g1 (fun q h => by rw [g3] at h; cases h) (by rw [g2]; exact hkC) (by rw [g2]; exact va_assign hcls) rfl rfl hd fun H1 e9 z oq => ?_
  refine kk E p e s m args below meth c H1 _ Ls hC hX (hR.set ?_ z oq) (hS.put z oq (Nat.le_add_right _ _)) hL
  show H1[pB E + h]? = some (vp_cell (E.2.1 3) (n, .inr (.inr (.inr (.inr (fun j => (va_up f i.toNatClampNeg (some y) j).map (fun h => pB E + h)))))))
  rw [e9]
  show some (Cell.setSlot (vp_cell (E.2.1 3) (n, .inr (.inr (.inr (.inr (fun j => (f j).map (fun h => pB E + h))))))) _ _) = _
  rw [vp_cell_q, vp_cell_q, arrV_store]
  congr 2
  funext q
  by_cases hq : q = i.toNatClampNeg
  · subst hq
    simp [updV, va_up, va_rf]
  · simp [updV, va_up, hq]
theorem P_aast4 {h n y : Nat} {f : Nat → Option Nat} {i : Int32} {vs : List Value} (hd : decode (mdC M) pc = .ok (.aastore, 1)) (hG : G[h]? = some (.inl (4, n, .inr (.inr (.inr (.inr f)))))) (hy : G[y]? = some (.inr (4, vs))) (hin : vp_in i n) (kk : WP M l R Z X cells slots (pc + 1) L st (G.set h (.inl (4, n, .inr (.inr (.inr (.inr (va_up f i.toNatClampNeg (some y))))))))) : WP M l R Z X cells slots pc L (.ref y :: .int i :: .ref h :: st) G := by
  intro E p e s m args below meth c H locs Ls hC hX hR hS hL
  have hK := hC.2.2.2.2.2.2.2.1.1
  have hlt : i.toNatClampNeg < n := Nat.not_le.mp fun q => hin (Or.inr q)
  have h0 : ¬ i < 0 := fun q => hin (Or.inl q)
  obtain ⟨r', hr', cellV, g1, g2, g3, -⟩ := hR.at hy
  have hcls := (hK.1 4 _ rfl).2
  obtain ⟨kA, comp, k1, k2, k3, -⟩ := (hK.2 4 _ rfl).2
  have hcomp : comp = E.1.1 4 := Option.some.inj (k3.symm.trans hcls.1)
  subst hcomp
  obtain ⟨kC, hkC, hkd⟩ := hcls.2
  refine W.aast hC.1 hC.2.1 (hR.at hG) (fun q h => by cases h) (fun h => by cases h) k1 k2 rfl hkC ⟨h0, by show _ < (arrV _ _ _).slots.size; rw [arrV_size]; exact hlt⟩ g1 (fun q h => by rw [g3] at h; cases h) (by rw [g2]; exact hkC) (by rw [g2]; exact va_assign hcls) rfl rfl hd fun H1 e9 z oq => ?_
  refine kk E p e s m args below meth c H1 _ Ls hC hX (hR.set ?_ z oq) (hS.put z oq (Nat.le_add_right _ _)) hL
  show H1[pB E + h]? = some (vp_cell (E.2.1 4) (n, .inr (.inr (.inr (.inr (fun j => (va_up f i.toNatClampNeg (some y) j).map (fun h => pB E + h)))))))
  rw [e9]
  show some (Cell.setSlot (vp_cell (E.2.1 4) (n, .inr (.inr (.inr (.inr (fun j => (f j).map (fun h => pB E + h))))))) _ _) = _
  rw [vp_cell_q, vp_cell_q, arrV_store]
  congr 2
  funext q
  by_cases hq : q = i.toNatClampNeg
  · subst hq
    simp [updV, va_up, va_rf]
  · simp [updV, va_up, hq]
theorem vpV_map (E : PE) (fs : List Value) (j : Nat) : vp_V (fs.map (cv E)) j = cv E (vp_V fs j) := by
  unfold vp_V
  rw [List.getD_eq_getElem?_getD, List.getD_eq_getElem?_getD, List.getElem?_map]
  cases fs[j]? <;> rfl
theorem dv_cv (E : PE) (ty : FieldType) (h : ty ≠ .float) : cv E (defaultValue ty) = defaultValue ty := by cases ty <;> first | rfl | exact absurd rfl h
theorem P_new {idx ci : Nat} {C : String} {T : u_T} {N : Nat} {ty : Nat → FieldType} {fs : List Value} (hd : decode (mdC M) pc = .ok (.new idx, 3)) (hcl : Cond.classLink (mdN M).cls idx C ∈ TB) (hin : Cond.instantiable C N ∈ TB ∧ Cond.initialized C ∈ TB) (ck : CK ci C T N ty) (hfs : ∀ j, j < N → defaultValue (ty j) = vp_V fs j ∧ ty j ≠ .float) (hr : cells + 1 ≤ R.cells ∧ slots + N ≤ R.slots) (kk : WP M l R Z X (cells + 1) (slots + N) (pc + 3) L (.ref G.length :: st) (G ++ [.inr (ci, fs)])) : WP M l R Z X cells slots pc L st G := by
  intro E p e s m args below meth c H locs Ls hC hX hR hS hL
  obtain ⟨hc, hin2, hty, -⟩ := ck
  have hts := hC.2.2.2.2.2.2.1
  have hK := hC.2.2.2.2.2.2.2.1.1
  have hKn := hK.1 ci _ hc
  refine W.newcK hC.1 hC.2.1 hC.2.2.2.2.2.1 (hts _ hcl) (hts _ hin.1) (hts _ hin.2) rfl hd hr.1 hr.2 hKn.2.1 rfl fun H1 kC hkC e1 z1 o1 => ?_
  have := kk E p e s m args below meth c H1 locs Ls hC hX (hR.push ⟨_, hc, (u_born ty hts hin2 hKn hkC e1 hty).to (fun j hj => by show _ = vp_V (fs.map (cv E)) j; rw [vpV_map, ← (hfs j hj).1, dv_cv E _ (hfs j hj).2])⟩ z1 o1) ⟨Nat.le_trans hS.1 (by omega), fun q h1 h2 => (o1 q (Nat.lt_of_lt_of_le h1 hS.1)).trans (hS.2.1 q h1 h2), hS.2.2⟩ hL
  rw [hR.1]
  exact this
theorem P_newa {k n0 : Nat} {n : Int32} {ty : FieldType} {at0 : ArrayType} {a0 : vp_A} (hd : decode (mdC M) pc = .ok (.newarray at0, 2)) (hty : newarray.typeOf at0 = ty) (hac : Cond.arrayClass ty ∈ TB) (hk : ∀ E : PE, (tyl E)[k]? = some (E.2.1 k, ty)) (ho : ∀ D, ty ≠ .object D) (ha : ∀ (E : PE) (cA : ClassId), vp_cell cA (ca E a0) = arrV cA n0 (fun _ => defaultValue ty)) (hn : ¬ n < 0) (hN : n.toNatClampNeg = n0) (hb : n0 * componentBytes ty ≤ 536870912) (hr : cells + 1 ≤ R.cells ∧ slots + n0 ≤ R.slots) (kk : WP M l R Z X (cells + 1) (slots + n0) (pc + 2) L (.ref G.length :: st) (G ++ [.inl (k, a0)])) : WP M l R Z X cells slots pc L (.int n :: st) G := by
  intro E p e s m args below meth c H locs Ls hC hX hR hS hL
  subst hty
  have hts := hC.2.2.2.2.2.2.1
  have hK := hC.2.2.2.2.2.2.2.1.1
  refine va_newaK hC.1 hC.2.1 (hts _ hac) rfl hd rfl hn hN hb hr.1 hr.2 rfl fun H1 cA e1 z1 o1 hAr hNm => ?_
  have hcA : cA = E.2.1 k := by
    have h2 := (hK.2 k _ (hk E)).2
    have h3 : s.vm.findClass ("[" ++ (newarray.typeOf at0).toString) = some (E.2.1 k) := by
      cases at0 <;> exact h2
    exact Option.some.inj (hNm.symm.trans h3)
  subst hcA
  have := kk E p e s m args below meth c H1 locs Ls hC hX (hR.push (c := .inl (k, a0)) (by show H1[H.size]? = some (vp_cell (E.2.1 k) (ca E a0)); rw [ha]; exact e1) z1 o1) ⟨Nat.le_trans hS.1 (by omega), fun q h1 h2 => (o1 q (Nat.lt_of_lt_of_le h1 hS.1)).trans (hS.2.1 q h1 h2), hS.2.2⟩ hL
  rw [hR.1]
  exact this
theorem P_anew {k idx n0 : Nat} {n : Int32} {C : String} (hd : decode (mdC M) pc = .ok (.anewarray idx, 3)) (hcl : Cond.classLink (mdN M).cls idx C ∈ TB) (hao : ∀ E s, Kn E s → va_AO C s) (hk : ∀ E : PE, (tyl E)[k]? = some (E.2.1 k, .object C)) (hn : ¬ n < 0) (hN : n.toNatClampNeg = n0) (hb : n0 * 4 ≤ 536870912) (hr : cells + 1 ≤ R.cells ∧ slots + n0 ≤ R.slots) (kk : WP M l R Z X (cells + 1) (slots + n0) (pc + 3) L (.ref G.length :: st) (G ++ [.inl (k, n0, .inr (.inr (.inr (.inr (fun _ => none)))))])) : WP M l R Z X cells slots pc L (.int n :: st) G := by
  intro E p e s m args below meth c H locs Ls hC hX hR hS hL
  subst hN
  have hts := hC.2.2.2.2.2.2.1
  have hKn := hC.2.2.2.2.2.2.2.1
  refine W.anew hC.1 hC.2.1 hC.2.2.2.2.2.1 (hts _ hcl) (va_AO.use (hao E s hKn)) rfl hd rfl hn hb hr.1 hr.2 fun cA kA comp f1 f2 f3 f4 => ?_
  generalize hH1 : H.push ({ cls := cA, slots := Array.replicate n.toNatClampNeg .null, vm := .none } : Cell) = H1
  have z1 : H1.size = H.size + 1 := by rw [← hH1, Array.size_push]
  have e1 : H1[H.size]? = some (arrV cA n.toNatClampNeg (fun _ => .null)) := by rw [← hH1, Array.getElem?_push_size, ← arrV_new]
  have o1 : ∀ q : Nat, q < H.size → H1[q]? = H[q]? := fun q hq => by rw [← hH1, Array.getElem?_push, if_neg (Nat.ne_of_lt hq)]
  have hcA : cA = E.2.1 k := by
    obtain ⟨_, _, -, -, -, h4⟩ := (hKn.1.2 k _ (hk E)).2
    exact Option.some.inj (f1.symm.trans h4)
  subst hcA
  have := kk E p e s m args below meth c H1 locs Ls hC hX (hR.push (c := .inl (k, n.toNatClampNeg, .inr (.inr (.inr (.inr (fun _ => none)))))) (by show H1[H.size]? = some (vp_cell (E.2.1 k) (n.toNatClampNeg, .inr (.inr (.inr (.inr (fun j => ((fun _ => none) j : Option Nat).map (fun h => pB E + h))))))); rw [vp_cell_q]; exact e1) z1 o1) ⟨Nat.le_trans hS.1 (by omega), fun q h1 h2 => (o1 q (Nat.lt_of_lt_of_le h1 hS.1)).trans (hS.2.1 q h1 h2), hS.2.2⟩ hL
  rw [hR.1]
  exact this
theorem P_objInit {idx h : Nat} (hd : decode (mdC M) pc = .ok (.invokespecial idx, 3)) (hl : Cond.methodLink (mdN M).cls idx objectInit ∈ TB) (hr : 1 ≤ R.frames ∧ (st.map fun v => v.category).sum + 12 ≤ R.locals) (kk : WP M l R Z X cells slots (pc + 3) L st G) : WP M l R Z X cells slots pc L (.ref h :: st) G := by
  intro E p e s m args below meth c H locs Ls hC hX hR hS hL
  have hts := hC.2.2.2.2.2.2.1
  exact W.objInit hC.1 hC.2.1 hC.2.2.2.2.2.1 (hts _ hl) (hts _ w_objI) (hts _ w_objC) rfl (hL.1.trans hC.2.2.1.symm) rfl hd hr.1 (by rw [cv_cats]; show 2 * 0 + _ + 12 ≤ _; omega) (kk E p e s m args below meth c H locs Ls hC hX hR hS hL)
/-! answers -/
theorem P_end {E : PE} {s : State} {Q : Option Value → PH → Prop} {H : Heap} {locs : List Loc} {p : Program} {m : MethodId} {args : Array Value} {meth : Method} {c : Code} {v : Option Value} (hC : Cx M E p s m args meth c) (hR : Rep E G H) (hS : va_S (fun q => pB E ≤ q) s.heap H locs) (hq : Q v G) : ∀ t : State, t.heap = H → s.WarmedH t.vm → Pst E Q args s (.returned (v.map (cv E))) t := by
  intro t ht hW
  exact ⟨⟨v, G, rfl, hq, by rw [ht]; exact hR, hC.2.2.2.2.2.2.2.1.warm hW⟩, by rw [ht]; exact hS.1, fun q hq => by rw [ht]; exact hS.2.1 q (Nat.lt_of_lt_of_le hq hC.2.2.2.2.2.2.2.2.1) (Nat.not_le.mpr hq)⟩
variable {mc ms : Nat} {Q : Option Value → PH → Prop}
theorem P_iret {x : Int32} (hd : decode (mdC M) pc = .ok (.ireturn, 1)) (hr : mdR M = some .int) (hc : cells ≤ mc ∧ slots ≤ ms) (hq : Q (some (.int x)) G) : WP M l R (ZM mc ms Q) X cells slots pc L [.int x] G := by
  intro E p e s m args below meth c H locs Ls hC hX hR hS hL
  exact W.widen hc.1 hc.2 (W.iret hC.1 hC.2.1 (hC.2.2.2.1.trans hr) (P_end (v := some (.int x)) hC hR hS hq) hS.2.2 hd hC.2.2.2.2.1)
theorem P_zret {x : Int32} (hd : decode (mdC M) pc = .ok (.ireturn, 1)) (hr : mdR M = some .boolean) (hc : cells ≤ mc ∧ slots ≤ ms) (hz : x = 0 ∨ x = 1) (hq : Q (some (.int x)) G) : WP M l R (ZM mc ms Q) X cells slots pc L [.int x] G := by
  intro E p e s m args below meth c H locs Ls hC hX hR hS hL
  exact W.widen hc.1 hc.2 (W.zret hC.1 hC.2.1 (hC.2.2.2.1.trans hr) (nb01 hz).1 (P_end (v := some (.int x)) hC hR hS hq) hS.2.2 hd hC.2.2.2.2.1)
theorem P_lret {x : Int64} (hd : decode (mdC M) pc = .ok (.lreturn, 1)) (hr : mdR M = some .long) (hc : cells ≤ mc ∧ slots ≤ ms) (hq : Q (some (.long x)) G) : WP M l R (ZM mc ms Q) X cells slots pc L [.long x] G := by
  intro E p e s m args below meth c H locs Ls hC hX hR hS hL
  exact W.widen hc.1 hc.2 (W.lret hC.1 hC.2.1 (hC.2.2.2.1.trans hr) (P_end (v := some (.long x)) hC hR hS hq) hS.2.2 hd hC.2.2.2.2.1)
theorem P_vret (hd : decode (mdC M) pc = .ok (.return_, 1)) (hr : mdR M = none) (hc : cells ≤ mc ∧ slots ≤ ms) (hq : Q none G) : WP M l R (ZM mc ms Q) X cells slots pc L [] G := by
  intro E p e s m args below meth c H locs Ls hC hX hR hS hL
  exact W.widen hc.1 hc.2 (W.vret hC.1 hC.2.1 (hC.2.2.2.1.trans hr) (P_end (v := none) hC hR hS hq) hS.2.2 hd hC.2.2.2.2.1)
theorem P_aret {o : Option Nat} {D : String} (hd : decode (mdC M) pc = .ok (.areturn, 1)) (hr : mdR M = some (.object D)) (hc : cells ≤ mc ∧ slots ≤ ms) (hq : Q (some (va_rf o)) G) : WP M l R (ZM mc ms Q) X cells slots pc L [va_rf o] G := by
  intro E p e s m args below meth c H locs Ls hC hX hR hS hL
  exact W.widen hc.1 hc.2 (W.aret hC.1 hC.2.1 (hC.2.2.2.1.trans hr) (Or.inl ⟨_, rfl⟩) (by cases o; exact Or.inl rfl; exact Or.inr ⟨_, rfl⟩) (P_end (v := some (va_rf o)) hC hR hS hq) hS.2.2 hd hC.2.2.2.2.1)
/-! calls -/
theorem tb_good : GoodIn TB TB := fun w hw => ⟨hw, good_of_word (List.mem_filter.mp hw).2⟩
theorem ws_good {M' : MD} {n : Nat} (ok : OKm M' n) : GoodIn TB (wsM M') := by
  intro w hw
  rcases List.mem_cons.mp hw with rfl | hw
  · exact tb_good _ ok.1
  · exact tb_good _ hw
theorem pre_blind (E : PE) (av : List Value) (G : PH) : FrameBlind (va_Pc (av.map (cv E)) (fun U => Rep E G U.heap ∧ Kn E U)) := by
  intro a U g mk q
  obtain ⟨q0, q1, q2⟩ := q
  exact ⟨q0, q1, Kn.same (s := U) rfl q2⟩
variable {M' : MD} {n mc' ms' idx h : Nat} {As rest : List Value} {Q' : Option Value → PH → Prop}
theorem P_cont {E : PE} {p : Program} {e : Env} {s : State} {m : MethodId} {args : Array Value} {below : List Frame} {meth : Method} {c : Code} {H : Heap} {locs : List Loc} {Ls : Array Slot} {st0 : List Value} {a : Array Value} (hr : va_Run p l e R s m args below meth c H locs cells slots mc' ms' (F0 m pc Ls st0) (rest.map (cv E)) (Pst E Q' a) (fun q => pB E ≤ q)) (hC : Cx M E p s m args meth c) (hX : X E s args) (hS : va_S (fun q => pB E ≤ q) s.heap H locs) (hL : Has E Ls (mdL M) L)
    (kk : ∀ v G', Q' v G' → WP M l R Z X (cells + mc') (slots + ms') (pc + 3) L (v.toList ++ rest) G') : W p l e R s m args below meth c H locs cells slots (Z E below args s) (F0 m pc Ls st0) := by
  intro T hT XX
  obtain ⟨v, st₀, t, T', Lc, h0, X', hLc, e1, e2, ⟨⟨v', G', hv, hq, hR', hK'⟩, hz, hkk⟩, st⟩ := hr T hT XX
  cases hv
  have hb := hC.2.2.2.2.2.2.2.2.1
  obtain ⟨t2, a1, b1⟩ := kk v' G' hq E p e s m args below meth c T'.heap (locs ++ Lc) Ls hC hX (by rw [e1]; exact hR') ⟨Nat.le_trans hS.1 (by rw [e1, ← h0]; exact hz), fun q h1 h2 => by rw [e1, hkk q (Nat.not_le.mp h2), h0]; exact hS.2.1 q h1 h2, fun q hq => by
      rcases List.mem_append.mp hq with h | h
      · exact hS.2.2 q h
      · exact hLc q h⟩ hL T' rfl X'
  refine ⟨t2, st t2 ?_, b1⟩
  have e3 : (v'.toList ++ rest).map (cv E) = (v'.map (cv E)).toList ++ rest.map (cv E) := by cases v' <;> rfl
  rw [e3] at a1
  exact a1
theorem P_callV {ci : Nat} {fs : List Value} (hd : decode (mdC M) pc = .ok (.invokevirtual idx, 3)) (hl : Cond.methodLink (mdN M).cls idx (mdN M') ∈ TB) (ok : OKv M' ci n) (hr : mdF M' + 1 ≤ R.frames ∧ 8 + (mdL M' + 11) + mdO M' ≤ R.locals) (hT : Tri l M' mc' ms' (.ref h :: As) G Q') (hst : st = As.reverse ++ .ref h :: rest) (hn : As.length = n) (hG : G[h]? = some (.inr (ci, fs))) (hw : (rest.map fun v => v.category).sum ≤ 8) (hc : cells + mc' ≤ R.cells ∧ slots + ms' ≤ R.slots)
    (kk : ∀ v G', Q' v G' → WP M l R Z X (cells + mc') (slots + ms') (pc + 3) L (v.toList ++ rest) G') : WP M l R Z X cells slots pc L st G := by
  intro E p e s m args below meth c H locs Ls hC hX hR hS hL
  obtain ⟨hx, hb, hml, hrt, hlk, hown, hts, hK, hB, hnm⟩ := id hC
  obtain ⟨okm, hin, hsel, T9, N9, hcl⟩ := ok
  have hst' : st.map (cv E) = (As.map (cv E)).reverse ++ .ref (pB E + h) :: rest.map (cv E) := by rw [hst, List.map_append, List.map_reverse]; rfl
  rw [hst']
  refine P_cont (va_runV (C := (mdN M').cls) (As := As.map (cv E)) (b := pB E + h) (rest := rest.map (cv E)) ⟨hx, hb, hml, hown, hts⟩ (hT E) ⟨callB_of (bytes := mdC M') (maxL := mdL M') (ret := mdR M') n hts (ws_good okm) rfl rfl rfl (hts _ okm.2.1) (hts _ hl) ⟨okm.2.2.2.1.1, okm.2.2.2.1.2, okm.2.2.2.2⟩ hr, hts _ hin, hts _ hsel⟩ ⟨pre_blind E _ G, ?_, fun U hU hW => ⟨rfl, by rw [hU]; exact hR, hK.warm hW⟩⟩ rfl (by rw [List.length_map]; exact hn) hL.1 rfl (lv_room (by rw [cv_cats]; exact hw)) hd hc) hC hX hS hL kk
  exact va_recv hK.1 hR.2 hcl (wl_get hG)
theorem P_callS (hd : decode (mdC M) pc = .ok (.invokestatic idx, 3)) (hl : Cond.methodLink (mdN M).cls idx (mdN M') ∈ TB) (ok : OKs M' n) (hr : mdF M' + 1 ≤ R.frames ∧ 8 + (mdL M' + 11) + mdO M' ≤ R.locals) (hT : Tri l M' mc' ms' As G Q') (hst : st = As.reverse ++ rest) (hn : As.length = n) (hw : (rest.map fun v => v.category).sum ≤ 8) (hc : cells + mc' ≤ R.cells ∧ slots + ms' ≤ R.slots)
    (kk : ∀ v G', Q' v G' → WP M l R Z X (cells + mc') (slots + ms') (pc + 3) L (v.toList ++ rest) G') : WP M l R Z X cells slots pc L st G := by
  intro E p e s m args below meth c H locs Ls hC hX hR hS hL
  obtain ⟨hx, hb, hml, hrt, hlk, hown, hts, hK, hB, hnm⟩ := id hC
  obtain ⟨okm, hst2⟩ := ok
  have hst' : st.map (cv E) = (As.map (cv E)).reverse ++ rest.map (cv E) := by rw [hst, List.map_append, List.map_reverse]
  rw [hst']
  exact P_cont (va_runS (As := As.map (cv E)) (rest := rest.map (cv E)) ⟨hx, hb, hml, hown, hts⟩ (hT E) ⟨callB_of (bytes := mdC M') (maxL := mdL M') (ret := mdR M') n hts (ws_good okm) rfl rfl rfl (hts _ okm.2.1) (hts _ hl) ⟨okm.2.2.2.1.1, okm.2.2.2.1.2, okm.2.2.2.2⟩ hr, hts _ hst2⟩ ⟨pre_blind E _ G, fun U hU hW => ⟨rfl, by rw [hU]; exact hR, hK.warm hW⟩⟩ rfl (by rw [List.length_map]; exact hn) hL.1 rfl (lv_room (by rw [cv_cats]; exact hw)) hd hc) hC hX hS hL kk
theorem P_callSN {host : String} (hd : decode (mdC M) pc = .ok (.invokestatic idx, 3)) (hl : ∀ E s, Kn E s → va_Nw (.methodLinkNest (mdN M).cls idx (mdN M') host) s) (ok : OKs M' n) (hr : mdF M' + 1 ≤ R.frames ∧ 8 + (mdL M' + 11) + mdO M' ≤ R.locals) (hT : Tri l M' mc' ms' As G Q') (hst : st = As.reverse ++ rest) (hn : As.length = n) (hw : (rest.map fun v => v.category).sum ≤ 8) (hc : cells + mc' ≤ R.cells ∧ slots + ms' ≤ R.slots)
    (kk : ∀ v G', Q' v G' → WP M l R Z X (cells + mc') (slots + ms') (pc + 3) L (v.toList ++ rest) G') : WP M l R Z X cells slots pc L st G := by
  intro E p e s m args below meth c H locs Ls hC hX hR hS hL
  obtain ⟨hx, hb, hml, hrt, hlk, hown, hts, hK, hB, hnm⟩ := id hC
  obtain ⟨okm, hst2⟩ := ok
  have hst' : st.map (cv E) = (As.map (cv E)).reverse ++ rest.map (cv E) := by rw [hst, List.map_append, List.map_reverse]
  rw [hst']
  exact P_cont (va_runSN (As := As.map (cv E)) (rest := rest.map (cv E)) ⟨hx, hb, hml, hown, hts⟩ (hT E) ⟨va_cnB (bytes := mdC M') (maxL := mdL M') (ret := mdR M') n hts (ws_good okm) rfl rfl rfl (hl E s hK) (hts _ okm.2.1) ⟨okm.2.2.2.1.1, okm.2.2.2.1.2, okm.2.2.2.2⟩ hr, hts _ hst2, trivial⟩ ⟨pre_blind E _ G, fun U hU hW => ⟨rfl, by rw [hU]; exact hR, hK.warm hW⟩⟩ rfl (by rw [List.length_map]; exact hn) hL.1 rfl (lv_room (by rw [cv_cats]; exact hw)) hd hc) hC hX hS hL kk
theorem P_callI (hd : decode (mdC M) pc = .ok (.invokespecial idx, 3)) (hl : Cond.methodLink (mdN M).cls idx (mdN M') ∈ TB) (ok : OKi M' n) (hr : mdF M' + 1 ≤ R.frames ∧ 8 + (mdL M' + 11) + mdO M' ≤ R.locals) (hT : Tri l M' mc' ms' (.ref h :: As) G Q') (hst : st = As.reverse ++ .ref h :: rest) (hn : As.length = n) (hw : (rest.map fun v => v.category).sum ≤ 8) (hc : cells + mc' ≤ R.cells ∧ slots + ms' ≤ R.slots)
    (kk : ∀ v G', Q' v G' → WP M l R Z X (cells + mc') (slots + ms') (pc + 3) L (v.toList ++ rest) G') : WP M l R Z X cells slots pc L st G := by
  intro E p e s m args below meth c H locs Ls hC hX hR hS hL
  obtain ⟨hx, hb, hml, hrt, hlk, hown, hts, hK, hB, hnm⟩ := id hC
  obtain ⟨okm, hini, hin, hno⟩ := ok
  have hst' : st.map (cv E) = (As.map (cv E)).reverse ++ .ref (pB E + h) :: rest.map (cv E) := by rw [hst, List.map_append, List.map_reverse]; rfl
  rw [hst']
  exact P_cont (va_runI (As := As.map (cv E)) (b := pB E + h) (rest := rest.map (cv E)) ⟨hx, hb, hml, hown, hts⟩ (hT E) ⟨callB_of (bytes := mdC M') (maxL := mdL M') (ret := none) n hts (ws_good okm) (by rw [← hno]; rfl) rfl rfl (hts _ okm.2.1) (hts _ hl) ⟨okm.2.2.2.1.1, okm.2.2.2.1.2, okm.2.2.2.2⟩ hr, hini, hts _ hin⟩ ⟨pre_blind E _ G, fun U hU hW => ⟨rfl, by rw [hU]; exact hR, hK.warm hW⟩⟩ rfl (by rw [List.length_map]; exact hn) hL.1 rfl (lv_room (by rw [cv_cats]; exact hw)) hd hc) hC hX hS hL kk
end HEAPRULES
