theorem wm_1 : Cond.arrayOver (.object RX6) ∈ lw_tbl := (List.mem_append_right _ (show _ ∈ tables_1 from (List.mem_append_left _ (List.mem_of_getElem? (i := 164) rfl))))
theorem wm_2 : Cond.arrayOver (.object RX4) ∈ lw_tbl := (List.mem_append_right _ (show _ ∈ tables_1 from (List.mem_append_left _ (List.mem_of_getElem? (i := 187) rfl))))
theorem wm_3 : Cond.methodLinkNest RX8 121 yX9_outOf RX9 ∈ lw_tbl := (List.mem_append_right _ (show _ ∈ tables_1 from (List.mem_append_right _ (List.mem_append_left _ (List.mem_of_getElem? (i := 67) rfl)))))
theorem wm_4 : Cond.methodLinkNest RX5 42 yX9_outOf RX9 ∈ lw_tbl := (List.mem_append_right _ (show _ ∈ tables_1 from (List.mem_append_right _ (List.mem_append_left _ (List.mem_of_getElem? (i := 158) rfl)))))
/-- what the tables say of the classes and the arrays, at the law's entry -/
theorem law_known {s : State} {b : Nat} (hts : ∀ w ∈ lw_tbl, w.before #[Value.ref b] s = true) : ∃ (dC : Nat → ClassId) (dI : Nat → Nat → Nat) (aC : Nat → ClassId), Kn ((dC, dI), aC, s.heap.size, b) s := by
  have hT : ∀ w ∈ TB, w.before #[Value.ref b] s = true := fun w hw => hts w (List.mem_filter.mp hw).1
  obtain ⟨c0, i0, hK0⟩ := u_known (C := RX0) (T := TX0) (N := 2) hT uX0 (hT _ inX0.1)
  obtain ⟨c1, i1, hK1⟩ := u_known (C := RX1) (T := TX1) (N := 3) hT uX1 (hT _ inX1.1)
  obtain ⟨c2, i2, hK2⟩ := u_known (C := RX2) (T := TX2) (N := 1) hT uX2 (hT _ inX2.1)
  obtain ⟨c3, i3, hK3⟩ := u_known (C := RX3) (T := TX3) (N := 3) hT uX3 (hT _ inX3.1)
  obtain ⟨c4, i4, hK4⟩ := u_known (C := RX4) (T := TX4) (N := 3) hT uX4 (hT _ inX4.1)
  obtain ⟨c5, i5, hK5⟩ := u_known (C := RX5) (T := TX5) (N := 3) hT uX5 (hT _ inX5.1)
  obtain ⟨c6, i6, hK6⟩ := u_known (C := RX6) (T := TX6) (N := 6) hT uX6 (hT _ inX6.1)
  obtain ⟨c7, i7, hK7⟩ := u_known (C := RX7) (T := TX7) (N := 7) hT uX7 (hT _ inX7.1)
  obtain ⟨c8, i8, hK8⟩ := u_known (C := RX8) (T := TX8) (N := 7) hT uX8 (hT _ inX8.1)
  obtain ⟨c9, i9, hK9⟩ := u_known (C := RX9) (T := TX9) (N := 10) hT uX9 (hT _ inX9.1)
  obtain ⟨c10, i10, hK10⟩ := u_known (C := RX10) (T := TX10) (N := 29) hT uX10 (hT _ inX10.1)
  obtain ⟨a0, ka0, p0, g0, h0, e0⟩ := Cond.arrayClass_spec (hT _ ac_int)
  obtain ⟨a1, ka1, p1, g1, h1, e1⟩ := Cond.arrayClass_spec (hT _ ac_long)
  obtain ⟨a2, ka2, p2, g2, h2, e2⟩ := Cond.arrayClass_spec (hT _ ac_boolean)
  obtain ⟨p3, a3, ka3, f3, -, h3, e3, g3⟩ := Cond.arrayOver_spec (hts _ wm_1)
  obtain ⟨p4, a4, ka4, f4, -, h4, e4, g4⟩ := Cond.arrayOver_spec (hts _ wm_2)
  refine ⟨fun k => ([c0, c1, c2, c3, c4, c5, c6, c7, c8, c9, c10] : List ClassId).getD k c0, fun k => ([i0, i1, i2, i3, i4, i5, i6, i7, i8, i9, i10] : List (Nat → Nat)).getD k i0, fun k => ([a0, a1, a2, a3, a4] : List ClassId).getD k a0, ⟨?_, ?_⟩, va_Nw.of rfl (hts _ wm_3), va_Nw.of rfl (hts _ wm_4), va_AO.of (hts _ wm_1), va_AO.of (hts _ wm_2)⟩
  · intro k q hq
    match k, hq with
    | 0, hq => cases hq; exact hK0
    | 1, hq => cases hq; exact hK1
    | 2, hq => cases hq; exact hK2
    | 3, hq => cases hq; exact hK3
    | 4, hq => cases hq; exact hK4
    | 5, hq => cases hq; exact hK5
    | 6, hq => cases hq; exact hK6
    | 7, hq => cases hq; exact hK7
    | 8, hq => cases hq; exact hK8
    | 9, hq => cases hq; exact hK9
    | 10, hq => cases hq; exact hK10
    | k + 11, hq => simp at hq
  · intro k q hq
    match k, hq with
    | 0, hq => cases hq; exact ⟨fun n z => ⟨fun _ h => (by cases h), ka0, h0, p0, e0⟩, g0⟩
    | 1, hq => cases hq; exact ⟨fun n z => ⟨fun _ h => (by cases h), ka1, h1, p1, e1⟩, g1⟩
    | 2, hq => cases hq; exact ⟨fun n z => ⟨fun _ h => (by cases h), ka2, h2, p2, e2⟩, g2⟩
    | 3, hq => cases hq; exact ⟨fun n z => ⟨fun _ h => (by cases h), ka3, h3, p3, e3⟩, ka3, p3, h3, e3, f3, g3⟩
    | 4, hq => cases hq; exact ⟨fun n z => ⟨fun _ h => (by cases h), ka4, h4, p4, e4⟩, ka4, p4, h4, e4, f4, g4⟩
    | k + 5, hq => simp [tyl] at hq
/-- from the entry, for every script of at most 2560 ints, the law comes to its end with true -/
theorem whole_start {p : Program} {e : Env} {s : State} {m : MethodId} {below : List Frame} {meth : Method} {c : Code} (l : Launch) (hnm : meth.name = (mdN mL_law).name) {b L : Nat} {xs : Nat → Int32} (hL : L ≤ 2560) (C0 : lw_At p s m meth c b L xs) : W p l e room_1 s m #[Value.ref b] below meth c s.heap [] 0 0 (lw_Z below #[Value.ref b] s) (entryFrame m ([Value.ref b] : List Value).toArray 4) := by
  obtain ⟨hx, hb, hr, hml, hown, hts, hX, hbl, hlocks, hgv⟩ := C0
  obtain ⟨dC, dI, aC, hK⟩ := law_known hts
  rw [lg_entry_eq]
  exact lw_start l hL ((dC, dI), aC, s.heap.size, b) p e s m #[Value.ref b] below meth c s.heap [] _ ⟨hx, hb, hml, hr, hlocks, hown, fun w hw => hts w (List.mem_filter.mp hw).1, hK, Nat.le_refl _, hnm⟩ ⟨rfl, hX, hbl, rfl⟩ ⟨rfl, fun k q h => by simp [wl] at h⟩ va_S.rf (has_entry ((dC, dI), aC, s.heap.size, b) [.float 0] 4 [some (.float 0), none, none, none] (by decide) rfl)
