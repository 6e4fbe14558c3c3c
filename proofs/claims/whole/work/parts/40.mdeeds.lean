theorem upd_a {f : Nat → Int32} {k : Nat} {v : Int32} : upd f k v k = v := if_pos rfl
theorem upd_n {f : Nat → Int32} {k j : Nat} {v : Int32} (h : j ≠ k) : upd f k v j = f j := if_neg h
theorem rRow.cg {ρ : Riv} {f g : Nat → Int32} (hN : rN ρ ≤ 6) (h : ∀ i, i < 315 → g i = f i) (k : rRow ρ f) : rRow ρ g := by
  obtain ⟨a, b, c, d⟩ := k
  refine ⟨(h _ (by decide)).trans a, (h _ (by decide)).trans b, (h _ (by decide)).trans c, fun r hr => ⟨fun i hi => (h _ (by omega)).trans ((d r hr).1 i hi), fun t ht => ⟨(h _ (by omega)).trans ((d r hr).2 t ht).1, (h _ (by omega)).trans ((d r hr).2 t ht).2⟩⟩⟩
theorem rRow_T {ρ : Riv} {f : Nat → Int32} (k : rRow ρ f) (t : Nat) : rRow (rvT ρ t) (upd f 0 (nI t)) := by
  obtain ⟨a, b, c, d⟩ := k
  exact ⟨upd_a, (upd_n (by decide)).trans b, (upd_n (by decide)).trans c, fun r hr => ⟨fun i hi => (upd_n (by omega)).trans ((d r hr).1 i hi), fun t ht => ⟨(upd_n (by omega)).trans ((d r hr).2 t ht).1, (upd_n (by omega)).trans ((d r hr).2 t ht).2⟩⟩⟩
theorem rRow_D {ρ : Riv} {f : Nat → Int32} (k : rRow ρ f) (t : Nat) : rRow (rvD ρ t) (upd f 1 (nI t)) := by
  obtain ⟨a, b, c, d⟩ := k
  exact ⟨(upd_n (by decide)).trans a, upd_a, (upd_n (by decide)).trans c, fun r hr => ⟨fun i hi => (upd_n (by omega)).trans ((d r hr).1 i hi), fun t ht => ⟨(upd_n (by omega)).trans ((d r hr).2 t ht).1, (upd_n (by omega)).trans ((d r hr).2 t ht).2⟩⟩⟩
theorem rRow_N {ρ : Riv} {f : Nat → Int32} (k : rRow ρ f) {n : Nat} (hn : n ≤ rN ρ) : rRow (rvN ρ n) (upd f 2 (nI n)) := by
  obtain ⟨a, b, c, d⟩ := k
  exact ⟨(upd_n (by decide)).trans a, (upd_n (by decide)).trans b, upd_a, fun r hr => ⟨fun i hi => (upd_n (by omega)).trans ((d r (Nat.lt_of_lt_of_le hr hn)).1 i hi), fun t ht => ⟨(upd_n (by omega)).trans ((d r (Nat.lt_of_lt_of_le hr hn)).2 t ht).1, (upd_n (by omega)).trans ((d r (Nat.lt_of_lt_of_le hr hn)).2 t ht).2⟩⟩⟩
theorem rRow_W {ρ : Riv} {f : Nat → Int32} (k : rRow ρ f) (q : Nat) (kk xx : Int32) : rRow (rvW ρ q kk xx) (upd (upd f (3 + 52 * q + 1) kk) (3 + 52 * q + 2) xx) := by
  obtain ⟨a, b, c, d⟩ := k
  refine ⟨(upd_n (by omega)).trans ((upd_n (by omega)).trans a), (upd_n (by omega)).trans ((upd_n (by omega)).trans b), (upd_n (by omega)).trans ((upd_n (by omega)).trans c), fun r hr => ⟨fun i hi => ?_, fun t ht => ⟨(upd_n (by omega)).trans ((upd_n (by omega)).trans ((d r hr).2 t ht).1), (upd_n (by omega)).trans ((upd_n (by omega)).trans ((d r hr).2 t ht).2)⟩⟩⟩
  show _ = up2 (up2 (rF ρ) q 1 kk) q 2 xx r i
  by_cases e2 : r = q ∧ i = 2
  · rw [up2_eq e2, e2.1, e2.2, upd_a]
  · rw [up2_ne e2, upd_n (by omega)]
    by_cases e1 : r = q ∧ i = 1
    · rw [up2_eq e1, e1.1, e1.2, upd_a]
    · rw [up2_ne e1, upd_n (by omega)]
      exact (d r hr).1 i hi
theorem rRow_S {ρ : Riv} {f : Nat → Int32} (k : rRow ρ f) {q u : Nat} (hu : u < 24) (v : Int32) : rRow (rvS ρ q u v) (upd f (3 + 52 * q + (4 + u)) v) := by
  obtain ⟨a, b, c, d⟩ := k
  refine ⟨(upd_n (by omega)).trans a, (upd_n (by omega)).trans b, (upd_n (by omega)).trans c, fun r hr => ⟨fun i hi => (upd_n (by omega)).trans ((d r hr).1 i hi), fun t ht => ⟨?_, (upd_n (by omega)).trans ((d r hr).2 t ht).2⟩⟩⟩
  show _ = up2 (rS ρ) q u v r t
  by_cases e : r = q ∧ t = u
  · rw [up2_eq e, e.1, e.2, upd_a]
  · rw [up2_ne e, upd_n (by omega)]; exact ((d r hr).2 t ht).1
theorem rRow_E {ρ : Riv} {f : Nat → Int32} (k : rRow ρ f) {q u : Nat} (hu : u < 24) (v : Int32) : rRow (rvE ρ q u v) (upd f (3 + 52 * q + (28 + u)) v) := by
  obtain ⟨a, b, c, d⟩ := k
  refine ⟨(upd_n (by omega)).trans a, (upd_n (by omega)).trans b, (upd_n (by omega)).trans c, fun r hr => ⟨fun i hi => (upd_n (by omega)).trans ((d r hr).1 i hi), fun t ht => ⟨(upd_n (by omega)).trans ((d r hr).2 t ht).1, ?_⟩⟩⟩
  show _ = up2 (rE ρ) q u v r t
  by_cases e : r = q ∧ t = u
  · rw [up2_eq e, e.1, e.2, upd_a]
  · rw [up2_ne e, upd_n (by omega)]; exact ((d r hr).2 t ht).2
theorem rRow_A {ρ : Riv} {f g : Nat → Int32} (k : rRow ρ f) {b kk xx q : Int32} (hg : ∀ i, i < 52 → g (3 + 52 * rN ρ + i) = 0) (ho : ∀ j, j < 3 + 52 * rN ρ → g j = f j) : rRow (rvA ρ b kk xx q) (upd (upd (upd (upd (upd g (3 + 52 * rN ρ + 0) b) (3 + 52 * rN ρ + 1) kk) (3 + 52 * rN ρ + 2) xx) (3 + 52 * rN ρ + 3) q) 2 (nI (rN ρ + 1))) := by
  obtain ⟨a, b', c, d⟩ := k
  have o5 : ∀ j, j ≠ 2 → j < 3 + 52 * rN ρ ∨ 3 + 52 * rN ρ + 3 < j → upd (upd (upd (upd (upd g (3 + 52 * rN ρ + 0) b) (3 + 52 * rN ρ + 1) kk) (3 + 52 * rN ρ + 2) xx) (3 + 52 * rN ρ + 3) q) 2 (nI (rN ρ + 1)) j = g j := fun j h1 h2 => by
    rw [upd_n h1, upd_n (by omega), upd_n (by omega), upd_n (by omega), upd_n (by omega)]
  refine ⟨(o5 _ (by decide) (by omega)).trans ((ho _ (by omega)).trans a), (o5 _ (by decide) (by omega)).trans ((ho _ (by omega)).trans b'), upd_a, fun r hr => ?_⟩
  have hr : r < rN ρ + 1 := hr
  by_cases e : r = rN ρ
  · subst e
    refine ⟨fun i hi => ?_, fun t ht => ⟨?_, ?_⟩⟩
    · show _ = up2 (up2 (up2 (up2 (rF ρ) (rN ρ) 0 b) (rN ρ) 3 q) (rN ρ) 1 kk) (rN ρ) 2 xx (rN ρ) i
      rcases (by omega : i = 0 ∨ i = 1 ∨ i = 2 ∨ i = 3) with rfl | rfl | rfl | rfl
      · rw [upd_n (by omega), upd_n (by omega), upd_n (by omega), upd_n (by omega), upd_a, up2_ne (by omega), up2_ne (by omega), up2_ne (by omega), up2_eq ⟨rfl, rfl⟩]
      · rw [upd_n (by omega), upd_n (by omega), upd_n (by omega), upd_a, up2_ne (by omega), up2_eq ⟨rfl, rfl⟩]
      · rw [upd_n (by omega), upd_n (by omega), upd_a, up2_eq ⟨rfl, rfl⟩]
      · rw [upd_n (by omega), upd_a, up2_ne (by omega), up2_ne (by omega), up2_eq ⟨rfl, rfl⟩]
    · rw [o5 _ (by omega) (by omega), hg _ (by omega)]; exact (if_pos rfl).symm
    · rw [o5 _ (by omega) (by omega), hg _ (by omega)]; exact (if_pos rfl).symm
  · refine ⟨fun i hi => ?_, fun t ht => ⟨?_, ?_⟩⟩
    · rw [o5 _ (by omega) (by omega), ho _ (by omega)]
      show _ = up2 (up2 (up2 (up2 (rF ρ) (rN ρ) 0 b) (rN ρ) 3 q) (rN ρ) 1 kk) (rN ρ) 2 xx r i
      rw [up2_ne (by omega), up2_ne (by omega), up2_ne (by omega), up2_ne (by omega)]
      exact (d r (by omega)).1 i hi
    · rw [o5 _ (by omega) (by omega), ho _ (by omega)]
      exact ((d r (by omega)).2 t ht).1.trans (if_neg e).symm
    · rw [o5 _ (by omega) (by omega), ho _ (by omega)]
      exact ((d r (by omega)).2 t ht).2.trans (if_neg e).symm
theorem mScr.fr {G G' : PH} {a n : Nat} (k : mScr G) (hF : Fr G G' a n) (hd : a + n ≤ 173) : mScr G' := by
  obtain ⟨⟨fi, fo, fs, fa, fb, km⟩, ⟨gs, gf, kl⟩, f, kd⟩ := k
  exact ⟨⟨fi, fo, fs, fa, fb, km.fr hF (by omega)⟩, ⟨gs, gf, hF.at kl.1 (by omega), hF.at kl.2 (by omega)⟩, f, hF.at kd (by omega)⟩
/-- the river alone is told anew -/
theorem ModO.st {G G' : PH} {σ : Sg} {o : MV} {f f' : Nat → Int32} {ρ : Riv} (k : ModO G σ o f) (hF : Fr G G' 165 1) (h : G'[165]? = some (aI 315 f')) (hr : rRow ρ f') (hb : rBd ρ) : ModO G' (sgR σ ρ) o f' :=
  ⟨⟨hF.at k.1.1 (by decide), h, hr, hb⟩, k.2.1, k.2.2.1, k.2.2.2.1, k.2.2.2.2.1, k.2.2.2.2.2.1, k.2.2.2.2.2.2.1.sm (fun x h1 h2 => hF.2 x (by omega)), k.2.2.2.2.2.2.2.fr hF (by decide)⟩
/-- the object alone is told anew -/
theorem ModO.ob {G : PH} {σ σ' : Sg} {o o' : MV} {f : Nat → Int32} (k : ModO G σ o f) (e : gR σ' = gR σ) (h1 : mD o' = nI (gP σ')) (h2 : mS o' = nI (gS σ')) (h3 : mE o' = nI (gC σ')) (h4 : mL o' = nI (gN σ')) (h5 : mF o' = gF σ') (hr : mRest G σ') : ModO (G.set 164 (oM o')) σ' o' f :=
  ⟨by rw [e]; exact k.1.obj, h1, h2, h3, h4, h5, hr.sm (fun x h1 h2 => List.getElem?_set_ne (by omega)), k.2.2.2.2.2.2.2.fr (Fr.set (a := 164) (n := 1) (by omega) (by omega)) (by decide)⟩
theorem frM {G : PH} {i : Nat} {c : PCell} (h1 : 164 ≤ i) (h2 : i < 181) : Fr G (G.set i c) 164 17 := Fr.set (by omega) (by omega)
/-- the past with one more deed -/
theorem mp_add {n : Nat} (hn : n < 16) {f g : Nat → Int32} {ps : Nat → Riv} {ρ : Riv} (h : ∀ j, j < n → rRow (ps j) (fun i => f (315 * (n - 1 - j) + i))) (hb : ∀ j, j < n → rN (ps j) ≤ 6) (hN : rN ρ ≤ 6) (hr : rRow ρ g) : ∀ j, j < n + 1 → rRow (psA ps ρ j) (fun i => brg g f 0 (315 * n) 315 (315 * (n + 1 - 1 - j) + i)) := by
  intro j hj
  cases j with
  | zero => exact hr.cg hN (fun i hi => by show brg g f 0 (315 * n) 315 _ = _; unfold brg; rw [if_pos (by omega)]; congr 1; omega)
  | succ j =>
    refine (h j (by omega)).cg (hb j (by omega)) (fun i hi => ?_)
    show brg g f 0 (315 * n) 315 _ = _
    unfold brg
    rw [if_neg (by omega), show n + 1 - 1 - (j + 1) = n - 1 - j by omega]
theorem mp_add16 {f g : Nat → Int32} {ps : Nat → Riv} {ρ : Riv} (h : ∀ j, j < 16 → rRow (ps j) (fun i => f (315 * (16 - 1 - j) + i))) (hb : ∀ j, j < 16 → rN (ps j) ≤ 6) (hN : rN ρ ≤ 6) (hr : rRow ρ g) : ∀ j, j < 16 → rRow (psA ps ρ j) (fun i => brg g (brg f f 315 0 4725) 0 (315 * 15) 315 (315 * (16 - 1 - j) + i)) := by
  refine mp_add (n := 15) (by omega) (f := brg f f 315 0 4725) (ps := ps) (fun j hj => ?_) (fun j hj => hb j (by omega)) hN hr
  refine (h j (by omega)).cg (hb j (by omega)) (fun i hi => ?_)
  show brg f f 315 0 4725 _ = _
  unfold brg
  rw [if_pos (by omega)]
  congr 1
  omega
abbrev oDd (o : MV) (d : Int32) : MV := (d, mS o, mE o, mL o, mF o, mK o, mX o, mA o, mW o, mT o, mZ o, mO o, mB o)
set_option maxHeartbeats 4000000 in
set_option maxRecDepth 100000 in
theorem m_notes (l : Launch) {G : PH} {σ : Sg} {o : MV} {f : Nat → Int32} (kO : ModO G σ o f) (hv : sVal σ) : Tri l mX10_notes 0 0 [.ref 164] G (fun w G' => w = none ∧ (∃ o', ModO G' (sgP σ (min 16 (gP σ + 1)) (psA (gQ σ) (gR σ))) o' f) ∧ Fr G G' 164 3) := by
  obtain ⟨hk, h1, h2, h3, h4, h5, ⟨⟨fP, kP, hP⟩, kI, kB, kT⟩, kS⟩ := id kO
  have hN : rN (gR σ) ≤ 6 := hv.1.1.2.2.2.2; have hP16 : gP σ ≤ 16 := hv.2.2.2.1; have hpb : ∀ j, j < gP σ → rN (gQ σ j) ≤ 6 := fun j hj => (hv.2.2.2.2.1 j hj).1.2.2.2.2
  refine Tri.intro (L := [_]) okX10_notes.1 (Nat.le_of_ble_eq_true rfl) rfl ?_
  refine P_aload_n dX10_notes_0 rfl ?_
  refine P_get dX10_notes_1 flX10_72 hk.1 rfl ?_
  refine P_bipush dX10_notes_4 bp_16 ?_
  refine P_icmp_ne (tgt := 37) dX10_notes_6 (by decide) (fun c6 => ?_) (fun c6 => ?_)
  · have hlt : gP σ < 16 := Nat.lt_of_le_of_ne hP16 fun z => c6 (h1.trans (by rw [z]; rfl))
    refine P_aload_n dX10_notes_37 rfl ?_
    refine P_get dX10_notes_38 flX10_7 hk.1 rfl ?_
    refine P_iconst dX10_notes_41 ci_0 ?_
    refine P_aload_n dX10_notes_42 rfl ?_
    refine P_get dX10_notes_43 flX10_13 hk.1 rfl ?_
    refine P_sipush dX10_notes_46 sp_315 ?_
    refine P_aload_n dX10_notes_49 rfl ?_
    refine P_get dX10_notes_50 flX10_72 hk.1 rfl ?_
    refine P_imul dX10_notes_53 ?_
    rw [show (315 : Int32) * mD o = nI (315 * (gP σ)) from by rw [h1]; exact pk_mul 315 _]
    refine P_sipush dX10_notes_54 sp_315 ?_
    refine P_callS dX10_notes_57 lkX10_75 okX10_bring ⟨Nat.le_of_ble_eq_true rfl, Nat.le_of_ble_eq_true rfl⟩ (m_bring (i := 0) (j := 315 * (gP σ)) (n0 := 315) l hk.2.1 kP (by decide) (by omega) (by omega) (by decide) (by decide)) rfl rfl (Nat.le_of_ble_eq_true rfl) ⟨Nat.le_of_ble_eq_true rfl, Nat.le_of_ble_eq_true rfl⟩ (fun v57 G57 q57 => ?_)
    obtain ⟨rfl, kP9, hF9⟩ := q57
    have hob2 := hF9.at hk.1 (by decide)
    refine P_aload_n dX10_notes_60 rfl ?_
    refine P_dup dX10_notes_61 rfl ?_
    refine P_get dX10_notes_62 flX10_72 hob2 rfl ?_
    refine P_iconst dX10_notes_65 ci_1 ?_
    refine P_iadd dX10_notes_66 ?_
    rw [h1, nI_1]
    refine P_putI dX10_notes_67 flX10_72 hob2 (Nat.le_of_ble_eq_true rfl) ?_
    have hFz : Fr G (G57.set 164 (oM (oDd o (nI (gP σ + 1))))) 164 3 := (hF9.wide (by omega) (by omega)).tr (Fr.set (by omega) (by omega))
    have hmin : min 16 (gP σ + 1) = gP σ + 1 := by omega
    exact P_vret dX10_notes_70 rfl ⟨Nat.le_refl _, Nat.le_refl _⟩ ⟨rfl, ⟨oDd o (nI (gP σ + 1)), ⟨set_at hob2, set_ne (hF9.at hk.2.1 (by decide)) (by decide), hk.2.2⟩, congrArg nI hmin.symm, h2, h3, h4, h5, ⟨show mPast _ (min 16 (gP σ + 1)) (psA (gQ σ) (gR σ)) from by rw [hmin]; exact ⟨_, set_ne kP9 (by decide), mp_add hlt hP hpb hN hk.2.2.1⟩, kI.sm (hFz.2 _ (by decide)) (hFz.2 _ (by decide)), kB.sm (hFz.2 _ (by decide)) (hFz.2 _ (by decide)) (hFz.2 _ (by decide)), kT.sm (hFz.2 _ (by decide))⟩, kS.fr hFz (by decide)⟩, hFz⟩
  · have e16 : gP σ = 16 := (nI_eq (b := 16) (by omega) (by decide)).mp (h1.symm.trans c6)
    refine P_aload_n dX10_notes_9 rfl ?_
    refine P_get dX10_notes_10 flX10_13 hk.1 rfl ?_
    refine P_sipush dX10_notes_13 sp_315 ?_
    refine P_aload_n dX10_notes_16 rfl ?_
    refine P_get dX10_notes_17 flX10_13 hk.1 rfl ?_
    refine P_iconst dX10_notes_20 ci_0 ?_
    refine P_sipush dX10_notes_21 sp_4725 ?_
    refine P_callS dX10_notes_24 lkX10_75 okX10_bring ⟨Nat.le_of_ble_eq_true rfl, Nat.le_of_ble_eq_true rfl⟩ (m_bring1 (i := 315) (j := 0) (n0 := 4725) l kP (by decide) (by decide) (by decide)) rfl rfl (Nat.le_of_ble_eq_true rfl) ⟨Nat.le_of_ble_eq_true rfl, Nat.le_of_ble_eq_true rfl⟩ (fun v24 G24 q24 => ?_)
    obtain ⟨rfl, kP1, hF1⟩ := q24
    have hka := hF1.at hk.1 (by decide)
    refine P_aload_n dX10_notes_27 rfl ?_
    refine P_dup dX10_notes_28 rfl ?_
    refine P_get dX10_notes_29 flX10_72 hka rfl ?_
    refine P_iconst dX10_notes_32 ci_1 ?_
    refine P_isub dX10_notes_33 ?_
    rw [show mD o - 1 = 15 from by rw [c6]; rfl]
    refine P_putI dX10_notes_34 flX10_72 hka (Nat.le_of_ble_eq_true rfl) ?_
    have hkb : (G24.set 164 (oM (oDd o 15)))[164]? = some (oM (oDd o 15)) := set_at hka
    refine P_aload_n dX10_notes_37 rfl ?_
    refine P_get dX10_notes_38 flX10_7 hkb rfl ?_
    refine P_iconst dX10_notes_41 ci_0 ?_
    refine P_aload_n dX10_notes_42 rfl ?_
    refine P_get dX10_notes_43 flX10_13 hkb rfl ?_
    refine P_sipush dX10_notes_46 sp_315 ?_
    refine P_aload_n dX10_notes_49 rfl ?_
    refine P_get dX10_notes_50 flX10_72 hkb rfl ?_
    refine P_imul dX10_notes_53 ?_
    rw [show (315 : Int32) * mD (oDd o 15) = nI (315 * 15) from pk_mul 315 15]
    refine P_sipush dX10_notes_54 sp_315 ?_
    refine P_callS dX10_notes_57 lkX10_75 okX10_bring ⟨Nat.le_of_ble_eq_true rfl, Nat.le_of_ble_eq_true rfl⟩ (m_bring (i := 0) (j := 315 * 15) (n0 := 315) l (set_ne (hF1.at hk.2.1 (by decide)) (by decide)) (set_ne kP1 (by decide)) (by decide) (by omega) (by omega) (by decide) (by decide)) rfl rfl (Nat.le_of_ble_eq_true rfl) ⟨Nat.le_of_ble_eq_true rfl, Nat.le_of_ble_eq_true rfl⟩ (fun v57 G57 q57 => ?_)
    obtain ⟨rfl, kP9, hF9⟩ := q57
    have hob2 := hF9.at hkb (by decide)
    refine P_aload_n dX10_notes_60 rfl ?_
    refine P_dup dX10_notes_61 rfl ?_
    refine P_get dX10_notes_62 flX10_72 hob2 rfl ?_
    refine P_iconst dX10_notes_65 ci_1 ?_
    refine P_iadd dX10_notes_66 ?_
    rw [show mD (oDd o 15) + 1 = nI 16 from rfl]
    refine P_putI dX10_notes_67 flX10_72 hob2 (Nat.le_of_ble_eq_true rfl) ?_
    have hFz : Fr G (G57.set 164 (oM (oDd o (nI (16))))) 164 3 := (hF1.wide (by omega) (by omega)).tr ((Fr.set (by omega) (by omega)).tr ((hF9.wide (by omega) (by omega)).tr (Fr.set (by omega) (by omega))))
    have hmin : min 16 (gP σ + 1) = 16 := by omega
    exact P_vret dX10_notes_70 rfl ⟨Nat.le_refl _, Nat.le_refl _⟩ ⟨rfl, ⟨oDd o (nI (16)), ⟨set_at hob2, set_ne (hF9.at (set_ne (hF1.at hk.2.1 (by decide)) (by decide)) (by decide)) (by decide), hk.2.2⟩, congrArg nI hmin.symm, h2, h3, h4, h5, ⟨show mPast _ (min 16 (gP σ + 1)) (psA (gQ σ) (gR σ)) from by rw [hmin]; exact ⟨_, set_ne kP9 (by decide), mp_add16 (by rw [e16] at hP; exact hP) (by rw [e16] at hpb; exact hpb) hN hk.2.2.1⟩, kI.sm (hFz.2 _ (by decide)) (hFz.2 _ (by decide)), kB.sm (hFz.2 _ (by decide)) (hFz.2 _ (by decide)) (hFz.2 _ (by decide)), kT.sm (hFz.2 _ (by decide))⟩, kS.fr hFz (by decide)⟩, hFz⟩
