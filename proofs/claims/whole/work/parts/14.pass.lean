/-! what passes a PART, and PARTS one behind another -/
def prt (d k x : Int32) (inp : Nat → Int64) : Nat → Int64 × Int64
  | 0 => (inp 0, 0)
  | t + 1 => (jfd ((wA d k x).toInt64 * inp (t + 1) + (wB d k x).toInt64 * inp t + (wC d k x).toInt64 * (prt d k x inp t).1 + (prt d k x inp t).2) (wM d k x).toInt64,
      jfm ((wA d k x).toInt64 * inp (t + 1) + (wB d k x).toInt64 * inp t + (wC d k x).toInt64 * (prt d k x inp t).1 + (prt d k x inp t).2) (wM d k x).toInt64)
def oP (d k x : Int32) (inp : Nat → Int64) (t : Nat) : Int64 := (prt d k x inp t).1
def eP (d k x : Int32) (inp : Nat → Int64) (t : Nat) : Int64 := (prt d k x inp t).2
def hP (d k x : Int32) (inp : Nat → Int64) (t : Nat) (h : Int64) : Int64 := h + k.toInt64 * (x.toInt64 * inp t + (20 - x).toInt64 * oP d k x inp t) + eP d k x inp t
def flP (d k x : Int32) : Nat → (Nat → Int64) → Nat → Int64
  | 0, inp => inp
  | q + 1, inp => oP d k x (flP d k x q inp)
def hlP (d k x : Int32) : Nat → (Nat → Int64) → Nat → Int64
  | 0, _ => fun _ => 0
  | q + 1, inp => fun t => hP d k x (flP d k x q inp) t (hlP d k x q inp t)
theorem prt_cong {d k x : Int32} {f g : Nat → Int64} : ∀ {t : Nat}, (∀ j, j ≤ t → f j = g j) → prt d k x f t = prt d k x g t
  | 0, h => by show (f 0, (0 : Int64)) = (g 0, 0); rw [h 0 (Nat.le_refl _)]
  | t + 1, h => by
    have ih := prt_cong (d := d) (k := k) (x := x) (t := t) (fun j hj => h j (by omega))
    simp only [prt]
    rw [ih, h (t + 1) (Nat.le_refl _), h t (by omega)]
theorem oP_cong {d k x : Int32} {f g : Nat → Int64} {t : Nat} (h : ∀ j, j ≤ t → f j = g j) : oP d k x f t = oP d k x g t := by unfold oP; rw [prt_cong h]
theorem eP_cong {d k x : Int32} {f g : Nat → Int64} {t : Nat} (h : ∀ j, j ≤ t → f j = g j) : eP d k x f t = eP d k x g t := by unfold eP; rw [prt_cong h]
theorem hP_cong {d k x : Int32} {f g : Nat → Int64} {t : Nat} {a b : Int64} (h : ∀ j, j ≤ t → f j = g j) (e : a = b) : hP d k x f t a = hP d k x g t b := by unfold hP; rw [oP_cong h, eP_cong h, h t (Nat.le_refl _), e]
theorem flP_cong {d k x : Int32} {f g : Nat → Int64} : ∀ (q : Nat) {t : Nat}, (∀ j, j ≤ t → f j = g j) → flP d k x q f t = flP d k x q g t
  | 0, _, h => h _ (Nat.le_refl _)
  | q + 1, t, h => oP_cong (fun j hj => flP_cong q (fun i hi => h i (by omega)))
theorem hlP_cong {d k x : Int32} {f g : Nat → Int64} : ∀ (q : Nat) {t : Nat}, (∀ j, j ≤ t → f j = g j) → hlP d k x q f t = hlP d k x q g t
  | 0, _, h => rfl
  | q + 1, t, h => hP_cong (fun j hj => flP_cong q (fun i hi => h i (by omega))) (hlP_cong q h)
/-- values of the TIME ahead -/
def pv (f : Nat → Int64) : Nat → Int64
  | 0 => 0
  | t + 1 => f t
/-! fewer locals -/
def subL : List (Option Value) → List (Option Value) → Prop
  | [], _ => True
  | none :: a, b => subL a b.tail
  | some v :: a, b => b.head? = some (some v) ∧ subL a b.tail
theorem subL_get : ∀ (a b : List (Option Value)), subL a b → ∀ (i : Nat) (v : Value), a[i]? = some (some v) → b[i]? = some (some v)
  | [], _, _, i, v, h => by simp at h
  | none :: a, b, hs, 0, v, h => by simp at h
  | none :: a, b, hs, i + 1, v, h => by
    have := subL_get a b.tail hs i v (by simpa using h)
    rw [← this]; cases b <;> simp
  | some w :: a, b, hs, 0, v, h => by
    simp at h; subst h
    cases b with
    | nil => simp [subL] at hs
    | cons c b => have := hs.1; simp at this; simp [this]
  | some w :: a, b, hs, i + 1, v, h => by
    have := subL_get a b.tail hs.2 i v (by simpa using h)
    rw [← this]; cases b <;> simp
theorem P_loc {M : MD} {l : Launch} {R : Room} {Z : PZ} {X : PX} {cells slots pc : Nat} {L L' : List (Option Value)} {st : List Value} {G : PH} (h : subL L' L) (k : WP M l R Z X cells slots pc L' st G) : WP M l R Z X cells slots pc L st G :=
  fun E p e s m args below meth c H locs Ls hC hX hR hS hL => k E p e s m args below meth c H locs Ls hC hX hR hS ⟨hL.1, hL.2.1, fun i v hi => hL.2.2 i v (subL_get L' L h i v hi)⟩
theorem t_at0 (l : Launch) {G : PH} {h R C c : Nat} {f : Nat → Int64} (k : cells G h R C f) (hR : 0 < R) (hc : c < C) : Fn l mX1_at [.ref h, .int 0, .int (nI c)] G (.long (f c)) := by
  have := t_at l (r := 0) k hR hc
  rw [Nat.zero_mul, Nat.zero_add] at this
  exact this
theorem t_put0 (l : Launch) {G : PH} {h R C c : Nat} {f : Nat → Int64} {v : Int64} (k : cells G h R C f) (hR : 0 < R) (hc : c < C) : Tri l mX1_put 0 0 [.ref h, .int 0, .int (nI c), .long v] G (fun w G' => w = none ∧ cells G' h R C (vp_updL f c v) ∧ Fr G G' h 2) := by
  have := t_put l (r := 0) (v := v) k hR hc
  rw [Nat.zero_mul, Nat.zero_add] at this
  exact this
/-! the Routing object -/
abbrev oQ (h T D : Nat) : PCell := .inr (7, [.ref (h + 1), .ref (h + 3), .ref (h + 5), .ref (h + 7), .ref (h + 9), .int (nI T), .int (nI D)])
def rout (G : PH) (h T D : Nat) (fi fo fs fl fh : Nat → Int64) : Prop := G[h]? = some (oQ h T D) ∧ cells G (h + 1) 6 24 fi ∧ cells G (h + 3) 6 24 fo ∧ cells G (h + 5) 6 24 fs ∧ cells G (h + 7) 1 24 fl ∧ cells G (h + 9) 1 24 fh
theorem rout.fr {G G' : PH} {h T D a n : Nat} {fi fo fs fl fh : Nat → Int64} (k : rout G h T D fi fo fs fl fh) (hF : Fr G G' a n) (hd : h + 11 ≤ a ∨ a + n ≤ h) : rout G' h T D fi fo fs fl fh :=
  ⟨hF.at k.1 (by omega), k.2.1.fr hF (by omega), k.2.2.1.fr hF (by omega), k.2.2.2.1.fr hF (by omega), k.2.2.2.2.1.fr hF (by omega), k.2.2.2.2.2.fr hF (by omega)⟩
theorem rout.lv {G G' : PH} {h T D : Nat} {fi fo fs fl fh g : Nat → Int64} (k : rout G h T D fi fo fs fl fh) (hF : Fr G G' (h + 7) 2) (c : cells G' (h + 7) 1 24 g) : rout G' h T D fi fo fs g fh :=
  ⟨hF.at k.1 (by omega), k.2.1.fr hF (by omega), k.2.2.1.fr hF (by omega), k.2.2.2.1.fr hF (by omega), c, k.2.2.2.2.2.fr hF (by omega)⟩
theorem rout.hd {G G' : PH} {h T D : Nat} {fi fo fs fl fh g : Nat → Int64} (k : rout G h T D fi fo fs fl fh) (hF : Fr G G' (h + 9) 2) (c : cells G' (h + 9) 1 24 g) : rout G' h T D fi fo fs fl g :=
  ⟨hF.at k.1 (by omega), k.2.1.fr hF (by omega), k.2.2.1.fr hF (by omega), k.2.2.2.1.fr hF (by omega), k.2.2.2.2.1.fr hF (by omega), c⟩
theorem rout.ins {G G' : PH} {h T D : Nat} {fi fo fs fl fh g : Nat → Int64} (k : rout G h T D fi fo fs fl fh) (hF : Fr G G' (h + 1) 2) (c : cells G' (h + 1) 6 24 g) : rout G' h T D g fo fs fl fh :=
  ⟨hF.at k.1 (by omega), c, k.2.2.1.fr hF (by omega), k.2.2.2.1.fr hF (by omega), k.2.2.2.2.1.fr hF (by omega), k.2.2.2.2.2.fr hF (by omega)⟩
theorem rout.outs {G G' : PH} {h T D : Nat} {fi fo fs fl fh g : Nat → Int64} (k : rout G h T D fi fo fs fl fh) (hF : Fr G G' (h + 3) 2) (c : cells G' (h + 3) 6 24 g) : rout G' h T D fi g fs fl fh :=
  ⟨hF.at k.1 (by omega), k.2.1.fr hF (by omega), c, k.2.2.2.1.fr hF (by omega), k.2.2.2.2.1.fr hF (by omega), k.2.2.2.2.2.fr hF (by omega)⟩
theorem rout.sto {G G' : PH} {h T D : Nat} {fi fo fs fl fh g : Nat → Int64} (k : rout G h T D fi fo fs fl fh) (hF : Fr G G' (h + 5) 2) (c : cells G' (h + 5) 6 24 g) : rout G' h T D fi fo g fl fh :=
  ⟨hF.at k.1 (by omega), k.2.1.fr hF (by omega), k.2.2.1.fr hF (by omega), c, k.2.2.2.2.1.fr hF (by omega), k.2.2.2.2.2.fr hF (by omega)⟩
set_option maxHeartbeats 4000000 in
set_option maxRecDepth 100000 in
theorem lp_passPart (l : Launch) {G0 : PH} {h T D : Nat} {fi fo fs fl fh : Nat → Int64} {k x : Int32} (hT : T ≤ 24) (hM : ¬ (wM (nI D) k x).toInt64 = 0) : ∀ (n : Nat) (G : PH) (t : Nat) (g1 g2 : Nat → Int64), rout G h T D fi fo fs g1 g2 → (∀ j, t ≤ j → g1 j = fl j) → (∀ j, t ≤ j → g2 j = fh j) → (∀ j, j < t → g1 j = oP (nI D) k x fl j ∧ g2 j = hP (nI D) k x fl j (fh j)) → t ≤ T → T - t < n → Fr G0 G h 11 →
    WP mX7_passPart l (rmM mX7_passPart 0 0) (ZM 0 0 (fun w G' => w = none ∧ (∃ g1 g2, rout G' h T D fi fo fs g1 g2 ∧ ∀ j, j < T → g1 j = oP (nI D) k x fl j ∧ g2 j = hP (nI D) k x fl j (fh j)) ∧ Fr G0 G' h 11)) XT 0 0 67 [some (.ref h), some (.int k), some (.int x), some (.long (wA (nI D) k x).toInt64), none, some (.long (wB (nI D) k x).toInt64), none, some (.long (wC (nI D) k x).toInt64), none, some (.long (wM (nI D) k x).toInt64), none, some (.long (pv fl t)), none, some (.long (pv (oP (nI D) k x fl) t)), none, some (.long (pv (eP (nI D) k x fl) t)), none, some (.int (nI t)), none, none, none, none] [] G := by
  intro n
  induction n with
  | zero => intro G t g1 g2 _ _ _ _ _ hn; exact absurd hn (Nat.not_lt_zero _)
  | succ n ih =>
    intro G t g1 g2 kr hg1 hg2 hd ht hn hF
    have hrest : t < T → ∀ (vo ve : Int64), vo = oP (nI D) k x fl t → ve = eP (nI D) k x fl t → WP mX7_passPart l (rmM mX7_passPart 0 0) (ZM 0 0 (fun w G' => w = none ∧ (∃ g1 g2, rout G' h T D fi fo fs g1 g2 ∧ ∀ j, j < T → g1 j = oP (nI D) k x fl j ∧ g2 j = hP (nI D) k x fl j (fh j)) ∧ Fr G0 G' h 11)) XT 0 0 139 [some (.ref h), some (.int k), some (.int x), some (.long (wA (nI D) k x).toInt64), none, some (.long (wB (nI D) k x).toInt64), none, some (.long (wC (nI D) k x).toInt64), none, some (.long (wM (nI D) k x).toInt64), none, none, none, some (.long vo), none, some (.long ve), none, some (.int (nI t)), some (.long (fl t)), none, none, none] [] G := by
      intro hlt vo ve evo eve
      subst evo; subst eve
      refine P_lload dX7_passPart_139 rfl ?_
      refine P_lstore (L' := [_, _, _, _, _, _, _, _, _, _, _, _, _, _, _, _, _, _, _, _, _, _]) dX7_passPart_141 (Nat.le_of_ble_eq_true rfl) rfl ?_
      refine P_aload_n dX7_passPart_143 rfl ?_
      refine P_get dX7_passPart_144 flX7_26 kr.1 rfl ?_
      refine P_iconst dX7_passPart_147 ci_0 ?_
      refine P_iload dX7_passPart_148 rfl ?_
      refine P_lload dX7_passPart_150 rfl ?_
      refine P_callV dX7_passPart_152 lkX7_65 okX1_put ⟨Nat.le_of_ble_eq_true rfl, Nat.le_of_ble_eq_true rfl⟩ (t_put0 l kr.2.2.2.2.1 (by decide) (Nat.lt_of_lt_of_le hlt hT)) rfl rfl kr.2.2.2.2.1.1 (Nat.le_of_ble_eq_true rfl) ⟨Nat.le_of_ble_eq_true rfl, Nat.le_of_ble_eq_true rfl⟩ (fun v152 G152 q152 => ?_)
      obtain ⟨rfl, kc1, hF1⟩ := q152
      have kr1 := kr.lv hF1 kc1
      refine P_aload_n dX7_passPart_155 rfl ?_
      refine P_get dX7_passPart_156 flX7_29 kr1.1 rfl ?_
      refine P_iconst dX7_passPart_159 ci_0 ?_
      refine P_iload dX7_passPart_160 rfl ?_
      refine P_aload_n dX7_passPart_162 rfl ?_
      refine P_get dX7_passPart_163 flX7_29 kr1.1 rfl ?_
      refine P_iconst dX7_passPart_166 ci_0 ?_
      refine P_iload dX7_passPart_167 rfl ?_
      refine P_callVp dX7_passPart_169 lkX7_61 okX1_at ⟨Nat.le_of_ble_eq_true rfl, Nat.le_of_ble_eq_true rfl⟩ (t_at0 l kr1.2.2.2.2.2 (by decide) (Nat.lt_of_lt_of_le hlt hT)) rfl rfl kr1.2.2.2.2.2.1 (Nat.le_of_ble_eq_true rfl) ⟨Nat.le_of_ble_eq_true rfl, Nat.le_of_ble_eq_true rfl⟩ ?_
      rw [hg2 t (Nat.le_refl _)]
      refine P_iload_n dX7_passPart_172 rfl ?_
      refine P_i2l dX7_passPart_173 ?_
      refine P_iload_n dX7_passPart_174 rfl ?_
      refine P_i2l dX7_passPart_175 ?_
      refine P_lload dX7_passPart_176 rfl ?_
      refine P_lmul dX7_passPart_178 ?_
      refine P_bipush dX7_passPart_179 bp_20 ?_
      refine P_iload_n dX7_passPart_181 rfl ?_
      refine P_isub dX7_passPart_182 ?_
      refine P_i2l dX7_passPart_183 ?_
      refine P_lload dX7_passPart_184 rfl ?_
      refine P_lmul dX7_passPart_186 ?_
      refine P_ladd dX7_passPart_187 ?_
      refine P_lmul dX7_passPart_188 ?_
      refine P_ladd dX7_passPart_189 ?_
      refine P_lload dX7_passPart_190 rfl ?_
      refine P_ladd dX7_passPart_192 ?_
      refine P_callV dX7_passPart_193 lkX7_65 okX1_put ⟨Nat.le_of_ble_eq_true rfl, Nat.le_of_ble_eq_true rfl⟩ (t_put0 l kr1.2.2.2.2.2 (by decide) (Nat.lt_of_lt_of_le hlt hT)) rfl rfl kr1.2.2.2.2.2.1 (Nat.le_of_ble_eq_true rfl) ⟨Nat.le_of_ble_eq_true rfl, Nat.le_of_ble_eq_true rfl⟩ (fun v193 G193 q193 => ?_)
      obtain ⟨rfl, kc2, hF2⟩ := q193
      have kr2 := kr1.hd hF2 kc2
      refine P_iinc (L' := [_, _, _, _, _, _, _, _, _, _, _, _, _, _, _, _, _, _, _, _, _, _]) dX7_passPart_196 rfl (ii_1 _) (Nat.le_of_ble_eq_true rfl) rfl ?_
      rw [nI_1]
      refine P_goto (tgt := 67) dX7_passPart_199 (by decide) ?_
      refine P_loc ?_ (ih G193 (t + 1) _ _ kr2 ?_ ?_ ?_ (by omega) (by omega) (hF.tr ((hF1.wide (by omega) (by omega)).tr (hF2.wide (by omega) (by omega)))))
      · simp only [subL, List.head?_cons, List.tail_cons]; and_intros <;> first | rfl | trivial
      · intro j hj; rw [pk_uLn (by omega)]; exact hg1 j (by omega)
      · intro j hj; rw [pk_uLn (by omega)]; exact hg2 j (by omega)
      · intro j hj
        by_cases e : j = t
        · subst e; rw [pk_uLs, pk_uLs]; exact ⟨rfl, rfl⟩
        · rw [pk_uLn e, pk_uLn e]; exact hd j (by omega)
    refine P_iload dX7_passPart_67 rfl ?_
    refine P_aload_n dX7_passPart_69 rfl ?_
    refine P_get dX7_passPart_70 flX7_32 kr.1 rfl ?_
    refine P_icmp_ge (tgt := 202) dX7_passPart_73 (by decide) (fun c73 => ?_) (fun c73 => ?_)
    · have hi2 : t = T := Nat.le_antisymm ht (Nat.not_lt.mp fun q => nI_ge q (by omega) c73)
      subst hi2
      exact P_vret dX7_passPart_202 rfl ⟨Nat.le_refl _, Nat.le_refl _⟩ ⟨rfl, ⟨g1, g2, kr, hd⟩, hF⟩
    · have hlt : t < T := Nat.not_le.mp fun q => c73 (nI_le q (by omega))
      refine P_aload_n dX7_passPart_76 rfl ?_
      refine P_get dX7_passPart_77 flX7_26 kr.1 rfl ?_
      refine P_iconst dX7_passPart_80 ci_0 ?_
      refine P_iload dX7_passPart_81 rfl ?_
      refine P_callVp dX7_passPart_83 lkX7_61 okX1_at ⟨Nat.le_of_ble_eq_true rfl, Nat.le_of_ble_eq_true rfl⟩ (t_at0 l kr.2.2.2.2.1 (by decide) (Nat.lt_of_lt_of_le hlt hT)) rfl rfl kr.2.2.2.2.1.1 (Nat.le_of_ble_eq_true rfl) ⟨Nat.le_of_ble_eq_true rfl, Nat.le_of_ble_eq_true rfl⟩ ?_
      rw [hg1 t (Nat.le_refl _)]
      refine P_lstore (L' := [_, _, _, _, _, _, _, _, _, _, _, _, _, _, _, _, _, _, _, _, _, _]) dX7_passPart_86 (Nat.le_of_ble_eq_true rfl) rfl ?_
      refine P_iload dX7_passPart_88 rfl ?_
      refine P_if_ne (tgt := 100) dX7_passPart_90 (by decide) (fun c90 => ?_) (fun c90 => ?_)
      · have h0 : 0 < t := Nat.pos_of_ne_zero fun q => c90 (by rw [q]; rfl)
        obtain ⟨u, rfl⟩ : ∃ u, t = u + 1 := ⟨t - 1, by omega⟩
        refine P_lload_n dX7_passPart_100 rfl ?_
        refine P_lload dX7_passPart_101 rfl ?_
        refine P_lmul dX7_passPart_103 ?_
        refine P_lload dX7_passPart_104 rfl ?_
        refine P_lload dX7_passPart_106 rfl ?_
        refine P_lmul dX7_passPart_108 ?_
        refine P_ladd dX7_passPart_109 ?_
        refine P_lload dX7_passPart_110 rfl ?_
        refine P_lload dX7_passPart_112 rfl ?_
        refine P_lmul dX7_passPart_114 ?_
        refine P_ladd dX7_passPart_115 ?_
        refine P_lload dX7_passPart_116 rfl ?_
        refine P_ladd dX7_passPart_118 ?_
        refine P_lstore (L' := [_, _, _, _, _, _, _, _, _, _, _, _, _, _, _, _, _, _, _, _, _, _]) dX7_passPart_119 (Nat.le_of_ble_eq_true rfl) rfl ?_
        refine P_lload dX7_passPart_121 rfl ?_
        refine P_lload dX7_passPart_123 rfl ?_
        refine P_callSp dX7_passPart_125 lkX7_88 okJ9_floorDiv_f86c9 ⟨Nat.le_of_ble_eq_true rfl, Nat.le_of_ble_eq_true rfl⟩ (t_jfd l hM) rfl rfl (Nat.le_of_ble_eq_true rfl) ⟨Nat.le_of_ble_eq_true rfl, Nat.le_of_ble_eq_true rfl⟩ ?_
        refine P_lstore (L' := [_, _, _, _, _, _, _, _, _, _, _, _, _, _, _, _, _, _, _, _, _, _]) dX7_passPart_128 (Nat.le_of_ble_eq_true rfl) rfl ?_
        refine P_lload dX7_passPart_130 rfl ?_
        refine P_lload dX7_passPart_132 rfl ?_
        refine P_callSp dX7_passPart_134 lkX7_94 okJ9_floorMod_f86c9 ⟨Nat.le_of_ble_eq_true rfl, Nat.le_of_ble_eq_true rfl⟩ (t_jfm l hM) rfl rfl (Nat.le_of_ble_eq_true rfl) ⟨Nat.le_of_ble_eq_true rfl, Nat.le_of_ble_eq_true rfl⟩ ?_
        refine P_lstore (L' := [_, _, _, _, _, _, _, _, _, _, _, _, _, _, _, _, _, _, _, _, _, _]) dX7_passPart_137 (Nat.le_of_ble_eq_true rfl) rfl ?_
        exact P_loc (by simp only [subL, List.head?_cons, List.tail_cons]; and_intros <;> first | rfl | trivial) (hrest hlt _ _ rfl rfl)
      · have h0 : t = 0 := (nI_eq (b := 0) (by omega) (by decide)).mp c90
        subst h0
        refine P_lload dX7_passPart_93 rfl ?_
        refine P_lstore (L' := [_, _, _, _, _, _, _, _, _, _, _, _, _, _, _, _, _, _, _, _, _, _]) dX7_passPart_95 (Nat.le_of_ble_eq_true rfl) rfl ?_
        refine P_goto (tgt := 139) dX7_passPart_97 (by decide) ?_
        exact P_loc (by simp only [subL, List.head?_cons, List.tail_cons]; and_intros <;> first | rfl | trivial) (hrest hlt _ _ rfl rfl)
set_option maxHeartbeats 4000000 in
set_option maxRecDepth 100000 in
theorem t_passPart (l : Launch) {G : PH} {h T D : Nat} {fi fo fs fl fh : Nat → Int64} {k x : Int32} (kr : rout G h T D fi fo fs fl fh) (hT : T ≤ 24) (hM : 0 < (wM (nI D) k x).toInt64) : Tri l mX7_passPart 0 0 [.ref h, .int k, .int x] G (fun w G' => w = none ∧ (∃ g1 g2, rout G' h T D fi fo fs g1 g2 ∧ ∀ j, j < T → g1 j = oP (nI D) k x fl j ∧ g2 j = hP (nI D) k x fl j (fh j)) ∧ Fr G G' h 11) := by
  refine Tri.intro (L := [_, _, _, _, _, _, _, _, _, _, _, _, _, _, _, _, _, _, _, _, _, _]) okX7_passPart.1 (Nat.le_of_ble_eq_true rfl) rfl ?_
  refine P_aload_n dX7_passPart_0 rfl ?_
  refine P_get dX7_passPart_1 flX7_36 kr.1 rfl ?_
  refine P_iload_n dX7_passPart_4 rfl ?_
  refine P_iload_n dX7_passPart_5 rfl ?_
  refine P_callSp dX7_passPart_6 lkX7_75 okX6_weightA ⟨Nat.le_of_ble_eq_true rfl, Nat.le_of_ble_eq_true rfl⟩ (t_weightA l) rfl rfl (Nat.le_of_ble_eq_true rfl) ⟨Nat.le_of_ble_eq_true rfl, Nat.le_of_ble_eq_true rfl⟩ ?_
  refine P_i2l dX7_passPart_9 ?_
  refine P_lstore_n (L' := [_, _, _, _, _, _, _, _, _, _, _, _, _, _, _, _, _, _, _, _, _, _]) dX7_passPart_10 (Nat.le_of_ble_eq_true rfl) rfl ?_
  refine P_aload_n dX7_passPart_11 rfl ?_
  refine P_get dX7_passPart_12 flX7_36 kr.1 rfl ?_
  refine P_iload_n dX7_passPart_15 rfl ?_
  refine P_iload_n dX7_passPart_16 rfl ?_
  refine P_callSp dX7_passPart_17 lkX7_79 okX6_weightB ⟨Nat.le_of_ble_eq_true rfl, Nat.le_of_ble_eq_true rfl⟩ (t_weightB l) rfl rfl (Nat.le_of_ble_eq_true rfl) ⟨Nat.le_of_ble_eq_true rfl, Nat.le_of_ble_eq_true rfl⟩ ?_
  refine P_i2l dX7_passPart_20 ?_
  refine P_lstore (L' := [_, _, _, _, _, _, _, _, _, _, _, _, _, _, _, _, _, _, _, _, _, _]) dX7_passPart_21 (Nat.le_of_ble_eq_true rfl) rfl ?_
  refine P_aload_n dX7_passPart_23 rfl ?_
  refine P_get dX7_passPart_24 flX7_36 kr.1 rfl ?_
  refine P_iload_n dX7_passPart_27 rfl ?_
  refine P_iload_n dX7_passPart_28 rfl ?_
  refine P_callSp dX7_passPart_29 lkX7_82 okX6_weightC ⟨Nat.le_of_ble_eq_true rfl, Nat.le_of_ble_eq_true rfl⟩ (t_weightC l) rfl rfl (Nat.le_of_ble_eq_true rfl) ⟨Nat.le_of_ble_eq_true rfl, Nat.le_of_ble_eq_true rfl⟩ ?_
  refine P_i2l dX7_passPart_32 ?_
  refine P_lstore (L' := [_, _, _, _, _, _, _, _, _, _, _, _, _, _, _, _, _, _, _, _, _, _]) dX7_passPart_33 (Nat.le_of_ble_eq_true rfl) rfl ?_
  refine P_aload_n dX7_passPart_35 rfl ?_
  refine P_get dX7_passPart_36 flX7_36 kr.1 rfl ?_
  refine P_iload_n dX7_passPart_39 rfl ?_
  refine P_iload_n dX7_passPart_40 rfl ?_
  refine P_callSp dX7_passPart_41 lkX7_85 okX6_weightM ⟨Nat.le_of_ble_eq_true rfl, Nat.le_of_ble_eq_true rfl⟩ (t_weightM l) rfl rfl (Nat.le_of_ble_eq_true rfl) ⟨Nat.le_of_ble_eq_true rfl, Nat.le_of_ble_eq_true rfl⟩ ?_
  refine P_i2l dX7_passPart_44 ?_
  refine P_lstore (L' := [_, _, _, _, _, _, _, _, _, _, _, _, _, _, _, _, _, _, _, _, _, _]) dX7_passPart_45 (Nat.le_of_ble_eq_true rfl) rfl ?_
  refine P_lload dX7_passPart_47 rfl ?_
  refine P_lconst dX7_passPart_49 lc_0 ?_
  refine P_lcmp dX7_passPart_50 ?_
  refine P_if_gt (tgt := 55) dX7_passPart_51 (by decide) (fun c51 => ?_) (fun c51 => ?_)
  · refine P_lconst dX7_passPart_55 lc_0 ?_
    refine P_lstore (L' := [_, _, _, _, _, _, _, _, _, _, _, _, _, _, _, _, _, _, _, _, _, _]) dX7_passPart_56 (Nat.le_of_ble_eq_true rfl) rfl ?_
    refine P_lconst dX7_passPart_58 lc_0 ?_
    refine P_lstore (L' := [_, _, _, _, _, _, _, _, _, _, _, _, _, _, _, _, _, _, _, _, _, _]) dX7_passPart_59 (Nat.le_of_ble_eq_true rfl) rfl ?_
    refine P_lconst dX7_passPart_61 lc_0 ?_
    refine P_lstore (L' := [_, _, _, _, _, _, _, _, _, _, _, _, _, _, _, _, _, _, _, _, _, _]) dX7_passPart_62 (Nat.le_of_ble_eq_true rfl) rfl ?_
    refine P_iconst dX7_passPart_64 ci_0 ?_
    refine P_istore (L' := [_, _, _, _, _, _, _, _, _, _, _, _, _, _, _, _, _, _, _, _, _, _]) dX7_passPart_65 (Nat.le_of_ble_eq_true rfl) rfl ?_
    exact P_loc (by simp only [subL, List.head?_cons, List.tail_cons]; and_intros <;> first | rfl | trivial) (lp_passPart l (fl := fl) (fh := fh) hT (fun q => by rw [q] at hM; exact absurd hM (by decide)) (T + 1) G 0 fl fh kr (fun _ _ => rfl) (fun _ _ => rfl) (fun j hj => absurd hj (Nat.not_lt_zero _)) (Nat.zero_le _) (by omega) Fr.rf)
  · exact absurd ((lg_cmp_gt _ _).mpr hM) c51
