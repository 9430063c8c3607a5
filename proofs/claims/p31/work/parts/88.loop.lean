/-! THE LAW: its loop, its start -/
abbrev JHd (G : JG) (d : Nat) (kc : Nat × Nat) (S : JS) (D : JD) (X g0 h0 e : Int) (l5 l6 l7 l8 l9 l10 l11 l12 l13 l14 l15 : Option JV) : Prop := JX G yL_law cL_law 16 (some .boolean) (d + 12) (615115, 7256902) kc S D 159 [some (.inr (.inr (some (gb G : Int)))), some (.inr (.inr (some X))), some (.inl g0), some (.inl h0), some (.inl e), l5, l6, l7, l8, l9, l10, l11, l12, l13, l14, l15] [] (fun v _ _ => v = some (.inl 1))
theorem law_back {G : JG} {S : JS} {D : JD} {d : Nat} {kc : Nat × Nat} {X t n q g0 h0 e g h u c gg b : Int} {hs : Int → Int → Int} {r : Int → Int} {l12 l13 l14 l15 : Option JV} (hP : pSt S D X t n hs r q) (ht : t ≤ 60000) (hcons : sTot r = r 4 + r 5) (hkk : kc.1 ≤ 615115 ∧ kc.2 ≤ 7256902)
    (K : ∀ l5 l6 l7 l8 l9 l10 l11 l12 l13 l14 l15 : Option JV, JHd G d kc S D X g0 h0 (e + 1) l5 l6 l7 l8 l9 l10 l11 l12 l13 l14 l15) : JLc G d kc S D X g0 h0 e g h u c gg b 1 l12 l13 l14 l15 999 [] := by
  have hB := hP.1
  have bk := hB.1
  have hI := hP.2.1.2.2.2.1
  have b1 := hI.1
  show JX _ _ _ _ _ _ _ _ _ _ _ [_, _, _, _, _, _, _, _, _, _, _, _, _, _, _, _] _ _
  refine x_iload dL_law_999 rfl ?_
  refine x_if_eq (tgt := 1018) dL_law_1001 (by decide) ⟨by omega, by omega⟩ (fun h => absurd h (by omega)) (fun hb1001 => ?_)
  refine x_aload_n dL_law_1004 rfl ?_
  refine c_RL_168d dL_law_1005 rfl (kL_waters hP ht hcons) (Nat.le_of_ble_eq_true rfl) (Nat.le_of_ble_eq_true rfl) hkk ?_
  refine x_if_eq (tgt := 1018) dL_law_1008 (by decide) ⟨by omega, by omega⟩ (fun h => absurd h (by omega)) (fun hb1008 => ?_)
  refine x_aload_n dL_law_1011 rfl ?_
  refine c_RL_172d dL_law_1012 rfl (kL_barges hP ht) (Nat.le_of_ble_eq_true rfl) (Nat.le_of_ble_eq_true rfl) hkk ?_
  refine x_if_ne (tgt := 1020) dL_law_1015 (by decide) ⟨by omega, by omega⟩ (fun hb1015 => ?_) (fun h => (h (by omega)).elim)
  refine x_iinc dL_law_1020 rfl (by decide) ?_
  show JX _ _ _ _ _ _ _ _ _ _ _ [_, _, _, _, _, _, _, _, _, _, _, _, _, _, _, _] _ _
  refine x_goto (tgt := 159) dL_law_1023 (by decide) ?_
  exact K _ _ _ _ _ _ _ _ _ _ _
theorem law_loop {G : JG} {S : JS} {d : Nat} {kc : Nat × Nat} {X g0 h0 : Int} (hb : gb G < (gB G).size) (hL : gL G ≤ 260) (hkk : kc.1 + 41 ≤ 615115 ∧ kc.2 + 275 ≤ 7256902) : ∀ (k j : Nat), j + k = 44 → ∀ (D : JD) (n : Int) (hs : Int → Int → Int) (r : Int → Int) (q : Int) (l5 l6 l7 l8 l9 l10 l11 l12 l13 l14 l15 : Option JV), pSt S D X (400 + 700 * (j : Int)) n hs r q → pIn (j : Int) r → JHd G d kc S D X g0 h0 (j : Int) l5 l6 l7 l8 l9 l10 l11 l12 l13 l14 l15 := by
  have hkk2 : kc.1 ≤ 615115 ∧ kc.2 ≤ 7256902 := ⟨by omega, by omega⟩
  intro k
  induction k with
  | zero =>
    intro j hj D n hs r q l5 l6 l7 l8 l9 l10 l11 l12 l13 l14 l15 hP hE
    have hB := hP.1
    have bk := hB.1
    have hI := hP.2.1.2.2.2.1
    have b1 := hI.1
    show JX _ _ _ _ _ _ _ _ _ _ _ [_, _, _, _, _, _, _, _, _, _, _, _, _, _, _, _] _ _
    refine x_iload dL_law_159 rfl ?_
    refine x_bipush dL_law_161 (by decide) ?_
    refine x_ic_ge (tgt := 1026) dL_law_163 (by decide) ⟨by omega, by omega⟩ ⟨by omega, by omega⟩ (fun hb163 => ?_) (fun h => (h (by omega)).elim)
    refine x_aload_n dL_law_1026 rfl ?_
    refine c_RL_175k dL_law_1027 rfl (kL_errors hP hE (by omega) (by omega)) (Nat.le_of_ble_eq_true rfl) (Nat.le_of_ble_eq_true rfl) hkk ?_
    rintro v9 S9 D9 ⟨rfl, w9, rfl, rfl⟩
    show JX _ _ _ _ _ _ _ _ _ _ _ _ [.inl 1] _
    exact x_ireturn dL_law_1030 rfl (jbool (Or.inr rfl)).1 hkk rfl
  | succ k ih =>
    intro j hj D n hs r q l5 l6 l7 l8 l9 l10 l11 l12 l13 l14 l15 hP hE
    have hB := hP.1
    have bk := hB.1
    have hI := hP.2.1.2.2.2.1
    have b1 := hI.1
    have ht : 400 + 700 * (j : Int) ≤ 60000 := by omega
    obtain ⟨E0, E1, E2, E3, E4, E5⟩ := id hE
    have hj44 : (j : Int) < 44 := by omega
    show JX _ _ _ _ _ _ _ _ _ _ _ [_, _, _, _, _, _, _, _, _, _, _, _, _, _, _, _] _ _
    refine x_iload dL_law_159 rfl ?_
    refine x_bipush dL_law_161 (by decide) ?_
    refine x_ic_ge (tgt := 1026) dL_law_163 (by decide) ⟨by omega, by omega⟩ ⟨by omega, by omega⟩ (fun h => absurd h (by omega)) (fun hb163 => ?_)
    refine x_aload_n dL_law_166 rfl ?_
    refine x_iconst dL_law_167 ?_
    refine x_iconst dL_law_168 ?_
    refine x_iload dL_law_169 rfl ?_
    refine x_imul dL_law_171 ?_
    refine x_iadd dL_law_172 ?_
    refine c_RL_131d dL_law_173 rfl (kL_cell hb hL (by omega) (by omega)) (Nat.le_of_ble_eq_true rfl) (Nat.le_of_ble_eq_true rfl) hkk2 ?_
    have rg := zCell_r (G := G) (k := 2 + 2 * (j : Int)) (by omega) (by omega)
    generalize zCell G (2 + 2 * (j : Int)) = g at *
    refine x_istore dL_law_176 (by decide) ?_
    show JX _ _ _ _ _ _ _ _ _ _ _ [_, _, _, _, _, _, _, _, _, _, _, _, _, _, _, _] _ _
    refine x_aload_n dL_law_178 rfl ?_
    refine x_iconst dL_law_179 ?_
    refine x_iconst dL_law_180 ?_
    refine x_iload dL_law_181 rfl ?_
    refine x_imul dL_law_183 ?_
    refine x_iadd dL_law_184 ?_
    refine c_RL_131d dL_law_185 rfl (kL_cell hb hL (by omega) (by omega)) (Nat.le_of_ble_eq_true rfl) (Nat.le_of_ble_eq_true rfl) hkk2 ?_
    have rh := zCell_r (G := G) (k := 3 + 2 * (j : Int)) (by omega) (by omega)
    generalize zCell G (3 + 2 * (j : Int)) = h at *
    refine x_istore dL_law_188 (by decide) ?_
    show JX _ _ _ _ _ _ _ _ _ _ _ [_, _, _, _, _, _, _, _, _, _, _, _, _, _, _, _] _ _
    refine x_iload dL_law_190 rfl ?_
    refine x_bipush dL_law_192 (by decide) ?_
    refine c_RL_135d dL_law_194 rfl (kL_low (by omega) ⟨by omega, by omega⟩) (Nat.le_of_ble_eq_true rfl) (Nat.le_of_ble_eq_true rfl) hkk2 ?_
    refine x_istore dL_law_197 (by decide) ?_
    show JX _ _ _ _ _ _ _ _ _ _ _ [_, _, _, _, _, _, _, _, _, _, _, _, _, _, _, _] _ _
    refine x_iload dL_law_199 rfl ?_
    refine x_iconst dL_law_201 ?_
    refine x_ishrE dL_law_202 (fun v202 r202 => ?_)
    refine x_istore dL_law_203 (by decide) ?_
    show JX _ _ _ _ _ _ _ _ _ _ _ [_, _, _, _, _, _, _, _, _, _, _, _, _, _, _, _] _ _
    refine x_iload dL_law_205 rfl ?_
    refine x_aload_n dL_law_207 rfl ?_
    refine x_iconst dL_law_208 ?_
    refine c_RL_18d dL_law_209 rfl (tn_1 hP ht) bk (Nat.le_of_ble_eq_true rfl) (Nat.le_of_ble_eq_true rfl) hkk2 ?_
    refine c_RL_135d dL_law_212 rfl (kL_low (by omega) ⟨by omega, by omega⟩) (Nat.le_of_ble_eq_true rfl) (Nat.le_of_ble_eq_true rfl) hkk2 ?_
    refine x_istore dL_law_215 (by decide) ?_
    show JX _ _ _ _ _ _ _ _ _ _ _ [_, _, _, _, _, _, _, _, _, _, _, _, _, _, _, _] _ _
    refine x_iload dL_law_217 rfl ?_
    refine x_iconst dL_law_219 ?_
    refine x_iand1 dL_law_220 ?_
    refine x_istore dL_law_221 (by decide) ?_
    show JX _ _ _ _ _ _ _ _ _ _ _ [_, _, _, _, _, _, _, _, _, _, _, _, _, _, _, _] _ _
    refine x_iload dL_law_223 rfl ?_
    refine x_iconst dL_law_225 ?_
    refine x_ishrE dL_law_226 (fun v226 r226 => ?_)
    refine x_aload_n dL_law_227 rfl ?_
    refine x_iconst dL_law_228 ?_
    refine c_RL_18d dL_law_229 rfl (tn_2 hP ht) bk (Nat.le_of_ble_eq_true rfl) (Nat.le_of_ble_eq_true rfl) hkk2 ?_
    refine c_RL_135d dL_law_232 rfl (kL_low (by omega) ⟨by omega, by omega⟩) (Nat.le_of_ble_eq_true rfl) (Nat.le_of_ble_eq_true rfl) hkk2 ?_
    refine x_istore dL_law_235 (by decide) ?_
    show JX _ _ _ _ _ _ _ _ _ _ _ [_, _, _, _, _, _, _, _, _, _, _, _, _, _, _, _] _ _
    refine x_iconst dL_law_237 ?_
    refine x_istore dL_law_238 (by decide) ?_
    show JX _ _ _ _ _ _ _ _ _ _ _ [_, _, _, _, _, _, _, _, _, _, _, _, _, _, _, _] _ _
    have bu := lw_b (v := g) (n := 18) (by omega)
    have bc := lw_b (v := v202) (n := r 1) (by omega)
    have bb := lw_b (v := v226) (n := r 2) (by omega)
    exact law_cases hP hE (by omega) (by omega) hkk2 (by omega) (by omega) bc (by omega) bb r202 rh (fun D2 n2 hs2 r2 q2 m12 m13 m14 m15 hP2 hE2 => law_back hP2 (by omega) hE2.1 hkk2 (fun a5 a6 a7 a8 a9 a10 a11 a12 a13 a14 a15 => by have z := ih (j + 1) (by omega) D2 n2 hs2 r2 q2 a5 a6 a7 a8 a9 a10 a11 a12 a13 a14 a15 (hP2.mono (by omega)) (hE2.mono (by omega)); rw [show (((j + 1 : Nat)) : Int) = (j : Int) + 1 by omega] at z; exact z)) bu.1 bu.2
/-- the row of a new object -/
def p0 (k : Int) : Int := if k = 3 then 10 else 0
theorem p0_in {t : Int} (h : 0 ≤ t) : rIn t p0 := by
  have e0 : p0 0 = 0 := rfl
  have e1 : p0 1 = 0 := rfl
  have e2 : p0 2 = 0 := rfl
  have e3 : p0 3 = 10 := rfl
  have e4 : p0 4 = 0 := rfl
  have e5 : p0 5 = 0 := rfl
  refine ⟨by omega, fun i x y => by omega, fun c x y => by omega, fun b x y => by omega, ?_, ?_⟩
  · unfold sTot
    rw [e0, e1, e2]
    show (0 : Int) + 0 + 0 ≤ _
    omega
  · rw [e1, e2]
    rfl
theorem law_first {S2 : JS} {D2 : JD} {X : Int} (q2 : jBL S2 X) (q5 : jFz D2 (X + 1)) (q6 : D2 (X + 42) 1 = 0 ∧ D2 (X + 42) 2 = 0) (q7 : D2 (X + 250) 1 = 0) (q8 : D2 X 4 = 0) (q9 : D2 X 5 = 0) (q11 : ∀ z : Int, D2 (X + 251) z = 0) : pSt S2 D2 X 0 0 (fun _ => p0) p0 0 := by
  obtain ⟨z3, z4, z5, z6, z7, z8⟩ := q5
  have e0 : p0 0 = 0 := rfl
  have e1 : p0 1 = 0 := rfl
  have e2 : p0 2 = 0 := rfl
  refine ⟨q2, ⟨q9, q8, ⟨⟨z3, z4, z5, z6, z7, z8⟩, fun i x y => by omega, fun c x y => by omega, fun k z x y => by omega⟩, p0_in (by omega), ?_⟩, by omega, by omega, fun z => ?_⟩
  · obtain ⟨a1, a2⟩ := q6
    exact ⟨by omega, by omega, a2, by omega, by omega, fun k x y => by omega⟩
  · rw [show X + 250 + 1 = X + 251 by omega, q11]
    decide
theorem start_R {a f w : Int} (ha : 100 ≤ a ∧ a ≤ 100000) (hf : 0 ≤ f ∧ f ≤ 5000) (hw : 0 ≤ w ∧ w ≤ 10000000) : zAddReach a f w p0 = (0, some (rPutR a f w p0), 0) ∧ (sTot (sAll (rPutR a f w p0)) = w ∧ sAll (rPutR a f w p0) 0 = 1 ∧ sAll (rPutR a f w p0) 1 = 0 ∧ sAll (rPutR a f w p0) 2 = 0 ∧ sAll (rPutR a f w p0) 4 = 0 ∧ sAll (rPutR a f w p0) 5 = w) := by
  have c1 : gReach a f w := ⟨by omega, by omega, by omega, by omega, by omega, by omega⟩
  have e0 : p0 0 = 0 := rfl
  have c0 : ¬ 0 < p0 0 := by omega
  have hI := p0_in (t := 0) (by omega)
  have hI3 := hI.addR (by omega) c0 c1
  have T := sTot_addR (a := a) (f := f) (w := w) (r := p0) (by rw [e0]; decide) (by decide)
  have T0 : sTot p0 = 0 := rfl
  have TA := sTot_allN hI3 (rPutR a f w p0 1).toNat (by have := hI3.1; omega)
  obtain ⟨n0, n5, -, -, -⟩ := rPutR_n (a := a) (f := f) (w := w) (r := p0) (by decide)
  have o : ∀ j : Int, j ≠ 0 → j ≠ 5 → j < 6 → rPutR a f w p0 j = p0 j := fun j h0 h5 hj => rPutR_o h0 h5 (by omega)
  refine ⟨by unfold zAddReach; rw [if_pos c1, if_neg c0], ?_, ?_, ?_, ?_, ?_, ?_⟩
  · show sTot (sAllN _ _) = w
    rw [TA, T, T0]
    omega
  · rw [hI3.keep (by omega), n0]; rfl
  · rw [hI3.keep (by omega), o 1 (by decide) (by decide) (by decide)]; rfl
  · rw [hI3.keep (by omega), o 2 (by decide) (by decide) (by decide)]; rfl
  · rw [hI3.keep (by omega), o 4 (by decide) (by decide) (by decide)]; rfl
  · rw [hI3.keep (by omega), n5]
    show 0 + w = w
    omega
theorem start_C {t a l f a2 f2 w w2 : Int} {r : Int → Int} (hI : rIn t r) (t0 : 0 ≤ t) (h : sTot r = w ∧ r 0 = 1 ∧ r 1 = 0 ∧ r 2 = 0 ∧ r 4 = 0 ∧ r 5 = w) (ha : 100 ≤ a ∧ a ≤ 100000) (hl : 10 ≤ l ∧ l ≤ 200) (hf : 0 ≤ f ∧ f ≤ 5000) (ha2 : 100 ≤ a2 ∧ a2 ≤ 100000) (hf2 : 0 ≤ f2 ∧ f2 ≤ 5000) (hw : 0 ≤ w2 ∧ w2 ≤ 10000000) :
    zAddChamber a l f a2 f2 w2 r = (r 1, some (rAddC a l f a2 f2 w2 r), 0) ∧ (sTot (sAll (rAddC a l f a2 f2 w2 r)) = w + w2 ∧ sAll (rAddC a l f a2 f2 w2 r) 1 = 1 ∧ sAll (rAddC a l f a2 f2 w2 r) 2 = 0 ∧ sAll (rAddC a l f a2 f2 w2 r) 4 = 0 ∧ sAll (rAddC a l f a2 f2 w2 r) 5 = w + w2) := by
  obtain ⟨h0, h1, h2, h3, h4, h5⟩ := h
  have c1 : gCham a l f := ⟨⟨by omega, by omega, by omega, by omega⟩, by omega, by omega⟩
  have c2 : gReach a2 f2 w2 := ⟨by omega, by omega, by omega, by omega, by omega, by omega⟩
  have c3 : ¬ (r 0 = 0 ∨ r 1 = 4) := by omega
  have hI3 := hI.addC t0 c3 c1 c2
  have TA := sTot_allN hI3 (rAddC a l f a2 f2 w2 r 1).toNat (by have := hI3.1; omega)
  obtain ⟨n, n1, n2, n4, n5⟩ := addC_nums (a := a) (l := l) (f := f) (a2 := a2) (f2 := f2) (w2 := w2) (r := r) ⟨by omega, by omega⟩ ⟨by omega, by omega⟩ ⟨by omega, by omega⟩
  refine ⟨by unfold zAddChamber; rw [if_pos ⟨c1, c2⟩, if_neg c3], ?_, ?_, ?_, ?_, ?_⟩
  · show sTot (sAllN _ _) = w + w2
    rw [TA, n, h0]
  · rw [hI3.keep (by omega), n1]; omega
  · rw [hI3.keep (by omega), n2]; omega
  · rw [hI3.keep (by omega), n4]; omega
  · rw [hI3.keep (by omega), n5]; omega
theorem start_B {t w : Int} {r : Int → Int} (hI : rIn t r) (t0 : 0 ≤ t) (h : sTot r = w ∧ r 1 = 1 ∧ r 2 = 0 ∧ r 4 = 0 ∧ r 5 = w) (hw : w ≤ 300000) : zAddBarge 0 10 30 5 200 r = (r 2, some (rAddB 0 10 30 5 200 r), 0) ∧ pIn 0 (sAll (rAddB 0 10 30 5 200 r)) := by
  obtain ⟨h0, h1, h2, h4, h5⟩ := h
  have b1 := hI.1
  have hI3 := hI.addB (p := 0) (l := 10) (w := 30) (i := 5) (h := 200) (by omega) (by omega) (by omega) (by omega) (by omega) (by omega) (by omega) t0
  refine ⟨by unfold zAddBarge; rw [if_pos ⟨by omega, by omega⟩, if_pos (by omega), if_neg (by omega)], ?_⟩
  have o : ∀ j : Int, j ≠ 2 → (j < 65 + 8 * r 2 ∨ 73 + 8 * r 2 ≤ j) → rAddB 0 10 30 5 200 r j = r j := fun j h2 hj => rAddB_o h2 hj
  obtain ⟨n2, -, -, -, -, -, n70, -, -⟩ := rAddB_n (p := 0) (l := 10) (w := 30) (i := 5) (h := 200) (r := r) (by omega)
  have ht : sTot (rAddB 0 10 30 5 200 r) = sTot r := by
    unfold sTot
    rw [o 0 (by omega) (by omega), o 1 (by omega) (by omega), n2, jsum_succ (by omega), n70, jsum_congr (f := fun i2 => rAddB 0 10 30 5 200 r (8 + 3 * i2)) (g := fun i => r (8 + 3 * i)) (fun k _ _ => o _ (by omega) (by omega)), jsum_congr (f := fun k => rAddB 0 10 30 5 200 r (23 + 11 * k)) (g := fun k => r (23 + 11 * k)) (fun k _ _ => o _ (by omega) (by omega)), jsum_congr (f := fun k => rAddB 0 10 30 5 200 r (70 + 8 * k)) (g := fun k => r (70 + 8 * k)) (fun k _ _ => o _ (by omega) (by omega))]
    omega
  have k1 := o 1 (by omega) (by omega)
  have k4 := o 4 (by omega) (by omega)
  have k5 := o 5 (by omega) (by omega)
  exact pIn.all hI3 ⟨by omega, by omega, by omega, by omega, by omega, by omega⟩
theorem law_run {G : JG} {S : JS} {D : JD} {d : Nat}  (hb : gb G < (gB G).size) (hL : gL G ≤ 260) : JX G yL_law cL_law 16 (some .boolean) (d + 12) (615115, 7256902) (0, 0) S D 0 [some (.inr (.inr (some (gb G : Int)))), none, none, none, none, none, none, none, none, none, none, none, none, none, none, none] [] (fun v _ _ => v = some (.inl 1)) := by
  show JX _ _ _ _ _ _ _ _ _ _ _ [_, _, _, _, _, _, _, _, _, _, _, _, _, _, _, _] _ _
  refine x_new (c := 7) dL_law_0 rfl (by decide) cl_RL_10 ins_RX7 ini_RX7 (by decide) ?_
  refine x_dup dL_law_3 (fun _ h => by cases h) ?_
  refine c_RL_130 dL_law_4 rfl (kX7_init (X := S.1) (jnw_K (n := 0)) rfl) (Nat.le_of_ble_eq_true rfl) (Nat.le_of_ble_eq_true rfl) ⟨by decide, by decide⟩ ?_
  rintro v9 S9 D9 ⟨rfl, q1, q2, q3, q4, q5, q6, q7, q8, q9, q10, q11⟩
  dsimp only [Option.toList, List.nil_append]
  have hP0 := law_first q2 q5 q6 q7 q8 q9 q11
  have bk := hP0.1.1
  have bG : (0 : Int) ≤ 0 := by omega
  refine x_astore_n dL_law_7 (by decide) ?_
  show JX _ _ _ _ _ _ _ _ _ _ _ [_, _, _, _, _, _, _, _, _, _, _, _, _, _, _, _] _ _
  refine x_aload_n dL_law_8 rfl ?_
  refine x_iconst dL_law_9 ?_
  refine c_RL_131d dL_law_10 rfl (kL_cell hb hL (by omega) (by omega)) (Nat.le_of_ble_eq_true rfl) (Nat.le_of_ble_eq_true rfl) ⟨by decide, by decide⟩ ?_
  have rg0 := zCell_r (G := G) (k := 0) (by omega) (by omega)
  generalize zCell G (0) = g0 at *
  refine x_istore_n dL_law_13 (by decide) ?_
  show JX _ _ _ _ _ _ _ _ _ _ _ [_, _, _, _, _, _, _, _, _, _, _, _, _, _, _, _] _ _
  refine x_aload_n dL_law_14 rfl ?_
  refine x_iconst dL_law_15 ?_
  refine c_RL_131d dL_law_16 rfl (kL_cell hb hL (by omega) (by omega)) (Nat.le_of_ble_eq_true rfl) (Nat.le_of_ble_eq_true rfl) ⟨by decide, by decide⟩ ?_
  have rh0 := zCell_r (G := G) (k := 1) (by omega) (by omega)
  generalize zCell G (1) = h0 at *
  refine x_istore_n dL_law_19 (by decide) ?_
  show JX _ _ _ _ _ _ _ _ _ _ _ [_, _, _, _, _, _, _, _, _, _, _, _, _, _, _, _] _ _
  refine x_aload_n dL_law_20 rfl ?_
  refine x_bipush dL_law_21 (by decide) ?_
  refine x_bipush dL_law_23 (by decide) ?_
  refine x_iconst dL_law_25 ?_
  refine x_bipush dL_law_26 (by decide) ?_
  refine x_iconst dL_law_28 ?_
  refine x_iconst dL_law_29 ?_
  refine c_RL_100p dL_law_30 rfl (kX7_addChamber hP0.1 (Or.inl rfl) hP0.2.1 (by omega) ⟨by omega, by omega⟩ ⟨by omega, by omega⟩ ⟨by omega, by omega⟩ ⟨by omega, by omega⟩ ⟨by omega, by omega⟩ ⟨by omega, by omega⟩) bk (Nat.le_of_ble_eq_true rfl) (Nat.le_of_ble_eq_true rfl) ⟨by decide, by decide⟩ (fun w1 D1 h1 => ?_)
  have hz1 : zAddChamber 100 10 0 100 0 0 p0 = (-100000004, none, 0) := by unfold zAddChamber; rw [if_pos ⟨⟨⟨by omega, by omega, by omega, by omega⟩, by omega, by omega⟩, by omega, by omega, by omega, by omega, by omega, by omega⟩, if_pos (Or.inl (show p0 0 = 0 from rfl))]
  obtain ⟨rfl, hP1⟩ := hP0.err hz1 h1
  refine x_ldc (e := -100000004) dL_law_33 ct_RL_99 (by decide) ?_
  refine x_ic_ne (tgt := 154) dL_law_35 (by decide) ⟨by omega, by omega⟩ ⟨by omega, by omega⟩ (fun h => absurd h (by omega)) (fun hb35 => ?_)
  refine x_aload_n dL_law_38 rfl ?_
  refine x_sipush dL_law_39 (by decide) ?_
  refine x_iload_n dL_law_42 rfl ?_
  refine x_sipush dL_law_43 (by decide) ?_
  refine c_RL_135d dL_law_46 rfl (kL_low (by omega) ⟨by omega, by omega⟩) (Nat.le_of_ble_eq_true rfl) (Nat.le_of_ble_eq_true rfl) ⟨by decide, by decide⟩ ?_
  refine x_iadd dL_law_49 ?_
  refine x_iload_n dL_law_50 rfl ?_
  refine x_sipush dL_law_51 (by decide) ?_
  refine c_RL_135d dL_law_54 rfl (kL_low (by omega) ⟨by omega, by omega⟩) (Nat.le_of_ble_eq_true rfl) (Nat.le_of_ble_eq_true rfl) ⟨by decide, by decide⟩ ?_
  refine x_sipush dL_law_57 (by decide) ?_
  refine x_iload_n dL_law_60 rfl ?_
  refine x_iconst dL_law_61 ?_
  refine x_ishrE dL_law_62 (fun v62 r62 => ?_)
  refine x_ldc (e := 100000) dL_law_63 ct_RL_138 (by decide) ?_
  refine c_RL_135d dL_law_65 rfl (kL_low (by omega) ⟨by omega, by omega⟩) (Nat.le_of_ble_eq_true rfl) (Nat.le_of_ble_eq_true rfl) ⟨by decide, by decide⟩ ?_
  refine x_iadd dL_law_68 ?_
  have b46 := lw_b (v := g0) (n := 5000) (by omega)
  have b54 := lw_b (v := h0) (n := 200) (by omega)
  have b65 := lw_b (v := v62) (n := 100000) (by omega)
  obtain ⟨hz2, hR⟩ := start_R (a := 500 + lw g0 5000) (f := lw h0 200) (w := 20000 + lw v62 100000) ⟨by omega, by omega⟩ ⟨by omega, by omega⟩ ⟨by omega, by omega⟩
  refine c_RL_96p dL_law_69 rfl (kX7_addReach hP1.1 (Or.inl rfl) hP1.2.1 (by omega) ⟨by omega, by omega⟩ ⟨by omega, by omega⟩ ⟨by omega, by omega⟩) bk (Nat.le_of_ble_eq_true rfl) (Nat.le_of_ble_eq_true rfl) ⟨by decide, by decide⟩ (fun w2 D2 h2 => ?_)
  obtain ⟨rfl, hP2⟩ := hP1.some hz2 h2
  have hI2 := hP2.2.1.2.2.2.1
  refine x_if_ne (tgt := 154) dL_law_72 (by decide) ⟨by omega, by omega⟩ (fun h => absurd h (by omega)) (fun hb72 => ?_)
  refine x_aload_n dL_law_75 rfl ?_
  refine x_sipush dL_law_76 (by decide) ?_
  refine x_iload_n dL_law_79 rfl ?_
  refine x_sipush dL_law_80 (by decide) ?_
  refine c_RL_135d dL_law_83 rfl (kL_low (by omega) ⟨by omega, by omega⟩) (Nat.le_of_ble_eq_true rfl) (Nat.le_of_ble_eq_true rfl) ⟨by decide, by decide⟩ ?_
  refine x_iadd dL_law_86 ?_
  refine x_bipush dL_law_87 (by decide) ?_
  refine x_iload_n dL_law_89 rfl ?_
  refine x_bipush dL_law_90 (by decide) ?_
  refine c_RL_135d dL_law_92 rfl (kL_low (by omega) ⟨by omega, by omega⟩) (Nat.le_of_ble_eq_true rfl) (Nat.le_of_ble_eq_true rfl) ⟨by decide, by decide⟩ ?_
  refine x_iadd dL_law_95 ?_
  refine x_iload_n dL_law_96 rfl ?_
  refine x_sipush dL_law_97 (by decide) ?_
  refine c_RL_135d dL_law_100 rfl (kL_low (by omega) ⟨by omega, by omega⟩) (Nat.le_of_ble_eq_true rfl) (Nat.le_of_ble_eq_true rfl) ⟨by decide, by decide⟩ ?_
  refine x_sipush dL_law_103 (by decide) ?_
  refine x_iload_n dL_law_106 rfl ?_
  refine x_bipush dL_law_107 (by decide) ?_
  refine x_ishrE dL_law_109 (fun v109 r109 => ?_)
  refine x_sipush dL_law_110 (by decide) ?_
  refine c_RL_135d dL_law_113 rfl (kL_low (by omega) ⟨by omega, by omega⟩) (Nat.le_of_ble_eq_true rfl) (Nat.le_of_ble_eq_true rfl) ⟨by decide, by decide⟩ ?_
  refine x_iadd dL_law_116 ?_
  refine x_sipush dL_law_117 (by decide) ?_
  refine x_sipush dL_law_120 (by decide) ?_
  refine x_iload_n dL_law_123 rfl ?_
  refine x_iconst dL_law_124 ?_
  refine x_ishrE dL_law_125 (fun v125 r125 => ?_)
  refine x_ldc (e := 100000) dL_law_126 ct_RL_138 (by decide) ?_
  refine c_RL_135d dL_law_128 rfl (kL_low (by omega) ⟨by omega, by omega⟩) (Nat.le_of_ble_eq_true rfl) (Nat.le_of_ble_eq_true rfl) ⟨by decide, by decide⟩ ?_
  refine x_iadd dL_law_131 ?_
  have b83 := lw_b (v := h0) (n := 600) (by omega)
  have b92 := lw_b (v := h0) (n := 100) (by omega)
  have b100 := lw_b (v := g0) (n := 150) (by omega)
  have b113 := lw_b (v := v109) (n := 5000) (by omega)
  have b128 := lw_b (v := v125) (n := 100000) (by omega)
  obtain ⟨hz3, hC⟩ := start_C (a := 300 + lw h0 600) (l := 60 + lw h0 100) (f := lw g0 150) (a2 := 500 + lw v109 5000) (f2 := 200) (w2 := 30000 + lw v125 100000) hI2 (by omega) hR ⟨by omega, by omega⟩ ⟨by omega, by omega⟩ ⟨by omega, by omega⟩ ⟨by omega, by omega⟩ ⟨by omega, by omega⟩ ⟨by omega, by omega⟩
  refine c_RL_100p dL_law_132 rfl (kX7_addChamber hP2.1 (Or.inl rfl) hP2.2.1 (by omega) ⟨by omega, by omega⟩ ⟨by omega, by omega⟩ ⟨by omega, by omega⟩ ⟨by omega, by omega⟩ ⟨by omega, by omega⟩ ⟨by omega, by omega⟩) bk (Nat.le_of_ble_eq_true rfl) (Nat.le_of_ble_eq_true rfl) ⟨by decide, by decide⟩ (fun w3 D3 h3 => ?_)
  obtain ⟨rfl, hP3⟩ := hP2.some hz3 h3
  have hI3 := hP3.2.1.2.2.2.1
  obtain ⟨hz4, hE4⟩ := start_B hI3 (by omega) hC (by omega)
  refine x_if_ne (tgt := 154) dL_law_135 (by decide) ⟨by omega, by omega⟩ (fun h => absurd h (by omega)) (fun hb135 => ?_)
  refine x_aload_n dL_law_138 rfl ?_
  refine x_iconst dL_law_139 ?_
  refine x_bipush dL_law_140 (by decide) ?_
  refine x_bipush dL_law_142 (by decide) ?_
  refine x_iconst dL_law_144 ?_
  refine x_sipush dL_law_145 (by decide) ?_
  refine c_RL_117p dL_law_148 rfl (kX7_addBarge hP3.1 (Or.inl rfl) hP3.2.1 (by omega) ⟨by omega, by omega⟩ ⟨by omega, by omega⟩ ⟨by omega, by omega⟩ ⟨by omega, by omega⟩ ⟨by omega, by omega⟩) bk (Nat.le_of_ble_eq_true rfl) (Nat.le_of_ble_eq_true rfl) ⟨by decide, by decide⟩ (fun w4 D4 h4 => ?_)
  obtain ⟨rfl, hP4⟩ := hP3.some hz4 h4
  refine x_if_eq (tgt := 156) dL_law_151 (by decide) ⟨by omega, by omega⟩ (fun hb151 => ?_) (fun h => (h (by omega)).elim)
  refine x_iconst dL_law_156 ?_
  refine x_istore dL_law_157 (by decide) ?_
  show JX _ _ _ _ _ _ _ _ _ _ _ [_, _, _, _, _, _, _, _, _, _, _, _, _, _, _, _] _ _
  exact law_loop hb hL ⟨by decide, by decide⟩ 44 0 rfl _ _ _ _ _ _ _ _ _ _ _ _ _ _ _ _ (hP4.mono (by omega)) hE4
