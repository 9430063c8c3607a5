/-! addReach, addChamber -/
theorem dW_ne {D : JD} {c a f m x z : Int} (hx : x ≠ c) : dW D c a f m x z = D x z := by
  unfold dW
  rw [jup_ne hx, jup_ne hx, jup_ne hx, jup_ne hx, jup_ne hx]
theorem dW_n {D : JD} {c a f m : Int} : dW D c a f m c 0 = a ∧ dW D c a f m c 1 = f ∧ dW D c a f m c 2 = m ∧ dW D c a f m c 3 = 0 ∧ dW D c a f m c 4 = 0 := by
  unfold dW
  refine ⟨?_, ?_, ?_, ?_, ?_⟩ <;> (repeat (first | rw [jup_eq] | rw [jup_nk (by omega)]))
theorem dS0_ne {D : JD} {c x z : Int} (hx : x ≠ c) : dS0 D c x z = D x z := by
  unfold dS0
  rw [jup_ne hx, jup_ne hx, jup_ne hx]
theorem dS0_n {D : JD} {c : Int} : dS0 D c c 0 = 0 ∧ dS0 D c c 1 = 0 ∧ dS0 D c c 2 = 0 := by
  unfold dS0
  refine ⟨?_, ?_, ?_⟩ <;> (repeat (first | rw [jup_eq] | rw [jup_nk (by omega)]))
theorem dC_o {D : JD} {c a l f x z : Int} (hx : x < c ∨ c + 4 ≤ x) : dC D c a l f x z = D x z := by
  unfold dC
  rw [jup_ne (by omega), jup_ne (by omega), jup_ne (by omega), jup_ne (by omega), dS0_ne (by omega), dS0_ne (by omega), dW_ne (by omega)]
theorem dC_n {D : JD} {c a l f : Int} : dC D c a l f c 4 = 0 ∧ dC D c a l f c 5 = l ∧ dC D c a l f c 6 = l ∧ dC D c a l f c 7 = -1 := by
  unfold dC
  refine ⟨?_, ?_, ?_, ?_⟩ <;> (repeat (first | rw [jup_eq] | rw [jup_nk (by omega)]))
theorem dC_w {D : JD} {c a l f z : Int} : dC D c a l f (c + 1) z = dW D (c + 1) a f 0 (c + 1) z := by
  unfold dC
  rw [jup_ne (by omega), jup_ne (by omega), jup_ne (by omega), jup_ne (by omega), dS0_ne (by omega), dS0_ne (by omega)]
theorem dC_s {D : JD} {c a l f : Int} : dC D c a l f (c + 2) 0 = 0 ∧ dC D c a l f (c + 3) 0 = 0 ∧ dC D c a l f (c + 2) 1 = 0 ∧ dC D c a l f (c + 3) 1 = 0 ∧ dC D c a l f (c + 2) 2 = 0 ∧ dC D c a l f (c + 3) 2 = 0 := by
  have e2 : ∀ z : Int, dC D c a l f (c + 2) z = dS0 (dW D (c + 1) a f 0) (c + 2) (c + 2) z := fun z => by
    unfold dC
    rw [jup_ne (by omega), jup_ne (by omega), jup_ne (by omega), jup_ne (by omega), dS0_ne (by omega)]
  have e3 : ∀ z : Int, dC D c a l f (c + 3) z = dS0 (dS0 (dW D (c + 1) a f 0) (c + 2)) (c + 3) (c + 3) z := fun z => by
    unfold dC
    rw [jup_ne (by omega), jup_ne (by omega), jup_ne (by omega), jup_ne (by omega)]
  have s2 := dS0_n (D := dW D (c + 1) a f 0) (c := c + 2)
  have s3 := dS0_n (D := dS0 (dW D (c + 1) a f 0) (c + 2)) (c := c + 3)
  rw [e2, e2, e2, e3, e3, e3]
  exact ⟨s2.1, s3.1, s2.2.1, s3.2.1, s2.2.2, s3.2.2⟩
theorem kX2_appendReach {G : JG} {S : JS} {D : JD} {d : Nat} {b a f w : Int} {r : Int → Int} (hF : jFl S b) (hR : jFR D b r) (hk : rWk r) (h5 : r 0 < 5) (hw : ∀ k : Int, 0 ≤ k → k < r 2 → r (71 + 8 * k) ≠ r 0) (ra : i32 a) (rf : i32 f) (rw0 : i32 w) : JM G yX2_appendReach cX2_appendReach 5 none (d + 1) (0, 0) S D [.inr (.inr (some b)), .inl a, .inl f, .inl w] (jnP S (fun D2 => jFR D2 b (rPutR a f w r) ∧ jFx D D2 b)) := by
  have fk := hF.1
  obtain ⟨k0, k1, k2, k3, k4, k5, k6⟩ := id hk
  obtain ⟨n0, n1, n2, n3, n4, n5⟩ := hR.1
  have hc1 : jCt (jup D b 3 (r 0 + 1)) b := by unfold jCt; rw [jup_eq, jup_nk (by omega), jup_nk (by omega), n1, n2]; omega
  have rk := (hF.2.2.2.2.2.2.2.2.2.2.1 (r 0) (by omega) (by omega)).2
  show JX _ _ _ _ _ _ _ _ _ _ _ [_, _, _, _, _] _ _
  refine x_aload_n dX2_appendReach_0 rfl ?_
  refine x_dup dX2_appendReach_1 (fun _ h => by cases h) ?_
  refine gf_RX2_32 dX2_appendReach_2 rfl (by assumption) ?_
  rw [n0]
  refine x_iconst dX2_appendReach_5 ?_
  refine x_iadd dX2_appendReach_6 ?_
  refine pf_RX2_32 dX2_appendReach_7 rfl (by assumption) ?_
  refine x_aload_n dX2_appendReach_10 rfl ?_
  refine x_aload_n dX2_appendReach_11 rfl ?_
  refine gf_RX2_32 dX2_appendReach_12 rfl (by assumption) ?_
  rw [jup_eq]
  refine x_iconst dX2_appendReach_15 ?_
  refine x_isub dX2_appendReach_16 ?_
  refine c_RX2_64d dX2_appendReach_17 rfl (kX2_reachAt_y hF hc1 (by rw [jup_eq]; omega)) (by assumption) (Nat.le_of_ble_eq_true rfl) (Nat.le_of_ble_eq_true rfl) ⟨Nat.le_refl _, Nat.le_refl _⟩ ?_
  rw [show r 0 + 1 - 1 = r 0 by omega]
  refine x_astore dX2_appendReach_20 (by decide) ?_
  show JX _ _ _ _ _ _ _ _ _ _ _ [_, _, _, _, _] _ _
  refine x_aload dX2_appendReach_22 rfl ?_
  refine x_ifnull (tgt := 46) dX2_appendReach_24 (by decide) (fun h => by cases h) (fun hb24 => ?_)
  refine x_aload dX2_appendReach_27 rfl ?_
  refine x_iload_n dX2_appendReach_29 rfl ?_
  refine x_iload_n dX2_appendReach_30 rfl ?_
  refine x_iload_n dX2_appendReach_31 rfl ?_
  refine c_RX2_72d dX2_appendReach_32 rfl (kX6_begin rk ra rf rw0) (by assumption) (Nat.le_of_ble_eq_true rfl) (Nat.le_of_ble_eq_true rfl) ⟨Nat.le_refl _, Nat.le_refl _⟩ ?_
  refine x_aload_n dX2_appendReach_35 rfl ?_
  refine x_dup dX2_appendReach_36 (fun _ h => by cases h) ?_
  refine gf_RX2_49 dX2_appendReach_37 rfl (by assumption) ?_
  rw [dW_ne (show b ≠ b + 4 + r 0 by omega), jup_nk (show (8 : Int) ≠ 3 by decide), n5]
  refine x_iload_n dX2_appendReach_40 rfl ?_
  refine x_i2l dX2_appendReach_41 rw0 ?_
  refine x_ladd dX2_appendReach_42 ?_
  refine pf_RX2_49 dX2_appendReach_43 rfl (by assumption) ?_
  exact x_return dX2_appendReach_46 rfl ⟨Nat.le_refl _, Nat.le_refl _⟩ ⟨rfl, rfl, hR.putR hk h5 hw (fun x y k1 k2 => by
      by_cases q : x = b
      · subst q
        rw [jup_nk (by omega), dW_ne k2, jup_nk (by omega)]
      · rw [jup_ne q, dW_ne k2, jup_ne q]) (by rw [jup_nk (by omega), dW_ne (by omega), jup_eq]) (by rw [jup_eq]) (by
        obtain ⟨g0, g1, g2, g3, g4⟩ := dW_n (D := jup D b 3 (r 0 + 1)) (c := b + 4 + r 0) (a := a) (f := f) (m := w)
        have ne : b + 4 + r 0 ≠ b := by omega
        refine ⟨?_, ?_, ?_, ?_, ?_⟩ <;> rw [jup_ne ne] <;> assumption), fun x k hx => by rw [jup_ne (by omega), dW_ne (by omega), jup_ne (by omega)]⟩
theorem kX2_appendChamber {G : JG} {S : JS} {D : JD} {d : Nat} {b a l f : Int} {r : Int → Int} (hF : jFl S b) (hR : jFR D b r) (hk : rWk r) (h4 : r 1 < 4) (hw : ∀ k : Int, 0 ≤ k → k < r 2 → r (71 + 8 * k) ≠ 100 + r 1) (ra : i32 a) (rl : i32 l) (rf : i32 f) : JM G yX2_appendChamber cX2_appendChamber 5 none (d + 2) (0, 0) S D [.inr (.inr (some b)), .inl a, .inl l, .inl f] (jnP S (fun D2 => jFR D2 b (rPutC a l f r) ∧ jFx D D2 b)) := by
  have fk := hF.1
  obtain ⟨k0, k1, k2, k3, k4, k5, k6⟩ := id hk
  obtain ⟨n0, n1, n2, n3, n4, n5⟩ := hR.1
  have hc1 : jCt (jup D b 4 (r 1 + 1)) b := by unfold jCt; rw [jup_eq, jup_nk (by omega), jup_nk (by omega), n0, n2]; omega
  have hC := (hF.2.2.2.2.2.2.2.2.2.2.2.1 (r 1) (by omega) (by omega)).2
  have ck := hC.1
  show JX _ _ _ _ _ _ _ _ _ _ _ [_, _, _, _, _] _ _
  refine x_aload_n dX2_appendChamber_0 rfl ?_
  refine x_dup dX2_appendChamber_1 (fun _ h => by cases h) ?_
  refine gf_RX2_36 dX2_appendChamber_2 rfl (by assumption) ?_
  rw [n1]
  refine x_iconst dX2_appendChamber_5 ?_
  refine x_iadd dX2_appendChamber_6 ?_
  refine pf_RX2_36 dX2_appendChamber_7 rfl (by assumption) ?_
  refine x_aload_n dX2_appendChamber_10 rfl ?_
  refine x_aload_n dX2_appendChamber_11 rfl ?_
  refine gf_RX2_36 dX2_appendChamber_12 rfl (by assumption) ?_
  rw [jup_eq]
  refine x_iconst dX2_appendChamber_15 ?_
  refine x_isub dX2_appendChamber_16 ?_
  refine c_RX2_52d dX2_appendChamber_17 rfl (kX2_chamberAt_y hF hc1 (by rw [jup_eq]; omega)) (by assumption) (Nat.le_of_ble_eq_true rfl) (Nat.le_of_ble_eq_true rfl) ⟨Nat.le_refl _, Nat.le_refl _⟩ ?_
  rw [show r 1 + 1 - 1 = r 1 by omega]
  refine x_astore dX2_appendChamber_20 (by decide) ?_
  show JX _ _ _ _ _ _ _ _ _ _ _ [_, _, _, _, _] _ _
  refine x_aload dX2_appendChamber_22 rfl ?_
  refine x_ifnull (tgt := 35) dX2_appendChamber_24 (by decide) (fun h => by cases h) (fun hb24 => ?_)
  refine x_aload dX2_appendChamber_27 rfl ?_
  refine x_iload_n dX2_appendChamber_29 rfl ?_
  refine x_iload_n dX2_appendChamber_30 rfl ?_
  refine x_iload_n dX2_appendChamber_31 rfl ?_
  refine c_RX2_76d dX2_appendChamber_32 rfl (kX1_begin hC ra rl rf) (by assumption) (Nat.le_of_ble_eq_true rfl) (Nat.le_of_ble_eq_true rfl) ⟨Nat.le_refl _, Nat.le_refl _⟩ ?_
  exact x_return dX2_appendChamber_35 rfl ⟨Nat.le_refl _, Nat.le_refl _⟩ ⟨rfl, rfl, hR.putC hk h4 hw (fun x y k1 k2 => by
      rw [dC_o (by omega)]
      by_cases q : x = b
      · subst q
        rw [jup_nk (by omega)]
      · rw [jup_ne q]) (by rw [dC_o (by omega), jup_eq]) (by
        obtain ⟨g0, g1, g2, g3, g4⟩ := dW_n (D := jup D b 4 (r 1 + 1)) (c := b + 9 + 5 * r 1 + 1) (a := a) (f := f) (m := 0)
        refine ⟨?_, ?_, ?_, ?_, ?_⟩ <;> rw [dC_w] <;> assumption) dC_s dC_n, fun x k hx => by rw [dC_o (by omega), jup_ne (by omega)]⟩
abbrev gReach (a f w : Int) : Prop := 100 ≤ a ∧ a ≤ 100000 ∧ 0 ≤ f ∧ f ≤ 5000 ∧ 0 ≤ w ∧ w ≤ 10000000
abbrev gCham (a l f : Int) : Prop := (100 ≤ a ∧ a ≤ 100000 ∧ 0 ≤ f ∧ f ≤ 5000) ∧ (10 ≤ l ∧ l ≤ 200)
def zAddReach (a f w : Int) (r : Int → Int) : Zr := if gReach a f w then (if 0 < r 0 then (-100000004, none, 0) else (0, some (rPutR a f w r), 0)) else (-100000002, none, 0)
def rAddC (a l f a2 f2 w2 : Int) (r : Int → Int) : Int → Int := rPutR a2 f2 w2 (rPutC a l f r)
def zAddChamber (a l f a2 f2 w2 : Int) (r : Int → Int) : Zr := if gCham a l f ∧ gReach a2 f2 w2 then (if r 0 = 0 ∨ r 1 = 4 then (-100000004, none, 0) else (r 1, some (rAddC a l f a2 f2 w2 r), 0)) else (-100000002, none, 0)
theorem rIn.placeR {t : Int} {r : Int → Int} (hI : rIn t r) (k : Int) (h0 : 0 ≤ k) (h1 : k < r 2) : r (71 + 8 * k) ≠ r 0 ∧ r (71 + 8 * k) ≠ 100 + r 1 := by
  have b1 := hI.1
  have g := hI.2.2.2.1 k h0 h1
  unfold rBo at g
  omega
theorem rIn.addR {t a f w : Int} {r : Int → Int} (hI : rIn t r) (ht : 0 ≤ t) (h0 : ¬ 0 < r 0) (hg : gReach a f w) : rIn t (rPutR a f w r) := by
  have b1 := hI.1
  unfold gReach at hg
  obtain ⟨n0, n5, na, nf, nw⟩ := rPutR_n (a := a) (f := f) (w := w) (r := r) (by omega)
  exact hI.grow ht (m := 0) (Or.inl ⟨rfl, by omega, by omega⟩) n0 (by rw [rPutR_o (by omega) (by omega) (by omega)]; omega) n5 (fun j h1 h2 h3 h4 _ _ => rPutR_o h1 h3 h4) (by rw [na, nf, nw]; omega) (fun h => absurd h (by decide))
theorem rIn.addC {t a l f a2 f2 w2 : Int} {r : Int → Int} (hI : rIn t r) (ht : 0 ≤ t) (h0 : ¬ (r 0 = 0 ∨ r 1 = 4)) (hc : gCham a l f) (hg : gReach a2 f2 w2) : rIn t (rAddC a l f a2 f2 w2 r) := by
  have b1 := hI.1
  unfold gReach at hg
  unfold gCham at hc
  obtain ⟨n1, nl, n21, n22, n23, n24, n25, n26, n27, n28, n29, n30, n31⟩ := rPutC_n (a := a) (l := l) (f := f) (r := r) (by omega)
  have c0 : rPutC a l f r 0 = r 0 := rPutC_o (by omega) (by omega) (by omega)
  have c5 : rPutC a l f r 5 = r 5 := rPutC_o (by omega) (by omega) (by omega)
  obtain ⟨n0, n5, na, nf, nw⟩ := rPutR_n (a := a2) (f := f2) (w := w2) (r := rPutC a l f r) (by omega)
  rw [c0] at n0 na nf nw
  rw [c5] at n5
  have e : ∀ j : Int, j ≠ 0 → j ≠ 5 → (j < 6 + 3 * r 0 ∨ 9 + 3 * r 0 ≤ j) → rAddC a l f a2 f2 w2 r j = rPutC a l f r j := fun j x y z => rPutR_o x y (by rw [c0]; exact z)
  refine hI.grow ht (m := 1) (Or.inr ⟨rfl, by omega, by omega⟩) n0 (by rw [e _ (by omega) (by omega) (by omega), n1]) n5 (fun j h1 h2 h3 h4 h5 h6 => by rw [e _ h1 h3 h4, rPutC_o h2 (by omega) (by omega)]) (by unfold rAddC; rw [na, nf, nw]; omega) (fun _ => ?_)
  rw [e _ (by omega) (by omega) (by omega), e _ (by omega) (by omega) (by omega), e _ (by omega) (by omega) (by omega), e _ (by omega) (by omega) (by omega), e _ (by omega) (by omega) (by omega), e _ (by omega) (by omega) (by omega), e _ (by omega) (by omega) (by omega), e _ (by omega) (by omega) (by omega), e _ (by omega) (by omega) (by omega), e _ (by omega) (by omega) (by omega), e _ (by omega) (by omega) (by omega), e _ (by omega) (by omega) (by omega),
    n21, n22, n23, n24, n25, n26, n27, n28, n29, n30, n31, nl]
  omega
theorem kX7_addReach_b {G : JG} {S : JS} {D : JD} {d : Nat} {X t cz n q : Int} {hs : Int → Int → Int} {r : Int → Int} {a f w : Int} (hB : jBL S X) (hz : cz = 0 ∨ cz = 1) (hst : jSt D X t cz n hs r q) (ht : t + 100 ≤ 60000)(ra : i32 a) (rf : i32 f) (rw0 : i32 w) (hg : ¬ gReach a f w) : JM G yX7_addReach cX7_addReach 4 (some .int) (d + 5) (0, 0) S D [.inr (.inr (some X)), .inl a, .inl f, .inl w] (jrP S (jCl D X (t + 100) cz n hs r q (-100000002, none, 0))) := by
  have hB0 := hB
  obtain ⟨bk, bf, bh, bs, bo, hF, hH, sk, sl, ok, ot, tk, tl⟩ := id hB
  have fk := hF.1
  have hhk := hH.1
  obtain ⟨s5, s4, hR, hI, hi⟩ := id hst
  have hc := hR.ct hI
  have b1 := hI.1
  have n0 := hR.1.1
  have n1 := hR.1.2.1
  have ht0 : 0 ≤ t + 100 := by omega
  unfold gReach at hg
  show JX _ _ _ _ _ _ _ _ _ _ _ [_, _, _, _] _ _
  refine x_iload_n dX7_addReach_0 rfl ?_
  refine x_iload_n dX7_addReach_1 rfl ?_
  refine x_iload_n dX7_addReach_2 rfl ?_
  refine c_RX7_42d dX7_addReach_3 rfl (kX7_isReach ra rf rw0) (Nat.le_of_ble_eq_true rfl) (Nat.le_of_ble_eq_true rfl) ⟨Nat.le_refl _, Nat.le_refl _⟩ ?_
  refine x_if_ne (tgt := 12) dX7_addReach_6 (by decide) ⟨by split <;> omega, by split <;> omega⟩ (fun h => absurd h (by omega)) (fun hb6 => ?_)
  refine x_ldc (e := -100000002) dX7_addReach_9 ct_RX7_46 (by decide) ?_
  exact x_ireturn dX7_addReach_11 rfl rfl ⟨Nat.le_refl _, Nat.le_refl _⟩ ⟨rfl, _, rfl, jCl_none hst (by omega)⟩
theorem kX7_addReach_f {G : JG} {S : JS} {D : JD} {d : Nat} {X t cz n q : Int} {hs : Int → Int → Int} {r : Int → Int} {a f w : Int} (hB : jBL S X) (hz : cz = 0 ∨ cz = 1) (hst : jSt D X t cz n hs r q) (ht : t + 100 ≤ 60000)(ra : i32 a) (rf : i32 f) (rw0 : i32 w) (hg : gReach a f w) (h0 : 0 < r 0) : JM G yX7_addReach cX7_addReach 4 (some .int) (d + 5) (0, 0) S D [.inr (.inr (some X)), .inl a, .inl f, .inl w] (jrP S (jCl D X (t + 100) cz n hs r q (-100000004, none, 0))) := by
  have hB0 := hB
  obtain ⟨bk, bf, bh, bs, bo, hF, hH, sk, sl, ok, ot, tk, tl⟩ := id hB
  have fk := hF.1
  have hhk := hH.1
  obtain ⟨s5, s4, hR, hI, hi⟩ := id hst
  have hc := hR.ct hI
  have b1 := hI.1
  have n0 := hR.1.1
  have n1 := hR.1.2.1
  have ht0 : 0 ≤ t + 100 := by omega
  unfold gReach at hg
  show JX _ _ _ _ _ _ _ _ _ _ _ [_, _, _, _] _ _
  refine x_iload_n dX7_addReach_0 rfl ?_
  refine x_iload_n dX7_addReach_1 rfl ?_
  refine x_iload_n dX7_addReach_2 rfl ?_
  refine c_RX7_42d dX7_addReach_3 rfl (kX7_isReach ra rf rw0) (Nat.le_of_ble_eq_true rfl) (Nat.le_of_ble_eq_true rfl) ⟨Nat.le_refl _, Nat.le_refl _⟩ ?_
  refine x_if_ne (tgt := 12) dX7_addReach_6 (by decide) ⟨by split <;> omega, by split <;> omega⟩ (fun hb6 => ?_) (fun h => (h (by omega)).elim)
  refine x_aload_n dX7_addReach_12 rfl ?_
  refine gf_RX7_10 dX7_addReach_13 rfl (by assumption) ?_
  rw [bf]
  refine gf_RX7_47 dX7_addReach_16 rfl (by assumption) ?_
  refine x_if_le (tgt := 25) dX7_addReach_19 (by decide) ⟨by omega, by omega⟩ (fun h => absurd h (by omega)) (fun hb19 => ?_)
  refine x_ldc (e := -100000004) dX7_addReach_22 ct_RX7_50 (by decide) ?_
  exact x_ireturn dX7_addReach_24 rfl rfl ⟨Nat.le_refl _, Nat.le_refl _⟩ ⟨rfl, _, rfl, jCl_none hst (by omega)⟩
theorem kX7_addReach_y {G : JG} {S : JS} {D : JD} {d : Nat} {X t cz n q : Int} {hs : Int → Int → Int} {r : Int → Int} {a f w : Int} (hB : jBL S X) (hz : cz = 0 ∨ cz = 1) (hst : jSt D X t cz n hs r q) (ht : t + 100 ≤ 60000)(ra : i32 a) (rf : i32 f) (rw0 : i32 w) (hg : gReach a f w) (h0 : ¬ 0 < r 0) : JM G yX7_addReach cX7_addReach 4 (some .int) (d + 5) (0, 0) S D [.inr (.inr (some X)), .inl a, .inl f, .inl w] (jrP S (jCl D X (t + 100) cz n hs r q (0, some (rPutR a f w r), 0))) := by
  have hB0 := hB
  obtain ⟨bk, bf, bh, bs, bo, hF, hH, sk, sl, ok, ot, tk, tl⟩ := id hB
  have fk := hF.1
  have hhk := hH.1
  obtain ⟨s5, s4, hR, hI, hi⟩ := id hst
  have hc := hR.ct hI
  have b1 := hI.1
  have n0 := hR.1.1
  have n1 := hR.1.2.1
  have ht0 : 0 ≤ t + 100 := by omega
  have hg0 := hg
  unfold gReach at hg
  show JX _ _ _ _ _ _ _ _ _ _ _ [_, _, _, _] _ _
  refine x_iload_n dX7_addReach_0 rfl ?_
  refine x_iload_n dX7_addReach_1 rfl ?_
  refine x_iload_n dX7_addReach_2 rfl ?_
  refine c_RX7_42d dX7_addReach_3 rfl (kX7_isReach ra rf rw0) (Nat.le_of_ble_eq_true rfl) (Nat.le_of_ble_eq_true rfl) ⟨Nat.le_refl _, Nat.le_refl _⟩ ?_
  refine x_if_ne (tgt := 12) dX7_addReach_6 (by decide) ⟨by split <;> omega, by split <;> omega⟩ (fun hb6 => ?_) (fun h => (h (by omega)).elim)
  refine x_aload_n dX7_addReach_12 rfl ?_
  refine gf_RX7_10 dX7_addReach_13 rfl (by assumption) ?_
  rw [bf]
  refine gf_RX7_47 dX7_addReach_16 rfl (by assumption) ?_
  refine x_if_le (tgt := 25) dX7_addReach_19 (by decide) ⟨by omega, by omega⟩ (fun hb19 => ?_) (fun h => (h (by omega)).elim)
  refine x_aload_n dX7_addReach_25 rfl ?_
  refine c_RX7_51p dX7_addReach_26 rfl (kX7_record hB hz hst) (by assumption) (Nat.le_of_ble_eq_true rfl) (Nat.le_of_ble_eq_true rfl) ⟨Nat.le_refl _, Nat.le_refl _⟩ (fun D1 h1 => ?_)
  obtain ⟨st1, x1⟩ := h1
  obtain ⟨t5, t4, hR1, hI1, hi1⟩ := id st1
  have hc1 := hR1.ct hI1
  refine x_aload_n dX7_addReach_29 rfl ?_
  refine gf_RX7_10 dX7_addReach_30 rfl (by assumption) ?_
  rw [bf]
  refine x_iload_n dX7_addReach_33 rfl ?_
  refine x_iload_n dX7_addReach_34 rfl ?_
  refine x_iload_n dX7_addReach_35 rfl ?_
  refine c_RX7_54p dX7_addReach_36 rfl (kX2_appendReach hF hR1 hI1.wk (by omega) (fun k x y => (hI1.placeR k x y).1) ra rf rw0) (by assumption) (Nat.le_of_ble_eq_true rfl) (Nat.le_of_ble_eq_true rfl) ⟨Nat.le_refl _, Nat.le_refl _⟩ (fun D2 g2 => ?_)
  obtain ⟨hR2, x2⟩ := g2
  have hI2 := (hI1.mono (show t ≤ t + 100 by omega)).addR ht0 h0 hg0
  refine x_aload_n dX7_addReach_39 rfl ?_
  refine gf_RX7_10 dX7_addReach_40 rfl (by assumption) ?_
  rw [bf]
  refine c_RX7_58p dX7_addReach_43 rfl (kX2_settle hF hR2 hI2 (by omega)) (by assumption) (Nat.le_of_ble_eq_true rfl) (Nat.le_of_ble_eq_true rfl) ⟨Nat.le_refl _, Nat.le_refl _⟩ (fun D3 g3 => ?_)
  refine x_iconst dX7_addReach_46 ?_
  exact x_ireturn dX7_addReach_47 rfl rfl ⟨Nat.le_refl _, Nat.le_refl _⟩ ⟨rfl, _, rfl, jCl_somex x1 st1 x2 g3.2 g3.1 hI2 (by omega)⟩
theorem kX7_addReach {G : JG} {S : JS} {D : JD} {d : Nat} {X t cz n q : Int} {hs : Int → Int → Int} {r : Int → Int}  {a f w : Int} (hB : jBL S X) (hz : cz = 0 ∨ cz = 1) (hst : jSt D X t cz n hs r q) (ht : t + 100 ≤ 60000) (ra : i32 a) (rf : i32 f) (rw0 : i32 w) : JM G yX7_addReach cX7_addReach 4 (some .int) (d + 5) (0, 0) S D [.inr (.inr (some X)), .inl a, .inl f, .inl w] (jrP S (jCl D X (t + 100) cz n hs r q (zAddReach a f w r))) := by
  unfold zAddReach
  by_cases hg : gReach a f w
  · rw [if_pos hg]
    by_cases h0 : 0 < r 0
    · rw [if_pos h0]; exact kX7_addReach_f hB hz hst ht ra rf rw0 hg h0
    · rw [if_neg h0]; exact kX7_addReach_y hB hz hst ht ra rf rw0 hg h0
  · rw [if_neg hg]; exact kX7_addReach_b hB hz hst ht ra rf rw0 hg
theorem kX7_addChamber_b1 {G : JG} {S : JS} {D : JD} {d : Nat} {X t cz n q : Int} {hs : Int → Int → Int} {r : Int → Int} {a l f a2 f2 w2 : Int} (hB : jBL S X) (hz : cz = 0 ∨ cz = 1) (hst : jSt D X t cz n hs r q) (ht : t + 100 ≤ 60000)(ra : i32 a) (rl : i32 l) (rf : i32 f) (ra2 : i32 a2) (rf2 : i32 f2) (rw2 : i32 w2) (h1 : ¬ (100 ≤ a ∧ a ≤ 100000 ∧ 0 ≤ f ∧ f ≤ 5000)) : JM G yX7_addChamber cX7_addChamber 8 (some .int) (d + 5) (0, 0) S D [.inr (.inr (some X)), .inl a, .inl l, .inl f, .inl a2, .inl f2, .inl w2] (jrP S (jCl D X (t + 100) cz n hs r q (-100000002, none, 0))) := by
  have hB0 := hB
  obtain ⟨bk, bf, bh, bs, bo, hF, hH, sk, sl, ok, ot, tk, tl⟩ := id hB
  have fk := hF.1
  have hhk := hH.1
  obtain ⟨s5, s4, hR, hI, hi⟩ := id hst
  have hc := hR.ct hI
  have b1 := hI.1
  have n0 := hR.1.1
  have n1 := hR.1.2.1
  have ht0 : 0 ≤ t + 100 := by omega
  show JX _ _ _ _ _ _ _ _ _ _ _ [_, _, _, _, _, _, _, _] _ _
  refine x_iload_n dX7_addChamber_0 rfl ?_
  refine x_iload_n dX7_addChamber_1 rfl ?_
  refine c_RX7_61d dX7_addChamber_2 rfl (kX7_isBasin ra rf) (Nat.le_of_ble_eq_true rfl) (Nat.le_of_ble_eq_true rfl) ⟨Nat.le_refl _, Nat.le_refl _⟩ ?_
  refine x_if_eq (tgt := 20) dX7_addChamber_5 (by decide) ⟨by split <;> omega, by split <;> omega⟩ (fun hb5 => ?_) (fun h => (h (by omega)).elim)
  refine x_ldc (e := -100000002) dX7_addChamber_20 ct_RX7_46 (by decide) ?_
  exact x_ireturn dX7_addChamber_22 rfl rfl ⟨Nat.le_refl _, Nat.le_refl _⟩ ⟨rfl, _, rfl, jCl_none hst (by omega)⟩
theorem kX7_addChamber_b2 {G : JG} {S : JS} {D : JD} {d : Nat} {X t cz n q : Int} {hs : Int → Int → Int} {r : Int → Int} {a l f a2 f2 w2 : Int} (hB : jBL S X) (hz : cz = 0 ∨ cz = 1) (hst : jSt D X t cz n hs r q) (ht : t + 100 ≤ 60000)(ra : i32 a) (rl : i32 l) (rf : i32 f) (ra2 : i32 a2) (rf2 : i32 f2) (rw2 : i32 w2) (h1 : 100 ≤ a ∧ a ≤ 100000 ∧ 0 ≤ f ∧ f ≤ 5000) (h2 : ¬ (10 ≤ l ∧ l ≤ 200)) : JM G yX7_addChamber cX7_addChamber 8 (some .int) (d + 5) (0, 0) S D [.inr (.inr (some X)), .inl a, .inl l, .inl f, .inl a2, .inl f2, .inl w2] (jrP S (jCl D X (t + 100) cz n hs r q (-100000002, none, 0))) := by
  have hB0 := hB
  obtain ⟨bk, bf, bh, bs, bo, hF, hH, sk, sl, ok, ot, tk, tl⟩ := id hB
  have fk := hF.1
  have hhk := hH.1
  obtain ⟨s5, s4, hR, hI, hi⟩ := id hst
  have hc := hR.ct hI
  have b1 := hI.1
  have n0 := hR.1.1
  have n1 := hR.1.2.1
  have ht0 : 0 ≤ t + 100 := by omega
  show JX _ _ _ _ _ _ _ _ _ _ _ [_, _, _, _, _, _, _, _] _ _
  refine x_iload_n dX7_addChamber_0 rfl ?_
  refine x_iload_n dX7_addChamber_1 rfl ?_
  refine c_RX7_61d dX7_addChamber_2 rfl (kX7_isBasin ra rf) (Nat.le_of_ble_eq_true rfl) (Nat.le_of_ble_eq_true rfl) ⟨Nat.le_refl _, Nat.le_refl _⟩ ?_
  refine x_if_eq (tgt := 20) dX7_addChamber_5 (by decide) ⟨by split <;> omega, by split <;> omega⟩ (fun h => absurd h (by omega)) (fun hb5 => ?_)
  refine x_iload_n dX7_addChamber_8 rfl ?_
  refine x_bipush dX7_addChamber_9 (by decide) ?_
  refine x_sipush dX7_addChamber_11 (by decide) ?_
  refine c_RX7_65d dX7_addChamber_14 rfl (kX7_isWithin rl ⟨by omega, by omega⟩ ⟨by omega, by omega⟩) (Nat.le_of_ble_eq_true rfl) (Nat.le_of_ble_eq_true rfl) ⟨Nat.le_refl _, Nat.le_refl _⟩ ?_
  refine x_if_ne (tgt := 23) dX7_addChamber_17 (by decide) ⟨by split <;> omega, by split <;> omega⟩ (fun h => absurd h (by omega)) (fun hb17 => ?_)
  refine x_ldc (e := -100000002) dX7_addChamber_20 ct_RX7_46 (by decide) ?_
  exact x_ireturn dX7_addChamber_22 rfl rfl ⟨Nat.le_refl _, Nat.le_refl _⟩ ⟨rfl, _, rfl, jCl_none hst (by omega)⟩
theorem kX7_addChamber_b3 {G : JG} {S : JS} {D : JD} {d : Nat} {X t cz n q : Int} {hs : Int → Int → Int} {r : Int → Int} {a l f a2 f2 w2 : Int} (hB : jBL S X) (hz : cz = 0 ∨ cz = 1) (hst : jSt D X t cz n hs r q) (ht : t + 100 ≤ 60000)(ra : i32 a) (rl : i32 l) (rf : i32 f) (ra2 : i32 a2) (rf2 : i32 f2) (rw2 : i32 w2)(h1 : 100 ≤ a ∧ a ≤ 100000 ∧ 0 ≤ f ∧ f ≤ 5000) (h2 : 10 ≤ l ∧ l ≤ 200) (hg : ¬ gReach a2 f2 w2) : JM G yX7_addChamber cX7_addChamber 8 (some .int) (d + 5) (0, 0) S D [.inr (.inr (some X)), .inl a, .inl l, .inl f, .inl a2, .inl f2, .inl w2] (jrP S (jCl D X (t + 100) cz n hs r q (-100000002, none, 0))) := by
  have hB0 := hB
  obtain ⟨bk, bf, bh, bs, bo, hF, hH, sk, sl, ok, ot, tk, tl⟩ := id hB
  have fk := hF.1
  have hhk := hH.1
  obtain ⟨s5, s4, hR, hI, hi⟩ := id hst
  have hc := hR.ct hI
  have b1 := hI.1
  have n0 := hR.1.1
  have n1 := hR.1.2.1
  have ht0 : 0 ≤ t + 100 := by omega
  unfold gReach at hg
  show JX _ _ _ _ _ _ _ _ _ _ _ [_, _, _, _, _, _, _, _] _ _
  refine x_iload_n dX7_addChamber_0 rfl ?_
  refine x_iload_n dX7_addChamber_1 rfl ?_
  refine c_RX7_61d dX7_addChamber_2 rfl (kX7_isBasin ra rf) (Nat.le_of_ble_eq_true rfl) (Nat.le_of_ble_eq_true rfl) ⟨Nat.le_refl _, Nat.le_refl _⟩ ?_
  refine x_if_eq (tgt := 20) dX7_addChamber_5 (by decide) ⟨by split <;> omega, by split <;> omega⟩ (fun h => absurd h (by omega)) (fun hb5 => ?_)
  refine x_iload_n dX7_addChamber_8 rfl ?_
  refine x_bipush dX7_addChamber_9 (by decide) ?_
  refine x_sipush dX7_addChamber_11 (by decide) ?_
  refine c_RX7_65d dX7_addChamber_14 rfl (kX7_isWithin rl ⟨by omega, by omega⟩ ⟨by omega, by omega⟩) (Nat.le_of_ble_eq_true rfl) (Nat.le_of_ble_eq_true rfl) ⟨Nat.le_refl _, Nat.le_refl _⟩ ?_
  refine x_if_ne (tgt := 23) dX7_addChamber_17 (by decide) ⟨by split <;> omega, by split <;> omega⟩ (fun hb17 => ?_) (fun h => (h (by omega)).elim)
  refine x_iload dX7_addChamber_23 rfl ?_
  refine x_iload dX7_addChamber_25 rfl ?_
  refine x_iload dX7_addChamber_27 rfl ?_
  refine c_RX7_42d dX7_addChamber_29 rfl (kX7_isReach ra2 rf2 rw2) (Nat.le_of_ble_eq_true rfl) (Nat.le_of_ble_eq_true rfl) ⟨Nat.le_refl _, Nat.le_refl _⟩ ?_
  refine x_if_ne (tgt := 38) dX7_addChamber_32 (by decide) ⟨by split <;> omega, by split <;> omega⟩ (fun h => absurd h (by omega)) (fun hb32 => ?_)
  refine x_ldc (e := -100000002) dX7_addChamber_35 ct_RX7_46 (by decide) ?_
  exact x_ireturn dX7_addChamber_37 rfl rfl ⟨Nat.le_refl _, Nat.le_refl _⟩ ⟨rfl, _, rfl, jCl_none hst (by omega)⟩
theorem kX7_addChamber_f1 {G : JG} {S : JS} {D : JD} {d : Nat} {X t cz n q : Int} {hs : Int → Int → Int} {r : Int → Int} {a l f a2 f2 w2 : Int} (hB : jBL S X) (hz : cz = 0 ∨ cz = 1) (hst : jSt D X t cz n hs r q) (ht : t + 100 ≤ 60000)(ra : i32 a) (rl : i32 l) (rf : i32 f) (ra2 : i32 a2) (rf2 : i32 f2) (rw2 : i32 w2)(h1 : 100 ≤ a ∧ a ≤ 100000 ∧ 0 ≤ f ∧ f ≤ 5000) (h2 : 10 ≤ l ∧ l ≤ 200) (hg : gReach a2 f2 w2) (h0 : r 0 = 0) : JM G yX7_addChamber cX7_addChamber 8 (some .int) (d + 5) (0, 0) S D [.inr (.inr (some X)), .inl a, .inl l, .inl f, .inl a2, .inl f2, .inl w2] (jrP S (jCl D X (t + 100) cz n hs r q (-100000004, none, 0))) := by
  have hB0 := hB
  obtain ⟨bk, bf, bh, bs, bo, hF, hH, sk, sl, ok, ot, tk, tl⟩ := id hB
  have fk := hF.1
  have hhk := hH.1
  obtain ⟨s5, s4, hR, hI, hi⟩ := id hst
  have hc := hR.ct hI
  have b1 := hI.1
  have n0 := hR.1.1
  have n1 := hR.1.2.1
  have ht0 : 0 ≤ t + 100 := by omega
  unfold gReach at hg
  show JX _ _ _ _ _ _ _ _ _ _ _ [_, _, _, _, _, _, _, _] _ _
  refine x_iload_n dX7_addChamber_0 rfl ?_
  refine x_iload_n dX7_addChamber_1 rfl ?_
  refine c_RX7_61d dX7_addChamber_2 rfl (kX7_isBasin ra rf) (Nat.le_of_ble_eq_true rfl) (Nat.le_of_ble_eq_true rfl) ⟨Nat.le_refl _, Nat.le_refl _⟩ ?_
  refine x_if_eq (tgt := 20) dX7_addChamber_5 (by decide) ⟨by split <;> omega, by split <;> omega⟩ (fun h => absurd h (by omega)) (fun hb5 => ?_)
  refine x_iload_n dX7_addChamber_8 rfl ?_
  refine x_bipush dX7_addChamber_9 (by decide) ?_
  refine x_sipush dX7_addChamber_11 (by decide) ?_
  refine c_RX7_65d dX7_addChamber_14 rfl (kX7_isWithin rl ⟨by omega, by omega⟩ ⟨by omega, by omega⟩) (Nat.le_of_ble_eq_true rfl) (Nat.le_of_ble_eq_true rfl) ⟨Nat.le_refl _, Nat.le_refl _⟩ ?_
  refine x_if_ne (tgt := 23) dX7_addChamber_17 (by decide) ⟨by split <;> omega, by split <;> omega⟩ (fun hb17 => ?_) (fun h => (h (by omega)).elim)
  refine x_iload dX7_addChamber_23 rfl ?_
  refine x_iload dX7_addChamber_25 rfl ?_
  refine x_iload dX7_addChamber_27 rfl ?_
  refine c_RX7_42d dX7_addChamber_29 rfl (kX7_isReach ra2 rf2 rw2) (Nat.le_of_ble_eq_true rfl) (Nat.le_of_ble_eq_true rfl) ⟨Nat.le_refl _, Nat.le_refl _⟩ ?_
  refine x_if_ne (tgt := 38) dX7_addChamber_32 (by decide) ⟨by split <;> omega, by split <;> omega⟩ (fun hb32 => ?_) (fun h => (h (by omega)).elim)
  refine x_aload_n dX7_addChamber_38 rfl ?_
  refine gf_RX7_10 dX7_addChamber_39 rfl (by assumption) ?_
  rw [bf]
  refine gf_RX7_47 dX7_addChamber_42 rfl (by assumption) ?_
  refine x_if_eq (tgt := 59) dX7_addChamber_45 (by decide) ⟨by omega, by omega⟩ (fun hb45 => ?_) (fun h => (h (by omega)).elim)
  refine x_ldc (e := -100000004) dX7_addChamber_59 ct_RX7_50 (by decide) ?_
  exact x_ireturn dX7_addChamber_61 rfl rfl ⟨Nat.le_refl _, Nat.le_refl _⟩ ⟨rfl, _, rfl, jCl_none hst (by omega)⟩
theorem kX7_addChamber_f2 {G : JG} {S : JS} {D : JD} {d : Nat} {X t cz n q : Int} {hs : Int → Int → Int} {r : Int → Int} {a l f a2 f2 w2 : Int} (hB : jBL S X) (hz : cz = 0 ∨ cz = 1) (hst : jSt D X t cz n hs r q) (ht : t + 100 ≤ 60000)(ra : i32 a) (rl : i32 l) (rf : i32 f) (ra2 : i32 a2) (rf2 : i32 f2) (rw2 : i32 w2)(h1 : 100 ≤ a ∧ a ≤ 100000 ∧ 0 ≤ f ∧ f ≤ 5000) (h2 : 10 ≤ l ∧ l ≤ 200) (hg : gReach a2 f2 w2) (h0 : r 0 ≠ 0) (h4 : r 1 = 4) : JM G yX7_addChamber cX7_addChamber 8 (some .int) (d + 5) (0, 0) S D [.inr (.inr (some X)), .inl a, .inl l, .inl f, .inl a2, .inl f2, .inl w2] (jrP S (jCl D X (t + 100) cz n hs r q (-100000004, none, 0))) := by
  have hB0 := hB
  obtain ⟨bk, bf, bh, bs, bo, hF, hH, sk, sl, ok, ot, tk, tl⟩ := id hB
  have fk := hF.1
  have hhk := hH.1
  obtain ⟨s5, s4, hR, hI, hi⟩ := id hst
  have hc := hR.ct hI
  have b1 := hI.1
  have n0 := hR.1.1
  have n1 := hR.1.2.1
  have ht0 : 0 ≤ t + 100 := by omega
  unfold gReach at hg
  show JX _ _ _ _ _ _ _ _ _ _ _ [_, _, _, _, _, _, _, _] _ _
  refine x_iload_n dX7_addChamber_0 rfl ?_
  refine x_iload_n dX7_addChamber_1 rfl ?_
  refine c_RX7_61d dX7_addChamber_2 rfl (kX7_isBasin ra rf) (Nat.le_of_ble_eq_true rfl) (Nat.le_of_ble_eq_true rfl) ⟨Nat.le_refl _, Nat.le_refl _⟩ ?_
  refine x_if_eq (tgt := 20) dX7_addChamber_5 (by decide) ⟨by split <;> omega, by split <;> omega⟩ (fun h => absurd h (by omega)) (fun hb5 => ?_)
  refine x_iload_n dX7_addChamber_8 rfl ?_
  refine x_bipush dX7_addChamber_9 (by decide) ?_
  refine x_sipush dX7_addChamber_11 (by decide) ?_
  refine c_RX7_65d dX7_addChamber_14 rfl (kX7_isWithin rl ⟨by omega, by omega⟩ ⟨by omega, by omega⟩) (Nat.le_of_ble_eq_true rfl) (Nat.le_of_ble_eq_true rfl) ⟨Nat.le_refl _, Nat.le_refl _⟩ ?_
  refine x_if_ne (tgt := 23) dX7_addChamber_17 (by decide) ⟨by split <;> omega, by split <;> omega⟩ (fun hb17 => ?_) (fun h => (h (by omega)).elim)
  refine x_iload dX7_addChamber_23 rfl ?_
  refine x_iload dX7_addChamber_25 rfl ?_
  refine x_iload dX7_addChamber_27 rfl ?_
  refine c_RX7_42d dX7_addChamber_29 rfl (kX7_isReach ra2 rf2 rw2) (Nat.le_of_ble_eq_true rfl) (Nat.le_of_ble_eq_true rfl) ⟨Nat.le_refl _, Nat.le_refl _⟩ ?_
  refine x_if_ne (tgt := 38) dX7_addChamber_32 (by decide) ⟨by split <;> omega, by split <;> omega⟩ (fun hb32 => ?_) (fun h => (h (by omega)).elim)
  refine x_aload_n dX7_addChamber_38 rfl ?_
  refine gf_RX7_10 dX7_addChamber_39 rfl (by assumption) ?_
  rw [bf]
  refine gf_RX7_47 dX7_addChamber_42 rfl (by assumption) ?_
  refine x_if_eq (tgt := 59) dX7_addChamber_45 (by decide) ⟨by omega, by omega⟩ (fun h => absurd h (by omega)) (fun hb45 => ?_)
  refine x_aload_n dX7_addChamber_48 rfl ?_
  refine gf_RX7_10 dX7_addChamber_49 rfl (by assumption) ?_
  rw [bf]
  refine gf_RX7_68 dX7_addChamber_52 rfl (by assumption) ?_
  refine x_iconst dX7_addChamber_55 ?_
  refine x_ic_lt (tgt := 62) dX7_addChamber_56 (by decide) ⟨by omega, by omega⟩ ⟨by omega, by omega⟩ (fun h => absurd h (by omega)) (fun hb56 => ?_)
  refine x_ldc (e := -100000004) dX7_addChamber_59 ct_RX7_50 (by decide) ?_
  exact x_ireturn dX7_addChamber_61 rfl rfl ⟨Nat.le_refl _, Nat.le_refl _⟩ ⟨rfl, _, rfl, jCl_none hst (by omega)⟩
theorem kX7_addChamber_y {G : JG} {S : JS} {D : JD} {d : Nat} {X t cz n q : Int} {hs : Int → Int → Int} {r : Int → Int} {a l f a2 f2 w2 : Int} (hB : jBL S X) (hz : cz = 0 ∨ cz = 1) (hst : jSt D X t cz n hs r q) (ht : t + 100 ≤ 60000)(ra : i32 a) (rl : i32 l) (rf : i32 f) (ra2 : i32 a2) (rf2 : i32 f2) (rw2 : i32 w2)(h1 : 100 ≤ a ∧ a ≤ 100000 ∧ 0 ≤ f ∧ f ≤ 5000) (h2 : 10 ≤ l ∧ l ≤ 200) (hg : gReach a2 f2 w2) (h0 : r 0 ≠ 0) (h4 : r 1 ≠ 4) : JM G yX7_addChamber cX7_addChamber 8 (some .int) (d + 5) (0, 0) S D [.inr (.inr (some X)), .inl a, .inl l, .inl f, .inl a2, .inl f2, .inl w2] (jrP S (jCl D X (t + 100) cz n hs r q (r 1, some (rAddC a l f a2 f2 w2 r), 0))) := by
  have hB0 := hB
  obtain ⟨bk, bf, bh, bs, bo, hF, hH, sk, sl, ok, ot, tk, tl⟩ := id hB
  have fk := hF.1
  have hhk := hH.1
  obtain ⟨s5, s4, hR, hI, hi⟩ := id hst
  have hc := hR.ct hI
  have b1 := hI.1
  have n0 := hR.1.1
  have n1 := hR.1.2.1
  have ht0 : 0 ≤ t + 100 := by omega
  have hg0 := hg
  unfold gReach at hg
  show JX _ _ _ _ _ _ _ _ _ _ _ [_, _, _, _, _, _, _, _] _ _
  refine x_iload_n dX7_addChamber_0 rfl ?_
  refine x_iload_n dX7_addChamber_1 rfl ?_
  refine c_RX7_61d dX7_addChamber_2 rfl (kX7_isBasin ra rf) (Nat.le_of_ble_eq_true rfl) (Nat.le_of_ble_eq_true rfl) ⟨Nat.le_refl _, Nat.le_refl _⟩ ?_
  refine x_if_eq (tgt := 20) dX7_addChamber_5 (by decide) ⟨by split <;> omega, by split <;> omega⟩ (fun h => absurd h (by omega)) (fun hb5 => ?_)
  refine x_iload_n dX7_addChamber_8 rfl ?_
  refine x_bipush dX7_addChamber_9 (by decide) ?_
  refine x_sipush dX7_addChamber_11 (by decide) ?_
  refine c_RX7_65d dX7_addChamber_14 rfl (kX7_isWithin rl ⟨by omega, by omega⟩ ⟨by omega, by omega⟩) (Nat.le_of_ble_eq_true rfl) (Nat.le_of_ble_eq_true rfl) ⟨Nat.le_refl _, Nat.le_refl _⟩ ?_
  refine x_if_ne (tgt := 23) dX7_addChamber_17 (by decide) ⟨by split <;> omega, by split <;> omega⟩ (fun hb17 => ?_) (fun h => (h (by omega)).elim)
  refine x_iload dX7_addChamber_23 rfl ?_
  refine x_iload dX7_addChamber_25 rfl ?_
  refine x_iload dX7_addChamber_27 rfl ?_
  refine c_RX7_42d dX7_addChamber_29 rfl (kX7_isReach ra2 rf2 rw2) (Nat.le_of_ble_eq_true rfl) (Nat.le_of_ble_eq_true rfl) ⟨Nat.le_refl _, Nat.le_refl _⟩ ?_
  refine x_if_ne (tgt := 38) dX7_addChamber_32 (by decide) ⟨by split <;> omega, by split <;> omega⟩ (fun hb32 => ?_) (fun h => (h (by omega)).elim)
  refine x_aload_n dX7_addChamber_38 rfl ?_
  refine gf_RX7_10 dX7_addChamber_39 rfl (by assumption) ?_
  rw [bf]
  refine gf_RX7_47 dX7_addChamber_42 rfl (by assumption) ?_
  refine x_if_eq (tgt := 59) dX7_addChamber_45 (by decide) ⟨by omega, by omega⟩ (fun h => absurd h (by omega)) (fun hb45 => ?_)
  refine x_aload_n dX7_addChamber_48 rfl ?_
  refine gf_RX7_10 dX7_addChamber_49 rfl (by assumption) ?_
  rw [bf]
  refine gf_RX7_68 dX7_addChamber_52 rfl (by assumption) ?_
  refine x_iconst dX7_addChamber_55 ?_
  refine x_ic_lt (tgt := 62) dX7_addChamber_56 (by decide) ⟨by omega, by omega⟩ ⟨by omega, by omega⟩ (fun hb56 => ?_) (fun h => (h (by omega)).elim)
  refine x_aload_n dX7_addChamber_62 rfl ?_
  refine c_RX7_51p dX7_addChamber_63 rfl (kX7_record hB hz hst) (by assumption) (Nat.le_of_ble_eq_true rfl) (Nat.le_of_ble_eq_true rfl) ⟨Nat.le_refl _, Nat.le_refl _⟩ (fun D1 h1 => ?_)
  obtain ⟨st1, x1⟩ := h1
  obtain ⟨t5, t4, hR1, hI1, hi1⟩ := id st1
  have hc1 := hR1.ct hI1
  refine x_aload_n dX7_addChamber_66 rfl ?_
  refine gf_RX7_10 dX7_addChamber_67 rfl (by assumption) ?_
  rw [bf]
  refine gf_RX7_68 dX7_addChamber_70 rfl (by assumption) ?_
  rw [hR1.1.2.1]
  refine x_istore dX7_addChamber_73 (by decide) ?_
  show JX _ _ _ _ _ _ _ _ _ _ _ [_, _, _, _, _, _, _, _] _ _
  refine x_aload_n dX7_addChamber_75 rfl ?_
  refine gf_RX7_10 dX7_addChamber_76 rfl (by assumption) ?_
  rw [bf]
  refine x_iload_n dX7_addChamber_79 rfl ?_
  refine x_iload_n dX7_addChamber_80 rfl ?_
  refine x_iload_n dX7_addChamber_81 rfl ?_
  refine c_RX7_71p dX7_addChamber_82 rfl (kX2_appendChamber hF hR1 hI1.wk (by omega) (fun k x y => (hI1.placeR k x y).2) ra rl rf) (by assumption) (Nat.le_of_ble_eq_true rfl) (Nat.le_of_ble_eq_true rfl) ⟨Nat.le_refl _, Nat.le_refl _⟩ (fun D2 g2 => ?_)
  obtain ⟨hR2, x2⟩ := g2
  obtain ⟨k0, k1, k2, k3, k4, k5, k6⟩ := hI1.wk
  have p0 : rPutC a l f r 0 = r 0 := rPutC_o (by omega) (by omega) (by omega)
  have p2 : rPutC a l f r 2 = r 2 := rPutC_o (by omega) (by omega) (by omega)
  obtain ⟨p1, pl, -⟩ := rPutC_n (a := a) (l := l) (f := f) k2
  have wk2 : rWk (rPutC a l f r) := by
    unfold rWk
    rw [p0, p1, p2]
    refine ⟨k0, k1, by omega, by omega, k4, k5, fun c x y => ?_⟩
    by_cases q : c = r 1
    · rw [q, pl]; omega
    · rw [rPutC_o (by omega) (by omega) (by omega)]; exact k6 c x (by omega)
  have hp2 : ∀ k : Int, 0 ≤ k → k < rPutC a l f r 2 → rPutC a l f r (71 + 8 * k) ≠ rPutC a l f r 0 := fun k x y => by
    rw [p2] at y
    rw [p0, rPutC_o (by omega) (by omega) (by omega)]
    exact (hI1.placeR k x y).1
  refine x_aload_n dX7_addChamber_85 rfl ?_
  refine gf_RX7_10 dX7_addChamber_86 rfl (by assumption) ?_
  rw [bf]
  refine x_iload dX7_addChamber_89 rfl ?_
  refine x_iload dX7_addChamber_91 rfl ?_
  refine x_iload dX7_addChamber_93 rfl ?_
  refine c_RX7_54p dX7_addChamber_95 rfl (kX2_appendReach hF hR2 wk2 (by omega) hp2 ra2 rf2 rw2) (by assumption) (Nat.le_of_ble_eq_true rfl) (Nat.le_of_ble_eq_true rfl) ⟨Nat.le_refl _, Nat.le_refl _⟩ (fun D3 g3 => ?_)
  obtain ⟨hR3, x3⟩ := g3
  have hI3 := (hI1.mono (show t ≤ t + 100 by omega)).addC ht0 (by omega) ⟨h1, h2⟩ hg0
  refine x_aload_n dX7_addChamber_98 rfl ?_
  refine gf_RX7_10 dX7_addChamber_99 rfl (by assumption) ?_
  rw [bf]
  refine c_RX7_58p dX7_addChamber_102 rfl (kX2_settle hF hR3 hI3 (by omega)) (by assumption) (Nat.le_of_ble_eq_true rfl) (Nat.le_of_ble_eq_true rfl) ⟨Nat.le_refl _, Nat.le_refl _⟩ (fun D4 g4 => ?_)
  refine x_iload dX7_addChamber_105 rfl ?_
  exact x_ireturn dX7_addChamber_107 rfl rfl ⟨Nat.le_refl _, Nat.le_refl _⟩ ⟨rfl, _, rfl, jCl_somex x1 st1 (fun x k hx => by rw [x3 x k hx, x2 x k hx]) g4.2 g4.1 hI3 (by omega)⟩
theorem kX7_addChamber {G : JG} {S : JS} {D : JD} {d : Nat} {X t cz n q : Int} {hs : Int → Int → Int} {r : Int → Int}  {a l f a2 f2 w2 : Int} (hB : jBL S X) (hz : cz = 0 ∨ cz = 1) (hst : jSt D X t cz n hs r q) (ht : t + 100 ≤ 60000) (ra : i32 a) (rl : i32 l) (rf : i32 f) (ra2 : i32 a2) (rf2 : i32 f2) (rw2 : i32 w2) : JM G yX7_addChamber cX7_addChamber 8 (some .int) (d + 5) (0, 0) S D [.inr (.inr (some X)), .inl a, .inl l, .inl f, .inl a2, .inl f2, .inl w2] (jrP S (jCl D X (t + 100) cz n hs r q (zAddChamber a l f a2 f2 w2 r))) := by
  unfold zAddChamber
  by_cases h1 : 100 ≤ a ∧ a ≤ 100000 ∧ 0 ≤ f ∧ f ≤ 5000
  · by_cases h2 : 10 ≤ l ∧ l ≤ 200
    · by_cases hg : gReach a2 f2 w2
      · rw [if_pos ⟨⟨h1, h2⟩, hg⟩]
        by_cases h0 : r 0 = 0
        · rw [if_pos (Or.inl h0)]; exact kX7_addChamber_f1 hB hz hst ht ra rl rf ra2 rf2 rw2 h1 h2 hg h0
        · by_cases h4 : r 1 = 4
          · rw [if_pos (Or.inr h4)]; exact kX7_addChamber_f2 hB hz hst ht ra rl rf ra2 rf2 rw2 h1 h2 hg h0 h4
          · rw [if_neg (fun z => z.elim h0 h4)]; exact kX7_addChamber_y hB hz hst ht ra rl rf ra2 rf2 rw2 h1 h2 hg h0 h4
      · rw [if_neg (fun z => hg z.2)]; exact kX7_addChamber_b3 hB hz hst ht ra rl rf ra2 rf2 rw2 h1 h2 hg
    · rw [if_neg (fun z => h2 z.1.2)]; exact kX7_addChamber_b2 hB hz hst ht ra rl rf ra2 rf2 rw2 h1 h2
  · rw [if_neg (fun z => h1 z.1.1)]; exact kX7_addChamber_b1 hB hz hst ht ra rl rf ra2 rf2 rw2 h1
