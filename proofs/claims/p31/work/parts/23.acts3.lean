/-! ACTS on waters: sluice, open, supply -/
def zSluice (c g : Int) (r : Int → Int) : Zr := if (0 ≤ c ∧ c < r 1) ∧ (g = 0 ∨ g = 1) then (if r (29 + 11 * c) < 0 then (sLv (sAll (sSh r c g)) (100 + c), some (sSh r c g), 0) else (-100000003, none, 1)) else (-100000001, none, 0)
def zOpen (c g : Int) (r : Int → Int) : Zr := if (0 ≤ c ∧ c < r 1) ∧ (g = 0 ∨ g = 1) then (if r (29 + 11 * c) < 0 then (if sLv r (100 + c) - sLv r (c + g) ≤ 2 ∧ sLv r (c + g) - sLv r (100 + c) ≤ 2 then (sLv (sAll (rup r (29 + 11 * c) g)) (100 + c), some (rup r (29 + 11 * c) g), 0) else (-100000003, none, 3)) else (-100000003, none, 1)) else (-100000001, none, 0)
theorem rIn.kc {t : Int} {r : Int → Int} (hI : rIn t r) {c : Int} (h0 : 0 ≤ c) (h1 : c < r 1) : sAll r 1 = r 1 ∧ sAll r 0 = r 0 ∧ sAll r 2 = r 2 := by
  have b1 := hI.1
  refine ⟨?_, ?_, ?_⟩ <;> exact sAllN_keep _ _ (by omega) (fun i _ _ => by omega) (fun c _ _ => by omega) (fun c x y => hI.gates c x (by omega))
theorem kX7_sluice_u1 {G : JG} {S : JS} {D : JD} {d : Nat} {X t cz n q : Int} {hs : Int → Int → Int} {r : Int → Int} {c g : Int} (hB : jBL S X) (hz : cz = 0 ∨ cz = 1) (hst : jSt D X t cz n hs r q) (ht : t + 100 ≤ 60000)(rc : i32 c) (rg : i32 g) (h : ¬ (0 ≤ c ∧ c < r 1)) : JM G yX7_sluice cX7_sluice 5 (some .int) (d + 5) (0, 0) S D [.inr (.inr (some X)), .inl c, .inl g] (jrP S (jCl D X (t + 100) cz n hs r q (-100000001, none, 0))) := by
  have hB0 := hB
  obtain ⟨bk, bf, bh, bs, bo, hF, hH, sk, sl, ok, ot, tk, tl⟩ := id hB
  have fk := hF.1
  have hhk := hH.1
  obtain ⟨s5, s4, hR, hI, hi⟩ := id hst
  have hc := hR.ct hI
  have b1 := hI.1
  have e1 := hR.1.2.1
  show JX _ _ _ _ _ _ _ _ _ _ _ [_, _, _, _, _] _ _
  refine x_aload_n dX7_sluice_0 rfl ?_
  refine gf_RX7_10 dX7_sluice_1 rfl (by assumption) ?_
  rw [bf]
  refine x_iload_n dX7_sluice_4 rfl ?_
  refine c_RX7_159d dX7_sluice_5 rfl (kX2_chamberAt_n hF hc rc (by omega)) (by assumption) (Nat.le_of_ble_eq_true rfl) (Nat.le_of_ble_eq_true rfl) ⟨Nat.le_refl _, Nat.le_refl _⟩ ?_
  refine x_astore_n dX7_sluice_8 (by decide) ?_
  show JX _ _ _ _ _ _ _ _ _ _ _ [_, _, _, _, _] _ _
  refine x_aload_n dX7_sluice_9 rfl ?_
  refine gf_RX7_10 dX7_sluice_10 rfl (by assumption) ?_
  rw [bf]
  refine x_iload_n dX7_sluice_13 rfl ?_
  refine x_iload_n dX7_sluice_14 rfl ?_
  refine c_RX7_163d dX7_sluice_15 rfl (kX2_reachBehind hF hc rc rg) (by assumption) (Nat.le_of_ble_eq_true rfl) (Nat.le_of_ble_eq_true rfl) ⟨Nat.le_refl _, Nat.le_refl _⟩ ?_
  refine x_astore dX7_sluice_18 (by decide) ?_
  show JX _ _ _ _ _ _ _ _ _ _ _ [_, _, _, _, _] _ _
  refine x_aload_n dX7_sluice_20 rfl ?_
  refine x_ifnull (tgt := 29) dX7_sluice_21 (by decide) (fun hb21 => ?_) (fun h => absurd rfl h)
  refine x_ldc (e := -100000001) dX7_sluice_29 ct_RX7_78 (by decide) ?_
  exact x_ireturn dX7_sluice_31 rfl rfl ⟨Nat.le_refl _, Nat.le_refl _⟩ ⟨rfl, _, rfl, jCl_none hst (by omega)⟩
theorem kX7_sluice_u2 {G : JG} {S : JS} {D : JD} {d : Nat} {X t cz n q : Int} {hs : Int → Int → Int} {r : Int → Int} {c g : Int} (hB : jBL S X) (hz : cz = 0 ∨ cz = 1) (hst : jSt D X t cz n hs r q) (ht : t + 100 ≤ 60000)(h0 : 0 ≤ c) (h1 : c < r 1) (rg : i32 g) (h : ¬ (g = 0 ∨ g = 1)) : JM G yX7_sluice cX7_sluice 5 (some .int) (d + 5) (0, 0) S D [.inr (.inr (some X)), .inl c, .inl g] (jrP S (jCl D X (t + 100) cz n hs r q (-100000001, none, 0))) := by
  have hB0 := hB
  obtain ⟨bk, bf, bh, bs, bo, hF, hH, sk, sl, ok, ot, tk, tl⟩ := id hB
  have fk := hF.1
  have hhk := hH.1
  obtain ⟨s5, s4, hR, hI, hi⟩ := id hst
  have hc := hR.ct hI
  have b1 := hI.1
  have e1 := hR.1.2.1
  show JX _ _ _ _ _ _ _ _ _ _ _ [_, _, _, _, _] _ _
  refine x_aload_n dX7_sluice_0 rfl ?_
  refine gf_RX7_10 dX7_sluice_1 rfl (by assumption) ?_
  rw [bf]
  refine x_iload_n dX7_sluice_4 rfl ?_
  refine c_RX7_159d dX7_sluice_5 rfl (kX2_chamberAt_y hF hc (by omega)) (by assumption) (Nat.le_of_ble_eq_true rfl) (Nat.le_of_ble_eq_true rfl) ⟨Nat.le_refl _, Nat.le_refl _⟩ ?_
  refine x_astore_n dX7_sluice_8 (by decide) ?_
  show JX _ _ _ _ _ _ _ _ _ _ _ [_, _, _, _, _] _ _
  refine x_aload_n dX7_sluice_9 rfl ?_
  refine gf_RX7_10 dX7_sluice_10 rfl (by assumption) ?_
  rw [bf]
  refine x_iload_n dX7_sluice_13 rfl ?_
  refine x_iload_n dX7_sluice_14 rfl ?_
  refine c_RX7_163d dX7_sluice_15 rfl (kX2_reachBehind_n hF hc ⟨by omega, by omega⟩ rg (by omega)) (by assumption) (Nat.le_of_ble_eq_true rfl) (Nat.le_of_ble_eq_true rfl) ⟨Nat.le_refl _, Nat.le_refl _⟩ ?_
  refine x_astore dX7_sluice_18 (by decide) ?_
  show JX _ _ _ _ _ _ _ _ _ _ _ [_, _, _, _, _] _ _
  refine x_aload_n dX7_sluice_20 rfl ?_
  refine x_ifnull (tgt := 29) dX7_sluice_21 (by decide) (fun h => by cases h) (fun hb21 => ?_)
  refine x_aload dX7_sluice_24 rfl ?_
  refine x_ifnonnull (tgt := 32) dX7_sluice_26 (by decide) (fun h => absurd rfl h) (fun hb26 => ?_)
  refine x_ldc (e := -100000001) dX7_sluice_29 ct_RX7_78 (by decide) ?_
  exact x_ireturn dX7_sluice_31 rfl rfl ⟨Nat.le_refl _, Nat.le_refl _⟩ ⟨rfl, _, rfl, jCl_none hst (by omega)⟩
theorem kX7_sluice_u {G : JG} {S : JS} {D : JD} {d : Nat} {X t cz n q : Int} {hs : Int → Int → Int} {r : Int → Int} {c g : Int} (hB : jBL S X) (hz : cz = 0 ∨ cz = 1) (hst : jSt D X t cz n hs r q) (ht : t + 100 ≤ 60000) (rc : i32 c) (rg : i32 g) (h : ¬ ((0 ≤ c ∧ c < r 1) ∧ (g = 0 ∨ g = 1))) : JM G yX7_sluice cX7_sluice 5 (some .int) (d + 5) (0, 0) S D [.inr (.inr (some X)), .inl c, .inl g] (jrP S (jCl D X (t + 100) cz n hs r q (-100000001, none, 0))) := by
  by_cases hc : 0 ≤ c ∧ c < r 1
  · exact kX7_sluice_u2 hB hz hst ht hc.1 hc.2 rg (fun hg => h ⟨hc, hg⟩)
  · exact kX7_sluice_u1 hB hz hst ht rc rg hc
theorem kX7_open_u1 {G : JG} {S : JS} {D : JD} {d : Nat} {X t cz n q : Int} {hs : Int → Int → Int} {r : Int → Int} {c g : Int} (hB : jBL S X) (hz : cz = 0 ∨ cz = 1) (hst : jSt D X t cz n hs r q) (ht : t + 100 ≤ 60000)(rc : i32 c) (rg : i32 g) (h : ¬ (0 ≤ c ∧ c < r 1)) : JM G yX7_open cX7_open 5 (some .int) (d + 5) (0, 0) S D [.inr (.inr (some X)), .inl c, .inl g] (jrP S (jCl D X (t + 100) cz n hs r q (-100000001, none, 0))) := by
  have hB0 := hB
  obtain ⟨bk, bf, bh, bs, bo, hF, hH, sk, sl, ok, ot, tk, tl⟩ := id hB
  have fk := hF.1
  have hhk := hH.1
  obtain ⟨s5, s4, hR, hI, hi⟩ := id hst
  have hc := hR.ct hI
  have b1 := hI.1
  have e1 := hR.1.2.1
  show JX _ _ _ _ _ _ _ _ _ _ _ [_, _, _, _, _] _ _
  refine x_aload_n dX7_open_0 rfl ?_
  refine gf_RX7_10 dX7_open_1 rfl (by assumption) ?_
  rw [bf]
  refine x_iload_n dX7_open_4 rfl ?_
  refine c_RX7_159d dX7_open_5 rfl (kX2_chamberAt_n hF hc rc (by omega)) (by assumption) (Nat.le_of_ble_eq_true rfl) (Nat.le_of_ble_eq_true rfl) ⟨Nat.le_refl _, Nat.le_refl _⟩ ?_
  refine x_astore_n dX7_open_8 (by decide) ?_
  show JX _ _ _ _ _ _ _ _ _ _ _ [_, _, _, _, _] _ _
  refine x_aload_n dX7_open_9 rfl ?_
  refine gf_RX7_10 dX7_open_10 rfl (by assumption) ?_
  rw [bf]
  refine x_iload_n dX7_open_13 rfl ?_
  refine x_iload_n dX7_open_14 rfl ?_
  refine c_RX7_163d dX7_open_15 rfl (kX2_reachBehind hF hc rc rg) (by assumption) (Nat.le_of_ble_eq_true rfl) (Nat.le_of_ble_eq_true rfl) ⟨Nat.le_refl _, Nat.le_refl _⟩ ?_
  refine x_astore dX7_open_18 (by decide) ?_
  show JX _ _ _ _ _ _ _ _ _ _ _ [_, _, _, _, _] _ _
  refine x_aload_n dX7_open_20 rfl ?_
  refine x_ifnull (tgt := 29) dX7_open_21 (by decide) (fun hb21 => ?_) (fun h => absurd rfl h)
  refine x_ldc (e := -100000001) dX7_open_29 ct_RX7_78 (by decide) ?_
  exact x_ireturn dX7_open_31 rfl rfl ⟨Nat.le_refl _, Nat.le_refl _⟩ ⟨rfl, _, rfl, jCl_none hst (by omega)⟩
theorem kX7_open_u2 {G : JG} {S : JS} {D : JD} {d : Nat} {X t cz n q : Int} {hs : Int → Int → Int} {r : Int → Int} {c g : Int} (hB : jBL S X) (hz : cz = 0 ∨ cz = 1) (hst : jSt D X t cz n hs r q) (ht : t + 100 ≤ 60000)(h0 : 0 ≤ c) (h1 : c < r 1) (rg : i32 g) (h : ¬ (g = 0 ∨ g = 1)) : JM G yX7_open cX7_open 5 (some .int) (d + 5) (0, 0) S D [.inr (.inr (some X)), .inl c, .inl g] (jrP S (jCl D X (t + 100) cz n hs r q (-100000001, none, 0))) := by
  have hB0 := hB
  obtain ⟨bk, bf, bh, bs, bo, hF, hH, sk, sl, ok, ot, tk, tl⟩ := id hB
  have fk := hF.1
  have hhk := hH.1
  obtain ⟨s5, s4, hR, hI, hi⟩ := id hst
  have hc := hR.ct hI
  have b1 := hI.1
  have e1 := hR.1.2.1
  show JX _ _ _ _ _ _ _ _ _ _ _ [_, _, _, _, _] _ _
  refine x_aload_n dX7_open_0 rfl ?_
  refine gf_RX7_10 dX7_open_1 rfl (by assumption) ?_
  rw [bf]
  refine x_iload_n dX7_open_4 rfl ?_
  refine c_RX7_159d dX7_open_5 rfl (kX2_chamberAt_y hF hc (by omega)) (by assumption) (Nat.le_of_ble_eq_true rfl) (Nat.le_of_ble_eq_true rfl) ⟨Nat.le_refl _, Nat.le_refl _⟩ ?_
  refine x_astore_n dX7_open_8 (by decide) ?_
  show JX _ _ _ _ _ _ _ _ _ _ _ [_, _, _, _, _] _ _
  refine x_aload_n dX7_open_9 rfl ?_
  refine gf_RX7_10 dX7_open_10 rfl (by assumption) ?_
  rw [bf]
  refine x_iload_n dX7_open_13 rfl ?_
  refine x_iload_n dX7_open_14 rfl ?_
  refine c_RX7_163d dX7_open_15 rfl (kX2_reachBehind_n hF hc ⟨by omega, by omega⟩ rg (by omega)) (by assumption) (Nat.le_of_ble_eq_true rfl) (Nat.le_of_ble_eq_true rfl) ⟨Nat.le_refl _, Nat.le_refl _⟩ ?_
  refine x_astore dX7_open_18 (by decide) ?_
  show JX _ _ _ _ _ _ _ _ _ _ _ [_, _, _, _, _] _ _
  refine x_aload_n dX7_open_20 rfl ?_
  refine x_ifnull (tgt := 29) dX7_open_21 (by decide) (fun h => by cases h) (fun hb21 => ?_)
  refine x_aload dX7_open_24 rfl ?_
  refine x_ifnonnull (tgt := 32) dX7_open_26 (by decide) (fun h => absurd rfl h) (fun hb26 => ?_)
  refine x_ldc (e := -100000001) dX7_open_29 ct_RX7_78 (by decide) ?_
  exact x_ireturn dX7_open_31 rfl rfl ⟨Nat.le_refl _, Nat.le_refl _⟩ ⟨rfl, _, rfl, jCl_none hst (by omega)⟩
theorem kX7_open_u {G : JG} {S : JS} {D : JD} {d : Nat} {X t cz n q : Int} {hs : Int → Int → Int} {r : Int → Int} {c g : Int} (hB : jBL S X) (hz : cz = 0 ∨ cz = 1) (hst : jSt D X t cz n hs r q) (ht : t + 100 ≤ 60000) (rc : i32 c) (rg : i32 g) (h : ¬ ((0 ≤ c ∧ c < r 1) ∧ (g = 0 ∨ g = 1))) : JM G yX7_open cX7_open 5 (some .int) (d + 5) (0, 0) S D [.inr (.inr (some X)), .inl c, .inl g] (jrP S (jCl D X (t + 100) cz n hs r q (-100000001, none, 0))) := by
  by_cases hc : 0 ≤ c ∧ c < r 1
  · exact kX7_open_u2 hB hz hst ht hc.1 hc.2 rg (fun hg => h ⟨hc, hg⟩)
  · exact kX7_open_u1 hB hz hst ht rc rg hc
theorem kX7_sluice_r {G : JG} {S : JS} {D : JD} {d : Nat} {X t cz n q : Int} {hs : Int → Int → Int} {r : Int → Int} {c g : Int} (hB : jBL S X) (hz : cz = 0 ∨ cz = 1) (hst : jSt D X t cz n hs r q) (ht : t + 100 ≤ 60000)(h0 : 0 ≤ c) (h1 : c < r 1) (hg : g = 0 ∨ g = 1) (h : ¬ r (29 + 11 * c) < 0) : JM G yX7_sluice cX7_sluice 5 (some .int) (d + 5) (0, 0) S D [.inr (.inr (some X)), .inl c, .inl g] (jrP S (jCl D X (t + 100) cz n hs r q (-100000003, none, 1))) := by
  have hB0 := hB
  obtain ⟨bk, bf, bh, bs, bo, hF, hH, sk, sl, ok, ot, tk, tl⟩ := id hB
  have fk := hF.1
  have hhk := hH.1
  obtain ⟨s5, s4, hR, hI, hi⟩ := id hst
  have hc := hR.ct hI
  have b1 := hI.1
  have hcc := (hF.2.2.2.2.2.2.2.2.2.2.2.1 c h0 (by omega)).2
  have ck := hcc.1
  have e1 := hR.1.2.1
  have e0 := hR.1.1
  have hgt := hI.gates c h0 h1
  have hr := hI.reach h0 h1 hg
  have hb : fBe D (X + 1) c g = some (X + 1 + 4 + (c + g)) := by unfold fBe fRe; rw [e1, e0, if_pos ⟨⟨h0, h1⟩, hg⟩, if_pos hr]
  have rk := (hF.2.2.2.2.2.2.2.2.2.2.1 (c + g) hr.1 (by omega)).2
  have cw := hcc.2.1
  have wk := hcc.2.2.2.2.2.1
  have wp : rPl r (100 + c) := Or.inr ⟨by omega, by omega⟩
  have we : sWa (X + 1) (100 + c) = X + 1 + 9 + 5 * c + 1 := by unfold sWa; rw [if_neg (by omega)]; omega
  obtain ⟨e5, e6, e7, e4, er, q1, q2, q3, q4, q5, q6⟩ := (hR.2.2.1 c h0 h1).2
  rw [if_neg (by omega)] at e7
  show JX _ _ _ _ _ _ _ _ _ _ _ [_, _, _, _, _] _ _
  refine x_aload_n dX7_sluice_0 rfl ?_
  refine gf_RX7_10 dX7_sluice_1 rfl (by assumption) ?_
  rw [bf]
  refine x_iload_n dX7_sluice_4 rfl ?_
  refine c_RX7_159d dX7_sluice_5 rfl (kX2_chamberAt_y hF hc (by omega)) (by assumption) (Nat.le_of_ble_eq_true rfl) (Nat.le_of_ble_eq_true rfl) ⟨Nat.le_refl _, Nat.le_refl _⟩ ?_
  refine x_astore_n dX7_sluice_8 (by decide) ?_
  show JX _ _ _ _ _ _ _ _ _ _ _ [_, _, _, _, _] _ _
  refine x_aload_n dX7_sluice_9 rfl ?_
  refine gf_RX7_10 dX7_sluice_10 rfl (by assumption) ?_
  rw [bf]
  refine x_iload_n dX7_sluice_13 rfl ?_
  refine x_iload_n dX7_sluice_14 rfl ?_
  refine c_RX7_163d dX7_sluice_15 rfl (kX2_reachBehind hF hc ⟨by omega, by omega⟩ ⟨by omega, by omega⟩) (by assumption) (Nat.le_of_ble_eq_true rfl) (Nat.le_of_ble_eq_true rfl) ⟨Nat.le_refl _, Nat.le_refl _⟩ ?_
  rw [hb]
  refine x_astore dX7_sluice_18 (by decide) ?_
  show JX _ _ _ _ _ _ _ _ _ _ _ [_, _, _, _, _] _ _
  refine x_aload_n dX7_sluice_20 rfl ?_
  refine x_ifnull (tgt := 29) dX7_sluice_21 (by decide) (fun h => by cases h) (fun hb21 => ?_)
  refine x_aload dX7_sluice_24 rfl ?_
  refine x_ifnonnull (tgt := 32) dX7_sluice_26 (by decide) (fun hb26 => ?_) (fun h => by cases h)
  refine x_aload_n dX7_sluice_32 rfl ?_
  refine gf_RX7_167 dX7_sluice_33 rfl (by assumption) ?_
  refine x_iconst dX7_sluice_36 ?_
  refine x_ic_eq (tgt := 46) dX7_sluice_37 (by decide) ⟨by omega, by omega⟩ ⟨by omega, by omega⟩ (fun h => absurd h (by omega)) (fun hb37 => ?_)
  refine x_aload_n dX7_sluice_40 rfl ?_
  refine x_iconst dX7_sluice_41 ?_
  refine c_RX7_105d dX7_sluice_42 rfl (kX7_refuse hB0) (by assumption) (Nat.le_of_ble_eq_true rfl) (Nat.le_of_ble_eq_true rfl) ⟨Nat.le_refl _, Nat.le_refl _⟩ ?_
  exact x_ireturn dX7_sluice_45 rfl rfl ⟨Nat.le_refl _, Nat.le_refl _⟩ ⟨rfl, _, rfl, jCl_ref hst (by omega) (by decide)⟩
theorem kX7_open_r {G : JG} {S : JS} {D : JD} {d : Nat} {X t cz n q : Int} {hs : Int → Int → Int} {r : Int → Int} {c g : Int} (hB : jBL S X) (hz : cz = 0 ∨ cz = 1) (hst : jSt D X t cz n hs r q) (ht : t + 100 ≤ 60000)(h0 : 0 ≤ c) (h1 : c < r 1) (hg : g = 0 ∨ g = 1) (h : ¬ r (29 + 11 * c) < 0) : JM G yX7_open cX7_open 5 (some .int) (d + 5) (0, 0) S D [.inr (.inr (some X)), .inl c, .inl g] (jrP S (jCl D X (t + 100) cz n hs r q (-100000003, none, 1))) := by
  have hB0 := hB
  obtain ⟨bk, bf, bh, bs, bo, hF, hH, sk, sl, ok, ot, tk, tl⟩ := id hB
  have fk := hF.1
  have hhk := hH.1
  obtain ⟨s5, s4, hR, hI, hi⟩ := id hst
  have hc := hR.ct hI
  have b1 := hI.1
  have hcc := (hF.2.2.2.2.2.2.2.2.2.2.2.1 c h0 (by omega)).2
  have ck := hcc.1
  have e1 := hR.1.2.1
  have e0 := hR.1.1
  have hgt := hI.gates c h0 h1
  have hr := hI.reach h0 h1 hg
  have hb : fBe D (X + 1) c g = some (X + 1 + 4 + (c + g)) := by unfold fBe fRe; rw [e1, e0, if_pos ⟨⟨h0, h1⟩, hg⟩, if_pos hr]
  have rk := (hF.2.2.2.2.2.2.2.2.2.2.1 (c + g) hr.1 (by omega)).2
  have cw := hcc.2.1
  have wk := hcc.2.2.2.2.2.1
  have wp : rPl r (100 + c) := Or.inr ⟨by omega, by omega⟩
  have we : sWa (X + 1) (100 + c) = X + 1 + 9 + 5 * c + 1 := by unfold sWa; rw [if_neg (by omega)]; omega
  obtain ⟨e5, e6, e7, e4, er, q1, q2, q3, q4, q5, q6⟩ := (hR.2.2.1 c h0 h1).2
  rw [if_neg (by omega)] at e7
  show JX _ _ _ _ _ _ _ _ _ _ _ [_, _, _, _, _] _ _
  refine x_aload_n dX7_open_0 rfl ?_
  refine gf_RX7_10 dX7_open_1 rfl (by assumption) ?_
  rw [bf]
  refine x_iload_n dX7_open_4 rfl ?_
  refine c_RX7_159d dX7_open_5 rfl (kX2_chamberAt_y hF hc (by omega)) (by assumption) (Nat.le_of_ble_eq_true rfl) (Nat.le_of_ble_eq_true rfl) ⟨Nat.le_refl _, Nat.le_refl _⟩ ?_
  refine x_astore_n dX7_open_8 (by decide) ?_
  show JX _ _ _ _ _ _ _ _ _ _ _ [_, _, _, _, _] _ _
  refine x_aload_n dX7_open_9 rfl ?_
  refine gf_RX7_10 dX7_open_10 rfl (by assumption) ?_
  rw [bf]
  refine x_iload_n dX7_open_13 rfl ?_
  refine x_iload_n dX7_open_14 rfl ?_
  refine c_RX7_163d dX7_open_15 rfl (kX2_reachBehind hF hc ⟨by omega, by omega⟩ ⟨by omega, by omega⟩) (by assumption) (Nat.le_of_ble_eq_true rfl) (Nat.le_of_ble_eq_true rfl) ⟨Nat.le_refl _, Nat.le_refl _⟩ ?_
  rw [hb]
  refine x_astore dX7_open_18 (by decide) ?_
  show JX _ _ _ _ _ _ _ _ _ _ _ [_, _, _, _, _] _ _
  refine x_aload_n dX7_open_20 rfl ?_
  refine x_ifnull (tgt := 29) dX7_open_21 (by decide) (fun h => by cases h) (fun hb21 => ?_)
  refine x_aload dX7_open_24 rfl ?_
  refine x_ifnonnull (tgt := 32) dX7_open_26 (by decide) (fun hb26 => ?_) (fun h => by cases h)
  refine x_aload_n dX7_open_32 rfl ?_
  refine gf_RX7_167 dX7_open_33 rfl (by assumption) ?_
  refine x_iconst dX7_open_36 ?_
  refine x_ic_eq (tgt := 46) dX7_open_37 (by decide) ⟨by omega, by omega⟩ ⟨by omega, by omega⟩ (fun h => absurd h (by omega)) (fun hb37 => ?_)
  refine x_aload_n dX7_open_40 rfl ?_
  refine x_iconst dX7_open_41 ?_
  refine c_RX7_105d dX7_open_42 rfl (kX7_refuse hB0) (by assumption) (Nat.le_of_ble_eq_true rfl) (Nat.le_of_ble_eq_true rfl) ⟨Nat.le_refl _, Nat.le_refl _⟩ ?_
  exact x_ireturn dX7_open_45 rfl rfl ⟨Nat.le_refl _, Nat.le_refl _⟩ ⟨rfl, _, rfl, jCl_ref hst (by omega) (by decide)⟩
theorem kX7_sluice_y {G : JG} {S : JS} {D : JD} {d : Nat} {X t cz n q : Int} {hs : Int → Int → Int} {r : Int → Int} {c g : Int} (hB : jBL S X) (hz : cz = 0 ∨ cz = 1) (hst : jSt D X t cz n hs r q) (ht : t + 100 ≤ 60000)(h0 : 0 ≤ c) (h1 : c < r 1) (hg : g = 0 ∨ g = 1) (h : r (29 + 11 * c) < 0) : JM G yX7_sluice cX7_sluice 5 (some .int) (d + 5) (0, 0) S D [.inr (.inr (some X)), .inl c, .inl g] (jrP S (jCl D X (t + 100) cz n hs r q (sLv (sAll (sSh r c g)) (100 + c), some (sSh r c g), 0))) := by
  have hB0 := hB
  obtain ⟨bk, bf, bh, bs, bo, hF, hH, sk, sl, ok, ot, tk, tl⟩ := id hB
  have fk := hF.1
  have hhk := hH.1
  obtain ⟨s5, s4, hR, hI, hi⟩ := id hst
  have hc := hR.ct hI
  have b1 := hI.1
  have hcc := (hF.2.2.2.2.2.2.2.2.2.2.2.1 c h0 (by omega)).2
  have ck := hcc.1
  have e1 := hR.1.2.1
  have e0 := hR.1.1
  have hgt := hI.gates c h0 h1
  have hr := hI.reach h0 h1 hg
  have hb : fBe D (X + 1) c g = some (X + 1 + 4 + (c + g)) := by unfold fBe fRe; rw [e1, e0, if_pos ⟨⟨h0, h1⟩, hg⟩, if_pos hr]
  have rk := (hF.2.2.2.2.2.2.2.2.2.2.1 (c + g) hr.1 (by omega)).2
  have cw := hcc.2.1
  have wk := hcc.2.2.2.2.2.1
  have wp : rPl r (100 + c) := Or.inr ⟨by omega, by omega⟩
  have we : sWa (X + 1) (100 + c) = X + 1 + 9 + 5 * c + 1 := by unfold sWa; rw [if_neg (by omega)]; omega
  obtain ⟨e5, e6, e7, e4, er, q1, q2, q3, q4, q5, q6⟩ := (hR.2.2.1 c h0 h1).2
  rw [if_pos (by omega)] at e7
  show JX _ _ _ _ _ _ _ _ _ _ _ [_, _, _, _, _] _ _
  refine x_aload_n dX7_sluice_0 rfl ?_
  refine gf_RX7_10 dX7_sluice_1 rfl (by assumption) ?_
  rw [bf]
  refine x_iload_n dX7_sluice_4 rfl ?_
  refine c_RX7_159d dX7_sluice_5 rfl (kX2_chamberAt_y hF hc (by omega)) (by assumption) (Nat.le_of_ble_eq_true rfl) (Nat.le_of_ble_eq_true rfl) ⟨Nat.le_refl _, Nat.le_refl _⟩ ?_
  refine x_astore_n dX7_sluice_8 (by decide) ?_
  show JX _ _ _ _ _ _ _ _ _ _ _ [_, _, _, _, _] _ _
  refine x_aload_n dX7_sluice_9 rfl ?_
  refine gf_RX7_10 dX7_sluice_10 rfl (by assumption) ?_
  rw [bf]
  refine x_iload_n dX7_sluice_13 rfl ?_
  refine x_iload_n dX7_sluice_14 rfl ?_
  refine c_RX7_163d dX7_sluice_15 rfl (kX2_reachBehind hF hc ⟨by omega, by omega⟩ ⟨by omega, by omega⟩) (by assumption) (Nat.le_of_ble_eq_true rfl) (Nat.le_of_ble_eq_true rfl) ⟨Nat.le_refl _, Nat.le_refl _⟩ ?_
  rw [hb]
  refine x_astore dX7_sluice_18 (by decide) ?_
  show JX _ _ _ _ _ _ _ _ _ _ _ [_, _, _, _, _] _ _
  refine x_aload_n dX7_sluice_20 rfl ?_
  refine x_ifnull (tgt := 29) dX7_sluice_21 (by decide) (fun h => by cases h) (fun hb21 => ?_)
  refine x_aload dX7_sluice_24 rfl ?_
  refine x_ifnonnull (tgt := 32) dX7_sluice_26 (by decide) (fun hb26 => ?_) (fun h => by cases h)
  refine x_aload_n dX7_sluice_32 rfl ?_
  refine gf_RX7_167 dX7_sluice_33 rfl (by assumption) ?_
  refine x_iconst dX7_sluice_36 ?_
  refine x_ic_eq (tgt := 46) dX7_sluice_37 (by decide) ⟨by omega, by omega⟩ ⟨by omega, by omega⟩ (fun hb37 => ?_) (fun h => (h (by omega)).elim)
  refine x_aload_n dX7_sluice_46 rfl ?_
  refine c_RX7_51p dX7_sluice_47 rfl (kX7_record hB hz hst) (by assumption) (Nat.le_of_ble_eq_true rfl) (Nat.le_of_ble_eq_true rfl) ⟨Nat.le_refl _, Nat.le_refl _⟩ (fun D1 h1 => ?_)
  obtain ⟨st1, x1⟩ := h1
  obtain ⟨t5, t4, hR1, hI1, hi1⟩ := id st1
  have hc1 := hR1.ct hI1
  have so := (hR1.shOk hI1 (by omega) h0 h1 hg).1
  have sd := (hR1.shOk hI1 (by omega) h0 h1 hg).2
  have hR2 := hR1.share hI1 h0 h1 hg
  rw [← sd] at hR2
  have hI2 := (hI1.mono (show t ≤ t + 100 by omega)).share h0 h1 hg
  have r21 : sSh r c g 1 = r 1 := sSh_o (by omega) (by omega)
  refine x_aload_n dX7_sluice_50 rfl ?_
  refine gf_RX7_172 dX7_sluice_51 rfl (by assumption) ?_
  rw [cw]
  refine x_aload dX7_sluice_54 rfl ?_
  refine c_RX7_176d dX7_sluice_56 rfl (kX6_shareWith wk rk (by omega) so) (by assumption) (Nat.le_of_ble_eq_true rfl) (Nat.le_of_ble_eq_true rfl) ⟨Nat.le_refl _, Nat.le_refl _⟩ ?_
  refine x_aload_n dX7_sluice_59 rfl ?_
  refine gf_RX7_10 dX7_sluice_60 rfl (by assumption) ?_
  rw [bf]
  refine c_RX7_58p dX7_sluice_63 rfl (kX2_settle hF hR2 hI2 (by omega)) (by assumption) (Nat.le_of_ble_eq_true rfl) (Nat.le_of_ble_eq_true rfl) ⟨Nat.le_refl _, Nat.le_refl _⟩ (fun D3 h3 => ?_)
  obtain ⟨hR4, hx4⟩ := h3
  have hI4 := hI2.all
  have k4 := hI2.kc h0 (by omega)
  have wp4 : rPl (sAll (sSh r c g)) (100 + c) := Or.inr ⟨by omega, by omega⟩
  have kl := kR_level (G := G) (d := d + 1) hF hR4 hI4 (by omega) wp4
  rw [we] at kl
  refine x_aload_n dX7_sluice_66 rfl ?_
  refine gf_RX7_172 dX7_sluice_67 rfl (by assumption) ?_
  rw [cw]
  refine c_RX7_112d dX7_sluice_70 rfl (kl) (by assumption) (Nat.le_of_ble_eq_true rfl) (Nat.le_of_ble_eq_true rfl) ⟨Nat.le_refl _, Nat.le_refl _⟩ ?_
  refine x_l2i dX7_sluice_73 ?_
  exact x_ireturn dX7_sluice_74 rfl rfl ⟨Nat.le_refl _, Nat.le_refl _⟩ ⟨rfl, _, rfl, jCl_some x1 st1 (fun x k hx => by rw [jup_ne (by omega), jup_ne (by omega)]) hx4 hR4 hI2 (by omega)⟩
theorem kX7_sluice {G : JG} {S : JS} {D : JD} {d : Nat} {X t cz n q : Int} {hs : Int → Int → Int} {r : Int → Int} {c g : Int} (hB : jBL S X) (hz : cz = 0 ∨ cz = 1) (hst : jSt D X t cz n hs r q) (ht : t + 100 ≤ 60000) (rc : i32 c) (rg : i32 g) : JM G yX7_sluice cX7_sluice 5 (some .int) (d + 5) (0, 0) S D [.inr (.inr (some X)), .inl c, .inl g] (jrP S (jCl D X (t + 100) cz n hs r q (zSluice c g r))) := by
  unfold zSluice
  by_cases h : (0 ≤ c ∧ c < r 1) ∧ (g = 0 ∨ g = 1)
  · rw [if_pos h]
    by_cases hv : r (29 + 11 * c) < 0
    · rw [if_pos hv]; exact kX7_sluice_y hB hz hst ht h.1.1 h.1.2 h.2 hv
    · rw [if_neg hv]; exact kX7_sluice_r hB hz hst ht h.1.1 h.1.2 h.2 hv
  · rw [if_neg h]; exact kX7_sluice_u hB hz hst ht rc rg h
theorem kX7_open_l {G : JG} {S : JS} {D : JD} {d : Nat} {X t cz n q : Int} {hs : Int → Int → Int} {r : Int → Int} {c g : Int} (hB : jBL S X) (hz : cz = 0 ∨ cz = 1) (hst : jSt D X t cz n hs r q) (ht : t + 100 ≤ 60000)(h0 : 0 ≤ c) (h1 : c < r 1) (hg : g = 0 ∨ g = 1) (h : r (29 + 11 * c) < 0) (hl : ¬ (sLv r (100 + c) - sLv r (c + g) ≤ 2 ∧ sLv r (c + g) - sLv r (100 + c) ≤ 2)) : JM G yX7_open cX7_open 5 (some .int) (d + 5) (0, 0) S D [.inr (.inr (some X)), .inl c, .inl g] (jrP S (jCl D X (t + 100) cz n hs r q (-100000003, none, 3))) := by
  have hB0 := hB
  obtain ⟨bk, bf, bh, bs, bo, hF, hH, sk, sl, ok, ot, tk, tl⟩ := id hB
  have fk := hF.1
  have hhk := hH.1
  obtain ⟨s5, s4, hR, hI, hi⟩ := id hst
  have hc := hR.ct hI
  have b1 := hI.1
  have hcc := (hF.2.2.2.2.2.2.2.2.2.2.2.1 c h0 (by omega)).2
  have ck := hcc.1
  have e1 := hR.1.2.1
  have e0 := hR.1.1
  have hgt := hI.gates c h0 h1
  have hr := hI.reach h0 h1 hg
  have hb : fBe D (X + 1) c g = some (X + 1 + 4 + (c + g)) := by unfold fBe fRe; rw [e1, e0, if_pos ⟨⟨h0, h1⟩, hg⟩, if_pos hr]
  have rk := (hF.2.2.2.2.2.2.2.2.2.2.1 (c + g) hr.1 (by omega)).2
  have cw := hcc.2.1
  have wk := hcc.2.2.2.2.2.1
  have wp : rPl r (100 + c) := Or.inr ⟨by omega, by omega⟩
  have we : sWa (X + 1) (100 + c) = X + 1 + 9 + 5 * c + 1 := by unfold sWa; rw [if_neg (by omega)]; omega
  obtain ⟨e5, e6, e7, e4, er, q1, q2, q3, q4, q5, q6⟩ := (hR.2.2.1 c h0 h1).2
  rw [if_pos (by omega)] at e7
  have wp2 : rPl r (c + g) := Or.inl hr
  have we2 : sWa (X + 1) (c + g) = X + 1 + 4 + (c + g) := by unfold sWa; rw [if_pos (by omega)]
  have kl1 := kR_level (G := G) (d := d + 1) hF hR hI (by omega) wp
  have kl2 := kR_level (G := G) (d := d + 1) hF hR hI (by omega) wp2
  rw [we] at kl1
  rw [we2] at kl2
  obtain ⟨-, wo, wm⟩ := hR.wat hI (by omega) wp
  obtain ⟨-, wo2, wm2⟩ := hR.wat hI (by omega) wp2
  have dp := hI.dp wo wm
  have dp2 := hI.dp wo2 wm2
  show JX _ _ _ _ _ _ _ _ _ _ _ [_, _, _, _, _] _ _
  refine x_aload_n dX7_open_0 rfl ?_
  refine gf_RX7_10 dX7_open_1 rfl (by assumption) ?_
  rw [bf]
  refine x_iload_n dX7_open_4 rfl ?_
  refine c_RX7_159d dX7_open_5 rfl (kX2_chamberAt_y hF hc (by omega)) (by assumption) (Nat.le_of_ble_eq_true rfl) (Nat.le_of_ble_eq_true rfl) ⟨Nat.le_refl _, Nat.le_refl _⟩ ?_
  refine x_astore_n dX7_open_8 (by decide) ?_
  show JX _ _ _ _ _ _ _ _ _ _ _ [_, _, _, _, _] _ _
  refine x_aload_n dX7_open_9 rfl ?_
  refine gf_RX7_10 dX7_open_10 rfl (by assumption) ?_
  rw [bf]
  refine x_iload_n dX7_open_13 rfl ?_
  refine x_iload_n dX7_open_14 rfl ?_
  refine c_RX7_163d dX7_open_15 rfl (kX2_reachBehind hF hc ⟨by omega, by omega⟩ ⟨by omega, by omega⟩) (by assumption) (Nat.le_of_ble_eq_true rfl) (Nat.le_of_ble_eq_true rfl) ⟨Nat.le_refl _, Nat.le_refl _⟩ ?_
  rw [hb]
  refine x_astore dX7_open_18 (by decide) ?_
  show JX _ _ _ _ _ _ _ _ _ _ _ [_, _, _, _, _] _ _
  refine x_aload_n dX7_open_20 rfl ?_
  refine x_ifnull (tgt := 29) dX7_open_21 (by decide) (fun h => by cases h) (fun hb21 => ?_)
  refine x_aload dX7_open_24 rfl ?_
  refine x_ifnonnull (tgt := 32) dX7_open_26 (by decide) (fun hb26 => ?_) (fun h => by cases h)
  refine x_aload_n dX7_open_32 rfl ?_
  refine gf_RX7_167 dX7_open_33 rfl (by assumption) ?_
  refine x_iconst dX7_open_36 ?_
  refine x_ic_eq (tgt := 46) dX7_open_37 (by decide) ⟨by omega, by omega⟩ ⟨by omega, by omega⟩ (fun hb37 => ?_) (fun h => (h (by omega)).elim)
  refine x_aload_n dX7_open_46 rfl ?_
  refine gf_RX7_172 dX7_open_47 rfl (by assumption) ?_
  rw [cw]
  refine c_RX7_112d dX7_open_50 rfl (kl1) (by assumption) (Nat.le_of_ble_eq_true rfl) (Nat.le_of_ble_eq_true rfl) ⟨Nat.le_refl _, Nat.le_refl _⟩ ?_
  refine x_aload dX7_open_53 rfl ?_
  refine c_RX7_112d dX7_open_55 rfl (kl2) (by assumption) (Nat.le_of_ble_eq_true rfl) (Nat.le_of_ble_eq_true rfl) ⟨Nat.le_refl _, Nat.le_refl _⟩ ?_
  refine x_lsub dX7_open_58 ?_
  refine c_RX7_180d dX7_open_59 rfl (kJ9_abs ⟨by omega, by omega⟩) (Nat.le_of_ble_eq_true rfl) (Nat.le_of_ble_eq_true rfl) ⟨Nat.le_refl _, Nat.le_refl _⟩ ?_
  refine x_ldc2 (e := 2) dX7_open_62 ctl_RX7_186 (by decide) ?_
  refine x_lc_le (tgt := 75) dX7_open_65 dX7_open_66 (by decide) ⟨by omega, by omega⟩ ⟨by omega, by omega⟩ (fun h => absurd h (by omega)) (fun hb66 => ?_)
  refine x_aload_n dX7_open_69 rfl ?_
  refine x_iconst dX7_open_70 ?_
  refine c_RX7_105d dX7_open_71 rfl (kX7_refuse hB0) (by assumption) (Nat.le_of_ble_eq_true rfl) (Nat.le_of_ble_eq_true rfl) ⟨Nat.le_refl _, Nat.le_refl _⟩ ?_
  exact x_ireturn dX7_open_74 rfl rfl ⟨Nat.le_refl _, Nat.le_refl _⟩ ⟨rfl, _, rfl, jCl_ref hst (by omega) (by decide)⟩
theorem kX7_open_y {G : JG} {S : JS} {D : JD} {d : Nat} {X t cz n q : Int} {hs : Int → Int → Int} {r : Int → Int} {c g : Int} (hB : jBL S X) (hz : cz = 0 ∨ cz = 1) (hst : jSt D X t cz n hs r q) (ht : t + 100 ≤ 60000)(h0 : 0 ≤ c) (h1 : c < r 1) (hg : g = 0 ∨ g = 1) (h : r (29 + 11 * c) < 0) (hl : sLv r (100 + c) - sLv r (c + g) ≤ 2 ∧ sLv r (c + g) - sLv r (100 + c) ≤ 2) : JM G yX7_open cX7_open 5 (some .int) (d + 5) (0, 0) S D [.inr (.inr (some X)), .inl c, .inl g] (jrP S (jCl D X (t + 100) cz n hs r q (sLv (sAll (rup r (29 + 11 * c) g)) (100 + c), some (rup r (29 + 11 * c) g), 0))) := by
  have hB0 := hB
  obtain ⟨bk, bf, bh, bs, bo, hF, hH, sk, sl, ok, ot, tk, tl⟩ := id hB
  have fk := hF.1
  have hhk := hH.1
  obtain ⟨s5, s4, hR, hI, hi⟩ := id hst
  have hc := hR.ct hI
  have b1 := hI.1
  have hcc := (hF.2.2.2.2.2.2.2.2.2.2.2.1 c h0 (by omega)).2
  have ck := hcc.1
  have e1 := hR.1.2.1
  have e0 := hR.1.1
  have hgt := hI.gates c h0 h1
  have hr := hI.reach h0 h1 hg
  have hb : fBe D (X + 1) c g = some (X + 1 + 4 + (c + g)) := by unfold fBe fRe; rw [e1, e0, if_pos ⟨⟨h0, h1⟩, hg⟩, if_pos hr]
  have rk := (hF.2.2.2.2.2.2.2.2.2.2.1 (c + g) hr.1 (by omega)).2
  have cw := hcc.2.1
  have wk := hcc.2.2.2.2.2.1
  have wp : rPl r (100 + c) := Or.inr ⟨by omega, by omega⟩
  have we : sWa (X + 1) (100 + c) = X + 1 + 9 + 5 * c + 1 := by unfold sWa; rw [if_neg (by omega)]; omega
  obtain ⟨e5, e6, e7, e4, er, q1, q2, q3, q4, q5, q6⟩ := (hR.2.2.1 c h0 h1).2
  rw [if_pos (by omega)] at e7
  have wp2 : rPl r (c + g) := Or.inl hr
  have we2 : sWa (X + 1) (c + g) = X + 1 + 4 + (c + g) := by unfold sWa; rw [if_pos (by omega)]
  have kl1 := kR_level (G := G) (d := d + 1) hF hR hI (by omega) wp
  have kl2 := kR_level (G := G) (d := d + 1) hF hR hI (by omega) wp2
  rw [we] at kl1
  rw [we2] at kl2
  obtain ⟨-, wo, wm⟩ := hR.wat hI (by omega) wp
  obtain ⟨-, wo2, wm2⟩ := hR.wat hI (by omega) wp2
  have dp := hI.dp wo wm
  have dp2 := hI.dp wo2 wm2
  show JX _ _ _ _ _ _ _ _ _ _ _ [_, _, _, _, _] _ _
  refine x_aload_n dX7_open_0 rfl ?_
  refine gf_RX7_10 dX7_open_1 rfl (by assumption) ?_
  rw [bf]
  refine x_iload_n dX7_open_4 rfl ?_
  refine c_RX7_159d dX7_open_5 rfl (kX2_chamberAt_y hF hc (by omega)) (by assumption) (Nat.le_of_ble_eq_true rfl) (Nat.le_of_ble_eq_true rfl) ⟨Nat.le_refl _, Nat.le_refl _⟩ ?_
  refine x_astore_n dX7_open_8 (by decide) ?_
  show JX _ _ _ _ _ _ _ _ _ _ _ [_, _, _, _, _] _ _
  refine x_aload_n dX7_open_9 rfl ?_
  refine gf_RX7_10 dX7_open_10 rfl (by assumption) ?_
  rw [bf]
  refine x_iload_n dX7_open_13 rfl ?_
  refine x_iload_n dX7_open_14 rfl ?_
  refine c_RX7_163d dX7_open_15 rfl (kX2_reachBehind hF hc ⟨by omega, by omega⟩ ⟨by omega, by omega⟩) (by assumption) (Nat.le_of_ble_eq_true rfl) (Nat.le_of_ble_eq_true rfl) ⟨Nat.le_refl _, Nat.le_refl _⟩ ?_
  rw [hb]
  refine x_astore dX7_open_18 (by decide) ?_
  show JX _ _ _ _ _ _ _ _ _ _ _ [_, _, _, _, _] _ _
  refine x_aload_n dX7_open_20 rfl ?_
  refine x_ifnull (tgt := 29) dX7_open_21 (by decide) (fun h => by cases h) (fun hb21 => ?_)
  refine x_aload dX7_open_24 rfl ?_
  refine x_ifnonnull (tgt := 32) dX7_open_26 (by decide) (fun hb26 => ?_) (fun h => by cases h)
  refine x_aload_n dX7_open_32 rfl ?_
  refine gf_RX7_167 dX7_open_33 rfl (by assumption) ?_
  refine x_iconst dX7_open_36 ?_
  refine x_ic_eq (tgt := 46) dX7_open_37 (by decide) ⟨by omega, by omega⟩ ⟨by omega, by omega⟩ (fun hb37 => ?_) (fun h => (h (by omega)).elim)
  refine x_aload_n dX7_open_46 rfl ?_
  refine gf_RX7_172 dX7_open_47 rfl (by assumption) ?_
  rw [cw]
  refine c_RX7_112d dX7_open_50 rfl (kl1) (by assumption) (Nat.le_of_ble_eq_true rfl) (Nat.le_of_ble_eq_true rfl) ⟨Nat.le_refl _, Nat.le_refl _⟩ ?_
  refine x_aload dX7_open_53 rfl ?_
  refine c_RX7_112d dX7_open_55 rfl (kl2) (by assumption) (Nat.le_of_ble_eq_true rfl) (Nat.le_of_ble_eq_true rfl) ⟨Nat.le_refl _, Nat.le_refl _⟩ ?_
  refine x_lsub dX7_open_58 ?_
  refine c_RX7_180d dX7_open_59 rfl (kJ9_abs ⟨by omega, by omega⟩) (Nat.le_of_ble_eq_true rfl) (Nat.le_of_ble_eq_true rfl) ⟨Nat.le_refl _, Nat.le_refl _⟩ ?_
  refine x_ldc2 (e := 2) dX7_open_62 ctl_RX7_186 (by decide) ?_
  refine x_lc_le (tgt := 75) dX7_open_65 dX7_open_66 (by decide) ⟨by omega, by omega⟩ ⟨by omega, by omega⟩ (fun hb66 => ?_) (fun h => (h (by omega)).elim)
  refine x_aload_n dX7_open_75 rfl ?_
  refine c_RX7_51p dX7_open_76 rfl (kX7_record hB hz hst) (by assumption) (Nat.le_of_ble_eq_true rfl) (Nat.le_of_ble_eq_true rfl) ⟨Nat.le_refl _, Nat.le_refl _⟩ (fun D1 h1 => ?_)
  obtain ⟨st1, x1⟩ := h1
  obtain ⟨t5, t4, hR1, hI1, hi1⟩ := id st1
  have hc1 := hR1.ct hI1
  have hR2 := hR1.own (k := 29 + 11 * c) (v := g) (x0 := X + 1 + 9 + 5 * c) (k0 := 7) (v0 := g) hI1 h0 h1 (by omega)
  have hI2 := (hI1.mono (show t ≤ t + 100 by omega)).own (k := 29 + 11 * c) (v := g) h0 h1 (by omega)
  have r21 : rup r (29 + 11 * c) g 1 = r 1 := rup_ne (by omega)
  refine x_aload_n dX7_open_79 rfl ?_
  refine x_iload_n dX7_open_80 rfl ?_
  refine pf_RX7_167 dX7_open_81 rfl (by assumption) ?_
  refine x_aload_n dX7_open_84 rfl ?_
  refine gf_RX7_10 dX7_open_85 rfl (by assumption) ?_
  rw [bf]
  refine c_RX7_58p dX7_open_88 rfl (kX2_settle hF hR2 hI2 (by omega)) (by assumption) (Nat.le_of_ble_eq_true rfl) (Nat.le_of_ble_eq_true rfl) ⟨Nat.le_refl _, Nat.le_refl _⟩ (fun D3 h3 => ?_)
  obtain ⟨hR4, hx4⟩ := h3
  have hI4 := hI2.all
  have k4 := hI2.kc h0 (by omega)
  have wp4 : rPl (sAll (rup r (29 + 11 * c) g)) (100 + c) := Or.inr ⟨by omega, by omega⟩
  have kl := kR_level (G := G) (d := d + 1) hF hR4 hI4 (by omega) wp4
  rw [we] at kl
  refine x_aload_n dX7_open_91 rfl ?_
  refine gf_RX7_172 dX7_open_92 rfl (by assumption) ?_
  rw [cw]
  refine c_RX7_112d dX7_open_95 rfl (kl) (by assumption) (Nat.le_of_ble_eq_true rfl) (Nat.le_of_ble_eq_true rfl) ⟨Nat.le_refl _, Nat.le_refl _⟩ ?_
  refine x_l2i dX7_open_98 ?_
  exact x_ireturn dX7_open_99 rfl rfl ⟨Nat.le_refl _, Nat.le_refl _⟩ ⟨rfl, _, rfl, jCl_some x1 st1 (fun x k hx => jup_ne (by omega)) hx4 hR4 hI2 (by omega)⟩
theorem kX7_open {G : JG} {S : JS} {D : JD} {d : Nat} {X t cz n q : Int} {hs : Int → Int → Int} {r : Int → Int} {c g : Int} (hB : jBL S X) (hz : cz = 0 ∨ cz = 1) (hst : jSt D X t cz n hs r q) (ht : t + 100 ≤ 60000) (rc : i32 c) (rg : i32 g) : JM G yX7_open cX7_open 5 (some .int) (d + 5) (0, 0) S D [.inr (.inr (some X)), .inl c, .inl g] (jrP S (jCl D X (t + 100) cz n hs r q (zOpen c g r))) := by
  unfold zOpen
  by_cases h : (0 ≤ c ∧ c < r 1) ∧ (g = 0 ∨ g = 1)
  · rw [if_pos h]
    by_cases hv : r (29 + 11 * c) < 0
    · rw [if_pos hv]
      by_cases hl : sLv r (100 + c) - sLv r (c + g) ≤ 2 ∧ sLv r (c + g) - sLv r (100 + c) ≤ 2
      · rw [if_pos hl]; exact kX7_open_y hB hz hst ht h.1.1 h.1.2 h.2 hv hl
      · rw [if_neg hl]; exact kX7_open_l hB hz hst ht h.1.1 h.1.2 h.2 hv hl
    · rw [if_neg hv]; exact kX7_open_r hB hz hst ht h.1.1 h.1.2 h.2 hv
  · rw [if_neg h]; exact kX7_open_u hB hz hst ht rc rg h
