/-! undo, restore, type, clearText -/
def jUn (D : JD) (X t2 cz n : Int) (hs : Int → Int → Int) (r : Int → Int) (q : Int) (w : JV) (D2 : JD) : Prop :=
  jXo D D2 X ∧ (if n = 0 then w = .inl (-100000005) ∧ jSt D2 X t2 cz n hs r q else w = .inl (n - 1) ∧ jSt D2 X t2 cz (n - 1) hs (hs (n - 1)) q)
def jRs (D : JD) (X t2 cz n : Int) (hs : Int → Int → Int) (s : Int → Int) (q : Int) (r : Int → Int) (w : JV) (D2 : JD) : Prop :=
  jXo D D2 X ∧ w = .inl (s 2) ∧ jSt D2 X t2 cz (rcN cz n) (rcH cz n hs r) s q
theorem kX3_takeLatest {G : JG} {S : JS} {D : JD} {d : Nat} {hh b t n : Int} {hs : Int → Int → Int} (hH : jHs S hh) (hF : jFl S b) (hdis : b + 41 ≤ hh ∨ hh + 207 ≤ b) (hi : jHi D hh t n hs) (hn : ¬ n = 0) : JM G yX3_takeLatest cX3_takeLatest 3 none (d + 3) (0, 0) S D [.inr (.inr (some hh)), .inr (.inr (some b))] (jnP S (fun D2 => jHi D2 hh t (n - 1) hs ∧ jFR D2 b (hs (n - 1)) ∧ rIn t (hs (n - 1)) ∧ ∀ x k : Int, ¬ (x = hh ∧ k = 2) → (x < b ∨ b + 41 ≤ x) → D2 x k = D x k)) := by
  obtain ⟨h1, h2, h3, h4, h5, h6⟩ := hi
  have fk := hH.1
  have fl := (hH.2.2.2.2 ((D hh 1 + (n - 1)) % 5) (by omega) (by omega)).2
  have flk := fl.1
  obtain ⟨hl, hIl⟩ := h6 (n - 1) (by omega) (by omega)
  show JX _ _ _ _ _ _ _ _ _ _ _ [_, _, _] _ _
  refine x_aload_n dX3_takeLatest_0 rfl ?_
  refine gf_RX3_22 dX3_takeLatest_1 rfl (by assumption) ?_
  rw [h3]
  refine x_if_ne (tgt := 8) dX3_takeLatest_4 (by decide) ⟨by omega, by omega⟩ (fun hb4 => ?_) (fun h => (h (by omega)).elim)
  refine x_aload_n dX3_takeLatest_8 rfl ?_
  refine x_dup dX3_takeLatest_9 (fun _ h => by cases h) ?_
  refine gf_RX3_22 dX3_takeLatest_10 rfl (by assumption) ?_
  rw [h3]
  refine x_iconst dX3_takeLatest_13 ?_
  refine x_isub dX3_takeLatest_14 ?_
  refine pf_RX3_22 dX3_takeLatest_15 rfl (by assumption) ?_
  refine x_aload_n dX3_takeLatest_18 rfl ?_
  refine x_aload_n dX3_takeLatest_19 rfl ?_
  refine gf_RX3_22 dX3_takeLatest_20 rfl (by assumption) ?_
  rw [jup_eq]
  refine c_RX3_25d dX3_takeLatest_23 rfl (kX3_stateAt (o := D hh 1) hH (by rw [jup_nk (by omega)]) (by omega) (by omega) (by omega) (by omega)) (by assumption) (Nat.le_of_ble_eq_true rfl) (Nat.le_of_ble_eq_true rfl) ⟨Nat.le_refl _, Nat.le_refl _⟩ ?_
  refine x_astore_n dX3_takeLatest_26 (by decide) ?_
  show JX _ _ _ _ _ _ _ _ _ _ _ [_, _, _] _ _
  refine x_aload_n dX3_takeLatest_27 rfl ?_
  refine x_ifnull (tgt := 36) dX3_takeLatest_28 (by decide) (fun h => by cases h) (fun hb28 => ?_)
  refine x_aload_n dX3_takeLatest_31 rfl ?_
  refine x_aload_n dX3_takeLatest_32 rfl ?_
  refine c_RX3_29p dX3_takeLatest_33 rfl (kX2_copyTo fl hF (by omega)) (by assumption) (Nat.le_of_ble_eq_true rfl) (Nat.le_of_ble_eq_true rfl) ⟨Nat.le_refl _, Nat.le_refl _⟩ (fun D3 h9 => ?_)
  exact x_return dX3_takeLatest_36 rfl ⟨Nat.le_refl _, Nat.le_refl _⟩ ⟨rfl, rfl, by
      obtain ⟨cp, fr2⟩ := h9
      have e1 : D3 hh 1 = D hh 1 := by rw [fr2 hh 1 (by omega), jup_nk (by omega)]
      have e2 : D3 hh 2 = n - 1 := by rw [fr2 hh 2 (by omega), jup_eq]
      refine ⟨⟨by rw [e1]; exact h1, by rw [e1]; exact h2, e2, by omega, by omega, fun k x y => ?_⟩, hl.copy hIl (jCp.pre cp (fun z w p q => by rw [jup_ne (by omega)])), hIl, fun x k p q => ?_⟩
      · obtain ⟨g1, g2⟩ := h6 k x (by omega)
        rw [e1]
        exact ⟨g1.frame g2 (fun z w p q => by rw [fr2 z w (by omega), jup_ne (by omega)]), g2⟩
      · rw [fr2 x k (by omega)]
        by_cases h : x = hh
        · subst h; rw [jup_nk (by omega)]
        · rw [jup_ne h]⟩
theorem kX7_undo_n {G : JG} {S : JS} {D : JD} {d : Nat} {X t cz n q : Int} {hs : Int → Int → Int} {r : Int → Int} (hB : jBL S X) (hst : jSt D X t cz n hs r q) (ht : t + 100 ≤ 60000) (hn : n = 0) : JM G yX7_undo cX7_undo 1 (some .int) (d + 4) (0, 0) S D [.inr (.inr (some X))] (jrP S (jUn D X (t + 100) cz n hs r q)) := by
  have hB0 := hB
  obtain ⟨bk, bf, bh, bs, bo, hF, hH, sk, sl, ok, ot, tk, tl⟩ := id hB
  have fk := hF.1
  have hhk := hH.1
  obtain ⟨s5, s4, hR, hI, hi⟩ := id hst
  have hc := hR.ct hI
  have b1 := hI.1
  have hi0 := hi
  obtain ⟨i1, i2, i3, i4, i5, i6⟩ := hi0
  show JX _ _ _ _ _ _ _ _ _ _ _ [_] _ _
  refine x_aload_n dX7_undo_0 rfl ?_
  refine gf_RX7_19 dX7_undo_1 rfl (by assumption) ?_
  rw [bh]
  refine gf_RX7_245 dX7_undo_4 rfl (by assumption) ?_
  rw [i3]
  refine x_if_ne (tgt := 13) dX7_undo_7 (by decide) ⟨by omega, by omega⟩ (fun h => absurd h (by omega)) (fun hb7 => ?_)
  refine x_ldc (e := -100000005) dX7_undo_10 ct_RX7_90 (by decide) ?_
  exact x_ireturn dX7_undo_12 rfl rfl ⟨Nat.le_refl _, Nat.le_refl _⟩ ⟨rfl, _, rfl, fun _ _ _ => rfl, by rw [if_pos hn]; exact ⟨rfl, hst.mono (by omega)⟩⟩
theorem kX7_undo_y {G : JG} {S : JS} {D : JD} {d : Nat} {X t cz n q : Int} {hs : Int → Int → Int} {r : Int → Int} (hB : jBL S X) (hst : jSt D X t cz n hs r q) (ht : t + 100 ≤ 60000) (hn : ¬ n = 0) : JM G yX7_undo cX7_undo 1 (some .int) (d + 4) (0, 0) S D [.inr (.inr (some X))] (jrP S (jUn D X (t + 100) cz n hs r q)) := by
  have hB0 := hB
  obtain ⟨bk, bf, bh, bs, bo, hF, hH, sk, sl, ok, ot, tk, tl⟩ := id hB
  have fk := hF.1
  have hhk := hH.1
  obtain ⟨s5, s4, hR, hI, hi⟩ := id hst
  have hc := hR.ct hI
  have b1 := hI.1
  have hi0 := hi
  obtain ⟨i1, i2, i3, i4, i5, i6⟩ := hi0
  show JX _ _ _ _ _ _ _ _ _ _ _ [_] _ _
  refine x_aload_n dX7_undo_0 rfl ?_
  refine gf_RX7_19 dX7_undo_1 rfl (by assumption) ?_
  rw [bh]
  refine gf_RX7_245 dX7_undo_4 rfl (by assumption) ?_
  rw [i3]
  refine x_if_ne (tgt := 13) dX7_undo_7 (by decide) ⟨by omega, by omega⟩ (fun hb7 => ?_) (fun h => (h (by omega)).elim)
  refine x_aload_n dX7_undo_13 rfl ?_
  refine gf_RX7_19 dX7_undo_14 rfl (by assumption) ?_
  rw [bh]
  refine x_aload_n dX7_undo_17 rfl ?_
  refine gf_RX7_10 dX7_undo_18 rfl (by assumption) ?_
  rw [bf]
  refine c_RX7_248p dX7_undo_21 rfl (kX3_takeLatest hH hF (by omega) hi hn) (by assumption) (Nat.le_of_ble_eq_true rfl) (Nat.le_of_ble_eq_true rfl) ⟨Nat.le_refl _, Nat.le_refl _⟩ (fun D3 h9 => ?_)
  obtain ⟨g1, g2, g3, g4⟩ := h9
  have g12 := g1.2.2.1
  refine x_aload_n dX7_undo_24 rfl ?_
  refine gf_RX7_19 dX7_undo_25 rfl (by assumption) ?_
  rw [bh]
  refine gf_RX7_245 dX7_undo_28 rfl (by assumption) ?_
  rw [g12]
  exact x_ireturn dX7_undo_31 rfl rfl ⟨Nat.le_refl _, Nat.le_refl _⟩ ⟨rfl, _, rfl, fun x k hx => g4 x k (by omega) (by omega), by
      rw [if_neg hn]
      exact ⟨rfl, by rw [g4 X 5 (by omega) (by omega)]; exact s5, by rw [g4 X 4 (by omega) (by omega)]; exact s4, g2, g3.mono (by omega), g1.mono (by omega)⟩⟩
theorem kX7_undo {G : JG} {S : JS} {D : JD} {d : Nat} {X t cz n q : Int} {hs : Int → Int → Int} {r : Int → Int} (hB : jBL S X) (hst : jSt D X t cz n hs r q) (ht : t + 100 ≤ 60000) : JM G yX7_undo cX7_undo 1 (some .int) (d + 4) (0, 0) S D [.inr (.inr (some X))] (jrP S (jUn D X (t + 100) cz n hs r q)) := by
  by_cases hn : n = 0
  · exact kX7_undo_n hB hst ht hn
  · exact kX7_undo_y hB hst ht hn
theorem kX7_restore_u {G : JG} {S : JS} {D : JD} {d : Nat} {X t cz n q : Int} {hs : Int → Int → Int} {r : Int → Int} {i : Int} (hB : jBL S X) (hz : cz = 0 ∨ cz = 1) (hst : jSt D X t cz n hs r q) (ht : t + 100 ≤ 60000) (ri : i32 i) (hi0 : ¬ (i = 0 ∨ i = 1)) : JM G yX7_restore cX7_restore 3 (some .int) (d + 5) (0, 0) S D [.inr (.inr (some X)), .inl i] (jr (.inl (-100000001)) S D) := by
  have hB0 := hB
  obtain ⟨bk, bf, bh, bs, bo, hF, hH, sk, sl, ok, ot, tk, tl⟩ := id hB
  have fk := hF.1
  have hhk := hH.1
  obtain ⟨s5, s4, hR, hI, hi⟩ := id hst
  have hc := hR.ct hI
  have b1 := hI.1
  show JX _ _ _ _ _ _ _ _ _ _ _ [_, _, _] _ _
  refine x_iload_n dX7_restore_0 rfl ?_
  refine x_if_lt (tgt := 13) dX7_restore_1 (by decide) ⟨by omega, by omega⟩ (fun hb1 => ?_) (fun hb1 => ?_)
  · refine x_ldc (e := -100000001) dX7_restore_13 ct_RX7_78 (by decide) ?_
    exact x_ireturn dX7_restore_15 rfl rfl ⟨Nat.le_refl _, Nat.le_refl _⟩ ⟨rfl, rfl, rfl⟩
  · refine x_iload_n dX7_restore_4 rfl ?_
    refine x_aload_n dX7_restore_5 rfl ?_
    refine gf_RX7_23 dX7_restore_6 rfl (by assumption) ?_
    rw [bs]
    refine x_alen (c := 15) dX7_restore_9 (by decide) (by assumption) ?_
    refine x_ic_lt (tgt := 16) dX7_restore_10 (by decide) ⟨by omega, by omega⟩ ⟨by omega, by omega⟩ (fun h => absurd h (by omega)) (fun hb10 => ?_)
    refine x_ldc (e := -100000001) dX7_restore_13 ct_RX7_78 (by decide) ?_
    exact x_ireturn dX7_restore_15 rfl rfl ⟨Nat.le_refl _, Nat.le_refl _⟩ ⟨rfl, rfl, rfl⟩
theorem kX7_restore_n {G : JG} {S : JS} {D : JD} {d : Nat} {X t cz n q : Int} {hs : Int → Int → Int} {r : Int → Int} {i : Int} (hB : jBL S X) (hz : cz = 0 ∨ cz = 1) (hst : jSt D X t cz n hs r q) (ht : t + 100 ≤ 60000) (hi0 : i = 0 ∨ i = 1) (hs0 : jR S (X + 249) i = none) : JM G yX7_restore cX7_restore 3 (some .int) (d + 5) (0, 0) S D [.inr (.inr (some X)), .inl i] (jr (.inl (-100000005)) S D) := by
  have hB0 := hB
  obtain ⟨bk, bf, bh, bs, bo, hF, hH, sk, sl, ok, ot, tk, tl⟩ := id hB
  have fk := hF.1
  have hhk := hH.1
  obtain ⟨s5, s4, hR, hI, hi⟩ := id hst
  have hc := hR.ct hI
  have b1 := hI.1
  show JX _ _ _ _ _ _ _ _ _ _ _ [_, _, _] _ _
  refine x_iload_n dX7_restore_0 rfl ?_
  refine x_if_lt (tgt := 13) dX7_restore_1 (by decide) ⟨by omega, by omega⟩ (fun h => absurd h (by omega)) (fun hb1 => ?_)
  refine x_iload_n dX7_restore_4 rfl ?_
  refine x_aload_n dX7_restore_5 rfl ?_
  refine gf_RX7_23 dX7_restore_6 rfl (by assumption) ?_
  rw [bs]
  refine x_alen (c := 15) dX7_restore_9 (by decide) (by assumption) ?_
  refine x_ic_lt (tgt := 16) dX7_restore_10 (by decide) ⟨by omega, by omega⟩ ⟨by omega, by omega⟩ (fun hb10 => ?_) (fun h => (h (by omega)).elim)
  refine x_aload_n dX7_restore_16 rfl ?_
  refine gf_RX7_23 dX7_restore_17 rfl (by assumption) ?_
  rw [bs]
  refine x_iload_n dX7_restore_20 rfl ?_
  refine x_aald (c := 15) dX7_restore_21 (by decide) rfl (by assumption) ⟨by omega, by omega⟩ ?_
  rw [hs0]
  refine x_astore_n dX7_restore_22 (by decide) ?_
  show JX _ _ _ _ _ _ _ _ _ _ _ [_, _, _] _ _
  refine x_aload_n dX7_restore_23 rfl ?_
  refine x_ifnonnull (tgt := 30) dX7_restore_24 (by decide) (fun h => absurd rfl h) (fun hb24 => ?_)
  refine x_ldc (e := -100000005) dX7_restore_27 ct_RX7_90 (by decide) ?_
  exact x_ireturn dX7_restore_29 rfl rfl ⟨Nat.le_refl _, Nat.le_refl _⟩ ⟨rfl, rfl, rfl⟩
theorem kX7_restore_y {G : JG} {S : JS} {D : JD} {d : Nat} {X t cz n q : Int} {hs : Int → Int → Int} {r : Int → Int} {i f : Int} {s : Int → Int} (hB : jBL S X) (hz : cz = 0 ∨ cz = 1) (hst : jSt D X t cz n hs r q) (ht : t + 100 ≤ 60000) (hi0 : i = 0 ∨ i = 1) (hs0 : jR S (X + 249) i = some f) (hFf : jFl S f) (hdf : f + 41 ≤ X ∨ X + 252 ≤ f) (hRf : jFR D f s) (hIf : rIn t s) : JM G yX7_restore cX7_restore 3 (some .int) (d + 5) (0, 0) S D [.inr (.inr (some X)), .inl i] (jrP S (jRs D X (t + 100) cz n hs s q r)) := by
  have hB0 := hB
  obtain ⟨bk, bf, bh, bs, bo, hF, hH, sk, sl, ok, ot, tk, tl⟩ := id hB
  have fk := hF.1
  have hhk := hH.1
  obtain ⟨s5, s4, hR, hI, hi⟩ := id hst
  have hc := hR.ct hI
  have b1 := hI.1
  have ffk := hFf.1
  show JX _ _ _ _ _ _ _ _ _ _ _ [_, _, _] _ _
  refine x_iload_n dX7_restore_0 rfl ?_
  refine x_if_lt (tgt := 13) dX7_restore_1 (by decide) ⟨by omega, by omega⟩ (fun h => absurd h (by omega)) (fun hb1 => ?_)
  refine x_iload_n dX7_restore_4 rfl ?_
  refine x_aload_n dX7_restore_5 rfl ?_
  refine gf_RX7_23 dX7_restore_6 rfl (by assumption) ?_
  rw [bs]
  refine x_alen (c := 15) dX7_restore_9 (by decide) (by assumption) ?_
  refine x_ic_lt (tgt := 16) dX7_restore_10 (by decide) ⟨by omega, by omega⟩ ⟨by omega, by omega⟩ (fun hb10 => ?_) (fun h => (h (by omega)).elim)
  refine x_aload_n dX7_restore_16 rfl ?_
  refine gf_RX7_23 dX7_restore_17 rfl (by assumption) ?_
  rw [bs]
  refine x_iload_n dX7_restore_20 rfl ?_
  refine x_aald (c := 15) dX7_restore_21 (by decide) rfl (by assumption) ⟨by omega, by omega⟩ ?_
  rw [hs0]
  refine x_astore_n dX7_restore_22 (by decide) ?_
  show JX _ _ _ _ _ _ _ _ _ _ _ [_, _, _] _ _
  refine x_aload_n dX7_restore_23 rfl ?_
  refine x_ifnonnull (tgt := 30) dX7_restore_24 (by decide) (fun hb24 => ?_) (fun h => by cases h)
  refine x_aload_n dX7_restore_30 rfl ?_
  refine c_RX7_51p dX7_restore_31 rfl (kX7_record hB hz hst) (by assumption) (Nat.le_of_ble_eq_true rfl) (Nat.le_of_ble_eq_true rfl) ⟨Nat.le_refl _, Nat.le_refl _⟩ (fun D1 h1 => ?_)
  obtain ⟨st1, x1⟩ := h1
  obtain ⟨t5, t4, hR1, hI1, hi1⟩ := id st1
  have hc1 := hR1.ct hI1
  have hRf1 := hRf.frame hIf (fun x k p q => x1 x k (by omega))
  refine x_aload_n dX7_restore_34 rfl ?_
  refine x_aload_n dX7_restore_35 rfl ?_
  refine gf_RX7_10 dX7_restore_36 rfl (by assumption) ?_
  rw [bf]
  refine c_RX7_252p dX7_restore_39 rfl (kX2_copyTo hFf hF (by omega)) (by assumption) (Nat.le_of_ble_eq_true rfl) (Nat.le_of_ble_eq_true rfl) ⟨Nat.le_refl _, Nat.le_refl _⟩ (fun D3 h9 => ?_)
  obtain ⟨cp, fr2⟩ := h9
  have hR2 := hRf1.copy hIf cp
  have g2 := hR2.1.2.2.1
  refine x_aload_n dX7_restore_42 rfl ?_
  refine gf_RX7_10 dX7_restore_43 rfl (by assumption) ?_
  rw [bf]
  refine gf_RX7_116 dX7_restore_46 rfl (by assumption) ?_
  rw [g2]
  exact x_ireturn dX7_restore_49 rfl rfl ⟨Nat.le_refl _, Nat.le_refl _⟩ ⟨rfl, _, rfl, fun x k hx => by rw [fr2 x k (by omega), x1 x k (by omega)], rfl, by rw [fr2 X 5 (by omega)]; exact t5, by rw [fr2 X 4 (by omega)]; exact t4, hR2, hIf.mono (by omega), (hi1.frame (fun x k p q => fr2 x k (by omega))).mono (by omega)⟩
def jOr (S : JS) (o : Int) : Prop := jK S o = 4 ∧ jR S o 0 = some (o + 1) ∧ jK S (o + 1) = 10 ∧ jL S (o + 1) = 60
theorem jBL.ord {S : JS} {X : Int} (h : jBL S X) : jOr S (X + 250) := by
  obtain ⟨bk, bf, bh, bs, bo, hF, hH, sk, sl, ok, ot, tk, tl⟩ := h
  exact ⟨ok, by rw [ot]; congr 1; omega, by rw [show X + 250 + 1 = X + 251 by omega]; exact tk, by rw [show X + 250 + 1 = X + 251 by omega]; exact tl⟩
theorem kX4_append_f {G : JG} {S : JS} {D : JD} {d : Nat} {o c n : Int} (hO : jOr S o) (hn : D o 1 = n) (h : n = 60) : JM G yX4_append cX4_append 2 (some .int) d (0, 0) S D [.inr (.inr (some o)), .inl c] (jr (.inl (-100000004)) S D) := by
  obtain ⟨ok, ot, tk, tl⟩ := hO
  subst h
  show JX _ _ _ _ _ _ _ _ _ _ _ [_, _] _ _
  refine x_aload_n dX4_append_0 rfl ?_
  refine gf_RX4_15 dX4_append_1 rfl (by assumption) ?_
  rw [hn]
  refine x_if_lt (tgt := 19) dX4_append_4 (by decide) ⟨by omega, by omega⟩ (fun h => absurd h (by omega)) (fun hb4 => ?_)
  refine x_aload_n dX4_append_7 rfl ?_
  refine gf_RX4_15 dX4_append_8 rfl (by assumption) ?_
  rw [hn]
  refine x_aload_n dX4_append_11 rfl ?_
  refine gf_RX4_9 dX4_append_12 rfl (by assumption) ?_
  rw [ot]
  refine x_alen (c := 10) dX4_append_15 (by decide) (by assumption) ?_
  refine x_ic_lt (tgt := 22) dX4_append_16 (by decide) ⟨by omega, by omega⟩ ⟨by omega, by omega⟩ (fun h => absurd h (by omega)) (fun hb16 => ?_)
  refine x_ldc (e := -100000004) dX4_append_19 ct_RX4_31 (by decide) ?_
  exact x_ireturn dX4_append_21 rfl rfl ⟨Nat.le_refl _, Nat.le_refl _⟩ ⟨rfl, rfl, rfl⟩
theorem kX4_append_y {G : JG} {S : JS} {D : JD} {d : Nat} {o c n : Int} (hO : jOr S o) (hn : D o 1 = n) (h0 : 0 ≤ n) (h1 : n < 60) (rc : 0 ≤ c ∧ c ≤ 65535) : JM G yX4_append cX4_append 2 (some .int) d (0, 0) S D [.inr (.inr (some o)), .inl c] (jr (.inl (n + 1)) S (jup (jup D (o + 1) n c) o 1 (n + 1))) := by
  obtain ⟨ok, ot, tk, tl⟩ := hO
  show JX _ _ _ _ _ _ _ _ _ _ _ [_, _] _ _
  refine x_aload_n dX4_append_0 rfl ?_
  refine gf_RX4_15 dX4_append_1 rfl (by assumption) ?_
  rw [hn]
  refine x_if_lt (tgt := 19) dX4_append_4 (by decide) ⟨by omega, by omega⟩ (fun h => absurd h (by omega)) (fun hb4 => ?_)
  refine x_aload_n dX4_append_7 rfl ?_
  refine gf_RX4_15 dX4_append_8 rfl (by assumption) ?_
  rw [hn]
  refine x_aload_n dX4_append_11 rfl ?_
  refine gf_RX4_9 dX4_append_12 rfl (by assumption) ?_
  rw [ot]
  refine x_alen (c := 10) dX4_append_15 (by decide) (by assumption) ?_
  refine x_ic_lt (tgt := 22) dX4_append_16 (by decide) ⟨by omega, by omega⟩ ⟨by omega, by omega⟩ (fun hb16 => ?_) (fun h => (h (by omega)).elim)
  refine x_aload_n dX4_append_22 rfl ?_
  refine gf_RX4_9 dX4_append_23 rfl (by assumption) ?_
  rw [ot]
  refine x_aload_n dX4_append_26 rfl ?_
  refine gf_RX4_15 dX4_append_27 rfl (by assumption) ?_
  rw [hn]
  refine x_iload_n dX4_append_30 rfl ?_
  refine x_cast dX4_append_31 (by assumption) ⟨by omega, by omega⟩ ⟨by omega, by omega⟩ ?_
  refine x_aload_n dX4_append_32 rfl ?_
  refine x_dup dX4_append_33 (fun _ h => by cases h) ?_
  refine gf_RX4_15 dX4_append_34 rfl (by assumption) ?_
  rw [jup_ne (show o ≠ o + 1 by omega), hn]
  refine x_iconst dX4_append_37 ?_
  refine x_iadd dX4_append_38 ?_
  refine pf_RX4_15 dX4_append_39 rfl (by assumption) ?_
  refine x_aload_n dX4_append_42 rfl ?_
  refine gf_RX4_15 dX4_append_43 rfl (by assumption) ?_
  rw [jup_eq]
  exact x_ireturn dX4_append_46 rfl rfl ⟨Nat.le_refl _, Nat.le_refl _⟩ ⟨rfl, rfl, rfl⟩
theorem kX4_removeAll {G : JG} {S : JS} {D : JD} {d : Nat} {o : Int} (hO : jOr S o) : JM G yX4_removeAll cX4_removeAll 2 (some .int) d (0, 0) S D [.inr (.inr (some o))] (jr (.inl (D o 1)) S (jup D o 1 0)) := by
  obtain ⟨ok, ot, tk, tl⟩ := hO
  show JX _ _ _ _ _ _ _ _ _ _ _ [_, _] _ _
  refine x_aload_n dX4_removeAll_0 rfl ?_
  refine gf_RX4_15 dX4_removeAll_1 rfl (by assumption) ?_
  refine x_istore_n dX4_removeAll_4 (by decide) ?_
  show JX _ _ _ _ _ _ _ _ _ _ _ [_, _] _ _
  refine x_aload_n dX4_removeAll_5 rfl ?_
  refine x_iconst dX4_removeAll_6 ?_
  refine pf_RX4_15 dX4_removeAll_7 rfl (by assumption) ?_
  refine x_iload_n dX4_removeAll_10 rfl ?_
  exact x_ireturn dX4_removeAll_11 rfl rfl ⟨Nat.le_refl _, Nat.le_refl _⟩ ⟨rfl, rfl, rfl⟩
def jTy (D : JD) (X n c : Int) : JV × JD := if n = 60 then (.inl (-100000004), D) else (.inl (n + 1), jup (jup D (X + 250 + 1) n c) (X + 250) 1 (n + 1))
theorem kX7_type_f {G : JG} {S : JS} {D : JD} {d : Nat} {X c n : Int} (hB : jBL S X) (hn : D (X + 250) 1 = n) (h : n = 60) : JM G yX7_type cX7_type 2 (some .int) (d + 1) (0, 0) S D [.inr (.inr (some X)), .inl c] (jr (.inl (-100000004)) S D) := by
  have hO := hB.ord
  obtain ⟨bk, bf, bh, bs, bo, hF, hH, sk, sl, ok, ot, tk, tl⟩ := hB
  show JX _ _ _ _ _ _ _ _ _ _ _ [_, _] _ _
  refine x_aload_n dX7_type_0 rfl ?_
  refine gf_RX7_30 dX7_type_1 rfl (by assumption) ?_
  rw [bo]
  refine x_iload_n dX7_type_4 rfl ?_
  refine c_RX7_223d dX7_type_5 rfl (kX4_append_f hO hn h) (by assumption) (Nat.le_of_ble_eq_true rfl) (Nat.le_of_ble_eq_true rfl) ⟨Nat.le_refl _, Nat.le_refl _⟩ ?_
  exact x_ireturn dX7_type_8 rfl rfl ⟨Nat.le_refl _, Nat.le_refl _⟩ ⟨rfl, rfl, rfl⟩
theorem kX7_type_y {G : JG} {S : JS} {D : JD} {d : Nat} {X c n : Int} (hB : jBL S X) (hn : D (X + 250) 1 = n) (h0 : 0 ≤ n) (h1 : n < 60) (rc : 0 ≤ c ∧ c ≤ 65535) : JM G yX7_type cX7_type 2 (some .int) (d + 1) (0, 0) S D [.inr (.inr (some X)), .inl c] (jr (.inl (n + 1)) S (jup (jup D (X + 250 + 1) n c) (X + 250) 1 (n + 1))) := by
  have hO := hB.ord
  obtain ⟨bk, bf, bh, bs, bo, hF, hH, sk, sl, ok, ot, tk, tl⟩ := hB
  show JX _ _ _ _ _ _ _ _ _ _ _ [_, _] _ _
  refine x_aload_n dX7_type_0 rfl ?_
  refine gf_RX7_30 dX7_type_1 rfl (by assumption) ?_
  rw [bo]
  refine x_iload_n dX7_type_4 rfl ?_
  refine c_RX7_223d dX7_type_5 rfl (kX4_append_y hO hn h0 h1 rc) (by assumption) (Nat.le_of_ble_eq_true rfl) (Nat.le_of_ble_eq_true rfl) ⟨Nat.le_refl _, Nat.le_refl _⟩ ?_
  exact x_ireturn dX7_type_8 rfl rfl ⟨Nat.le_refl _, Nat.le_refl _⟩ ⟨rfl, rfl, rfl⟩
theorem kX7_clearText {G : JG} {S : JS} {D : JD} {d : Nat} {X : Int} (hB : jBL S X) : JM G yX7_clearText cX7_clearText 1 (some .int) (d + 1) (0, 0) S D [.inr (.inr (some X))] (jr (.inl (D (X + 250) 1)) S (jup D (X + 250) 1 0)) := by
  have hO := hB.ord
  obtain ⟨bk, bf, bh, bs, bo, hF, hH, sk, sl, ok, ot, tk, tl⟩ := hB
  show JX _ _ _ _ _ _ _ _ _ _ _ [_] _ _
  refine x_aload_n dX7_clearText_0 rfl ?_
  refine gf_RX7_30 dX7_clearText_1 rfl (by assumption) ?_
  rw [bo]
  refine c_RX7_227d dX7_clearText_4 rfl (kX4_removeAll hO) (by assumption) (Nat.le_of_ble_eq_true rfl) (Nat.le_of_ble_eq_true rfl) ⟨Nat.le_refl _, Nat.le_refl _⟩ ?_
  exact x_ireturn dX7_clearText_7 rfl rfl ⟨Nat.le_refl _, Nat.le_refl _⟩ ⟨rfl, rfl, rfl⟩
