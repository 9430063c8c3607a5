/-! leave -/
theorem kX7_leave_u1 {G : JG} {S : JS} {D : JD} {d : Nat} {X t cz n q : Int} {hs : Int → Int → Int} {r : Int → Int} {c g : Int} (hB : jBL S X) (hz : cz = 0 ∨ cz = 1) (hst : jSt D X t cz n hs r q) (ht : t + 100 ≤ 60000)(rc : i32 c) (rg : i32 g) (h : ¬ (0 ≤ c ∧ c < r 1)) : JM G yX7_leave cX7_leave 7 (some .int) (d + 5) (0, 0) S D [.inr (.inr (some X)), .inl c, .inl g] (jrP S (jCl D X (t + 100) cz n hs r q (-100000001, none, 0))) := by
  have hB0 := hB
  obtain ⟨bk, bf, bh, bs, bo, hF, hH, sk, sl, ok, ot, tk, tl⟩ := id hB
  have fk := hF.1
  have hhk := hH.1
  obtain ⟨s5, s4, hR, hI, hi⟩ := id hst
  have hc := hR.ct hI
  have b1 := hI.1
  have n2 := hR.1.2.2.1
  have n1 := hR.1.2.1
  show JX _ _ _ _ _ _ _ _ _ _ _ [_, _, _, _, _, _, _] _ _
  refine x_aload_n dX7_leave_0 rfl ?_
  refine gf_RX7_10 dX7_leave_1 rfl (by assumption) ?_
  rw [bf]
  refine x_iload_n dX7_leave_4 rfl ?_
  refine c_RX7_159d dX7_leave_5 rfl (kX2_chamberAt_n hF hc rc (by omega)) (by assumption) (Nat.le_of_ble_eq_true rfl) (Nat.le_of_ble_eq_true rfl) ⟨Nat.le_refl _, Nat.le_refl _⟩ ?_
  refine x_astore_n dX7_leave_8 (by decide) ?_
  show JX _ _ _ _ _ _ _ _ _ _ _ [_, _, _, _, _, _, _] _ _
  refine x_aload_n dX7_leave_9 rfl ?_
  refine gf_RX7_10 dX7_leave_10 rfl (by assumption) ?_
  rw [bf]
  refine x_iload_n dX7_leave_13 rfl ?_
  refine x_iload_n dX7_leave_14 rfl ?_
  refine c_RX7_74d dX7_leave_15 rfl (kX2_sillAt hF hc rc rg) (by assumption) (Nat.le_of_ble_eq_true rfl) (Nat.le_of_ble_eq_true rfl) ⟨Nat.le_refl _, Nat.le_refl _⟩ ?_
  refine x_astore dX7_leave_18 (by decide) ?_
  show JX _ _ _ _ _ _ _ _ _ _ _ [_, _, _, _, _, _, _] _ _
  refine x_aload_n dX7_leave_20 rfl ?_
  refine x_ifnull (tgt := 29) dX7_leave_21 (by decide) (fun hb21 => ?_) (fun h => absurd rfl h)
  refine x_ldc (e := -100000001) dX7_leave_29 ct_RX7_78 (by decide) ?_
  exact x_ireturn dX7_leave_31 rfl rfl ⟨Nat.le_refl _, Nat.le_refl _⟩ ⟨rfl, _, rfl, jCl_none hst (by omega)⟩
theorem kX7_leave_u2 {G : JG} {S : JS} {D : JD} {d : Nat} {X t cz n q : Int} {hs : Int → Int → Int} {r : Int → Int} {c g : Int} (hB : jBL S X) (hz : cz = 0 ∨ cz = 1) (hst : jSt D X t cz n hs r q) (ht : t + 100 ≤ 60000)(h0 : 0 ≤ c ∧ c < r 1) (rg : i32 g) (h : ¬ (g = 0 ∨ g = 1)) : JM G yX7_leave cX7_leave 7 (some .int) (d + 5) (0, 0) S D [.inr (.inr (some X)), .inl c, .inl g] (jrP S (jCl D X (t + 100) cz n hs r q (-100000001, none, 0))) := by
  have hB0 := hB
  obtain ⟨bk, bf, bh, bs, bo, hF, hH, sk, sl, ok, ot, tk, tl⟩ := id hB
  have fk := hF.1
  have hhk := hH.1
  obtain ⟨s5, s4, hR, hI, hi⟩ := id hst
  have hc := hR.ct hI
  have b1 := hI.1
  have n2 := hR.1.2.2.1
  have n1 := hR.1.2.1
  have hsn : fSi D (X + 1) c g = none := fSi_none (by omega)
  show JX _ _ _ _ _ _ _ _ _ _ _ [_, _, _, _, _, _, _] _ _
  refine x_aload_n dX7_leave_0 rfl ?_
  refine gf_RX7_10 dX7_leave_1 rfl (by assumption) ?_
  rw [bf]
  refine x_iload_n dX7_leave_4 rfl ?_
  refine c_RX7_159d dX7_leave_5 rfl (kX2_chamberAt_y hF hc (by omega)) (by assumption) (Nat.le_of_ble_eq_true rfl) (Nat.le_of_ble_eq_true rfl) ⟨Nat.le_refl _, Nat.le_refl _⟩ ?_
  refine x_astore_n dX7_leave_8 (by decide) ?_
  show JX _ _ _ _ _ _ _ _ _ _ _ [_, _, _, _, _, _, _] _ _
  refine x_aload_n dX7_leave_9 rfl ?_
  refine gf_RX7_10 dX7_leave_10 rfl (by assumption) ?_
  rw [bf]
  refine x_iload_n dX7_leave_13 rfl ?_
  refine x_iload_n dX7_leave_14 rfl ?_
  refine c_RX7_74d dX7_leave_15 rfl (kX2_sillAt hF hc ⟨by omega, by omega⟩ rg) (by assumption) (Nat.le_of_ble_eq_true rfl) (Nat.le_of_ble_eq_true rfl) ⟨Nat.le_refl _, Nat.le_refl _⟩ ?_
  rw [hsn]
  refine x_astore dX7_leave_18 (by decide) ?_
  show JX _ _ _ _ _ _ _ _ _ _ _ [_, _, _, _, _, _, _] _ _
  refine x_aload_n dX7_leave_20 rfl ?_
  refine x_ifnull (tgt := 29) dX7_leave_21 (by decide) (fun h => by cases h) (fun hb21 => ?_)
  refine x_aload dX7_leave_24 rfl ?_
  refine x_ifnonnull (tgt := 32) dX7_leave_26 (by decide) (fun h => absurd rfl h) (fun hb26 => ?_)
  refine x_ldc (e := -100000001) dX7_leave_29 ct_RX7_78 (by decide) ?_
  exact x_ireturn dX7_leave_31 rfl rfl ⟨Nat.le_refl _, Nat.le_refl _⟩ ⟨rfl, _, rfl, jCl_none hst (by omega)⟩
theorem kX7_leave_g0 {G : JG} {S : JS} {D : JD} {d : Nat} {X t cz n q : Int} {hs : Int → Int → Int} {r : Int → Int} {c : Int} (hB : jBL S X) (hz : cz = 0 ∨ cz = 1) (hst : jSt D X t cz n hs r q) (ht : t + 100 ≤ 60000)(c0 : 0 ≤ c) (c1 : c < r 1) (hg : r (29 + 11 * c) ≠ 0) : JM G yX7_leave cX7_leave 7 (some .int) (d + 5) (0, 0) S D [.inr (.inr (some X)), .inl c, .inl 0] (jrP S (jCl D X (t + 100) cz n hs r q (-100000003, none, 2))) := by
  have hB0 := hB
  obtain ⟨bk, bf, bh, bs, bo, hF, hH, sk, sl, ok, ot, tk, tl⟩ := id hB
  have fk := hF.1
  have hhk := hH.1
  obtain ⟨s5, s4, hR, hI, hi⟩ := id hst
  have hc := hR.ct hI
  have b1 := hI.1
  have n2 := hR.1.2.2.1
  have n1 := hR.1.2.1
  have hC := (hF.2.2.2.2.2.2.2.2.2.2.2.1 c c0 (by omega)).2
  have ck := hC.1
  have wp : rPl r (100 + c) := Or.inr ⟨by omega, by omega⟩
  obtain ⟨-, wo2, wm2⟩ := hR.wat hI (by omega) wp
  have dpc := hI.dp wo2 wm2
  have co := (hI.2.2.1 c c0 c1).2
  unfold rCo at co
  have hlle := sLf_le hI c
  have hln := hI.line c0 c1
  have hgt := hI.gates c c0 c1
  obtain ⟨s5, s6, s7, s4, sr, q1, q2, q3, q4, q5, q6⟩ := (hR.2.2.1 c c0 c1).2
  have sk : jK S (X + 1 + 9 + 5 * c + 2) = 5 := hC.2.2.2.2.2.2.1
  have hss : fSi D (X + 1) c 0 = some (X + 1 + 9 + 5 * c + 2) := by unfold fSi; rw [if_pos (by omega)]; rfl
  have hhg := sHg_r hI c0 c1 (g := 0) (by omega)
  show JX _ _ _ _ _ _ _ _ _ _ _ [_, _, _, _, _, _, _] _ _
  refine x_aload_n dX7_leave_0 rfl ?_
  refine gf_RX7_10 dX7_leave_1 rfl (by assumption) ?_
  rw [bf]
  refine x_iload_n dX7_leave_4 rfl ?_
  refine c_RX7_159d dX7_leave_5 rfl (kX2_chamberAt_y hF hc (by omega)) (by assumption) (Nat.le_of_ble_eq_true rfl) (Nat.le_of_ble_eq_true rfl) ⟨Nat.le_refl _, Nat.le_refl _⟩ ?_
  refine x_astore_n dX7_leave_8 (by decide) ?_
  show JX _ _ _ _ _ _ _ _ _ _ _ [_, _, _, _, _, _, _] _ _
  refine x_aload_n dX7_leave_9 rfl ?_
  refine gf_RX7_10 dX7_leave_10 rfl (by assumption) ?_
  rw [bf]
  refine x_iload_n dX7_leave_13 rfl ?_
  refine x_iload_n dX7_leave_14 rfl ?_
  refine c_RX7_74d dX7_leave_15 rfl (kX2_sillAt hF hc ⟨by omega, by omega⟩ ⟨by omega, by omega⟩) (by assumption) (Nat.le_of_ble_eq_true rfl) (Nat.le_of_ble_eq_true rfl) ⟨Nat.le_refl _, Nat.le_refl _⟩ ?_
  rw [hss]
  refine x_astore dX7_leave_18 (by decide) ?_
  show JX _ _ _ _ _ _ _ _ _ _ _ [_, _, _, _, _, _, _] _ _
  refine x_aload_n dX7_leave_20 rfl ?_
  refine x_ifnull (tgt := 29) dX7_leave_21 (by decide) (fun h => by cases h) (fun hb21 => ?_)
  refine x_aload dX7_leave_24 rfl ?_
  refine x_ifnonnull (tgt := 32) dX7_leave_26 (by decide) (fun hb26 => ?_) (fun h => by cases h)
  refine x_aload_n dX7_leave_32 rfl ?_
  refine gf_RX7_167 dX7_leave_33 rfl (by assumption) ?_
  rw [s7]
  refine x_iload_n dX7_leave_36 rfl ?_
  refine x_ic_eq (tgt := 46) dX7_leave_37 (by decide) ⟨by split <;> omega, by split <;> omega⟩ ⟨by omega, by omega⟩ (fun h => absurd h (by split <;> omega)) (fun hb37 => ?_)
  refine x_aload_n dX7_leave_40 rfl ?_
  refine x_iconst dX7_leave_41 ?_
  refine c_RX7_105d dX7_leave_42 rfl (kX7_refuse hB0) (by assumption) (Nat.le_of_ble_eq_true rfl) (Nat.le_of_ble_eq_true rfl) ⟨Nat.le_refl _, Nat.le_refl _⟩ ?_
  exact x_ireturn dX7_leave_45 rfl rfl ⟨Nat.le_refl _, Nat.le_refl _⟩ ⟨rfl, _, rfl, jCl_ref hst (by omega) (by decide)⟩
theorem kX7_leave_n0 {G : JG} {S : JS} {D : JD} {d : Nat} {X t cz n q : Int} {hs : Int → Int → Int} {r : Int → Int} {c : Int} (hB : jBL S X) (hz : cz = 0 ∨ cz = 1) (hst : jSt D X t cz n hs r q) (ht : t + 100 ≤ 60000)(c0 : 0 ≤ c) (c1 : c < r 1) (hg : r (29 + 11 * c) = 0) (hn : r (161 + 13 * c) = 0) : JM G yX7_leave cX7_leave 7 (some .int) (d + 5) (0, 0) S D [.inr (.inr (some X)), .inl c, .inl 0] (jrP S (jCl D X (t + 100) cz n hs r q (-100000003, none, 4))) := by
  have hB0 := hB
  obtain ⟨bk, bf, bh, bs, bo, hF, hH, sk, sl, ok, ot, tk, tl⟩ := id hB
  have fk := hF.1
  have hhk := hH.1
  obtain ⟨s5, s4, hR, hI, hi⟩ := id hst
  have hc := hR.ct hI
  have b1 := hI.1
  have n2 := hR.1.2.2.1
  have n1 := hR.1.2.1
  have hC := (hF.2.2.2.2.2.2.2.2.2.2.2.1 c c0 (by omega)).2
  have ck := hC.1
  have wp : rPl r (100 + c) := Or.inr ⟨by omega, by omega⟩
  obtain ⟨-, wo2, wm2⟩ := hR.wat hI (by omega) wp
  have dpc := hI.dp wo2 wm2
  have co := (hI.2.2.1 c c0 c1).2
  unfold rCo at co
  have hlle := sLf_le hI c
  have hln := hI.line c0 c1
  have hgt := hI.gates c c0 c1
  obtain ⟨s5, s6, s7, s4, sr, q1, q2, q3, q4, q5, q6⟩ := (hR.2.2.1 c c0 c1).2
  have sk : jK S (X + 1 + 9 + 5 * c + 2) = 5 := hC.2.2.2.2.2.2.1
  have hss : fSi D (X + 1) c 0 = some (X + 1 + 9 + 5 * c + 2) := by unfold fSi; rw [if_pos (by omega)]; rfl
  have hhg := sHg_r hI c0 c1 (g := 0) (by omega)
  rw [if_neg (by omega), hg] at s7
  show JX _ _ _ _ _ _ _ _ _ _ _ [_, _, _, _, _, _, _] _ _
  refine x_aload_n dX7_leave_0 rfl ?_
  refine gf_RX7_10 dX7_leave_1 rfl (by assumption) ?_
  rw [bf]
  refine x_iload_n dX7_leave_4 rfl ?_
  refine c_RX7_159d dX7_leave_5 rfl (kX2_chamberAt_y hF hc (by omega)) (by assumption) (Nat.le_of_ble_eq_true rfl) (Nat.le_of_ble_eq_true rfl) ⟨Nat.le_refl _, Nat.le_refl _⟩ ?_
  refine x_astore_n dX7_leave_8 (by decide) ?_
  show JX _ _ _ _ _ _ _ _ _ _ _ [_, _, _, _, _, _, _] _ _
  refine x_aload_n dX7_leave_9 rfl ?_
  refine gf_RX7_10 dX7_leave_10 rfl (by assumption) ?_
  rw [bf]
  refine x_iload_n dX7_leave_13 rfl ?_
  refine x_iload_n dX7_leave_14 rfl ?_
  refine c_RX7_74d dX7_leave_15 rfl (kX2_sillAt hF hc ⟨by omega, by omega⟩ ⟨by omega, by omega⟩) (by assumption) (Nat.le_of_ble_eq_true rfl) (Nat.le_of_ble_eq_true rfl) ⟨Nat.le_refl _, Nat.le_refl _⟩ ?_
  rw [hss]
  refine x_astore dX7_leave_18 (by decide) ?_
  show JX _ _ _ _ _ _ _ _ _ _ _ [_, _, _, _, _, _, _] _ _
  refine x_aload_n dX7_leave_20 rfl ?_
  refine x_ifnull (tgt := 29) dX7_leave_21 (by decide) (fun h => by cases h) (fun hb21 => ?_)
  refine x_aload dX7_leave_24 rfl ?_
  refine x_ifnonnull (tgt := 32) dX7_leave_26 (by decide) (fun hb26 => ?_) (fun h => by cases h)
  refine x_aload_n dX7_leave_32 rfl ?_
  refine gf_RX7_167 dX7_leave_33 rfl (by assumption) ?_
  rw [s7]
  refine x_iload_n dX7_leave_36 rfl ?_
  refine x_ic_eq (tgt := 46) dX7_leave_37 (by decide) ⟨by omega, by omega⟩ ⟨by omega, by omega⟩ (fun hb37 => ?_) (fun h => (h (by omega)).elim)
  refine x_aload_n dX7_leave_46 rfl ?_
  refine x_iload_n dX7_leave_47 rfl ?_
  refine c_RX7_216d dX7_leave_48 rfl (kX1_bargeNextTo_0 hC (by omega)) (by assumption) (Nat.le_of_ble_eq_true rfl) (Nat.le_of_ble_eq_true rfl) ⟨Nat.le_refl _, Nat.le_refl _⟩ ?_
  rw [if_neg (by omega)]
  refine x_istore dX7_leave_51 (by decide) ?_
  show JX _ _ _ _ _ _ _ _ _ _ _ [_, _, _, _, _, _, _] _ _
  refine x_aload_n dX7_leave_53 rfl ?_
  refine gf_RX7_10 dX7_leave_54 rfl (by assumption) ?_
  rw [bf]
  refine x_iload dX7_leave_57 rfl ?_
  refine c_RX7_123d dX7_leave_59 rfl (kX2_bargeAt_n hF hc ⟨by omega, by omega⟩ (by omega)) (by assumption) (Nat.le_of_ble_eq_true rfl) (Nat.le_of_ble_eq_true rfl) ⟨Nat.le_refl _, Nat.le_refl _⟩ ?_
  refine x_astore dX7_leave_62 (by decide) ?_
  show JX _ _ _ _ _ _ _ _ _ _ _ [_, _, _, _, _, _, _] _ _
  refine x_aload dX7_leave_64 rfl ?_
  refine x_ifnonnull (tgt := 75) dX7_leave_66 (by decide) (fun h => absurd rfl h) (fun hb66 => ?_)
  refine x_aload_n dX7_leave_69 rfl ?_
  refine x_iconst dX7_leave_70 ?_
  refine c_RX7_105d dX7_leave_71 rfl (kX7_refuse hB0) (by assumption) (Nat.le_of_ble_eq_true rfl) (Nat.le_of_ble_eq_true rfl) ⟨Nat.le_refl _, Nat.le_refl _⟩ ?_
  exact x_ireturn dX7_leave_74 rfl rfl ⟨Nat.le_refl _, Nat.le_refl _⟩ ⟨rfl, _, rfl, jCl_ref hst (by omega) (by decide)⟩
theorem kX7_leave_a0 {G : JG} {S : JS} {D : JD} {d : Nat} {X t cz n q : Int} {hs : Int → Int → Int} {r : Int → Int} {c k : Int} (hB : jBL S X) (hz : cz = 0 ∨ cz = 1) (hst : jSt D X t cz n hs r q) (ht : t + 100 ≤ 60000)(c0 : 0 ≤ c) (c1 : c < r 1) (hg : r (29 + 11 * c) = 0) (hn : r (161 + 13 * c) ≠ 0) (hk : k = sNext r c 0) (ha : gAgr r k) : JM G yX7_leave cX7_leave 7 (some .int) (d + 5) (0, 0) S D [.inr (.inr (some X)), .inl c, .inl 0] (jrP S (jCl D X (t + 100) cz n hs r q (-100000003, none, 5))) := by
  have hB0 := hB
  obtain ⟨bk, bf, bh, bs, bo, hF, hH, sk, sl, ok, ot, tk, tl⟩ := id hB
  have fk := hF.1
  have hhk := hH.1
  obtain ⟨s5, s4, hR, hI, hi⟩ := id hst
  have hc := hR.ct hI
  have b1 := hI.1
  have n2 := hR.1.2.2.1
  have n1 := hR.1.2.1
  have hC := (hF.2.2.2.2.2.2.2.2.2.2.2.1 c c0 (by omega)).2
  have ck := hC.1
  have wp : rPl r (100 + c) := Or.inr ⟨by omega, by omega⟩
  obtain ⟨-, wo2, wm2⟩ := hR.wat hI (by omega) wp
  have dpc := hI.dp wo2 wm2
  have co := (hI.2.2.1 c c0 c1).2
  unfold rCo at co
  have hlle := sLf_le hI c
  have hln := hI.line c0 c1
  have hgt := hI.gates c c0 c1
  obtain ⟨s5, s6, s7, s4, sr, q1, q2, q3, q4, q5, q6⟩ := (hR.2.2.1 c c0 c1).2
  have sk : jK S (X + 1 + 9 + 5 * c + 2) = 5 := hC.2.2.2.2.2.2.1
  have hss : fSi D (X + 1) c 0 = some (X + 1 + 9 + 5 * c + 2) := by unfold fSi; rw [if_pos (by omega)]; rfl
  have hhg := sHg_r hI c0 c1 (g := 0) (by omega)
  rw [if_neg (by omega), hg] at s7
  obtain ⟨k0, k1, hp⟩ := hI.next (g := 0) c0 c1 hn
  rw [← hk] at k0 k1 hp
  have hnx : (if 0 < D (X + 1 + 9 + 5 * c) 4 then D (X + 1 + 9 + 5 * c + 4) 0 else -1) = k := by
    rw [if_pos (by omega), sr _ (by omega) (by omega), hk]
    unfold sNext
    first | rw [if_pos rfl, Int.add_zero] | (rw [if_neg (by decide)]; congr 1; omega)
  have bk := hF.bk hI k0 k1
  obtain ⟨e0, e1, e2, e3, e4, e5, e6, e7⟩ := hR.ba k0 k1
  obtain ⟨bp, w0, w1, i0, i1, d0, d1⟩ := hI.bw k0 k1
  have bo := hI.2.2.2.1 k k0 k1
  unfold rBo at bo
  show JX _ _ _ _ _ _ _ _ _ _ _ [_, _, _, _, _, _, _] _ _
  refine x_aload_n dX7_leave_0 rfl ?_
  refine gf_RX7_10 dX7_leave_1 rfl (by assumption) ?_
  rw [bf]
  refine x_iload_n dX7_leave_4 rfl ?_
  refine c_RX7_159d dX7_leave_5 rfl (kX2_chamberAt_y hF hc (by omega)) (by assumption) (Nat.le_of_ble_eq_true rfl) (Nat.le_of_ble_eq_true rfl) ⟨Nat.le_refl _, Nat.le_refl _⟩ ?_
  refine x_astore_n dX7_leave_8 (by decide) ?_
  show JX _ _ _ _ _ _ _ _ _ _ _ [_, _, _, _, _, _, _] _ _
  refine x_aload_n dX7_leave_9 rfl ?_
  refine gf_RX7_10 dX7_leave_10 rfl (by assumption) ?_
  rw [bf]
  refine x_iload_n dX7_leave_13 rfl ?_
  refine x_iload_n dX7_leave_14 rfl ?_
  refine c_RX7_74d dX7_leave_15 rfl (kX2_sillAt hF hc ⟨by omega, by omega⟩ ⟨by omega, by omega⟩) (by assumption) (Nat.le_of_ble_eq_true rfl) (Nat.le_of_ble_eq_true rfl) ⟨Nat.le_refl _, Nat.le_refl _⟩ ?_
  rw [hss]
  refine x_astore dX7_leave_18 (by decide) ?_
  show JX _ _ _ _ _ _ _ _ _ _ _ [_, _, _, _, _, _, _] _ _
  refine x_aload_n dX7_leave_20 rfl ?_
  refine x_ifnull (tgt := 29) dX7_leave_21 (by decide) (fun h => by cases h) (fun hb21 => ?_)
  refine x_aload dX7_leave_24 rfl ?_
  refine x_ifnonnull (tgt := 32) dX7_leave_26 (by decide) (fun hb26 => ?_) (fun h => by cases h)
  refine x_aload_n dX7_leave_32 rfl ?_
  refine gf_RX7_167 dX7_leave_33 rfl (by assumption) ?_
  rw [s7]
  refine x_iload_n dX7_leave_36 rfl ?_
  refine x_ic_eq (tgt := 46) dX7_leave_37 (by decide) ⟨by omega, by omega⟩ ⟨by omega, by omega⟩ (fun hb37 => ?_) (fun h => (h (by omega)).elim)
  refine x_aload_n dX7_leave_46 rfl ?_
  refine x_iload_n dX7_leave_47 rfl ?_
  refine c_RX7_216d dX7_leave_48 rfl (kX1_bargeNextTo_0 hC (by omega)) (by assumption) (Nat.le_of_ble_eq_true rfl) (Nat.le_of_ble_eq_true rfl) ⟨Nat.le_refl _, Nat.le_refl _⟩ ?_
  rw [hnx]
  refine x_istore dX7_leave_51 (by decide) ?_
  show JX _ _ _ _ _ _ _ _ _ _ _ [_, _, _, _, _, _, _] _ _
  refine x_aload_n dX7_leave_53 rfl ?_
  refine gf_RX7_10 dX7_leave_54 rfl (by assumption) ?_
  rw [bf]
  refine x_iload dX7_leave_57 rfl ?_
  refine c_RX7_123d dX7_leave_59 rfl (kX2_bargeAt_y hF hc (by omega)) (by assumption) (Nat.le_of_ble_eq_true rfl) (Nat.le_of_ble_eq_true rfl) ⟨Nat.le_refl _, Nat.le_refl _⟩ ?_
  refine x_astore dX7_leave_62 (by decide) ?_
  show JX _ _ _ _ _ _ _ _ _ _ _ [_, _, _, _, _, _, _] _ _
  refine x_aload dX7_leave_64 rfl ?_
  refine x_ifnonnull (tgt := 75) dX7_leave_66 (by decide) (fun hb66 => ?_) (fun h => by cases h)
  refine x_aload_n dX7_leave_75 rfl ?_
  refine gf_RX7_10 dX7_leave_76 rfl (by assumption) ?_
  rw [bf]
  refine x_aload dX7_leave_79 rfl ?_
  refine c_RX7_192d dX7_leave_81 rfl (kX2_isAground hF hR hI (by omega) k0 k1) (by assumption) (Nat.le_of_ble_eq_true rfl) (Nat.le_of_ble_eq_true rfl) ⟨Nat.le_refl _, Nat.le_refl _⟩ ?_
  refine x_if_eq (tgt := 93) dX7_leave_84 (by decide) ⟨by split <;> omega, by split <;> omega⟩ (fun h => absurd h (by rw [if_pos ha]; decide)) (fun hb84 => ?_)
  refine x_aload_n dX7_leave_87 rfl ?_
  refine x_iconst dX7_leave_88 ?_
  refine c_RX7_105d dX7_leave_89 rfl (kX7_refuse hB0) (by assumption) (Nat.le_of_ble_eq_true rfl) (Nat.le_of_ble_eq_true rfl) ⟨Nat.le_refl _, Nat.le_refl _⟩ ?_
  exact x_ireturn dX7_leave_92 rfl rfl ⟨Nat.le_refl _, Nat.le_refl _⟩ ⟨rfl, _, rfl, jCl_ref hst (by omega) (by decide)⟩
theorem kX7_leave_d0 {G : JG} {S : JS} {D : JD} {d : Nat} {X t cz n q : Int} {hs : Int → Int → Int} {r : Int → Int} {c k : Int} (hB : jBL S X) (hz : cz = 0 ∨ cz = 1) (hst : jSt D X t cz n hs r q) (ht : t + 100 ≤ 60000)(c0 : 0 ≤ c) (c1 : c < r 1) (hg : r (29 + 11 * c) = 0) (hn : r (161 + 13 * c) ≠ 0) (hk : k = sNext r c 0) (ha : ¬ gAgr r k) (hd : gDeep r k c 0) : JM G yX7_leave cX7_leave 7 (some .int) (d + 5) (0, 0) S D [.inr (.inr (some X)), .inl c, .inl 0] (jrP S (jCl D X (t + 100) cz n hs r q (-100000003, none, 7))) := by
  have hB0 := hB
  obtain ⟨bk, bf, bh, bs, bo, hF, hH, sk, sl, ok, ot, tk, tl⟩ := id hB
  have fk := hF.1
  have hhk := hH.1
  obtain ⟨s5, s4, hR, hI, hi⟩ := id hst
  have hc := hR.ct hI
  have b1 := hI.1
  have n2 := hR.1.2.2.1
  have n1 := hR.1.2.1
  have hC := (hF.2.2.2.2.2.2.2.2.2.2.2.1 c c0 (by omega)).2
  have ck := hC.1
  have wp : rPl r (100 + c) := Or.inr ⟨by omega, by omega⟩
  obtain ⟨-, wo2, wm2⟩ := hR.wat hI (by omega) wp
  have dpc := hI.dp wo2 wm2
  have co := (hI.2.2.1 c c0 c1).2
  unfold rCo at co
  have hlle := sLf_le hI c
  have hln := hI.line c0 c1
  have hgt := hI.gates c c0 c1
  obtain ⟨s5, s6, s7, s4, sr, q1, q2, q3, q4, q5, q6⟩ := (hR.2.2.1 c c0 c1).2
  have sk : jK S (X + 1 + 9 + 5 * c + 2) = 5 := hC.2.2.2.2.2.2.1
  have hss : fSi D (X + 1) c 0 = some (X + 1 + 9 + 5 * c + 2) := by unfold fSi; rw [if_pos (by omega)]; rfl
  have hhg := sHg_r hI c0 c1 (g := 0) (by omega)
  rw [if_neg (by omega), hg] at s7
  obtain ⟨k0, k1, hp⟩ := hI.next (g := 0) c0 c1 hn
  rw [← hk] at k0 k1 hp
  have hnx : (if 0 < D (X + 1 + 9 + 5 * c) 4 then D (X + 1 + 9 + 5 * c + 4) 0 else -1) = k := by
    rw [if_pos (by omega), sr _ (by omega) (by omega), hk]
    unfold sNext
    first | rw [if_pos rfl, Int.add_zero] | (rw [if_neg (by decide)]; congr 1; omega)
  have bk := hF.bk hI k0 k1
  obtain ⟨e0, e1, e2, e3, e4, e5, e6, e7⟩ := hR.ba k0 k1
  obtain ⟨bp, w0, w1, i0, i1, d0, d1⟩ := hI.bw k0 k1
  have bo := hI.2.2.2.1 k k0 k1
  unfold rBo at bo
  unfold gDeep at hd
  show JX _ _ _ _ _ _ _ _ _ _ _ [_, _, _, _, _, _, _] _ _
  refine x_aload_n dX7_leave_0 rfl ?_
  refine gf_RX7_10 dX7_leave_1 rfl (by assumption) ?_
  rw [bf]
  refine x_iload_n dX7_leave_4 rfl ?_
  refine c_RX7_159d dX7_leave_5 rfl (kX2_chamberAt_y hF hc (by omega)) (by assumption) (Nat.le_of_ble_eq_true rfl) (Nat.le_of_ble_eq_true rfl) ⟨Nat.le_refl _, Nat.le_refl _⟩ ?_
  refine x_astore_n dX7_leave_8 (by decide) ?_
  show JX _ _ _ _ _ _ _ _ _ _ _ [_, _, _, _, _, _, _] _ _
  refine x_aload_n dX7_leave_9 rfl ?_
  refine gf_RX7_10 dX7_leave_10 rfl (by assumption) ?_
  rw [bf]
  refine x_iload_n dX7_leave_13 rfl ?_
  refine x_iload_n dX7_leave_14 rfl ?_
  refine c_RX7_74d dX7_leave_15 rfl (kX2_sillAt hF hc ⟨by omega, by omega⟩ ⟨by omega, by omega⟩) (by assumption) (Nat.le_of_ble_eq_true rfl) (Nat.le_of_ble_eq_true rfl) ⟨Nat.le_refl _, Nat.le_refl _⟩ ?_
  rw [hss]
  refine x_astore dX7_leave_18 (by decide) ?_
  show JX _ _ _ _ _ _ _ _ _ _ _ [_, _, _, _, _, _, _] _ _
  refine x_aload_n dX7_leave_20 rfl ?_
  refine x_ifnull (tgt := 29) dX7_leave_21 (by decide) (fun h => by cases h) (fun hb21 => ?_)
  refine x_aload dX7_leave_24 rfl ?_
  refine x_ifnonnull (tgt := 32) dX7_leave_26 (by decide) (fun hb26 => ?_) (fun h => by cases h)
  refine x_aload_n dX7_leave_32 rfl ?_
  refine gf_RX7_167 dX7_leave_33 rfl (by assumption) ?_
  rw [s7]
  refine x_iload_n dX7_leave_36 rfl ?_
  refine x_ic_eq (tgt := 46) dX7_leave_37 (by decide) ⟨by omega, by omega⟩ ⟨by omega, by omega⟩ (fun hb37 => ?_) (fun h => (h (by omega)).elim)
  refine x_aload_n dX7_leave_46 rfl ?_
  refine x_iload_n dX7_leave_47 rfl ?_
  refine c_RX7_216d dX7_leave_48 rfl (kX1_bargeNextTo_0 hC (by omega)) (by assumption) (Nat.le_of_ble_eq_true rfl) (Nat.le_of_ble_eq_true rfl) ⟨Nat.le_refl _, Nat.le_refl _⟩ ?_
  rw [hnx]
  refine x_istore dX7_leave_51 (by decide) ?_
  show JX _ _ _ _ _ _ _ _ _ _ _ [_, _, _, _, _, _, _] _ _
  refine x_aload_n dX7_leave_53 rfl ?_
  refine gf_RX7_10 dX7_leave_54 rfl (by assumption) ?_
  rw [bf]
  refine x_iload dX7_leave_57 rfl ?_
  refine c_RX7_123d dX7_leave_59 rfl (kX2_bargeAt_y hF hc (by omega)) (by assumption) (Nat.le_of_ble_eq_true rfl) (Nat.le_of_ble_eq_true rfl) ⟨Nat.le_refl _, Nat.le_refl _⟩ ?_
  refine x_astore dX7_leave_62 (by decide) ?_
  show JX _ _ _ _ _ _ _ _ _ _ _ [_, _, _, _, _, _, _] _ _
  refine x_aload dX7_leave_64 rfl ?_
  refine x_ifnonnull (tgt := 75) dX7_leave_66 (by decide) (fun hb66 => ?_) (fun h => by cases h)
  refine x_aload_n dX7_leave_75 rfl ?_
  refine gf_RX7_10 dX7_leave_76 rfl (by assumption) ?_
  rw [bf]
  refine x_aload dX7_leave_79 rfl ?_
  refine c_RX7_192d dX7_leave_81 rfl (kX2_isAground hF hR hI (by omega) k0 k1) (by assumption) (Nat.le_of_ble_eq_true rfl) (Nat.le_of_ble_eq_true rfl) ⟨Nat.le_refl _, Nat.le_refl _⟩ ?_
  refine x_if_eq (tgt := 93) dX7_leave_84 (by decide) ⟨by split <;> omega, by split <;> omega⟩ (fun hb84 => ?_) (fun h => (h (by rw [if_neg ha])).elim)
  refine x_aload dX7_leave_93 rfl ?_
  refine c_RX7_153d dX7_leave_95 rfl (kR_draught hF hR hI k0 k1) (by assumption) (Nat.le_of_ble_eq_true rfl) (Nat.le_of_ble_eq_true rfl) ⟨Nat.le_refl _, Nat.le_refl _⟩ ?_
  refine x_i2l dX7_leave_98 ⟨by omega, by omega⟩ ?_
  refine x_aload_n dX7_leave_99 rfl ?_
  refine gf_RX7_10 dX7_leave_100 rfl (by assumption) ?_
  rw [bf]
  refine x_aload_n dX7_leave_103 rfl ?_
  refine x_aload dX7_leave_104 rfl ?_
  refine c_RX7_202d dX7_leave_106 rfl (kX2_mostDraught_0 hF hR hI (by omega) c0 c1) (by assumption) (Nat.le_of_ble_eq_true rfl) (Nat.le_of_ble_eq_true rfl) ⟨Nat.le_refl _, Nat.le_refl _⟩ ?_
  refine x_lc_le (tgt := 120) dX7_leave_109 dX7_leave_110 (by decide) ⟨by omega, by omega⟩ ⟨by omega, by omega⟩ (fun h => absurd h (by omega)) (fun hb110 => ?_)
  refine x_aload_n dX7_leave_113 rfl ?_
  refine x_bipush dX7_leave_114 (by decide) ?_
  refine c_RX7_105d dX7_leave_116 rfl (kX7_refuse hB0) (by assumption) (Nat.le_of_ble_eq_true rfl) (Nat.le_of_ble_eq_true rfl) ⟨Nat.le_refl _, Nat.le_refl _⟩ ?_
  exact x_ireturn dX7_leave_119 rfl rfl ⟨Nat.le_refl _, Nat.le_refl _⟩ ⟨rfl, _, rfl, jCl_ref hst (by omega) (by decide)⟩
theorem kX7_leave_y0 {G : JG} {S : JS} {D : JD} {d : Nat} {X t cz n q : Int} {hs : Int → Int → Int} {r : Int → Int} {c k : Int} (hB : jBL S X) (hz : cz = 0 ∨ cz = 1) (hst : jSt D X t cz n hs r q) (ht : t + 100 ≤ 60000)(c0 : 0 ≤ c) (c1 : c < r 1) (hg : r (29 + 11 * c) = 0) (hn : r (161 + 13 * c) ≠ 0) (hk : k = sNext r c 0) (ha : ¬ gAgr r k) (hd : ¬ gDeep r k c 0) : JM G yX7_leave cX7_leave 7 (some .int) (d + 5) (0, 0) S D [.inr (.inr (some X)), .inl c, .inl 0] (jrP S (jCl D X (t + 100) cz n hs r q (k, some (rLeave k c 0 r), 0))) := by
  have hB0 := hB
  obtain ⟨bk, bf, bh, bs, bo, hF, hH, sk, sl, ok, ot, tk, tl⟩ := id hB
  have fk := hF.1
  have hhk := hH.1
  obtain ⟨s5, s4, hR, hI, hi⟩ := id hst
  have hc := hR.ct hI
  have b1 := hI.1
  have n2 := hR.1.2.2.1
  have n1 := hR.1.2.1
  have hC := (hF.2.2.2.2.2.2.2.2.2.2.2.1 c c0 (by omega)).2
  have ck := hC.1
  have wp : rPl r (100 + c) := Or.inr ⟨by omega, by omega⟩
  obtain ⟨-, wo2, wm2⟩ := hR.wat hI (by omega) wp
  have dpc := hI.dp wo2 wm2
  have co := (hI.2.2.1 c c0 c1).2
  unfold rCo at co
  have hlle := sLf_le hI c
  have hln := hI.line c0 c1
  have hgt := hI.gates c c0 c1
  obtain ⟨s5, s6, s7, s4, sr, q1, q2, q3, q4, q5, q6⟩ := (hR.2.2.1 c c0 c1).2
  have sk : jK S (X + 1 + 9 + 5 * c + 2) = 5 := hC.2.2.2.2.2.2.1
  have hss : fSi D (X + 1) c 0 = some (X + 1 + 9 + 5 * c + 2) := by unfold fSi; rw [if_pos (by omega)]; rfl
  have hhg := sHg_r hI c0 c1 (g := 0) (by omega)
  rw [if_neg (by omega), hg] at s7
  obtain ⟨k0, k1, hp⟩ := hI.next (g := 0) c0 c1 hn
  rw [← hk] at k0 k1 hp
  have hnx : (if 0 < D (X + 1 + 9 + 5 * c) 4 then D (X + 1 + 9 + 5 * c + 4) 0 else -1) = k := by
    rw [if_pos (by omega), sr _ (by omega) (by omega), hk]
    unfold sNext
    first | rw [if_pos rfl, Int.add_zero] | (rw [if_neg (by decide)]; congr 1; omega)
  have bk := hF.bk hI k0 k1
  obtain ⟨e0, e1, e2, e3, e4, e5, e6, e7⟩ := hR.ba k0 k1
  obtain ⟨bp, w0, w1, i0, i1, d0, d1⟩ := hI.bw k0 k1
  have bo := hI.2.2.2.1 k k0 k1
  unfold rBo at bo
  unfold gDeep at hd
  show JX _ _ _ _ _ _ _ _ _ _ _ [_, _, _, _, _, _, _] _ _
  refine x_aload_n dX7_leave_0 rfl ?_
  refine gf_RX7_10 dX7_leave_1 rfl (by assumption) ?_
  rw [bf]
  refine x_iload_n dX7_leave_4 rfl ?_
  refine c_RX7_159d dX7_leave_5 rfl (kX2_chamberAt_y hF hc (by omega)) (by assumption) (Nat.le_of_ble_eq_true rfl) (Nat.le_of_ble_eq_true rfl) ⟨Nat.le_refl _, Nat.le_refl _⟩ ?_
  refine x_astore_n dX7_leave_8 (by decide) ?_
  show JX _ _ _ _ _ _ _ _ _ _ _ [_, _, _, _, _, _, _] _ _
  refine x_aload_n dX7_leave_9 rfl ?_
  refine gf_RX7_10 dX7_leave_10 rfl (by assumption) ?_
  rw [bf]
  refine x_iload_n dX7_leave_13 rfl ?_
  refine x_iload_n dX7_leave_14 rfl ?_
  refine c_RX7_74d dX7_leave_15 rfl (kX2_sillAt hF hc ⟨by omega, by omega⟩ ⟨by omega, by omega⟩) (by assumption) (Nat.le_of_ble_eq_true rfl) (Nat.le_of_ble_eq_true rfl) ⟨Nat.le_refl _, Nat.le_refl _⟩ ?_
  rw [hss]
  refine x_astore dX7_leave_18 (by decide) ?_
  show JX _ _ _ _ _ _ _ _ _ _ _ [_, _, _, _, _, _, _] _ _
  refine x_aload_n dX7_leave_20 rfl ?_
  refine x_ifnull (tgt := 29) dX7_leave_21 (by decide) (fun h => by cases h) (fun hb21 => ?_)
  refine x_aload dX7_leave_24 rfl ?_
  refine x_ifnonnull (tgt := 32) dX7_leave_26 (by decide) (fun hb26 => ?_) (fun h => by cases h)
  refine x_aload_n dX7_leave_32 rfl ?_
  refine gf_RX7_167 dX7_leave_33 rfl (by assumption) ?_
  rw [s7]
  refine x_iload_n dX7_leave_36 rfl ?_
  refine x_ic_eq (tgt := 46) dX7_leave_37 (by decide) ⟨by omega, by omega⟩ ⟨by omega, by omega⟩ (fun hb37 => ?_) (fun h => (h (by omega)).elim)
  refine x_aload_n dX7_leave_46 rfl ?_
  refine x_iload_n dX7_leave_47 rfl ?_
  refine c_RX7_216d dX7_leave_48 rfl (kX1_bargeNextTo_0 hC (by omega)) (by assumption) (Nat.le_of_ble_eq_true rfl) (Nat.le_of_ble_eq_true rfl) ⟨Nat.le_refl _, Nat.le_refl _⟩ ?_
  rw [hnx]
  refine x_istore dX7_leave_51 (by decide) ?_
  show JX _ _ _ _ _ _ _ _ _ _ _ [_, _, _, _, _, _, _] _ _
  refine x_aload_n dX7_leave_53 rfl ?_
  refine gf_RX7_10 dX7_leave_54 rfl (by assumption) ?_
  rw [bf]
  refine x_iload dX7_leave_57 rfl ?_
  refine c_RX7_123d dX7_leave_59 rfl (kX2_bargeAt_y hF hc (by omega)) (by assumption) (Nat.le_of_ble_eq_true rfl) (Nat.le_of_ble_eq_true rfl) ⟨Nat.le_refl _, Nat.le_refl _⟩ ?_
  refine x_astore dX7_leave_62 (by decide) ?_
  show JX _ _ _ _ _ _ _ _ _ _ _ [_, _, _, _, _, _, _] _ _
  refine x_aload dX7_leave_64 rfl ?_
  refine x_ifnonnull (tgt := 75) dX7_leave_66 (by decide) (fun hb66 => ?_) (fun h => by cases h)
  refine x_aload_n dX7_leave_75 rfl ?_
  refine gf_RX7_10 dX7_leave_76 rfl (by assumption) ?_
  rw [bf]
  refine x_aload dX7_leave_79 rfl ?_
  refine c_RX7_192d dX7_leave_81 rfl (kX2_isAground hF hR hI (by omega) k0 k1) (by assumption) (Nat.le_of_ble_eq_true rfl) (Nat.le_of_ble_eq_true rfl) ⟨Nat.le_refl _, Nat.le_refl _⟩ ?_
  refine x_if_eq (tgt := 93) dX7_leave_84 (by decide) ⟨by split <;> omega, by split <;> omega⟩ (fun hb84 => ?_) (fun h => (h (by rw [if_neg ha])).elim)
  refine x_aload dX7_leave_93 rfl ?_
  refine c_RX7_153d dX7_leave_95 rfl (kR_draught hF hR hI k0 k1) (by assumption) (Nat.le_of_ble_eq_true rfl) (Nat.le_of_ble_eq_true rfl) ⟨Nat.le_refl _, Nat.le_refl _⟩ ?_
  refine x_i2l dX7_leave_98 ⟨by omega, by omega⟩ ?_
  refine x_aload_n dX7_leave_99 rfl ?_
  refine gf_RX7_10 dX7_leave_100 rfl (by assumption) ?_
  rw [bf]
  refine x_aload_n dX7_leave_103 rfl ?_
  refine x_aload dX7_leave_104 rfl ?_
  refine c_RX7_202d dX7_leave_106 rfl (kX2_mostDraught_0 hF hR hI (by omega) c0 c1) (by assumption) (Nat.le_of_ble_eq_true rfl) (Nat.le_of_ble_eq_true rfl) ⟨Nat.le_refl _, Nat.le_refl _⟩ ?_
  refine x_lc_le (tgt := 120) dX7_leave_109 dX7_leave_110 (by decide) ⟨by omega, by omega⟩ ⟨by omega, by omega⟩ (fun hb110 => ?_) (fun h => (h (by omega)).elim)
  refine x_aload_n dX7_leave_120 rfl ?_
  refine c_RX7_51p dX7_leave_121 rfl (kX7_record hB hz hst) (by assumption) (Nat.le_of_ble_eq_true rfl) (Nat.le_of_ble_eq_true rfl) ⟨Nat.le_refl _, Nat.le_refl _⟩ (fun D1 h1 => ?_)
  obtain ⟨st1, x1⟩ := h1
  obtain ⟨t5, t4, hR1, hI1, hi1⟩ := id st1
  have hc1 := hR1.ct hI1
  obtain ⟨v0, v1, v2, v3, v4, v5, v6, v7⟩ := hR1.ba k0 k1
  obtain ⟨u5, u6, u7, u4, ur, y1, y2, y3, y4, y5, y6⟩ := (hR1.2.2.1 c c0 c1).2
  refine x_aload_n dX7_leave_124 rfl ?_
  refine x_aload dX7_leave_125 rfl ?_
  refine gf_RX7_196 dX7_leave_127 rfl (by assumption) ?_
  rw [v0]
  refine x_iload_n dX7_leave_130 rfl ?_
  refine c_RX7_219d dX7_leave_131 rfl (kX1_letOut_0 hC (by omega)) (by assumption) (Nat.le_of_ble_eq_true rfl) (Nat.le_of_ble_eq_true rfl) ⟨Nat.le_refl _, Nat.le_refl _⟩ ?_
  have fI : ∀ z : Int, (dOut D1 (X + 1 + 9 + 5 * c) (r (65 + 8 * k)) 0) (X + 1) z = D1 (X + 1) z := fun z => dOut_o (by omega) (by omega)
  have fB : ∀ z : Int, (dOut D1 (X + 1 + 9 + 5 * c) (r (65 + 8 * k)) 0) (X + 1 + 29 + k) z = D1 (X + 1 + 29 + k) z := fun z => dOut_o (by omega) (by omega)
  have hcI := hc1.fr fI
  have bp1 : rPl r (c + 0) := Or.inl ⟨by omega, by omega⟩
  have wkq : jK S (sWa (X + 1) (c + 0)) = 6 := hF.wat hI bp1
  have wkp : jK S (sWa (X + 1) (100 + c)) = 6 := hF.wat hI wp
  have ep : sWa (X + 1) (c + 0) = X + 1 + 4 + (c + 0) := by unfold sWa; rw [if_pos (by omega)]
  have eq : sWa (X + 1) (100 + c) = X + 1 + 9 + 5 * c + 1 := by unfold sWa; rw [if_neg (by omega)]; omega
  have fq : fWa (dOut D1 (X + 1 + 9 + 5 * c) (r (65 + 8 * k)) 0) (X + 1) (c + 0) = some (sWa (X + 1) (c + 0)) := by rw [fWa_fr fI]; exact hR1.watS hI1 bp1
  have fp : fWa (dOut D1 (X + 1 + 9 + 5 * c) (r (65 + 8 * k)) 0) (X + 1) (100 + c) = some (sWa (X + 1) (100 + c)) := by rw [fWa_fr fI]; exact hR1.watS hI1 wp
  have hpI : (dOut D1 (X + 1 + 9 + 5 * c) (r (65 + 8 * k)) 0) (X + 1 + 29 + k) 6 = 100 + c := by rw [fB, v6, hp]
  have hWI : (dOut D1 (X + 1 + 9 + 5 * c) (r (65 + 8 * k)) 0) (X + 1 + 29 + k) 1 + (dOut D1 (X + 1 + 9 + 5 * c) (r (65 + 8 * k)) 0) (X + 1 + 29 + k) 4 + (dOut D1 (X + 1 + 9 + 5 * c) (r (65 + 8 * k)) 0) (X + 1 + 29 + k) 5 = sW r k := by rw [fB, fB, fB, v1, v4, v5]; rfl
  refine x_aload_n dX7_leave_134 rfl ?_
  refine gf_RX7_10 dX7_leave_135 rfl (by assumption) ?_
  rw [bf]
  refine x_aload dX7_leave_138 rfl ?_
  refine x_iload_n dX7_leave_140 rfl ?_
  refine x_iload_n dX7_leave_141 rfl ?_
  refine x_iadd dX7_leave_142 ?_
  refine c_RX7_209d dX7_leave_143 rfl (kX2_move hF hcI ⟨by omega, by omega⟩ ⟨by omega, by omega⟩ bk wkp wkq hpI fp fq hWI ⟨by omega, by omega⟩ (by omega) (by omega)) (by assumption) (Nat.le_of_ble_eq_true rfl) (Nat.le_of_ble_eq_true rfl) ⟨Nat.le_refl _, Nat.le_refl _⟩ ?_
  have sp : dMv (dOut D1 (X + 1 + 9 + 5 * c) (r (65 + 8 * k)) 0) (sWa (X + 1) (100 + c)) (sWa (X + 1) (c + 0)) (X + 1 + 29 + k) (c + 0) (sW r k) (X + 1 + 9 + 5 * c + 2) 2 = r (30 + 11 * c) := by rw [dMv_o (by omega) (by omega) (by omega), dOut_o (by omega) (by omega), y5]
  refine x_aload dX7_leave_146 rfl ?_
  refine c_RX7_213d dX7_leave_148 rfl (kX5_countPassage sk (by omega) (by omega)) (by assumption) (Nat.le_of_ble_eq_true rfl) (Nat.le_of_ble_eq_true rfl) ⟨Nat.le_refl _, Nat.le_refl _⟩ ?_
  have hR2 := hR1.leave hI1 (g := 0) (cc := X + 1 + 9 + 5 * c) (sl := X + 1 + 9 + 5 * c + 2) c0 c1 (by omega) k0 k1 hp rfl (by omega) eq ep rfl
  have hI2 := (hI1.leave (g := 0) (k := k) c0 c1 (by omega) hn hk).mono (show t + 1 ≤ t + 100 by omega)
  refine x_aload_n dX7_leave_151 rfl ?_
  refine gf_RX7_10 dX7_leave_152 rfl (by assumption) ?_
  rw [bf]
  refine c_RX7_58p dX7_leave_155 rfl (kX2_settle hF hR2 hI2 (by omega)) (by assumption) (Nat.le_of_ble_eq_true rfl) (Nat.le_of_ble_eq_true rfl) ⟨Nat.le_refl _, Nat.le_refl _⟩ (fun D9 h9 => ?_)
  refine x_iload dX7_leave_158 rfl ?_
  exact x_ireturn dX7_leave_160 rfl rfl ⟨Nat.le_refl _, Nat.le_refl _⟩ ⟨rfl, _, rfl, jCl_somex x1 st1 (fun x z hx => by rw [dPass_o (by omega), dMv_o (by omega) (by omega) (by omega), dOut_o (by omega) (by omega)]) h9.2 h9.1 hI2 (by omega)⟩
theorem kX7_leave_g1 {G : JG} {S : JS} {D : JD} {d : Nat} {X t cz n q : Int} {hs : Int → Int → Int} {r : Int → Int} {c : Int} (hB : jBL S X) (hz : cz = 0 ∨ cz = 1) (hst : jSt D X t cz n hs r q) (ht : t + 100 ≤ 60000)(c0 : 0 ≤ c) (c1 : c < r 1) (hg : r (29 + 11 * c) ≠ 1) : JM G yX7_leave cX7_leave 7 (some .int) (d + 5) (0, 0) S D [.inr (.inr (some X)), .inl c, .inl 1] (jrP S (jCl D X (t + 100) cz n hs r q (-100000003, none, 2))) := by
  have hB0 := hB
  obtain ⟨bk, bf, bh, bs, bo, hF, hH, sk, sl, ok, ot, tk, tl⟩ := id hB
  have fk := hF.1
  have hhk := hH.1
  obtain ⟨s5, s4, hR, hI, hi⟩ := id hst
  have hc := hR.ct hI
  have b1 := hI.1
  have n2 := hR.1.2.2.1
  have n1 := hR.1.2.1
  have hC := (hF.2.2.2.2.2.2.2.2.2.2.2.1 c c0 (by omega)).2
  have ck := hC.1
  have wp : rPl r (100 + c) := Or.inr ⟨by omega, by omega⟩
  obtain ⟨-, wo2, wm2⟩ := hR.wat hI (by omega) wp
  have dpc := hI.dp wo2 wm2
  have co := (hI.2.2.1 c c0 c1).2
  unfold rCo at co
  have hlle := sLf_le hI c
  have hln := hI.line c0 c1
  have hgt := hI.gates c c0 c1
  obtain ⟨s5, s6, s7, s4, sr, q1, q2, q3, q4, q5, q6⟩ := (hR.2.2.1 c c0 c1).2
  have sk : jK S (X + 1 + 9 + 5 * c + 3) = 5 := hC.2.2.2.2.2.2.2.1
  have hss : fSi D (X + 1) c 1 = some (X + 1 + 9 + 5 * c + 3) := by unfold fSi; rw [if_pos (by omega)]; rfl
  have hhg := sHg_r hI c0 c1 (g := 1) (by omega)
  show JX _ _ _ _ _ _ _ _ _ _ _ [_, _, _, _, _, _, _] _ _
  refine x_aload_n dX7_leave_0 rfl ?_
  refine gf_RX7_10 dX7_leave_1 rfl (by assumption) ?_
  rw [bf]
  refine x_iload_n dX7_leave_4 rfl ?_
  refine c_RX7_159d dX7_leave_5 rfl (kX2_chamberAt_y hF hc (by omega)) (by assumption) (Nat.le_of_ble_eq_true rfl) (Nat.le_of_ble_eq_true rfl) ⟨Nat.le_refl _, Nat.le_refl _⟩ ?_
  refine x_astore_n dX7_leave_8 (by decide) ?_
  show JX _ _ _ _ _ _ _ _ _ _ _ [_, _, _, _, _, _, _] _ _
  refine x_aload_n dX7_leave_9 rfl ?_
  refine gf_RX7_10 dX7_leave_10 rfl (by assumption) ?_
  rw [bf]
  refine x_iload_n dX7_leave_13 rfl ?_
  refine x_iload_n dX7_leave_14 rfl ?_
  refine c_RX7_74d dX7_leave_15 rfl (kX2_sillAt hF hc ⟨by omega, by omega⟩ ⟨by omega, by omega⟩) (by assumption) (Nat.le_of_ble_eq_true rfl) (Nat.le_of_ble_eq_true rfl) ⟨Nat.le_refl _, Nat.le_refl _⟩ ?_
  rw [hss]
  refine x_astore dX7_leave_18 (by decide) ?_
  show JX _ _ _ _ _ _ _ _ _ _ _ [_, _, _, _, _, _, _] _ _
  refine x_aload_n dX7_leave_20 rfl ?_
  refine x_ifnull (tgt := 29) dX7_leave_21 (by decide) (fun h => by cases h) (fun hb21 => ?_)
  refine x_aload dX7_leave_24 rfl ?_
  refine x_ifnonnull (tgt := 32) dX7_leave_26 (by decide) (fun hb26 => ?_) (fun h => by cases h)
  refine x_aload_n dX7_leave_32 rfl ?_
  refine gf_RX7_167 dX7_leave_33 rfl (by assumption) ?_
  rw [s7]
  refine x_iload_n dX7_leave_36 rfl ?_
  refine x_ic_eq (tgt := 46) dX7_leave_37 (by decide) ⟨by split <;> omega, by split <;> omega⟩ ⟨by omega, by omega⟩ (fun h => absurd h (by split <;> omega)) (fun hb37 => ?_)
  refine x_aload_n dX7_leave_40 rfl ?_
  refine x_iconst dX7_leave_41 ?_
  refine c_RX7_105d dX7_leave_42 rfl (kX7_refuse hB0) (by assumption) (Nat.le_of_ble_eq_true rfl) (Nat.le_of_ble_eq_true rfl) ⟨Nat.le_refl _, Nat.le_refl _⟩ ?_
  exact x_ireturn dX7_leave_45 rfl rfl ⟨Nat.le_refl _, Nat.le_refl _⟩ ⟨rfl, _, rfl, jCl_ref hst (by omega) (by decide)⟩
theorem kX7_leave_n1 {G : JG} {S : JS} {D : JD} {d : Nat} {X t cz n q : Int} {hs : Int → Int → Int} {r : Int → Int} {c : Int} (hB : jBL S X) (hz : cz = 0 ∨ cz = 1) (hst : jSt D X t cz n hs r q) (ht : t + 100 ≤ 60000)(c0 : 0 ≤ c) (c1 : c < r 1) (hg : r (29 + 11 * c) = 1) (hn : r (161 + 13 * c) = 0) : JM G yX7_leave cX7_leave 7 (some .int) (d + 5) (0, 0) S D [.inr (.inr (some X)), .inl c, .inl 1] (jrP S (jCl D X (t + 100) cz n hs r q (-100000003, none, 4))) := by
  have hB0 := hB
  obtain ⟨bk, bf, bh, bs, bo, hF, hH, sk, sl, ok, ot, tk, tl⟩ := id hB
  have fk := hF.1
  have hhk := hH.1
  obtain ⟨s5, s4, hR, hI, hi⟩ := id hst
  have hc := hR.ct hI
  have b1 := hI.1
  have n2 := hR.1.2.2.1
  have n1 := hR.1.2.1
  have hC := (hF.2.2.2.2.2.2.2.2.2.2.2.1 c c0 (by omega)).2
  have ck := hC.1
  have wp : rPl r (100 + c) := Or.inr ⟨by omega, by omega⟩
  obtain ⟨-, wo2, wm2⟩ := hR.wat hI (by omega) wp
  have dpc := hI.dp wo2 wm2
  have co := (hI.2.2.1 c c0 c1).2
  unfold rCo at co
  have hlle := sLf_le hI c
  have hln := hI.line c0 c1
  have hgt := hI.gates c c0 c1
  obtain ⟨s5, s6, s7, s4, sr, q1, q2, q3, q4, q5, q6⟩ := (hR.2.2.1 c c0 c1).2
  have sk : jK S (X + 1 + 9 + 5 * c + 3) = 5 := hC.2.2.2.2.2.2.2.1
  have hss : fSi D (X + 1) c 1 = some (X + 1 + 9 + 5 * c + 3) := by unfold fSi; rw [if_pos (by omega)]; rfl
  have hhg := sHg_r hI c0 c1 (g := 1) (by omega)
  rw [if_neg (by omega), hg] at s7
  show JX _ _ _ _ _ _ _ _ _ _ _ [_, _, _, _, _, _, _] _ _
  refine x_aload_n dX7_leave_0 rfl ?_
  refine gf_RX7_10 dX7_leave_1 rfl (by assumption) ?_
  rw [bf]
  refine x_iload_n dX7_leave_4 rfl ?_
  refine c_RX7_159d dX7_leave_5 rfl (kX2_chamberAt_y hF hc (by omega)) (by assumption) (Nat.le_of_ble_eq_true rfl) (Nat.le_of_ble_eq_true rfl) ⟨Nat.le_refl _, Nat.le_refl _⟩ ?_
  refine x_astore_n dX7_leave_8 (by decide) ?_
  show JX _ _ _ _ _ _ _ _ _ _ _ [_, _, _, _, _, _, _] _ _
  refine x_aload_n dX7_leave_9 rfl ?_
  refine gf_RX7_10 dX7_leave_10 rfl (by assumption) ?_
  rw [bf]
  refine x_iload_n dX7_leave_13 rfl ?_
  refine x_iload_n dX7_leave_14 rfl ?_
  refine c_RX7_74d dX7_leave_15 rfl (kX2_sillAt hF hc ⟨by omega, by omega⟩ ⟨by omega, by omega⟩) (by assumption) (Nat.le_of_ble_eq_true rfl) (Nat.le_of_ble_eq_true rfl) ⟨Nat.le_refl _, Nat.le_refl _⟩ ?_
  rw [hss]
  refine x_astore dX7_leave_18 (by decide) ?_
  show JX _ _ _ _ _ _ _ _ _ _ _ [_, _, _, _, _, _, _] _ _
  refine x_aload_n dX7_leave_20 rfl ?_
  refine x_ifnull (tgt := 29) dX7_leave_21 (by decide) (fun h => by cases h) (fun hb21 => ?_)
  refine x_aload dX7_leave_24 rfl ?_
  refine x_ifnonnull (tgt := 32) dX7_leave_26 (by decide) (fun hb26 => ?_) (fun h => by cases h)
  refine x_aload_n dX7_leave_32 rfl ?_
  refine gf_RX7_167 dX7_leave_33 rfl (by assumption) ?_
  rw [s7]
  refine x_iload_n dX7_leave_36 rfl ?_
  refine x_ic_eq (tgt := 46) dX7_leave_37 (by decide) ⟨by omega, by omega⟩ ⟨by omega, by omega⟩ (fun hb37 => ?_) (fun h => (h (by omega)).elim)
  refine x_aload_n dX7_leave_46 rfl ?_
  refine x_iload_n dX7_leave_47 rfl ?_
  refine c_RX7_216d dX7_leave_48 rfl (kX1_bargeNextTo_1 hC (by omega)) (by assumption) (Nat.le_of_ble_eq_true rfl) (Nat.le_of_ble_eq_true rfl) ⟨Nat.le_refl _, Nat.le_refl _⟩ ?_
  rw [if_neg (by omega)]
  refine x_istore dX7_leave_51 (by decide) ?_
  show JX _ _ _ _ _ _ _ _ _ _ _ [_, _, _, _, _, _, _] _ _
  refine x_aload_n dX7_leave_53 rfl ?_
  refine gf_RX7_10 dX7_leave_54 rfl (by assumption) ?_
  rw [bf]
  refine x_iload dX7_leave_57 rfl ?_
  refine c_RX7_123d dX7_leave_59 rfl (kX2_bargeAt_n hF hc ⟨by omega, by omega⟩ (by omega)) (by assumption) (Nat.le_of_ble_eq_true rfl) (Nat.le_of_ble_eq_true rfl) ⟨Nat.le_refl _, Nat.le_refl _⟩ ?_
  refine x_astore dX7_leave_62 (by decide) ?_
  show JX _ _ _ _ _ _ _ _ _ _ _ [_, _, _, _, _, _, _] _ _
  refine x_aload dX7_leave_64 rfl ?_
  refine x_ifnonnull (tgt := 75) dX7_leave_66 (by decide) (fun h => absurd rfl h) (fun hb66 => ?_)
  refine x_aload_n dX7_leave_69 rfl ?_
  refine x_iconst dX7_leave_70 ?_
  refine c_RX7_105d dX7_leave_71 rfl (kX7_refuse hB0) (by assumption) (Nat.le_of_ble_eq_true rfl) (Nat.le_of_ble_eq_true rfl) ⟨Nat.le_refl _, Nat.le_refl _⟩ ?_
  exact x_ireturn dX7_leave_74 rfl rfl ⟨Nat.le_refl _, Nat.le_refl _⟩ ⟨rfl, _, rfl, jCl_ref hst (by omega) (by decide)⟩
theorem kX7_leave_a1 {G : JG} {S : JS} {D : JD} {d : Nat} {X t cz n q : Int} {hs : Int → Int → Int} {r : Int → Int} {c k : Int} (hB : jBL S X) (hz : cz = 0 ∨ cz = 1) (hst : jSt D X t cz n hs r q) (ht : t + 100 ≤ 60000)(c0 : 0 ≤ c) (c1 : c < r 1) (hg : r (29 + 11 * c) = 1) (hn : r (161 + 13 * c) ≠ 0) (hk : k = sNext r c 1) (ha : gAgr r k) : JM G yX7_leave cX7_leave 7 (some .int) (d + 5) (0, 0) S D [.inr (.inr (some X)), .inl c, .inl 1] (jrP S (jCl D X (t + 100) cz n hs r q (-100000003, none, 5))) := by
  have hB0 := hB
  obtain ⟨bk, bf, bh, bs, bo, hF, hH, sk, sl, ok, ot, tk, tl⟩ := id hB
  have fk := hF.1
  have hhk := hH.1
  obtain ⟨s5, s4, hR, hI, hi⟩ := id hst
  have hc := hR.ct hI
  have b1 := hI.1
  have n2 := hR.1.2.2.1
  have n1 := hR.1.2.1
  have hC := (hF.2.2.2.2.2.2.2.2.2.2.2.1 c c0 (by omega)).2
  have ck := hC.1
  have wp : rPl r (100 + c) := Or.inr ⟨by omega, by omega⟩
  obtain ⟨-, wo2, wm2⟩ := hR.wat hI (by omega) wp
  have dpc := hI.dp wo2 wm2
  have co := (hI.2.2.1 c c0 c1).2
  unfold rCo at co
  have hlle := sLf_le hI c
  have hln := hI.line c0 c1
  have hgt := hI.gates c c0 c1
  obtain ⟨s5, s6, s7, s4, sr, q1, q2, q3, q4, q5, q6⟩ := (hR.2.2.1 c c0 c1).2
  have sk : jK S (X + 1 + 9 + 5 * c + 3) = 5 := hC.2.2.2.2.2.2.2.1
  have hss : fSi D (X + 1) c 1 = some (X + 1 + 9 + 5 * c + 3) := by unfold fSi; rw [if_pos (by omega)]; rfl
  have hhg := sHg_r hI c0 c1 (g := 1) (by omega)
  rw [if_neg (by omega), hg] at s7
  obtain ⟨k0, k1, hp⟩ := hI.next (g := 1) c0 c1 hn
  rw [← hk] at k0 k1 hp
  have hnx : (if 0 < D (X + 1 + 9 + 5 * c) 4 then D (X + 1 + 9 + 5 * c + 4) (D (X + 1 + 9 + 5 * c) 4 - 1) else -1) = k := by
    rw [if_pos (by omega), s4, sr _ (by omega) (by omega), hk]
    unfold sNext
    first | rw [if_pos rfl, Int.add_zero] | (rw [if_neg (by decide)]; congr 1; omega)
  have bk := hF.bk hI k0 k1
  obtain ⟨e0, e1, e2, e3, e4, e5, e6, e7⟩ := hR.ba k0 k1
  obtain ⟨bp, w0, w1, i0, i1, d0, d1⟩ := hI.bw k0 k1
  have bo := hI.2.2.2.1 k k0 k1
  unfold rBo at bo
  show JX _ _ _ _ _ _ _ _ _ _ _ [_, _, _, _, _, _, _] _ _
  refine x_aload_n dX7_leave_0 rfl ?_
  refine gf_RX7_10 dX7_leave_1 rfl (by assumption) ?_
  rw [bf]
  refine x_iload_n dX7_leave_4 rfl ?_
  refine c_RX7_159d dX7_leave_5 rfl (kX2_chamberAt_y hF hc (by omega)) (by assumption) (Nat.le_of_ble_eq_true rfl) (Nat.le_of_ble_eq_true rfl) ⟨Nat.le_refl _, Nat.le_refl _⟩ ?_
  refine x_astore_n dX7_leave_8 (by decide) ?_
  show JX _ _ _ _ _ _ _ _ _ _ _ [_, _, _, _, _, _, _] _ _
  refine x_aload_n dX7_leave_9 rfl ?_
  refine gf_RX7_10 dX7_leave_10 rfl (by assumption) ?_
  rw [bf]
  refine x_iload_n dX7_leave_13 rfl ?_
  refine x_iload_n dX7_leave_14 rfl ?_
  refine c_RX7_74d dX7_leave_15 rfl (kX2_sillAt hF hc ⟨by omega, by omega⟩ ⟨by omega, by omega⟩) (by assumption) (Nat.le_of_ble_eq_true rfl) (Nat.le_of_ble_eq_true rfl) ⟨Nat.le_refl _, Nat.le_refl _⟩ ?_
  rw [hss]
  refine x_astore dX7_leave_18 (by decide) ?_
  show JX _ _ _ _ _ _ _ _ _ _ _ [_, _, _, _, _, _, _] _ _
  refine x_aload_n dX7_leave_20 rfl ?_
  refine x_ifnull (tgt := 29) dX7_leave_21 (by decide) (fun h => by cases h) (fun hb21 => ?_)
  refine x_aload dX7_leave_24 rfl ?_
  refine x_ifnonnull (tgt := 32) dX7_leave_26 (by decide) (fun hb26 => ?_) (fun h => by cases h)
  refine x_aload_n dX7_leave_32 rfl ?_
  refine gf_RX7_167 dX7_leave_33 rfl (by assumption) ?_
  rw [s7]
  refine x_iload_n dX7_leave_36 rfl ?_
  refine x_ic_eq (tgt := 46) dX7_leave_37 (by decide) ⟨by omega, by omega⟩ ⟨by omega, by omega⟩ (fun hb37 => ?_) (fun h => (h (by omega)).elim)
  refine x_aload_n dX7_leave_46 rfl ?_
  refine x_iload_n dX7_leave_47 rfl ?_
  refine c_RX7_216d dX7_leave_48 rfl (kX1_bargeNextTo_1 hC (by omega)) (by assumption) (Nat.le_of_ble_eq_true rfl) (Nat.le_of_ble_eq_true rfl) ⟨Nat.le_refl _, Nat.le_refl _⟩ ?_
  rw [hnx]
  refine x_istore dX7_leave_51 (by decide) ?_
  show JX _ _ _ _ _ _ _ _ _ _ _ [_, _, _, _, _, _, _] _ _
  refine x_aload_n dX7_leave_53 rfl ?_
  refine gf_RX7_10 dX7_leave_54 rfl (by assumption) ?_
  rw [bf]
  refine x_iload dX7_leave_57 rfl ?_
  refine c_RX7_123d dX7_leave_59 rfl (kX2_bargeAt_y hF hc (by omega)) (by assumption) (Nat.le_of_ble_eq_true rfl) (Nat.le_of_ble_eq_true rfl) ⟨Nat.le_refl _, Nat.le_refl _⟩ ?_
  refine x_astore dX7_leave_62 (by decide) ?_
  show JX _ _ _ _ _ _ _ _ _ _ _ [_, _, _, _, _, _, _] _ _
  refine x_aload dX7_leave_64 rfl ?_
  refine x_ifnonnull (tgt := 75) dX7_leave_66 (by decide) (fun hb66 => ?_) (fun h => by cases h)
  refine x_aload_n dX7_leave_75 rfl ?_
  refine gf_RX7_10 dX7_leave_76 rfl (by assumption) ?_
  rw [bf]
  refine x_aload dX7_leave_79 rfl ?_
  refine c_RX7_192d dX7_leave_81 rfl (kX2_isAground hF hR hI (by omega) k0 k1) (by assumption) (Nat.le_of_ble_eq_true rfl) (Nat.le_of_ble_eq_true rfl) ⟨Nat.le_refl _, Nat.le_refl _⟩ ?_
  refine x_if_eq (tgt := 93) dX7_leave_84 (by decide) ⟨by split <;> omega, by split <;> omega⟩ (fun h => absurd h (by rw [if_pos ha]; decide)) (fun hb84 => ?_)
  refine x_aload_n dX7_leave_87 rfl ?_
  refine x_iconst dX7_leave_88 ?_
  refine c_RX7_105d dX7_leave_89 rfl (kX7_refuse hB0) (by assumption) (Nat.le_of_ble_eq_true rfl) (Nat.le_of_ble_eq_true rfl) ⟨Nat.le_refl _, Nat.le_refl _⟩ ?_
  exact x_ireturn dX7_leave_92 rfl rfl ⟨Nat.le_refl _, Nat.le_refl _⟩ ⟨rfl, _, rfl, jCl_ref hst (by omega) (by decide)⟩
theorem kX7_leave_d1 {G : JG} {S : JS} {D : JD} {d : Nat} {X t cz n q : Int} {hs : Int → Int → Int} {r : Int → Int} {c k : Int} (hB : jBL S X) (hz : cz = 0 ∨ cz = 1) (hst : jSt D X t cz n hs r q) (ht : t + 100 ≤ 60000)(c0 : 0 ≤ c) (c1 : c < r 1) (hg : r (29 + 11 * c) = 1) (hn : r (161 + 13 * c) ≠ 0) (hk : k = sNext r c 1) (ha : ¬ gAgr r k) (hd : gDeep r k c 1) : JM G yX7_leave cX7_leave 7 (some .int) (d + 5) (0, 0) S D [.inr (.inr (some X)), .inl c, .inl 1] (jrP S (jCl D X (t + 100) cz n hs r q (-100000003, none, 7))) := by
  have hB0 := hB
  obtain ⟨bk, bf, bh, bs, bo, hF, hH, sk, sl, ok, ot, tk, tl⟩ := id hB
  have fk := hF.1
  have hhk := hH.1
  obtain ⟨s5, s4, hR, hI, hi⟩ := id hst
  have hc := hR.ct hI
  have b1 := hI.1
  have n2 := hR.1.2.2.1
  have n1 := hR.1.2.1
  have hC := (hF.2.2.2.2.2.2.2.2.2.2.2.1 c c0 (by omega)).2
  have ck := hC.1
  have wp : rPl r (100 + c) := Or.inr ⟨by omega, by omega⟩
  obtain ⟨-, wo2, wm2⟩ := hR.wat hI (by omega) wp
  have dpc := hI.dp wo2 wm2
  have co := (hI.2.2.1 c c0 c1).2
  unfold rCo at co
  have hlle := sLf_le hI c
  have hln := hI.line c0 c1
  have hgt := hI.gates c c0 c1
  obtain ⟨s5, s6, s7, s4, sr, q1, q2, q3, q4, q5, q6⟩ := (hR.2.2.1 c c0 c1).2
  have sk : jK S (X + 1 + 9 + 5 * c + 3) = 5 := hC.2.2.2.2.2.2.2.1
  have hss : fSi D (X + 1) c 1 = some (X + 1 + 9 + 5 * c + 3) := by unfold fSi; rw [if_pos (by omega)]; rfl
  have hhg := sHg_r hI c0 c1 (g := 1) (by omega)
  rw [if_neg (by omega), hg] at s7
  obtain ⟨k0, k1, hp⟩ := hI.next (g := 1) c0 c1 hn
  rw [← hk] at k0 k1 hp
  have hnx : (if 0 < D (X + 1 + 9 + 5 * c) 4 then D (X + 1 + 9 + 5 * c + 4) (D (X + 1 + 9 + 5 * c) 4 - 1) else -1) = k := by
    rw [if_pos (by omega), s4, sr _ (by omega) (by omega), hk]
    unfold sNext
    first | rw [if_pos rfl, Int.add_zero] | (rw [if_neg (by decide)]; congr 1; omega)
  have bk := hF.bk hI k0 k1
  obtain ⟨e0, e1, e2, e3, e4, e5, e6, e7⟩ := hR.ba k0 k1
  obtain ⟨bp, w0, w1, i0, i1, d0, d1⟩ := hI.bw k0 k1
  have bo := hI.2.2.2.1 k k0 k1
  unfold rBo at bo
  unfold gDeep at hd
  show JX _ _ _ _ _ _ _ _ _ _ _ [_, _, _, _, _, _, _] _ _
  refine x_aload_n dX7_leave_0 rfl ?_
  refine gf_RX7_10 dX7_leave_1 rfl (by assumption) ?_
  rw [bf]
  refine x_iload_n dX7_leave_4 rfl ?_
  refine c_RX7_159d dX7_leave_5 rfl (kX2_chamberAt_y hF hc (by omega)) (by assumption) (Nat.le_of_ble_eq_true rfl) (Nat.le_of_ble_eq_true rfl) ⟨Nat.le_refl _, Nat.le_refl _⟩ ?_
  refine x_astore_n dX7_leave_8 (by decide) ?_
  show JX _ _ _ _ _ _ _ _ _ _ _ [_, _, _, _, _, _, _] _ _
  refine x_aload_n dX7_leave_9 rfl ?_
  refine gf_RX7_10 dX7_leave_10 rfl (by assumption) ?_
  rw [bf]
  refine x_iload_n dX7_leave_13 rfl ?_
  refine x_iload_n dX7_leave_14 rfl ?_
  refine c_RX7_74d dX7_leave_15 rfl (kX2_sillAt hF hc ⟨by omega, by omega⟩ ⟨by omega, by omega⟩) (by assumption) (Nat.le_of_ble_eq_true rfl) (Nat.le_of_ble_eq_true rfl) ⟨Nat.le_refl _, Nat.le_refl _⟩ ?_
  rw [hss]
  refine x_astore dX7_leave_18 (by decide) ?_
  show JX _ _ _ _ _ _ _ _ _ _ _ [_, _, _, _, _, _, _] _ _
  refine x_aload_n dX7_leave_20 rfl ?_
  refine x_ifnull (tgt := 29) dX7_leave_21 (by decide) (fun h => by cases h) (fun hb21 => ?_)
  refine x_aload dX7_leave_24 rfl ?_
  refine x_ifnonnull (tgt := 32) dX7_leave_26 (by decide) (fun hb26 => ?_) (fun h => by cases h)
  refine x_aload_n dX7_leave_32 rfl ?_
  refine gf_RX7_167 dX7_leave_33 rfl (by assumption) ?_
  rw [s7]
  refine x_iload_n dX7_leave_36 rfl ?_
  refine x_ic_eq (tgt := 46) dX7_leave_37 (by decide) ⟨by omega, by omega⟩ ⟨by omega, by omega⟩ (fun hb37 => ?_) (fun h => (h (by omega)).elim)
  refine x_aload_n dX7_leave_46 rfl ?_
  refine x_iload_n dX7_leave_47 rfl ?_
  refine c_RX7_216d dX7_leave_48 rfl (kX1_bargeNextTo_1 hC (by omega)) (by assumption) (Nat.le_of_ble_eq_true rfl) (Nat.le_of_ble_eq_true rfl) ⟨Nat.le_refl _, Nat.le_refl _⟩ ?_
  rw [hnx]
  refine x_istore dX7_leave_51 (by decide) ?_
  show JX _ _ _ _ _ _ _ _ _ _ _ [_, _, _, _, _, _, _] _ _
  refine x_aload_n dX7_leave_53 rfl ?_
  refine gf_RX7_10 dX7_leave_54 rfl (by assumption) ?_
  rw [bf]
  refine x_iload dX7_leave_57 rfl ?_
  refine c_RX7_123d dX7_leave_59 rfl (kX2_bargeAt_y hF hc (by omega)) (by assumption) (Nat.le_of_ble_eq_true rfl) (Nat.le_of_ble_eq_true rfl) ⟨Nat.le_refl _, Nat.le_refl _⟩ ?_
  refine x_astore dX7_leave_62 (by decide) ?_
  show JX _ _ _ _ _ _ _ _ _ _ _ [_, _, _, _, _, _, _] _ _
  refine x_aload dX7_leave_64 rfl ?_
  refine x_ifnonnull (tgt := 75) dX7_leave_66 (by decide) (fun hb66 => ?_) (fun h => by cases h)
  refine x_aload_n dX7_leave_75 rfl ?_
  refine gf_RX7_10 dX7_leave_76 rfl (by assumption) ?_
  rw [bf]
  refine x_aload dX7_leave_79 rfl ?_
  refine c_RX7_192d dX7_leave_81 rfl (kX2_isAground hF hR hI (by omega) k0 k1) (by assumption) (Nat.le_of_ble_eq_true rfl) (Nat.le_of_ble_eq_true rfl) ⟨Nat.le_refl _, Nat.le_refl _⟩ ?_
  refine x_if_eq (tgt := 93) dX7_leave_84 (by decide) ⟨by split <;> omega, by split <;> omega⟩ (fun hb84 => ?_) (fun h => (h (by rw [if_neg ha])).elim)
  refine x_aload dX7_leave_93 rfl ?_
  refine c_RX7_153d dX7_leave_95 rfl (kR_draught hF hR hI k0 k1) (by assumption) (Nat.le_of_ble_eq_true rfl) (Nat.le_of_ble_eq_true rfl) ⟨Nat.le_refl _, Nat.le_refl _⟩ ?_
  refine x_i2l dX7_leave_98 ⟨by omega, by omega⟩ ?_
  refine x_aload_n dX7_leave_99 rfl ?_
  refine gf_RX7_10 dX7_leave_100 rfl (by assumption) ?_
  rw [bf]
  refine x_aload_n dX7_leave_103 rfl ?_
  refine x_aload dX7_leave_104 rfl ?_
  refine c_RX7_202d dX7_leave_106 rfl (kX2_mostDraught_1 hF hR hI (by omega) c0 c1) (by assumption) (Nat.le_of_ble_eq_true rfl) (Nat.le_of_ble_eq_true rfl) ⟨Nat.le_refl _, Nat.le_refl _⟩ ?_
  refine x_lc_le (tgt := 120) dX7_leave_109 dX7_leave_110 (by decide) ⟨by omega, by omega⟩ ⟨by omega, by omega⟩ (fun h => absurd h (by omega)) (fun hb110 => ?_)
  refine x_aload_n dX7_leave_113 rfl ?_
  refine x_bipush dX7_leave_114 (by decide) ?_
  refine c_RX7_105d dX7_leave_116 rfl (kX7_refuse hB0) (by assumption) (Nat.le_of_ble_eq_true rfl) (Nat.le_of_ble_eq_true rfl) ⟨Nat.le_refl _, Nat.le_refl _⟩ ?_
  exact x_ireturn dX7_leave_119 rfl rfl ⟨Nat.le_refl _, Nat.le_refl _⟩ ⟨rfl, _, rfl, jCl_ref hst (by omega) (by decide)⟩
theorem kX7_leave_y1 {G : JG} {S : JS} {D : JD} {d : Nat} {X t cz n q : Int} {hs : Int → Int → Int} {r : Int → Int} {c k : Int} (hB : jBL S X) (hz : cz = 0 ∨ cz = 1) (hst : jSt D X t cz n hs r q) (ht : t + 100 ≤ 60000)(c0 : 0 ≤ c) (c1 : c < r 1) (hg : r (29 + 11 * c) = 1) (hn : r (161 + 13 * c) ≠ 0) (hk : k = sNext r c 1) (ha : ¬ gAgr r k) (hd : ¬ gDeep r k c 1) : JM G yX7_leave cX7_leave 7 (some .int) (d + 5) (0, 0) S D [.inr (.inr (some X)), .inl c, .inl 1] (jrP S (jCl D X (t + 100) cz n hs r q (k, some (rLeave k c 1 r), 0))) := by
  have hB0 := hB
  obtain ⟨bk, bf, bh, bs, bo, hF, hH, sk, sl, ok, ot, tk, tl⟩ := id hB
  have fk := hF.1
  have hhk := hH.1
  obtain ⟨s5, s4, hR, hI, hi⟩ := id hst
  have hc := hR.ct hI
  have b1 := hI.1
  have n2 := hR.1.2.2.1
  have n1 := hR.1.2.1
  have hC := (hF.2.2.2.2.2.2.2.2.2.2.2.1 c c0 (by omega)).2
  have ck := hC.1
  have wp : rPl r (100 + c) := Or.inr ⟨by omega, by omega⟩
  obtain ⟨-, wo2, wm2⟩ := hR.wat hI (by omega) wp
  have dpc := hI.dp wo2 wm2
  have co := (hI.2.2.1 c c0 c1).2
  unfold rCo at co
  have hlle := sLf_le hI c
  have hln := hI.line c0 c1
  have hgt := hI.gates c c0 c1
  obtain ⟨s5, s6, s7, s4, sr, q1, q2, q3, q4, q5, q6⟩ := (hR.2.2.1 c c0 c1).2
  have sk : jK S (X + 1 + 9 + 5 * c + 3) = 5 := hC.2.2.2.2.2.2.2.1
  have hss : fSi D (X + 1) c 1 = some (X + 1 + 9 + 5 * c + 3) := by unfold fSi; rw [if_pos (by omega)]; rfl
  have hhg := sHg_r hI c0 c1 (g := 1) (by omega)
  rw [if_neg (by omega), hg] at s7
  obtain ⟨k0, k1, hp⟩ := hI.next (g := 1) c0 c1 hn
  rw [← hk] at k0 k1 hp
  have hnx : (if 0 < D (X + 1 + 9 + 5 * c) 4 then D (X + 1 + 9 + 5 * c + 4) (D (X + 1 + 9 + 5 * c) 4 - 1) else -1) = k := by
    rw [if_pos (by omega), s4, sr _ (by omega) (by omega), hk]
    unfold sNext
    first | rw [if_pos rfl, Int.add_zero] | (rw [if_neg (by decide)]; congr 1; omega)
  have bk := hF.bk hI k0 k1
  obtain ⟨e0, e1, e2, e3, e4, e5, e6, e7⟩ := hR.ba k0 k1
  obtain ⟨bp, w0, w1, i0, i1, d0, d1⟩ := hI.bw k0 k1
  have bo := hI.2.2.2.1 k k0 k1
  unfold rBo at bo
  unfold gDeep at hd
  show JX _ _ _ _ _ _ _ _ _ _ _ [_, _, _, _, _, _, _] _ _
  refine x_aload_n dX7_leave_0 rfl ?_
  refine gf_RX7_10 dX7_leave_1 rfl (by assumption) ?_
  rw [bf]
  refine x_iload_n dX7_leave_4 rfl ?_
  refine c_RX7_159d dX7_leave_5 rfl (kX2_chamberAt_y hF hc (by omega)) (by assumption) (Nat.le_of_ble_eq_true rfl) (Nat.le_of_ble_eq_true rfl) ⟨Nat.le_refl _, Nat.le_refl _⟩ ?_
  refine x_astore_n dX7_leave_8 (by decide) ?_
  show JX _ _ _ _ _ _ _ _ _ _ _ [_, _, _, _, _, _, _] _ _
  refine x_aload_n dX7_leave_9 rfl ?_
  refine gf_RX7_10 dX7_leave_10 rfl (by assumption) ?_
  rw [bf]
  refine x_iload_n dX7_leave_13 rfl ?_
  refine x_iload_n dX7_leave_14 rfl ?_
  refine c_RX7_74d dX7_leave_15 rfl (kX2_sillAt hF hc ⟨by omega, by omega⟩ ⟨by omega, by omega⟩) (by assumption) (Nat.le_of_ble_eq_true rfl) (Nat.le_of_ble_eq_true rfl) ⟨Nat.le_refl _, Nat.le_refl _⟩ ?_
  rw [hss]
  refine x_astore dX7_leave_18 (by decide) ?_
  show JX _ _ _ _ _ _ _ _ _ _ _ [_, _, _, _, _, _, _] _ _
  refine x_aload_n dX7_leave_20 rfl ?_
  refine x_ifnull (tgt := 29) dX7_leave_21 (by decide) (fun h => by cases h) (fun hb21 => ?_)
  refine x_aload dX7_leave_24 rfl ?_
  refine x_ifnonnull (tgt := 32) dX7_leave_26 (by decide) (fun hb26 => ?_) (fun h => by cases h)
  refine x_aload_n dX7_leave_32 rfl ?_
  refine gf_RX7_167 dX7_leave_33 rfl (by assumption) ?_
  rw [s7]
  refine x_iload_n dX7_leave_36 rfl ?_
  refine x_ic_eq (tgt := 46) dX7_leave_37 (by decide) ⟨by omega, by omega⟩ ⟨by omega, by omega⟩ (fun hb37 => ?_) (fun h => (h (by omega)).elim)
  refine x_aload_n dX7_leave_46 rfl ?_
  refine x_iload_n dX7_leave_47 rfl ?_
  refine c_RX7_216d dX7_leave_48 rfl (kX1_bargeNextTo_1 hC (by omega)) (by assumption) (Nat.le_of_ble_eq_true rfl) (Nat.le_of_ble_eq_true rfl) ⟨Nat.le_refl _, Nat.le_refl _⟩ ?_
  rw [hnx]
  refine x_istore dX7_leave_51 (by decide) ?_
  show JX _ _ _ _ _ _ _ _ _ _ _ [_, _, _, _, _, _, _] _ _
  refine x_aload_n dX7_leave_53 rfl ?_
  refine gf_RX7_10 dX7_leave_54 rfl (by assumption) ?_
  rw [bf]
  refine x_iload dX7_leave_57 rfl ?_
  refine c_RX7_123d dX7_leave_59 rfl (kX2_bargeAt_y hF hc (by omega)) (by assumption) (Nat.le_of_ble_eq_true rfl) (Nat.le_of_ble_eq_true rfl) ⟨Nat.le_refl _, Nat.le_refl _⟩ ?_
  refine x_astore dX7_leave_62 (by decide) ?_
  show JX _ _ _ _ _ _ _ _ _ _ _ [_, _, _, _, _, _, _] _ _
  refine x_aload dX7_leave_64 rfl ?_
  refine x_ifnonnull (tgt := 75) dX7_leave_66 (by decide) (fun hb66 => ?_) (fun h => by cases h)
  refine x_aload_n dX7_leave_75 rfl ?_
  refine gf_RX7_10 dX7_leave_76 rfl (by assumption) ?_
  rw [bf]
  refine x_aload dX7_leave_79 rfl ?_
  refine c_RX7_192d dX7_leave_81 rfl (kX2_isAground hF hR hI (by omega) k0 k1) (by assumption) (Nat.le_of_ble_eq_true rfl) (Nat.le_of_ble_eq_true rfl) ⟨Nat.le_refl _, Nat.le_refl _⟩ ?_
  refine x_if_eq (tgt := 93) dX7_leave_84 (by decide) ⟨by split <;> omega, by split <;> omega⟩ (fun hb84 => ?_) (fun h => (h (by rw [if_neg ha])).elim)
  refine x_aload dX7_leave_93 rfl ?_
  refine c_RX7_153d dX7_leave_95 rfl (kR_draught hF hR hI k0 k1) (by assumption) (Nat.le_of_ble_eq_true rfl) (Nat.le_of_ble_eq_true rfl) ⟨Nat.le_refl _, Nat.le_refl _⟩ ?_
  refine x_i2l dX7_leave_98 ⟨by omega, by omega⟩ ?_
  refine x_aload_n dX7_leave_99 rfl ?_
  refine gf_RX7_10 dX7_leave_100 rfl (by assumption) ?_
  rw [bf]
  refine x_aload_n dX7_leave_103 rfl ?_
  refine x_aload dX7_leave_104 rfl ?_
  refine c_RX7_202d dX7_leave_106 rfl (kX2_mostDraught_1 hF hR hI (by omega) c0 c1) (by assumption) (Nat.le_of_ble_eq_true rfl) (Nat.le_of_ble_eq_true rfl) ⟨Nat.le_refl _, Nat.le_refl _⟩ ?_
  refine x_lc_le (tgt := 120) dX7_leave_109 dX7_leave_110 (by decide) ⟨by omega, by omega⟩ ⟨by omega, by omega⟩ (fun hb110 => ?_) (fun h => (h (by omega)).elim)
  refine x_aload_n dX7_leave_120 rfl ?_
  refine c_RX7_51p dX7_leave_121 rfl (kX7_record hB hz hst) (by assumption) (Nat.le_of_ble_eq_true rfl) (Nat.le_of_ble_eq_true rfl) ⟨Nat.le_refl _, Nat.le_refl _⟩ (fun D1 h1 => ?_)
  obtain ⟨st1, x1⟩ := h1
  obtain ⟨t5, t4, hR1, hI1, hi1⟩ := id st1
  have hc1 := hR1.ct hI1
  obtain ⟨v0, v1, v2, v3, v4, v5, v6, v7⟩ := hR1.ba k0 k1
  obtain ⟨u5, u6, u7, u4, ur, y1, y2, y3, y4, y5, y6⟩ := (hR1.2.2.1 c c0 c1).2
  refine x_aload_n dX7_leave_124 rfl ?_
  refine x_aload dX7_leave_125 rfl ?_
  refine gf_RX7_196 dX7_leave_127 rfl (by assumption) ?_
  rw [v0]
  refine x_iload_n dX7_leave_130 rfl ?_
  refine c_RX7_219d dX7_leave_131 rfl (kX1_letOut_1 hC (by omega)) (by assumption) (Nat.le_of_ble_eq_true rfl) (Nat.le_of_ble_eq_true rfl) ⟨Nat.le_refl _, Nat.le_refl _⟩ ?_
  have fI : ∀ z : Int, (dOut D1 (X + 1 + 9 + 5 * c) (r (65 + 8 * k)) 1) (X + 1) z = D1 (X + 1) z := fun z => dOut_o (by omega) (by omega)
  have fB : ∀ z : Int, (dOut D1 (X + 1 + 9 + 5 * c) (r (65 + 8 * k)) 1) (X + 1 + 29 + k) z = D1 (X + 1 + 29 + k) z := fun z => dOut_o (by omega) (by omega)
  have hcI := hc1.fr fI
  have bp1 : rPl r (c + 1) := Or.inl ⟨by omega, by omega⟩
  have wkq : jK S (sWa (X + 1) (c + 1)) = 6 := hF.wat hI bp1
  have wkp : jK S (sWa (X + 1) (100 + c)) = 6 := hF.wat hI wp
  have ep : sWa (X + 1) (c + 1) = X + 1 + 4 + (c + 1) := by unfold sWa; rw [if_pos (by omega)]
  have eq : sWa (X + 1) (100 + c) = X + 1 + 9 + 5 * c + 1 := by unfold sWa; rw [if_neg (by omega)]; omega
  have fq : fWa (dOut D1 (X + 1 + 9 + 5 * c) (r (65 + 8 * k)) 1) (X + 1) (c + 1) = some (sWa (X + 1) (c + 1)) := by rw [fWa_fr fI]; exact hR1.watS hI1 bp1
  have fp : fWa (dOut D1 (X + 1 + 9 + 5 * c) (r (65 + 8 * k)) 1) (X + 1) (100 + c) = some (sWa (X + 1) (100 + c)) := by rw [fWa_fr fI]; exact hR1.watS hI1 wp
  have hpI : (dOut D1 (X + 1 + 9 + 5 * c) (r (65 + 8 * k)) 1) (X + 1 + 29 + k) 6 = 100 + c := by rw [fB, v6, hp]
  have hWI : (dOut D1 (X + 1 + 9 + 5 * c) (r (65 + 8 * k)) 1) (X + 1 + 29 + k) 1 + (dOut D1 (X + 1 + 9 + 5 * c) (r (65 + 8 * k)) 1) (X + 1 + 29 + k) 4 + (dOut D1 (X + 1 + 9 + 5 * c) (r (65 + 8 * k)) 1) (X + 1 + 29 + k) 5 = sW r k := by rw [fB, fB, fB, v1, v4, v5]; rfl
  refine x_aload_n dX7_leave_134 rfl ?_
  refine gf_RX7_10 dX7_leave_135 rfl (by assumption) ?_
  rw [bf]
  refine x_aload dX7_leave_138 rfl ?_
  refine x_iload_n dX7_leave_140 rfl ?_
  refine x_iload_n dX7_leave_141 rfl ?_
  refine x_iadd dX7_leave_142 ?_
  refine c_RX7_209d dX7_leave_143 rfl (kX2_move hF hcI ⟨by omega, by omega⟩ ⟨by omega, by omega⟩ bk wkp wkq hpI fp fq hWI ⟨by omega, by omega⟩ (by omega) (by omega)) (by assumption) (Nat.le_of_ble_eq_true rfl) (Nat.le_of_ble_eq_true rfl) ⟨Nat.le_refl _, Nat.le_refl _⟩ ?_
  have sp : dMv (dOut D1 (X + 1 + 9 + 5 * c) (r (65 + 8 * k)) 1) (sWa (X + 1) (100 + c)) (sWa (X + 1) (c + 1)) (X + 1 + 29 + k) (c + 1) (sW r k) (X + 1 + 9 + 5 * c + 3) 2 = r (31 + 11 * c) := by rw [dMv_o (by omega) (by omega) (by omega), dOut_o (by omega) (by omega), y6]
  refine x_aload dX7_leave_146 rfl ?_
  refine c_RX7_213d dX7_leave_148 rfl (kX5_countPassage sk (by omega) (by omega)) (by assumption) (Nat.le_of_ble_eq_true rfl) (Nat.le_of_ble_eq_true rfl) ⟨Nat.le_refl _, Nat.le_refl _⟩ ?_
  have hR2 := hR1.leave hI1 (g := 1) (cc := X + 1 + 9 + 5 * c) (sl := X + 1 + 9 + 5 * c + 3) c0 c1 (by omega) k0 k1 hp rfl (by omega) eq ep rfl
  have hI2 := (hI1.leave (g := 1) (k := k) c0 c1 (by omega) hn hk).mono (show t + 1 ≤ t + 100 by omega)
  refine x_aload_n dX7_leave_151 rfl ?_
  refine gf_RX7_10 dX7_leave_152 rfl (by assumption) ?_
  rw [bf]
  refine c_RX7_58p dX7_leave_155 rfl (kX2_settle hF hR2 hI2 (by omega)) (by assumption) (Nat.le_of_ble_eq_true rfl) (Nat.le_of_ble_eq_true rfl) ⟨Nat.le_refl _, Nat.le_refl _⟩ (fun D9 h9 => ?_)
  refine x_iload dX7_leave_158 rfl ?_
  exact x_ireturn dX7_leave_160 rfl rfl ⟨Nat.le_refl _, Nat.le_refl _⟩ ⟨rfl, _, rfl, jCl_somex x1 st1 (fun x z hx => by rw [dPass_o (by omega), dMv_o (by omega) (by omega) (by omega), dOut_o (by omega) (by omega)]) h9.2 h9.1 hI2 (by omega)⟩
theorem kX7_leave {G : JG} {S : JS} {D : JD} {d : Nat} {X t cz n q : Int} {hs : Int → Int → Int} {r : Int → Int} {c g : Int} (hB : jBL S X) (hz : cz = 0 ∨ cz = 1) (hst : jSt D X t cz n hs r q) (ht : t + 100 ≤ 60000) (rc : i32 c) (rg : i32 g) : JM G yX7_leave cX7_leave 7 (some .int) (d + 5) (0, 0) S D [.inr (.inr (some X)), .inl c, .inl g] (jrP S (jCl D X (t + 100) cz n hs r q (zLeave c g r))) := by
  unfold zLeave
  by_cases hc : 0 ≤ c ∧ c < r 1
  · by_cases hg : g = 0 ∨ g = 1
    · rw [if_pos ⟨hc, hg⟩]
      obtain ⟨c0, c1⟩ := hc
      rcases hg with rfl | rfl
      · by_cases hg : r (29 + 11 * c) = 0
        · rw [if_neg (fun z => z hg)]
          by_cases hn : r (161 + 13 * c) = 0
          · rw [if_pos hn]; exact kX7_leave_n0 hB hz hst ht c0 c1 hg hn
          · rw [if_neg hn]
            by_cases ha : gAgr r (sNext r c 0)
            · rw [if_pos ha]; exact kX7_leave_a0 hB hz hst ht c0 c1 hg hn rfl ha
            · rw [if_neg ha]
              by_cases hd : gDeep r (sNext r c 0) c 0
              · rw [if_pos hd]; exact kX7_leave_d0 hB hz hst ht c0 c1 hg hn rfl ha hd
              · rw [if_neg hd]; exact kX7_leave_y0 hB hz hst ht c0 c1 hg hn rfl ha hd
        · rw [if_pos hg]; exact kX7_leave_g0 hB hz hst ht c0 c1 hg
      · by_cases hg : r (29 + 11 * c) = 1
        · rw [if_neg (fun z => z hg)]
          by_cases hn : r (161 + 13 * c) = 0
          · rw [if_pos hn]; exact kX7_leave_n1 hB hz hst ht c0 c1 hg hn
          · rw [if_neg hn]
            by_cases ha : gAgr r (sNext r c 1)
            · rw [if_pos ha]; exact kX7_leave_a1 hB hz hst ht c0 c1 hg hn rfl ha
            · rw [if_neg ha]
              by_cases hd : gDeep r (sNext r c 1) c 1
              · rw [if_pos hd]; exact kX7_leave_d1 hB hz hst ht c0 c1 hg hn rfl ha hd
              · rw [if_neg hd]; exact kX7_leave_y1 hB hz hst ht c0 c1 hg hn rfl ha hd
        · rw [if_pos hg]; exact kX7_leave_g1 hB hz hst ht c0 c1 hg
    · rw [if_neg (fun z => hg z.2)]; exact kX7_leave_u2 hB hz hst ht hc rg hg
  · rw [if_neg (fun z => hc z.1)]; exact kX7_leave_u1 hB hz hst ht rc rg hc
