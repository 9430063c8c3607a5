/-! enter, leave -/
abbrev gAgr (r : Int → Int) (k : Int) : Prop := sDp r (r (71 + 8 * k)) < sDr r k
abbrev gDeep (r : Int → Int) (k c g : Int) : Prop := sLv r (100 + c) - sHg r c g - r 3 < sDr r k
def zEnter (k c : Int) (r : Int → Int) : Zr :=
  if (0 ≤ k ∧ k < r 2) ∧ (0 ≤ c ∧ c < r 1) then
    if r (29 + 11 * c) < 0 then (-100000003, none, 2)
    else if r (71 + 8 * k) ≠ c + r (29 + 11 * c) then (-100000003, none, 4)
    else if gAgr r k then (-100000003, none, 5)
    else if sLf r c < r (65 + 8 * k) then (-100000003, none, 6)
    else if gDeep r k c (r (29 + 11 * c)) then (-100000003, none, 7)
    else (sLf (rEnter k c (r (29 + 11 * c)) r) c, some (rEnter k c (r (29 + 11 * c)) r), 0)
  else (-100000001, none, 0)
def zLeave (c g : Int) (r : Int → Int) : Zr :=
  if (0 ≤ c ∧ c < r 1) ∧ (g = 0 ∨ g = 1) then
    if r (29 + 11 * c) ≠ g then (-100000003, none, 2)
    else if r (161 + 13 * c) = 0 then (-100000003, none, 4)
    else if gAgr r (sNext r c g) then (-100000003, none, 5)
    else if gDeep r (sNext r c g) c g then (-100000003, none, 7)
    else (sNext r c g, some (rLeave (sNext r c g) c g r), 0)
  else (-100000001, none, 0)
theorem sLf_all {t : Int} {r : Int → Int} (hI : rIn t r) {c : Int} (h0 : 0 ≤ c) (h1 : c < r 1) : sLf (sAll r) c = sLf r c := by
  have b1 := hI.1
  refine sLf_w (hI.keep (by omega)) (fun b x y => ⟨hI.keep (by omega), hI.keep (by omega)⟩) c ?_
  exact sAllN_keep _ _ (by omega) (fun i _ _ => by omega) (fun c _ _ => by omega) (fun c x y => hI.gates c x (by omega))
theorem sLf_le {t : Int} {r : Int → Int} (hI : rIn t r) (c : Int) : sLf r c ≤ r (24 + 11 * c) := by
  have b1 := hI.1
  have := jsum_nonneg (f := fun b => if r (71 + 8 * b) = 100 + c then r (65 + 8 * b) else 0) (n := (r 2).toNat) (fun k x y => by
    have g := hI.2.2.2.1 k x (by omega)
    unfold rBo at g
    show 0 ≤ (if r (71 + 8 * k) = 100 + c then r (65 + 8 * k) else 0)
    split <;> omega)
  unfold sLf
  omega
theorem sHg_r {t : Int} {r : Int → Int} (hI : rIn t r) {c g : Int} (h0 : 0 ≤ c) (h1 : c < r 1) (hg : g = 0 ∨ g = 1) : 0 ≤ sHg r c g ∧ sHg r c g ≤ 5000 + t := by
  have co := (hI.2.2.1 c h0 h1).2
  unfold rCo at co
  unfold sHg
  rcases hg with rfl | rfl
  · rw [Int.add_zero, Int.add_zero]; omega
  · rw [show 25 + 11 * c + 1 = 26 + 11 * c by omega, show 27 + 11 * c + 1 = 28 + 11 * c by omega]; omega
theorem kX7_enter_u1 {G : JG} {S : JS} {D : JD} {d : Nat} {X t cz n q : Int} {hs : Int → Int → Int} {r : Int → Int} {k c : Int} (hB : jBL S X) (hz : cz = 0 ∨ cz = 1) (hst : jSt D X t cz n hs r q) (ht : t + 100 ≤ 60000)(rk : i32 k) (rc : i32 c) (h : ¬ (0 ≤ k ∧ k < r 2)) : JM G yX7_enter cX7_enter 6 (some .int) (d + 5) (0, 0) S D [.inr (.inr (some X)), .inl k, .inl c] (jrP S (jCl D X (t + 100) cz n hs r q (-100000001, none, 0))) := by
  have hB0 := hB
  obtain ⟨bk, bf, bh, bs, bo, hF, hH, sk, sl, ok, ot, tk, tl⟩ := id hB
  have fk := hF.1
  have hhk := hH.1
  obtain ⟨s5, s4, hR, hI, hi⟩ := id hst
  have hc := hR.ct hI
  have b1 := hI.1
  have n2 := hR.1.2.2.1
  have n1 := hR.1.2.1
  show JX _ _ _ _ _ _ _ _ _ _ _ [_, _, _, _, _, _] _ _
  refine x_aload_n dX7_enter_0 rfl ?_
  refine gf_RX7_10 dX7_enter_1 rfl (by assumption) ?_
  rw [bf]
  refine x_iload_n dX7_enter_4 rfl ?_
  refine c_RX7_123d dX7_enter_5 rfl (kX2_bargeAt_n hF hc rk (by omega)) (by assumption) (Nat.le_of_ble_eq_true rfl) (Nat.le_of_ble_eq_true rfl) ⟨Nat.le_refl _, Nat.le_refl _⟩ ?_
  refine x_astore_n dX7_enter_8 (by decide) ?_
  show JX _ _ _ _ _ _ _ _ _ _ _ [_, _, _, _, _, _] _ _
  refine x_aload_n dX7_enter_9 rfl ?_
  refine gf_RX7_10 dX7_enter_10 rfl (by assumption) ?_
  rw [bf]
  refine x_iload_n dX7_enter_13 rfl ?_
  refine c_RX7_159d dX7_enter_14 rfl (kX2_chamberAt hF hc rc) (by assumption) (Nat.le_of_ble_eq_true rfl) (Nat.le_of_ble_eq_true rfl) ⟨Nat.le_refl _, Nat.le_refl _⟩ ?_
  refine x_astore dX7_enter_17 (by decide) ?_
  show JX _ _ _ _ _ _ _ _ _ _ _ [_, _, _, _, _, _] _ _
  refine x_aload_n dX7_enter_19 rfl ?_
  refine x_ifnull (tgt := 28) dX7_enter_20 (by decide) (fun hb20 => ?_) (fun h => absurd rfl h)
  refine x_ldc (e := -100000001) dX7_enter_28 ct_RX7_78 (by decide) ?_
  exact x_ireturn dX7_enter_30 rfl rfl ⟨Nat.le_refl _, Nat.le_refl _⟩ ⟨rfl, _, rfl, jCl_none hst (by omega)⟩
theorem kX7_enter_u2 {G : JG} {S : JS} {D : JD} {d : Nat} {X t cz n q : Int} {hs : Int → Int → Int} {r : Int → Int} {k c : Int} (hB : jBL S X) (hz : cz = 0 ∨ cz = 1) (hst : jSt D X t cz n hs r q) (ht : t + 100 ≤ 60000)(h0 : 0 ≤ k ∧ k < r 2) (rc : i32 c) (h : ¬ (0 ≤ c ∧ c < r 1)) : JM G yX7_enter cX7_enter 6 (some .int) (d + 5) (0, 0) S D [.inr (.inr (some X)), .inl k, .inl c] (jrP S (jCl D X (t + 100) cz n hs r q (-100000001, none, 0))) := by
  have hB0 := hB
  obtain ⟨bk, bf, bh, bs, bo, hF, hH, sk, sl, ok, ot, tk, tl⟩ := id hB
  have fk := hF.1
  have hhk := hH.1
  obtain ⟨s5, s4, hR, hI, hi⟩ := id hst
  have hc := hR.ct hI
  have b1 := hI.1
  have n2 := hR.1.2.2.1
  have n1 := hR.1.2.1
  show JX _ _ _ _ _ _ _ _ _ _ _ [_, _, _, _, _, _] _ _
  refine x_aload_n dX7_enter_0 rfl ?_
  refine gf_RX7_10 dX7_enter_1 rfl (by assumption) ?_
  rw [bf]
  refine x_iload_n dX7_enter_4 rfl ?_
  refine c_RX7_123d dX7_enter_5 rfl (kX2_bargeAt_y hF hc (by omega)) (by assumption) (Nat.le_of_ble_eq_true rfl) (Nat.le_of_ble_eq_true rfl) ⟨Nat.le_refl _, Nat.le_refl _⟩ ?_
  refine x_astore_n dX7_enter_8 (by decide) ?_
  show JX _ _ _ _ _ _ _ _ _ _ _ [_, _, _, _, _, _] _ _
  refine x_aload_n dX7_enter_9 rfl ?_
  refine gf_RX7_10 dX7_enter_10 rfl (by assumption) ?_
  rw [bf]
  refine x_iload_n dX7_enter_13 rfl ?_
  refine c_RX7_159d dX7_enter_14 rfl (kX2_chamberAt_n hF hc rc (by omega)) (by assumption) (Nat.le_of_ble_eq_true rfl) (Nat.le_of_ble_eq_true rfl) ⟨Nat.le_refl _, Nat.le_refl _⟩ ?_
  refine x_astore dX7_enter_17 (by decide) ?_
  show JX _ _ _ _ _ _ _ _ _ _ _ [_, _, _, _, _, _] _ _
  refine x_aload_n dX7_enter_19 rfl ?_
  refine x_ifnull (tgt := 28) dX7_enter_20 (by decide) (fun h => by cases h) (fun hb20 => ?_)
  refine x_aload dX7_enter_23 rfl ?_
  refine x_ifnonnull (tgt := 31) dX7_enter_25 (by decide) (fun h => absurd rfl h) (fun hb25 => ?_)
  refine x_ldc (e := -100000001) dX7_enter_28 ct_RX7_78 (by decide) ?_
  exact x_ireturn dX7_enter_30 rfl rfl ⟨Nat.le_refl _, Nat.le_refl _⟩ ⟨rfl, _, rfl, jCl_none hst (by omega)⟩
theorem kX7_enter_g {G : JG} {S : JS} {D : JD} {d : Nat} {X t cz n q : Int} {hs : Int → Int → Int} {r : Int → Int} {k c : Int} (hB : jBL S X) (hz : cz = 0 ∨ cz = 1) (hst : jSt D X t cz n hs r q) (ht : t + 100 ≤ 60000)(k0 : 0 ≤ k) (k1 : k < r 2) (c0 : 0 ≤ c) (c1 : c < r 1) (h : r (29 + 11 * c) < 0) : JM G yX7_enter cX7_enter 6 (some .int) (d + 5) (0, 0) S D [.inr (.inr (some X)), .inl k, .inl c] (jrP S (jCl D X (t + 100) cz n hs r q (-100000003, none, 2))) := by
  have hB0 := hB
  obtain ⟨bk, bf, bh, bs, bo, hF, hH, sk, sl, ok, ot, tk, tl⟩ := id hB
  have fk := hF.1
  have hhk := hH.1
  obtain ⟨s5, s4, hR, hI, hi⟩ := id hst
  have hc := hR.ct hI
  have b1 := hI.1
  have n2 := hR.1.2.2.1
  have n1 := hR.1.2.1
  have bk := hF.bk hI k0 k1
  obtain ⟨e0, e1, e2, e3, e4, e5, e6, e7⟩ := hR.ba k0 k1
  obtain ⟨bp, w0, w1, i0, i1, d0, d1⟩ := hI.bw k0 k1
  have bl := bp.lin hI (X + 1)
  obtain ⟨wr, wo, wm⟩ := hR.wat hI (by omega) bp
  have dpb := hI.dp wo wm
  have bo := hI.2.2.2.1 k k0 k1
  unfold rBo at bo
  have hC := (hF.2.2.2.2.2.2.2.2.2.2.2.1 c c0 (by omega)).2
  have ck := hC.1
  have wp : rPl r (100 + c) := Or.inr ⟨by omega, by omega⟩
  obtain ⟨-, wo2, wm2⟩ := hR.wat hI (by omega) wp
  have dpc := hI.dp wo2 wm2
  have co := (hI.2.2.1 c c0 c1).2
  unfold rCo at co
  have hlle := sLf_le hI c
  obtain ⟨s5, s6, s7, s4, sr, q1, q2, q3, q4, q5, q6⟩ := (hR.2.2.1 c c0 c1).2
  rw [if_pos (by omega)] at s7
  show JX _ _ _ _ _ _ _ _ _ _ _ [_, _, _, _, _, _] _ _
  refine x_aload_n dX7_enter_0 rfl ?_
  refine gf_RX7_10 dX7_enter_1 rfl (by assumption) ?_
  rw [bf]
  refine x_iload_n dX7_enter_4 rfl ?_
  refine c_RX7_123d dX7_enter_5 rfl (kX2_bargeAt_y hF hc (by omega)) (by assumption) (Nat.le_of_ble_eq_true rfl) (Nat.le_of_ble_eq_true rfl) ⟨Nat.le_refl _, Nat.le_refl _⟩ ?_
  refine x_astore_n dX7_enter_8 (by decide) ?_
  show JX _ _ _ _ _ _ _ _ _ _ _ [_, _, _, _, _, _] _ _
  refine x_aload_n dX7_enter_9 rfl ?_
  refine gf_RX7_10 dX7_enter_10 rfl (by assumption) ?_
  rw [bf]
  refine x_iload_n dX7_enter_13 rfl ?_
  refine c_RX7_159d dX7_enter_14 rfl (kX2_chamberAt_y hF hc (by omega)) (by assumption) (Nat.le_of_ble_eq_true rfl) (Nat.le_of_ble_eq_true rfl) ⟨Nat.le_refl _, Nat.le_refl _⟩ ?_
  refine x_astore dX7_enter_17 (by decide) ?_
  show JX _ _ _ _ _ _ _ _ _ _ _ [_, _, _, _, _, _] _ _
  refine x_aload_n dX7_enter_19 rfl ?_
  refine x_ifnull (tgt := 28) dX7_enter_20 (by decide) (fun h => by cases h) (fun hb20 => ?_)
  refine x_aload dX7_enter_23 rfl ?_
  refine x_ifnonnull (tgt := 31) dX7_enter_25 (by decide) (fun hb25 => ?_) (fun h => by cases h)
  refine x_aload dX7_enter_31 rfl ?_
  refine x_aload dX7_enter_33 rfl ?_
  refine gf_RX7_167 dX7_enter_35 rfl (by assumption) ?_
  rw [s7]
  refine c_RX7_188d dX7_enter_38 rfl (kX1_sillOf_n hC ⟨by omega, by omega⟩ (by omega)) (by assumption) (Nat.le_of_ble_eq_true rfl) (Nat.le_of_ble_eq_true rfl) ⟨Nat.le_refl _, Nat.le_refl _⟩ ?_
  refine x_astore dX7_enter_41 (by decide) ?_
  show JX _ _ _ _ _ _ _ _ _ _ _ [_, _, _, _, _, _] _ _
  refine x_aload dX7_enter_43 rfl ?_
  refine x_ifnonnull (tgt := 54) dX7_enter_45 (by decide) (fun h => absurd rfl h) (fun hb45 => ?_)
  refine x_aload_n dX7_enter_48 rfl ?_
  refine x_iconst dX7_enter_49 ?_
  refine c_RX7_105d dX7_enter_50 rfl (kX7_refuse hB0) (by assumption) (Nat.le_of_ble_eq_true rfl) (Nat.le_of_ble_eq_true rfl) ⟨Nat.le_refl _, Nat.le_refl _⟩ ?_
  exact x_ireturn dX7_enter_53 rfl rfl ⟨Nat.le_refl _, Nat.le_refl _⟩ ⟨rfl, _, rfl, jCl_ref hst (by omega) (by decide)⟩
theorem kX7_enter_p0 {G : JG} {S : JS} {D : JD} {d : Nat} {X t cz n q : Int} {hs : Int → Int → Int} {r : Int → Int} {k c : Int} (hB : jBL S X) (hz : cz = 0 ∨ cz = 1) (hst : jSt D X t cz n hs r q) (ht : t + 100 ≤ 60000)(k0 : 0 ≤ k) (k1 : k < r 2) (c0 : 0 ≤ c) (c1 : c < r 1) (hg : r (29 + 11 * c) = 0) (hp : r (71 + 8 * k) ≠ c + 0) : JM G yX7_enter cX7_enter 6 (some .int) (d + 5) (0, 0) S D [.inr (.inr (some X)), .inl k, .inl c] (jrP S (jCl D X (t + 100) cz n hs r q (-100000003, none, 4))) := by
  have hB0 := hB
  obtain ⟨bk, bf, bh, bs, bo, hF, hH, sk, sl, ok, ot, tk, tl⟩ := id hB
  have fk := hF.1
  have hhk := hH.1
  obtain ⟨s5, s4, hR, hI, hi⟩ := id hst
  have hc := hR.ct hI
  have b1 := hI.1
  have n2 := hR.1.2.2.1
  have n1 := hR.1.2.1
  have bk := hF.bk hI k0 k1
  obtain ⟨e0, e1, e2, e3, e4, e5, e6, e7⟩ := hR.ba k0 k1
  obtain ⟨bp, w0, w1, i0, i1, d0, d1⟩ := hI.bw k0 k1
  have bl := bp.lin hI (X + 1)
  obtain ⟨wr, wo, wm⟩ := hR.wat hI (by omega) bp
  have dpb := hI.dp wo wm
  have bo := hI.2.2.2.1 k k0 k1
  unfold rBo at bo
  have hC := (hF.2.2.2.2.2.2.2.2.2.2.2.1 c c0 (by omega)).2
  have ck := hC.1
  have wp : rPl r (100 + c) := Or.inr ⟨by omega, by omega⟩
  obtain ⟨-, wo2, wm2⟩ := hR.wat hI (by omega) wp
  have dpc := hI.dp wo2 wm2
  have co := (hI.2.2.1 c c0 c1).2
  unfold rCo at co
  have hlle := sLf_le hI c
  obtain ⟨s5, s6, s7, s4, sr, q1, q2, q3, q4, q5, q6⟩ := (hR.2.2.1 c c0 c1).2
  rw [if_neg (by omega), hg] at s7
  have sk : jK S (X + 1 + 9 + 5 * c + 2) = 5 := hC.2.2.2.2.2.2.1
  have hhg := sHg_r hI c0 c1 (g := 0) (by omega)
  show JX _ _ _ _ _ _ _ _ _ _ _ [_, _, _, _, _, _] _ _
  refine x_aload_n dX7_enter_0 rfl ?_
  refine gf_RX7_10 dX7_enter_1 rfl (by assumption) ?_
  rw [bf]
  refine x_iload_n dX7_enter_4 rfl ?_
  refine c_RX7_123d dX7_enter_5 rfl (kX2_bargeAt_y hF hc (by omega)) (by assumption) (Nat.le_of_ble_eq_true rfl) (Nat.le_of_ble_eq_true rfl) ⟨Nat.le_refl _, Nat.le_refl _⟩ ?_
  refine x_astore_n dX7_enter_8 (by decide) ?_
  show JX _ _ _ _ _ _ _ _ _ _ _ [_, _, _, _, _, _] _ _
  refine x_aload_n dX7_enter_9 rfl ?_
  refine gf_RX7_10 dX7_enter_10 rfl (by assumption) ?_
  rw [bf]
  refine x_iload_n dX7_enter_13 rfl ?_
  refine c_RX7_159d dX7_enter_14 rfl (kX2_chamberAt_y hF hc (by omega)) (by assumption) (Nat.le_of_ble_eq_true rfl) (Nat.le_of_ble_eq_true rfl) ⟨Nat.le_refl _, Nat.le_refl _⟩ ?_
  refine x_astore dX7_enter_17 (by decide) ?_
  show JX _ _ _ _ _ _ _ _ _ _ _ [_, _, _, _, _, _] _ _
  refine x_aload_n dX7_enter_19 rfl ?_
  refine x_ifnull (tgt := 28) dX7_enter_20 (by decide) (fun h => by cases h) (fun hb20 => ?_)
  refine x_aload dX7_enter_23 rfl ?_
  refine x_ifnonnull (tgt := 31) dX7_enter_25 (by decide) (fun hb25 => ?_) (fun h => by cases h)
  refine x_aload dX7_enter_31 rfl ?_
  refine x_aload dX7_enter_33 rfl ?_
  refine gf_RX7_167 dX7_enter_35 rfl (by assumption) ?_
  rw [s7]
  refine c_RX7_188d dX7_enter_38 rfl (kX1_sillOf_0 hC) (by assumption) (Nat.le_of_ble_eq_true rfl) (Nat.le_of_ble_eq_true rfl) ⟨Nat.le_refl _, Nat.le_refl _⟩ ?_
  refine x_astore dX7_enter_41 (by decide) ?_
  show JX _ _ _ _ _ _ _ _ _ _ _ [_, _, _, _, _, _] _ _
  refine x_aload dX7_enter_43 rfl ?_
  refine x_ifnonnull (tgt := 54) dX7_enter_45 (by decide) (fun hb45 => ?_) (fun h => by cases h)
  refine x_aload_n dX7_enter_54 rfl ?_
  refine gf_RX7_131 dX7_enter_55 rfl (by assumption) ?_
  rw [e6]
  refine x_iload_n dX7_enter_58 rfl ?_
  refine x_aload dX7_enter_59 rfl ?_
  refine gf_RX7_167 dX7_enter_61 rfl (by assumption) ?_
  rw [s7]
  refine x_iadd dX7_enter_64 ?_
  refine x_ic_eq (tgt := 74) dX7_enter_65 (by decide) ⟨by omega, by omega⟩ ⟨by omega, by omega⟩ (fun h => absurd h (by omega)) (fun hb65 => ?_)
  refine x_aload_n dX7_enter_68 rfl ?_
  refine x_iconst dX7_enter_69 ?_
  refine c_RX7_105d dX7_enter_70 rfl (kX7_refuse hB0) (by assumption) (Nat.le_of_ble_eq_true rfl) (Nat.le_of_ble_eq_true rfl) ⟨Nat.le_refl _, Nat.le_refl _⟩ ?_
  exact x_ireturn dX7_enter_73 rfl rfl ⟨Nat.le_refl _, Nat.le_refl _⟩ ⟨rfl, _, rfl, jCl_ref hst (by omega) (by decide)⟩
theorem kX7_enter_a0 {G : JG} {S : JS} {D : JD} {d : Nat} {X t cz n q : Int} {hs : Int → Int → Int} {r : Int → Int} {k c : Int} (hB : jBL S X) (hz : cz = 0 ∨ cz = 1) (hst : jSt D X t cz n hs r q) (ht : t + 100 ≤ 60000)(k0 : 0 ≤ k) (k1 : k < r 2) (c0 : 0 ≤ c) (c1 : c < r 1) (hg : r (29 + 11 * c) = 0) (hp : r (71 + 8 * k) = c + 0) (ha : gAgr r k) : JM G yX7_enter cX7_enter 6 (some .int) (d + 5) (0, 0) S D [.inr (.inr (some X)), .inl k, .inl c] (jrP S (jCl D X (t + 100) cz n hs r q (-100000003, none, 5))) := by
  have hB0 := hB
  obtain ⟨bk, bf, bh, bs, bo, hF, hH, sk, sl, ok, ot, tk, tl⟩ := id hB
  have fk := hF.1
  have hhk := hH.1
  obtain ⟨s5, s4, hR, hI, hi⟩ := id hst
  have hc := hR.ct hI
  have b1 := hI.1
  have n2 := hR.1.2.2.1
  have n1 := hR.1.2.1
  have bk := hF.bk hI k0 k1
  obtain ⟨e0, e1, e2, e3, e4, e5, e6, e7⟩ := hR.ba k0 k1
  obtain ⟨bp, w0, w1, i0, i1, d0, d1⟩ := hI.bw k0 k1
  have bl := bp.lin hI (X + 1)
  obtain ⟨wr, wo, wm⟩ := hR.wat hI (by omega) bp
  have dpb := hI.dp wo wm
  have bo := hI.2.2.2.1 k k0 k1
  unfold rBo at bo
  have hC := (hF.2.2.2.2.2.2.2.2.2.2.2.1 c c0 (by omega)).2
  have ck := hC.1
  have wp : rPl r (100 + c) := Or.inr ⟨by omega, by omega⟩
  obtain ⟨-, wo2, wm2⟩ := hR.wat hI (by omega) wp
  have dpc := hI.dp wo2 wm2
  have co := (hI.2.2.1 c c0 c1).2
  unfold rCo at co
  have hlle := sLf_le hI c
  obtain ⟨s5, s6, s7, s4, sr, q1, q2, q3, q4, q5, q6⟩ := (hR.2.2.1 c c0 c1).2
  rw [if_neg (by omega), hg] at s7
  have sk : jK S (X + 1 + 9 + 5 * c + 2) = 5 := hC.2.2.2.2.2.2.1
  have hhg := sHg_r hI c0 c1 (g := 0) (by omega)
  show JX _ _ _ _ _ _ _ _ _ _ _ [_, _, _, _, _, _] _ _
  refine x_aload_n dX7_enter_0 rfl ?_
  refine gf_RX7_10 dX7_enter_1 rfl (by assumption) ?_
  rw [bf]
  refine x_iload_n dX7_enter_4 rfl ?_
  refine c_RX7_123d dX7_enter_5 rfl (kX2_bargeAt_y hF hc (by omega)) (by assumption) (Nat.le_of_ble_eq_true rfl) (Nat.le_of_ble_eq_true rfl) ⟨Nat.le_refl _, Nat.le_refl _⟩ ?_
  refine x_astore_n dX7_enter_8 (by decide) ?_
  show JX _ _ _ _ _ _ _ _ _ _ _ [_, _, _, _, _, _] _ _
  refine x_aload_n dX7_enter_9 rfl ?_
  refine gf_RX7_10 dX7_enter_10 rfl (by assumption) ?_
  rw [bf]
  refine x_iload_n dX7_enter_13 rfl ?_
  refine c_RX7_159d dX7_enter_14 rfl (kX2_chamberAt_y hF hc (by omega)) (by assumption) (Nat.le_of_ble_eq_true rfl) (Nat.le_of_ble_eq_true rfl) ⟨Nat.le_refl _, Nat.le_refl _⟩ ?_
  refine x_astore dX7_enter_17 (by decide) ?_
  show JX _ _ _ _ _ _ _ _ _ _ _ [_, _, _, _, _, _] _ _
  refine x_aload_n dX7_enter_19 rfl ?_
  refine x_ifnull (tgt := 28) dX7_enter_20 (by decide) (fun h => by cases h) (fun hb20 => ?_)
  refine x_aload dX7_enter_23 rfl ?_
  refine x_ifnonnull (tgt := 31) dX7_enter_25 (by decide) (fun hb25 => ?_) (fun h => by cases h)
  refine x_aload dX7_enter_31 rfl ?_
  refine x_aload dX7_enter_33 rfl ?_
  refine gf_RX7_167 dX7_enter_35 rfl (by assumption) ?_
  rw [s7]
  refine c_RX7_188d dX7_enter_38 rfl (kX1_sillOf_0 hC) (by assumption) (Nat.le_of_ble_eq_true rfl) (Nat.le_of_ble_eq_true rfl) ⟨Nat.le_refl _, Nat.le_refl _⟩ ?_
  refine x_astore dX7_enter_41 (by decide) ?_
  show JX _ _ _ _ _ _ _ _ _ _ _ [_, _, _, _, _, _] _ _
  refine x_aload dX7_enter_43 rfl ?_
  refine x_ifnonnull (tgt := 54) dX7_enter_45 (by decide) (fun hb45 => ?_) (fun h => by cases h)
  refine x_aload_n dX7_enter_54 rfl ?_
  refine gf_RX7_131 dX7_enter_55 rfl (by assumption) ?_
  rw [e6]
  refine x_iload_n dX7_enter_58 rfl ?_
  refine x_aload dX7_enter_59 rfl ?_
  refine gf_RX7_167 dX7_enter_61 rfl (by assumption) ?_
  rw [s7]
  refine x_iadd dX7_enter_64 ?_
  refine x_ic_eq (tgt := 74) dX7_enter_65 (by decide) ⟨by omega, by omega⟩ ⟨by omega, by omega⟩ (fun hb65 => ?_) (fun h => (h (by omega)).elim)
  refine x_aload_n dX7_enter_74 rfl ?_
  refine gf_RX7_10 dX7_enter_75 rfl (by assumption) ?_
  rw [bf]
  refine x_aload_n dX7_enter_78 rfl ?_
  refine c_RX7_192d dX7_enter_79 rfl (kX2_isAground hF hR hI (by omega) k0 k1) (by assumption) (Nat.le_of_ble_eq_true rfl) (Nat.le_of_ble_eq_true rfl) ⟨Nat.le_refl _, Nat.le_refl _⟩ ?_
  refine x_if_eq (tgt := 91) dX7_enter_82 (by decide) ⟨by split <;> omega, by split <;> omega⟩ (fun h => absurd h (by rw [if_pos ha]; decide)) (fun hb82 => ?_)
  refine x_aload_n dX7_enter_85 rfl ?_
  refine x_iconst dX7_enter_86 ?_
  refine c_RX7_105d dX7_enter_87 rfl (kX7_refuse hB0) (by assumption) (Nat.le_of_ble_eq_true rfl) (Nat.le_of_ble_eq_true rfl) ⟨Nat.le_refl _, Nat.le_refl _⟩ ?_
  exact x_ireturn dX7_enter_90 rfl rfl ⟨Nat.le_refl _, Nat.le_refl _⟩ ⟨rfl, _, rfl, jCl_ref hst (by omega) (by decide)⟩
theorem kX7_enter_l0 {G : JG} {S : JS} {D : JD} {d : Nat} {X t cz n q : Int} {hs : Int → Int → Int} {r : Int → Int} {k c : Int} (hB : jBL S X) (hz : cz = 0 ∨ cz = 1) (hst : jSt D X t cz n hs r q) (ht : t + 100 ≤ 60000)(k0 : 0 ≤ k) (k1 : k < r 2) (c0 : 0 ≤ c) (c1 : c < r 1) (hg : r (29 + 11 * c) = 0) (hp : r (71 + 8 * k) = c + 0) (ha : ¬ gAgr r k) (hl : sLf r c < r (65 + 8 * k)) : JM G yX7_enter cX7_enter 6 (some .int) (d + 5) (0, 0) S D [.inr (.inr (some X)), .inl k, .inl c] (jrP S (jCl D X (t + 100) cz n hs r q (-100000003, none, 6))) := by
  have hB0 := hB
  obtain ⟨bk, bf, bh, bs, bo, hF, hH, sk, sl, ok, ot, tk, tl⟩ := id hB
  have fk := hF.1
  have hhk := hH.1
  obtain ⟨s5, s4, hR, hI, hi⟩ := id hst
  have hc := hR.ct hI
  have b1 := hI.1
  have n2 := hR.1.2.2.1
  have n1 := hR.1.2.1
  have bk := hF.bk hI k0 k1
  obtain ⟨e0, e1, e2, e3, e4, e5, e6, e7⟩ := hR.ba k0 k1
  obtain ⟨bp, w0, w1, i0, i1, d0, d1⟩ := hI.bw k0 k1
  have bl := bp.lin hI (X + 1)
  obtain ⟨wr, wo, wm⟩ := hR.wat hI (by omega) bp
  have dpb := hI.dp wo wm
  have bo := hI.2.2.2.1 k k0 k1
  unfold rBo at bo
  have hC := (hF.2.2.2.2.2.2.2.2.2.2.2.1 c c0 (by omega)).2
  have ck := hC.1
  have wp : rPl r (100 + c) := Or.inr ⟨by omega, by omega⟩
  obtain ⟨-, wo2, wm2⟩ := hR.wat hI (by omega) wp
  have dpc := hI.dp wo2 wm2
  have co := (hI.2.2.1 c c0 c1).2
  unfold rCo at co
  have hlle := sLf_le hI c
  obtain ⟨s5, s6, s7, s4, sr, q1, q2, q3, q4, q5, q6⟩ := (hR.2.2.1 c c0 c1).2
  rw [if_neg (by omega), hg] at s7
  have sk : jK S (X + 1 + 9 + 5 * c + 2) = 5 := hC.2.2.2.2.2.2.1
  have hhg := sHg_r hI c0 c1 (g := 0) (by omega)
  show JX _ _ _ _ _ _ _ _ _ _ _ [_, _, _, _, _, _] _ _
  refine x_aload_n dX7_enter_0 rfl ?_
  refine gf_RX7_10 dX7_enter_1 rfl (by assumption) ?_
  rw [bf]
  refine x_iload_n dX7_enter_4 rfl ?_
  refine c_RX7_123d dX7_enter_5 rfl (kX2_bargeAt_y hF hc (by omega)) (by assumption) (Nat.le_of_ble_eq_true rfl) (Nat.le_of_ble_eq_true rfl) ⟨Nat.le_refl _, Nat.le_refl _⟩ ?_
  refine x_astore_n dX7_enter_8 (by decide) ?_
  show JX _ _ _ _ _ _ _ _ _ _ _ [_, _, _, _, _, _] _ _
  refine x_aload_n dX7_enter_9 rfl ?_
  refine gf_RX7_10 dX7_enter_10 rfl (by assumption) ?_
  rw [bf]
  refine x_iload_n dX7_enter_13 rfl ?_
  refine c_RX7_159d dX7_enter_14 rfl (kX2_chamberAt_y hF hc (by omega)) (by assumption) (Nat.le_of_ble_eq_true rfl) (Nat.le_of_ble_eq_true rfl) ⟨Nat.le_refl _, Nat.le_refl _⟩ ?_
  refine x_astore dX7_enter_17 (by decide) ?_
  show JX _ _ _ _ _ _ _ _ _ _ _ [_, _, _, _, _, _] _ _
  refine x_aload_n dX7_enter_19 rfl ?_
  refine x_ifnull (tgt := 28) dX7_enter_20 (by decide) (fun h => by cases h) (fun hb20 => ?_)
  refine x_aload dX7_enter_23 rfl ?_
  refine x_ifnonnull (tgt := 31) dX7_enter_25 (by decide) (fun hb25 => ?_) (fun h => by cases h)
  refine x_aload dX7_enter_31 rfl ?_
  refine x_aload dX7_enter_33 rfl ?_
  refine gf_RX7_167 dX7_enter_35 rfl (by assumption) ?_
  rw [s7]
  refine c_RX7_188d dX7_enter_38 rfl (kX1_sillOf_0 hC) (by assumption) (Nat.le_of_ble_eq_true rfl) (Nat.le_of_ble_eq_true rfl) ⟨Nat.le_refl _, Nat.le_refl _⟩ ?_
  refine x_astore dX7_enter_41 (by decide) ?_
  show JX _ _ _ _ _ _ _ _ _ _ _ [_, _, _, _, _, _] _ _
  refine x_aload dX7_enter_43 rfl ?_
  refine x_ifnonnull (tgt := 54) dX7_enter_45 (by decide) (fun hb45 => ?_) (fun h => by cases h)
  refine x_aload_n dX7_enter_54 rfl ?_
  refine gf_RX7_131 dX7_enter_55 rfl (by assumption) ?_
  rw [e6]
  refine x_iload_n dX7_enter_58 rfl ?_
  refine x_aload dX7_enter_59 rfl ?_
  refine gf_RX7_167 dX7_enter_61 rfl (by assumption) ?_
  rw [s7]
  refine x_iadd dX7_enter_64 ?_
  refine x_ic_eq (tgt := 74) dX7_enter_65 (by decide) ⟨by omega, by omega⟩ ⟨by omega, by omega⟩ (fun hb65 => ?_) (fun h => (h (by omega)).elim)
  refine x_aload_n dX7_enter_74 rfl ?_
  refine gf_RX7_10 dX7_enter_75 rfl (by assumption) ?_
  rw [bf]
  refine x_aload_n dX7_enter_78 rfl ?_
  refine c_RX7_192d dX7_enter_79 rfl (kX2_isAground hF hR hI (by omega) k0 k1) (by assumption) (Nat.le_of_ble_eq_true rfl) (Nat.le_of_ble_eq_true rfl) ⟨Nat.le_refl _, Nat.le_refl _⟩ ?_
  refine x_if_eq (tgt := 91) dX7_enter_82 (by decide) ⟨by split <;> omega, by split <;> omega⟩ (fun hb82 => ?_) (fun h => (h (by rw [if_neg ha])).elim)
  refine x_aload_n dX7_enter_91 rfl ?_
  refine gf_RX7_196 dX7_enter_92 rfl (by assumption) ?_
  rw [e0]
  refine x_aload dX7_enter_95 rfl ?_
  refine gf_RX7_199 dX7_enter_97 rfl (by assumption) ?_
  rw [s6]
  refine x_ic_le (tgt := 110) dX7_enter_100 (by decide) ⟨by omega, by omega⟩ ⟨by omega, by omega⟩ (fun h => absurd h (by omega)) (fun hb100 => ?_)
  refine x_aload_n dX7_enter_103 rfl ?_
  refine x_bipush dX7_enter_104 (by decide) ?_
  refine c_RX7_105d dX7_enter_106 rfl (kX7_refuse hB0) (by assumption) (Nat.le_of_ble_eq_true rfl) (Nat.le_of_ble_eq_true rfl) ⟨Nat.le_refl _, Nat.le_refl _⟩ ?_
  exact x_ireturn dX7_enter_109 rfl rfl ⟨Nat.le_refl _, Nat.le_refl _⟩ ⟨rfl, _, rfl, jCl_ref hst (by omega) (by decide)⟩
theorem kX7_enter_d0 {G : JG} {S : JS} {D : JD} {d : Nat} {X t cz n q : Int} {hs : Int → Int → Int} {r : Int → Int} {k c : Int} (hB : jBL S X) (hz : cz = 0 ∨ cz = 1) (hst : jSt D X t cz n hs r q) (ht : t + 100 ≤ 60000)(k0 : 0 ≤ k) (k1 : k < r 2) (c0 : 0 ≤ c) (c1 : c < r 1) (hg : r (29 + 11 * c) = 0) (hp : r (71 + 8 * k) = c + 0) (ha : ¬ gAgr r k) (hl : ¬ sLf r c < r (65 + 8 * k)) (hd : gDeep r k c 0) : JM G yX7_enter cX7_enter 6 (some .int) (d + 5) (0, 0) S D [.inr (.inr (some X)), .inl k, .inl c] (jrP S (jCl D X (t + 100) cz n hs r q (-100000003, none, 7))) := by
  have hB0 := hB
  obtain ⟨bk, bf, bh, bs, bo, hF, hH, sk, sl, ok, ot, tk, tl⟩ := id hB
  have fk := hF.1
  have hhk := hH.1
  obtain ⟨s5, s4, hR, hI, hi⟩ := id hst
  have hc := hR.ct hI
  have b1 := hI.1
  have n2 := hR.1.2.2.1
  have n1 := hR.1.2.1
  have bk := hF.bk hI k0 k1
  obtain ⟨e0, e1, e2, e3, e4, e5, e6, e7⟩ := hR.ba k0 k1
  obtain ⟨bp, w0, w1, i0, i1, d0, d1⟩ := hI.bw k0 k1
  have bl := bp.lin hI (X + 1)
  obtain ⟨wr, wo, wm⟩ := hR.wat hI (by omega) bp
  have dpb := hI.dp wo wm
  have bo := hI.2.2.2.1 k k0 k1
  unfold rBo at bo
  have hC := (hF.2.2.2.2.2.2.2.2.2.2.2.1 c c0 (by omega)).2
  have ck := hC.1
  have wp : rPl r (100 + c) := Or.inr ⟨by omega, by omega⟩
  obtain ⟨-, wo2, wm2⟩ := hR.wat hI (by omega) wp
  have dpc := hI.dp wo2 wm2
  have co := (hI.2.2.1 c c0 c1).2
  unfold rCo at co
  have hlle := sLf_le hI c
  obtain ⟨s5, s6, s7, s4, sr, q1, q2, q3, q4, q5, q6⟩ := (hR.2.2.1 c c0 c1).2
  rw [if_neg (by omega), hg] at s7
  have sk : jK S (X + 1 + 9 + 5 * c + 2) = 5 := hC.2.2.2.2.2.2.1
  have hhg := sHg_r hI c0 c1 (g := 0) (by omega)
  unfold gDeep at hd
  show JX _ _ _ _ _ _ _ _ _ _ _ [_, _, _, _, _, _] _ _
  refine x_aload_n dX7_enter_0 rfl ?_
  refine gf_RX7_10 dX7_enter_1 rfl (by assumption) ?_
  rw [bf]
  refine x_iload_n dX7_enter_4 rfl ?_
  refine c_RX7_123d dX7_enter_5 rfl (kX2_bargeAt_y hF hc (by omega)) (by assumption) (Nat.le_of_ble_eq_true rfl) (Nat.le_of_ble_eq_true rfl) ⟨Nat.le_refl _, Nat.le_refl _⟩ ?_
  refine x_astore_n dX7_enter_8 (by decide) ?_
  show JX _ _ _ _ _ _ _ _ _ _ _ [_, _, _, _, _, _] _ _
  refine x_aload_n dX7_enter_9 rfl ?_
  refine gf_RX7_10 dX7_enter_10 rfl (by assumption) ?_
  rw [bf]
  refine x_iload_n dX7_enter_13 rfl ?_
  refine c_RX7_159d dX7_enter_14 rfl (kX2_chamberAt_y hF hc (by omega)) (by assumption) (Nat.le_of_ble_eq_true rfl) (Nat.le_of_ble_eq_true rfl) ⟨Nat.le_refl _, Nat.le_refl _⟩ ?_
  refine x_astore dX7_enter_17 (by decide) ?_
  show JX _ _ _ _ _ _ _ _ _ _ _ [_, _, _, _, _, _] _ _
  refine x_aload_n dX7_enter_19 rfl ?_
  refine x_ifnull (tgt := 28) dX7_enter_20 (by decide) (fun h => by cases h) (fun hb20 => ?_)
  refine x_aload dX7_enter_23 rfl ?_
  refine x_ifnonnull (tgt := 31) dX7_enter_25 (by decide) (fun hb25 => ?_) (fun h => by cases h)
  refine x_aload dX7_enter_31 rfl ?_
  refine x_aload dX7_enter_33 rfl ?_
  refine gf_RX7_167 dX7_enter_35 rfl (by assumption) ?_
  rw [s7]
  refine c_RX7_188d dX7_enter_38 rfl (kX1_sillOf_0 hC) (by assumption) (Nat.le_of_ble_eq_true rfl) (Nat.le_of_ble_eq_true rfl) ⟨Nat.le_refl _, Nat.le_refl _⟩ ?_
  refine x_astore dX7_enter_41 (by decide) ?_
  show JX _ _ _ _ _ _ _ _ _ _ _ [_, _, _, _, _, _] _ _
  refine x_aload dX7_enter_43 rfl ?_
  refine x_ifnonnull (tgt := 54) dX7_enter_45 (by decide) (fun hb45 => ?_) (fun h => by cases h)
  refine x_aload_n dX7_enter_54 rfl ?_
  refine gf_RX7_131 dX7_enter_55 rfl (by assumption) ?_
  rw [e6]
  refine x_iload_n dX7_enter_58 rfl ?_
  refine x_aload dX7_enter_59 rfl ?_
  refine gf_RX7_167 dX7_enter_61 rfl (by assumption) ?_
  rw [s7]
  refine x_iadd dX7_enter_64 ?_
  refine x_ic_eq (tgt := 74) dX7_enter_65 (by decide) ⟨by omega, by omega⟩ ⟨by omega, by omega⟩ (fun hb65 => ?_) (fun h => (h (by omega)).elim)
  refine x_aload_n dX7_enter_74 rfl ?_
  refine gf_RX7_10 dX7_enter_75 rfl (by assumption) ?_
  rw [bf]
  refine x_aload_n dX7_enter_78 rfl ?_
  refine c_RX7_192d dX7_enter_79 rfl (kX2_isAground hF hR hI (by omega) k0 k1) (by assumption) (Nat.le_of_ble_eq_true rfl) (Nat.le_of_ble_eq_true rfl) ⟨Nat.le_refl _, Nat.le_refl _⟩ ?_
  refine x_if_eq (tgt := 91) dX7_enter_82 (by decide) ⟨by split <;> omega, by split <;> omega⟩ (fun hb82 => ?_) (fun h => (h (by rw [if_neg ha])).elim)
  refine x_aload_n dX7_enter_91 rfl ?_
  refine gf_RX7_196 dX7_enter_92 rfl (by assumption) ?_
  rw [e0]
  refine x_aload dX7_enter_95 rfl ?_
  refine gf_RX7_199 dX7_enter_97 rfl (by assumption) ?_
  rw [s6]
  refine x_ic_le (tgt := 110) dX7_enter_100 (by decide) ⟨by omega, by omega⟩ ⟨by omega, by omega⟩ (fun hb100 => ?_) (fun h => (h (by omega)).elim)
  refine x_aload_n dX7_enter_110 rfl ?_
  refine c_RX7_153d dX7_enter_111 rfl (kR_draught hF hR hI k0 k1) (by assumption) (Nat.le_of_ble_eq_true rfl) (Nat.le_of_ble_eq_true rfl) ⟨Nat.le_refl _, Nat.le_refl _⟩ ?_
  refine x_i2l dX7_enter_114 ⟨by omega, by omega⟩ ?_
  refine x_aload_n dX7_enter_115 rfl ?_
  refine gf_RX7_10 dX7_enter_116 rfl (by assumption) ?_
  rw [bf]
  refine x_aload dX7_enter_119 rfl ?_
  refine x_aload dX7_enter_121 rfl ?_
  refine c_RX7_202d dX7_enter_123 rfl (kX2_mostDraught_0 hF hR hI (by omega) c0 c1) (by assumption) (Nat.le_of_ble_eq_true rfl) (Nat.le_of_ble_eq_true rfl) ⟨Nat.le_refl _, Nat.le_refl _⟩ ?_
  refine x_lc_le (tgt := 137) dX7_enter_126 dX7_enter_127 (by decide) ⟨by omega, by omega⟩ ⟨by omega, by omega⟩ (fun h => absurd h (by omega)) (fun hb127 => ?_)
  refine x_aload_n dX7_enter_130 rfl ?_
  refine x_bipush dX7_enter_131 (by decide) ?_
  refine c_RX7_105d dX7_enter_133 rfl (kX7_refuse hB0) (by assumption) (Nat.le_of_ble_eq_true rfl) (Nat.le_of_ble_eq_true rfl) ⟨Nat.le_refl _, Nat.le_refl _⟩ ?_
  exact x_ireturn dX7_enter_136 rfl rfl ⟨Nat.le_refl _, Nat.le_refl _⟩ ⟨rfl, _, rfl, jCl_ref hst (by omega) (by decide)⟩
theorem kX7_enter_y0 {G : JG} {S : JS} {D : JD} {d : Nat} {X t cz n q : Int} {hs : Int → Int → Int} {r : Int → Int} {k c : Int} (hB : jBL S X) (hz : cz = 0 ∨ cz = 1) (hst : jSt D X t cz n hs r q) (ht : t + 100 ≤ 60000)(k0 : 0 ≤ k) (k1 : k < r 2) (c0 : 0 ≤ c) (c1 : c < r 1) (hg : r (29 + 11 * c) = 0) (hp : r (71 + 8 * k) = c + 0) (ha : ¬ gAgr r k) (hl : ¬ sLf r c < r (65 + 8 * k)) (hd : ¬ gDeep r k c 0) : JM G yX7_enter cX7_enter 6 (some .int) (d + 5) (0, 0) S D [.inr (.inr (some X)), .inl k, .inl c] (jrP S (jCl D X (t + 100) cz n hs r q (sLf (rEnter k c 0 r) c, some (rEnter k c 0 r), 0))) := by
  have hB0 := hB
  obtain ⟨bk, bf, bh, bs, bo, hF, hH, sk, sl, ok, ot, tk, tl⟩ := id hB
  have fk := hF.1
  have hhk := hH.1
  obtain ⟨s5, s4, hR, hI, hi⟩ := id hst
  have hc := hR.ct hI
  have b1 := hI.1
  have n2 := hR.1.2.2.1
  have n1 := hR.1.2.1
  have bk := hF.bk hI k0 k1
  obtain ⟨e0, e1, e2, e3, e4, e5, e6, e7⟩ := hR.ba k0 k1
  obtain ⟨bp, w0, w1, i0, i1, d0, d1⟩ := hI.bw k0 k1
  have bl := bp.lin hI (X + 1)
  obtain ⟨wr, wo, wm⟩ := hR.wat hI (by omega) bp
  have dpb := hI.dp wo wm
  have bo := hI.2.2.2.1 k k0 k1
  unfold rBo at bo
  have hC := (hF.2.2.2.2.2.2.2.2.2.2.2.1 c c0 (by omega)).2
  have ck := hC.1
  have wp : rPl r (100 + c) := Or.inr ⟨by omega, by omega⟩
  obtain ⟨-, wo2, wm2⟩ := hR.wat hI (by omega) wp
  have dpc := hI.dp wo2 wm2
  have co := (hI.2.2.1 c c0 c1).2
  unfold rCo at co
  have hlle := sLf_le hI c
  obtain ⟨s5, s6, s7, s4, sr, q1, q2, q3, q4, q5, q6⟩ := (hR.2.2.1 c c0 c1).2
  rw [if_neg (by omega), hg] at s7
  have sk : jK S (X + 1 + 9 + 5 * c + 2) = 5 := hC.2.2.2.2.2.2.1
  have hhg := sHg_r hI c0 c1 (g := 0) (by omega)
  unfold gDeep at hd
  show JX _ _ _ _ _ _ _ _ _ _ _ [_, _, _, _, _, _] _ _
  refine x_aload_n dX7_enter_0 rfl ?_
  refine gf_RX7_10 dX7_enter_1 rfl (by assumption) ?_
  rw [bf]
  refine x_iload_n dX7_enter_4 rfl ?_
  refine c_RX7_123d dX7_enter_5 rfl (kX2_bargeAt_y hF hc (by omega)) (by assumption) (Nat.le_of_ble_eq_true rfl) (Nat.le_of_ble_eq_true rfl) ⟨Nat.le_refl _, Nat.le_refl _⟩ ?_
  refine x_astore_n dX7_enter_8 (by decide) ?_
  show JX _ _ _ _ _ _ _ _ _ _ _ [_, _, _, _, _, _] _ _
  refine x_aload_n dX7_enter_9 rfl ?_
  refine gf_RX7_10 dX7_enter_10 rfl (by assumption) ?_
  rw [bf]
  refine x_iload_n dX7_enter_13 rfl ?_
  refine c_RX7_159d dX7_enter_14 rfl (kX2_chamberAt_y hF hc (by omega)) (by assumption) (Nat.le_of_ble_eq_true rfl) (Nat.le_of_ble_eq_true rfl) ⟨Nat.le_refl _, Nat.le_refl _⟩ ?_
  refine x_astore dX7_enter_17 (by decide) ?_
  show JX _ _ _ _ _ _ _ _ _ _ _ [_, _, _, _, _, _] _ _
  refine x_aload_n dX7_enter_19 rfl ?_
  refine x_ifnull (tgt := 28) dX7_enter_20 (by decide) (fun h => by cases h) (fun hb20 => ?_)
  refine x_aload dX7_enter_23 rfl ?_
  refine x_ifnonnull (tgt := 31) dX7_enter_25 (by decide) (fun hb25 => ?_) (fun h => by cases h)
  refine x_aload dX7_enter_31 rfl ?_
  refine x_aload dX7_enter_33 rfl ?_
  refine gf_RX7_167 dX7_enter_35 rfl (by assumption) ?_
  rw [s7]
  refine c_RX7_188d dX7_enter_38 rfl (kX1_sillOf_0 hC) (by assumption) (Nat.le_of_ble_eq_true rfl) (Nat.le_of_ble_eq_true rfl) ⟨Nat.le_refl _, Nat.le_refl _⟩ ?_
  refine x_astore dX7_enter_41 (by decide) ?_
  show JX _ _ _ _ _ _ _ _ _ _ _ [_, _, _, _, _, _] _ _
  refine x_aload dX7_enter_43 rfl ?_
  refine x_ifnonnull (tgt := 54) dX7_enter_45 (by decide) (fun hb45 => ?_) (fun h => by cases h)
  refine x_aload_n dX7_enter_54 rfl ?_
  refine gf_RX7_131 dX7_enter_55 rfl (by assumption) ?_
  rw [e6]
  refine x_iload_n dX7_enter_58 rfl ?_
  refine x_aload dX7_enter_59 rfl ?_
  refine gf_RX7_167 dX7_enter_61 rfl (by assumption) ?_
  rw [s7]
  refine x_iadd dX7_enter_64 ?_
  refine x_ic_eq (tgt := 74) dX7_enter_65 (by decide) ⟨by omega, by omega⟩ ⟨by omega, by omega⟩ (fun hb65 => ?_) (fun h => (h (by omega)).elim)
  refine x_aload_n dX7_enter_74 rfl ?_
  refine gf_RX7_10 dX7_enter_75 rfl (by assumption) ?_
  rw [bf]
  refine x_aload_n dX7_enter_78 rfl ?_
  refine c_RX7_192d dX7_enter_79 rfl (kX2_isAground hF hR hI (by omega) k0 k1) (by assumption) (Nat.le_of_ble_eq_true rfl) (Nat.le_of_ble_eq_true rfl) ⟨Nat.le_refl _, Nat.le_refl _⟩ ?_
  refine x_if_eq (tgt := 91) dX7_enter_82 (by decide) ⟨by split <;> omega, by split <;> omega⟩ (fun hb82 => ?_) (fun h => (h (by rw [if_neg ha])).elim)
  refine x_aload_n dX7_enter_91 rfl ?_
  refine gf_RX7_196 dX7_enter_92 rfl (by assumption) ?_
  rw [e0]
  refine x_aload dX7_enter_95 rfl ?_
  refine gf_RX7_199 dX7_enter_97 rfl (by assumption) ?_
  rw [s6]
  refine x_ic_le (tgt := 110) dX7_enter_100 (by decide) ⟨by omega, by omega⟩ ⟨by omega, by omega⟩ (fun hb100 => ?_) (fun h => (h (by omega)).elim)
  refine x_aload_n dX7_enter_110 rfl ?_
  refine c_RX7_153d dX7_enter_111 rfl (kR_draught hF hR hI k0 k1) (by assumption) (Nat.le_of_ble_eq_true rfl) (Nat.le_of_ble_eq_true rfl) ⟨Nat.le_refl _, Nat.le_refl _⟩ ?_
  refine x_i2l dX7_enter_114 ⟨by omega, by omega⟩ ?_
  refine x_aload_n dX7_enter_115 rfl ?_
  refine gf_RX7_10 dX7_enter_116 rfl (by assumption) ?_
  rw [bf]
  refine x_aload dX7_enter_119 rfl ?_
  refine x_aload dX7_enter_121 rfl ?_
  refine c_RX7_202d dX7_enter_123 rfl (kX2_mostDraught_0 hF hR hI (by omega) c0 c1) (by assumption) (Nat.le_of_ble_eq_true rfl) (Nat.le_of_ble_eq_true rfl) ⟨Nat.le_refl _, Nat.le_refl _⟩ ?_
  refine x_lc_le (tgt := 137) dX7_enter_126 dX7_enter_127 (by decide) ⟨by omega, by omega⟩ ⟨by omega, by omega⟩ (fun hb127 => ?_) (fun h => (h (by omega)).elim)
  refine x_aload_n dX7_enter_137 rfl ?_
  refine c_RX7_51p dX7_enter_138 rfl (kX7_record hB hz hst) (by assumption) (Nat.le_of_ble_eq_true rfl) (Nat.le_of_ble_eq_true rfl) ⟨Nat.le_refl _, Nat.le_refl _⟩ (fun D1 h1 => ?_)
  obtain ⟨st1, x1⟩ := h1
  obtain ⟨t5, t4, hR1, hI1, hi1⟩ := id st1
  have hc1 := hR1.ct hI1
  obtain ⟨v0, v1, v2, v3, v4, v5, v6, v7⟩ := hR1.ba k0 k1
  obtain ⟨u5, u6, u7, u4, ur, y1, y2, y3, y4, y5, y6⟩ := (hR1.2.2.1 c c0 c1).2
  rw [if_neg (by omega), hg] at u7
  have hrm := hI.room c0 c1 k0 k1 (by omega)
  refine x_aload dX7_enter_141 rfl ?_
  refine x_iload_n dX7_enter_143 rfl ?_
  refine x_aload_n dX7_enter_144 rfl ?_
  refine gf_RX7_196 dX7_enter_145 rfl (by assumption) ?_
  rw [v0]
  refine x_aload dX7_enter_148 rfl ?_
  refine gf_RX7_167 dX7_enter_150 rfl (by assumption) ?_
  rw [u7]
  refine c_RX7_206d dX7_enter_153 rfl (kX1_takeIn_0 hC (by omega)) (by assumption) (Nat.le_of_ble_eq_true rfl) (Nat.le_of_ble_eq_true rfl) ⟨Nat.le_refl _, Nat.le_refl _⟩ ?_
  have fI : ∀ z : Int, (dIn D1 (X + 1 + 9 + 5 * c) k (r (65 + 8 * k)) 0) (X + 1) z = D1 (X + 1) z := fun z => dIn_o (by omega) (by omega)
  have fB : ∀ z : Int, (dIn D1 (X + 1 + 9 + 5 * c) k (r (65 + 8 * k)) 0) (X + 1 + 29 + k) z = D1 (X + 1 + 29 + k) z := fun z => dIn_o (by omega) (by omega)
  have hcI := hc1.fr fI
  have bp1 : rPl r (c + 0) := by rw [← hp]; exact bp
  have wkp : jK S (sWa (X + 1) (c + 0)) = 6 := hF.wat hI bp1
  have wkq : jK S (sWa (X + 1) (100 + c)) = 6 := hF.wat hI wp
  have ep : sWa (X + 1) (c + 0) = X + 1 + 4 + (c + 0) := by unfold sWa; rw [if_pos (by omega)]
  have eq : sWa (X + 1) (100 + c) = X + 1 + 9 + 5 * c + 1 := by unfold sWa; rw [if_neg (by omega)]; omega
  have fp : fWa (dIn D1 (X + 1 + 9 + 5 * c) k (r (65 + 8 * k)) 0) (X + 1) (c + 0) = some (sWa (X + 1) (c + 0)) := by rw [fWa_fr fI]; exact hR1.watS hI1 bp1
  have fq : fWa (dIn D1 (X + 1 + 9 + 5 * c) k (r (65 + 8 * k)) 0) (X + 1) (100 + c) = some (sWa (X + 1) (100 + c)) := by rw [fWa_fr fI]; exact hR1.watS hI1 wp
  have hpI : (dIn D1 (X + 1 + 9 + 5 * c) k (r (65 + 8 * k)) 0) (X + 1 + 29 + k) 6 = c + 0 := by rw [fB, v6, hp]
  have hWI : (dIn D1 (X + 1 + 9 + 5 * c) k (r (65 + 8 * k)) 0) (X + 1 + 29 + k) 1 + (dIn D1 (X + 1 + 9 + 5 * c) k (r (65 + 8 * k)) 0) (X + 1 + 29 + k) 4 + (dIn D1 (X + 1 + 9 + 5 * c) k (r (65 + 8 * k)) 0) (X + 1 + 29 + k) 5 = sW r k := by rw [fB, fB, fB, v1, v4, v5]; rfl
  refine x_aload_n dX7_enter_156 rfl ?_
  refine gf_RX7_10 dX7_enter_157 rfl (by assumption) ?_
  rw [bf]
  refine x_aload_n dX7_enter_160 rfl ?_
  refine x_bipush dX7_enter_161 (by decide) ?_
  refine x_iload_n dX7_enter_163 rfl ?_
  refine x_iadd dX7_enter_164 ?_
  refine c_RX7_209d dX7_enter_165 rfl (kX2_move hF hcI ⟨by omega, by omega⟩ ⟨by omega, by omega⟩ bk wkp wkq hpI fp fq hWI ⟨by omega, by omega⟩ (by omega) (by omega)) (by assumption) (Nat.le_of_ble_eq_true rfl) (Nat.le_of_ble_eq_true rfl) ⟨Nat.le_refl _, Nat.le_refl _⟩ ?_
  have sp : dMv (dIn D1 (X + 1 + 9 + 5 * c) k (r (65 + 8 * k)) 0) (sWa (X + 1) (c + 0)) (sWa (X + 1) (100 + c)) (X + 1 + 29 + k) (100 + c) (sW r k) (X + 1 + 9 + 5 * c + 2) 2 = r (30 + 11 * c) := by rw [dMv_o (by omega) (by omega) (by omega), dIn_o (by omega) (by omega), y5]
  refine x_aload dX7_enter_168 rfl ?_
  refine c_RX7_213d dX7_enter_170 rfl (kX5_countPassage sk (by omega) (by omega)) (by assumption) (Nat.le_of_ble_eq_true rfl) (Nat.le_of_ble_eq_true rfl) ⟨Nat.le_refl _, Nat.le_refl _⟩ ?_
  have hR2 := hR1.enter hI1 (g := 0) (cc := X + 1 + 9 + 5 * c) (sl := X + 1 + 9 + 5 * c + 2) c0 c1 (by omega) k0 k1 hp rfl (by omega) ep eq rfl
  have hI2 := (hI1.enter (g := 0) c0 c1 (by omega) k0 k1 hp (by omega)).mono (show t + 1 ≤ t + 100 by omega)
  have psd := psd_in (g := 0) hI1 c0 c1 k0 k1 (by omega)
  have r21 : rEnter k c 0 r 1 = r 1 := psd 1 (by omega) (by omega) (by omega) (by omega) (by omega)
  refine x_aload_n dX7_enter_173 rfl ?_
  refine gf_RX7_10 dX7_enter_174 rfl (by assumption) ?_
  rw [bf]
  refine c_RX7_58p dX7_enter_177 rfl (kX2_settle hF hR2 hI2 (by omega)) (by assumption) (Nat.le_of_ble_eq_true rfl) (Nat.le_of_ble_eq_true rfl) ⟨Nat.le_refl _, Nat.le_refl _⟩ (fun D9 h9 => ?_)
  obtain ⟨hR4, hx4⟩ := h9
  have k4 := hI2.keep (j := 1) (by omega)
  have hlf := ((hR4.2.2.1 c c0 (by omega)).2).2.1
  rw [sLf_all hI2 c0 (by omega)] at hlf
  refine x_aload dX7_enter_180 rfl ?_
  refine gf_RX7_199 dX7_enter_182 rfl (by assumption) ?_
  rw [hlf]
  exact x_ireturn dX7_enter_185 rfl rfl ⟨Nat.le_refl _, Nat.le_refl _⟩ ⟨rfl, _, rfl, jCl_somex x1 st1 (fun x z hx => by rw [dPass_o (by omega), dMv_o (by omega) (by omega) (by omega), dIn_o (by omega) (by omega)]) hx4 hR4 hI2 (by omega)⟩
theorem kX7_enter_p1 {G : JG} {S : JS} {D : JD} {d : Nat} {X t cz n q : Int} {hs : Int → Int → Int} {r : Int → Int} {k c : Int} (hB : jBL S X) (hz : cz = 0 ∨ cz = 1) (hst : jSt D X t cz n hs r q) (ht : t + 100 ≤ 60000)(k0 : 0 ≤ k) (k1 : k < r 2) (c0 : 0 ≤ c) (c1 : c < r 1) (hg : r (29 + 11 * c) = 1) (hp : r (71 + 8 * k) ≠ c + 1) : JM G yX7_enter cX7_enter 6 (some .int) (d + 5) (0, 0) S D [.inr (.inr (some X)), .inl k, .inl c] (jrP S (jCl D X (t + 100) cz n hs r q (-100000003, none, 4))) := by
  have hB0 := hB
  obtain ⟨bk, bf, bh, bs, bo, hF, hH, sk, sl, ok, ot, tk, tl⟩ := id hB
  have fk := hF.1
  have hhk := hH.1
  obtain ⟨s5, s4, hR, hI, hi⟩ := id hst
  have hc := hR.ct hI
  have b1 := hI.1
  have n2 := hR.1.2.2.1
  have n1 := hR.1.2.1
  have bk := hF.bk hI k0 k1
  obtain ⟨e0, e1, e2, e3, e4, e5, e6, e7⟩ := hR.ba k0 k1
  obtain ⟨bp, w0, w1, i0, i1, d0, d1⟩ := hI.bw k0 k1
  have bl := bp.lin hI (X + 1)
  obtain ⟨wr, wo, wm⟩ := hR.wat hI (by omega) bp
  have dpb := hI.dp wo wm
  have bo := hI.2.2.2.1 k k0 k1
  unfold rBo at bo
  have hC := (hF.2.2.2.2.2.2.2.2.2.2.2.1 c c0 (by omega)).2
  have ck := hC.1
  have wp : rPl r (100 + c) := Or.inr ⟨by omega, by omega⟩
  obtain ⟨-, wo2, wm2⟩ := hR.wat hI (by omega) wp
  have dpc := hI.dp wo2 wm2
  have co := (hI.2.2.1 c c0 c1).2
  unfold rCo at co
  have hlle := sLf_le hI c
  obtain ⟨s5, s6, s7, s4, sr, q1, q2, q3, q4, q5, q6⟩ := (hR.2.2.1 c c0 c1).2
  rw [if_neg (by omega), hg] at s7
  have sk : jK S (X + 1 + 9 + 5 * c + 3) = 5 := hC.2.2.2.2.2.2.2.1
  have hhg := sHg_r hI c0 c1 (g := 1) (by omega)
  show JX _ _ _ _ _ _ _ _ _ _ _ [_, _, _, _, _, _] _ _
  refine x_aload_n dX7_enter_0 rfl ?_
  refine gf_RX7_10 dX7_enter_1 rfl (by assumption) ?_
  rw [bf]
  refine x_iload_n dX7_enter_4 rfl ?_
  refine c_RX7_123d dX7_enter_5 rfl (kX2_bargeAt_y hF hc (by omega)) (by assumption) (Nat.le_of_ble_eq_true rfl) (Nat.le_of_ble_eq_true rfl) ⟨Nat.le_refl _, Nat.le_refl _⟩ ?_
  refine x_astore_n dX7_enter_8 (by decide) ?_
  show JX _ _ _ _ _ _ _ _ _ _ _ [_, _, _, _, _, _] _ _
  refine x_aload_n dX7_enter_9 rfl ?_
  refine gf_RX7_10 dX7_enter_10 rfl (by assumption) ?_
  rw [bf]
  refine x_iload_n dX7_enter_13 rfl ?_
  refine c_RX7_159d dX7_enter_14 rfl (kX2_chamberAt_y hF hc (by omega)) (by assumption) (Nat.le_of_ble_eq_true rfl) (Nat.le_of_ble_eq_true rfl) ⟨Nat.le_refl _, Nat.le_refl _⟩ ?_
  refine x_astore dX7_enter_17 (by decide) ?_
  show JX _ _ _ _ _ _ _ _ _ _ _ [_, _, _, _, _, _] _ _
  refine x_aload_n dX7_enter_19 rfl ?_
  refine x_ifnull (tgt := 28) dX7_enter_20 (by decide) (fun h => by cases h) (fun hb20 => ?_)
  refine x_aload dX7_enter_23 rfl ?_
  refine x_ifnonnull (tgt := 31) dX7_enter_25 (by decide) (fun hb25 => ?_) (fun h => by cases h)
  refine x_aload dX7_enter_31 rfl ?_
  refine x_aload dX7_enter_33 rfl ?_
  refine gf_RX7_167 dX7_enter_35 rfl (by assumption) ?_
  rw [s7]
  refine c_RX7_188d dX7_enter_38 rfl (kX1_sillOf_1 hC) (by assumption) (Nat.le_of_ble_eq_true rfl) (Nat.le_of_ble_eq_true rfl) ⟨Nat.le_refl _, Nat.le_refl _⟩ ?_
  refine x_astore dX7_enter_41 (by decide) ?_
  show JX _ _ _ _ _ _ _ _ _ _ _ [_, _, _, _, _, _] _ _
  refine x_aload dX7_enter_43 rfl ?_
  refine x_ifnonnull (tgt := 54) dX7_enter_45 (by decide) (fun hb45 => ?_) (fun h => by cases h)
  refine x_aload_n dX7_enter_54 rfl ?_
  refine gf_RX7_131 dX7_enter_55 rfl (by assumption) ?_
  rw [e6]
  refine x_iload_n dX7_enter_58 rfl ?_
  refine x_aload dX7_enter_59 rfl ?_
  refine gf_RX7_167 dX7_enter_61 rfl (by assumption) ?_
  rw [s7]
  refine x_iadd dX7_enter_64 ?_
  refine x_ic_eq (tgt := 74) dX7_enter_65 (by decide) ⟨by omega, by omega⟩ ⟨by omega, by omega⟩ (fun h => absurd h (by omega)) (fun hb65 => ?_)
  refine x_aload_n dX7_enter_68 rfl ?_
  refine x_iconst dX7_enter_69 ?_
  refine c_RX7_105d dX7_enter_70 rfl (kX7_refuse hB0) (by assumption) (Nat.le_of_ble_eq_true rfl) (Nat.le_of_ble_eq_true rfl) ⟨Nat.le_refl _, Nat.le_refl _⟩ ?_
  exact x_ireturn dX7_enter_73 rfl rfl ⟨Nat.le_refl _, Nat.le_refl _⟩ ⟨rfl, _, rfl, jCl_ref hst (by omega) (by decide)⟩
theorem kX7_enter_a1 {G : JG} {S : JS} {D : JD} {d : Nat} {X t cz n q : Int} {hs : Int → Int → Int} {r : Int → Int} {k c : Int} (hB : jBL S X) (hz : cz = 0 ∨ cz = 1) (hst : jSt D X t cz n hs r q) (ht : t + 100 ≤ 60000)(k0 : 0 ≤ k) (k1 : k < r 2) (c0 : 0 ≤ c) (c1 : c < r 1) (hg : r (29 + 11 * c) = 1) (hp : r (71 + 8 * k) = c + 1) (ha : gAgr r k) : JM G yX7_enter cX7_enter 6 (some .int) (d + 5) (0, 0) S D [.inr (.inr (some X)), .inl k, .inl c] (jrP S (jCl D X (t + 100) cz n hs r q (-100000003, none, 5))) := by
  have hB0 := hB
  obtain ⟨bk, bf, bh, bs, bo, hF, hH, sk, sl, ok, ot, tk, tl⟩ := id hB
  have fk := hF.1
  have hhk := hH.1
  obtain ⟨s5, s4, hR, hI, hi⟩ := id hst
  have hc := hR.ct hI
  have b1 := hI.1
  have n2 := hR.1.2.2.1
  have n1 := hR.1.2.1
  have bk := hF.bk hI k0 k1
  obtain ⟨e0, e1, e2, e3, e4, e5, e6, e7⟩ := hR.ba k0 k1
  obtain ⟨bp, w0, w1, i0, i1, d0, d1⟩ := hI.bw k0 k1
  have bl := bp.lin hI (X + 1)
  obtain ⟨wr, wo, wm⟩ := hR.wat hI (by omega) bp
  have dpb := hI.dp wo wm
  have bo := hI.2.2.2.1 k k0 k1
  unfold rBo at bo
  have hC := (hF.2.2.2.2.2.2.2.2.2.2.2.1 c c0 (by omega)).2
  have ck := hC.1
  have wp : rPl r (100 + c) := Or.inr ⟨by omega, by omega⟩
  obtain ⟨-, wo2, wm2⟩ := hR.wat hI (by omega) wp
  have dpc := hI.dp wo2 wm2
  have co := (hI.2.2.1 c c0 c1).2
  unfold rCo at co
  have hlle := sLf_le hI c
  obtain ⟨s5, s6, s7, s4, sr, q1, q2, q3, q4, q5, q6⟩ := (hR.2.2.1 c c0 c1).2
  rw [if_neg (by omega), hg] at s7
  have sk : jK S (X + 1 + 9 + 5 * c + 3) = 5 := hC.2.2.2.2.2.2.2.1
  have hhg := sHg_r hI c0 c1 (g := 1) (by omega)
  show JX _ _ _ _ _ _ _ _ _ _ _ [_, _, _, _, _, _] _ _
  refine x_aload_n dX7_enter_0 rfl ?_
  refine gf_RX7_10 dX7_enter_1 rfl (by assumption) ?_
  rw [bf]
  refine x_iload_n dX7_enter_4 rfl ?_
  refine c_RX7_123d dX7_enter_5 rfl (kX2_bargeAt_y hF hc (by omega)) (by assumption) (Nat.le_of_ble_eq_true rfl) (Nat.le_of_ble_eq_true rfl) ⟨Nat.le_refl _, Nat.le_refl _⟩ ?_
  refine x_astore_n dX7_enter_8 (by decide) ?_
  show JX _ _ _ _ _ _ _ _ _ _ _ [_, _, _, _, _, _] _ _
  refine x_aload_n dX7_enter_9 rfl ?_
  refine gf_RX7_10 dX7_enter_10 rfl (by assumption) ?_
  rw [bf]
  refine x_iload_n dX7_enter_13 rfl ?_
  refine c_RX7_159d dX7_enter_14 rfl (kX2_chamberAt_y hF hc (by omega)) (by assumption) (Nat.le_of_ble_eq_true rfl) (Nat.le_of_ble_eq_true rfl) ⟨Nat.le_refl _, Nat.le_refl _⟩ ?_
  refine x_astore dX7_enter_17 (by decide) ?_
  show JX _ _ _ _ _ _ _ _ _ _ _ [_, _, _, _, _, _] _ _
  refine x_aload_n dX7_enter_19 rfl ?_
  refine x_ifnull (tgt := 28) dX7_enter_20 (by decide) (fun h => by cases h) (fun hb20 => ?_)
  refine x_aload dX7_enter_23 rfl ?_
  refine x_ifnonnull (tgt := 31) dX7_enter_25 (by decide) (fun hb25 => ?_) (fun h => by cases h)
  refine x_aload dX7_enter_31 rfl ?_
  refine x_aload dX7_enter_33 rfl ?_
  refine gf_RX7_167 dX7_enter_35 rfl (by assumption) ?_
  rw [s7]
  refine c_RX7_188d dX7_enter_38 rfl (kX1_sillOf_1 hC) (by assumption) (Nat.le_of_ble_eq_true rfl) (Nat.le_of_ble_eq_true rfl) ⟨Nat.le_refl _, Nat.le_refl _⟩ ?_
  refine x_astore dX7_enter_41 (by decide) ?_
  show JX _ _ _ _ _ _ _ _ _ _ _ [_, _, _, _, _, _] _ _
  refine x_aload dX7_enter_43 rfl ?_
  refine x_ifnonnull (tgt := 54) dX7_enter_45 (by decide) (fun hb45 => ?_) (fun h => by cases h)
  refine x_aload_n dX7_enter_54 rfl ?_
  refine gf_RX7_131 dX7_enter_55 rfl (by assumption) ?_
  rw [e6]
  refine x_iload_n dX7_enter_58 rfl ?_
  refine x_aload dX7_enter_59 rfl ?_
  refine gf_RX7_167 dX7_enter_61 rfl (by assumption) ?_
  rw [s7]
  refine x_iadd dX7_enter_64 ?_
  refine x_ic_eq (tgt := 74) dX7_enter_65 (by decide) ⟨by omega, by omega⟩ ⟨by omega, by omega⟩ (fun hb65 => ?_) (fun h => (h (by omega)).elim)
  refine x_aload_n dX7_enter_74 rfl ?_
  refine gf_RX7_10 dX7_enter_75 rfl (by assumption) ?_
  rw [bf]
  refine x_aload_n dX7_enter_78 rfl ?_
  refine c_RX7_192d dX7_enter_79 rfl (kX2_isAground hF hR hI (by omega) k0 k1) (by assumption) (Nat.le_of_ble_eq_true rfl) (Nat.le_of_ble_eq_true rfl) ⟨Nat.le_refl _, Nat.le_refl _⟩ ?_
  refine x_if_eq (tgt := 91) dX7_enter_82 (by decide) ⟨by split <;> omega, by split <;> omega⟩ (fun h => absurd h (by rw [if_pos ha]; decide)) (fun hb82 => ?_)
  refine x_aload_n dX7_enter_85 rfl ?_
  refine x_iconst dX7_enter_86 ?_
  refine c_RX7_105d dX7_enter_87 rfl (kX7_refuse hB0) (by assumption) (Nat.le_of_ble_eq_true rfl) (Nat.le_of_ble_eq_true rfl) ⟨Nat.le_refl _, Nat.le_refl _⟩ ?_
  exact x_ireturn dX7_enter_90 rfl rfl ⟨Nat.le_refl _, Nat.le_refl _⟩ ⟨rfl, _, rfl, jCl_ref hst (by omega) (by decide)⟩
theorem kX7_enter_l1 {G : JG} {S : JS} {D : JD} {d : Nat} {X t cz n q : Int} {hs : Int → Int → Int} {r : Int → Int} {k c : Int} (hB : jBL S X) (hz : cz = 0 ∨ cz = 1) (hst : jSt D X t cz n hs r q) (ht : t + 100 ≤ 60000)(k0 : 0 ≤ k) (k1 : k < r 2) (c0 : 0 ≤ c) (c1 : c < r 1) (hg : r (29 + 11 * c) = 1) (hp : r (71 + 8 * k) = c + 1) (ha : ¬ gAgr r k) (hl : sLf r c < r (65 + 8 * k)) : JM G yX7_enter cX7_enter 6 (some .int) (d + 5) (0, 0) S D [.inr (.inr (some X)), .inl k, .inl c] (jrP S (jCl D X (t + 100) cz n hs r q (-100000003, none, 6))) := by
  have hB0 := hB
  obtain ⟨bk, bf, bh, bs, bo, hF, hH, sk, sl, ok, ot, tk, tl⟩ := id hB
  have fk := hF.1
  have hhk := hH.1
  obtain ⟨s5, s4, hR, hI, hi⟩ := id hst
  have hc := hR.ct hI
  have b1 := hI.1
  have n2 := hR.1.2.2.1
  have n1 := hR.1.2.1
  have bk := hF.bk hI k0 k1
  obtain ⟨e0, e1, e2, e3, e4, e5, e6, e7⟩ := hR.ba k0 k1
  obtain ⟨bp, w0, w1, i0, i1, d0, d1⟩ := hI.bw k0 k1
  have bl := bp.lin hI (X + 1)
  obtain ⟨wr, wo, wm⟩ := hR.wat hI (by omega) bp
  have dpb := hI.dp wo wm
  have bo := hI.2.2.2.1 k k0 k1
  unfold rBo at bo
  have hC := (hF.2.2.2.2.2.2.2.2.2.2.2.1 c c0 (by omega)).2
  have ck := hC.1
  have wp : rPl r (100 + c) := Or.inr ⟨by omega, by omega⟩
  obtain ⟨-, wo2, wm2⟩ := hR.wat hI (by omega) wp
  have dpc := hI.dp wo2 wm2
  have co := (hI.2.2.1 c c0 c1).2
  unfold rCo at co
  have hlle := sLf_le hI c
  obtain ⟨s5, s6, s7, s4, sr, q1, q2, q3, q4, q5, q6⟩ := (hR.2.2.1 c c0 c1).2
  rw [if_neg (by omega), hg] at s7
  have sk : jK S (X + 1 + 9 + 5 * c + 3) = 5 := hC.2.2.2.2.2.2.2.1
  have hhg := sHg_r hI c0 c1 (g := 1) (by omega)
  show JX _ _ _ _ _ _ _ _ _ _ _ [_, _, _, _, _, _] _ _
  refine x_aload_n dX7_enter_0 rfl ?_
  refine gf_RX7_10 dX7_enter_1 rfl (by assumption) ?_
  rw [bf]
  refine x_iload_n dX7_enter_4 rfl ?_
  refine c_RX7_123d dX7_enter_5 rfl (kX2_bargeAt_y hF hc (by omega)) (by assumption) (Nat.le_of_ble_eq_true rfl) (Nat.le_of_ble_eq_true rfl) ⟨Nat.le_refl _, Nat.le_refl _⟩ ?_
  refine x_astore_n dX7_enter_8 (by decide) ?_
  show JX _ _ _ _ _ _ _ _ _ _ _ [_, _, _, _, _, _] _ _
  refine x_aload_n dX7_enter_9 rfl ?_
  refine gf_RX7_10 dX7_enter_10 rfl (by assumption) ?_
  rw [bf]
  refine x_iload_n dX7_enter_13 rfl ?_
  refine c_RX7_159d dX7_enter_14 rfl (kX2_chamberAt_y hF hc (by omega)) (by assumption) (Nat.le_of_ble_eq_true rfl) (Nat.le_of_ble_eq_true rfl) ⟨Nat.le_refl _, Nat.le_refl _⟩ ?_
  refine x_astore dX7_enter_17 (by decide) ?_
  show JX _ _ _ _ _ _ _ _ _ _ _ [_, _, _, _, _, _] _ _
  refine x_aload_n dX7_enter_19 rfl ?_
  refine x_ifnull (tgt := 28) dX7_enter_20 (by decide) (fun h => by cases h) (fun hb20 => ?_)
  refine x_aload dX7_enter_23 rfl ?_
  refine x_ifnonnull (tgt := 31) dX7_enter_25 (by decide) (fun hb25 => ?_) (fun h => by cases h)
  refine x_aload dX7_enter_31 rfl ?_
  refine x_aload dX7_enter_33 rfl ?_
  refine gf_RX7_167 dX7_enter_35 rfl (by assumption) ?_
  rw [s7]
  refine c_RX7_188d dX7_enter_38 rfl (kX1_sillOf_1 hC) (by assumption) (Nat.le_of_ble_eq_true rfl) (Nat.le_of_ble_eq_true rfl) ⟨Nat.le_refl _, Nat.le_refl _⟩ ?_
  refine x_astore dX7_enter_41 (by decide) ?_
  show JX _ _ _ _ _ _ _ _ _ _ _ [_, _, _, _, _, _] _ _
  refine x_aload dX7_enter_43 rfl ?_
  refine x_ifnonnull (tgt := 54) dX7_enter_45 (by decide) (fun hb45 => ?_) (fun h => by cases h)
  refine x_aload_n dX7_enter_54 rfl ?_
  refine gf_RX7_131 dX7_enter_55 rfl (by assumption) ?_
  rw [e6]
  refine x_iload_n dX7_enter_58 rfl ?_
  refine x_aload dX7_enter_59 rfl ?_
  refine gf_RX7_167 dX7_enter_61 rfl (by assumption) ?_
  rw [s7]
  refine x_iadd dX7_enter_64 ?_
  refine x_ic_eq (tgt := 74) dX7_enter_65 (by decide) ⟨by omega, by omega⟩ ⟨by omega, by omega⟩ (fun hb65 => ?_) (fun h => (h (by omega)).elim)
  refine x_aload_n dX7_enter_74 rfl ?_
  refine gf_RX7_10 dX7_enter_75 rfl (by assumption) ?_
  rw [bf]
  refine x_aload_n dX7_enter_78 rfl ?_
  refine c_RX7_192d dX7_enter_79 rfl (kX2_isAground hF hR hI (by omega) k0 k1) (by assumption) (Nat.le_of_ble_eq_true rfl) (Nat.le_of_ble_eq_true rfl) ⟨Nat.le_refl _, Nat.le_refl _⟩ ?_
  refine x_if_eq (tgt := 91) dX7_enter_82 (by decide) ⟨by split <;> omega, by split <;> omega⟩ (fun hb82 => ?_) (fun h => (h (by rw [if_neg ha])).elim)
  refine x_aload_n dX7_enter_91 rfl ?_
  refine gf_RX7_196 dX7_enter_92 rfl (by assumption) ?_
  rw [e0]
  refine x_aload dX7_enter_95 rfl ?_
  refine gf_RX7_199 dX7_enter_97 rfl (by assumption) ?_
  rw [s6]
  refine x_ic_le (tgt := 110) dX7_enter_100 (by decide) ⟨by omega, by omega⟩ ⟨by omega, by omega⟩ (fun h => absurd h (by omega)) (fun hb100 => ?_)
  refine x_aload_n dX7_enter_103 rfl ?_
  refine x_bipush dX7_enter_104 (by decide) ?_
  refine c_RX7_105d dX7_enter_106 rfl (kX7_refuse hB0) (by assumption) (Nat.le_of_ble_eq_true rfl) (Nat.le_of_ble_eq_true rfl) ⟨Nat.le_refl _, Nat.le_refl _⟩ ?_
  exact x_ireturn dX7_enter_109 rfl rfl ⟨Nat.le_refl _, Nat.le_refl _⟩ ⟨rfl, _, rfl, jCl_ref hst (by omega) (by decide)⟩
theorem kX7_enter_d1 {G : JG} {S : JS} {D : JD} {d : Nat} {X t cz n q : Int} {hs : Int → Int → Int} {r : Int → Int} {k c : Int} (hB : jBL S X) (hz : cz = 0 ∨ cz = 1) (hst : jSt D X t cz n hs r q) (ht : t + 100 ≤ 60000)(k0 : 0 ≤ k) (k1 : k < r 2) (c0 : 0 ≤ c) (c1 : c < r 1) (hg : r (29 + 11 * c) = 1) (hp : r (71 + 8 * k) = c + 1) (ha : ¬ gAgr r k) (hl : ¬ sLf r c < r (65 + 8 * k)) (hd : gDeep r k c 1) : JM G yX7_enter cX7_enter 6 (some .int) (d + 5) (0, 0) S D [.inr (.inr (some X)), .inl k, .inl c] (jrP S (jCl D X (t + 100) cz n hs r q (-100000003, none, 7))) := by
  have hB0 := hB
  obtain ⟨bk, bf, bh, bs, bo, hF, hH, sk, sl, ok, ot, tk, tl⟩ := id hB
  have fk := hF.1
  have hhk := hH.1
  obtain ⟨s5, s4, hR, hI, hi⟩ := id hst
  have hc := hR.ct hI
  have b1 := hI.1
  have n2 := hR.1.2.2.1
  have n1 := hR.1.2.1
  have bk := hF.bk hI k0 k1
  obtain ⟨e0, e1, e2, e3, e4, e5, e6, e7⟩ := hR.ba k0 k1
  obtain ⟨bp, w0, w1, i0, i1, d0, d1⟩ := hI.bw k0 k1
  have bl := bp.lin hI (X + 1)
  obtain ⟨wr, wo, wm⟩ := hR.wat hI (by omega) bp
  have dpb := hI.dp wo wm
  have bo := hI.2.2.2.1 k k0 k1
  unfold rBo at bo
  have hC := (hF.2.2.2.2.2.2.2.2.2.2.2.1 c c0 (by omega)).2
  have ck := hC.1
  have wp : rPl r (100 + c) := Or.inr ⟨by omega, by omega⟩
  obtain ⟨-, wo2, wm2⟩ := hR.wat hI (by omega) wp
  have dpc := hI.dp wo2 wm2
  have co := (hI.2.2.1 c c0 c1).2
  unfold rCo at co
  have hlle := sLf_le hI c
  obtain ⟨s5, s6, s7, s4, sr, q1, q2, q3, q4, q5, q6⟩ := (hR.2.2.1 c c0 c1).2
  rw [if_neg (by omega), hg] at s7
  have sk : jK S (X + 1 + 9 + 5 * c + 3) = 5 := hC.2.2.2.2.2.2.2.1
  have hhg := sHg_r hI c0 c1 (g := 1) (by omega)
  unfold gDeep at hd
  show JX _ _ _ _ _ _ _ _ _ _ _ [_, _, _, _, _, _] _ _
  refine x_aload_n dX7_enter_0 rfl ?_
  refine gf_RX7_10 dX7_enter_1 rfl (by assumption) ?_
  rw [bf]
  refine x_iload_n dX7_enter_4 rfl ?_
  refine c_RX7_123d dX7_enter_5 rfl (kX2_bargeAt_y hF hc (by omega)) (by assumption) (Nat.le_of_ble_eq_true rfl) (Nat.le_of_ble_eq_true rfl) ⟨Nat.le_refl _, Nat.le_refl _⟩ ?_
  refine x_astore_n dX7_enter_8 (by decide) ?_
  show JX _ _ _ _ _ _ _ _ _ _ _ [_, _, _, _, _, _] _ _
  refine x_aload_n dX7_enter_9 rfl ?_
  refine gf_RX7_10 dX7_enter_10 rfl (by assumption) ?_
  rw [bf]
  refine x_iload_n dX7_enter_13 rfl ?_
  refine c_RX7_159d dX7_enter_14 rfl (kX2_chamberAt_y hF hc (by omega)) (by assumption) (Nat.le_of_ble_eq_true rfl) (Nat.le_of_ble_eq_true rfl) ⟨Nat.le_refl _, Nat.le_refl _⟩ ?_
  refine x_astore dX7_enter_17 (by decide) ?_
  show JX _ _ _ _ _ _ _ _ _ _ _ [_, _, _, _, _, _] _ _
  refine x_aload_n dX7_enter_19 rfl ?_
  refine x_ifnull (tgt := 28) dX7_enter_20 (by decide) (fun h => by cases h) (fun hb20 => ?_)
  refine x_aload dX7_enter_23 rfl ?_
  refine x_ifnonnull (tgt := 31) dX7_enter_25 (by decide) (fun hb25 => ?_) (fun h => by cases h)
  refine x_aload dX7_enter_31 rfl ?_
  refine x_aload dX7_enter_33 rfl ?_
  refine gf_RX7_167 dX7_enter_35 rfl (by assumption) ?_
  rw [s7]
  refine c_RX7_188d dX7_enter_38 rfl (kX1_sillOf_1 hC) (by assumption) (Nat.le_of_ble_eq_true rfl) (Nat.le_of_ble_eq_true rfl) ⟨Nat.le_refl _, Nat.le_refl _⟩ ?_
  refine x_astore dX7_enter_41 (by decide) ?_
  show JX _ _ _ _ _ _ _ _ _ _ _ [_, _, _, _, _, _] _ _
  refine x_aload dX7_enter_43 rfl ?_
  refine x_ifnonnull (tgt := 54) dX7_enter_45 (by decide) (fun hb45 => ?_) (fun h => by cases h)
  refine x_aload_n dX7_enter_54 rfl ?_
  refine gf_RX7_131 dX7_enter_55 rfl (by assumption) ?_
  rw [e6]
  refine x_iload_n dX7_enter_58 rfl ?_
  refine x_aload dX7_enter_59 rfl ?_
  refine gf_RX7_167 dX7_enter_61 rfl (by assumption) ?_
  rw [s7]
  refine x_iadd dX7_enter_64 ?_
  refine x_ic_eq (tgt := 74) dX7_enter_65 (by decide) ⟨by omega, by omega⟩ ⟨by omega, by omega⟩ (fun hb65 => ?_) (fun h => (h (by omega)).elim)
  refine x_aload_n dX7_enter_74 rfl ?_
  refine gf_RX7_10 dX7_enter_75 rfl (by assumption) ?_
  rw [bf]
  refine x_aload_n dX7_enter_78 rfl ?_
  refine c_RX7_192d dX7_enter_79 rfl (kX2_isAground hF hR hI (by omega) k0 k1) (by assumption) (Nat.le_of_ble_eq_true rfl) (Nat.le_of_ble_eq_true rfl) ⟨Nat.le_refl _, Nat.le_refl _⟩ ?_
  refine x_if_eq (tgt := 91) dX7_enter_82 (by decide) ⟨by split <;> omega, by split <;> omega⟩ (fun hb82 => ?_) (fun h => (h (by rw [if_neg ha])).elim)
  refine x_aload_n dX7_enter_91 rfl ?_
  refine gf_RX7_196 dX7_enter_92 rfl (by assumption) ?_
  rw [e0]
  refine x_aload dX7_enter_95 rfl ?_
  refine gf_RX7_199 dX7_enter_97 rfl (by assumption) ?_
  rw [s6]
  refine x_ic_le (tgt := 110) dX7_enter_100 (by decide) ⟨by omega, by omega⟩ ⟨by omega, by omega⟩ (fun hb100 => ?_) (fun h => (h (by omega)).elim)
  refine x_aload_n dX7_enter_110 rfl ?_
  refine c_RX7_153d dX7_enter_111 rfl (kR_draught hF hR hI k0 k1) (by assumption) (Nat.le_of_ble_eq_true rfl) (Nat.le_of_ble_eq_true rfl) ⟨Nat.le_refl _, Nat.le_refl _⟩ ?_
  refine x_i2l dX7_enter_114 ⟨by omega, by omega⟩ ?_
  refine x_aload_n dX7_enter_115 rfl ?_
  refine gf_RX7_10 dX7_enter_116 rfl (by assumption) ?_
  rw [bf]
  refine x_aload dX7_enter_119 rfl ?_
  refine x_aload dX7_enter_121 rfl ?_
  refine c_RX7_202d dX7_enter_123 rfl (kX2_mostDraught_1 hF hR hI (by omega) c0 c1) (by assumption) (Nat.le_of_ble_eq_true rfl) (Nat.le_of_ble_eq_true rfl) ⟨Nat.le_refl _, Nat.le_refl _⟩ ?_
  refine x_lc_le (tgt := 137) dX7_enter_126 dX7_enter_127 (by decide) ⟨by omega, by omega⟩ ⟨by omega, by omega⟩ (fun h => absurd h (by omega)) (fun hb127 => ?_)
  refine x_aload_n dX7_enter_130 rfl ?_
  refine x_bipush dX7_enter_131 (by decide) ?_
  refine c_RX7_105d dX7_enter_133 rfl (kX7_refuse hB0) (by assumption) (Nat.le_of_ble_eq_true rfl) (Nat.le_of_ble_eq_true rfl) ⟨Nat.le_refl _, Nat.le_refl _⟩ ?_
  exact x_ireturn dX7_enter_136 rfl rfl ⟨Nat.le_refl _, Nat.le_refl _⟩ ⟨rfl, _, rfl, jCl_ref hst (by omega) (by decide)⟩
theorem kX7_enter_y1 {G : JG} {S : JS} {D : JD} {d : Nat} {X t cz n q : Int} {hs : Int → Int → Int} {r : Int → Int} {k c : Int} (hB : jBL S X) (hz : cz = 0 ∨ cz = 1) (hst : jSt D X t cz n hs r q) (ht : t + 100 ≤ 60000)(k0 : 0 ≤ k) (k1 : k < r 2) (c0 : 0 ≤ c) (c1 : c < r 1) (hg : r (29 + 11 * c) = 1) (hp : r (71 + 8 * k) = c + 1) (ha : ¬ gAgr r k) (hl : ¬ sLf r c < r (65 + 8 * k)) (hd : ¬ gDeep r k c 1) : JM G yX7_enter cX7_enter 6 (some .int) (d + 5) (0, 0) S D [.inr (.inr (some X)), .inl k, .inl c] (jrP S (jCl D X (t + 100) cz n hs r q (sLf (rEnter k c 1 r) c, some (rEnter k c 1 r), 0))) := by
  have hB0 := hB
  obtain ⟨bk, bf, bh, bs, bo, hF, hH, sk, sl, ok, ot, tk, tl⟩ := id hB
  have fk := hF.1
  have hhk := hH.1
  obtain ⟨s5, s4, hR, hI, hi⟩ := id hst
  have hc := hR.ct hI
  have b1 := hI.1
  have n2 := hR.1.2.2.1
  have n1 := hR.1.2.1
  have bk := hF.bk hI k0 k1
  obtain ⟨e0, e1, e2, e3, e4, e5, e6, e7⟩ := hR.ba k0 k1
  obtain ⟨bp, w0, w1, i0, i1, d0, d1⟩ := hI.bw k0 k1
  have bl := bp.lin hI (X + 1)
  obtain ⟨wr, wo, wm⟩ := hR.wat hI (by omega) bp
  have dpb := hI.dp wo wm
  have bo := hI.2.2.2.1 k k0 k1
  unfold rBo at bo
  have hC := (hF.2.2.2.2.2.2.2.2.2.2.2.1 c c0 (by omega)).2
  have ck := hC.1
  have wp : rPl r (100 + c) := Or.inr ⟨by omega, by omega⟩
  obtain ⟨-, wo2, wm2⟩ := hR.wat hI (by omega) wp
  have dpc := hI.dp wo2 wm2
  have co := (hI.2.2.1 c c0 c1).2
  unfold rCo at co
  have hlle := sLf_le hI c
  obtain ⟨s5, s6, s7, s4, sr, q1, q2, q3, q4, q5, q6⟩ := (hR.2.2.1 c c0 c1).2
  rw [if_neg (by omega), hg] at s7
  have sk : jK S (X + 1 + 9 + 5 * c + 3) = 5 := hC.2.2.2.2.2.2.2.1
  have hhg := sHg_r hI c0 c1 (g := 1) (by omega)
  unfold gDeep at hd
  show JX _ _ _ _ _ _ _ _ _ _ _ [_, _, _, _, _, _] _ _
  refine x_aload_n dX7_enter_0 rfl ?_
  refine gf_RX7_10 dX7_enter_1 rfl (by assumption) ?_
  rw [bf]
  refine x_iload_n dX7_enter_4 rfl ?_
  refine c_RX7_123d dX7_enter_5 rfl (kX2_bargeAt_y hF hc (by omega)) (by assumption) (Nat.le_of_ble_eq_true rfl) (Nat.le_of_ble_eq_true rfl) ⟨Nat.le_refl _, Nat.le_refl _⟩ ?_
  refine x_astore_n dX7_enter_8 (by decide) ?_
  show JX _ _ _ _ _ _ _ _ _ _ _ [_, _, _, _, _, _] _ _
  refine x_aload_n dX7_enter_9 rfl ?_
  refine gf_RX7_10 dX7_enter_10 rfl (by assumption) ?_
  rw [bf]
  refine x_iload_n dX7_enter_13 rfl ?_
  refine c_RX7_159d dX7_enter_14 rfl (kX2_chamberAt_y hF hc (by omega)) (by assumption) (Nat.le_of_ble_eq_true rfl) (Nat.le_of_ble_eq_true rfl) ⟨Nat.le_refl _, Nat.le_refl _⟩ ?_
  refine x_astore dX7_enter_17 (by decide) ?_
  show JX _ _ _ _ _ _ _ _ _ _ _ [_, _, _, _, _, _] _ _
  refine x_aload_n dX7_enter_19 rfl ?_
  refine x_ifnull (tgt := 28) dX7_enter_20 (by decide) (fun h => by cases h) (fun hb20 => ?_)
  refine x_aload dX7_enter_23 rfl ?_
  refine x_ifnonnull (tgt := 31) dX7_enter_25 (by decide) (fun hb25 => ?_) (fun h => by cases h)
  refine x_aload dX7_enter_31 rfl ?_
  refine x_aload dX7_enter_33 rfl ?_
  refine gf_RX7_167 dX7_enter_35 rfl (by assumption) ?_
  rw [s7]
  refine c_RX7_188d dX7_enter_38 rfl (kX1_sillOf_1 hC) (by assumption) (Nat.le_of_ble_eq_true rfl) (Nat.le_of_ble_eq_true rfl) ⟨Nat.le_refl _, Nat.le_refl _⟩ ?_
  refine x_astore dX7_enter_41 (by decide) ?_
  show JX _ _ _ _ _ _ _ _ _ _ _ [_, _, _, _, _, _] _ _
  refine x_aload dX7_enter_43 rfl ?_
  refine x_ifnonnull (tgt := 54) dX7_enter_45 (by decide) (fun hb45 => ?_) (fun h => by cases h)
  refine x_aload_n dX7_enter_54 rfl ?_
  refine gf_RX7_131 dX7_enter_55 rfl (by assumption) ?_
  rw [e6]
  refine x_iload_n dX7_enter_58 rfl ?_
  refine x_aload dX7_enter_59 rfl ?_
  refine gf_RX7_167 dX7_enter_61 rfl (by assumption) ?_
  rw [s7]
  refine x_iadd dX7_enter_64 ?_
  refine x_ic_eq (tgt := 74) dX7_enter_65 (by decide) ⟨by omega, by omega⟩ ⟨by omega, by omega⟩ (fun hb65 => ?_) (fun h => (h (by omega)).elim)
  refine x_aload_n dX7_enter_74 rfl ?_
  refine gf_RX7_10 dX7_enter_75 rfl (by assumption) ?_
  rw [bf]
  refine x_aload_n dX7_enter_78 rfl ?_
  refine c_RX7_192d dX7_enter_79 rfl (kX2_isAground hF hR hI (by omega) k0 k1) (by assumption) (Nat.le_of_ble_eq_true rfl) (Nat.le_of_ble_eq_true rfl) ⟨Nat.le_refl _, Nat.le_refl _⟩ ?_
  refine x_if_eq (tgt := 91) dX7_enter_82 (by decide) ⟨by split <;> omega, by split <;> omega⟩ (fun hb82 => ?_) (fun h => (h (by rw [if_neg ha])).elim)
  refine x_aload_n dX7_enter_91 rfl ?_
  refine gf_RX7_196 dX7_enter_92 rfl (by assumption) ?_
  rw [e0]
  refine x_aload dX7_enter_95 rfl ?_
  refine gf_RX7_199 dX7_enter_97 rfl (by assumption) ?_
  rw [s6]
  refine x_ic_le (tgt := 110) dX7_enter_100 (by decide) ⟨by omega, by omega⟩ ⟨by omega, by omega⟩ (fun hb100 => ?_) (fun h => (h (by omega)).elim)
  refine x_aload_n dX7_enter_110 rfl ?_
  refine c_RX7_153d dX7_enter_111 rfl (kR_draught hF hR hI k0 k1) (by assumption) (Nat.le_of_ble_eq_true rfl) (Nat.le_of_ble_eq_true rfl) ⟨Nat.le_refl _, Nat.le_refl _⟩ ?_
  refine x_i2l dX7_enter_114 ⟨by omega, by omega⟩ ?_
  refine x_aload_n dX7_enter_115 rfl ?_
  refine gf_RX7_10 dX7_enter_116 rfl (by assumption) ?_
  rw [bf]
  refine x_aload dX7_enter_119 rfl ?_
  refine x_aload dX7_enter_121 rfl ?_
  refine c_RX7_202d dX7_enter_123 rfl (kX2_mostDraught_1 hF hR hI (by omega) c0 c1) (by assumption) (Nat.le_of_ble_eq_true rfl) (Nat.le_of_ble_eq_true rfl) ⟨Nat.le_refl _, Nat.le_refl _⟩ ?_
  refine x_lc_le (tgt := 137) dX7_enter_126 dX7_enter_127 (by decide) ⟨by omega, by omega⟩ ⟨by omega, by omega⟩ (fun hb127 => ?_) (fun h => (h (by omega)).elim)
  refine x_aload_n dX7_enter_137 rfl ?_
  refine c_RX7_51p dX7_enter_138 rfl (kX7_record hB hz hst) (by assumption) (Nat.le_of_ble_eq_true rfl) (Nat.le_of_ble_eq_true rfl) ⟨Nat.le_refl _, Nat.le_refl _⟩ (fun D1 h1 => ?_)
  obtain ⟨st1, x1⟩ := h1
  obtain ⟨t5, t4, hR1, hI1, hi1⟩ := id st1
  have hc1 := hR1.ct hI1
  obtain ⟨v0, v1, v2, v3, v4, v5, v6, v7⟩ := hR1.ba k0 k1
  obtain ⟨u5, u6, u7, u4, ur, y1, y2, y3, y4, y5, y6⟩ := (hR1.2.2.1 c c0 c1).2
  rw [if_neg (by omega), hg] at u7
  have hrm := hI.room c0 c1 k0 k1 (by omega)
  refine x_aload dX7_enter_141 rfl ?_
  refine x_iload_n dX7_enter_143 rfl ?_
  refine x_aload_n dX7_enter_144 rfl ?_
  refine gf_RX7_196 dX7_enter_145 rfl (by assumption) ?_
  rw [v0]
  refine x_aload dX7_enter_148 rfl ?_
  refine gf_RX7_167 dX7_enter_150 rfl (by assumption) ?_
  rw [u7]
  refine c_RX7_206d dX7_enter_153 rfl (kX1_takeIn_1 hC (by omega)) (by assumption) (Nat.le_of_ble_eq_true rfl) (Nat.le_of_ble_eq_true rfl) ⟨Nat.le_refl _, Nat.le_refl _⟩ ?_
  have fI : ∀ z : Int, (dIn D1 (X + 1 + 9 + 5 * c) k (r (65 + 8 * k)) 1) (X + 1) z = D1 (X + 1) z := fun z => dIn_o (by omega) (by omega)
  have fB : ∀ z : Int, (dIn D1 (X + 1 + 9 + 5 * c) k (r (65 + 8 * k)) 1) (X + 1 + 29 + k) z = D1 (X + 1 + 29 + k) z := fun z => dIn_o (by omega) (by omega)
  have hcI := hc1.fr fI
  have bp1 : rPl r (c + 1) := by rw [← hp]; exact bp
  have wkp : jK S (sWa (X + 1) (c + 1)) = 6 := hF.wat hI bp1
  have wkq : jK S (sWa (X + 1) (100 + c)) = 6 := hF.wat hI wp
  have ep : sWa (X + 1) (c + 1) = X + 1 + 4 + (c + 1) := by unfold sWa; rw [if_pos (by omega)]
  have eq : sWa (X + 1) (100 + c) = X + 1 + 9 + 5 * c + 1 := by unfold sWa; rw [if_neg (by omega)]; omega
  have fp : fWa (dIn D1 (X + 1 + 9 + 5 * c) k (r (65 + 8 * k)) 1) (X + 1) (c + 1) = some (sWa (X + 1) (c + 1)) := by rw [fWa_fr fI]; exact hR1.watS hI1 bp1
  have fq : fWa (dIn D1 (X + 1 + 9 + 5 * c) k (r (65 + 8 * k)) 1) (X + 1) (100 + c) = some (sWa (X + 1) (100 + c)) := by rw [fWa_fr fI]; exact hR1.watS hI1 wp
  have hpI : (dIn D1 (X + 1 + 9 + 5 * c) k (r (65 + 8 * k)) 1) (X + 1 + 29 + k) 6 = c + 1 := by rw [fB, v6, hp]
  have hWI : (dIn D1 (X + 1 + 9 + 5 * c) k (r (65 + 8 * k)) 1) (X + 1 + 29 + k) 1 + (dIn D1 (X + 1 + 9 + 5 * c) k (r (65 + 8 * k)) 1) (X + 1 + 29 + k) 4 + (dIn D1 (X + 1 + 9 + 5 * c) k (r (65 + 8 * k)) 1) (X + 1 + 29 + k) 5 = sW r k := by rw [fB, fB, fB, v1, v4, v5]; rfl
  refine x_aload_n dX7_enter_156 rfl ?_
  refine gf_RX7_10 dX7_enter_157 rfl (by assumption) ?_
  rw [bf]
  refine x_aload_n dX7_enter_160 rfl ?_
  refine x_bipush dX7_enter_161 (by decide) ?_
  refine x_iload_n dX7_enter_163 rfl ?_
  refine x_iadd dX7_enter_164 ?_
  refine c_RX7_209d dX7_enter_165 rfl (kX2_move hF hcI ⟨by omega, by omega⟩ ⟨by omega, by omega⟩ bk wkp wkq hpI fp fq hWI ⟨by omega, by omega⟩ (by omega) (by omega)) (by assumption) (Nat.le_of_ble_eq_true rfl) (Nat.le_of_ble_eq_true rfl) ⟨Nat.le_refl _, Nat.le_refl _⟩ ?_
  have sp : dMv (dIn D1 (X + 1 + 9 + 5 * c) k (r (65 + 8 * k)) 1) (sWa (X + 1) (c + 1)) (sWa (X + 1) (100 + c)) (X + 1 + 29 + k) (100 + c) (sW r k) (X + 1 + 9 + 5 * c + 3) 2 = r (31 + 11 * c) := by rw [dMv_o (by omega) (by omega) (by omega), dIn_o (by omega) (by omega), y6]
  refine x_aload dX7_enter_168 rfl ?_
  refine c_RX7_213d dX7_enter_170 rfl (kX5_countPassage sk (by omega) (by omega)) (by assumption) (Nat.le_of_ble_eq_true rfl) (Nat.le_of_ble_eq_true rfl) ⟨Nat.le_refl _, Nat.le_refl _⟩ ?_
  have hR2 := hR1.enter hI1 (g := 1) (cc := X + 1 + 9 + 5 * c) (sl := X + 1 + 9 + 5 * c + 3) c0 c1 (by omega) k0 k1 hp rfl (by omega) ep eq rfl
  have hI2 := (hI1.enter (g := 1) c0 c1 (by omega) k0 k1 hp (by omega)).mono (show t + 1 ≤ t + 100 by omega)
  have psd := psd_in (g := 1) hI1 c0 c1 k0 k1 (by omega)
  have r21 : rEnter k c 1 r 1 = r 1 := psd 1 (by omega) (by omega) (by omega) (by omega) (by omega)
  refine x_aload_n dX7_enter_173 rfl ?_
  refine gf_RX7_10 dX7_enter_174 rfl (by assumption) ?_
  rw [bf]
  refine c_RX7_58p dX7_enter_177 rfl (kX2_settle hF hR2 hI2 (by omega)) (by assumption) (Nat.le_of_ble_eq_true rfl) (Nat.le_of_ble_eq_true rfl) ⟨Nat.le_refl _, Nat.le_refl _⟩ (fun D9 h9 => ?_)
  obtain ⟨hR4, hx4⟩ := h9
  have k4 := hI2.keep (j := 1) (by omega)
  have hlf := ((hR4.2.2.1 c c0 (by omega)).2).2.1
  rw [sLf_all hI2 c0 (by omega)] at hlf
  refine x_aload dX7_enter_180 rfl ?_
  refine gf_RX7_199 dX7_enter_182 rfl (by assumption) ?_
  rw [hlf]
  exact x_ireturn dX7_enter_185 rfl rfl ⟨Nat.le_refl _, Nat.le_refl _⟩ ⟨rfl, _, rfl, jCl_somex x1 st1 (fun x z hx => by rw [dPass_o (by omega), dMv_o (by omega) (by omega) (by omega), dIn_o (by omega) (by omega)]) hx4 hR4 hI2 (by omega)⟩
theorem kX7_enter {G : JG} {S : JS} {D : JD} {d : Nat} {X t cz n q : Int} {hs : Int → Int → Int} {r : Int → Int} {k c : Int} (hB : jBL S X) (hz : cz = 0 ∨ cz = 1) (hst : jSt D X t cz n hs r q) (ht : t + 100 ≤ 60000) (rk : i32 k) (rc : i32 c) : JM G yX7_enter cX7_enter 6 (some .int) (d + 5) (0, 0) S D [.inr (.inr (some X)), .inl k, .inl c] (jrP S (jCl D X (t + 100) cz n hs r q (zEnter k c r))) := by
  unfold zEnter
  by_cases hk : 0 ≤ k ∧ k < r 2
  · by_cases hc : 0 ≤ c ∧ c < r 1
    · rw [if_pos ⟨hk, hc⟩]
      obtain ⟨k0, k1⟩ := hk
      obtain ⟨c0, c1⟩ := hc
      by_cases hg : r (29 + 11 * c) < 0
      · rw [if_pos hg]; exact kX7_enter_g hB hz hst ht k0 k1 c0 c1 hg
      · rw [if_neg hg]
        have hgt := hst.2.2.2.1.gates c c0 c1
        have hg2 : r (29 + 11 * c) = 0 ∨ r (29 + 11 * c) = 1 := by omega
        rcases hg2 with hg2 | hg2
        · rw [hg2]
          by_cases hp : r (71 + 8 * k) = c + 0
          · rw [if_neg (fun z => z hp)]
            by_cases ha : gAgr r k
            · rw [if_pos ha]; exact kX7_enter_a0 hB hz hst ht k0 k1 c0 c1 hg2 hp ha
            · rw [if_neg ha]
              by_cases hl : sLf r c < r (65 + 8 * k)
              · rw [if_pos hl]; exact kX7_enter_l0 hB hz hst ht k0 k1 c0 c1 hg2 hp ha hl
              · rw [if_neg hl]
                by_cases hd : gDeep r k c 0
                · rw [if_pos hd]; exact kX7_enter_d0 hB hz hst ht k0 k1 c0 c1 hg2 hp ha hl hd
                · rw [if_neg hd]; exact kX7_enter_y0 hB hz hst ht k0 k1 c0 c1 hg2 hp ha hl hd
          · rw [if_pos hp]; exact kX7_enter_p0 hB hz hst ht k0 k1 c0 c1 hg2 hp
        · rw [hg2]
          by_cases hp : r (71 + 8 * k) = c + 1
          · rw [if_neg (fun z => z hp)]
            by_cases ha : gAgr r k
            · rw [if_pos ha]; exact kX7_enter_a1 hB hz hst ht k0 k1 c0 c1 hg2 hp ha
            · rw [if_neg ha]
              by_cases hl : sLf r c < r (65 + 8 * k)
              · rw [if_pos hl]; exact kX7_enter_l1 hB hz hst ht k0 k1 c0 c1 hg2 hp ha hl
              · rw [if_neg hl]
                by_cases hd : gDeep r k c 1
                · rw [if_pos hd]; exact kX7_enter_d1 hB hz hst ht k0 k1 c0 c1 hg2 hp ha hl hd
                · rw [if_neg hd]; exact kX7_enter_y1 hB hz hst ht k0 k1 c0 c1 hg2 hp ha hl hd
          · rw [if_pos hp]; exact kX7_enter_p1 hB hz hst ht k0 k1 c0 c1 hg2 hp
    · rw [if_neg (fun z => hc z.2)]; exact kX7_enter_u2 hB hz hst ht hk rc hc
  · rw [if_neg (fun z => hk z.1)]; exact kX7_enter_u1 hB hz hst ht rk rc hk
