/-! THE REFERENCE: what an act does ahead of the history and of sharing -/
def jDo (D : JD) (M : Int) (r : Int → Int) (z : Zr) (w : JV) (D2 : JD) : Prop :=
  w = .inl z.1 ∧ (∀ x : Int, x ≠ M → x ≠ M + 1 → D2 x = D x) ∧ (∀ k : Int, k ≠ 6 → D2 M k = D M k) ∧ D2 (M + 1) = (match z.2.1 with | some r2 => r2 | none => r) ∧ D2 M 6 = (if z.2.2 = 0 then D M 6 else z.2.2)
theorem jDo_none {D : JD} {M v : Int} {r : Int → Int} (hr : D (M + 1) = r) : jDo D M r (v, none, 0) (.inl v) D := ⟨rfl, fun _ _ _ => rfl, fun _ _ => rfl, hr, by rw [if_pos rfl]⟩
theorem jDo_ref {D : JD} {M v e : Int} {r : Int → Int} (hr : D (M + 1) = r) (he : e ≠ 0) : jDo D M r (v, none, e) (.inl v) (jup D M 6 e) :=
  ⟨rfl, fun x h _ => jup_off h, fun k h => jup_nk h, by rw [jup_off (by omega)]; exact hr, by show jup D M 6 e M 6 = (if e = 0 then D M 6 else e); rw [if_neg he, jup_eq]⟩
theorem jDo_some {D : JD} {M v k x : Int} {r : Int → Int} (hr : D (M + 1) = r) : jDo D M r (v, some (rup r k x), 0) (.inl v) (jup D (M + 1) k x) :=
  ⟨rfl, fun x _ h => jup_off h, fun k _ => by rw [jup_ne (by omega)], by rw [jup_row, hr], by rw [jup_ne (by omega), if_pos rfl]⟩
theorem kX8_doClose_u {G : JG} {S : JS} {D : JD} {d : Nat} {M t : Int} {r : Int → Int} {c : Int} (hM : jMo S M) (hr : D (M + 1) = r) (hI : rIn t r) (ht : t ≤ 60000) (rc : i32 c) (h : ¬ (0 ≤ c ∧ c < r 1)) : JM G yX8_doClose cX8_doClose 3 (some .int) (d + 2) (0, 0) S D [.inr (.inr (some M)), .inl c] (jrP S (jDo D M r (-100000001, none, 0))) := by
  have hM0 := hM
  obtain ⟨mk, m0, m1, m2, m4, m5, m8, m12, y1, l1, y2, l2, y3, l3, y4, l4, y5, l5, y6, l6, y7, l7⟩ := id hM
  have hr0 := hr
  have b1 := hI.1
  show JX _ _ _ _ _ _ _ _ _ _ _ [_, _, _] _ _
  refine x_aload_n dX8_doClose_0 rfl ?_
  refine x_iload_n dX8_doClose_1 rfl ?_
  refine c_RX8_56d dX8_doClose_2 rfl (kX8_noChamber hM0 hr0 rc (by omega)) (by assumption) (Nat.le_of_ble_eq_true rfl) (Nat.le_of_ble_eq_true rfl) ⟨Nat.le_refl _, Nat.le_refl _⟩ ?_
  refine x_if_eq (tgt := 11) dX8_doClose_5 (by decide) ⟨by split <;> omega, by split <;> omega⟩ (fun h => absurd h (by omega)) (fun hb5 => ?_)
  refine x_ldc (e := -100000001) dX8_doClose_8 ct_RX8_41 (by decide) ?_
  exact x_ireturn dX8_doClose_10 rfl rfl ⟨Nat.le_refl _, Nat.le_refl _⟩ ⟨rfl, _, rfl, jDo_none hr⟩
theorem kX8_doClose_r {G : JG} {S : JS} {D : JD} {d : Nat} {M t : Int} {r : Int → Int} {c : Int} (hM : jMo S M) (hr : D (M + 1) = r) (hI : rIn t r) (ht : t ≤ 60000) (h0 : 0 ≤ c) (h1 : c < r 1) (h : r (29 + 11 * c) < 0) : JM G yX8_doClose cX8_doClose 3 (some .int) (d + 2) (0, 0) S D [.inr (.inr (some M)), .inl c] (jrP S (jDo D M r (-100000003, none, 2))) := by
  have hM0 := hM
  obtain ⟨mk, m0, m1, m2, m4, m5, m8, m12, y1, l1, y2, l2, y3, l3, y4, l4, y5, l5, y6, l6, y7, l7⟩ := id hM
  have hr0 := hr
  have b1 := hI.1
  have hg := hI.gates c h0 h1
  show JX _ _ _ _ _ _ _ _ _ _ _ [_, _, _] _ _
  refine x_aload_n dX8_doClose_0 rfl ?_
  refine x_iload_n dX8_doClose_1 rfl ?_
  refine c_RX8_56d dX8_doClose_2 rfl (kX8_noChamber hM0 hr0 ⟨by omega, by omega⟩ (by omega)) (by assumption) (Nat.le_of_ble_eq_true rfl) (Nat.le_of_ble_eq_true rfl) ⟨Nat.le_refl _, Nat.le_refl _⟩ ?_
  refine x_if_eq (tgt := 11) dX8_doClose_5 (by decide) ⟨by split <;> omega, by split <;> omega⟩ (fun hb5 => ?_) (fun h => (h (by omega)).elim)
  refine x_aload_n dX8_doClose_11 rfl ?_
  refine x_iload_n dX8_doClose_12 rfl ?_
  refine c_RX8_92d dX8_doClose_13 rfl (kX8_openGate hM0 hr0 h0 (by omega)) (by assumption) (Nat.le_of_ble_eq_true rfl) (Nat.le_of_ble_eq_true rfl) ⟨Nat.le_refl _, Nat.le_refl _⟩ ?_
  refine x_istore_n dX8_doClose_16 (by decide) ?_
  show JX _ _ _ _ _ _ _ _ _ _ _ [_, _, _] _ _
  refine x_iload_n dX8_doClose_17 rfl ?_
  refine x_if_ge (tgt := 27) dX8_doClose_18 (by decide) ⟨by omega, by omega⟩ (fun h => absurd h (by omega)) (fun hb18 => ?_)
  refine x_aload_n dX8_doClose_21 rfl ?_
  refine x_iconst dX8_doClose_22 ?_
  refine c_RX8_123d dX8_doClose_23 rfl (kX8_refuse hM0) (by assumption) (Nat.le_of_ble_eq_true rfl) (Nat.le_of_ble_eq_true rfl) ⟨Nat.le_refl _, Nat.le_refl _⟩ ?_
  exact x_ireturn dX8_doClose_26 rfl rfl ⟨Nat.le_refl _, Nat.le_refl _⟩ ⟨rfl, _, rfl, jDo_ref hr (by decide)⟩
theorem kX8_doClose_y {G : JG} {S : JS} {D : JD} {d : Nat} {M t : Int} {r : Int → Int} {c : Int} (hM : jMo S M) (hr : D (M + 1) = r) (hI : rIn t r) (ht : t ≤ 60000) (h0 : 0 ≤ c) (h1 : c < r 1) (h : ¬ r (29 + 11 * c) < 0) : JM G yX8_doClose cX8_doClose 3 (some .int) (d + 2) (0, 0) S D [.inr (.inr (some M)), .inl c] (jrP S (jDo D M r (r (29 + 11 * c), some (rup r (29 + 11 * c) (-100000005)), 0))) := by
  have hM0 := hM
  obtain ⟨mk, m0, m1, m2, m4, m5, m8, m12, y1, l1, y2, l2, y3, l3, y4, l4, y5, l5, y6, l6, y7, l7⟩ := id hM
  have hr0 := hr
  have b1 := hI.1
  have hg := hI.gates c h0 h1
  show JX _ _ _ _ _ _ _ _ _ _ _ [_, _, _] _ _
  refine x_aload_n dX8_doClose_0 rfl ?_
  refine x_iload_n dX8_doClose_1 rfl ?_
  refine c_RX8_56d dX8_doClose_2 rfl (kX8_noChamber hM0 hr0 ⟨by omega, by omega⟩ (by omega)) (by assumption) (Nat.le_of_ble_eq_true rfl) (Nat.le_of_ble_eq_true rfl) ⟨Nat.le_refl _, Nat.le_refl _⟩ ?_
  refine x_if_eq (tgt := 11) dX8_doClose_5 (by decide) ⟨by split <;> omega, by split <;> omega⟩ (fun hb5 => ?_) (fun h => (h (by omega)).elim)
  refine x_aload_n dX8_doClose_11 rfl ?_
  refine x_iload_n dX8_doClose_12 rfl ?_
  refine c_RX8_92d dX8_doClose_13 rfl (kX8_openGate hM0 hr0 h0 (by omega)) (by assumption) (Nat.le_of_ble_eq_true rfl) (Nat.le_of_ble_eq_true rfl) ⟨Nat.le_refl _, Nat.le_refl _⟩ ?_
  refine x_istore_n dX8_doClose_16 (by decide) ?_
  show JX _ _ _ _ _ _ _ _ _ _ _ [_, _, _] _ _
  refine x_iload_n dX8_doClose_17 rfl ?_
  refine x_if_ge (tgt := 27) dX8_doClose_18 (by decide) ⟨by omega, by omega⟩ (fun hb18 => ?_) (fun h => (h (by omega)).elim)
  refine x_aload_n dX8_doClose_27 rfl ?_
  refine gf_RX8_7 dX8_doClose_28 rfl (by assumption) ?_
  rw [m0]
  refine x_bipush dX8_doClose_31 (by decide) ?_
  refine x_bipush dX8_doClose_33 (by decide) ?_
  refine x_iload_n dX8_doClose_35 rfl ?_
  refine x_imul dX8_doClose_36 ?_
  refine x_iadd dX8_doClose_37 ?_
  refine x_bipush dX8_doClose_38 (by decide) ?_
  refine x_iadd dX8_doClose_40 ?_
  refine x_ldc (e := -100000005) dX8_doClose_41 ct_RX8_48 (by decide) ?_
  refine x_iast dX8_doClose_43 (by assumption) ⟨by omega, by omega⟩ ?_
  rw [show 21 + 11 * c + 8 = 29 + 11 * c by omega]
  refine x_iload_n dX8_doClose_44 rfl ?_
  exact x_ireturn dX8_doClose_45 rfl rfl ⟨Nat.le_refl _, Nat.le_refl _⟩ ⟨rfl, _, rfl, jDo_some hr⟩
theorem kX8_doClose {G : JG} {S : JS} {D : JD} {d : Nat} {M t : Int} {r : Int → Int} {c : Int} (hM : jMo S M) (hr : D (M + 1) = r) (hI : rIn t r) (ht : t ≤ 60000) (rc : i32 c) : JM G yX8_doClose cX8_doClose 3 (some .int) (d + 2) (0, 0) S D [.inr (.inr (some M)), .inl c] (jrP S (jDo D M r (zClose c r))) := by
  unfold zClose
  by_cases h : 0 ≤ c ∧ c < r 1
  · rw [if_pos h]
    by_cases hv : r (29 + 11 * c) < 0
    · rw [if_pos hv]; exact kX8_doClose_r hM hr hI ht h.1 h.2 hv
    · rw [if_neg hv]; exact kX8_doClose_y hM hr hI ht h.1 h.2 hv
  · rw [if_neg h]; exact kX8_doClose_u hM hr hI ht rc h
def zDoSluice (c g : Int) (r : Int → Int) : Zr := if (0 ≤ c ∧ c < r 1) ∧ (g = 0 ∨ g = 1) then (if r (29 + 11 * c) < 0 then (0, some (sSh r c g), 0) else (-100000003, none, 1)) else (-100000001, none, 0)
def zDoOpen (c g : Int) (r : Int → Int) : Zr := if (0 ≤ c ∧ c < r 1) ∧ (g = 0 ∨ g = 1) then (if r (29 + 11 * c) < 0 then (if sLv r (100 + c) - sLv r (c + g) ≤ 2 ∧ sLv r (c + g) - sLv r (100 + c) ≤ 2 then (0, some (rup r (29 + 11 * c) g), 0) else (-100000003, none, 3)) else (-100000003, none, 1)) else (-100000001, none, 0)
theorem kX8_doSluice_u {G : JG} {S : JS} {D : JD} {d : Nat} {M t : Int} {r : Int → Int} {c g : Int} (hM : jMo S M) (hr : D (M + 1) = r) (hI : rIn t r) (ht : t ≤ 60000) (rc : i32 c) (rg : i32 g) (h : ¬ ((0 ≤ c ∧ c < r 1) ∧ (g = 0 ∨ g = 1))) : JM G yX8_doSluice cX8_doSluice 3 (some .int) (d + 5) (0, 0) S D [.inr (.inr (some M)), .inl c, .inl g] (jrP S (jDo D M r (-100000001, none, 0))) := by
  have hM0 := hM
  obtain ⟨mk, m0, m1, m2, m4, m5, m8, m12, y1, l1, y2, l2, y3, l3, y4, l4, y5, l5, y6, l6, y7, l7⟩ := id hM
  have hr0 := hr
  have b1 := hI.1
  show JX _ _ _ _ _ _ _ _ _ _ _ [_, _, _] _ _
  refine x_aload_n dX8_doSluice_0 rfl ?_
  refine x_iload_n dX8_doSluice_1 rfl ?_
  refine x_iload_n dX8_doSluice_2 rfl ?_
  refine c_RX8_113d dX8_doSluice_3 rfl (kX8_noGate hM0 hr0 rc rg (by omega)) (by assumption) (Nat.le_of_ble_eq_true rfl) (Nat.le_of_ble_eq_true rfl) ⟨Nat.le_refl _, Nat.le_refl _⟩ ?_
  refine x_if_eq (tgt := 12) dX8_doSluice_6 (by decide) ⟨by split <;> omega, by split <;> omega⟩ (fun hz => absurd hz (by rw [if_neg h]; decide)) (fun hb6 => ?_)
  refine x_ldc (e := -100000001) dX8_doSluice_9 ct_RX8_41 (by decide) ?_
  exact x_ireturn dX8_doSluice_11 rfl rfl ⟨Nat.le_refl _, Nat.le_refl _⟩ ⟨rfl, _, rfl, jDo_none hr⟩
theorem kX8_doSluice_r {G : JG} {S : JS} {D : JD} {d : Nat} {M t : Int} {r : Int → Int} {c g : Int} (hM : jMo S M) (hr : D (M + 1) = r) (hI : rIn t r) (ht : t ≤ 60000) (h0 : 0 ≤ c) (h1 : c < r 1) (hg : g = 0 ∨ g = 1) (h : ¬ r (29 + 11 * c) < 0) : JM G yX8_doSluice cX8_doSluice 3 (some .int) (d + 5) (0, 0) S D [.inr (.inr (some M)), .inl c, .inl g] (jrP S (jDo D M r (-100000003, none, 1))) := by
  have hM0 := hM
  obtain ⟨mk, m0, m1, m2, m4, m5, m8, m12, y1, l1, y2, l2, y3, l3, y4, l4, y5, l5, y6, l6, y7, l7⟩ := id hM
  have hr0 := hr
  have b1 := hI.1
  have hgt := hI.gates c h0 h1
  have hrr := hI.reach h0 h1 hg
  show JX _ _ _ _ _ _ _ _ _ _ _ [_, _, _] _ _
  refine x_aload_n dX8_doSluice_0 rfl ?_
  refine x_iload_n dX8_doSluice_1 rfl ?_
  refine x_iload_n dX8_doSluice_2 rfl ?_
  refine c_RX8_113d dX8_doSluice_3 rfl (kX8_noGate hM0 hr0 ⟨by omega, by omega⟩ ⟨by omega, by omega⟩ (by omega)) (by assumption) (Nat.le_of_ble_eq_true rfl) (Nat.le_of_ble_eq_true rfl) ⟨Nat.le_refl _, Nat.le_refl _⟩ ?_
  refine x_if_eq (tgt := 12) dX8_doSluice_6 (by decide) ⟨by split <;> omega, by split <;> omega⟩ (fun hb6 => ?_) (fun hz => (hz (by rw [if_pos ⟨⟨h0, h1⟩, hg⟩])).elim)
  refine x_aload_n dX8_doSluice_12 rfl ?_
  refine x_iload_n dX8_doSluice_13 rfl ?_
  refine c_RX8_92d dX8_doSluice_14 rfl (kX8_openGate hM0 hr0 h0 (by omega)) (by assumption) (Nat.le_of_ble_eq_true rfl) (Nat.le_of_ble_eq_true rfl) ⟨Nat.le_refl _, Nat.le_refl _⟩ ?_
  refine x_if_lt (tgt := 26) dX8_doSluice_17 (by decide) ⟨by omega, by omega⟩ (fun h => absurd h (by omega)) (fun hb17 => ?_)
  refine x_aload_n dX8_doSluice_20 rfl ?_
  refine x_iconst dX8_doSluice_21 ?_
  refine c_RX8_123d dX8_doSluice_22 rfl (kX8_refuse hM0) (by assumption) (Nat.le_of_ble_eq_true rfl) (Nat.le_of_ble_eq_true rfl) ⟨Nat.le_refl _, Nat.le_refl _⟩ ?_
  exact x_ireturn dX8_doSluice_25 rfl rfl ⟨Nat.le_refl _, Nat.le_refl _⟩ ⟨rfl, _, rfl, jDo_ref hr (by decide)⟩
theorem kX8_doSluice_y {G : JG} {S : JS} {D : JD} {d : Nat} {M t : Int} {r : Int → Int} {c g : Int} (hM : jMo S M) (hr : D (M + 1) = r) (hI : rIn t r) (ht : t ≤ 60000) (h0 : 0 ≤ c) (h1 : c < r 1) (hg : g = 0 ∨ g = 1) (h : r (29 + 11 * c) < 0) : JM G yX8_doSluice cX8_doSluice 3 (some .int) (d + 5) (0, 0) S D [.inr (.inr (some M)), .inl c, .inl g] (jrP S (jDo D M r (0, some (sSh r c g), 0))) := by
  have hM0 := hM
  obtain ⟨mk, m0, m1, m2, m4, m5, m8, m12, y1, l1, y2, l2, y3, l3, y4, l4, y5, l5, y6, l6, y7, l7⟩ := id hM
  have hr0 := hr
  have b1 := hI.1
  have hgt := hI.gates c h0 h1
  have hrr := hI.reach h0 h1 hg
  show JX _ _ _ _ _ _ _ _ _ _ _ [_, _, _] _ _
  refine x_aload_n dX8_doSluice_0 rfl ?_
  refine x_iload_n dX8_doSluice_1 rfl ?_
  refine x_iload_n dX8_doSluice_2 rfl ?_
  refine c_RX8_113d dX8_doSluice_3 rfl (kX8_noGate hM0 hr0 ⟨by omega, by omega⟩ ⟨by omega, by omega⟩ (by omega)) (by assumption) (Nat.le_of_ble_eq_true rfl) (Nat.le_of_ble_eq_true rfl) ⟨Nat.le_refl _, Nat.le_refl _⟩ ?_
  refine x_if_eq (tgt := 12) dX8_doSluice_6 (by decide) ⟨by split <;> omega, by split <;> omega⟩ (fun hb6 => ?_) (fun hz => (hz (by rw [if_pos ⟨⟨h0, h1⟩, hg⟩])).elim)
  refine x_aload_n dX8_doSluice_12 rfl ?_
  refine x_iload_n dX8_doSluice_13 rfl ?_
  refine c_RX8_92d dX8_doSluice_14 rfl (kX8_openGate hM0 hr0 h0 (by omega)) (by assumption) (Nat.le_of_ble_eq_true rfl) (Nat.le_of_ble_eq_true rfl) ⟨Nat.le_refl _, Nat.le_refl _⟩ ?_
  refine x_if_lt (tgt := 26) dX8_doSluice_17 (by decide) ⟨by omega, by omega⟩ (fun hb17 => ?_) (fun h => (h (by omega)).elim)
  refine x_aload_n dX8_doSluice_26 rfl ?_
  refine x_iload_n dX8_doSluice_27 rfl ?_
  refine x_iload_n dX8_doSluice_28 rfl ?_
  refine c_RX8_95p dX8_doSluice_29 rfl (kX8_share hM0 hr0 hI ht h0 h1 hg) (by assumption) (Nat.le_of_ble_eq_true rfl) (Nat.le_of_ble_eq_true rfl) ⟨Nat.le_refl _, Nat.le_refl _⟩ (fun D9 h9 => ?_)
  refine x_iconst dX8_doSluice_32 ?_
  exact x_ireturn dX8_doSluice_33 rfl rfl ⟨Nat.le_refl _, Nat.le_refl _⟩ ⟨rfl, _, rfl, rfl, fun x p q => h9.2 x q, fun k p => by rw [h9.2 M (by omega)], h9.1, by rw [h9.2 M (by omega), if_pos rfl]⟩
theorem kX8_doOpen_u {G : JG} {S : JS} {D : JD} {d : Nat} {M t : Int} {r : Int → Int} {c g : Int} (hM : jMo S M) (hr : D (M + 1) = r) (hI : rIn t r) (ht : t ≤ 60000) (rc : i32 c) (rg : i32 g) (h : ¬ ((0 ≤ c ∧ c < r 1) ∧ (g = 0 ∨ g = 1))) : JM G yX8_doOpen cX8_doOpen 3 (some .int) (d + 5) (0, 0) S D [.inr (.inr (some M)), .inl c, .inl g] (jrP S (jDo D M r (-100000001, none, 0))) := by
  have hM0 := hM
  obtain ⟨mk, m0, m1, m2, m4, m5, m8, m12, y1, l1, y2, l2, y3, l3, y4, l4, y5, l5, y6, l6, y7, l7⟩ := id hM
  have hr0 := hr
  have b1 := hI.1
  show JX _ _ _ _ _ _ _ _ _ _ _ [_, _, _] _ _
  refine x_aload_n dX8_doOpen_0 rfl ?_
  refine x_iload_n dX8_doOpen_1 rfl ?_
  refine x_iload_n dX8_doOpen_2 rfl ?_
  refine c_RX8_113d dX8_doOpen_3 rfl (kX8_noGate hM0 hr0 rc rg (by omega)) (by assumption) (Nat.le_of_ble_eq_true rfl) (Nat.le_of_ble_eq_true rfl) ⟨Nat.le_refl _, Nat.le_refl _⟩ ?_
  refine x_if_eq (tgt := 12) dX8_doOpen_6 (by decide) ⟨by split <;> omega, by split <;> omega⟩ (fun hz => absurd hz (by rw [if_neg h]; decide)) (fun hb6 => ?_)
  refine x_ldc (e := -100000001) dX8_doOpen_9 ct_RX8_41 (by decide) ?_
  exact x_ireturn dX8_doOpen_11 rfl rfl ⟨Nat.le_refl _, Nat.le_refl _⟩ ⟨rfl, _, rfl, jDo_none hr⟩
theorem kX8_doOpen_r {G : JG} {S : JS} {D : JD} {d : Nat} {M t : Int} {r : Int → Int} {c g : Int} (hM : jMo S M) (hr : D (M + 1) = r) (hI : rIn t r) (ht : t ≤ 60000) (h0 : 0 ≤ c) (h1 : c < r 1) (hg : g = 0 ∨ g = 1) (h : ¬ r (29 + 11 * c) < 0) : JM G yX8_doOpen cX8_doOpen 3 (some .int) (d + 5) (0, 0) S D [.inr (.inr (some M)), .inl c, .inl g] (jrP S (jDo D M r (-100000003, none, 1))) := by
  have hM0 := hM
  obtain ⟨mk, m0, m1, m2, m4, m5, m8, m12, y1, l1, y2, l2, y3, l3, y4, l4, y5, l5, y6, l6, y7, l7⟩ := id hM
  have hr0 := hr
  have b1 := hI.1
  have hgt := hI.gates c h0 h1
  have hrr := hI.reach h0 h1 hg
  show JX _ _ _ _ _ _ _ _ _ _ _ [_, _, _] _ _
  refine x_aload_n dX8_doOpen_0 rfl ?_
  refine x_iload_n dX8_doOpen_1 rfl ?_
  refine x_iload_n dX8_doOpen_2 rfl ?_
  refine c_RX8_113d dX8_doOpen_3 rfl (kX8_noGate hM0 hr0 ⟨by omega, by omega⟩ ⟨by omega, by omega⟩ (by omega)) (by assumption) (Nat.le_of_ble_eq_true rfl) (Nat.le_of_ble_eq_true rfl) ⟨Nat.le_refl _, Nat.le_refl _⟩ ?_
  refine x_if_eq (tgt := 12) dX8_doOpen_6 (by decide) ⟨by split <;> omega, by split <;> omega⟩ (fun hb6 => ?_) (fun hz => (hz (by rw [if_pos ⟨⟨h0, h1⟩, hg⟩])).elim)
  refine x_aload_n dX8_doOpen_12 rfl ?_
  refine x_iload_n dX8_doOpen_13 rfl ?_
  refine c_RX8_92d dX8_doOpen_14 rfl (kX8_openGate hM0 hr0 h0 (by omega)) (by assumption) (Nat.le_of_ble_eq_true rfl) (Nat.le_of_ble_eq_true rfl) ⟨Nat.le_refl _, Nat.le_refl _⟩ ?_
  refine x_if_lt (tgt := 26) dX8_doOpen_17 (by decide) ⟨by omega, by omega⟩ (fun h => absurd h (by omega)) (fun hb17 => ?_)
  refine x_aload_n dX8_doOpen_20 rfl ?_
  refine x_iconst dX8_doOpen_21 ?_
  refine c_RX8_123d dX8_doOpen_22 rfl (kX8_refuse hM0) (by assumption) (Nat.le_of_ble_eq_true rfl) (Nat.le_of_ble_eq_true rfl) ⟨Nat.le_refl _, Nat.le_refl _⟩ ?_
  exact x_ireturn dX8_doOpen_25 rfl rfl ⟨Nat.le_refl _, Nat.le_refl _⟩ ⟨rfl, _, rfl, jDo_ref hr (by decide)⟩
