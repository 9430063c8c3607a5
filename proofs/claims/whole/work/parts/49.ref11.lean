/-! THE REFERENCE: doLeave -/
theorem leave_loop {G : JG} {S : JS} {D0 : JD} {d : Nat} {M c n b : Int} {r : Int → Int} {Q : Option JV → JS → JD → Prop} (hM : jMo S M) (c0 : 0 ≤ c) (c1 : c < 4) (hn : n ≤ 12)
    (K : ∀ D : JD, D (M + 1) = rShO r c n → (∀ x : Int, x ≠ M + 1 → D x = D0 x) → JX G yX8_doLeave cX8_doLeave 7 (some .int) (d + 6) (0, 0) (0, 0) S D 147 [some (.inr (.inr (some M))), some (.inl c), some (.inl 0), some (.inl (161 + 13 * c)), some (.inl n), some (.inl b), some (.inl n)] [] Q) : ∀ (m : Nat) (z : Int) (D : JD), z + (m : Int) = n → 1 ≤ z → D (M + 1) = rShO r c z → (∀ x : Int, x ≠ M + 1 → D x = D0 x) →
    JX G yX8_doLeave cX8_doLeave 7 (some .int) (d + 6) (0, 0) (0, 0) S D 110 [some (.inr (.inr (some M))), some (.inl c), some (.inl 0), some (.inl (161 + 13 * c)), some (.inl n), some (.inl b), some (.inl z)] [] Q := by
  obtain ⟨mk, m0, m1, m2, m4, m5, m8, m12, y1, l1, y2, l2, y3, l3, y4, l4, y5, l5, y6, l6, y7, l7⟩ := id hM
  intro m
  induction m with
  | zero =>
    intro z D hz hm hr hX
    have hz0 : z = n := by omega
    subst hz0
    refine x_iload dX8_doLeave_110 rfl ?_
    refine x_iload dX8_doLeave_112 rfl ?_
    refine x_ic_ge (tgt := 147) dX8_doLeave_114 (by decide) ⟨by omega, by omega⟩ ⟨by omega, by omega⟩ (fun hb114 => ?_) (fun h => (h (by omega)).elim)
    exact K D hr hX
  | succ m ih =>
    intro z D hz hm hr hX
    refine x_iload dX8_doLeave_110 rfl ?_
    refine x_iload dX8_doLeave_112 rfl ?_
    refine x_ic_ge (tgt := 147) dX8_doLeave_114 (by decide) ⟨by omega, by omega⟩ ⟨by omega, by omega⟩ (fun h => absurd h (by omega)) (fun hb114 => ?_)
    refine x_iload_n dX8_doLeave_117 rfl ?_
    refine x_if_ne (tgt := 147) dX8_doLeave_118 (by decide) ⟨by omega, by omega⟩ (fun h => absurd h (by omega)) (fun hb118 => ?_)
    refine x_aload_n dX8_doLeave_121 rfl ?_
    refine gf_RX8_7 dX8_doLeave_122 rfl (by assumption) ?_
    rw [m0]
    refine x_iload_n dX8_doLeave_125 rfl ?_
    refine x_iload dX8_doLeave_126 rfl ?_
    refine x_iadd dX8_doLeave_128 ?_
    refine x_aload_n dX8_doLeave_129 rfl ?_
    refine gf_RX8_7 dX8_doLeave_130 rfl (by assumption) ?_
    rw [m0]
    refine x_iload_n dX8_doLeave_133 rfl ?_
    refine x_iload dX8_doLeave_134 rfl ?_
    refine x_iadd dX8_doLeave_136 ?_
    refine x_iconst dX8_doLeave_137 ?_
    refine x_iadd dX8_doLeave_138 ?_
    rw [show 161 + 13 * c + z + 1 = 162 + 13 * c + z by omega]
    refine x_iald dX8_doLeave_139 (by assumption) ⟨by omega, by omega⟩ ?_
    rw [hr, rShO_hi (by omega)]
    refine x_iast dX8_doLeave_140 (by assumption) ⟨by omega, by omega⟩ ?_
    refine x_iinc dX8_doLeave_141 rfl (by decide) ?_
    show JX _ _ _ _ _ _ _ _ _ _ _ [_, _, _, _, _, _, _] _ _
    refine x_goto (tgt := 110) dX8_doLeave_144 (by decide) ?_
    exact ih (z + 1) _ (by omega) (by omega) (by rw [jup_row, hr]; exact rShO_step (by omega)) (fun x hx => by rw [jup_off hx]; exact hX x hx)
theorem leave_skip {G : JG} {S : JS} {D : JD} {d : Nat} {M c n b : Int} {Q : Option JV → JS → JD → Prop} (hn : 1 ≤ n ∧ n ≤ 12) (K : JX G yX8_doLeave cX8_doLeave 7 (some .int) (d + 6) (0, 0) (0, 0) S D 147 [some (.inr (.inr (some M))), some (.inl c), some (.inl 1), some (.inl (161 + 13 * c)), some (.inl n), some (.inl b), some (.inl 1)] [] Q) : JX G yX8_doLeave cX8_doLeave 7 (some .int) (d + 6) (0, 0) (0, 0) S D 110 [some (.inr (.inr (some M))), some (.inl c), some (.inl 1), some (.inl (161 + 13 * c)), some (.inl n), some (.inl b), some (.inl 1)] [] Q := by
  refine x_iload dX8_doLeave_110 rfl ?_
  refine x_iload dX8_doLeave_112 rfl ?_
  refine x_ic_ge (tgt := 147) dX8_doLeave_114 (by decide) ⟨by omega, by omega⟩ ⟨by omega, by omega⟩ (fun hb114 => ?_) (fun hb114 => ?_)
  · exact K
  · refine x_iload_n dX8_doLeave_117 rfl ?_
    refine x_if_ne (tgt := 147) dX8_doLeave_118 (by decide) ⟨by omega, by omega⟩ (fun hb118 => ?_) (fun h => (h (by omega)).elim)
    exact K
theorem kX8_doLeave_u {G : JG} {S : JS} {D : JD} {d : Nat} {M t : Int} {r : Int → Int} {c g : Int} (hM : jMo S M) (hr : D (M + 1) = r) (hI : rIn t r) (ht : t ≤ 60000) (rc : i32 c) (rg : i32 g) (h : ¬ ((0 ≤ c ∧ c < r 1) ∧ (g = 0 ∨ g = 1))) : JM G yX8_doLeave cX8_doLeave 7 (some .int) (d + 6) (0, 0) S D [.inr (.inr (some M)), .inl c, .inl g] (jrP S (jDo D M r (-100000001, none, 0))) := by
  have hM0 := hM
  obtain ⟨mk, m0, m1, m2, m4, m5, m8, m12, y1, l1, y2, l2, y3, l3, y4, l4, y5, l5, y6, l6, y7, l7⟩ := id hM
  have hr0 := hr
  have b1 := hI.1
  show JX _ _ _ _ _ _ _ _ _ _ _ [_, _, _, _, _, _, _] _ _
  refine x_aload_n dX8_doLeave_0 rfl ?_
  refine x_iload_n dX8_doLeave_1 rfl ?_
  refine x_iload_n dX8_doLeave_2 rfl ?_
  refine c_RX8_113d dX8_doLeave_3 rfl (kX8_noGate hM0 hr0 rc rg (by omega)) (by assumption) (Nat.le_of_ble_eq_true rfl) (Nat.le_of_ble_eq_true rfl) ⟨Nat.le_refl _, Nat.le_refl _⟩ ?_
  refine x_if_eq (tgt := 12) dX8_doLeave_6 (by decide) ⟨by split <;> omega, by split <;> omega⟩ (fun hz => absurd hz (by rw [if_neg h]; decide)) (fun hb6 => ?_)
  refine x_ldc (e := -100000001) dX8_doLeave_9 ct_RX8_41 (by decide) ?_
  exact x_ireturn dX8_doLeave_11 rfl rfl ⟨Nat.le_refl _, Nat.le_refl _⟩ ⟨rfl, _, rfl, jDo_none hr⟩
theorem kX8_doLeave_g {G : JG} {S : JS} {D : JD} {d : Nat} {M t : Int} {r : Int → Int} {c g : Int} (hM : jMo S M) (hr : D (M + 1) = r) (hI : rIn t r) (ht : t ≤ 60000) (c0 : 0 ≤ c) (c1 : c < r 1) (hg : g = 0 ∨ g = 1) (h : r (29 + 11 * c) ≠ g) : JM G yX8_doLeave cX8_doLeave 7 (some .int) (d + 6) (0, 0) S D [.inr (.inr (some M)), .inl c, .inl g] (jrP S (jDo D M r (-100000003, none, 2))) := by
  have hM0 := hM
  obtain ⟨mk, m0, m1, m2, m4, m5, m8, m12, y1, l1, y2, l2, y3, l3, y4, l4, y5, l5, y6, l6, y7, l7⟩ := id hM
  have hr0 := hr
  have b1 := hI.1
  have c2 : c < 4 := by omega
  have co := (hI.2.2.1 c c0 c1).2
  unfold rCo at co
  have hln := hI.line c0 c1
  show JX _ _ _ _ _ _ _ _ _ _ _ [_, _, _, _, _, _, _] _ _
  refine x_aload_n dX8_doLeave_0 rfl ?_
  refine x_iload_n dX8_doLeave_1 rfl ?_
  refine x_iload_n dX8_doLeave_2 rfl ?_
  refine c_RX8_113d dX8_doLeave_3 rfl (kX8_noGate hM0 hr0 ⟨by omega, by omega⟩ ⟨by omega, by omega⟩ (by omega)) (by assumption) (Nat.le_of_ble_eq_true rfl) (Nat.le_of_ble_eq_true rfl) ⟨Nat.le_refl _, Nat.le_refl _⟩ ?_
  refine x_if_eq (tgt := 12) dX8_doLeave_6 (by decide) ⟨by split <;> omega, by split <;> omega⟩ (fun hb6 => ?_) (fun hz => (hz (by rw [if_pos ⟨⟨c0, c1⟩, hg⟩])).elim)
  refine x_aload_n dX8_doLeave_12 rfl ?_
  refine x_iload_n dX8_doLeave_13 rfl ?_
  refine c_RX8_92d dX8_doLeave_14 rfl (kX8_openGate hM0 hr0 c0 c2) (by assumption) (Nat.le_of_ble_eq_true rfl) (Nat.le_of_ble_eq_true rfl) ⟨Nat.le_refl _, Nat.le_refl _⟩ ?_
  refine x_iload_n dX8_doLeave_17 rfl ?_
  refine x_ic_eq (tgt := 27) dX8_doLeave_18 (by decide) ⟨by omega, by omega⟩ ⟨by omega, by omega⟩ (fun h => absurd h (by omega)) (fun hb18 => ?_)
  refine x_aload_n dX8_doLeave_21 rfl ?_
  refine x_iconst dX8_doLeave_22 ?_
  refine c_RX8_123d dX8_doLeave_23 rfl (kX8_refuse hM0) (by assumption) (Nat.le_of_ble_eq_true rfl) (Nat.le_of_ble_eq_true rfl) ⟨Nat.le_refl _, Nat.le_refl _⟩ ?_
  exact x_ireturn dX8_doLeave_26 rfl rfl ⟨Nat.le_refl _, Nat.le_refl _⟩ ⟨rfl, _, rfl, jDo_ref hr (by decide)⟩
theorem kX8_doLeave_n {G : JG} {S : JS} {D : JD} {d : Nat} {M t : Int} {r : Int → Int} {c g : Int} (hM : jMo S M) (hr : D (M + 1) = r) (hI : rIn t r) (ht : t ≤ 60000) (c0 : 0 ≤ c) (c1 : c < r 1) (hg : g = 0 ∨ g = 1) (ho : r (29 + 11 * c) = g) (hn : r (161 + 13 * c) = 0) : JM G yX8_doLeave cX8_doLeave 7 (some .int) (d + 6) (0, 0) S D [.inr (.inr (some M)), .inl c, .inl g] (jrP S (jDo D M r (-100000003, none, 4))) := by
  have hM0 := hM
  obtain ⟨mk, m0, m1, m2, m4, m5, m8, m12, y1, l1, y2, l2, y3, l3, y4, l4, y5, l5, y6, l6, y7, l7⟩ := id hM
  have hr0 := hr
  have b1 := hI.1
  have c2 : c < 4 := by omega
  have co := (hI.2.2.1 c c0 c1).2
  unfold rCo at co
  have hln := hI.line c0 c1
  show JX _ _ _ _ _ _ _ _ _ _ _ [_, _, _, _, _, _, _] _ _
  refine x_aload_n dX8_doLeave_0 rfl ?_
  refine x_iload_n dX8_doLeave_1 rfl ?_
  refine x_iload_n dX8_doLeave_2 rfl ?_
  refine c_RX8_113d dX8_doLeave_3 rfl (kX8_noGate hM0 hr0 ⟨by omega, by omega⟩ ⟨by omega, by omega⟩ (by omega)) (by assumption) (Nat.le_of_ble_eq_true rfl) (Nat.le_of_ble_eq_true rfl) ⟨Nat.le_refl _, Nat.le_refl _⟩ ?_
  refine x_if_eq (tgt := 12) dX8_doLeave_6 (by decide) ⟨by split <;> omega, by split <;> omega⟩ (fun hb6 => ?_) (fun hz => (hz (by rw [if_pos ⟨⟨c0, c1⟩, hg⟩])).elim)
  refine x_aload_n dX8_doLeave_12 rfl ?_
  refine x_iload_n dX8_doLeave_13 rfl ?_
  refine c_RX8_92d dX8_doLeave_14 rfl (kX8_openGate hM0 hr0 c0 c2) (by assumption) (Nat.le_of_ble_eq_true rfl) (Nat.le_of_ble_eq_true rfl) ⟨Nat.le_refl _, Nat.le_refl _⟩ ?_
  refine x_iload_n dX8_doLeave_17 rfl ?_
  refine x_ic_eq (tgt := 27) dX8_doLeave_18 (by decide) ⟨by omega, by omega⟩ ⟨by omega, by omega⟩ (fun hb18 => ?_) (fun h => (h (by omega)).elim)
  refine x_sipush dX8_doLeave_27 (by decide) ?_
  refine x_bipush dX8_doLeave_30 (by decide) ?_
  refine x_iload_n dX8_doLeave_32 rfl ?_
  refine x_imul dX8_doLeave_33 ?_
  refine x_iadd dX8_doLeave_34 ?_
  refine x_istore_n dX8_doLeave_35 (by decide) ?_
  show JX _ _ _ _ _ _ _ _ _ _ _ [_, _, _, _, _, _, _] _ _
  refine x_aload_n dX8_doLeave_36 rfl ?_
  refine gf_RX8_7 dX8_doLeave_37 rfl (by assumption) ?_
  rw [m0]
  refine x_iload_n dX8_doLeave_40 rfl ?_
  refine x_iald dX8_doLeave_41 (by assumption) ⟨by omega, by omega⟩ ?_
  rw [hr]
  refine x_istore dX8_doLeave_42 (by decide) ?_
  show JX _ _ _ _ _ _ _ _ _ _ _ [_, _, _, _, _, _, _] _ _
  refine x_iload dX8_doLeave_44 rfl ?_
  refine x_if_ne (tgt := 55) dX8_doLeave_46 (by decide) ⟨by omega, by omega⟩ (fun h => absurd h (by omega)) (fun hb46 => ?_)
  refine x_aload_n dX8_doLeave_49 rfl ?_
  refine x_iconst dX8_doLeave_50 ?_
  refine c_RX8_123d dX8_doLeave_51 rfl (kX8_refuse hM0) (by assumption) (Nat.le_of_ble_eq_true rfl) (Nat.le_of_ble_eq_true rfl) ⟨Nat.le_refl _, Nat.le_refl _⟩ ?_
  exact x_ireturn dX8_doLeave_54 rfl rfl ⟨Nat.le_refl _, Nat.le_refl _⟩ ⟨rfl, _, rfl, jDo_ref hr (by decide)⟩
theorem kX8_doLeave_a0 {G : JG} {S : JS} {D : JD} {d : Nat} {M t : Int} {r : Int → Int} {c : Int} (hM : jMo S M) (hr : D (M + 1) = r) (hI : rIn t r) (ht : t ≤ 60000) (c0 : 0 ≤ c) (c1 : c < r 1) (ho : r (29 + 11 * c) = 0) (hn : r (161 + 13 * c) ≠ 0) (ha : gAgr r (sNext r c 0)) : JM G yX8_doLeave cX8_doLeave 7 (some .int) (d + 6) (0, 0) S D [.inr (.inr (some M)), .inl c, .inl 0] (jrP S (jDo D M r (-100000003, none, 5))) := by
  have hM0 := hM
  obtain ⟨mk, m0, m1, m2, m4, m5, m8, m12, y1, l1, y2, l2, y3, l3, y4, l4, y5, l5, y6, l6, y7, l7⟩ := id hM
  have hr0 := hr
  have b1 := hI.1
  have c2 : c < 4 := by omega
  have co := (hI.2.2.1 c c0 c1).2
  unfold rCo at co
  have hln := hI.line c0 c1
  have hg : (0 : Int) = 0 ∨ (0 : Int) = 1 := by omega
  obtain ⟨k0, k1, hk⟩ := hI.next (g := 0) c0 c1 hn
  have es : sNext r c 0 = r (162 + 13 * c) := rfl
  generalize hb : sNext r c 0 = b at *
  have k2 : b < 12 := by omega
  show JX _ _ _ _ _ _ _ _ _ _ _ [_, _, _, _, _, _, _] _ _
  refine x_aload_n dX8_doLeave_0 rfl ?_
  refine x_iload_n dX8_doLeave_1 rfl ?_
  refine x_iload_n dX8_doLeave_2 rfl ?_
  refine c_RX8_113d dX8_doLeave_3 rfl (kX8_noGate hM0 hr0 ⟨by omega, by omega⟩ ⟨by omega, by omega⟩ (by omega)) (by assumption) (Nat.le_of_ble_eq_true rfl) (Nat.le_of_ble_eq_true rfl) ⟨Nat.le_refl _, Nat.le_refl _⟩ ?_
  refine x_if_eq (tgt := 12) dX8_doLeave_6 (by decide) ⟨by split <;> omega, by split <;> omega⟩ (fun hb6 => ?_) (fun hz => (hz (by rw [if_pos ⟨⟨c0, c1⟩, hg⟩])).elim)
  refine x_aload_n dX8_doLeave_12 rfl ?_
  refine x_iload_n dX8_doLeave_13 rfl ?_
  refine c_RX8_92d dX8_doLeave_14 rfl (kX8_openGate hM0 hr0 c0 c2) (by assumption) (Nat.le_of_ble_eq_true rfl) (Nat.le_of_ble_eq_true rfl) ⟨Nat.le_refl _, Nat.le_refl _⟩ ?_
  refine x_iload_n dX8_doLeave_17 rfl ?_
  refine x_ic_eq (tgt := 27) dX8_doLeave_18 (by decide) ⟨by omega, by omega⟩ ⟨by omega, by omega⟩ (fun hb18 => ?_) (fun h => (h (by omega)).elim)
  refine x_sipush dX8_doLeave_27 (by decide) ?_
  refine x_bipush dX8_doLeave_30 (by decide) ?_
  refine x_iload_n dX8_doLeave_32 rfl ?_
  refine x_imul dX8_doLeave_33 ?_
  refine x_iadd dX8_doLeave_34 ?_
  refine x_istore_n dX8_doLeave_35 (by decide) ?_
  show JX _ _ _ _ _ _ _ _ _ _ _ [_, _, _, _, _, _, _] _ _
  refine x_aload_n dX8_doLeave_36 rfl ?_
  refine gf_RX8_7 dX8_doLeave_37 rfl (by assumption) ?_
  rw [m0]
  refine x_iload_n dX8_doLeave_40 rfl ?_
  refine x_iald dX8_doLeave_41 (by assumption) ⟨by omega, by omega⟩ ?_
  rw [hr]
  refine x_istore dX8_doLeave_42 (by decide) ?_
  show JX _ _ _ _ _ _ _ _ _ _ _ [_, _, _, _, _, _, _] _ _
  refine x_iload dX8_doLeave_44 rfl ?_
  refine x_if_ne (tgt := 55) dX8_doLeave_46 (by decide) ⟨by omega, by omega⟩ (fun hb46 => ?_) (fun h => (h (by omega)).elim)
  refine x_aload_n dX8_doLeave_55 rfl ?_
  refine gf_RX8_7 dX8_doLeave_56 rfl (by assumption) ?_
  rw [m0]
  refine x_iload_n dX8_doLeave_59 rfl ?_
  refine x_iload_n dX8_doLeave_60 rfl ?_
  refine x_if_ne (tgt := 68) dX8_doLeave_61 (by decide) ⟨by omega, by omega⟩ (fun h => absurd h (by omega)) (fun hb61 => ?_)
  refine x_iconst dX8_doLeave_64 ?_
  refine x_goto (tgt := 70) dX8_doLeave_65 (by decide) ?_
  refine x_iadd dX8_doLeave_70 ?_
  refine x_iald dX8_doLeave_71 (by assumption) ⟨by omega, by omega⟩ ?_
  rw [hr, show 161 + 13 * c + 1 = 162 + 13 * c by omega, ← es]
  refine x_istore dX8_doLeave_72 (by decide) ?_
  show JX _ _ _ _ _ _ _ _ _ _ _ [_, _, _, _, _, _, _] _ _
  refine x_aload_n dX8_doLeave_74 rfl ?_
  refine x_iload dX8_doLeave_75 rfl ?_
  refine c_RX8_162d dX8_doLeave_77 rfl (kX8_isAground hM0 hr0 hI ht k0 k1) (by assumption) (Nat.le_of_ble_eq_true rfl) (Nat.le_of_ble_eq_true rfl) ⟨Nat.le_refl _, Nat.le_refl _⟩ ?_
  refine x_if_eq (tgt := 89) dX8_doLeave_80 (by decide) ⟨by split <;> omega, by split <;> omega⟩ (fun hz => absurd hz (by rw [if_pos ha]; decide)) (fun hb80 => ?_)
  refine x_aload_n dX8_doLeave_83 rfl ?_
  refine x_iconst dX8_doLeave_84 ?_
  refine c_RX8_123d dX8_doLeave_85 rfl (kX8_refuse hM0) (by assumption) (Nat.le_of_ble_eq_true rfl) (Nat.le_of_ble_eq_true rfl) ⟨Nat.le_refl _, Nat.le_refl _⟩ ?_
  exact x_ireturn dX8_doLeave_88 rfl rfl ⟨Nat.le_refl _, Nat.le_refl _⟩ ⟨rfl, _, rfl, jDo_ref hr (by decide)⟩
theorem kX8_doLeave_d0 {G : JG} {S : JS} {D : JD} {d : Nat} {M t : Int} {r : Int → Int} {c : Int} (hM : jMo S M) (hr : D (M + 1) = r) (hI : rIn t r) (ht : t ≤ 60000) (c0 : 0 ≤ c) (c1 : c < r 1) (ho : r (29 + 11 * c) = 0) (hn : r (161 + 13 * c) ≠ 0) (ha : ¬ gAgr r (sNext r c 0)) (hd : gDeep r (sNext r c 0) c 0) : JM G yX8_doLeave cX8_doLeave 7 (some .int) (d + 6) (0, 0) S D [.inr (.inr (some M)), .inl c, .inl 0] (jrP S (jDo D M r (-100000003, none, 7))) := by
  have hM0 := hM
  obtain ⟨mk, m0, m1, m2, m4, m5, m8, m12, y1, l1, y2, l2, y3, l3, y4, l4, y5, l5, y6, l6, y7, l7⟩ := id hM
  have hr0 := hr
  have b1 := hI.1
  have c2 : c < 4 := by omega
  have co := (hI.2.2.1 c c0 c1).2
  unfold rCo at co
  have hln := hI.line c0 c1
  have hg : (0 : Int) = 0 ∨ (0 : Int) = 1 := by omega
  obtain ⟨k0, k1, hk⟩ := hI.next (g := 0) c0 c1 hn
  have es : sNext r c 0 = r (162 + 13 * c) := rfl
  generalize hb : sNext r c 0 = b at *
  have k2 : b < 12 := by omega
  show JX _ _ _ _ _ _ _ _ _ _ _ [_, _, _, _, _, _, _] _ _
  refine x_aload_n dX8_doLeave_0 rfl ?_
  refine x_iload_n dX8_doLeave_1 rfl ?_
  refine x_iload_n dX8_doLeave_2 rfl ?_
  refine c_RX8_113d dX8_doLeave_3 rfl (kX8_noGate hM0 hr0 ⟨by omega, by omega⟩ ⟨by omega, by omega⟩ (by omega)) (by assumption) (Nat.le_of_ble_eq_true rfl) (Nat.le_of_ble_eq_true rfl) ⟨Nat.le_refl _, Nat.le_refl _⟩ ?_
  refine x_if_eq (tgt := 12) dX8_doLeave_6 (by decide) ⟨by split <;> omega, by split <;> omega⟩ (fun hb6 => ?_) (fun hz => (hz (by rw [if_pos ⟨⟨c0, c1⟩, hg⟩])).elim)
  refine x_aload_n dX8_doLeave_12 rfl ?_
  refine x_iload_n dX8_doLeave_13 rfl ?_
  refine c_RX8_92d dX8_doLeave_14 rfl (kX8_openGate hM0 hr0 c0 c2) (by assumption) (Nat.le_of_ble_eq_true rfl) (Nat.le_of_ble_eq_true rfl) ⟨Nat.le_refl _, Nat.le_refl _⟩ ?_
  refine x_iload_n dX8_doLeave_17 rfl ?_
  refine x_ic_eq (tgt := 27) dX8_doLeave_18 (by decide) ⟨by omega, by omega⟩ ⟨by omega, by omega⟩ (fun hb18 => ?_) (fun h => (h (by omega)).elim)
  refine x_sipush dX8_doLeave_27 (by decide) ?_
  refine x_bipush dX8_doLeave_30 (by decide) ?_
  refine x_iload_n dX8_doLeave_32 rfl ?_
  refine x_imul dX8_doLeave_33 ?_
  refine x_iadd dX8_doLeave_34 ?_
  refine x_istore_n dX8_doLeave_35 (by decide) ?_
  show JX _ _ _ _ _ _ _ _ _ _ _ [_, _, _, _, _, _, _] _ _
  refine x_aload_n dX8_doLeave_36 rfl ?_
  refine gf_RX8_7 dX8_doLeave_37 rfl (by assumption) ?_
  rw [m0]
  refine x_iload_n dX8_doLeave_40 rfl ?_
  refine x_iald dX8_doLeave_41 (by assumption) ⟨by omega, by omega⟩ ?_
  rw [hr]
  refine x_istore dX8_doLeave_42 (by decide) ?_
  show JX _ _ _ _ _ _ _ _ _ _ _ [_, _, _, _, _, _, _] _ _
  refine x_iload dX8_doLeave_44 rfl ?_
  refine x_if_ne (tgt := 55) dX8_doLeave_46 (by decide) ⟨by omega, by omega⟩ (fun hb46 => ?_) (fun h => (h (by omega)).elim)
  refine x_aload_n dX8_doLeave_55 rfl ?_
  refine gf_RX8_7 dX8_doLeave_56 rfl (by assumption) ?_
  rw [m0]
  refine x_iload_n dX8_doLeave_59 rfl ?_
  refine x_iload_n dX8_doLeave_60 rfl ?_
  refine x_if_ne (tgt := 68) dX8_doLeave_61 (by decide) ⟨by omega, by omega⟩ (fun h => absurd h (by omega)) (fun hb61 => ?_)
  refine x_iconst dX8_doLeave_64 ?_
  refine x_goto (tgt := 70) dX8_doLeave_65 (by decide) ?_
  refine x_iadd dX8_doLeave_70 ?_
  refine x_iald dX8_doLeave_71 (by assumption) ⟨by omega, by omega⟩ ?_
  rw [hr, show 161 + 13 * c + 1 = 162 + 13 * c by omega, ← es]
  refine x_istore dX8_doLeave_72 (by decide) ?_
  show JX _ _ _ _ _ _ _ _ _ _ _ [_, _, _, _, _, _, _] _ _
  refine x_aload_n dX8_doLeave_74 rfl ?_
  refine x_iload dX8_doLeave_75 rfl ?_
  refine c_RX8_162d dX8_doLeave_77 rfl (kX8_isAground hM0 hr0 hI ht k0 k1) (by assumption) (Nat.le_of_ble_eq_true rfl) (Nat.le_of_ble_eq_true rfl) ⟨Nat.le_refl _, Nat.le_refl _⟩ ?_
  refine x_if_eq (tgt := 89) dX8_doLeave_80 (by decide) ⟨by split <;> omega, by split <;> omega⟩ (fun hb80 => ?_) (fun hz => (hz (if_neg ha)).elim)
  refine x_aload_n dX8_doLeave_89 rfl ?_
  refine x_iload dX8_doLeave_90 rfl ?_
  refine x_iload_n dX8_doLeave_92 rfl ?_
  refine x_iload_n dX8_doLeave_93 rfl ?_
  refine c_RX8_168d dX8_doLeave_94 rfl (kX8_canPass hM0 hr0 hI ht k0 k1 c0 c1 hg) (by assumption) (Nat.le_of_ble_eq_true rfl) (Nat.le_of_ble_eq_true rfl) ⟨Nat.le_refl _, Nat.le_refl _⟩ ?_
  refine x_if_ne (tgt := 107) dX8_doLeave_97 (by decide) ⟨by split <;> omega, by split <;> omega⟩ (fun hz => absurd (if_pos hd) hz) (fun hb97 => ?_)
  refine x_aload_n dX8_doLeave_100 rfl ?_
  refine x_bipush dX8_doLeave_101 (by decide) ?_
  refine c_RX8_123d dX8_doLeave_103 rfl (kX8_refuse hM0) (by assumption) (Nat.le_of_ble_eq_true rfl) (Nat.le_of_ble_eq_true rfl) ⟨Nat.le_refl _, Nat.le_refl _⟩ ?_
  exact x_ireturn dX8_doLeave_106 rfl rfl ⟨Nat.le_refl _, Nat.le_refl _⟩ ⟨rfl, _, rfl, jDo_ref hr (by decide)⟩
theorem kX8_doLeave_y0 {G : JG} {S : JS} {D : JD} {d : Nat} {M t : Int} {r : Int → Int} {c : Int} (hM : jMo S M) (hr : D (M + 1) = r) (hI : rIn t r) (ht : t ≤ 60000) (c0 : 0 ≤ c) (c1 : c < r 1) (ho : r (29 + 11 * c) = 0) (hn : r (161 + 13 * c) ≠ 0) (ha : ¬ gAgr r (sNext r c 0)) (hd : ¬ gDeep r (sNext r c 0) c 0) : JM G yX8_doLeave cX8_doLeave 7 (some .int) (d + 6) (0, 0) S D [.inr (.inr (some M)), .inl c, .inl 0] (jrP S (jDo D M r (sNext r c 0, some (rLeave (sNext r c 0) c 0 r), 0))) := by
  have hM0 := hM
  obtain ⟨mk, m0, m1, m2, m4, m5, m8, m12, y1, l1, y2, l2, y3, l3, y4, l4, y5, l5, y6, l6, y7, l7⟩ := id hM
  have hr0 := hr
  have b1 := hI.1
  have c2 : c < 4 := by omega
  have co := (hI.2.2.1 c c0 c1).2
  unfold rCo at co
  have hln := hI.line c0 c1
  have hg : (0 : Int) = 0 ∨ (0 : Int) = 1 := by omega
  obtain ⟨k0, k1, hk⟩ := hI.next (g := 0) c0 c1 hn
  have es : sNext r c 0 = r (162 + 13 * c) := rfl
  generalize hb : sNext r c 0 = b at *
  have k2 : b < 12 := by omega
  show JX _ _ _ _ _ _ _ _ _ _ _ [_, _, _, _, _, _, _] _ _
  refine x_aload_n dX8_doLeave_0 rfl ?_
  refine x_iload_n dX8_doLeave_1 rfl ?_
  refine x_iload_n dX8_doLeave_2 rfl ?_
  refine c_RX8_113d dX8_doLeave_3 rfl (kX8_noGate hM0 hr0 ⟨by omega, by omega⟩ ⟨by omega, by omega⟩ (by omega)) (by assumption) (Nat.le_of_ble_eq_true rfl) (Nat.le_of_ble_eq_true rfl) ⟨Nat.le_refl _, Nat.le_refl _⟩ ?_
  refine x_if_eq (tgt := 12) dX8_doLeave_6 (by decide) ⟨by split <;> omega, by split <;> omega⟩ (fun hb6 => ?_) (fun hz => (hz (by rw [if_pos ⟨⟨c0, c1⟩, hg⟩])).elim)
  refine x_aload_n dX8_doLeave_12 rfl ?_
  refine x_iload_n dX8_doLeave_13 rfl ?_
  refine c_RX8_92d dX8_doLeave_14 rfl (kX8_openGate hM0 hr0 c0 c2) (by assumption) (Nat.le_of_ble_eq_true rfl) (Nat.le_of_ble_eq_true rfl) ⟨Nat.le_refl _, Nat.le_refl _⟩ ?_
  refine x_iload_n dX8_doLeave_17 rfl ?_
  refine x_ic_eq (tgt := 27) dX8_doLeave_18 (by decide) ⟨by omega, by omega⟩ ⟨by omega, by omega⟩ (fun hb18 => ?_) (fun h => (h (by omega)).elim)
  refine x_sipush dX8_doLeave_27 (by decide) ?_
  refine x_bipush dX8_doLeave_30 (by decide) ?_
  refine x_iload_n dX8_doLeave_32 rfl ?_
  refine x_imul dX8_doLeave_33 ?_
  refine x_iadd dX8_doLeave_34 ?_
  refine x_istore_n dX8_doLeave_35 (by decide) ?_
  show JX _ _ _ _ _ _ _ _ _ _ _ [_, _, _, _, _, _, _] _ _
  refine x_aload_n dX8_doLeave_36 rfl ?_
  refine gf_RX8_7 dX8_doLeave_37 rfl (by assumption) ?_
  rw [m0]
  refine x_iload_n dX8_doLeave_40 rfl ?_
  refine x_iald dX8_doLeave_41 (by assumption) ⟨by omega, by omega⟩ ?_
  rw [hr]
  refine x_istore dX8_doLeave_42 (by decide) ?_
  show JX _ _ _ _ _ _ _ _ _ _ _ [_, _, _, _, _, _, _] _ _
  refine x_iload dX8_doLeave_44 rfl ?_
  refine x_if_ne (tgt := 55) dX8_doLeave_46 (by decide) ⟨by omega, by omega⟩ (fun hb46 => ?_) (fun h => (h (by omega)).elim)
  refine x_aload_n dX8_doLeave_55 rfl ?_
  refine gf_RX8_7 dX8_doLeave_56 rfl (by assumption) ?_
  rw [m0]
  refine x_iload_n dX8_doLeave_59 rfl ?_
  refine x_iload_n dX8_doLeave_60 rfl ?_
  refine x_if_ne (tgt := 68) dX8_doLeave_61 (by decide) ⟨by omega, by omega⟩ (fun h => absurd h (by omega)) (fun hb61 => ?_)
  refine x_iconst dX8_doLeave_64 ?_
  refine x_goto (tgt := 70) dX8_doLeave_65 (by decide) ?_
  refine x_iadd dX8_doLeave_70 ?_
  refine x_iald dX8_doLeave_71 (by assumption) ⟨by omega, by omega⟩ ?_
  rw [hr, show 161 + 13 * c + 1 = 162 + 13 * c by omega, ← es]
  refine x_istore dX8_doLeave_72 (by decide) ?_
  show JX _ _ _ _ _ _ _ _ _ _ _ [_, _, _, _, _, _, _] _ _
  refine x_aload_n dX8_doLeave_74 rfl ?_
  refine x_iload dX8_doLeave_75 rfl ?_
  refine c_RX8_162d dX8_doLeave_77 rfl (kX8_isAground hM0 hr0 hI ht k0 k1) (by assumption) (Nat.le_of_ble_eq_true rfl) (Nat.le_of_ble_eq_true rfl) ⟨Nat.le_refl _, Nat.le_refl _⟩ ?_
  refine x_if_eq (tgt := 89) dX8_doLeave_80 (by decide) ⟨by split <;> omega, by split <;> omega⟩ (fun hb80 => ?_) (fun hz => (hz (if_neg ha)).elim)
  refine x_aload_n dX8_doLeave_89 rfl ?_
  refine x_iload dX8_doLeave_90 rfl ?_
  refine x_iload_n dX8_doLeave_92 rfl ?_
  refine x_iload_n dX8_doLeave_93 rfl ?_
  refine c_RX8_168d dX8_doLeave_94 rfl (kX8_canPass hM0 hr0 hI ht k0 k1 c0 c1 hg) (by assumption) (Nat.le_of_ble_eq_true rfl) (Nat.le_of_ble_eq_true rfl) ⟨Nat.le_refl _, Nat.le_refl _⟩ ?_
  refine x_if_ne (tgt := 107) dX8_doLeave_97 (by decide) ⟨by split <;> omega, by split <;> omega⟩ (fun hb97 => ?_) (fun hz => (hz (by rw [if_neg hd]; decide)).elim)
  refine x_iconst dX8_doLeave_107 ?_
  refine x_istore dX8_doLeave_108 (by decide) ?_
  show JX _ _ _ _ _ _ _ _ _ _ _ [_, _, _, _, _, _, _] _ _
  refine leave_loop (n := r (161 + 13 * c)) (r := r) (D0 := D) hM0 c0 c2 (by omega) (fun D9 e9 f9 => ?_) (r (161 + 13 * c) - 1).toNat _ D (by omega) (by omega) (by rw [rShO_1]; exact hr) (fun _ _ => rfl)
  refine x_aload_n dX8_doLeave_147 rfl ?_
  refine gf_RX8_7 dX8_doLeave_148 rfl (by assumption) ?_
  rw [m0]
  refine x_iload_n dX8_doLeave_151 rfl ?_
  refine x_dup2 dX8_doLeave_152 (fun _ h => by cases h) (fun _ h => by cases h) ?_
  refine x_iald dX8_doLeave_153 (by assumption) ⟨by omega, by omega⟩ ?_
  rw [e9, rShO_hi (by omega)]
  refine x_iconst dX8_doLeave_154 ?_
  refine x_isub dX8_doLeave_155 ?_
  refine x_iast dX8_doLeave_156 (by assumption) ⟨by omega, by omega⟩ ?_
  have hrB : (jup D9 (M + 1) (161 + 13 * c) (r (161 + 13 * c) - 1)) (M + 1) = rLineOut c 0 r := by rw [jup_row, e9]; exact line_out0
  refine x_aload_n dX8_doLeave_157 rfl ?_
  refine x_iload dX8_doLeave_158 rfl ?_
  refine x_bipush dX8_doLeave_160 (by decide) ?_
  refine x_iload_n dX8_doLeave_162 rfl ?_
  refine x_iload_n dX8_doLeave_163 rfl ?_
  refine x_iadd dX8_doLeave_164 ?_
  refine c_RX8_129d dX8_doLeave_165 rfl (kX8_put hM0 hrB (by omega) (by omega)) (by assumption) (Nat.le_of_ble_eq_true rfl) (Nat.le_of_ble_eq_true rfl) ⟨Nat.le_refl _, Nat.le_refl _⟩ ?_
  rw [show 65 + 8 * b + 6 = 71 + 8 * b by omega]
  have hrC : (jup (jup D9 (M + 1) (161 + 13 * c) (r (161 + 13 * c) - 1)) (M + 1) (71 + 8 * b) (c + 0)) (M + 1) = rup (rLineOut c 0 r) (71 + 8 * b) (c + 0) := by rw [jup_row, hrB]
  have hp30 : rup (rLineOut c 0 r) (71 + 8 * b) (c + 0) (30 + 11 * c + 0) = r (30 + 11 * c + 0) := by rw [rup_ne (by omega), rLineOut_o ⟨hln.1, hln.2.1⟩ (by omega)]
  have hq30 : 0 ≤ r (30 + 11 * c + 0) ∧ r (30 + 11 * c + 0) ≤ t := by
    first
      | (rw [Int.add_zero]; omega)
      | (rw [show 30 + 11 * c + 1 = 31 + 11 * c by omega]; omega)
  refine x_aload_n dX8_doLeave_168 rfl ?_
  refine x_iload dX8_doLeave_169 rfl ?_
  refine x_iload_n dX8_doLeave_171 rfl ?_
  refine x_iload_n dX8_doLeave_172 rfl ?_
  refine c_RX8_171p dX8_doLeave_173 rfl (kX8_pass hM0 hrC k0 k2 c0 c2 hg (by rw [hp30]; omega)) (by assumption) (Nat.le_of_ble_eq_true rfl) (Nat.le_of_ble_eq_true rfl) ⟨Nat.le_refl _, Nat.le_refl _⟩ (fun D3 h3 => ?_)
  obtain ⟨g3, x3⟩ := h3
  have hrD : D3 (M + 1) = rLeave b c 0 r := by rw [g3]; exact rPas_ps c0 c2 hg k0
  have hX3 : ∀ x : Int, x ≠ M + 1 → D3 x = D x := fun x hx => by rw [x3 x hx, jup_off hx, jup_off hx, f9 x hx]
  refine x_iload dX8_doLeave_176 rfl ?_
  exact x_ireturn dX8_doLeave_178 rfl rfl ⟨Nat.le_refl _, Nat.le_refl _⟩ ⟨rfl, _, rfl, jDo_put hrD hX3⟩
theorem kX8_doLeave_a1 {G : JG} {S : JS} {D : JD} {d : Nat} {M t : Int} {r : Int → Int} {c : Int} (hM : jMo S M) (hr : D (M + 1) = r) (hI : rIn t r) (ht : t ≤ 60000) (c0 : 0 ≤ c) (c1 : c < r 1) (ho : r (29 + 11 * c) = 1) (hn : r (161 + 13 * c) ≠ 0) (ha : gAgr r (sNext r c 1)) : JM G yX8_doLeave cX8_doLeave 7 (some .int) (d + 6) (0, 0) S D [.inr (.inr (some M)), .inl c, .inl 1] (jrP S (jDo D M r (-100000003, none, 5))) := by
  have hM0 := hM
  obtain ⟨mk, m0, m1, m2, m4, m5, m8, m12, y1, l1, y2, l2, y3, l3, y4, l4, y5, l5, y6, l6, y7, l7⟩ := id hM
  have hr0 := hr
  have b1 := hI.1
  have c2 : c < 4 := by omega
  have co := (hI.2.2.1 c c0 c1).2
  unfold rCo at co
  have hln := hI.line c0 c1
  have hg : (1 : Int) = 0 ∨ (1 : Int) = 1 := by omega
  obtain ⟨k0, k1, hk⟩ := hI.next (g := 1) c0 c1 hn
  have es : sNext r c 1 = r (161 + 13 * c + r (161 + 13 * c)) := rfl
  generalize hb : sNext r c 1 = b at *
  have k2 : b < 12 := by omega
  show JX _ _ _ _ _ _ _ _ _ _ _ [_, _, _, _, _, _, _] _ _
  refine x_aload_n dX8_doLeave_0 rfl ?_
  refine x_iload_n dX8_doLeave_1 rfl ?_
  refine x_iload_n dX8_doLeave_2 rfl ?_
  refine c_RX8_113d dX8_doLeave_3 rfl (kX8_noGate hM0 hr0 ⟨by omega, by omega⟩ ⟨by omega, by omega⟩ (by omega)) (by assumption) (Nat.le_of_ble_eq_true rfl) (Nat.le_of_ble_eq_true rfl) ⟨Nat.le_refl _, Nat.le_refl _⟩ ?_
  refine x_if_eq (tgt := 12) dX8_doLeave_6 (by decide) ⟨by split <;> omega, by split <;> omega⟩ (fun hb6 => ?_) (fun hz => (hz (by rw [if_pos ⟨⟨c0, c1⟩, hg⟩])).elim)
  refine x_aload_n dX8_doLeave_12 rfl ?_
  refine x_iload_n dX8_doLeave_13 rfl ?_
  refine c_RX8_92d dX8_doLeave_14 rfl (kX8_openGate hM0 hr0 c0 c2) (by assumption) (Nat.le_of_ble_eq_true rfl) (Nat.le_of_ble_eq_true rfl) ⟨Nat.le_refl _, Nat.le_refl _⟩ ?_
  refine x_iload_n dX8_doLeave_17 rfl ?_
  refine x_ic_eq (tgt := 27) dX8_doLeave_18 (by decide) ⟨by omega, by omega⟩ ⟨by omega, by omega⟩ (fun hb18 => ?_) (fun h => (h (by omega)).elim)
  refine x_sipush dX8_doLeave_27 (by decide) ?_
  refine x_bipush dX8_doLeave_30 (by decide) ?_
  refine x_iload_n dX8_doLeave_32 rfl ?_
  refine x_imul dX8_doLeave_33 ?_
  refine x_iadd dX8_doLeave_34 ?_
  refine x_istore_n dX8_doLeave_35 (by decide) ?_
  show JX _ _ _ _ _ _ _ _ _ _ _ [_, _, _, _, _, _, _] _ _
  refine x_aload_n dX8_doLeave_36 rfl ?_
  refine gf_RX8_7 dX8_doLeave_37 rfl (by assumption) ?_
  rw [m0]
  refine x_iload_n dX8_doLeave_40 rfl ?_
  refine x_iald dX8_doLeave_41 (by assumption) ⟨by omega, by omega⟩ ?_
  rw [hr]
  refine x_istore dX8_doLeave_42 (by decide) ?_
  show JX _ _ _ _ _ _ _ _ _ _ _ [_, _, _, _, _, _, _] _ _
  refine x_iload dX8_doLeave_44 rfl ?_
  refine x_if_ne (tgt := 55) dX8_doLeave_46 (by decide) ⟨by omega, by omega⟩ (fun hb46 => ?_) (fun h => (h (by omega)).elim)
  refine x_aload_n dX8_doLeave_55 rfl ?_
  refine gf_RX8_7 dX8_doLeave_56 rfl (by assumption) ?_
  rw [m0]
  refine x_iload_n dX8_doLeave_59 rfl ?_
  refine x_iload_n dX8_doLeave_60 rfl ?_
  refine x_if_ne (tgt := 68) dX8_doLeave_61 (by decide) ⟨by omega, by omega⟩ (fun hb61 => ?_) (fun h => (h (by omega)).elim)
  refine x_iload dX8_doLeave_68 rfl ?_
  refine x_iadd dX8_doLeave_70 ?_
  refine x_iald dX8_doLeave_71 (by assumption) ⟨by omega, by omega⟩ ?_
  rw [hr, ← es]
  refine x_istore dX8_doLeave_72 (by decide) ?_
  show JX _ _ _ _ _ _ _ _ _ _ _ [_, _, _, _, _, _, _] _ _
  refine x_aload_n dX8_doLeave_74 rfl ?_
  refine x_iload dX8_doLeave_75 rfl ?_
  refine c_RX8_162d dX8_doLeave_77 rfl (kX8_isAground hM0 hr0 hI ht k0 k1) (by assumption) (Nat.le_of_ble_eq_true rfl) (Nat.le_of_ble_eq_true rfl) ⟨Nat.le_refl _, Nat.le_refl _⟩ ?_
  refine x_if_eq (tgt := 89) dX8_doLeave_80 (by decide) ⟨by split <;> omega, by split <;> omega⟩ (fun hz => absurd hz (by rw [if_pos ha]; decide)) (fun hb80 => ?_)
  refine x_aload_n dX8_doLeave_83 rfl ?_
  refine x_iconst dX8_doLeave_84 ?_
  refine c_RX8_123d dX8_doLeave_85 rfl (kX8_refuse hM0) (by assumption) (Nat.le_of_ble_eq_true rfl) (Nat.le_of_ble_eq_true rfl) ⟨Nat.le_refl _, Nat.le_refl _⟩ ?_
  exact x_ireturn dX8_doLeave_88 rfl rfl ⟨Nat.le_refl _, Nat.le_refl _⟩ ⟨rfl, _, rfl, jDo_ref hr (by decide)⟩
theorem kX8_doLeave_d1 {G : JG} {S : JS} {D : JD} {d : Nat} {M t : Int} {r : Int → Int} {c : Int} (hM : jMo S M) (hr : D (M + 1) = r) (hI : rIn t r) (ht : t ≤ 60000) (c0 : 0 ≤ c) (c1 : c < r 1) (ho : r (29 + 11 * c) = 1) (hn : r (161 + 13 * c) ≠ 0) (ha : ¬ gAgr r (sNext r c 1)) (hd : gDeep r (sNext r c 1) c 1) : JM G yX8_doLeave cX8_doLeave 7 (some .int) (d + 6) (0, 0) S D [.inr (.inr (some M)), .inl c, .inl 1] (jrP S (jDo D M r (-100000003, none, 7))) := by
  have hM0 := hM
  obtain ⟨mk, m0, m1, m2, m4, m5, m8, m12, y1, l1, y2, l2, y3, l3, y4, l4, y5, l5, y6, l6, y7, l7⟩ := id hM
  have hr0 := hr
  have b1 := hI.1
  have c2 : c < 4 := by omega
  have co := (hI.2.2.1 c c0 c1).2
  unfold rCo at co
  have hln := hI.line c0 c1
  have hg : (1 : Int) = 0 ∨ (1 : Int) = 1 := by omega
  obtain ⟨k0, k1, hk⟩ := hI.next (g := 1) c0 c1 hn
  have es : sNext r c 1 = r (161 + 13 * c + r (161 + 13 * c)) := rfl
  generalize hb : sNext r c 1 = b at *
  have k2 : b < 12 := by omega
  show JX _ _ _ _ _ _ _ _ _ _ _ [_, _, _, _, _, _, _] _ _
  refine x_aload_n dX8_doLeave_0 rfl ?_
  refine x_iload_n dX8_doLeave_1 rfl ?_
  refine x_iload_n dX8_doLeave_2 rfl ?_
  refine c_RX8_113d dX8_doLeave_3 rfl (kX8_noGate hM0 hr0 ⟨by omega, by omega⟩ ⟨by omega, by omega⟩ (by omega)) (by assumption) (Nat.le_of_ble_eq_true rfl) (Nat.le_of_ble_eq_true rfl) ⟨Nat.le_refl _, Nat.le_refl _⟩ ?_
  refine x_if_eq (tgt := 12) dX8_doLeave_6 (by decide) ⟨by split <;> omega, by split <;> omega⟩ (fun hb6 => ?_) (fun hz => (hz (by rw [if_pos ⟨⟨c0, c1⟩, hg⟩])).elim)
  refine x_aload_n dX8_doLeave_12 rfl ?_
  refine x_iload_n dX8_doLeave_13 rfl ?_
  refine c_RX8_92d dX8_doLeave_14 rfl (kX8_openGate hM0 hr0 c0 c2) (by assumption) (Nat.le_of_ble_eq_true rfl) (Nat.le_of_ble_eq_true rfl) ⟨Nat.le_refl _, Nat.le_refl _⟩ ?_
  refine x_iload_n dX8_doLeave_17 rfl ?_
  refine x_ic_eq (tgt := 27) dX8_doLeave_18 (by decide) ⟨by omega, by omega⟩ ⟨by omega, by omega⟩ (fun hb18 => ?_) (fun h => (h (by omega)).elim)
  refine x_sipush dX8_doLeave_27 (by decide) ?_
  refine x_bipush dX8_doLeave_30 (by decide) ?_
  refine x_iload_n dX8_doLeave_32 rfl ?_
  refine x_imul dX8_doLeave_33 ?_
  refine x_iadd dX8_doLeave_34 ?_
  refine x_istore_n dX8_doLeave_35 (by decide) ?_
  show JX _ _ _ _ _ _ _ _ _ _ _ [_, _, _, _, _, _, _] _ _
  refine x_aload_n dX8_doLeave_36 rfl ?_
  refine gf_RX8_7 dX8_doLeave_37 rfl (by assumption) ?_
  rw [m0]
  refine x_iload_n dX8_doLeave_40 rfl ?_
  refine x_iald dX8_doLeave_41 (by assumption) ⟨by omega, by omega⟩ ?_
  rw [hr]
  refine x_istore dX8_doLeave_42 (by decide) ?_
  show JX _ _ _ _ _ _ _ _ _ _ _ [_, _, _, _, _, _, _] _ _
  refine x_iload dX8_doLeave_44 rfl ?_
  refine x_if_ne (tgt := 55) dX8_doLeave_46 (by decide) ⟨by omega, by omega⟩ (fun hb46 => ?_) (fun h => (h (by omega)).elim)
  refine x_aload_n dX8_doLeave_55 rfl ?_
  refine gf_RX8_7 dX8_doLeave_56 rfl (by assumption) ?_
  rw [m0]
  refine x_iload_n dX8_doLeave_59 rfl ?_
  refine x_iload_n dX8_doLeave_60 rfl ?_
  refine x_if_ne (tgt := 68) dX8_doLeave_61 (by decide) ⟨by omega, by omega⟩ (fun hb61 => ?_) (fun h => (h (by omega)).elim)
  refine x_iload dX8_doLeave_68 rfl ?_
  refine x_iadd dX8_doLeave_70 ?_
  refine x_iald dX8_doLeave_71 (by assumption) ⟨by omega, by omega⟩ ?_
  rw [hr, ← es]
  refine x_istore dX8_doLeave_72 (by decide) ?_
  show JX _ _ _ _ _ _ _ _ _ _ _ [_, _, _, _, _, _, _] _ _
  refine x_aload_n dX8_doLeave_74 rfl ?_
  refine x_iload dX8_doLeave_75 rfl ?_
  refine c_RX8_162d dX8_doLeave_77 rfl (kX8_isAground hM0 hr0 hI ht k0 k1) (by assumption) (Nat.le_of_ble_eq_true rfl) (Nat.le_of_ble_eq_true rfl) ⟨Nat.le_refl _, Nat.le_refl _⟩ ?_
  refine x_if_eq (tgt := 89) dX8_doLeave_80 (by decide) ⟨by split <;> omega, by split <;> omega⟩ (fun hb80 => ?_) (fun hz => (hz (if_neg ha)).elim)
  refine x_aload_n dX8_doLeave_89 rfl ?_
  refine x_iload dX8_doLeave_90 rfl ?_
  refine x_iload_n dX8_doLeave_92 rfl ?_
  refine x_iload_n dX8_doLeave_93 rfl ?_
  refine c_RX8_168d dX8_doLeave_94 rfl (kX8_canPass hM0 hr0 hI ht k0 k1 c0 c1 hg) (by assumption) (Nat.le_of_ble_eq_true rfl) (Nat.le_of_ble_eq_true rfl) ⟨Nat.le_refl _, Nat.le_refl _⟩ ?_
  refine x_if_ne (tgt := 107) dX8_doLeave_97 (by decide) ⟨by split <;> omega, by split <;> omega⟩ (fun hz => absurd (if_pos hd) hz) (fun hb97 => ?_)
  refine x_aload_n dX8_doLeave_100 rfl ?_
  refine x_bipush dX8_doLeave_101 (by decide) ?_
  refine c_RX8_123d dX8_doLeave_103 rfl (kX8_refuse hM0) (by assumption) (Nat.le_of_ble_eq_true rfl) (Nat.le_of_ble_eq_true rfl) ⟨Nat.le_refl _, Nat.le_refl _⟩ ?_
  exact x_ireturn dX8_doLeave_106 rfl rfl ⟨Nat.le_refl _, Nat.le_refl _⟩ ⟨rfl, _, rfl, jDo_ref hr (by decide)⟩
theorem kX8_doLeave_y1 {G : JG} {S : JS} {D : JD} {d : Nat} {M t : Int} {r : Int → Int} {c : Int} (hM : jMo S M) (hr : D (M + 1) = r) (hI : rIn t r) (ht : t ≤ 60000) (c0 : 0 ≤ c) (c1 : c < r 1) (ho : r (29 + 11 * c) = 1) (hn : r (161 + 13 * c) ≠ 0) (ha : ¬ gAgr r (sNext r c 1)) (hd : ¬ gDeep r (sNext r c 1) c 1) : JM G yX8_doLeave cX8_doLeave 7 (some .int) (d + 6) (0, 0) S D [.inr (.inr (some M)), .inl c, .inl 1] (jrP S (jDo D M r (sNext r c 1, some (rLeave (sNext r c 1) c 1 r), 0))) := by
  have hM0 := hM
  obtain ⟨mk, m0, m1, m2, m4, m5, m8, m12, y1, l1, y2, l2, y3, l3, y4, l4, y5, l5, y6, l6, y7, l7⟩ := id hM
  have hr0 := hr
  have b1 := hI.1
  have c2 : c < 4 := by omega
  have co := (hI.2.2.1 c c0 c1).2
  unfold rCo at co
  have hln := hI.line c0 c1
  have hg : (1 : Int) = 0 ∨ (1 : Int) = 1 := by omega
  obtain ⟨k0, k1, hk⟩ := hI.next (g := 1) c0 c1 hn
  have es : sNext r c 1 = r (161 + 13 * c + r (161 + 13 * c)) := rfl
  generalize hb : sNext r c 1 = b at *
  have k2 : b < 12 := by omega
  show JX _ _ _ _ _ _ _ _ _ _ _ [_, _, _, _, _, _, _] _ _
  refine x_aload_n dX8_doLeave_0 rfl ?_
  refine x_iload_n dX8_doLeave_1 rfl ?_
  refine x_iload_n dX8_doLeave_2 rfl ?_
  refine c_RX8_113d dX8_doLeave_3 rfl (kX8_noGate hM0 hr0 ⟨by omega, by omega⟩ ⟨by omega, by omega⟩ (by omega)) (by assumption) (Nat.le_of_ble_eq_true rfl) (Nat.le_of_ble_eq_true rfl) ⟨Nat.le_refl _, Nat.le_refl _⟩ ?_
  refine x_if_eq (tgt := 12) dX8_doLeave_6 (by decide) ⟨by split <;> omega, by split <;> omega⟩ (fun hb6 => ?_) (fun hz => (hz (by rw [if_pos ⟨⟨c0, c1⟩, hg⟩])).elim)
  refine x_aload_n dX8_doLeave_12 rfl ?_
  refine x_iload_n dX8_doLeave_13 rfl ?_
  refine c_RX8_92d dX8_doLeave_14 rfl (kX8_openGate hM0 hr0 c0 c2) (by assumption) (Nat.le_of_ble_eq_true rfl) (Nat.le_of_ble_eq_true rfl) ⟨Nat.le_refl _, Nat.le_refl _⟩ ?_
  refine x_iload_n dX8_doLeave_17 rfl ?_
  refine x_ic_eq (tgt := 27) dX8_doLeave_18 (by decide) ⟨by omega, by omega⟩ ⟨by omega, by omega⟩ (fun hb18 => ?_) (fun h => (h (by omega)).elim)
  refine x_sipush dX8_doLeave_27 (by decide) ?_
  refine x_bipush dX8_doLeave_30 (by decide) ?_
  refine x_iload_n dX8_doLeave_32 rfl ?_
  refine x_imul dX8_doLeave_33 ?_
  refine x_iadd dX8_doLeave_34 ?_
  refine x_istore_n dX8_doLeave_35 (by decide) ?_
  show JX _ _ _ _ _ _ _ _ _ _ _ [_, _, _, _, _, _, _] _ _
  refine x_aload_n dX8_doLeave_36 rfl ?_
  refine gf_RX8_7 dX8_doLeave_37 rfl (by assumption) ?_
  rw [m0]
  refine x_iload_n dX8_doLeave_40 rfl ?_
  refine x_iald dX8_doLeave_41 (by assumption) ⟨by omega, by omega⟩ ?_
  rw [hr]
  refine x_istore dX8_doLeave_42 (by decide) ?_
  show JX _ _ _ _ _ _ _ _ _ _ _ [_, _, _, _, _, _, _] _ _
  refine x_iload dX8_doLeave_44 rfl ?_
  refine x_if_ne (tgt := 55) dX8_doLeave_46 (by decide) ⟨by omega, by omega⟩ (fun hb46 => ?_) (fun h => (h (by omega)).elim)
  refine x_aload_n dX8_doLeave_55 rfl ?_
  refine gf_RX8_7 dX8_doLeave_56 rfl (by assumption) ?_
  rw [m0]
  refine x_iload_n dX8_doLeave_59 rfl ?_
  refine x_iload_n dX8_doLeave_60 rfl ?_
  refine x_if_ne (tgt := 68) dX8_doLeave_61 (by decide) ⟨by omega, by omega⟩ (fun hb61 => ?_) (fun h => (h (by omega)).elim)
  refine x_iload dX8_doLeave_68 rfl ?_
  refine x_iadd dX8_doLeave_70 ?_
  refine x_iald dX8_doLeave_71 (by assumption) ⟨by omega, by omega⟩ ?_
  rw [hr, ← es]
  refine x_istore dX8_doLeave_72 (by decide) ?_
  show JX _ _ _ _ _ _ _ _ _ _ _ [_, _, _, _, _, _, _] _ _
  refine x_aload_n dX8_doLeave_74 rfl ?_
  refine x_iload dX8_doLeave_75 rfl ?_
  refine c_RX8_162d dX8_doLeave_77 rfl (kX8_isAground hM0 hr0 hI ht k0 k1) (by assumption) (Nat.le_of_ble_eq_true rfl) (Nat.le_of_ble_eq_true rfl) ⟨Nat.le_refl _, Nat.le_refl _⟩ ?_
  refine x_if_eq (tgt := 89) dX8_doLeave_80 (by decide) ⟨by split <;> omega, by split <;> omega⟩ (fun hb80 => ?_) (fun hz => (hz (if_neg ha)).elim)
  refine x_aload_n dX8_doLeave_89 rfl ?_
  refine x_iload dX8_doLeave_90 rfl ?_
  refine x_iload_n dX8_doLeave_92 rfl ?_
  refine x_iload_n dX8_doLeave_93 rfl ?_
  refine c_RX8_168d dX8_doLeave_94 rfl (kX8_canPass hM0 hr0 hI ht k0 k1 c0 c1 hg) (by assumption) (Nat.le_of_ble_eq_true rfl) (Nat.le_of_ble_eq_true rfl) ⟨Nat.le_refl _, Nat.le_refl _⟩ ?_
  refine x_if_ne (tgt := 107) dX8_doLeave_97 (by decide) ⟨by split <;> omega, by split <;> omega⟩ (fun hb97 => ?_) (fun hz => (hz (by rw [if_neg hd]; decide)).elim)
  refine x_iconst dX8_doLeave_107 ?_
  refine x_istore dX8_doLeave_108 (by decide) ?_
  show JX _ _ _ _ _ _ _ _ _ _ _ [_, _, _, _, _, _, _] _ _
  refine leave_skip (by omega) ?_
  refine x_aload_n dX8_doLeave_147 rfl ?_
  refine gf_RX8_7 dX8_doLeave_148 rfl (by assumption) ?_
  rw [m0]
  refine x_iload_n dX8_doLeave_151 rfl ?_
  refine x_dup2 dX8_doLeave_152 (fun _ h => by cases h) (fun _ h => by cases h) ?_
  refine x_iald dX8_doLeave_153 (by assumption) ⟨by omega, by omega⟩ ?_
  rw [hr]
  refine x_iconst dX8_doLeave_154 ?_
  refine x_isub dX8_doLeave_155 ?_
  refine x_iast dX8_doLeave_156 (by assumption) ⟨by omega, by omega⟩ ?_
  have hrB : (jup D (M + 1) (161 + 13 * c) (r (161 + 13 * c) - 1)) (M + 1) = rLineOut c 1 r := by rw [jup_row, hr]; exact line_out1
  refine x_aload_n dX8_doLeave_157 rfl ?_
  refine x_iload dX8_doLeave_158 rfl ?_
  refine x_bipush dX8_doLeave_160 (by decide) ?_
  refine x_iload_n dX8_doLeave_162 rfl ?_
  refine x_iload_n dX8_doLeave_163 rfl ?_
  refine x_iadd dX8_doLeave_164 ?_
  refine c_RX8_129d dX8_doLeave_165 rfl (kX8_put hM0 hrB (by omega) (by omega)) (by assumption) (Nat.le_of_ble_eq_true rfl) (Nat.le_of_ble_eq_true rfl) ⟨Nat.le_refl _, Nat.le_refl _⟩ ?_
  rw [show 65 + 8 * b + 6 = 71 + 8 * b by omega]
  have hrC : (jup (jup D (M + 1) (161 + 13 * c) (r (161 + 13 * c) - 1)) (M + 1) (71 + 8 * b) (c + 1)) (M + 1) = rup (rLineOut c 1 r) (71 + 8 * b) (c + 1) := by rw [jup_row, hrB]
  have hp30 : rup (rLineOut c 1 r) (71 + 8 * b) (c + 1) (30 + 11 * c + 1) = r (30 + 11 * c + 1) := by rw [rup_ne (by omega), rLineOut_o ⟨hln.1, hln.2.1⟩ (by omega)]
  have hq30 : 0 ≤ r (30 + 11 * c + 1) ∧ r (30 + 11 * c + 1) ≤ t := by
    first
      | (rw [Int.add_zero]; omega)
      | (rw [show 30 + 11 * c + 1 = 31 + 11 * c by omega]; omega)
  refine x_aload_n dX8_doLeave_168 rfl ?_
  refine x_iload dX8_doLeave_169 rfl ?_
  refine x_iload_n dX8_doLeave_171 rfl ?_
  refine x_iload_n dX8_doLeave_172 rfl ?_
  refine c_RX8_171p dX8_doLeave_173 rfl (kX8_pass hM0 hrC k0 k2 c0 c2 hg (by rw [hp30]; omega)) (by assumption) (Nat.le_of_ble_eq_true rfl) (Nat.le_of_ble_eq_true rfl) ⟨Nat.le_refl _, Nat.le_refl _⟩ (fun D3 h3 => ?_)
  obtain ⟨g3, x3⟩ := h3
  have hrD : D3 (M + 1) = rLeave b c 1 r := by rw [g3]; exact rPas_ps c0 c2 hg k0
  have hX3 : ∀ x : Int, x ≠ M + 1 → D3 x = D x := fun x hx => by rw [x3 x hx, jup_off hx, jup_off hx]
  refine x_iload dX8_doLeave_176 rfl ?_
  exact x_ireturn dX8_doLeave_178 rfl rfl ⟨Nat.le_refl _, Nat.le_refl _⟩ ⟨rfl, _, rfl, jDo_put hrD hX3⟩
theorem kX8_doLeave {G : JG} {S : JS} {D : JD} {d : Nat} {M t : Int} {r : Int → Int}  {c g : Int} (hM : jMo S M) (hr : D (M + 1) = r) (hI : rIn t r) (ht : t ≤ 60000) (rc : i32 c) (rg : i32 g) : JM G yX8_doLeave cX8_doLeave 7 (some .int) (d + 6) (0, 0) S D [.inr (.inr (some M)), .inl c, .inl g] (jrP S (jDo D M r (zLeave c g r))) := by
  unfold zLeave
  by_cases h : (0 ≤ c ∧ c < r 1) ∧ (g = 0 ∨ g = 1)
  · rw [if_pos h]
    obtain ⟨⟨c0, c1⟩, hg⟩ := h
    have hg0 := hg
    by_cases ho : r (29 + 11 * c) ≠ g
    · rw [if_pos ho]; exact kX8_doLeave_g hM hr hI ht c0 c1 hg ho
    · rw [if_neg ho]
      replace ho : r (29 + 11 * c) = g := Classical.byContradiction ho
      rcases hg with rfl | rfl
      · by_cases hn : r (161 + 13 * c) = 0
        · rw [if_pos hn]; exact kX8_doLeave_n hM hr hI ht c0 c1 hg0 ho hn
        · rw [if_neg hn]
          by_cases ha : gAgr r (sNext r c 0)
          · rw [if_pos ha]; exact kX8_doLeave_a0 hM hr hI ht c0 c1 ho hn ha
          · rw [if_neg ha]
            by_cases hd : gDeep r (sNext r c 0) c 0
            · rw [if_pos hd]; exact kX8_doLeave_d0 hM hr hI ht c0 c1 ho hn ha hd
            · rw [if_neg hd]; exact kX8_doLeave_y0 hM hr hI ht c0 c1 ho hn ha hd
      · by_cases hn : r (161 + 13 * c) = 0
        · rw [if_pos hn]; exact kX8_doLeave_n hM hr hI ht c0 c1 hg0 ho hn
        · rw [if_neg hn]
          by_cases ha : gAgr r (sNext r c 1)
          · rw [if_pos ha]; exact kX8_doLeave_a1 hM hr hI ht c0 c1 ho hn ha
          · rw [if_neg ha]
            by_cases hd : gDeep r (sNext r c 1) c 1
            · rw [if_pos hd]; exact kX8_doLeave_d1 hM hr hI ht c0 c1 ho hn ha hd
            · rw [if_neg hd]; exact kX8_doLeave_y1 hM hr hI ht c0 c1 ho hn ha hd
  · rw [if_neg h]; exact kX8_doLeave_u hM hr hI ht rc rg h
