/-! THE REFERENCE: undo, keep, restore, type, clearText -/
def jUr (D : JD) (M n : Int) (hs : Int → Int → Int) (w : JV) (D2 : JD) : Prop :=
  (∀ x : Int, x ≠ M → x ≠ M + 1 → D2 x = D x) ∧ (∀ k : Int, k ≠ 3 → D2 M k = D M k) ∧ (if n = 0 then w = .inl (-100000005) ∧ D2 M 3 = D M 3 ∧ D2 (M + 1) = D (M + 1) else w = .inl (n - 1) ∧ D2 M 3 = n - 1 ∧ ∀ j : Int, 0 ≤ j → j < 213 → D2 (M + 1) j = hs (n - 1) j)
def jKp (D : JD) (M i : Int) (r : Int → Int) (w : JV) (D2 : JD) : Prop :=
  w = .inl (r 2) ∧ (∀ x : Int, x ≠ M + 4 → x ≠ M + 5 → D2 x = D x) ∧ (∀ j : Int, 0 ≤ j → j < 213 → D2 (M + 4) (213 * i + j) = r j) ∧ (∀ j : Int, j < 213 * i ∨ 213 * i + 213 ≤ j → D2 (M + 4) j = D (M + 4) j) ∧ D2 (M + 5) i = 1 ∧ ∀ j : Int, j ≠ i → D2 (M + 5) j = D (M + 5) j
def jRr (D : JD) (M n : Int) (hs : Int → Int → Int) (r s : Int → Int) (w : JV) (D2 : JD) : Prop :=
  w = .inl (s 2) ∧ (∀ x : Int, x ≠ M → x ≠ M + 1 → x ≠ M + 2 → x ≠ M + 3 → D2 x = D x) ∧ (∀ k : Int, k ≠ 3 → D2 M k = D M k) ∧ jMh D2 M (sRecN n) (sRecH n hs r) ∧ ∀ j : Int, 0 ≤ j → j < 213 → D2 (M + 1) j = s j
theorem undo_loop {G : JG} {S : JS} {D0 : JD} {d : Nat} {M m : Int} {s : Int → Int} (hM : jMo S M) (m0 : 0 ≤ m) (m4 : m ≤ 4) (hrow : ∀ j : Int, 0 ≤ j → j < 213 → D0 (M + 3) (213 * m + j) = s j) : ∀ (n i : Nat) (D : JD), (i : Int) + n = 213 → D M 3 = m → (∀ x : Int, x ≠ M + 1 → D x = D0 x) → (∀ j : Int, 0 ≤ j → j < i → D (M + 1) j = s j) →
    JX G yX8_undo cX8_undo 2 (some .int) d (0, 0) (0, 0) S D 22 [some (.inr (.inr (some M))), some (.inl i)] [] (jrP S (fun w D2 => w = .inl m ∧ (∀ x : Int, x ≠ M + 1 → D2 x = D0 x) ∧ ∀ j : Int, 0 ≤ j → j < 213 → D2 (M + 1) j = s j)) := by
  intro n
  induction n with
  | zero =>
    intro i D hn h3 hX hlo
    obtain ⟨mk, m0, m1, m2, m4, m5, m8, m12, y1, l1, y2, l2, y3, l3, y4, l4, y5, l5, y6, l6, y7, l7⟩ := id hM
    refine x_iload_n dX8_undo_22 rfl ?_
    refine x_sipush dX8_undo_23 (by decide) ?_
    refine x_ic_ge (tgt := 56) dX8_undo_26 (by decide) ⟨by omega, by omega⟩ ⟨by omega, by omega⟩ (fun hb26 => ?_) (fun h => (h (by omega)).elim)
    refine x_aload_n dX8_undo_56 rfl ?_
    refine gf_RX8_38 dX8_undo_57 rfl (by assumption) ?_
    rw [h3]
    exact x_ireturn dX8_undo_60 rfl rfl ⟨Nat.le_refl _, Nat.le_refl _⟩ ⟨rfl, _, rfl, rfl, hX, fun j x y => hlo j x (by omega)⟩
  | succ n ih =>
    intro i D hn h3 hX hlo
    obtain ⟨mk, m0, m1, m2, m4, m5, m8, m12, y1, l1, y2, l2, y3, l3, y4, l4, y5, l5, y6, l6, y7, l7⟩ := id hM
    refine x_iload_n dX8_undo_22 rfl ?_
    refine x_sipush dX8_undo_23 (by decide) ?_
    refine x_ic_ge (tgt := 56) dX8_undo_26 (by decide) ⟨by omega, by omega⟩ ⟨by omega, by omega⟩ (fun h => absurd h (by omega)) (fun hb26 => ?_)
    refine x_aload_n dX8_undo_29 rfl ?_
    refine gf_RX8_7 dX8_undo_30 rfl (by assumption) ?_
    rw [m0]
    refine x_iload_n dX8_undo_33 rfl ?_
    refine x_aload_n dX8_undo_34 rfl ?_
    refine gf_RX8_16 dX8_undo_35 rfl (by assumption) ?_
    rw [m2]
    refine x_sipush dX8_undo_38 (by decide) ?_
    refine x_aload_n dX8_undo_41 rfl ?_
    refine gf_RX8_38 dX8_undo_42 rfl (by assumption) ?_
    rw [h3]
    refine x_imul dX8_undo_45 ?_
    refine x_iload_n dX8_undo_46 rfl ?_
    refine x_iadd dX8_undo_47 ?_
    refine x_iald dX8_undo_48 (by assumption) ⟨by omega, by omega⟩ ?_
    rw [hX (M + 3) (by omega), hrow _ (by omega) (by omega)]
    refine x_iast dX8_undo_49 (by assumption) ⟨by omega, by omega⟩ ?_
    refine x_iinc dX8_undo_50 rfl (by decide) ?_
    show JX _ _ _ _ _ _ _ _ _ _ _ [_, _] _ _
    refine x_goto (tgt := 22) dX8_undo_53 (by decide) ?_
    exact ih (i + 1) _ (by omega) (by rw [jup_ne (by omega)]; exact h3) (fun x hx => by rw [jup_off hx]; exact hX x hx) (fun j x y => by
          by_cases q : j = i
          · rw [q, jup_eq]
          · rw [jup_nk q]; exact hlo j x (by omega))
theorem kX8_undo_n {G : JG} {S : JS} {D : JD} {d : Nat} {M n : Int} {hs : Int → Int → Int} (hM : jMo S M) (hm : jMh D M n hs) (hn : n = 0) : JM G yX8_undo cX8_undo 2 (some .int) d (0, 0) S D [.inr (.inr (some M))] (jrP S (jUr D M n hs)) := by
  have hM0 := hM
  obtain ⟨mk, m0, m1, m2, m4, m5, m8, m12, y1, l1, y2, l2, y3, l3, y4, l4, y5, l5, y6, l6, y7, l7⟩ := id hM
  obtain ⟨a1, a2, a3, a4⟩ := hm
  show JX _ _ _ _ _ _ _ _ _ _ _ [_, _] _ _
  refine x_aload_n dX8_undo_0 rfl ?_
  refine gf_RX8_38 dX8_undo_1 rfl (by assumption) ?_
  rw [a1]
  refine x_if_ne (tgt := 10) dX8_undo_4 (by decide) ⟨by omega, by omega⟩ (fun h => absurd h (by omega)) (fun hb4 => ?_)
  refine x_ldc (e := -100000005) dX8_undo_7 ct_RX8_48 (by decide) ?_
  exact x_ireturn dX8_undo_9 rfl rfl ⟨Nat.le_refl _, Nat.le_refl _⟩ ⟨rfl, _, rfl, fun _ _ _ => rfl, fun _ _ => rfl, by rw [if_pos hn]; exact ⟨rfl, rfl, rfl⟩⟩
theorem kX8_undo_y {G : JG} {S : JS} {D : JD} {d : Nat} {M n : Int} {hs : Int → Int → Int} (hM : jMo S M) (hm : jMh D M n hs) (hn : ¬ n = 0) : JM G yX8_undo cX8_undo 2 (some .int) d (0, 0) S D [.inr (.inr (some M))] (jrP S (jUr D M n hs)) := by
  have hM0 := hM
  obtain ⟨mk, m0, m1, m2, m4, m5, m8, m12, y1, l1, y2, l2, y3, l3, y4, l4, y5, l5, y6, l6, y7, l7⟩ := id hM
  obtain ⟨a1, a2, a3, a4⟩ := hm
  show JX _ _ _ _ _ _ _ _ _ _ _ [_, _] _ _
  refine x_aload_n dX8_undo_0 rfl ?_
  refine gf_RX8_38 dX8_undo_1 rfl (by assumption) ?_
  rw [a1]
  refine x_if_ne (tgt := 10) dX8_undo_4 (by decide) ⟨by omega, by omega⟩ (fun hb4 => ?_) (fun h => (h (by omega)).elim)
  refine x_aload_n dX8_undo_10 rfl ?_
  refine x_dup dX8_undo_11 (fun _ h => by cases h) ?_
  refine gf_RX8_38 dX8_undo_12 rfl (by assumption) ?_
  rw [a1]
  refine x_iconst dX8_undo_15 ?_
  refine x_isub dX8_undo_16 ?_
  refine pf_RX8_38 dX8_undo_17 rfl (by assumption) ?_
  refine x_iconst dX8_undo_20 ?_
  refine x_istore_n dX8_undo_21 (by decide) ?_
  show JX _ _ _ _ _ _ _ _ _ _ _ [_, _] _ _
  refine (undo_loop (D0 := jup D M 3 (n - 1)) (m := n - 1) (s := hs (n - 1)) hM (by omega) (by omega) (fun j x y => by rw [jup_off (by omega)]; exact a4 (n - 1) j (by omega) (by omega) x y) 213 0 (jup D M 3 (n - 1)) (by omega) jup_eq (fun _ _ => rfl) (fun j x y => absurd y (by omega))).mono ?_
  rintro v S2 D2 ⟨rfl, w, rfl, rfl, g2, g3⟩
  refine ⟨rfl, _, rfl, fun x p q => by rw [g2 x q, jup_off p], fun k hk => by rw [g2 M (by omega), jup_nk hk], ?_⟩
  rw [if_neg hn]
  exact ⟨rfl, by rw [g2 M (by omega), jup_eq], g3⟩
theorem kX8_undo {G : JG} {S : JS} {D : JD} {d : Nat} {M n : Int} {hs : Int → Int → Int} (hM : jMo S M) (hm : jMh D M n hs) : JM G yX8_undo cX8_undo 2 (some .int) d (0, 0) S D [.inr (.inr (some M))] (jrP S (jUr D M n hs)) := by
  by_cases hn : n = 0
  · exact kX8_undo_n hM hm hn
  · exact kX8_undo_y hM hm hn
theorem keep_loop {G : JG} {S : JS} {D0 : JD} {d : Nat} {M i : Int} {r : Int → Int} (hM : jMo S M) (hr : D0 (M + 1) = r) (hi : i = 0 ∨ i = 1) : ∀ (n k : Nat) (D : JD), (k : Int) + n = 213 → (∀ x : Int, x ≠ M + 4 → D x = D0 x) → (∀ j : Int, 0 ≤ j → j < k → D (M + 4) (213 * i + j) = r j) → (∀ j : Int, j < 213 * i ∨ 213 * i + 213 ≤ j → D (M + 4) j = D0 (M + 4) j) →
    JX G yX8_keep cX8_keep 3 (some .int) (d + 1) (0, 0) (0, 0) S D 21 [some (.inr (.inr (some M))), some (.inl i), some (.inl k)] [] (jrP S (fun w D2 => w = .inl (r 2) ∧ (∀ x : Int, x ≠ M + 4 → D2 x = D0 x) ∧ (∀ j : Int, 0 ≤ j → j < 213 → D2 (M + 4) (213 * i + j) = r j) ∧ (∀ j : Int, j < 213 * i ∨ 213 * i + 213 ≤ j → D2 (M + 4) j = D0 (M + 4) j))) := by
  intro n
  induction n with
  | zero =>
    intro k D hn hX hlo hhi
    obtain ⟨mk, m0, m1, m2, m4, m5, m8, m12, y1, l1, y2, l2, y3, l3, y4, l4, y5, l5, y6, l6, y7, l7⟩ := id hM
    refine x_iload_n dX8_keep_21 rfl ?_
    refine x_sipush dX8_keep_22 (by decide) ?_
    refine x_ic_ge (tgt := 52) dX8_keep_25 (by decide) ⟨by omega, by omega⟩ ⟨by omega, by omega⟩ (fun hb25 => ?_) (fun h => (h (by omega)).elim)
    refine x_aload_n dX8_keep_52 rfl ?_
    refine gf_RX8_7 dX8_keep_53 rfl (by assumption) ?_
    rw [m0]
    refine x_iconst dX8_keep_56 ?_
    refine x_iald dX8_keep_57 (by assumption) ⟨by omega, by omega⟩ ?_
    rw [hX (M + 1) (by omega), hr]
    exact x_ireturn dX8_keep_58 rfl rfl ⟨Nat.le_refl _, Nat.le_refl _⟩ ⟨rfl, _, rfl, rfl, hX, fun j x y => hlo j x (by omega), hhi⟩
  | succ n ih =>
    intro k D hn hX hlo hhi
    obtain ⟨mk, m0, m1, m2, m4, m5, m8, m12, y1, l1, y2, l2, y3, l3, y4, l4, y5, l5, y6, l6, y7, l7⟩ := id hM
    refine x_iload_n dX8_keep_21 rfl ?_
    refine x_sipush dX8_keep_22 (by decide) ?_
    refine x_ic_ge (tgt := 52) dX8_keep_25 (by decide) ⟨by omega, by omega⟩ ⟨by omega, by omega⟩ (fun h => absurd h (by omega)) (fun hb25 => ?_)
    refine x_aload_n dX8_keep_28 rfl ?_
    refine gf_RX8_19 dX8_keep_29 rfl (by assumption) ?_
    rw [m4]
    refine x_sipush dX8_keep_32 (by decide) ?_
    refine x_iload_n dX8_keep_35 rfl ?_
    refine x_imul dX8_keep_36 ?_
    refine x_iload_n dX8_keep_37 rfl ?_
    refine x_iadd dX8_keep_38 ?_
    refine x_aload_n dX8_keep_39 rfl ?_
    refine gf_RX8_7 dX8_keep_40 rfl (by assumption) ?_
    rw [m0]
    refine x_iload_n dX8_keep_43 rfl ?_
    refine x_iald dX8_keep_44 (by assumption) ⟨by omega, by omega⟩ ?_
    rw [hX (M + 1) (by omega), hr]
    refine x_iast dX8_keep_45 (by assumption) ⟨by omega, by omega⟩ ?_
    refine x_iinc dX8_keep_46 rfl (by decide) ?_
    show JX _ _ _ _ _ _ _ _ _ _ _ [_, _, _] _ _
    refine x_goto (tgt := 21) dX8_keep_49 (by decide) ?_
    exact ih (k + 1) _ (by omega) (fun x hx => by rw [jup_off hx]; exact hX x hx) (fun j x y => by
          by_cases q : j = k
          · rw [q, jup_eq]
          · rw [jup_nk (by omega)]; exact hlo j x (by omega)) (fun j x => by rw [jup_nk (by omega)]; exact hhi j x)
theorem kX8_keep_u {G : JG} {S : JS} {D : JD} {d : Nat} {M i : Int} {r : Int → Int} (hM : jMo S M) (hr : D (M + 1) = r) (ri : i32 i) (hi : ¬ (i = 0 ∨ i = 1)) : JM G yX8_keep cX8_keep 3 (some .int) (d + 1) (0, 0) S D [.inr (.inr (some M)), .inl i] (jr (.inl (-100000001)) S D) := by
  have hM0 := hM
  obtain ⟨mk, m0, m1, m2, m4, m5, m8, m12, y1, l1, y2, l2, y3, l3, y4, l4, y5, l5, y6, l6, y7, l7⟩ := id hM
  have hr0 := hr
  show JX _ _ _ _ _ _ _ _ _ _ _ [_, _, _] _ _
  refine x_iload_n dX8_keep_0 rfl ?_
  refine x_iconst dX8_keep_1 ?_
  refine x_iconst dX8_keep_2 ?_
  refine c_RX8_49d dX8_keep_3 rfl (kX8_in ri ⟨by omega, by omega⟩ ⟨by omega, by omega⟩) (Nat.le_of_ble_eq_true rfl) (Nat.le_of_ble_eq_true rfl) ⟨Nat.le_refl _, Nat.le_refl _⟩ ?_
  refine x_if_ne (tgt := 12) dX8_keep_6 (by decide) ⟨by split <;> omega, by split <;> omega⟩ (fun h => absurd h (by omega)) (fun hb6 => ?_)
  refine x_ldc (e := -100000001) dX8_keep_9 ct_RX8_41 (by decide) ?_
  exact x_ireturn dX8_keep_11 rfl rfl ⟨Nat.le_refl _, Nat.le_refl _⟩ ⟨rfl, rfl, rfl⟩
theorem kX8_keep_y {G : JG} {S : JS} {D : JD} {d : Nat} {M i : Int} {r : Int → Int} (hM : jMo S M) (hr : D (M + 1) = r) (hi : i = 0 ∨ i = 1) : JM G yX8_keep cX8_keep 3 (some .int) (d + 1) (0, 0) S D [.inr (.inr (some M)), .inl i] (jrP S (jKp D M i r)) := by
  have hM0 := hM
  obtain ⟨mk, m0, m1, m2, m4, m5, m8, m12, y1, l1, y2, l2, y3, l3, y4, l4, y5, l5, y6, l6, y7, l7⟩ := id hM
  have hr0 := hr
  show JX _ _ _ _ _ _ _ _ _ _ _ [_, _, _] _ _
  refine x_iload_n dX8_keep_0 rfl ?_
  refine x_iconst dX8_keep_1 ?_
  refine x_iconst dX8_keep_2 ?_
  refine c_RX8_49d dX8_keep_3 rfl (kX8_in ⟨by omega, by omega⟩ ⟨by omega, by omega⟩ ⟨by omega, by omega⟩) (Nat.le_of_ble_eq_true rfl) (Nat.le_of_ble_eq_true rfl) ⟨Nat.le_refl _, Nat.le_refl _⟩ ?_
  refine x_if_ne (tgt := 12) dX8_keep_6 (by decide) ⟨by split <;> omega, by split <;> omega⟩ (fun hb6 => ?_) (fun h => (h (by omega)).elim)
  refine x_aload_n dX8_keep_12 rfl ?_
  refine gf_RX8_22 dX8_keep_13 rfl (by assumption) ?_
  rw [m5]
  refine x_iload_n dX8_keep_16 rfl ?_
  refine x_iconst dX8_keep_17 ?_
  refine x_zast dX8_keep_18 (by assumption) ⟨by omega, by omega⟩ (by first | exact Or.inl rfl | exact Or.inr rfl) ?_
  refine x_iconst dX8_keep_19 ?_
  refine x_istore_n dX8_keep_20 (by decide) ?_
  show JX _ _ _ _ _ _ _ _ _ _ _ [_, _, _] _ _
  refine (keep_loop (D0 := jup D (M + 5) i 1) (r := r) hM (by rw [jup_off (by omega)]; exact hr) hi 213 0 _ (by omega) (fun _ _ => rfl) (fun j x y => absurd y (by omega)) (fun _ _ => rfl)).mono ?_
  rintro v S2 D2 ⟨rfl, w, rfl, rfl, g2, g3, g4⟩
  exact ⟨rfl, _, rfl, rfl, fun x p q => by rw [g2 x p, jup_off q], g3, fun j hj => by rw [g4 j hj, jup_off (by omega)], by rw [g2 _ (by omega), jup_eq], fun j hj => by rw [g2 _ (by omega), jup_nk hj]⟩
theorem restore_loop {G : JG} {S : JS} {D0 : JD} {d : Nat} {M i : Int} {s : Int → Int} {Q : Option JV → JS → JD → Prop} (hM : jMo S M) (hi : i = 0 ∨ i = 1) (hrow : ∀ j : Int, 0 ≤ j → j < 213 → D0 (M + 4) (213 * i + j) = s j)
    (K : ∀ D : JD, (∀ x : Int, x ≠ M + 1 → D x = D0 x) → (∀ j : Int, 0 ≤ j → j < 213 → D (M + 1) j = s j) → JX G yX8_restore cX8_restore 3 (some .int) (d + 1) (0, 0) (0, 0) S D 61 [some (.inr (.inr (some M))), some (.inl i), some (.inl 213)] [] Q) : ∀ (n k : Nat) (D : JD), (k : Int) + n = 213 → (∀ x : Int, x ≠ M + 1 → D x = D0 x) → (∀ j : Int, 0 ≤ j → j < k → D (M + 1) j = s j) →
    JX G yX8_restore cX8_restore 3 (some .int) (d + 1) (0, 0) (0, 0) S D 30 [some (.inr (.inr (some M))), some (.inl i), some (.inl k)] [] Q := by
  intro n
  induction n with
  | zero =>
    intro k D hn hX hlo
    obtain ⟨mk, m0, m1, m2, m4, m5, m8, m12, y1, l1, y2, l2, y3, l3, y4, l4, y5, l5, y6, l6, y7, l7⟩ := id hM
    have ei : k = 213 := by omega
    subst ei
    refine x_iload_n dX8_restore_30 rfl ?_
    refine x_sipush dX8_restore_31 (by decide) ?_
    refine x_ic_ge (tgt := 61) dX8_restore_34 (by decide) ⟨by omega, by omega⟩ ⟨by omega, by omega⟩ (fun hb34 => ?_) (fun h => (h (by omega)).elim)
    exact K D hX (fun j x y => hlo j x y)
  | succ n ih =>
    intro k D hn hX hlo
    obtain ⟨mk, m0, m1, m2, m4, m5, m8, m12, y1, l1, y2, l2, y3, l3, y4, l4, y5, l5, y6, l6, y7, l7⟩ := id hM
    refine x_iload_n dX8_restore_30 rfl ?_
    refine x_sipush dX8_restore_31 (by decide) ?_
    refine x_ic_ge (tgt := 61) dX8_restore_34 (by decide) ⟨by omega, by omega⟩ ⟨by omega, by omega⟩ (fun h => absurd h (by omega)) (fun hb34 => ?_)
    refine x_aload_n dX8_restore_37 rfl ?_
    refine gf_RX8_7 dX8_restore_38 rfl (by assumption) ?_
    rw [m0]
    refine x_iload_n dX8_restore_41 rfl ?_
    refine x_aload_n dX8_restore_42 rfl ?_
    refine gf_RX8_19 dX8_restore_43 rfl (by assumption) ?_
    rw [m4]
    refine x_sipush dX8_restore_46 (by decide) ?_
    refine x_iload_n dX8_restore_49 rfl ?_
    refine x_imul dX8_restore_50 ?_
    refine x_iload_n dX8_restore_51 rfl ?_
    refine x_iadd dX8_restore_52 ?_
    refine x_iald dX8_restore_53 (by assumption) ⟨by omega, by omega⟩ ?_
    rw [hX (M + 4) (by omega), hrow _ (by omega) (by omega)]
    refine x_iast dX8_restore_54 (by assumption) ⟨by omega, by omega⟩ ?_
    refine x_iinc dX8_restore_55 rfl (by decide) ?_
    show JX _ _ _ _ _ _ _ _ _ _ _ [_, _, _] _ _
    refine x_goto (tgt := 30) dX8_restore_58 (by decide) ?_
    exact ih (k + 1) _ (by omega) (fun x hx => by rw [jup_off hx]; exact hX x hx) (fun j x y => by
          by_cases q : j = k
          · rw [q, jup_eq]
          · rw [jup_nk q]; exact hlo j x (by omega))
theorem kX8_restore_u {G : JG} {S : JS} {D : JD} {d : Nat} {M n i : Int} {hs : Int → Int → Int} {r : Int → Int} (hM : jMo S M) (hr : D (M + 1) = r) (hm : jMh D M n hs) (ri : i32 i) (hi : ¬ (i = 0 ∨ i = 1)) : JM G yX8_restore cX8_restore 3 (some .int) (d + 1) (0, 0) S D [.inr (.inr (some M)), .inl i] (jr (.inl (-100000001)) S D) := by
  have hM0 := hM
  obtain ⟨mk, m0, m1, m2, m4, m5, m8, m12, y1, l1, y2, l2, y3, l3, y4, l4, y5, l5, y6, l6, y7, l7⟩ := id hM
  have hr0 := hr
  show JX _ _ _ _ _ _ _ _ _ _ _ [_, _, _] _ _
  refine x_iload_n dX8_restore_0 rfl ?_
  refine x_iconst dX8_restore_1 ?_
  refine x_iconst dX8_restore_2 ?_
  refine c_RX8_49d dX8_restore_3 rfl (kX8_in ri ⟨by omega, by omega⟩ ⟨by omega, by omega⟩) (Nat.le_of_ble_eq_true rfl) (Nat.le_of_ble_eq_true rfl) ⟨Nat.le_refl _, Nat.le_refl _⟩ ?_
  refine x_if_ne (tgt := 12) dX8_restore_6 (by decide) ⟨by split <;> omega, by split <;> omega⟩ (fun h => absurd h (by omega)) (fun hb6 => ?_)
  refine x_ldc (e := -100000001) dX8_restore_9 ct_RX8_41 (by decide) ?_
  exact x_ireturn dX8_restore_11 rfl rfl ⟨Nat.le_refl _, Nat.le_refl _⟩ ⟨rfl, rfl, rfl⟩
theorem kX8_restore_n {G : JG} {S : JS} {D : JD} {d : Nat} {M n i : Int} {hs : Int → Int → Int} {r : Int → Int} (hM : jMo S M) (hr : D (M + 1) = r) (hm : jMh D M n hs) (hi : i = 0 ∨ i = 1) (hk : D (M + 5) i = 0) : JM G yX8_restore cX8_restore 3 (some .int) (d + 1) (0, 0) S D [.inr (.inr (some M)), .inl i] (jr (.inl (-100000005)) S D) := by
  have hM0 := hM
  obtain ⟨mk, m0, m1, m2, m4, m5, m8, m12, y1, l1, y2, l2, y3, l3, y4, l4, y5, l5, y6, l6, y7, l7⟩ := id hM
  have hr0 := hr
  show JX _ _ _ _ _ _ _ _ _ _ _ [_, _, _] _ _
  refine x_iload_n dX8_restore_0 rfl ?_
  refine x_iconst dX8_restore_1 ?_
  refine x_iconst dX8_restore_2 ?_
  refine c_RX8_49d dX8_restore_3 rfl (kX8_in ⟨by omega, by omega⟩ ⟨by omega, by omega⟩ ⟨by omega, by omega⟩) (Nat.le_of_ble_eq_true rfl) (Nat.le_of_ble_eq_true rfl) ⟨Nat.le_refl _, Nat.le_refl _⟩ ?_
  refine x_if_ne (tgt := 12) dX8_restore_6 (by decide) ⟨by split <;> omega, by split <;> omega⟩ (fun hb6 => ?_) (fun h => (h (by omega)).elim)
  refine x_aload_n dX8_restore_12 rfl ?_
  refine gf_RX8_22 dX8_restore_13 rfl (by assumption) ?_
  rw [m5]
  refine x_iload_n dX8_restore_16 rfl ?_
  refine x_zald dX8_restore_17 (by assumption) ⟨by omega, by omega⟩ ?_
  rw [hk]
  refine x_if_ne (tgt := 24) dX8_restore_18 (by decide) ⟨by omega, by omega⟩ (fun h => absurd h (by omega)) (fun hb18 => ?_)
  refine x_ldc (e := -100000005) dX8_restore_21 ct_RX8_48 (by decide) ?_
  exact x_ireturn dX8_restore_23 rfl rfl ⟨Nat.le_refl _, Nat.le_refl _⟩ ⟨rfl, rfl, rfl⟩
theorem kX8_restore_y {G : JG} {S : JS} {D : JD} {d : Nat} {M n i : Int} {hs : Int → Int → Int} {r : Int → Int} {s : Int → Int} (hM : jMo S M) (hr : D (M + 1) = r) (hm : jMh D M n hs) (hi : i = 0 ∨ i = 1) (hk : D (M + 5) i = 1) (hrow : ∀ j : Int, 0 ≤ j → j < 213 → D (M + 4) (213 * i + j) = s j) : JM G yX8_restore cX8_restore 3 (some .int) (d + 1) (0, 0) S D [.inr (.inr (some M)), .inl i] (jrP S (jRr D M n hs r s)) := by
  have hM0 := hM
  obtain ⟨mk, m0, m1, m2, m4, m5, m8, m12, y1, l1, y2, l2, y3, l3, y4, l4, y5, l5, y6, l6, y7, l7⟩ := id hM
  have hr0 := hr
  show JX _ _ _ _ _ _ _ _ _ _ _ [_, _, _] _ _
  refine x_iload_n dX8_restore_0 rfl ?_
  refine x_iconst dX8_restore_1 ?_
  refine x_iconst dX8_restore_2 ?_
  refine c_RX8_49d dX8_restore_3 rfl (kX8_in ⟨by omega, by omega⟩ ⟨by omega, by omega⟩ ⟨by omega, by omega⟩) (Nat.le_of_ble_eq_true rfl) (Nat.le_of_ble_eq_true rfl) ⟨Nat.le_refl _, Nat.le_refl _⟩ ?_
  refine x_if_ne (tgt := 12) dX8_restore_6 (by decide) ⟨by split <;> omega, by split <;> omega⟩ (fun hb6 => ?_) (fun h => (h (by omega)).elim)
  refine x_aload_n dX8_restore_12 rfl ?_
  refine gf_RX8_22 dX8_restore_13 rfl (by assumption) ?_
  rw [m5]
  refine x_iload_n dX8_restore_16 rfl ?_
  refine x_zald dX8_restore_17 (by assumption) ⟨by omega, by omega⟩ ?_
  rw [hk]
  refine x_if_ne (tgt := 24) dX8_restore_18 (by decide) ⟨by omega, by omega⟩ (fun hb18 => ?_) (fun h => (h (by omega)).elim)
  refine x_aload_n dX8_restore_24 rfl ?_
  refine c_RX8_53p dX8_restore_25 rfl (kX8_begin hM0 hr0) (by assumption) (Nat.le_of_ble_eq_true rfl) (Nat.le_of_ble_eq_true rfl) ⟨Nat.le_refl _, Nat.le_refl _⟩ (fun D1 h1 => ?_)
  obtain ⟨hsc, bx⟩ := h1
  have hr1 : D1 (M + 1) = r := by rw [bx _ (by omega)]; exact hr
  have hm1 : jMh D1 M n hs := hm.frame (by rw [bx M (by omega)]) (bx _ (by omega))
  refine x_iconst dX8_restore_28 ?_
  refine x_istore_n dX8_restore_29 (by decide) ?_
  show JX _ _ _ _ _ _ _ _ _ _ _ [_, _, _] _ _
  refine restore_loop (D0 := D1) (s := s) hM0 hi (fun j x y => by rw [bx _ (by omega)]; exact hrow j x y) (fun D8 x8 s8 => ?_) 213 0 D1 (by omega) (fun _ _ => rfl) (fun j x y => absurd y (by omega))
  have hsc8 : ∀ k : Int, 0 ≤ k → k < 213 → D8 (M + 2) k = r k := fun k x y => by rw [x8 _ (by omega)]; exact hsc k x y
  have hm8 : jMh D8 M n hs := hm1.frame (by rw [x8 M (by omega)]) (x8 _ (by omega))
  refine x_aload_n dX8_restore_61 rfl ?_
  refine c_RX8_42p dX8_restore_62 rfl (kX8_record hM0 hm8 hsc8) (by assumption) (Nat.le_of_ble_eq_true rfl) (Nat.le_of_ble_eq_true rfl) ⟨Nat.le_refl _, Nat.le_refl _⟩ (fun D9 h9 => ?_)
  obtain ⟨q1, q2, q3⟩ := h9
  have q4 : D9 (M + 1) = D8 (M + 1) := q2 _ (by omega) (by omega)
  refine x_aload_n dX8_restore_65 rfl ?_
  refine gf_RX8_7 dX8_restore_66 rfl (by assumption) ?_
  rw [m0]
  refine x_iconst dX8_restore_69 ?_
  refine x_iald dX8_restore_70 (by assumption) ⟨by omega, by omega⟩ ?_
  rw [q4, s8 2 (by omega) (by omega)]
  exact x_ireturn dX8_restore_71 rfl rfl ⟨Nat.le_refl _, Nat.le_refl _⟩ ⟨rfl, _, rfl, rfl, fun x p q u y => by rw [q2 x p y, x8 x q, bx x u], fun k hk => by rw [q3 k hk, x8 M (by omega), bx M (by omega)], q1, fun j x y => by rw [q4]; exact s8 j x y⟩
theorem kX8_type_f {G : JG} {S : JS} {D : JD} {d : Nat} {M c n : Int} (hM : jMo S M) (hn : D M 7 = n) (h : n = 60) : JM G yX8_type cX8_type 2 (some .int) d (0, 0) S D [.inr (.inr (some M)), .inl c] (jr (.inl (-100000004)) S D) := by
  have hM0 := hM
  obtain ⟨mk, m0, m1, m2, m4, m5, m8, m12, y1, l1, y2, l2, y3, l3, y4, l4, y5, l5, y6, l6, y7, l7⟩ := id hM
  show JX _ _ _ _ _ _ _ _ _ _ _ [_, _] _ _
  refine x_aload_n dX8_type_0 rfl ?_
  refine gf_RX8_180 dX8_type_1 rfl (by assumption) ?_
  rw [hn]
  refine x_bipush dX8_type_4 (by decide) ?_
  refine x_ic_ne (tgt := 12) dX8_type_6 (by decide) ⟨by omega, by omega⟩ ⟨by omega, by omega⟩ (fun h => absurd h (by omega)) (fun hb6 => ?_)
  refine x_ldc (e := -100000004) dX8_type_9 ct_RX8_105 (by decide) ?_
  exact x_ireturn dX8_type_11 rfl rfl ⟨Nat.le_refl _, Nat.le_refl _⟩ ⟨rfl, rfl, rfl⟩
theorem kX8_type_y {G : JG} {S : JS} {D : JD} {d : Nat} {M c n : Int} (hM : jMo S M) (hn : D M 7 = n) (h0 : 0 ≤ n) (h1 : n < 60) (rc : 0 ≤ c ∧ c ≤ 65535) : JM G yX8_type cX8_type 2 (some .int) d (0, 0) S D [.inr (.inr (some M)), .inl c] (jr (.inl (n + 1)) S (jup (jup D (M + 6) n c) M 7 (n + 1))) := by
  have hM0 := hM
  obtain ⟨mk, m0, m1, m2, m4, m5, m8, m12, y1, l1, y2, l2, y3, l3, y4, l4, y5, l5, y6, l6, y7, l7⟩ := id hM
  show JX _ _ _ _ _ _ _ _ _ _ _ [_, _] _ _
  refine x_aload_n dX8_type_0 rfl ?_
  refine gf_RX8_180 dX8_type_1 rfl (by assumption) ?_
  rw [hn]
  refine x_bipush dX8_type_4 (by decide) ?_
  refine x_ic_ne (tgt := 12) dX8_type_6 (by decide) ⟨by omega, by omega⟩ ⟨by omega, by omega⟩ (fun hb6 => ?_) (fun h => (h (by omega)).elim)
  refine x_aload_n dX8_type_12 rfl ?_
  refine gf_RX8_26 dX8_type_13 rfl (by assumption) ?_
  rw [m8]
  refine x_aload_n dX8_type_16 rfl ?_
  refine gf_RX8_180 dX8_type_17 rfl (by assumption) ?_
  rw [hn]
  refine x_iload_n dX8_type_20 rfl ?_
  refine x_cast dX8_type_21 (by assumption) ⟨by omega, by omega⟩ ⟨by omega, by omega⟩ ?_
  refine x_aload_n dX8_type_22 rfl ?_
  refine x_dup dX8_type_23 (fun _ h => by cases h) ?_
  refine gf_RX8_180 dX8_type_24 rfl (by assumption) ?_
  rw [jup_ne (show M ≠ M + 6 by omega), hn]
  refine x_iconst dX8_type_27 ?_
  refine x_iadd dX8_type_28 ?_
  refine pf_RX8_180 dX8_type_29 rfl (by assumption) ?_
  refine x_aload_n dX8_type_32 rfl ?_
  refine gf_RX8_180 dX8_type_33 rfl (by assumption) ?_
  rw [jup_eq]
  exact x_ireturn dX8_type_36 rfl rfl ⟨Nat.le_refl _, Nat.le_refl _⟩ ⟨rfl, rfl, rfl⟩
theorem kX8_clearText {G : JG} {S : JS} {D : JD} {d : Nat} {M : Int} (hM : jMo S M) : JM G yX8_clearText cX8_clearText 2 (some .int) d (0, 0) S D [.inr (.inr (some M))] (jr (.inl (D M 7)) S (jup D M 7 0)) := by
  have hM0 := hM
  obtain ⟨mk, m0, m1, m2, m4, m5, m8, m12, y1, l1, y2, l2, y3, l3, y4, l4, y5, l5, y6, l6, y7, l7⟩ := id hM
  show JX _ _ _ _ _ _ _ _ _ _ _ [_, _] _ _
  refine x_aload_n dX8_clearText_0 rfl ?_
  refine gf_RX8_180 dX8_clearText_1 rfl (by assumption) ?_
  refine x_istore_n dX8_clearText_4 (by decide) ?_
  show JX _ _ _ _ _ _ _ _ _ _ _ [_, _] _ _
  refine x_aload_n dX8_clearText_5 rfl ?_
  refine x_iconst dX8_clearText_6 ?_
  refine pf_RX8_180 dX8_clearText_7 rfl (by assumption) ?_
  refine x_iload_n dX8_clearText_10 rfl ?_
  exact x_ireturn dX8_clearText_11 rfl rfl ⟨Nat.le_refl _, Nat.le_refl _⟩ ⟨rfl, rfl, rfl⟩
