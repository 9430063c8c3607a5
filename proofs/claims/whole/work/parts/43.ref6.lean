/-! THE REFERENCE: its copies of the row -/
theorem begin_loop {G : JG} {S : JS} {D0 : JD} {d : Nat} {M : Int} {r : Int → Int} (hM : jMo S M) (hr0 : D0 (M + 1) = r) : ∀ (n i : Nat) (D : JD), (i : Int) + n = 213 → (∀ k : Int, 0 ≤ k → k < i → D (M + 2) k = r k) → (∀ x : Int, x ≠ M + 2 → D x = D0 x) →
    JX G yX8_begin cX8_begin 2 none d (0, 0) (0, 0) S D 2 [some (.inr (.inr (some M))), some (.inl i)] [] (jnP S (fun D2 => (∀ k : Int, 0 ≤ k → k < 213 → D2 (M + 2) k = r k) ∧ ∀ x : Int, x ≠ M + 2 → D2 x = D0 x)) := by
  intro n
  induction n with
  | zero =>
    intro i D hn hk hX
    have hM0 := hM
    obtain ⟨mk, m0, m1, m2, m4, m5, m8, m12, y1, l1, y2, l2, y3, l3, y4, l4, y5, l5, y6, l6, y7, l7⟩ := id hM
    have hr : D (M + 1) = r := by rw [hX _ (by omega)]; exact hr0
    refine x_iload_n dX8_begin_2 rfl ?_
    refine x_sipush dX8_begin_3 (by decide) ?_
    refine x_ic_ge (tgt := 27) dX8_begin_6 (by decide) ⟨by omega, by omega⟩ ⟨by omega, by omega⟩ (fun hb6 => ?_) (fun h => (h (by omega)).elim)
    exact x_return dX8_begin_27 rfl ⟨Nat.le_refl _, Nat.le_refl _⟩ ⟨rfl, rfl, fun k x y => hk k x (by omega), hX⟩
  | succ n ih =>
    intro i D hn hk hX
    have hM0 := hM
    obtain ⟨mk, m0, m1, m2, m4, m5, m8, m12, y1, l1, y2, l2, y3, l3, y4, l4, y5, l5, y6, l6, y7, l7⟩ := id hM
    have hr : D (M + 1) = r := by rw [hX _ (by omega)]; exact hr0
    refine x_iload_n dX8_begin_2 rfl ?_
    refine x_sipush dX8_begin_3 (by decide) ?_
    refine x_ic_ge (tgt := 27) dX8_begin_6 (by decide) ⟨by omega, by omega⟩ ⟨by omega, by omega⟩ (fun h => absurd h (by omega)) (fun hb6 => ?_)
    refine x_aload_n dX8_begin_9 rfl ?_
    refine gf_RX8_13 dX8_begin_10 rfl (by assumption) ?_
    rw [m1]
    refine x_iload_n dX8_begin_13 rfl ?_
    refine x_aload_n dX8_begin_14 rfl ?_
    refine gf_RX8_7 dX8_begin_15 rfl (by assumption) ?_
    rw [m0]
    refine x_iload_n dX8_begin_18 rfl ?_
    refine x_iald dX8_begin_19 (by assumption) ⟨by omega, by omega⟩ ?_
    rw [hr]
    refine x_iast dX8_begin_20 (by assumption) ⟨by omega, by omega⟩ ?_
    refine x_iinc dX8_begin_21 rfl (by decide) ?_
    show JX _ _ _ _ _ _ _ _ _ _ _ [_, _] _ _
    refine x_goto (tgt := 2) dX8_begin_24 (by decide) ?_
    exact ih (i + 1) _ (by omega) (fun k x y => by
          by_cases q : k = i
          · rw [q, jup_eq]
          · rw [jup_nk q]; exact hk k x (by omega)) (fun x hx => by rw [jup_off hx]; exact hX x hx)
theorem kX8_begin {G : JG} {S : JS} {D : JD} {d : Nat} {M : Int} {r : Int → Int} (hM : jMo S M) (hr : D (M + 1) = r) : JM G yX8_begin cX8_begin 2 none d (0, 0) S D [.inr (.inr (some M))] (jnP S (fun D2 => (∀ k : Int, 0 ≤ k → k < 213 → D2 (M + 2) k = r k) ∧ ∀ x : Int, x ≠ M + 2 → D2 x = D x)) := by
  show JX _ _ _ _ _ _ _ _ _ _ _ [_, _] _ _
  refine x_iconst dX8_begin_0 ?_
  refine x_istore_n dX8_begin_1 (by decide) ?_
  show JX _ _ _ _ _ _ _ _ _ _ _ [_, _] _ _
  exact begin_loop hM hr 213 0 D (by omega) (fun k x y => absurd y (by omega)) (fun _ _ => rfl)
