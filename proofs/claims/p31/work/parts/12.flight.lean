/-! FLIGHTS: what is there, or null -/
def jFl (S : JS) (b : Int) : Prop := jK S b = 2 ∧ jR S b 0 = some (b + 1) ∧ jR S b 1 = some (b + 2) ∧ jR S b 2 = some (b + 3) ∧ jK S (b + 1) = 12 ∧ jL S (b + 1) = 5 ∧ jK S (b + 2) = 13 ∧ jL S (b + 2) = 4 ∧ jK S (b + 3) = 14 ∧ jL S (b + 3) = 12 ∧
  (∀ i : Int, 0 ≤ i → i < 5 → jR S (b + 1) i = some (b + 4 + i) ∧ jK S (b + 4 + i) = 6) ∧
  (∀ i : Int, 0 ≤ i → i < 4 → jR S (b + 2) i = some (b + 9 + 5 * i) ∧ jCh S (b + 9 + 5 * i)) ∧
  (∀ i : Int, 0 ≤ i → i < 12 → jR S (b + 3) i = some (b + 29 + i) ∧ jK S (b + 29 + i) = 0)
def jCt (D : JD) (b : Int) : Prop := 0 ≤ D b 3 ∧ D b 3 ≤ 5 ∧ 0 ≤ D b 4 ∧ D b 4 ≤ 4 ∧ 0 ≤ D b 5 ∧ D b 5 ≤ 12
def fRe (D : JD) (b n : Int) : Option Int := if 0 ≤ n ∧ n < D b 3 then some (b + 4 + n) else none
def fCh (D : JD) (b n : Int) : Option Int := if 0 ≤ n ∧ n < D b 4 then some (b + 9 + 5 * n) else none
def fBa (D : JD) (b n : Int) : Option Int := if 0 ≤ n ∧ n < D b 5 then some (b + 29 + n) else none
def fSi (D : JD) (b c g : Int) : Option Int := if 0 ≤ c ∧ c < D b 4 then (if g = 0 then some (b + 9 + 5 * c + 2) else if g = 1 then some (b + 9 + 5 * c + 3) else none) else none
def fBe (D : JD) (b c g : Int) : Option Int := if (0 ≤ c ∧ c < D b 4) ∧ (g = 0 ∨ g = 1) then fRe D b (c + g) else none
def fWa (D : JD) (b p : Int) : Option Int := if p < 100 then fRe D b p else if 0 ≤ p - 100 ∧ p - 100 < D b 4 then some (b + 9 + 5 * (p - 100) + 1) else none
theorem fSi_none {D : JD} {b c g : Int} (h : ¬ ((0 ≤ c ∧ c < D b 4) ∧ (g = 0 ∨ g = 1))) : fSi D b c g = none := by
  unfold fSi
  by_cases q : 0 ≤ c ∧ c < D b 4
  · rw [if_pos q, if_neg (fun z => h ⟨q, Or.inl z⟩), if_neg (fun z => h ⟨q, Or.inr z⟩)]
  · rw [if_neg q]
theorem kX2_reachAt_y {G : JG} {S : JS} {D : JD} {d : Nat} {b n : Int} (hF : jFl S b) (hc : jCt D b) (h : 0 ≤ n ∧ n < D b 3) : JM G yX2_reachAt cX2_reachAt 3 (some (.object "BargeLocks$Water")) d (0, 0) S D [.inr (.inr (some b)), .inl n] (jr (.inr (.inr (some (b + 4 + n)))) S D) := by
  obtain ⟨fk, f0, f1, f2, k1, l1, k2, l2, k3, l3, fr, fc, fb⟩ := hF
  obtain ⟨c1, c2, c3, c4, c5, c6⟩ := hc
  show JX _ _ _ _ _ _ _ _ _ _ _ [_, _, _] _ _
  refine x_iload_n dX2_reachAt_0 rfl ?_
  refine x_if_lt (tgt := 25) dX2_reachAt_1 (by decide) ⟨by omega, by omega⟩ (fun h => absurd h (by omega)) (fun hb1 => ?_)
  refine x_iload_n dX2_reachAt_4 rfl ?_
  refine x_aload_n dX2_reachAt_5 rfl ?_
  refine gf_RX2_32 dX2_reachAt_6 rfl (by assumption) ?_
  refine x_ic_ge (tgt := 25) dX2_reachAt_9 (by decide) ⟨by omega, by omega⟩ ⟨by omega, by omega⟩ (fun h => absurd h (by omega)) (fun hb9 => ?_)
  refine x_iload_n dX2_reachAt_12 rfl ?_
  refine x_aload_n dX2_reachAt_13 rfl ?_
  refine gf_RX2_11 dX2_reachAt_14 rfl (by assumption) ?_
  rw [f0]
  refine x_alen (c := 12) dX2_reachAt_17 (by decide) (by assumption) ?_
  refine x_ic_ge (tgt := 25) dX2_reachAt_18 (by decide) ⟨by omega, by omega⟩ ⟨by omega, by omega⟩ (fun h => absurd h (by omega)) (fun hb18 => ?_)
  refine x_iconst dX2_reachAt_21 ?_
  refine x_goto (tgt := 26) dX2_reachAt_22 (by decide) ?_
  refine x_istore_n dX2_reachAt_26 (by decide) ?_
  show JX _ _ _ _ _ _ _ _ _ _ _ [_, _, _] _ _
  refine x_iload_n dX2_reachAt_27 rfl ?_
  refine x_if_eq (tgt := 40) dX2_reachAt_28 (by decide) ⟨by omega, by omega⟩ (fun h => absurd h (by omega)) (fun hb28 => ?_)
  refine x_aload_n dX2_reachAt_31 rfl ?_
  refine gf_RX2_11 dX2_reachAt_32 rfl (by assumption) ?_
  rw [f0]
  refine x_iload_n dX2_reachAt_35 rfl ?_
  refine x_aald (c := 12) dX2_reachAt_36 (by decide) rfl (by assumption) ⟨by omega, by omega⟩ ?_
  refine x_goto (tgt := 41) dX2_reachAt_37 (by decide) ?_
  exact x_areturn dX2_reachAt_41 rfl (Or.inl ⟨_, rfl⟩) ⟨Nat.le_refl _, Nat.le_refl _⟩ ⟨by rw [(fr n (by omega) (by omega)).1], rfl, rfl⟩
theorem kX2_reachAt_n {G : JG} {S : JS} {D : JD} {d : Nat} {b n : Int} (hF : jFl S b) (hc : jCt D b) (rn : i32 n) (h : ¬ (0 ≤ n ∧ n < D b 3)) : JM G yX2_reachAt cX2_reachAt 3 (some (.object "BargeLocks$Water")) d (0, 0) S D [.inr (.inr (some b)), .inl n] (jr (.inr (.inr none)) S D) := by
  obtain ⟨fk, f0, f1, f2, k1, l1, k2, l2, k3, l3, fr, fc, fb⟩ := hF
  obtain ⟨c1, c2, c3, c4, c5, c6⟩ := hc
  show JX _ _ _ _ _ _ _ _ _ _ _ [_, _, _] _ _
  refine x_iload_n dX2_reachAt_0 rfl ?_
  refine x_if_lt (tgt := 25) dX2_reachAt_1 (by decide) rn (fun hb1 => ?_) (fun hb1 => ?_)
  · refine x_iconst dX2_reachAt_25 ?_
    refine x_istore_n dX2_reachAt_26 (by decide) ?_
    show JX _ _ _ _ _ _ _ _ _ _ _ [_, _, _] _ _
    refine x_iload_n dX2_reachAt_27 rfl ?_
    refine x_if_eq (tgt := 40) dX2_reachAt_28 (by decide) ⟨by omega, by omega⟩ (fun hb28 => ?_) (fun h => (h (by omega)).elim)
    refine x_null dX2_reachAt_40 ?_
    exact x_areturn dX2_reachAt_41 rfl (Or.inl ⟨_, rfl⟩) ⟨Nat.le_refl _, Nat.le_refl _⟩ ⟨rfl, rfl, rfl⟩
  · refine x_iload_n dX2_reachAt_4 rfl ?_
    refine x_aload_n dX2_reachAt_5 rfl ?_
    refine gf_RX2_32 dX2_reachAt_6 rfl (by assumption) ?_
    refine x_ic_ge (tgt := 25) dX2_reachAt_9 (by decide) rn ⟨by omega, by omega⟩ (fun hb9 => ?_) (fun h => (h (by omega)).elim)
    refine x_iconst dX2_reachAt_25 ?_
    refine x_istore_n dX2_reachAt_26 (by decide) ?_
    show JX _ _ _ _ _ _ _ _ _ _ _ [_, _, _] _ _
    refine x_iload_n dX2_reachAt_27 rfl ?_
    refine x_if_eq (tgt := 40) dX2_reachAt_28 (by decide) ⟨by omega, by omega⟩ (fun hb28 => ?_) (fun h => (h (by omega)).elim)
    refine x_null dX2_reachAt_40 ?_
    exact x_areturn dX2_reachAt_41 rfl (Or.inl ⟨_, rfl⟩) ⟨Nat.le_refl _, Nat.le_refl _⟩ ⟨rfl, rfl, rfl⟩
theorem kX2_reachAt {G : JG} {S : JS} {D : JD} {d : Nat} {b n : Int} (hF : jFl S b) (hc : jCt D b) (rn : i32 n) : JM G yX2_reachAt cX2_reachAt 3 (some (.object "BargeLocks$Water")) d (0, 0) S D [.inr (.inr (some b)), .inl n] (jr (.inr (.inr (fRe D b n))) S D) := by
  unfold fRe
  by_cases h : 0 ≤ n ∧ n < D b 3
  · rw [if_pos h]; exact kX2_reachAt_y hF hc h
  · rw [if_neg h]; exact kX2_reachAt_n hF hc rn h
theorem kX2_chamberAt_y {G : JG} {S : JS} {D : JD} {d : Nat} {b n : Int} (hF : jFl S b) (hc : jCt D b) (h : 0 ≤ n ∧ n < D b 4) : JM G yX2_chamberAt cX2_chamberAt 3 (some (.object "BargeLocks$Chamber")) d (0, 0) S D [.inr (.inr (some b)), .inl n] (jr (.inr (.inr (some (b + 9 + 5 * n)))) S D) := by
  obtain ⟨fk, f0, f1, f2, k1, l1, k2, l2, k3, l3, fr, fc, fb⟩ := hF
  obtain ⟨c1, c2, c3, c4, c5, c6⟩ := hc
  show JX _ _ _ _ _ _ _ _ _ _ _ [_, _, _] _ _
  refine x_iload_n dX2_chamberAt_0 rfl ?_
  refine x_if_lt (tgt := 25) dX2_chamberAt_1 (by decide) ⟨by omega, by omega⟩ (fun h => absurd h (by omega)) (fun hb1 => ?_)
  refine x_iload_n dX2_chamberAt_4 rfl ?_
  refine x_aload_n dX2_chamberAt_5 rfl ?_
  refine gf_RX2_36 dX2_chamberAt_6 rfl (by assumption) ?_
  refine x_ic_ge (tgt := 25) dX2_chamberAt_9 (by decide) ⟨by omega, by omega⟩ ⟨by omega, by omega⟩ (fun h => absurd h (by omega)) (fun hb9 => ?_)
  refine x_iload_n dX2_chamberAt_12 rfl ?_
  refine x_aload_n dX2_chamberAt_13 rfl ?_
  refine gf_RX2_19 dX2_chamberAt_14 rfl (by assumption) ?_
  rw [f1]
  refine x_alen (c := 13) dX2_chamberAt_17 (by decide) (by assumption) ?_
  refine x_ic_ge (tgt := 25) dX2_chamberAt_18 (by decide) ⟨by omega, by omega⟩ ⟨by omega, by omega⟩ (fun h => absurd h (by omega)) (fun hb18 => ?_)
  refine x_iconst dX2_chamberAt_21 ?_
  refine x_goto (tgt := 26) dX2_chamberAt_22 (by decide) ?_
  refine x_istore_n dX2_chamberAt_26 (by decide) ?_
  show JX _ _ _ _ _ _ _ _ _ _ _ [_, _, _] _ _
  refine x_iload_n dX2_chamberAt_27 rfl ?_
  refine x_if_eq (tgt := 40) dX2_chamberAt_28 (by decide) ⟨by omega, by omega⟩ (fun h => absurd h (by omega)) (fun hb28 => ?_)
  refine x_aload_n dX2_chamberAt_31 rfl ?_
  refine gf_RX2_19 dX2_chamberAt_32 rfl (by assumption) ?_
  rw [f1]
  refine x_iload_n dX2_chamberAt_35 rfl ?_
  refine x_aald (c := 13) dX2_chamberAt_36 (by decide) rfl (by assumption) ⟨by omega, by omega⟩ ?_
  refine x_goto (tgt := 41) dX2_chamberAt_37 (by decide) ?_
  exact x_areturn dX2_chamberAt_41 rfl (Or.inl ⟨_, rfl⟩) ⟨Nat.le_refl _, Nat.le_refl _⟩ ⟨by rw [(fc n (by omega) (by omega)).1], rfl, rfl⟩
theorem kX2_chamberAt_n {G : JG} {S : JS} {D : JD} {d : Nat} {b n : Int} (hF : jFl S b) (hc : jCt D b) (rn : i32 n) (h : ¬ (0 ≤ n ∧ n < D b 4)) : JM G yX2_chamberAt cX2_chamberAt 3 (some (.object "BargeLocks$Chamber")) d (0, 0) S D [.inr (.inr (some b)), .inl n] (jr (.inr (.inr none)) S D) := by
  obtain ⟨fk, f0, f1, f2, k1, l1, k2, l2, k3, l3, fr, fc, fb⟩ := hF
  obtain ⟨c1, c2, c3, c4, c5, c6⟩ := hc
  show JX _ _ _ _ _ _ _ _ _ _ _ [_, _, _] _ _
  refine x_iload_n dX2_chamberAt_0 rfl ?_
  refine x_if_lt (tgt := 25) dX2_chamberAt_1 (by decide) rn (fun hb1 => ?_) (fun hb1 => ?_)
  · refine x_iconst dX2_chamberAt_25 ?_
    refine x_istore_n dX2_chamberAt_26 (by decide) ?_
    show JX _ _ _ _ _ _ _ _ _ _ _ [_, _, _] _ _
    refine x_iload_n dX2_chamberAt_27 rfl ?_
    refine x_if_eq (tgt := 40) dX2_chamberAt_28 (by decide) ⟨by omega, by omega⟩ (fun hb28 => ?_) (fun h => (h (by omega)).elim)
    refine x_null dX2_chamberAt_40 ?_
    exact x_areturn dX2_chamberAt_41 rfl (Or.inl ⟨_, rfl⟩) ⟨Nat.le_refl _, Nat.le_refl _⟩ ⟨rfl, rfl, rfl⟩
  · refine x_iload_n dX2_chamberAt_4 rfl ?_
    refine x_aload_n dX2_chamberAt_5 rfl ?_
    refine gf_RX2_36 dX2_chamberAt_6 rfl (by assumption) ?_
    refine x_ic_ge (tgt := 25) dX2_chamberAt_9 (by decide) rn ⟨by omega, by omega⟩ (fun hb9 => ?_) (fun h => (h (by omega)).elim)
    refine x_iconst dX2_chamberAt_25 ?_
    refine x_istore_n dX2_chamberAt_26 (by decide) ?_
    show JX _ _ _ _ _ _ _ _ _ _ _ [_, _, _] _ _
    refine x_iload_n dX2_chamberAt_27 rfl ?_
    refine x_if_eq (tgt := 40) dX2_chamberAt_28 (by decide) ⟨by omega, by omega⟩ (fun hb28 => ?_) (fun h => (h (by omega)).elim)
    refine x_null dX2_chamberAt_40 ?_
    exact x_areturn dX2_chamberAt_41 rfl (Or.inl ⟨_, rfl⟩) ⟨Nat.le_refl _, Nat.le_refl _⟩ ⟨rfl, rfl, rfl⟩
theorem kX2_chamberAt {G : JG} {S : JS} {D : JD} {d : Nat} {b n : Int} (hF : jFl S b) (hc : jCt D b) (rn : i32 n) : JM G yX2_chamberAt cX2_chamberAt 3 (some (.object "BargeLocks$Chamber")) d (0, 0) S D [.inr (.inr (some b)), .inl n] (jr (.inr (.inr (fCh D b n))) S D) := by
  unfold fCh
  by_cases h : 0 ≤ n ∧ n < D b 4
  · rw [if_pos h]; exact kX2_chamberAt_y hF hc h
  · rw [if_neg h]; exact kX2_chamberAt_n hF hc rn h
theorem kX2_bargeAt_y {G : JG} {S : JS} {D : JD} {d : Nat} {b n : Int} (hF : jFl S b) (hc : jCt D b) (h : 0 ≤ n ∧ n < D b 5) : JM G yX2_bargeAt cX2_bargeAt 3 (some (.object "BargeLocks$Barge")) d (0, 0) S D [.inr (.inr (some b)), .inl n] (jr (.inr (.inr (some (b + 29 + n)))) S D) := by
  obtain ⟨fk, f0, f1, f2, k1, l1, k2, l2, k3, l3, fr, fc, fb⟩ := hF
  obtain ⟨c1, c2, c3, c4, c5, c6⟩ := hc
  show JX _ _ _ _ _ _ _ _ _ _ _ [_, _, _] _ _
  refine x_iload_n dX2_bargeAt_0 rfl ?_
  refine x_if_lt (tgt := 25) dX2_bargeAt_1 (by decide) ⟨by omega, by omega⟩ (fun h => absurd h (by omega)) (fun hb1 => ?_)
  refine x_iload_n dX2_bargeAt_4 rfl ?_
  refine x_aload_n dX2_bargeAt_5 rfl ?_
  refine gf_RX2_39 dX2_bargeAt_6 rfl (by assumption) ?_
  refine x_ic_ge (tgt := 25) dX2_bargeAt_9 (by decide) ⟨by omega, by omega⟩ ⟨by omega, by omega⟩ (fun h => absurd h (by omega)) (fun hb9 => ?_)
  refine x_iload_n dX2_bargeAt_12 rfl ?_
  refine x_aload_n dX2_bargeAt_13 rfl ?_
  refine gf_RX2_25 dX2_bargeAt_14 rfl (by assumption) ?_
  rw [f2]
  refine x_alen (c := 14) dX2_bargeAt_17 (by decide) (by assumption) ?_
  refine x_ic_ge (tgt := 25) dX2_bargeAt_18 (by decide) ⟨by omega, by omega⟩ ⟨by omega, by omega⟩ (fun h => absurd h (by omega)) (fun hb18 => ?_)
  refine x_iconst dX2_bargeAt_21 ?_
  refine x_goto (tgt := 26) dX2_bargeAt_22 (by decide) ?_
  refine x_istore_n dX2_bargeAt_26 (by decide) ?_
  show JX _ _ _ _ _ _ _ _ _ _ _ [_, _, _] _ _
  refine x_iload_n dX2_bargeAt_27 rfl ?_
  refine x_if_eq (tgt := 40) dX2_bargeAt_28 (by decide) ⟨by omega, by omega⟩ (fun h => absurd h (by omega)) (fun hb28 => ?_)
  refine x_aload_n dX2_bargeAt_31 rfl ?_
  refine gf_RX2_25 dX2_bargeAt_32 rfl (by assumption) ?_
  rw [f2]
  refine x_iload_n dX2_bargeAt_35 rfl ?_
  refine x_aald (c := 14) dX2_bargeAt_36 (by decide) rfl (by assumption) ⟨by omega, by omega⟩ ?_
  refine x_goto (tgt := 41) dX2_bargeAt_37 (by decide) ?_
  exact x_areturn dX2_bargeAt_41 rfl (Or.inl ⟨_, rfl⟩) ⟨Nat.le_refl _, Nat.le_refl _⟩ ⟨by rw [(fb n (by omega) (by omega)).1], rfl, rfl⟩
theorem kX2_bargeAt_n {G : JG} {S : JS} {D : JD} {d : Nat} {b n : Int} (hF : jFl S b) (hc : jCt D b) (rn : i32 n) (h : ¬ (0 ≤ n ∧ n < D b 5)) : JM G yX2_bargeAt cX2_bargeAt 3 (some (.object "BargeLocks$Barge")) d (0, 0) S D [.inr (.inr (some b)), .inl n] (jr (.inr (.inr none)) S D) := by
  obtain ⟨fk, f0, f1, f2, k1, l1, k2, l2, k3, l3, fr, fc, fb⟩ := hF
  obtain ⟨c1, c2, c3, c4, c5, c6⟩ := hc
  show JX _ _ _ _ _ _ _ _ _ _ _ [_, _, _] _ _
  refine x_iload_n dX2_bargeAt_0 rfl ?_
  refine x_if_lt (tgt := 25) dX2_bargeAt_1 (by decide) rn (fun hb1 => ?_) (fun hb1 => ?_)
  · refine x_iconst dX2_bargeAt_25 ?_
    refine x_istore_n dX2_bargeAt_26 (by decide) ?_
    show JX _ _ _ _ _ _ _ _ _ _ _ [_, _, _] _ _
    refine x_iload_n dX2_bargeAt_27 rfl ?_
    refine x_if_eq (tgt := 40) dX2_bargeAt_28 (by decide) ⟨by omega, by omega⟩ (fun hb28 => ?_) (fun h => (h (by omega)).elim)
    refine x_null dX2_bargeAt_40 ?_
    exact x_areturn dX2_bargeAt_41 rfl (Or.inl ⟨_, rfl⟩) ⟨Nat.le_refl _, Nat.le_refl _⟩ ⟨rfl, rfl, rfl⟩
  · refine x_iload_n dX2_bargeAt_4 rfl ?_
    refine x_aload_n dX2_bargeAt_5 rfl ?_
    refine gf_RX2_39 dX2_bargeAt_6 rfl (by assumption) ?_
    refine x_ic_ge (tgt := 25) dX2_bargeAt_9 (by decide) rn ⟨by omega, by omega⟩ (fun hb9 => ?_) (fun h => (h (by omega)).elim)
    refine x_iconst dX2_bargeAt_25 ?_
    refine x_istore_n dX2_bargeAt_26 (by decide) ?_
    show JX _ _ _ _ _ _ _ _ _ _ _ [_, _, _] _ _
    refine x_iload_n dX2_bargeAt_27 rfl ?_
    refine x_if_eq (tgt := 40) dX2_bargeAt_28 (by decide) ⟨by omega, by omega⟩ (fun hb28 => ?_) (fun h => (h (by omega)).elim)
    refine x_null dX2_bargeAt_40 ?_
    exact x_areturn dX2_bargeAt_41 rfl (Or.inl ⟨_, rfl⟩) ⟨Nat.le_refl _, Nat.le_refl _⟩ ⟨rfl, rfl, rfl⟩
theorem kX2_bargeAt {G : JG} {S : JS} {D : JD} {d : Nat} {b n : Int} (hF : jFl S b) (hc : jCt D b) (rn : i32 n) : JM G yX2_bargeAt cX2_bargeAt 3 (some (.object "BargeLocks$Barge")) d (0, 0) S D [.inr (.inr (some b)), .inl n] (jr (.inr (.inr (fBa D b n))) S D) := by
  unfold fBa
  by_cases h : 0 ≤ n ∧ n < D b 5
  · rw [if_pos h]; exact kX2_bargeAt_y hF hc h
  · rw [if_neg h]; exact kX2_bargeAt_n hF hc rn h
theorem kX2_sillAt_y {G : JG} {S : JS} {D : JD} {d : Nat} {b c g : Int} (hF : jFl S b) (hc : jCt D b) (rg : i32 g) (h : 0 ≤ c ∧ c < D b 4) : JM G yX2_sillAt cX2_sillAt 4 (some (.object "BargeLocks$Sill")) (d + 1) (0, 0) S D [.inr (.inr (some b)), .inl c, .inl g] (jr (.inr (.inr (fSi D b c g))) S D) := by
  have fk := hF.1
  have cc := (hF.2.2.2.2.2.2.2.2.2.2.2.1 c (by omega) (by have := hc.2.2.2.1; omega)).2
  have cck := cc.1
  show JX _ _ _ _ _ _ _ _ _ _ _ [_, _, _, _] _ _
  refine x_aload_n dX2_sillAt_0 rfl ?_
  refine x_iload_n dX2_sillAt_1 rfl ?_
  refine c_RX2_52d dX2_sillAt_2 rfl (kX2_chamberAt_y hF hc h) (by assumption) (Nat.le_of_ble_eq_true rfl) (Nat.le_of_ble_eq_true rfl) ⟨Nat.le_refl _, Nat.le_refl _⟩ ?_
  refine x_astore_n dX2_sillAt_5 (by decide) ?_
  show JX _ _ _ _ _ _ _ _ _ _ _ [_, _, _, _] _ _
  refine x_aload_n dX2_sillAt_6 rfl ?_
  refine x_ifnonnull (tgt := 14) dX2_sillAt_7 (by decide) (fun hb7 => ?_) (fun h => by cases h)
  refine x_aload_n dX2_sillAt_14 rfl ?_
  refine x_iload_n dX2_sillAt_15 rfl ?_
  refine c_RX2_56d dX2_sillAt_16 rfl (kX1_sillOf cc rg) (by assumption) (Nat.le_of_ble_eq_true rfl) (Nat.le_of_ble_eq_true rfl) ⟨Nat.le_refl _, Nat.le_refl _⟩ ?_
  exact x_areturn dX2_sillAt_19 rfl (Or.inl ⟨_, rfl⟩) ⟨Nat.le_refl _, Nat.le_refl _⟩ ⟨by unfold fSi; rw [if_pos h], rfl, rfl⟩
theorem kX2_sillAt_n {G : JG} {S : JS} {D : JD} {d : Nat} {b c g : Int} (hF : jFl S b) (hc : jCt D b) (rc : i32 c) (h : ¬ (0 ≤ c ∧ c < D b 4)) : JM G yX2_sillAt cX2_sillAt 4 (some (.object "BargeLocks$Sill")) (d + 1) (0, 0) S D [.inr (.inr (some b)), .inl c, .inl g] (jr (.inr (.inr (fSi D b c g))) S D) := by
  have fk := hF.1
  show JX _ _ _ _ _ _ _ _ _ _ _ [_, _, _, _] _ _
  refine x_aload_n dX2_sillAt_0 rfl ?_
  refine x_iload_n dX2_sillAt_1 rfl ?_
  refine c_RX2_52d dX2_sillAt_2 rfl (kX2_chamberAt_n hF hc rc h) (by assumption) (Nat.le_of_ble_eq_true rfl) (Nat.le_of_ble_eq_true rfl) ⟨Nat.le_refl _, Nat.le_refl _⟩ ?_
  refine x_astore_n dX2_sillAt_5 (by decide) ?_
  show JX _ _ _ _ _ _ _ _ _ _ _ [_, _, _, _] _ _
  refine x_aload_n dX2_sillAt_6 rfl ?_
  refine x_ifnonnull (tgt := 14) dX2_sillAt_7 (by decide) (fun h => absurd rfl h) (fun hb7 => ?_)
  refine x_null dX2_sillAt_10 ?_
  refine x_goto (tgt := 19) dX2_sillAt_11 (by decide) ?_
  exact x_areturn dX2_sillAt_19 rfl (Or.inl ⟨_, rfl⟩) ⟨Nat.le_refl _, Nat.le_refl _⟩ ⟨by unfold fSi; rw [if_neg h], rfl, rfl⟩
theorem kX2_sillAt {G : JG} {S : JS} {D : JD} {d : Nat} {b c g : Int} (hF : jFl S b) (hc : jCt D b) (rc : i32 c) (rg : i32 g) : JM G yX2_sillAt cX2_sillAt 4 (some (.object "BargeLocks$Sill")) (d + 1) (0, 0) S D [.inr (.inr (some b)), .inl c, .inl g] (jr (.inr (.inr (fSi D b c g))) S D) := by
  by_cases h : 0 ≤ c ∧ c < D b 4
  · exact kX2_sillAt_y hF hc rg h
  · exact kX2_sillAt_n hF hc rc h
theorem kX2_reachBehind_y {G : JG} {S : JS} {D : JD} {d : Nat} {b c g : Int} (hF : jFl S b) (hc : jCt D b) (h : 0 ≤ c ∧ c < D b 4) (hg : g = 0 ∨ g = 1) : JM G yX2_reachBehind cX2_reachBehind 3 (some (.object "BargeLocks$Water")) (d + 2) (0, 0) S D [.inr (.inr (some b)), .inl c, .inl g] (jr (.inr (.inr (fRe D b (c + g)))) S D) := by
  have fk := hF.1
  have c4 := hc.2.2.2.1
  show JX _ _ _ _ _ _ _ _ _ _ _ [_, _, _] _ _
  refine x_aload_n dX2_reachBehind_0 rfl ?_
  refine x_iload_n dX2_reachBehind_1 rfl ?_
  refine x_iload_n dX2_reachBehind_2 rfl ?_
  refine c_RX2_60d dX2_reachBehind_3 rfl (kX2_sillAt_y hF hc ⟨by omega, by omega⟩ h) (by assumption) (Nat.le_of_ble_eq_true rfl) (Nat.le_of_ble_eq_true rfl) ⟨Nat.le_refl _, Nat.le_refl _⟩ ?_
  refine x_ifnonnull (tgt := 13) dX2_reachBehind_6 (by decide) (fun hb6 => ?_) (fun hz => by unfold fSi at hz; rw [if_pos h] at hz; rcases hg with rfl | rfl <;> simp at hz)
  refine x_aload_n dX2_reachBehind_13 rfl ?_
  refine x_iload_n dX2_reachBehind_14 rfl ?_
  refine x_iload_n dX2_reachBehind_15 rfl ?_
  refine x_iadd dX2_reachBehind_16 ?_
  refine c_RX2_64d dX2_reachBehind_17 rfl (kX2_reachAt hF hc ⟨by omega, by omega⟩) (by assumption) (Nat.le_of_ble_eq_true rfl) (Nat.le_of_ble_eq_true rfl) ⟨Nat.le_refl _, Nat.le_refl _⟩ ?_
  exact x_areturn dX2_reachBehind_20 rfl (Or.inl ⟨_, rfl⟩) ⟨Nat.le_refl _, Nat.le_refl _⟩ ⟨rfl, rfl, rfl⟩
theorem kX2_reachBehind_n {G : JG} {S : JS} {D : JD} {d : Nat} {b c g : Int} (hF : jFl S b) (hc : jCt D b) (rc : i32 c) (rg : i32 g) (h : ¬ ((0 ≤ c ∧ c < D b 4) ∧ (g = 0 ∨ g = 1))) : JM G yX2_reachBehind cX2_reachBehind 3 (some (.object "BargeLocks$Water")) (d + 2) (0, 0) S D [.inr (.inr (some b)), .inl c, .inl g] (jr (.inr (.inr none)) S D) := by
  have fk := hF.1
  show JX _ _ _ _ _ _ _ _ _ _ _ [_, _, _] _ _
  refine x_aload_n dX2_reachBehind_0 rfl ?_
  refine x_iload_n dX2_reachBehind_1 rfl ?_
  refine x_iload_n dX2_reachBehind_2 rfl ?_
  refine c_RX2_60d dX2_reachBehind_3 rfl (kX2_sillAt hF hc rc rg) (by assumption) (Nat.le_of_ble_eq_true rfl) (Nat.le_of_ble_eq_true rfl) ⟨Nat.le_refl _, Nat.le_refl _⟩ ?_
  refine x_ifnonnull (tgt := 13) dX2_reachBehind_6 (by decide) (fun hz => (hz (fSi_none h)).elim) (fun hb6 => ?_)
  refine x_null dX2_reachBehind_9 ?_
  refine x_goto (tgt := 20) dX2_reachBehind_10 (by decide) ?_
  exact x_areturn dX2_reachBehind_20 rfl (Or.inl ⟨_, rfl⟩) ⟨Nat.le_refl _, Nat.le_refl _⟩ ⟨rfl, rfl, rfl⟩
theorem kX2_reachBehind {G : JG} {S : JS} {D : JD} {d : Nat} {b c g : Int} (hF : jFl S b) (hc : jCt D b) (rc : i32 c) (rg : i32 g) : JM G yX2_reachBehind cX2_reachBehind 3 (some (.object "BargeLocks$Water")) (d + 2) (0, 0) S D [.inr (.inr (some b)), .inl c, .inl g] (jr (.inr (.inr (fBe D b c g))) S D) := by
  unfold fBe
  by_cases h : (0 ≤ c ∧ c < D b 4) ∧ (g = 0 ∨ g = 1)
  · rw [if_pos h]; exact kX2_reachBehind_y hF hc h.1 h.2
  · rw [if_neg h]; exact kX2_reachBehind_n hF hc rc rg h
theorem kX2_waterAt_r {G : JG} {S : JS} {D : JD} {d : Nat} {b p : Int} (hF : jFl S b) (hc : jCt D b) (rp : i32 p) (h : p < 100) : JM G yX2_waterAt cX2_waterAt 3 (some (.object "BargeLocks$Water")) (d + 1) (0, 0) S D [.inr (.inr (some b)), .inl p] (jr (.inr (.inr (fWa D b p))) S D) := by
  have fk := hF.1
  show JX _ _ _ _ _ _ _ _ _ _ _ [_, _, _] _ _
  refine x_iload_n dX2_waterAt_0 rfl ?_
  refine x_bipush dX2_waterAt_1 (by decide) ?_
  refine x_ic_ge (tgt := 12) dX2_waterAt_3 (by decide) rp ⟨by omega, by omega⟩ (fun h => absurd h (by omega)) (fun hb3 => ?_)
  refine x_aload_n dX2_waterAt_6 rfl ?_
  refine x_iload_n dX2_waterAt_7 rfl ?_
  refine c_RX2_64d dX2_waterAt_8 rfl (kX2_reachAt hF hc rp) (by assumption) (Nat.le_of_ble_eq_true rfl) (Nat.le_of_ble_eq_true rfl) ⟨Nat.le_refl _, Nat.le_refl _⟩ ?_
  exact x_areturn dX2_waterAt_11 rfl (Or.inl ⟨_, rfl⟩) ⟨Nat.le_refl _, Nat.le_refl _⟩ ⟨by unfold fWa; rw [if_pos h], rfl, rfl⟩
theorem kX2_waterAt_c {G : JG} {S : JS} {D : JD} {d : Nat} {b p : Int} (hF : jFl S b) (hc : jCt D b) (h0 : 100 ≤ p) (h : p - 100 < D b 4) : JM G yX2_waterAt cX2_waterAt 3 (some (.object "BargeLocks$Water")) (d + 1) (0, 0) S D [.inr (.inr (some b)), .inl p] (jr (.inr (.inr (fWa D b p))) S D) := by
  have fk := hF.1
  have cc := (hF.2.2.2.2.2.2.2.2.2.2.2.1 (p - 100) (by omega) (by have := hc.2.2.2.1; omega)).2
  have c4 := hc.2.2.2.1
  have cck := cc.1
  have cw := cc.2.1
  show JX _ _ _ _ _ _ _ _ _ _ _ [_, _, _] _ _
  refine x_iload_n dX2_waterAt_0 rfl ?_
  refine x_bipush dX2_waterAt_1 (by decide) ?_
  refine x_ic_ge (tgt := 12) dX2_waterAt_3 (by decide) ⟨by omega, by omega⟩ ⟨by omega, by omega⟩ (fun hb3 => ?_) (fun h => (h (by omega)).elim)
  refine x_aload_n dX2_waterAt_12 rfl ?_
  refine x_iload_n dX2_waterAt_13 rfl ?_
  refine x_bipush dX2_waterAt_14 (by decide) ?_
  refine x_isub dX2_waterAt_16 ?_
  refine c_RX2_52d dX2_waterAt_17 rfl (kX2_chamberAt_y hF hc ⟨by omega, by omega⟩) (by assumption) (Nat.le_of_ble_eq_true rfl) (Nat.le_of_ble_eq_true rfl) ⟨Nat.le_refl _, Nat.le_refl _⟩ ?_
  refine x_astore_n dX2_waterAt_20 (by decide) ?_
  show JX _ _ _ _ _ _ _ _ _ _ _ [_, _, _] _ _
  refine x_aload_n dX2_waterAt_21 rfl ?_
  refine x_ifnonnull (tgt := 29) dX2_waterAt_22 (by decide) (fun hb22 => ?_) (fun h => by cases h)
  refine x_aload_n dX2_waterAt_29 rfl ?_
  refine gf_RX2_68 dX2_waterAt_30 rfl (by assumption) ?_
  rw [cw]
  exact x_areturn dX2_waterAt_33 rfl (Or.inl ⟨_, rfl⟩) ⟨Nat.le_refl _, Nat.le_refl _⟩ ⟨by unfold fWa; rw [if_neg (by omega), if_pos (by omega)], rfl, rfl⟩
theorem kX2_waterAt_n {G : JG} {S : JS} {D : JD} {d : Nat} {b p : Int} (hF : jFl S b) (hc : jCt D b) (rp : i32 p) (h0 : 100 ≤ p) (h : ¬ (p - 100 < D b 4)) : JM G yX2_waterAt cX2_waterAt 3 (some (.object "BargeLocks$Water")) (d + 1) (0, 0) S D [.inr (.inr (some b)), .inl p] (jr (.inr (.inr (fWa D b p))) S D) := by
  have fk := hF.1
  show JX _ _ _ _ _ _ _ _ _ _ _ [_, _, _] _ _
  refine x_iload_n dX2_waterAt_0 rfl ?_
  refine x_bipush dX2_waterAt_1 (by decide) ?_
  refine x_ic_ge (tgt := 12) dX2_waterAt_3 (by decide) rp ⟨by omega, by omega⟩ (fun hb3 => ?_) (fun h => (h (by omega)).elim)
  refine x_aload_n dX2_waterAt_12 rfl ?_
  refine x_iload_n dX2_waterAt_13 rfl ?_
  refine x_bipush dX2_waterAt_14 (by decide) ?_
  refine x_isub dX2_waterAt_16 ?_
  refine c_RX2_52d dX2_waterAt_17 rfl (kX2_chamberAt_n hF hc ⟨by omega, by omega⟩ (by omega)) (by assumption) (Nat.le_of_ble_eq_true rfl) (Nat.le_of_ble_eq_true rfl) ⟨Nat.le_refl _, Nat.le_refl _⟩ ?_
  refine x_astore_n dX2_waterAt_20 (by decide) ?_
  show JX _ _ _ _ _ _ _ _ _ _ _ [_, _, _] _ _
  refine x_aload_n dX2_waterAt_21 rfl ?_
  refine x_ifnonnull (tgt := 29) dX2_waterAt_22 (by decide) (fun h => absurd rfl h) (fun hb22 => ?_)
  refine x_null dX2_waterAt_25 ?_
  refine x_goto (tgt := 33) dX2_waterAt_26 (by decide) ?_
  exact x_areturn dX2_waterAt_33 rfl (Or.inl ⟨_, rfl⟩) ⟨Nat.le_refl _, Nat.le_refl _⟩ ⟨by unfold fWa; rw [if_neg (by omega), if_neg (by omega)], rfl, rfl⟩
theorem kX2_waterAt {G : JG} {S : JS} {D : JD} {d : Nat} {b p : Int} (hF : jFl S b) (hc : jCt D b) (rp : i32 p) : JM G yX2_waterAt cX2_waterAt 3 (some (.object "BargeLocks$Water")) (d + 1) (0, 0) S D [.inr (.inr (some b)), .inl p] (jr (.inr (.inr (fWa D b p))) S D) := by
  by_cases h : p < 100
  · exact kX2_waterAt_r hF hc rp h
  · by_cases h2 : p - 100 < D b 4
    · exact kX2_waterAt_c hF hc (by omega) h2
    · exact kX2_waterAt_n hF hc rp (by omega) h2
