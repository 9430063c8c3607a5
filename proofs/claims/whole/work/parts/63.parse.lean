/-! THE REFERENCE: its parser -/
theorem X8_eot_loop {G : JG} {S : JS} {D : JD} {d : Nat} {M n : Int} {f : Int → Int} {p : Int} (hM : jMo S M) (hn : D M 7 = n) (hf : D (M + 6) = f) (n0 : 0 ≤ n) (n1 : n ≤ 60) (fr : ∀ z : Int, 0 ≤ f z ∧ f z ≤ 65535) : ∀ (k : Nat) (z : Int), z + (k : Int) = n → 0 ≤ z → JX G yX8_endOf cX8_endOf 3 (some .int) d (0, 0) (0, 0) S D 2 [some (.inr (.inr (some M))), some (.inl p), some (.inl z)] [] (jr (.inl (oEn f n k z)) S D) := by
  obtain ⟨mk, m0, m1, m2, m4, m5, m8, m12, y1, l1, y2, l2, y3, l3, y4, l4, y5, l5, y6, l6, y7, l7⟩ := id hM
  intro k
  induction k with
  | zero =>
    intro z hz z0
    refine x_iload_n dX8_endOf_2 rfl ?_
    refine x_aload_n dX8_endOf_3 rfl ?_
    refine gf_RX8_180 dX8_endOf_4 rfl (by assumption) ?_
    rw [hn]
    refine x_ic_ge (tgt := 38) dX8_endOf_7 (by decide) ⟨by omega, by omega⟩ ⟨by omega, by omega⟩ (fun hb7 => ?_) (fun h => (h (by omega)).elim)
    refine x_iload_n dX8_endOf_38 rfl ?_
    exact x_ireturn dX8_endOf_39 rfl rfl ⟨Nat.le_refl _, Nat.le_refl _⟩ ⟨rfl, rfl, rfl⟩
  | succ k ih =>
    intro z hz z0
    have fz := fr z
    rw [show oEn f n (k + 1) z = if n ≤ z ∨ f z = 32 ∨ f z = 59 then z else oEn f n k (z + 1) from rfl]
    refine x_iload_n dX8_endOf_2 rfl ?_
    refine x_aload_n dX8_endOf_3 rfl ?_
    refine gf_RX8_180 dX8_endOf_4 rfl (by assumption) ?_
    rw [hn]
    refine x_ic_ge (tgt := 38) dX8_endOf_7 (by decide) ⟨by omega, by omega⟩ ⟨by omega, by omega⟩ (fun h => absurd h (by omega)) (fun hb7 => ?_)
    refine x_aload_n dX8_endOf_10 rfl ?_
    refine gf_RX8_26 dX8_endOf_11 rfl (by assumption) ?_
    rw [m8]
    refine x_iload_n dX8_endOf_14 rfl ?_
    refine x_cald dX8_endOf_15 (by assumption) ⟨by omega, by omega⟩ ?_
    rw [hf]
    refine x_bipush dX8_endOf_16 (by decide) ?_
    refine x_ic_eq (tgt := 38) dX8_endOf_18 (by decide) ⟨by omega, by omega⟩ ⟨by omega, by omega⟩ (fun hb18 => ?_) (fun hb18 => ?_)
    · refine x_iload_n dX8_endOf_38 rfl ?_
      exact x_ireturn dX8_endOf_39 rfl rfl ⟨Nat.le_refl _, Nat.le_refl _⟩ ⟨by rw [if_pos (by omega)], rfl, rfl⟩
    · refine x_aload_n dX8_endOf_21 rfl ?_
      refine gf_RX8_26 dX8_endOf_22 rfl (by assumption) ?_
      rw [m8]
      refine x_iload_n dX8_endOf_25 rfl ?_
      refine x_cald dX8_endOf_26 (by assumption) ⟨by omega, by omega⟩ ?_
      rw [hf]
      refine x_bipush dX8_endOf_27 (by decide) ?_
      refine x_ic_eq (tgt := 38) dX8_endOf_29 (by decide) ⟨by omega, by omega⟩ ⟨by omega, by omega⟩ (fun hb29 => ?_) (fun hb29 => ?_)
      · refine x_iload_n dX8_endOf_38 rfl ?_
        exact x_ireturn dX8_endOf_39 rfl rfl ⟨Nat.le_refl _, Nat.le_refl _⟩ ⟨by rw [if_pos (by omega)], rfl, rfl⟩
      · refine x_iinc dX8_endOf_32 rfl (by decide) ?_
        show JX _ _ _ _ _ _ _ _ _ _ _ [_, _, _] _ _
        refine x_goto (tgt := 2) dX8_endOf_35 (by decide) ?_
        rw [if_neg (by omega)]
        exact ih (z + 1) (by omega) (by omega)
theorem kX8_endOf {G : JG} {S : JS} {D : JD} {d : Nat} {M n : Int} {f : Int → Int} {p : Int} (hM : jMo S M) (hn : D M 7 = n) (hf : D (M + 6) = f) (n0 : 0 ≤ n) (n1 : n ≤ 60) (fr : ∀ z : Int, 0 ≤ f z ∧ f z ≤ 65535) (p0 : 0 ≤ p) (p1 : p ≤ n) : JM G yX8_endOf cX8_endOf 3 (some .int) d (0, 0) S D [.inr (.inr (some M)), .inl p] (jr (.inl (oE f n p)) S D) := by
  show JX _ _ _ _ _ _ _ _ _ _ _ [_, _, _] _ _
  refine x_iload_n dX8_endOf_0 rfl ?_
  refine x_istore_n dX8_endOf_1 (by decide) ?_
  show JX _ _ _ _ _ _ _ _ _ _ _ [_, _, _] _ _
  exact X8_eot_loop hM hn hf n0 n1 fr (n - p).toNat p (by omega) p0
theorem kX8_stands_y {G : JG} {S : JS} {D : JD} {d : Nat} {M n : Int} {f : Int → Int} {p c0 c1 c2 c3 : Int} (hM : jMo S M) (hn : D M 7 = n) (hf : D (M + 6) = f) (n0 : 0 ≤ n) (n1 : n ≤ 60) (fr : ∀ z : Int, 0 ≤ f z ∧ f z ≤ 65535) (p0 : 0 ≤ p) (p1 : p + 3 < n) (r0 : i32 c0) (r1 : i32 c1) (r2 : i32 c2) (r3 : i32 c3) (h : f p = c0 ∧ f (p + 1) = c1 ∧ f (p + 2) = c2 ∧ f (p + 3) = c3) : JM G yX8_stands cX8_stands 6 (some .boolean) d (0, 0) S D [.inr (.inr (some M)), .inl p, .inl c0, .inl c1, .inl c2, .inl c3] (jr (.inl 1) S D) := by
  obtain ⟨mk, m0, m1, m2, m4, m5, m8, m12, y1, l1, y2, l2, y3, l3, y4, l4, y5, l5, y6, l6, y7, l7⟩ := id hM
  have f0 := fr p
  have f1 := fr (p + 1)
  have f2 := fr (p + 2)
  have f3 := fr (p + 3)
  show JX _ _ _ _ _ _ _ _ _ _ _ [_, _, _, _, _, _] _ _
  refine x_aload_n dX8_stands_0 rfl ?_
  refine gf_RX8_26 dX8_stands_1 rfl (by assumption) ?_
  rw [m8]
  refine x_iload_n dX8_stands_4 rfl ?_
  refine x_cald dX8_stands_5 (by assumption) ⟨by omega, by omega⟩ ?_
  rw [hf]
  refine x_iload_n dX8_stands_6 rfl ?_
  refine x_ic_ne (tgt := 52) dX8_stands_7 (by decide) ⟨by omega, by omega⟩ r0 (fun h => absurd h (by omega)) (fun hb7 => ?_)
  refine x_aload_n dX8_stands_10 rfl ?_
  refine gf_RX8_26 dX8_stands_11 rfl (by assumption) ?_
  rw [m8]
  refine x_iload_n dX8_stands_14 rfl ?_
  refine x_iconst dX8_stands_15 ?_
  refine x_iadd dX8_stands_16 ?_
  refine x_cald dX8_stands_17 (by assumption) ⟨by omega, by omega⟩ ?_
  rw [hf]
  refine x_iload_n dX8_stands_18 rfl ?_
  refine x_ic_ne (tgt := 52) dX8_stands_19 (by decide) ⟨by omega, by omega⟩ r1 (fun h => absurd h (by omega)) (fun hb19 => ?_)
  refine x_aload_n dX8_stands_22 rfl ?_
  refine gf_RX8_26 dX8_stands_23 rfl (by assumption) ?_
  rw [m8]
  refine x_iload_n dX8_stands_26 rfl ?_
  refine x_iconst dX8_stands_27 ?_
  refine x_iadd dX8_stands_28 ?_
  refine x_cald dX8_stands_29 (by assumption) ⟨by omega, by omega⟩ ?_
  rw [hf]
  refine x_iload dX8_stands_30 rfl ?_
  refine x_ic_ne (tgt := 52) dX8_stands_32 (by decide) ⟨by omega, by omega⟩ r2 (fun h => absurd h (by omega)) (fun hb32 => ?_)
  refine x_aload_n dX8_stands_35 rfl ?_
  refine gf_RX8_26 dX8_stands_36 rfl (by assumption) ?_
  rw [m8]
  refine x_iload_n dX8_stands_39 rfl ?_
  refine x_iconst dX8_stands_40 ?_
  refine x_iadd dX8_stands_41 ?_
  refine x_cald dX8_stands_42 (by assumption) ⟨by omega, by omega⟩ ?_
  rw [hf]
  refine x_iload dX8_stands_43 rfl ?_
  refine x_ic_ne (tgt := 52) dX8_stands_45 (by decide) ⟨by omega, by omega⟩ r3 (fun h => absurd h (by omega)) (fun hb45 => ?_)
  refine x_iconst dX8_stands_48 ?_
  refine x_goto (tgt := 53) dX8_stands_49 (by decide) ?_
  exact x_ireturn dX8_stands_53 rfl (jbool (by first | exact Or.inl rfl | exact Or.inr rfl)).1 ⟨Nat.le_refl _, Nat.le_refl _⟩ ⟨rfl, rfl, rfl⟩
theorem kX8_stands_n {G : JG} {S : JS} {D : JD} {d : Nat} {M n : Int} {f : Int → Int} {p c0 c1 c2 c3 : Int} (hM : jMo S M) (hn : D M 7 = n) (hf : D (M + 6) = f) (n0 : 0 ≤ n) (n1 : n ≤ 60) (fr : ∀ z : Int, 0 ≤ f z ∧ f z ≤ 65535) (p0 : 0 ≤ p) (p1 : p + 3 < n) (r0 : i32 c0) (r1 : i32 c1) (r2 : i32 c2) (r3 : i32 c3) (h : ¬ (f p = c0 ∧ f (p + 1) = c1 ∧ f (p + 2) = c2 ∧ f (p + 3) = c3)) : JM G yX8_stands cX8_stands 6 (some .boolean) d (0, 0) S D [.inr (.inr (some M)), .inl p, .inl c0, .inl c1, .inl c2, .inl c3] (jr (.inl 0) S D) := by
  obtain ⟨mk, m0, m1, m2, m4, m5, m8, m12, y1, l1, y2, l2, y3, l3, y4, l4, y5, l5, y6, l6, y7, l7⟩ := id hM
  have f0 := fr p
  have f1 := fr (p + 1)
  have f2 := fr (p + 2)
  have f3 := fr (p + 3)
  show JX _ _ _ _ _ _ _ _ _ _ _ [_, _, _, _, _, _] _ _
  refine x_aload_n dX8_stands_0 rfl ?_
  refine gf_RX8_26 dX8_stands_1 rfl (by assumption) ?_
  rw [m8]
  refine x_iload_n dX8_stands_4 rfl ?_
  refine x_cald dX8_stands_5 (by assumption) ⟨by omega, by omega⟩ ?_
  rw [hf]
  refine x_iload_n dX8_stands_6 rfl ?_
  refine x_ic_ne (tgt := 52) dX8_stands_7 (by decide) ⟨by omega, by omega⟩ r0 (fun hb7 => ?_) (fun hb7 => ?_)
  · refine x_iconst dX8_stands_52 ?_
    exact x_ireturn dX8_stands_53 rfl (jbool (by first | exact Or.inl rfl | exact Or.inr rfl)).1 ⟨Nat.le_refl _, Nat.le_refl _⟩ ⟨rfl, rfl, rfl⟩
  · refine x_aload_n dX8_stands_10 rfl ?_
    refine gf_RX8_26 dX8_stands_11 rfl (by assumption) ?_
    rw [m8]
    refine x_iload_n dX8_stands_14 rfl ?_
    refine x_iconst dX8_stands_15 ?_
    refine x_iadd dX8_stands_16 ?_
    refine x_cald dX8_stands_17 (by assumption) ⟨by omega, by omega⟩ ?_
    rw [hf]
    refine x_iload_n dX8_stands_18 rfl ?_
    refine x_ic_ne (tgt := 52) dX8_stands_19 (by decide) ⟨by omega, by omega⟩ r1 (fun hb19 => ?_) (fun hb19 => ?_)
    · refine x_iconst dX8_stands_52 ?_
      exact x_ireturn dX8_stands_53 rfl (jbool (by first | exact Or.inl rfl | exact Or.inr rfl)).1 ⟨Nat.le_refl _, Nat.le_refl _⟩ ⟨rfl, rfl, rfl⟩
    · refine x_aload_n dX8_stands_22 rfl ?_
      refine gf_RX8_26 dX8_stands_23 rfl (by assumption) ?_
      rw [m8]
      refine x_iload_n dX8_stands_26 rfl ?_
      refine x_iconst dX8_stands_27 ?_
      refine x_iadd dX8_stands_28 ?_
      refine x_cald dX8_stands_29 (by assumption) ⟨by omega, by omega⟩ ?_
      rw [hf]
      refine x_iload dX8_stands_30 rfl ?_
      refine x_ic_ne (tgt := 52) dX8_stands_32 (by decide) ⟨by omega, by omega⟩ r2 (fun hb32 => ?_) (fun hb32 => ?_)
      · refine x_iconst dX8_stands_52 ?_
        exact x_ireturn dX8_stands_53 rfl (jbool (by first | exact Or.inl rfl | exact Or.inr rfl)).1 ⟨Nat.le_refl _, Nat.le_refl _⟩ ⟨rfl, rfl, rfl⟩
      · refine x_aload_n dX8_stands_35 rfl ?_
        refine gf_RX8_26 dX8_stands_36 rfl (by assumption) ?_
        rw [m8]
        refine x_iload_n dX8_stands_39 rfl ?_
        refine x_iconst dX8_stands_40 ?_
        refine x_iadd dX8_stands_41 ?_
        refine x_cald dX8_stands_42 (by assumption) ⟨by omega, by omega⟩ ?_
        rw [hf]
        refine x_iload dX8_stands_43 rfl ?_
        refine x_ic_ne (tgt := 52) dX8_stands_45 (by decide) ⟨by omega, by omega⟩ r3 (fun hb45 => ?_) (fun h => (h (by omega)).elim)
        refine x_iconst dX8_stands_52 ?_
        exact x_ireturn dX8_stands_53 rfl (jbool (by first | exact Or.inl rfl | exact Or.inr rfl)).1 ⟨Nat.le_refl _, Nat.le_refl _⟩ ⟨rfl, rfl, rfl⟩
theorem oW_none {f : Int → Int} {p e : Int} (h0 : ¬ oC0 f p e) (h1 : ¬ oC1 f p e) (h2 : ¬ oC2 f p e) (h3 : ¬ oC3 f p e) (h4 : ¬ oC4 f p e) (h5 : ¬ oC5 f p e) (h6 : ¬ oC6 f p e) : oW f p e = -1 := by
  unfold oW
  rw [if_neg h6, if_neg h5, if_neg h4, if_neg h3, if_neg h2, if_neg h1, if_neg h0]
theorem oW_0 {f : Int → Int} {p e : Int} (h : oC0 f p e) : oW f p e = 0 := by
  have h2 := h
  unfold oC0 at h2
  unfold oW
  rw [if_neg (fun z : oC6 f p e => by unfold oC6 at z; omega), if_neg (fun z : oC5 f p e => by unfold oC5 at z; omega), if_neg (fun z : oC4 f p e => by unfold oC4 at z; omega), if_neg (fun z : oC3 f p e => by unfold oC3 at z; omega), if_neg (fun z : oC2 f p e => by unfold oC2 at z; omega), if_neg (fun z : oC1 f p e => by unfold oC1 at z; omega), if_pos h]
theorem oW_1 {f : Int → Int} {p e : Int} (h : oC1 f p e) : oW f p e = 1 := by
  have h2 := h
  unfold oC1 at h2
  unfold oW
  rw [if_neg (fun z : oC6 f p e => by unfold oC6 at z; omega), if_neg (fun z : oC5 f p e => by unfold oC5 at z; omega), if_neg (fun z : oC4 f p e => by unfold oC4 at z; omega), if_neg (fun z : oC3 f p e => by unfold oC3 at z; omega), if_neg (fun z : oC2 f p e => by unfold oC2 at z; omega), if_pos h]
theorem oW_2 {f : Int → Int} {p e : Int} (h : oC2 f p e) : oW f p e = 2 := by
  have h2 := h
  unfold oC2 at h2
  unfold oW
  rw [if_neg (fun z : oC6 f p e => by unfold oC6 at z; omega), if_neg (fun z : oC5 f p e => by unfold oC5 at z; omega), if_neg (fun z : oC4 f p e => by unfold oC4 at z; omega), if_neg (fun z : oC3 f p e => by unfold oC3 at z; omega), if_pos h]
theorem oW_3 {f : Int → Int} {p e : Int} (h : oC3 f p e) : oW f p e = 3 := by
  have h2 := h
  unfold oC3 at h2
  unfold oW
  rw [if_neg (fun z : oC6 f p e => by unfold oC6 at z; omega), if_neg (fun z : oC5 f p e => by unfold oC5 at z; omega), if_neg (fun z : oC4 f p e => by unfold oC4 at z; omega), if_pos h]
theorem oW_4 {f : Int → Int} {p e : Int} (h : oC4 f p e) : oW f p e = 4 := by
  have h2 := h
  unfold oC4 at h2
  unfold oW
  rw [if_neg (fun z : oC6 f p e => by unfold oC6 at z; omega), if_neg (fun z : oC5 f p e => by unfold oC5 at z; omega), if_pos h]
theorem oW_5 {f : Int → Int} {p e : Int} (h : oC5 f p e) : oW f p e = 5 := by
  have h2 := h
  unfold oC5 at h2
  unfold oW
  rw [if_neg (fun z : oC6 f p e => by unfold oC6 at z; omega), if_pos h]
theorem oW_6 {f : Int → Int} {p e : Int} (h : oC6 f p e) : oW f p e = 6 := by
  have h2 := h
  unfold oC6 at h2
  unfold oW
  rw [if_pos h]
theorem word_1 {G : JG} {S : JS} {D : JD} {d : Nat} {M n : Int} {f : Int → Int} {p e : Int} (hM : jMo S M) (hn : D M 7 = n) (hf : D (M + 6) = f) (n0 : 0 ≤ n) (n1 : n ≤ 60) (fr : ∀ z : Int, 0 ≤ f z ∧ f z ≤ 65535) (p0 : 0 ≤ p) (en : e ≤ n) (h : oC1 f p e) : JM G yX8_word cX8_word 4 (some .int) (d + 1) (0, 0) S D [.inr (.inr (some M)), .inl p, .inl e] (jr (.inl (1)) S D) := by
  obtain ⟨mk, m0, m1, m2, m4, m5, m8, m12, y1, l1, y2, l2, y3, l3, y4, l4, y5, l5, y6, l6, y7, l7⟩ := id hM
  have f4 := fr (p + 4)
  have f5 := fr (p + 5)
  have h2 := h
  unfold oC1 at h2
  show JX _ _ _ _ _ _ _ _ _ _ _ [_, _, _, _] _ _
  refine x_iload_n dX8_word_0 rfl ?_
  refine x_iload_n dX8_word_1 rfl ?_
  refine x_isub dX8_word_2 ?_
  refine x_iconst dX8_word_3 ?_
  refine x_ic_ne (tgt := 71) dX8_word_4 (by decide) ⟨by omega, by omega⟩ ⟨by omega, by omega⟩ (fun h => absurd h (by omega)) (fun hb4 => ?_)
  refine x_aload_n dX8_word_7 rfl ?_
  refine x_iload_n dX8_word_8 rfl ?_
  refine x_bipush dX8_word_9 (by decide) ?_
  refine x_bipush dX8_word_11 (by decide) ?_
  refine x_bipush dX8_word_13 (by decide) ?_
  refine x_bipush dX8_word_15 (by decide) ?_
  refine c_RX8_183d dX8_word_17 rfl (kX8_stands_y hM hn hf n0 n1 fr p0 (by omega) ⟨by omega, by omega⟩ ⟨by omega, by omega⟩ ⟨by omega, by omega⟩ ⟨by omega, by omega⟩ (⟨by omega, by omega, by omega, by omega⟩)) (by assumption) (Nat.le_of_ble_eq_true rfl) (Nat.le_of_ble_eq_true rfl) ⟨Nat.le_refl _, Nat.le_refl _⟩ ?_
  refine x_if_eq (tgt := 27) dX8_word_20 (by decide) ⟨by omega, by omega⟩ (fun h => absurd h (by omega)) (fun hb20 => ?_)
  refine x_iconst dX8_word_23 ?_
  refine x_goto (tgt := 70) dX8_word_24 (by decide) ?_
  exact x_ireturn dX8_word_70 rfl rfl ⟨Nat.le_refl _, Nat.le_refl _⟩ ⟨rfl, rfl, rfl⟩
theorem word_5 {G : JG} {S : JS} {D : JD} {d : Nat} {M n : Int} {f : Int → Int} {p e : Int} (hM : jMo S M) (hn : D M 7 = n) (hf : D (M + 6) = f) (n0 : 0 ≤ n) (n1 : n ≤ 60) (fr : ∀ z : Int, 0 ≤ f z ∧ f z ≤ 65535) (p0 : 0 ≤ p) (en : e ≤ n) (h : oC5 f p e) : JM G yX8_word cX8_word 4 (some .int) (d + 1) (0, 0) S D [.inr (.inr (some M)), .inl p, .inl e] (jr (.inl (5)) S D) := by
  obtain ⟨mk, m0, m1, m2, m4, m5, m8, m12, y1, l1, y2, l2, y3, l3, y4, l4, y5, l5, y6, l6, y7, l7⟩ := id hM
  have f4 := fr (p + 4)
  have f5 := fr (p + 5)
  have h2 := h
  unfold oC5 at h2
  show JX _ _ _ _ _ _ _ _ _ _ _ [_, _, _, _] _ _
  refine x_iload_n dX8_word_0 rfl ?_
  refine x_iload_n dX8_word_1 rfl ?_
  refine x_isub dX8_word_2 ?_
  refine x_iconst dX8_word_3 ?_
  refine x_ic_ne (tgt := 71) dX8_word_4 (by decide) ⟨by omega, by omega⟩ ⟨by omega, by omega⟩ (fun h => absurd h (by omega)) (fun hb4 => ?_)
  refine x_aload_n dX8_word_7 rfl ?_
  refine x_iload_n dX8_word_8 rfl ?_
  refine x_bipush dX8_word_9 (by decide) ?_
  refine x_bipush dX8_word_11 (by decide) ?_
  refine x_bipush dX8_word_13 (by decide) ?_
  refine x_bipush dX8_word_15 (by decide) ?_
  refine c_RX8_183d dX8_word_17 rfl (kX8_stands_n hM hn hf n0 n1 fr p0 (by omega) ⟨by omega, by omega⟩ ⟨by omega, by omega⟩ ⟨by omega, by omega⟩ ⟨by omega, by omega⟩ (fun z => by omega)) (by assumption) (Nat.le_of_ble_eq_true rfl) (Nat.le_of_ble_eq_true rfl) ⟨Nat.le_refl _, Nat.le_refl _⟩ ?_
  refine x_if_eq (tgt := 27) dX8_word_20 (by decide) ⟨by omega, by omega⟩ (fun hb20 => ?_) (fun h => (h (by omega)).elim)
  refine x_aload_n dX8_word_27 rfl ?_
  refine x_iload_n dX8_word_28 rfl ?_
  refine x_bipush dX8_word_29 (by decide) ?_
  refine x_bipush dX8_word_31 (by decide) ?_
  refine x_bipush dX8_word_33 (by decide) ?_
  refine x_bipush dX8_word_35 (by decide) ?_
  refine c_RX8_183d dX8_word_37 rfl (kX8_stands_y hM hn hf n0 n1 fr p0 (by omega) ⟨by omega, by omega⟩ ⟨by omega, by omega⟩ ⟨by omega, by omega⟩ ⟨by omega, by omega⟩ (⟨by omega, by omega, by omega, by omega⟩)) (by assumption) (Nat.le_of_ble_eq_true rfl) (Nat.le_of_ble_eq_true rfl) ⟨Nat.le_refl _, Nat.le_refl _⟩ ?_
  refine x_if_eq (tgt := 47) dX8_word_40 (by decide) ⟨by omega, by omega⟩ (fun h => absurd h (by omega)) (fun hb40 => ?_)
  refine x_iconst dX8_word_43 ?_
  refine x_goto (tgt := 70) dX8_word_44 (by decide) ?_
  exact x_ireturn dX8_word_70 rfl rfl ⟨Nat.le_refl _, Nat.le_refl _⟩ ⟨rfl, rfl, rfl⟩
theorem word_6 {G : JG} {S : JS} {D : JD} {d : Nat} {M n : Int} {f : Int → Int} {p e : Int} (hM : jMo S M) (hn : D M 7 = n) (hf : D (M + 6) = f) (n0 : 0 ≤ n) (n1 : n ≤ 60) (fr : ∀ z : Int, 0 ≤ f z ∧ f z ≤ 65535) (p0 : 0 ≤ p) (en : e ≤ n) (h : oC6 f p e) : JM G yX8_word cX8_word 4 (some .int) (d + 1) (0, 0) S D [.inr (.inr (some M)), .inl p, .inl e] (jr (.inl (6)) S D) := by
  obtain ⟨mk, m0, m1, m2, m4, m5, m8, m12, y1, l1, y2, l2, y3, l3, y4, l4, y5, l5, y6, l6, y7, l7⟩ := id hM
  have f4 := fr (p + 4)
  have f5 := fr (p + 5)
  have h2 := h
  unfold oC6 at h2
  show JX _ _ _ _ _ _ _ _ _ _ _ [_, _, _, _] _ _
  refine x_iload_n dX8_word_0 rfl ?_
  refine x_iload_n dX8_word_1 rfl ?_
  refine x_isub dX8_word_2 ?_
  refine x_iconst dX8_word_3 ?_
  refine x_ic_ne (tgt := 71) dX8_word_4 (by decide) ⟨by omega, by omega⟩ ⟨by omega, by omega⟩ (fun h => absurd h (by omega)) (fun hb4 => ?_)
  refine x_aload_n dX8_word_7 rfl ?_
  refine x_iload_n dX8_word_8 rfl ?_
  refine x_bipush dX8_word_9 (by decide) ?_
  refine x_bipush dX8_word_11 (by decide) ?_
  refine x_bipush dX8_word_13 (by decide) ?_
  refine x_bipush dX8_word_15 (by decide) ?_
  refine c_RX8_183d dX8_word_17 rfl (kX8_stands_n hM hn hf n0 n1 fr p0 (by omega) ⟨by omega, by omega⟩ ⟨by omega, by omega⟩ ⟨by omega, by omega⟩ ⟨by omega, by omega⟩ (fun z => by omega)) (by assumption) (Nat.le_of_ble_eq_true rfl) (Nat.le_of_ble_eq_true rfl) ⟨Nat.le_refl _, Nat.le_refl _⟩ ?_
  refine x_if_eq (tgt := 27) dX8_word_20 (by decide) ⟨by omega, by omega⟩ (fun hb20 => ?_) (fun h => (h (by omega)).elim)
  refine x_aload_n dX8_word_27 rfl ?_
  refine x_iload_n dX8_word_28 rfl ?_
  refine x_bipush dX8_word_29 (by decide) ?_
  refine x_bipush dX8_word_31 (by decide) ?_
  refine x_bipush dX8_word_33 (by decide) ?_
  refine x_bipush dX8_word_35 (by decide) ?_
  refine c_RX8_183d dX8_word_37 rfl (kX8_stands_n hM hn hf n0 n1 fr p0 (by omega) ⟨by omega, by omega⟩ ⟨by omega, by omega⟩ ⟨by omega, by omega⟩ ⟨by omega, by omega⟩ (fun z => by omega)) (by assumption) (Nat.le_of_ble_eq_true rfl) (Nat.le_of_ble_eq_true rfl) ⟨Nat.le_refl _, Nat.le_refl _⟩ ?_
  refine x_if_eq (tgt := 47) dX8_word_40 (by decide) ⟨by omega, by omega⟩ (fun hb40 => ?_) (fun h => (h (by omega)).elim)
  refine x_aload_n dX8_word_47 rfl ?_
  refine x_iload_n dX8_word_48 rfl ?_
  refine x_bipush dX8_word_49 (by decide) ?_
  refine x_bipush dX8_word_51 (by decide) ?_
  refine x_bipush dX8_word_53 (by decide) ?_
  refine x_bipush dX8_word_55 (by decide) ?_
  refine c_RX8_183d dX8_word_57 rfl (kX8_stands_y hM hn hf n0 n1 fr p0 (by omega) ⟨by omega, by omega⟩ ⟨by omega, by omega⟩ ⟨by omega, by omega⟩ ⟨by omega, by omega⟩ (⟨by omega, by omega, by omega, by omega⟩)) (by assumption) (Nat.le_of_ble_eq_true rfl) (Nat.le_of_ble_eq_true rfl) ⟨Nat.le_refl _, Nat.le_refl _⟩ ?_
  refine x_if_eq (tgt := 68) dX8_word_60 (by decide) ⟨by omega, by omega⟩ (fun h => absurd h (by omega)) (fun hb60 => ?_)
  refine x_bipush dX8_word_63 (by decide) ?_
  refine x_goto (tgt := 70) dX8_word_65 (by decide) ?_
  exact x_ireturn dX8_word_70 rfl rfl ⟨Nat.le_refl _, Nat.le_refl _⟩ ⟨rfl, rfl, rfl⟩
theorem word_2 {G : JG} {S : JS} {D : JD} {d : Nat} {M n : Int} {f : Int → Int} {p e : Int} (hM : jMo S M) (hn : D M 7 = n) (hf : D (M + 6) = f) (n0 : 0 ≤ n) (n1 : n ≤ 60) (fr : ∀ z : Int, 0 ≤ f z ∧ f z ≤ 65535) (p0 : 0 ≤ p) (en : e ≤ n) (h : oC2 f p e) : JM G yX8_word cX8_word 4 (some .int) (d + 1) (0, 0) S D [.inr (.inr (some M)), .inl p, .inl e] (jr (.inl (2)) S D) := by
  obtain ⟨mk, m0, m1, m2, m4, m5, m8, m12, y1, l1, y2, l2, y3, l3, y4, l4, y5, l5, y6, l6, y7, l7⟩ := id hM
  have f4 := fr (p + 4)
  have f5 := fr (p + 5)
  have h2 := h
  unfold oC2 at h2
  show JX _ _ _ _ _ _ _ _ _ _ _ [_, _, _, _] _ _
  refine x_iload_n dX8_word_0 rfl ?_
  refine x_iload_n dX8_word_1 rfl ?_
  refine x_isub dX8_word_2 ?_
  refine x_iconst dX8_word_3 ?_
  refine x_ic_ne (tgt := 71) dX8_word_4 (by decide) ⟨by omega, by omega⟩ ⟨by omega, by omega⟩ (fun hb4 => ?_) (fun h => (h (by omega)).elim)
  refine x_iload_n dX8_word_71 rfl ?_
  refine x_iload_n dX8_word_72 rfl ?_
  refine x_isub dX8_word_73 ?_
  refine x_iconst dX8_word_74 ?_
  refine x_ic_ne (tgt := 168) dX8_word_75 (by decide) ⟨by omega, by omega⟩ ⟨by omega, by omega⟩ (fun h => absurd h (by omega)) (fun hb75 => ?_)
  refine x_aload_n dX8_word_78 rfl ?_
  refine gf_RX8_26 dX8_word_79 rfl (by assumption) ?_
  rw [m8]
  refine x_iload_n dX8_word_82 rfl ?_
  refine x_iconst dX8_word_83 ?_
  refine x_iadd dX8_word_84 ?_
  refine x_cald dX8_word_85 (by assumption) ⟨by omega, by omega⟩ ?_
  rw [hf]
  refine x_istore_n dX8_word_86 (by decide) ?_
  show JX _ _ _ _ _ _ _ _ _ _ _ [_, _, _, _] _ _
  refine x_aload_n dX8_word_87 rfl ?_
  refine x_iload_n dX8_word_88 rfl ?_
  refine x_bipush dX8_word_89 (by decide) ?_
  refine x_bipush dX8_word_91 (by decide) ?_
  refine x_bipush dX8_word_93 (by decide) ?_
  refine x_bipush dX8_word_95 (by decide) ?_
  refine c_RX8_183d dX8_word_97 rfl (kX8_stands_y hM hn hf n0 n1 fr p0 (by omega) ⟨by omega, by omega⟩ ⟨by omega, by omega⟩ ⟨by omega, by omega⟩ ⟨by omega, by omega⟩ (⟨by omega, by omega, by omega, by omega⟩)) (by assumption) (Nat.le_of_ble_eq_true rfl) (Nat.le_of_ble_eq_true rfl) ⟨Nat.le_refl _, Nat.le_refl _⟩ ?_
  refine x_if_eq (tgt := 113) dX8_word_100 (by decide) ⟨by omega, by omega⟩ (fun h => absurd h (by omega)) (fun hb100 => ?_)
  refine x_iload_n dX8_word_103 rfl ?_
  refine x_bipush dX8_word_104 (by decide) ?_
  refine x_ic_ne (tgt := 113) dX8_word_106 (by decide) ⟨by omega, by omega⟩ ⟨by omega, by omega⟩ (fun h => absurd h (by omega)) (fun hb106 => ?_)
  refine x_iconst dX8_word_109 ?_
  refine x_goto (tgt := 167) dX8_word_110 (by decide) ?_
  exact x_ireturn dX8_word_167 rfl rfl ⟨Nat.le_refl _, Nat.le_refl _⟩ ⟨rfl, rfl, rfl⟩
theorem word_3 {G : JG} {S : JS} {D : JD} {d : Nat} {M n : Int} {f : Int → Int} {p e : Int} (hM : jMo S M) (hn : D M 7 = n) (hf : D (M + 6) = f) (n0 : 0 ≤ n) (n1 : n ≤ 60) (fr : ∀ z : Int, 0 ≤ f z ∧ f z ≤ 65535) (p0 : 0 ≤ p) (en : e ≤ n) (h : oC3 f p e) : JM G yX8_word cX8_word 4 (some .int) (d + 1) (0, 0) S D [.inr (.inr (some M)), .inl p, .inl e] (jr (.inl (3)) S D) := by
  obtain ⟨mk, m0, m1, m2, m4, m5, m8, m12, y1, l1, y2, l2, y3, l3, y4, l4, y5, l5, y6, l6, y7, l7⟩ := id hM
  have f4 := fr (p + 4)
  have f5 := fr (p + 5)
  have h2 := h
  unfold oC3 at h2
  show JX _ _ _ _ _ _ _ _ _ _ _ [_, _, _, _] _ _
  refine x_iload_n dX8_word_0 rfl ?_
  refine x_iload_n dX8_word_1 rfl ?_
  refine x_isub dX8_word_2 ?_
  refine x_iconst dX8_word_3 ?_
  refine x_ic_ne (tgt := 71) dX8_word_4 (by decide) ⟨by omega, by omega⟩ ⟨by omega, by omega⟩ (fun hb4 => ?_) (fun h => (h (by omega)).elim)
  refine x_iload_n dX8_word_71 rfl ?_
  refine x_iload_n dX8_word_72 rfl ?_
  refine x_isub dX8_word_73 ?_
  refine x_iconst dX8_word_74 ?_
  refine x_ic_ne (tgt := 168) dX8_word_75 (by decide) ⟨by omega, by omega⟩ ⟨by omega, by omega⟩ (fun h => absurd h (by omega)) (fun hb75 => ?_)
  refine x_aload_n dX8_word_78 rfl ?_
  refine gf_RX8_26 dX8_word_79 rfl (by assumption) ?_
  rw [m8]
  refine x_iload_n dX8_word_82 rfl ?_
  refine x_iconst dX8_word_83 ?_
  refine x_iadd dX8_word_84 ?_
  refine x_cald dX8_word_85 (by assumption) ⟨by omega, by omega⟩ ?_
  rw [hf]
  refine x_istore_n dX8_word_86 (by decide) ?_
  show JX _ _ _ _ _ _ _ _ _ _ _ [_, _, _, _] _ _
  refine x_aload_n dX8_word_87 rfl ?_
  refine x_iload_n dX8_word_88 rfl ?_
  refine x_bipush dX8_word_89 (by decide) ?_
  refine x_bipush dX8_word_91 (by decide) ?_
  refine x_bipush dX8_word_93 (by decide) ?_
  refine x_bipush dX8_word_95 (by decide) ?_
  refine c_RX8_183d dX8_word_97 rfl (kX8_stands_n hM hn hf n0 n1 fr p0 (by omega) ⟨by omega, by omega⟩ ⟨by omega, by omega⟩ ⟨by omega, by omega⟩ ⟨by omega, by omega⟩ (fun z => by omega)) (by assumption) (Nat.le_of_ble_eq_true rfl) (Nat.le_of_ble_eq_true rfl) ⟨Nat.le_refl _, Nat.le_refl _⟩ ?_
  refine x_if_eq (tgt := 113) dX8_word_100 (by decide) ⟨by omega, by omega⟩ (fun hb100 => ?_) (fun h => (h (by omega)).elim)
  refine x_aload_n dX8_word_113 rfl ?_
  refine x_iload_n dX8_word_114 rfl ?_
  refine x_bipush dX8_word_115 (by decide) ?_
  refine x_bipush dX8_word_117 (by decide) ?_
  refine x_bipush dX8_word_119 (by decide) ?_
  refine x_bipush dX8_word_121 (by decide) ?_
  refine c_RX8_183d dX8_word_123 rfl (kX8_stands_y hM hn hf n0 n1 fr p0 (by omega) ⟨by omega, by omega⟩ ⟨by omega, by omega⟩ ⟨by omega, by omega⟩ ⟨by omega, by omega⟩ (⟨by omega, by omega, by omega, by omega⟩)) (by assumption) (Nat.le_of_ble_eq_true rfl) (Nat.le_of_ble_eq_true rfl) ⟨Nat.le_refl _, Nat.le_refl _⟩ ?_
  refine x_if_eq (tgt := 139) dX8_word_126 (by decide) ⟨by omega, by omega⟩ (fun h => absurd h (by omega)) (fun hb126 => ?_)
  refine x_iload_n dX8_word_129 rfl ?_
  refine x_bipush dX8_word_130 (by decide) ?_
  refine x_ic_ne (tgt := 139) dX8_word_132 (by decide) ⟨by omega, by omega⟩ ⟨by omega, by omega⟩ (fun h => absurd h (by omega)) (fun hb132 => ?_)
  refine x_iconst dX8_word_135 ?_
  refine x_goto (tgt := 167) dX8_word_136 (by decide) ?_
  exact x_ireturn dX8_word_167 rfl rfl ⟨Nat.le_refl _, Nat.le_refl _⟩ ⟨rfl, rfl, rfl⟩
theorem word_4 {G : JG} {S : JS} {D : JD} {d : Nat} {M n : Int} {f : Int → Int} {p e : Int} (hM : jMo S M) (hn : D M 7 = n) (hf : D (M + 6) = f) (n0 : 0 ≤ n) (n1 : n ≤ 60) (fr : ∀ z : Int, 0 ≤ f z ∧ f z ≤ 65535) (p0 : 0 ≤ p) (en : e ≤ n) (h : oC4 f p e) : JM G yX8_word cX8_word 4 (some .int) (d + 1) (0, 0) S D [.inr (.inr (some M)), .inl p, .inl e] (jr (.inl (4)) S D) := by
  obtain ⟨mk, m0, m1, m2, m4, m5, m8, m12, y1, l1, y2, l2, y3, l3, y4, l4, y5, l5, y6, l6, y7, l7⟩ := id hM
  have f4 := fr (p + 4)
  have f5 := fr (p + 5)
  have h2 := h
  unfold oC4 at h2
  show JX _ _ _ _ _ _ _ _ _ _ _ [_, _, _, _] _ _
  refine x_iload_n dX8_word_0 rfl ?_
  refine x_iload_n dX8_word_1 rfl ?_
  refine x_isub dX8_word_2 ?_
  refine x_iconst dX8_word_3 ?_
  refine x_ic_ne (tgt := 71) dX8_word_4 (by decide) ⟨by omega, by omega⟩ ⟨by omega, by omega⟩ (fun hb4 => ?_) (fun h => (h (by omega)).elim)
  refine x_iload_n dX8_word_71 rfl ?_
  refine x_iload_n dX8_word_72 rfl ?_
  refine x_isub dX8_word_73 ?_
  refine x_iconst dX8_word_74 ?_
  refine x_ic_ne (tgt := 168) dX8_word_75 (by decide) ⟨by omega, by omega⟩ ⟨by omega, by omega⟩ (fun h => absurd h (by omega)) (fun hb75 => ?_)
  refine x_aload_n dX8_word_78 rfl ?_
  refine gf_RX8_26 dX8_word_79 rfl (by assumption) ?_
  rw [m8]
  refine x_iload_n dX8_word_82 rfl ?_
  refine x_iconst dX8_word_83 ?_
  refine x_iadd dX8_word_84 ?_
  refine x_cald dX8_word_85 (by assumption) ⟨by omega, by omega⟩ ?_
  rw [hf]
  refine x_istore_n dX8_word_86 (by decide) ?_
  show JX _ _ _ _ _ _ _ _ _ _ _ [_, _, _, _] _ _
  refine x_aload_n dX8_word_87 rfl ?_
  refine x_iload_n dX8_word_88 rfl ?_
  refine x_bipush dX8_word_89 (by decide) ?_
  refine x_bipush dX8_word_91 (by decide) ?_
  refine x_bipush dX8_word_93 (by decide) ?_
  refine x_bipush dX8_word_95 (by decide) ?_
  refine c_RX8_183d dX8_word_97 rfl (kX8_stands_n hM hn hf n0 n1 fr p0 (by omega) ⟨by omega, by omega⟩ ⟨by omega, by omega⟩ ⟨by omega, by omega⟩ ⟨by omega, by omega⟩ (fun z => by omega)) (by assumption) (Nat.le_of_ble_eq_true rfl) (Nat.le_of_ble_eq_true rfl) ⟨Nat.le_refl _, Nat.le_refl _⟩ ?_
  refine x_if_eq (tgt := 113) dX8_word_100 (by decide) ⟨by omega, by omega⟩ (fun hb100 => ?_) (fun h => (h (by omega)).elim)
  refine x_aload_n dX8_word_113 rfl ?_
  refine x_iload_n dX8_word_114 rfl ?_
  refine x_bipush dX8_word_115 (by decide) ?_
  refine x_bipush dX8_word_117 (by decide) ?_
  refine x_bipush dX8_word_119 (by decide) ?_
  refine x_bipush dX8_word_121 (by decide) ?_
  refine c_RX8_183d dX8_word_123 rfl (kX8_stands_n hM hn hf n0 n1 fr p0 (by omega) ⟨by omega, by omega⟩ ⟨by omega, by omega⟩ ⟨by omega, by omega⟩ ⟨by omega, by omega⟩ (fun z => by omega)) (by assumption) (Nat.le_of_ble_eq_true rfl) (Nat.le_of_ble_eq_true rfl) ⟨Nat.le_refl _, Nat.le_refl _⟩ ?_
  refine x_if_eq (tgt := 139) dX8_word_126 (by decide) ⟨by omega, by omega⟩ (fun hb126 => ?_) (fun h => (h (by omega)).elim)
  refine x_aload_n dX8_word_139 rfl ?_
  refine x_iload_n dX8_word_140 rfl ?_
  refine x_bipush dX8_word_141 (by decide) ?_
  refine x_bipush dX8_word_143 (by decide) ?_
  refine x_bipush dX8_word_145 (by decide) ?_
  refine x_bipush dX8_word_147 (by decide) ?_
  refine c_RX8_183d dX8_word_149 rfl (kX8_stands_y hM hn hf n0 n1 fr p0 (by omega) ⟨by omega, by omega⟩ ⟨by omega, by omega⟩ ⟨by omega, by omega⟩ ⟨by omega, by omega⟩ (⟨by omega, by omega, by omega, by omega⟩)) (by assumption) (Nat.le_of_ble_eq_true rfl) (Nat.le_of_ble_eq_true rfl) ⟨Nat.le_refl _, Nat.le_refl _⟩ ?_
  refine x_if_eq (tgt := 165) dX8_word_152 (by decide) ⟨by omega, by omega⟩ (fun h => absurd h (by omega)) (fun hb152 => ?_)
  refine x_iload_n dX8_word_155 rfl ?_
  refine x_bipush dX8_word_156 (by decide) ?_
  refine x_ic_ne (tgt := 165) dX8_word_158 (by decide) ⟨by omega, by omega⟩ ⟨by omega, by omega⟩ (fun h => absurd h (by omega)) (fun hb158 => ?_)
  refine x_iconst dX8_word_161 ?_
  refine x_goto (tgt := 167) dX8_word_162 (by decide) ?_
  exact x_ireturn dX8_word_167 rfl rfl ⟨Nat.le_refl _, Nat.le_refl _⟩ ⟨rfl, rfl, rfl⟩
theorem word_0 {G : JG} {S : JS} {D : JD} {d : Nat} {M n : Int} {f : Int → Int} {p e : Int} (hM : jMo S M) (hn : D M 7 = n) (hf : D (M + 6) = f) (n0 : 0 ≤ n) (n1 : n ≤ 60) (fr : ∀ z : Int, 0 ≤ f z ∧ f z ≤ 65535) (p0 : 0 ≤ p) (en : e ≤ n) (h : oC0 f p e) : JM G yX8_word cX8_word 4 (some .int) (d + 1) (0, 0) S D [.inr (.inr (some M)), .inl p, .inl e] (jr (.inl (0)) S D) := by
  obtain ⟨mk, m0, m1, m2, m4, m5, m8, m12, y1, l1, y2, l2, y3, l3, y4, l4, y5, l5, y6, l6, y7, l7⟩ := id hM
  have f4 := fr (p + 4)
  have f5 := fr (p + 5)
  have h2 := h
  unfold oC0 at h2
  show JX _ _ _ _ _ _ _ _ _ _ _ [_, _, _, _] _ _
  refine x_iload_n dX8_word_0 rfl ?_
  refine x_iload_n dX8_word_1 rfl ?_
  refine x_isub dX8_word_2 ?_
  refine x_iconst dX8_word_3 ?_
  refine x_ic_ne (tgt := 71) dX8_word_4 (by decide) ⟨by omega, by omega⟩ ⟨by omega, by omega⟩ (fun hb4 => ?_) (fun h => (h (by omega)).elim)
  refine x_iload_n dX8_word_71 rfl ?_
  refine x_iload_n dX8_word_72 rfl ?_
  refine x_isub dX8_word_73 ?_
  refine x_iconst dX8_word_74 ?_
  refine x_ic_ne (tgt := 168) dX8_word_75 (by decide) ⟨by omega, by omega⟩ ⟨by omega, by omega⟩ (fun hb75 => ?_) (fun h => (h (by omega)).elim)
  refine x_iload_n dX8_word_168 rfl ?_
  refine x_iload_n dX8_word_169 rfl ?_
  refine x_isub dX8_word_170 ?_
  refine x_bipush dX8_word_171 (by decide) ?_
  refine x_ic_ne (tgt := 222) dX8_word_173 (by decide) ⟨by omega, by omega⟩ ⟨by omega, by omega⟩ (fun h => absurd h (by omega)) (fun hb173 => ?_)
  refine x_aload_n dX8_word_176 rfl ?_
  refine x_iload_n dX8_word_177 rfl ?_
  refine x_bipush dX8_word_178 (by decide) ?_
  refine x_bipush dX8_word_180 (by decide) ?_
  refine x_bipush dX8_word_182 (by decide) ?_
  refine x_bipush dX8_word_184 (by decide) ?_
  refine c_RX8_183d dX8_word_186 rfl (kX8_stands_y hM hn hf n0 n1 fr p0 (by omega) ⟨by omega, by omega⟩ ⟨by omega, by omega⟩ ⟨by omega, by omega⟩ ⟨by omega, by omega⟩ (⟨by omega, by omega, by omega, by omega⟩)) (by assumption) (Nat.le_of_ble_eq_true rfl) (Nat.le_of_ble_eq_true rfl) ⟨Nat.le_refl _, Nat.le_refl _⟩ ?_
  refine x_if_eq (tgt := 222) dX8_word_189 (by decide) ⟨by omega, by omega⟩ (fun h => absurd h (by omega)) (fun hb189 => ?_)
  refine x_aload_n dX8_word_192 rfl ?_
  refine gf_RX8_26 dX8_word_193 rfl (by assumption) ?_
  rw [m8]
  refine x_iload_n dX8_word_196 rfl ?_
  refine x_iconst dX8_word_197 ?_
  refine x_iadd dX8_word_198 ?_
  refine x_cald dX8_word_199 (by assumption) ⟨by omega, by omega⟩ ?_
  rw [hf]
  refine x_bipush dX8_word_200 (by decide) ?_
  refine x_ic_ne (tgt := 222) dX8_word_202 (by decide) ⟨by omega, by omega⟩ ⟨by omega, by omega⟩ (fun h => absurd h (by omega)) (fun hb202 => ?_)
  refine x_aload_n dX8_word_205 rfl ?_
  refine gf_RX8_26 dX8_word_206 rfl (by assumption) ?_
  rw [m8]
  refine x_iload_n dX8_word_209 rfl ?_
  refine x_iconst dX8_word_210 ?_
  refine x_iadd dX8_word_211 ?_
  refine x_cald dX8_word_212 (by assumption) ⟨by omega, by omega⟩ ?_
  rw [hf]
  refine x_bipush dX8_word_213 (by decide) ?_
  refine x_ic_ne (tgt := 222) dX8_word_215 (by decide) ⟨by omega, by omega⟩ ⟨by omega, by omega⟩ (fun h => absurd h (by omega)) (fun hb215 => ?_)
  refine x_iconst dX8_word_218 ?_
  refine x_goto (tgt := 224) dX8_word_219 (by decide) ?_
  exact x_ireturn dX8_word_224 rfl rfl ⟨Nat.le_refl _, Nat.le_refl _⟩ ⟨rfl, rfl, rfl⟩
theorem word_n4 {G : JG} {S : JS} {D : JD} {d : Nat} {M n : Int} {f : Int → Int} {p e : Int} (hM : jMo S M) (hn : D M 7 = n) (hf : D (M + 6) = f) (n0 : 0 ≤ n) (n1 : n ≤ 60) (fr : ∀ z : Int, 0 ≤ f z ∧ f z ≤ 65535) (p0 : 0 ≤ p) (en : e ≤ n) (he : e - p = 4) (h1 : ¬ oC1 f p e) (h5 : ¬ oC5 f p e) (h6 : ¬ oC6 f p e) : JM G yX8_word cX8_word 4 (some .int) (d + 1) (0, 0) S D [.inr (.inr (some M)), .inl p, .inl e] (jr (.inl (-100000005)) S D) := by
  obtain ⟨mk, m0, m1, m2, m4, m5, m8, m12, y1, l1, y2, l2, y3, l3, y4, l4, y5, l5, y6, l6, y7, l7⟩ := id hM
  have f4 := fr (p + 4)
  have f5 := fr (p + 5)
  show JX _ _ _ _ _ _ _ _ _ _ _ [_, _, _, _] _ _
  refine x_iload_n dX8_word_0 rfl ?_
  refine x_iload_n dX8_word_1 rfl ?_
  refine x_isub dX8_word_2 ?_
  refine x_iconst dX8_word_3 ?_
  refine x_ic_ne (tgt := 71) dX8_word_4 (by decide) ⟨by omega, by omega⟩ ⟨by omega, by omega⟩ (fun h => absurd h (by omega)) (fun hb4 => ?_)
  refine x_aload_n dX8_word_7 rfl ?_
  refine x_iload_n dX8_word_8 rfl ?_
  refine x_bipush dX8_word_9 (by decide) ?_
  refine x_bipush dX8_word_11 (by decide) ?_
  refine x_bipush dX8_word_13 (by decide) ?_
  refine x_bipush dX8_word_15 (by decide) ?_
  refine c_RX8_183d dX8_word_17 rfl (kX8_stands_n hM hn hf n0 n1 fr p0 (by omega) ⟨by omega, by omega⟩ ⟨by omega, by omega⟩ ⟨by omega, by omega⟩ ⟨by omega, by omega⟩ (fun z => h1 ⟨he, z.1, z.2.1, z.2.2.1, z.2.2.2⟩)) (by assumption) (Nat.le_of_ble_eq_true rfl) (Nat.le_of_ble_eq_true rfl) ⟨Nat.le_refl _, Nat.le_refl _⟩ ?_
  refine x_if_eq (tgt := 27) dX8_word_20 (by decide) ⟨by omega, by omega⟩ (fun hb20 => ?_) (fun h => (h (by omega)).elim)
  refine x_aload_n dX8_word_27 rfl ?_
  refine x_iload_n dX8_word_28 rfl ?_
  refine x_bipush dX8_word_29 (by decide) ?_
  refine x_bipush dX8_word_31 (by decide) ?_
  refine x_bipush dX8_word_33 (by decide) ?_
  refine x_bipush dX8_word_35 (by decide) ?_
  refine c_RX8_183d dX8_word_37 rfl (kX8_stands_n hM hn hf n0 n1 fr p0 (by omega) ⟨by omega, by omega⟩ ⟨by omega, by omega⟩ ⟨by omega, by omega⟩ ⟨by omega, by omega⟩ (fun z => h5 ⟨he, z.1, z.2.1, z.2.2.1, z.2.2.2⟩)) (by assumption) (Nat.le_of_ble_eq_true rfl) (Nat.le_of_ble_eq_true rfl) ⟨Nat.le_refl _, Nat.le_refl _⟩ ?_
  refine x_if_eq (tgt := 47) dX8_word_40 (by decide) ⟨by omega, by omega⟩ (fun hb40 => ?_) (fun h => (h (by omega)).elim)
  refine x_aload_n dX8_word_47 rfl ?_
  refine x_iload_n dX8_word_48 rfl ?_
  refine x_bipush dX8_word_49 (by decide) ?_
  refine x_bipush dX8_word_51 (by decide) ?_
  refine x_bipush dX8_word_53 (by decide) ?_
  refine x_bipush dX8_word_55 (by decide) ?_
  refine c_RX8_183d dX8_word_57 rfl (kX8_stands_n hM hn hf n0 n1 fr p0 (by omega) ⟨by omega, by omega⟩ ⟨by omega, by omega⟩ ⟨by omega, by omega⟩ ⟨by omega, by omega⟩ (fun z => h6 ⟨he, z.1, z.2.1, z.2.2.1, z.2.2.2⟩)) (by assumption) (Nat.le_of_ble_eq_true rfl) (Nat.le_of_ble_eq_true rfl) ⟨Nat.le_refl _, Nat.le_refl _⟩ ?_
  refine x_if_eq (tgt := 68) dX8_word_60 (by decide) ⟨by omega, by omega⟩ (fun hb60 => ?_) (fun h => (h (by omega)).elim)
  refine x_ldc (e := -100000005) dX8_word_68 ct_RX8_48 (by decide) ?_
  exact x_ireturn dX8_word_70 rfl rfl ⟨Nat.le_refl _, Nat.le_refl _⟩ ⟨rfl, rfl, rfl⟩
theorem word_n5c {G : JG} {S : JS} {D : JD} {d : Nat} {M n : Int} {f : Int → Int} {p e : Int} (hM : jMo S M) (hn : D M 7 = n) (hf : D (M + 6) = f) (n0 : 0 ≤ n) (n1 : n ≤ 60) (fr : ∀ z : Int, 0 ≤ f z ∧ f z ≤ 65535) (p0 : 0 ≤ p) (en : e ≤ n) (he : e - p = 5) (h : (f p = 99 ∧ f (p + 1) = 108 ∧ f (p + 2) = 111 ∧ f (p + 3) = 115)) (hl : f (p + 4) ≠ 101) : JM G yX8_word cX8_word 4 (some .int) (d + 1) (0, 0) S D [.inr (.inr (some M)), .inl p, .inl e] (jr (.inl (-100000005)) S D) := by
  obtain ⟨mk, m0, m1, m2, m4, m5, m8, m12, y1, l1, y2, l2, y3, l3, y4, l4, y5, l5, y6, l6, y7, l7⟩ := id hM
  have f4 := fr (p + 4)
  have f5 := fr (p + 5)
  show JX _ _ _ _ _ _ _ _ _ _ _ [_, _, _, _] _ _
  refine x_iload_n dX8_word_0 rfl ?_
  refine x_iload_n dX8_word_1 rfl ?_
  refine x_isub dX8_word_2 ?_
  refine x_iconst dX8_word_3 ?_
  refine x_ic_ne (tgt := 71) dX8_word_4 (by decide) ⟨by omega, by omega⟩ ⟨by omega, by omega⟩ (fun hb4 => ?_) (fun h => (h (by omega)).elim)
  refine x_iload_n dX8_word_71 rfl ?_
  refine x_iload_n dX8_word_72 rfl ?_
  refine x_isub dX8_word_73 ?_
  refine x_iconst dX8_word_74 ?_
  refine x_ic_ne (tgt := 168) dX8_word_75 (by decide) ⟨by omega, by omega⟩ ⟨by omega, by omega⟩ (fun h => absurd h (by omega)) (fun hb75 => ?_)
  refine x_aload_n dX8_word_78 rfl ?_
  refine gf_RX8_26 dX8_word_79 rfl (by assumption) ?_
  rw [m8]
  refine x_iload_n dX8_word_82 rfl ?_
  refine x_iconst dX8_word_83 ?_
  refine x_iadd dX8_word_84 ?_
  refine x_cald dX8_word_85 (by assumption) ⟨by omega, by omega⟩ ?_
  rw [hf]
  refine x_istore_n dX8_word_86 (by decide) ?_
  show JX _ _ _ _ _ _ _ _ _ _ _ [_, _, _, _] _ _
  refine x_aload_n dX8_word_87 rfl ?_
  refine x_iload_n dX8_word_88 rfl ?_
  refine x_bipush dX8_word_89 (by decide) ?_
  refine x_bipush dX8_word_91 (by decide) ?_
  refine x_bipush dX8_word_93 (by decide) ?_
  refine x_bipush dX8_word_95 (by decide) ?_
  refine c_RX8_183d dX8_word_97 rfl (kX8_stands_y hM hn hf n0 n1 fr p0 (by omega) ⟨by omega, by omega⟩ ⟨by omega, by omega⟩ ⟨by omega, by omega⟩ ⟨by omega, by omega⟩ (h)) (by assumption) (Nat.le_of_ble_eq_true rfl) (Nat.le_of_ble_eq_true rfl) ⟨Nat.le_refl _, Nat.le_refl _⟩ ?_
  refine x_if_eq (tgt := 113) dX8_word_100 (by decide) ⟨by omega, by omega⟩ (fun h => absurd h (by omega)) (fun hb100 => ?_)
  refine x_iload_n dX8_word_103 rfl ?_
  refine x_bipush dX8_word_104 (by decide) ?_
  refine x_ic_ne (tgt := 113) dX8_word_106 (by decide) ⟨by omega, by omega⟩ ⟨by omega, by omega⟩ (fun hb106 => ?_) (fun h => (h (by omega)).elim)
  refine x_aload_n dX8_word_113 rfl ?_
  refine x_iload_n dX8_word_114 rfl ?_
  refine x_bipush dX8_word_115 (by decide) ?_
  refine x_bipush dX8_word_117 (by decide) ?_
  refine x_bipush dX8_word_119 (by decide) ?_
  refine x_bipush dX8_word_121 (by decide) ?_
  refine c_RX8_183d dX8_word_123 rfl (kX8_stands_n hM hn hf n0 n1 fr p0 (by omega) ⟨by omega, by omega⟩ ⟨by omega, by omega⟩ ⟨by omega, by omega⟩ ⟨by omega, by omega⟩ (fun z => by omega)) (by assumption) (Nat.le_of_ble_eq_true rfl) (Nat.le_of_ble_eq_true rfl) ⟨Nat.le_refl _, Nat.le_refl _⟩ ?_
  refine x_if_eq (tgt := 139) dX8_word_126 (by decide) ⟨by omega, by omega⟩ (fun hb126 => ?_) (fun h => (h (by omega)).elim)
  refine x_aload_n dX8_word_139 rfl ?_
  refine x_iload_n dX8_word_140 rfl ?_
  refine x_bipush dX8_word_141 (by decide) ?_
  refine x_bipush dX8_word_143 (by decide) ?_
  refine x_bipush dX8_word_145 (by decide) ?_
  refine x_bipush dX8_word_147 (by decide) ?_
  refine c_RX8_183d dX8_word_149 rfl (kX8_stands_n hM hn hf n0 n1 fr p0 (by omega) ⟨by omega, by omega⟩ ⟨by omega, by omega⟩ ⟨by omega, by omega⟩ ⟨by omega, by omega⟩ (fun z => by omega)) (by assumption) (Nat.le_of_ble_eq_true rfl) (Nat.le_of_ble_eq_true rfl) ⟨Nat.le_refl _, Nat.le_refl _⟩ ?_
  refine x_if_eq (tgt := 165) dX8_word_152 (by decide) ⟨by omega, by omega⟩ (fun hb152 => ?_) (fun h => (h (by omega)).elim)
  refine x_ldc (e := -100000005) dX8_word_165 ct_RX8_48 (by decide) ?_
  exact x_ireturn dX8_word_167 rfl rfl ⟨Nat.le_refl _, Nat.le_refl _⟩ ⟨rfl, rfl, rfl⟩
theorem word_n5e {G : JG} {S : JS} {D : JD} {d : Nat} {M n : Int} {f : Int → Int} {p e : Int} (hM : jMo S M) (hn : D M 7 = n) (hf : D (M + 6) = f) (n0 : 0 ≤ n) (n1 : n ≤ 60) (fr : ∀ z : Int, 0 ≤ f z ∧ f z ≤ 65535) (p0 : 0 ≤ p) (en : e ≤ n) (he : e - p = 5) (h : (f p = 101 ∧ f (p + 1) = 110 ∧ f (p + 2) = 116 ∧ f (p + 3) = 101)) (hl : f (p + 4) ≠ 114) : JM G yX8_word cX8_word 4 (some .int) (d + 1) (0, 0) S D [.inr (.inr (some M)), .inl p, .inl e] (jr (.inl (-100000005)) S D) := by
  obtain ⟨mk, m0, m1, m2, m4, m5, m8, m12, y1, l1, y2, l2, y3, l3, y4, l4, y5, l5, y6, l6, y7, l7⟩ := id hM
  have f4 := fr (p + 4)
  have f5 := fr (p + 5)
  show JX _ _ _ _ _ _ _ _ _ _ _ [_, _, _, _] _ _
  refine x_iload_n dX8_word_0 rfl ?_
  refine x_iload_n dX8_word_1 rfl ?_
  refine x_isub dX8_word_2 ?_
  refine x_iconst dX8_word_3 ?_
  refine x_ic_ne (tgt := 71) dX8_word_4 (by decide) ⟨by omega, by omega⟩ ⟨by omega, by omega⟩ (fun hb4 => ?_) (fun h => (h (by omega)).elim)
  refine x_iload_n dX8_word_71 rfl ?_
  refine x_iload_n dX8_word_72 rfl ?_
  refine x_isub dX8_word_73 ?_
  refine x_iconst dX8_word_74 ?_
  refine x_ic_ne (tgt := 168) dX8_word_75 (by decide) ⟨by omega, by omega⟩ ⟨by omega, by omega⟩ (fun h => absurd h (by omega)) (fun hb75 => ?_)
  refine x_aload_n dX8_word_78 rfl ?_
  refine gf_RX8_26 dX8_word_79 rfl (by assumption) ?_
  rw [m8]
  refine x_iload_n dX8_word_82 rfl ?_
  refine x_iconst dX8_word_83 ?_
  refine x_iadd dX8_word_84 ?_
  refine x_cald dX8_word_85 (by assumption) ⟨by omega, by omega⟩ ?_
  rw [hf]
  refine x_istore_n dX8_word_86 (by decide) ?_
  show JX _ _ _ _ _ _ _ _ _ _ _ [_, _, _, _] _ _
  refine x_aload_n dX8_word_87 rfl ?_
  refine x_iload_n dX8_word_88 rfl ?_
  refine x_bipush dX8_word_89 (by decide) ?_
  refine x_bipush dX8_word_91 (by decide) ?_
  refine x_bipush dX8_word_93 (by decide) ?_
  refine x_bipush dX8_word_95 (by decide) ?_
  refine c_RX8_183d dX8_word_97 rfl (kX8_stands_n hM hn hf n0 n1 fr p0 (by omega) ⟨by omega, by omega⟩ ⟨by omega, by omega⟩ ⟨by omega, by omega⟩ ⟨by omega, by omega⟩ (fun z => by omega)) (by assumption) (Nat.le_of_ble_eq_true rfl) (Nat.le_of_ble_eq_true rfl) ⟨Nat.le_refl _, Nat.le_refl _⟩ ?_
  refine x_if_eq (tgt := 113) dX8_word_100 (by decide) ⟨by omega, by omega⟩ (fun hb100 => ?_) (fun h => (h (by omega)).elim)
  refine x_aload_n dX8_word_113 rfl ?_
  refine x_iload_n dX8_word_114 rfl ?_
  refine x_bipush dX8_word_115 (by decide) ?_
  refine x_bipush dX8_word_117 (by decide) ?_
  refine x_bipush dX8_word_119 (by decide) ?_
  refine x_bipush dX8_word_121 (by decide) ?_
  refine c_RX8_183d dX8_word_123 rfl (kX8_stands_y hM hn hf n0 n1 fr p0 (by omega) ⟨by omega, by omega⟩ ⟨by omega, by omega⟩ ⟨by omega, by omega⟩ ⟨by omega, by omega⟩ (h)) (by assumption) (Nat.le_of_ble_eq_true rfl) (Nat.le_of_ble_eq_true rfl) ⟨Nat.le_refl _, Nat.le_refl _⟩ ?_
  refine x_if_eq (tgt := 139) dX8_word_126 (by decide) ⟨by omega, by omega⟩ (fun h => absurd h (by omega)) (fun hb126 => ?_)
  refine x_iload_n dX8_word_129 rfl ?_
  refine x_bipush dX8_word_130 (by decide) ?_
  refine x_ic_ne (tgt := 139) dX8_word_132 (by decide) ⟨by omega, by omega⟩ ⟨by omega, by omega⟩ (fun hb132 => ?_) (fun h => (h (by omega)).elim)
  refine x_aload_n dX8_word_139 rfl ?_
  refine x_iload_n dX8_word_140 rfl ?_
  refine x_bipush dX8_word_141 (by decide) ?_
  refine x_bipush dX8_word_143 (by decide) ?_
  refine x_bipush dX8_word_145 (by decide) ?_
  refine x_bipush dX8_word_147 (by decide) ?_
  refine c_RX8_183d dX8_word_149 rfl (kX8_stands_n hM hn hf n0 n1 fr p0 (by omega) ⟨by omega, by omega⟩ ⟨by omega, by omega⟩ ⟨by omega, by omega⟩ ⟨by omega, by omega⟩ (fun z => by omega)) (by assumption) (Nat.le_of_ble_eq_true rfl) (Nat.le_of_ble_eq_true rfl) ⟨Nat.le_refl _, Nat.le_refl _⟩ ?_
  refine x_if_eq (tgt := 165) dX8_word_152 (by decide) ⟨by omega, by omega⟩ (fun hb152 => ?_) (fun h => (h (by omega)).elim)
  refine x_ldc (e := -100000005) dX8_word_165 ct_RX8_48 (by decide) ?_
  exact x_ireturn dX8_word_167 rfl rfl ⟨Nat.le_refl _, Nat.le_refl _⟩ ⟨rfl, rfl, rfl⟩
theorem word_n5l {G : JG} {S : JS} {D : JD} {d : Nat} {M n : Int} {f : Int → Int} {p e : Int} (hM : jMo S M) (hn : D M 7 = n) (hf : D (M + 6) = f) (n0 : 0 ≤ n) (n1 : n ≤ 60) (fr : ∀ z : Int, 0 ≤ f z ∧ f z ≤ 65535) (p0 : 0 ≤ p) (en : e ≤ n) (he : e - p = 5) (h : (f p = 108 ∧ f (p + 1) = 101 ∧ f (p + 2) = 97 ∧ f (p + 3) = 118)) (hl : f (p + 4) ≠ 101) : JM G yX8_word cX8_word 4 (some .int) (d + 1) (0, 0) S D [.inr (.inr (some M)), .inl p, .inl e] (jr (.inl (-100000005)) S D) := by
  obtain ⟨mk, m0, m1, m2, m4, m5, m8, m12, y1, l1, y2, l2, y3, l3, y4, l4, y5, l5, y6, l6, y7, l7⟩ := id hM
  have f4 := fr (p + 4)
  have f5 := fr (p + 5)
  show JX _ _ _ _ _ _ _ _ _ _ _ [_, _, _, _] _ _
  refine x_iload_n dX8_word_0 rfl ?_
  refine x_iload_n dX8_word_1 rfl ?_
  refine x_isub dX8_word_2 ?_
  refine x_iconst dX8_word_3 ?_
  refine x_ic_ne (tgt := 71) dX8_word_4 (by decide) ⟨by omega, by omega⟩ ⟨by omega, by omega⟩ (fun hb4 => ?_) (fun h => (h (by omega)).elim)
  refine x_iload_n dX8_word_71 rfl ?_
  refine x_iload_n dX8_word_72 rfl ?_
  refine x_isub dX8_word_73 ?_
  refine x_iconst dX8_word_74 ?_
  refine x_ic_ne (tgt := 168) dX8_word_75 (by decide) ⟨by omega, by omega⟩ ⟨by omega, by omega⟩ (fun h => absurd h (by omega)) (fun hb75 => ?_)
  refine x_aload_n dX8_word_78 rfl ?_
  refine gf_RX8_26 dX8_word_79 rfl (by assumption) ?_
  rw [m8]
  refine x_iload_n dX8_word_82 rfl ?_
  refine x_iconst dX8_word_83 ?_
  refine x_iadd dX8_word_84 ?_
  refine x_cald dX8_word_85 (by assumption) ⟨by omega, by omega⟩ ?_
  rw [hf]
  refine x_istore_n dX8_word_86 (by decide) ?_
  show JX _ _ _ _ _ _ _ _ _ _ _ [_, _, _, _] _ _
  refine x_aload_n dX8_word_87 rfl ?_
  refine x_iload_n dX8_word_88 rfl ?_
  refine x_bipush dX8_word_89 (by decide) ?_
  refine x_bipush dX8_word_91 (by decide) ?_
  refine x_bipush dX8_word_93 (by decide) ?_
  refine x_bipush dX8_word_95 (by decide) ?_
  refine c_RX8_183d dX8_word_97 rfl (kX8_stands_n hM hn hf n0 n1 fr p0 (by omega) ⟨by omega, by omega⟩ ⟨by omega, by omega⟩ ⟨by omega, by omega⟩ ⟨by omega, by omega⟩ (fun z => by omega)) (by assumption) (Nat.le_of_ble_eq_true rfl) (Nat.le_of_ble_eq_true rfl) ⟨Nat.le_refl _, Nat.le_refl _⟩ ?_
  refine x_if_eq (tgt := 113) dX8_word_100 (by decide) ⟨by omega, by omega⟩ (fun hb100 => ?_) (fun h => (h (by omega)).elim)
  refine x_aload_n dX8_word_113 rfl ?_
  refine x_iload_n dX8_word_114 rfl ?_
  refine x_bipush dX8_word_115 (by decide) ?_
  refine x_bipush dX8_word_117 (by decide) ?_
  refine x_bipush dX8_word_119 (by decide) ?_
  refine x_bipush dX8_word_121 (by decide) ?_
  refine c_RX8_183d dX8_word_123 rfl (kX8_stands_n hM hn hf n0 n1 fr p0 (by omega) ⟨by omega, by omega⟩ ⟨by omega, by omega⟩ ⟨by omega, by omega⟩ ⟨by omega, by omega⟩ (fun z => by omega)) (by assumption) (Nat.le_of_ble_eq_true rfl) (Nat.le_of_ble_eq_true rfl) ⟨Nat.le_refl _, Nat.le_refl _⟩ ?_
  refine x_if_eq (tgt := 139) dX8_word_126 (by decide) ⟨by omega, by omega⟩ (fun hb126 => ?_) (fun h => (h (by omega)).elim)
  refine x_aload_n dX8_word_139 rfl ?_
  refine x_iload_n dX8_word_140 rfl ?_
  refine x_bipush dX8_word_141 (by decide) ?_
  refine x_bipush dX8_word_143 (by decide) ?_
  refine x_bipush dX8_word_145 (by decide) ?_
  refine x_bipush dX8_word_147 (by decide) ?_
  refine c_RX8_183d dX8_word_149 rfl (kX8_stands_y hM hn hf n0 n1 fr p0 (by omega) ⟨by omega, by omega⟩ ⟨by omega, by omega⟩ ⟨by omega, by omega⟩ ⟨by omega, by omega⟩ (h)) (by assumption) (Nat.le_of_ble_eq_true rfl) (Nat.le_of_ble_eq_true rfl) ⟨Nat.le_refl _, Nat.le_refl _⟩ ?_
  refine x_if_eq (tgt := 165) dX8_word_152 (by decide) ⟨by omega, by omega⟩ (fun h => absurd h (by omega)) (fun hb152 => ?_)
  refine x_iload_n dX8_word_155 rfl ?_
  refine x_bipush dX8_word_156 (by decide) ?_
  refine x_ic_ne (tgt := 165) dX8_word_158 (by decide) ⟨by omega, by omega⟩ ⟨by omega, by omega⟩ (fun hb158 => ?_) (fun h => (h (by omega)).elim)
  refine x_ldc (e := -100000005) dX8_word_165 ct_RX8_48 (by decide) ?_
  exact x_ireturn dX8_word_167 rfl rfl ⟨Nat.le_refl _, Nat.le_refl _⟩ ⟨rfl, rfl, rfl⟩
theorem word_n5n {G : JG} {S : JS} {D : JD} {d : Nat} {M n : Int} {f : Int → Int} {p e : Int} (hM : jMo S M) (hn : D M 7 = n) (hf : D (M + 6) = f) (n0 : 0 ≤ n) (n1 : n ≤ 60) (fr : ∀ z : Int, 0 ≤ f z ∧ f z ≤ 65535) (p0 : 0 ≤ p) (en : e ≤ n) (he : e - p = 5) (hc : ¬ (f p = 99 ∧ f (p + 1) = 108 ∧ f (p + 2) = 111 ∧ f (p + 3) = 115)) (hh : ¬ (f p = 101 ∧ f (p + 1) = 110 ∧ f (p + 2) = 116 ∧ f (p + 3) = 101)) (hl : ¬ (f p = 108 ∧ f (p + 1) = 101 ∧ f (p + 2) = 97 ∧ f (p + 3) = 118)) : JM G yX8_word cX8_word 4 (some .int) (d + 1) (0, 0) S D [.inr (.inr (some M)), .inl p, .inl e] (jr (.inl (-100000005)) S D) := by
  obtain ⟨mk, m0, m1, m2, m4, m5, m8, m12, y1, l1, y2, l2, y3, l3, y4, l4, y5, l5, y6, l6, y7, l7⟩ := id hM
  have f4 := fr (p + 4)
  have f5 := fr (p + 5)
  show JX _ _ _ _ _ _ _ _ _ _ _ [_, _, _, _] _ _
  refine x_iload_n dX8_word_0 rfl ?_
  refine x_iload_n dX8_word_1 rfl ?_
  refine x_isub dX8_word_2 ?_
  refine x_iconst dX8_word_3 ?_
  refine x_ic_ne (tgt := 71) dX8_word_4 (by decide) ⟨by omega, by omega⟩ ⟨by omega, by omega⟩ (fun hb4 => ?_) (fun h => (h (by omega)).elim)
  refine x_iload_n dX8_word_71 rfl ?_
  refine x_iload_n dX8_word_72 rfl ?_
  refine x_isub dX8_word_73 ?_
  refine x_iconst dX8_word_74 ?_
  refine x_ic_ne (tgt := 168) dX8_word_75 (by decide) ⟨by omega, by omega⟩ ⟨by omega, by omega⟩ (fun h => absurd h (by omega)) (fun hb75 => ?_)
  refine x_aload_n dX8_word_78 rfl ?_
  refine gf_RX8_26 dX8_word_79 rfl (by assumption) ?_
  rw [m8]
  refine x_iload_n dX8_word_82 rfl ?_
  refine x_iconst dX8_word_83 ?_
  refine x_iadd dX8_word_84 ?_
  refine x_cald dX8_word_85 (by assumption) ⟨by omega, by omega⟩ ?_
  rw [hf]
  refine x_istore_n dX8_word_86 (by decide) ?_
  show JX _ _ _ _ _ _ _ _ _ _ _ [_, _, _, _] _ _
  refine x_aload_n dX8_word_87 rfl ?_
  refine x_iload_n dX8_word_88 rfl ?_
  refine x_bipush dX8_word_89 (by decide) ?_
  refine x_bipush dX8_word_91 (by decide) ?_
  refine x_bipush dX8_word_93 (by decide) ?_
  refine x_bipush dX8_word_95 (by decide) ?_
  refine c_RX8_183d dX8_word_97 rfl (kX8_stands_n hM hn hf n0 n1 fr p0 (by omega) ⟨by omega, by omega⟩ ⟨by omega, by omega⟩ ⟨by omega, by omega⟩ ⟨by omega, by omega⟩ (hc)) (by assumption) (Nat.le_of_ble_eq_true rfl) (Nat.le_of_ble_eq_true rfl) ⟨Nat.le_refl _, Nat.le_refl _⟩ ?_
  refine x_if_eq (tgt := 113) dX8_word_100 (by decide) ⟨by omega, by omega⟩ (fun hb100 => ?_) (fun h => (h (by omega)).elim)
  refine x_aload_n dX8_word_113 rfl ?_
  refine x_iload_n dX8_word_114 rfl ?_
  refine x_bipush dX8_word_115 (by decide) ?_
  refine x_bipush dX8_word_117 (by decide) ?_
  refine x_bipush dX8_word_119 (by decide) ?_
  refine x_bipush dX8_word_121 (by decide) ?_
  refine c_RX8_183d dX8_word_123 rfl (kX8_stands_n hM hn hf n0 n1 fr p0 (by omega) ⟨by omega, by omega⟩ ⟨by omega, by omega⟩ ⟨by omega, by omega⟩ ⟨by omega, by omega⟩ (hh)) (by assumption) (Nat.le_of_ble_eq_true rfl) (Nat.le_of_ble_eq_true rfl) ⟨Nat.le_refl _, Nat.le_refl _⟩ ?_
  refine x_if_eq (tgt := 139) dX8_word_126 (by decide) ⟨by omega, by omega⟩ (fun hb126 => ?_) (fun h => (h (by omega)).elim)
  refine x_aload_n dX8_word_139 rfl ?_
  refine x_iload_n dX8_word_140 rfl ?_
  refine x_bipush dX8_word_141 (by decide) ?_
  refine x_bipush dX8_word_143 (by decide) ?_
  refine x_bipush dX8_word_145 (by decide) ?_
  refine x_bipush dX8_word_147 (by decide) ?_
  refine c_RX8_183d dX8_word_149 rfl (kX8_stands_n hM hn hf n0 n1 fr p0 (by omega) ⟨by omega, by omega⟩ ⟨by omega, by omega⟩ ⟨by omega, by omega⟩ ⟨by omega, by omega⟩ (hl)) (by assumption) (Nat.le_of_ble_eq_true rfl) (Nat.le_of_ble_eq_true rfl) ⟨Nat.le_refl _, Nat.le_refl _⟩ ?_
  refine x_if_eq (tgt := 165) dX8_word_152 (by decide) ⟨by omega, by omega⟩ (fun hb152 => ?_) (fun h => (h (by omega)).elim)
  refine x_ldc (e := -100000005) dX8_word_165 ct_RX8_48 (by decide) ?_
  exact x_ireturn dX8_word_167 rfl rfl ⟨Nat.le_refl _, Nat.le_refl _⟩ ⟨rfl, rfl, rfl⟩
theorem word_n6a {G : JG} {S : JS} {D : JD} {d : Nat} {M n : Int} {f : Int → Int} {p e : Int} (hM : jMo S M) (hn : D M 7 = n) (hf : D (M + 6) = f) (n0 : 0 ≤ n) (n1 : n ≤ 60) (fr : ∀ z : Int, 0 ≤ f z ∧ f z ≤ 65535) (p0 : 0 ≤ p) (en : e ≤ n) (he : e - p = 6) (h : (f p = 115 ∧ f (p + 1) = 108 ∧ f (p + 2) = 117 ∧ f (p + 3) = 105)) (hl : f (p + 4) ≠ 99) : JM G yX8_word cX8_word 4 (some .int) (d + 1) (0, 0) S D [.inr (.inr (some M)), .inl p, .inl e] (jr (.inl (-100000005)) S D) := by
  obtain ⟨mk, m0, m1, m2, m4, m5, m8, m12, y1, l1, y2, l2, y3, l3, y4, l4, y5, l5, y6, l6, y7, l7⟩ := id hM
  have f4 := fr (p + 4)
  have f5 := fr (p + 5)
  show JX _ _ _ _ _ _ _ _ _ _ _ [_, _, _, _] _ _
  refine x_iload_n dX8_word_0 rfl ?_
  refine x_iload_n dX8_word_1 rfl ?_
  refine x_isub dX8_word_2 ?_
  refine x_iconst dX8_word_3 ?_
  refine x_ic_ne (tgt := 71) dX8_word_4 (by decide) ⟨by omega, by omega⟩ ⟨by omega, by omega⟩ (fun hb4 => ?_) (fun h => (h (by omega)).elim)
  refine x_iload_n dX8_word_71 rfl ?_
  refine x_iload_n dX8_word_72 rfl ?_
  refine x_isub dX8_word_73 ?_
  refine x_iconst dX8_word_74 ?_
  refine x_ic_ne (tgt := 168) dX8_word_75 (by decide) ⟨by omega, by omega⟩ ⟨by omega, by omega⟩ (fun hb75 => ?_) (fun h => (h (by omega)).elim)
  refine x_iload_n dX8_word_168 rfl ?_
  refine x_iload_n dX8_word_169 rfl ?_
  refine x_isub dX8_word_170 ?_
  refine x_bipush dX8_word_171 (by decide) ?_
  refine x_ic_ne (tgt := 222) dX8_word_173 (by decide) ⟨by omega, by omega⟩ ⟨by omega, by omega⟩ (fun h => absurd h (by omega)) (fun hb173 => ?_)
  refine x_aload_n dX8_word_176 rfl ?_
  refine x_iload_n dX8_word_177 rfl ?_
  refine x_bipush dX8_word_178 (by decide) ?_
  refine x_bipush dX8_word_180 (by decide) ?_
  refine x_bipush dX8_word_182 (by decide) ?_
  refine x_bipush dX8_word_184 (by decide) ?_
  refine c_RX8_183d dX8_word_186 rfl (kX8_stands_y hM hn hf n0 n1 fr p0 (by omega) ⟨by omega, by omega⟩ ⟨by omega, by omega⟩ ⟨by omega, by omega⟩ ⟨by omega, by omega⟩ (h)) (by assumption) (Nat.le_of_ble_eq_true rfl) (Nat.le_of_ble_eq_true rfl) ⟨Nat.le_refl _, Nat.le_refl _⟩ ?_
  refine x_if_eq (tgt := 222) dX8_word_189 (by decide) ⟨by omega, by omega⟩ (fun h => absurd h (by omega)) (fun hb189 => ?_)
  refine x_aload_n dX8_word_192 rfl ?_
  refine gf_RX8_26 dX8_word_193 rfl (by assumption) ?_
  rw [m8]
  refine x_iload_n dX8_word_196 rfl ?_
  refine x_iconst dX8_word_197 ?_
  refine x_iadd dX8_word_198 ?_
  refine x_cald dX8_word_199 (by assumption) ⟨by omega, by omega⟩ ?_
  rw [hf]
  refine x_bipush dX8_word_200 (by decide) ?_
  refine x_ic_ne (tgt := 222) dX8_word_202 (by decide) ⟨by omega, by omega⟩ ⟨by omega, by omega⟩ (fun hb202 => ?_) (fun h => (h (by omega)).elim)
  refine x_ldc (e := -100000005) dX8_word_222 ct_RX8_48 (by decide) ?_
  exact x_ireturn dX8_word_224 rfl rfl ⟨Nat.le_refl _, Nat.le_refl _⟩ ⟨rfl, rfl, rfl⟩
theorem word_n6b {G : JG} {S : JS} {D : JD} {d : Nat} {M n : Int} {f : Int → Int} {p e : Int} (hM : jMo S M) (hn : D M 7 = n) (hf : D (M + 6) = f) (n0 : 0 ≤ n) (n1 : n ≤ 60) (fr : ∀ z : Int, 0 ≤ f z ∧ f z ≤ 65535) (p0 : 0 ≤ p) (en : e ≤ n) (he : e - p = 6) (h : (f p = 115 ∧ f (p + 1) = 108 ∧ f (p + 2) = 117 ∧ f (p + 3) = 105)) (hl : f (p + 4) = 99) (hm : f (p + 5) ≠ 101) : JM G yX8_word cX8_word 4 (some .int) (d + 1) (0, 0) S D [.inr (.inr (some M)), .inl p, .inl e] (jr (.inl (-100000005)) S D) := by
  obtain ⟨mk, m0, m1, m2, m4, m5, m8, m12, y1, l1, y2, l2, y3, l3, y4, l4, y5, l5, y6, l6, y7, l7⟩ := id hM
  have f4 := fr (p + 4)
  have f5 := fr (p + 5)
  show JX _ _ _ _ _ _ _ _ _ _ _ [_, _, _, _] _ _
  refine x_iload_n dX8_word_0 rfl ?_
  refine x_iload_n dX8_word_1 rfl ?_
  refine x_isub dX8_word_2 ?_
  refine x_iconst dX8_word_3 ?_
  refine x_ic_ne (tgt := 71) dX8_word_4 (by decide) ⟨by omega, by omega⟩ ⟨by omega, by omega⟩ (fun hb4 => ?_) (fun h => (h (by omega)).elim)
  refine x_iload_n dX8_word_71 rfl ?_
  refine x_iload_n dX8_word_72 rfl ?_
  refine x_isub dX8_word_73 ?_
  refine x_iconst dX8_word_74 ?_
  refine x_ic_ne (tgt := 168) dX8_word_75 (by decide) ⟨by omega, by omega⟩ ⟨by omega, by omega⟩ (fun hb75 => ?_) (fun h => (h (by omega)).elim)
  refine x_iload_n dX8_word_168 rfl ?_
  refine x_iload_n dX8_word_169 rfl ?_
  refine x_isub dX8_word_170 ?_
  refine x_bipush dX8_word_171 (by decide) ?_
  refine x_ic_ne (tgt := 222) dX8_word_173 (by decide) ⟨by omega, by omega⟩ ⟨by omega, by omega⟩ (fun h => absurd h (by omega)) (fun hb173 => ?_)
  refine x_aload_n dX8_word_176 rfl ?_
  refine x_iload_n dX8_word_177 rfl ?_
  refine x_bipush dX8_word_178 (by decide) ?_
  refine x_bipush dX8_word_180 (by decide) ?_
  refine x_bipush dX8_word_182 (by decide) ?_
  refine x_bipush dX8_word_184 (by decide) ?_
  refine c_RX8_183d dX8_word_186 rfl (kX8_stands_y hM hn hf n0 n1 fr p0 (by omega) ⟨by omega, by omega⟩ ⟨by omega, by omega⟩ ⟨by omega, by omega⟩ ⟨by omega, by omega⟩ (h)) (by assumption) (Nat.le_of_ble_eq_true rfl) (Nat.le_of_ble_eq_true rfl) ⟨Nat.le_refl _, Nat.le_refl _⟩ ?_
  refine x_if_eq (tgt := 222) dX8_word_189 (by decide) ⟨by omega, by omega⟩ (fun h => absurd h (by omega)) (fun hb189 => ?_)
  refine x_aload_n dX8_word_192 rfl ?_
  refine gf_RX8_26 dX8_word_193 rfl (by assumption) ?_
  rw [m8]
  refine x_iload_n dX8_word_196 rfl ?_
  refine x_iconst dX8_word_197 ?_
  refine x_iadd dX8_word_198 ?_
  refine x_cald dX8_word_199 (by assumption) ⟨by omega, by omega⟩ ?_
  rw [hf]
  refine x_bipush dX8_word_200 (by decide) ?_
  refine x_ic_ne (tgt := 222) dX8_word_202 (by decide) ⟨by omega, by omega⟩ ⟨by omega, by omega⟩ (fun h => absurd h (by omega)) (fun hb202 => ?_)
  refine x_aload_n dX8_word_205 rfl ?_
  refine gf_RX8_26 dX8_word_206 rfl (by assumption) ?_
  rw [m8]
  refine x_iload_n dX8_word_209 rfl ?_
  refine x_iconst dX8_word_210 ?_
  refine x_iadd dX8_word_211 ?_
  refine x_cald dX8_word_212 (by assumption) ⟨by omega, by omega⟩ ?_
  rw [hf]
  refine x_bipush dX8_word_213 (by decide) ?_
  refine x_ic_ne (tgt := 222) dX8_word_215 (by decide) ⟨by omega, by omega⟩ ⟨by omega, by omega⟩ (fun hb215 => ?_) (fun h => (h (by omega)).elim)
  refine x_ldc (e := -100000005) dX8_word_222 ct_RX8_48 (by decide) ?_
  exact x_ireturn dX8_word_224 rfl rfl ⟨Nat.le_refl _, Nat.le_refl _⟩ ⟨rfl, rfl, rfl⟩
theorem word_n6n {G : JG} {S : JS} {D : JD} {d : Nat} {M n : Int} {f : Int → Int} {p e : Int} (hM : jMo S M) (hn : D M 7 = n) (hf : D (M + 6) = f) (n0 : 0 ≤ n) (n1 : n ≤ 60) (fr : ∀ z : Int, 0 ≤ f z ∧ f z ≤ 65535) (p0 : 0 ≤ p) (en : e ≤ n) (he : e - p = 6) (h : ¬ (f p = 115 ∧ f (p + 1) = 108 ∧ f (p + 2) = 117 ∧ f (p + 3) = 105)) : JM G yX8_word cX8_word 4 (some .int) (d + 1) (0, 0) S D [.inr (.inr (some M)), .inl p, .inl e] (jr (.inl (-100000005)) S D) := by
  obtain ⟨mk, m0, m1, m2, m4, m5, m8, m12, y1, l1, y2, l2, y3, l3, y4, l4, y5, l5, y6, l6, y7, l7⟩ := id hM
  have f4 := fr (p + 4)
  have f5 := fr (p + 5)
  show JX _ _ _ _ _ _ _ _ _ _ _ [_, _, _, _] _ _
  refine x_iload_n dX8_word_0 rfl ?_
  refine x_iload_n dX8_word_1 rfl ?_
  refine x_isub dX8_word_2 ?_
  refine x_iconst dX8_word_3 ?_
  refine x_ic_ne (tgt := 71) dX8_word_4 (by decide) ⟨by omega, by omega⟩ ⟨by omega, by omega⟩ (fun hb4 => ?_) (fun h => (h (by omega)).elim)
  refine x_iload_n dX8_word_71 rfl ?_
  refine x_iload_n dX8_word_72 rfl ?_
  refine x_isub dX8_word_73 ?_
  refine x_iconst dX8_word_74 ?_
  refine x_ic_ne (tgt := 168) dX8_word_75 (by decide) ⟨by omega, by omega⟩ ⟨by omega, by omega⟩ (fun hb75 => ?_) (fun h => (h (by omega)).elim)
  refine x_iload_n dX8_word_168 rfl ?_
  refine x_iload_n dX8_word_169 rfl ?_
  refine x_isub dX8_word_170 ?_
  refine x_bipush dX8_word_171 (by decide) ?_
  refine x_ic_ne (tgt := 222) dX8_word_173 (by decide) ⟨by omega, by omega⟩ ⟨by omega, by omega⟩ (fun h => absurd h (by omega)) (fun hb173 => ?_)
  refine x_aload_n dX8_word_176 rfl ?_
  refine x_iload_n dX8_word_177 rfl ?_
  refine x_bipush dX8_word_178 (by decide) ?_
  refine x_bipush dX8_word_180 (by decide) ?_
  refine x_bipush dX8_word_182 (by decide) ?_
  refine x_bipush dX8_word_184 (by decide) ?_
  refine c_RX8_183d dX8_word_186 rfl (kX8_stands_n hM hn hf n0 n1 fr p0 (by omega) ⟨by omega, by omega⟩ ⟨by omega, by omega⟩ ⟨by omega, by omega⟩ ⟨by omega, by omega⟩ (h)) (by assumption) (Nat.le_of_ble_eq_true rfl) (Nat.le_of_ble_eq_true rfl) ⟨Nat.le_refl _, Nat.le_refl _⟩ ?_
  refine x_if_eq (tgt := 222) dX8_word_189 (by decide) ⟨by omega, by omega⟩ (fun hb189 => ?_) (fun h => (h (by omega)).elim)
  refine x_ldc (e := -100000005) dX8_word_222 ct_RX8_48 (by decide) ?_
  exact x_ireturn dX8_word_224 rfl rfl ⟨Nat.le_refl _, Nat.le_refl _⟩ ⟨rfl, rfl, rfl⟩
theorem word_no {G : JG} {S : JS} {D : JD} {d : Nat} {M n : Int} {f : Int → Int} {p e : Int} (hM : jMo S M) (hn : D M 7 = n) (hf : D (M + 6) = f) (n0 : 0 ≤ n) (n1 : n ≤ 60) (fr : ∀ z : Int, 0 ≤ f z ∧ f z ≤ 65535) (p0 : 0 ≤ p) (en : e ≤ n) (pe : p ≤ e) (h4 : e - p ≠ 4) (h5 : e - p ≠ 5) (h6 : e - p ≠ 6) : JM G yX8_word cX8_word 4 (some .int) (d + 1) (0, 0) S D [.inr (.inr (some M)), .inl p, .inl e] (jr (.inl (-100000005)) S D) := by
  obtain ⟨mk, m0, m1, m2, m4, m5, m8, m12, y1, l1, y2, l2, y3, l3, y4, l4, y5, l5, y6, l6, y7, l7⟩ := id hM
  have f4 := fr (p + 4)
  have f5 := fr (p + 5)
  show JX _ _ _ _ _ _ _ _ _ _ _ [_, _, _, _] _ _
  refine x_iload_n dX8_word_0 rfl ?_
  refine x_iload_n dX8_word_1 rfl ?_
  refine x_isub dX8_word_2 ?_
  refine x_iconst dX8_word_3 ?_
  refine x_ic_ne (tgt := 71) dX8_word_4 (by decide) ⟨by omega, by omega⟩ ⟨by omega, by omega⟩ (fun hb4 => ?_) (fun h => (h (by omega)).elim)
  refine x_iload_n dX8_word_71 rfl ?_
  refine x_iload_n dX8_word_72 rfl ?_
  refine x_isub dX8_word_73 ?_
  refine x_iconst dX8_word_74 ?_
  refine x_ic_ne (tgt := 168) dX8_word_75 (by decide) ⟨by omega, by omega⟩ ⟨by omega, by omega⟩ (fun hb75 => ?_) (fun h => (h (by omega)).elim)
  refine x_iload_n dX8_word_168 rfl ?_
  refine x_iload_n dX8_word_169 rfl ?_
  refine x_isub dX8_word_170 ?_
  refine x_bipush dX8_word_171 (by decide) ?_
  refine x_ic_ne (tgt := 222) dX8_word_173 (by decide) ⟨by omega, by omega⟩ ⟨by omega, by omega⟩ (fun hb173 => ?_) (fun h => (h (by omega)).elim)
  refine x_ldc (e := -100000005) dX8_word_222 ct_RX8_48 (by decide) ?_
  exact x_ireturn dX8_word_224 rfl rfl ⟨Nat.le_refl _, Nat.le_refl _⟩ ⟨rfl, rfl, rfl⟩
theorem kX8_word {G : JG} {S : JS} {D : JD} {d : Nat} {M n : Int} {f : Int → Int} {p e : Int} (hM : jMo S M) (hn : D M 7 = n) (hf : D (M + 6) = f) (n0 : 0 ≤ n) (n1 : n ≤ 60) (fr : ∀ z : Int, 0 ≤ f z ∧ f z ≤ 65535) (p0 : 0 ≤ p) (pe : p ≤ e) (en : e ≤ n) : JM G yX8_word cX8_word 4 (some .int) (d + 1) (0, 0) S D [.inr (.inr (some M)), .inl p, .inl e] (jr (.inl (if oW f p e < 0 then -100000005 else oW f p e)) S D) := by
  by_cases h0 : oC0 f p e
  · rw [oW_0 h0, if_neg (by decide)]; exact word_0 hM hn hf n0 n1 fr p0 en h0
  by_cases h1 : oC1 f p e
  · rw [oW_1 h1, if_neg (by decide)]; exact word_1 hM hn hf n0 n1 fr p0 en h1
  by_cases h2 : oC2 f p e
  · rw [oW_2 h2, if_neg (by decide)]; exact word_2 hM hn hf n0 n1 fr p0 en h2
  by_cases h3 : oC3 f p e
  · rw [oW_3 h3, if_neg (by decide)]; exact word_3 hM hn hf n0 n1 fr p0 en h3
  by_cases h4 : oC4 f p e
  · rw [oW_4 h4, if_neg (by decide)]; exact word_4 hM hn hf n0 n1 fr p0 en h4
  by_cases h5 : oC5 f p e
  · rw [oW_5 h5, if_neg (by decide)]; exact word_5 hM hn hf n0 n1 fr p0 en h5
  by_cases h6 : oC6 f p e
  · rw [oW_6 h6, if_neg (by decide)]; exact word_6 hM hn hf n0 n1 fr p0 en h6
  rw [oW_none h0 h1 h2 h3 h4 h5 h6, if_pos (by decide)]
  by_cases e4 : e - p = 4
  · exact word_n4 hM hn hf n0 n1 fr p0 en e4 h1 h5 h6
  by_cases e5 : e - p = 5
  · by_cases c1 : f p = 99 ∧ f (p + 1) = 108 ∧ f (p + 2) = 111 ∧ f (p + 3) = 115
    · exact word_n5c hM hn hf n0 n1 fr p0 en e5 c1 (fun z => h2 ⟨e5, c1.1, c1.2.1, c1.2.2.1, c1.2.2.2, z⟩)
    · by_cases c2 : f p = 101 ∧ f (p + 1) = 110 ∧ f (p + 2) = 116 ∧ f (p + 3) = 101
      · exact word_n5e hM hn hf n0 n1 fr p0 en e5 c2 (fun z => h3 ⟨e5, c2.1, c2.2.1, c2.2.2.1, c2.2.2.2, z⟩)
      · by_cases c3 : f p = 108 ∧ f (p + 1) = 101 ∧ f (p + 2) = 97 ∧ f (p + 3) = 118
        · exact word_n5l hM hn hf n0 n1 fr p0 en e5 c3 (fun z => h4 ⟨e5, c3.1, c3.2.1, c3.2.2.1, c3.2.2.2, z⟩)
        · exact word_n5n hM hn hf n0 n1 fr p0 en e5 c1 c2 c3
  by_cases e6 : e - p = 6
  · by_cases c1 : f p = 115 ∧ f (p + 1) = 108 ∧ f (p + 2) = 117 ∧ f (p + 3) = 105
    · by_cases c2 : f (p + 4) = 99
      · exact word_n6b hM hn hf n0 n1 fr p0 en e6 c1 c2 (fun z => h0 ⟨e6, c1.1, c1.2.1, c1.2.2.1, c1.2.2.2, c2, z⟩)
      · exact word_n6a hM hn hf n0 n1 fr p0 en e6 c1 c2
    · exact word_n6n hM hn hf n0 n1 fr p0 en e6 c1
  exact word_no hM hn hf n0 n1 fr p0 en pe e4 e5 e6
theorem kX8_fail {G : JG} {S : JS} {D : JD} {d : Nat} {M F e : Int} (hM : jMo S M) (hF : D M 10 = F) (rF : i32 F) : JM G yX8_fail cX8_fail 2 none d (0, 0) S D [.inr (.inr (some M)), .inl e] (jn S (jup D M 10 (if F < 0 then e else F))) := by
  obtain ⟨mk, m0, m1, m2, m4, m5, m8, m12, y1, l1, y2, l2, y3, l3, y4, l4, y5, l5, y6, l6, y7, l7⟩ := id hM
  show JX _ _ _ _ _ _ _ _ _ _ _ [_, _] _ _
  refine x_aload_n dX8_fail_0 rfl ?_
  refine x_aload_n dX8_fail_1 rfl ?_
  refine gf_RX8_187 dX8_fail_2 rfl (by assumption) ?_
  rw [hF]
  refine x_if_ge (tgt := 12) dX8_fail_5 (by decide) rF (fun hb5 => ?_) (fun hb5 => ?_)
  · refine x_aload_n dX8_fail_12 rfl ?_
    refine gf_RX8_187 dX8_fail_13 rfl (by assumption) ?_
    first | rw [hF] | skip
    refine pf_RX8_187 dX8_fail_16 rfl (by assumption) ?_
    exact x_return dX8_fail_19 rfl ⟨Nat.le_refl _, Nat.le_refl _⟩ ⟨rfl, rfl, by first | rw [if_pos (by omega)] | rw [if_neg (by omega)]⟩
  · refine x_iload_n dX8_fail_8 rfl ?_
    refine x_goto (tgt := 16) dX8_fail_9 (by decide) ?_
    first | rw [hF] | skip
    refine pf_RX8_187 dX8_fail_16 rfl (by assumption) ?_
    exact x_return dX8_fail_19 rfl ⟨Nat.le_refl _, Nat.le_refl _⟩ ⟨rfl, rfl, by first | rw [if_pos (by omega)] | rw [if_neg (by omega)]⟩
def jDm (D D2 : JD) (M s e l m : Int) (r : Option Int) (w : JV) : Prop := match r with
  | some v => if l ≤ v ∧ v ≤ m then w = .inl v ∧ D2 = jup D M 9 e else (∃ u, w = .inl u) ∧ D2 = jup (jup D M 10 s) M 9 e
  | none => (∃ u, w = .inl u) ∧ D2 = jup (jup D M 10 s) M 9 e
def jNm (D D2 : JD) (M n : Int) (x : Option Int × Int) (w : JV) : Prop := (∀ y k : Int, ¬ (y = M ∧ (k = 9 ∨ k = 10)) → D2 y k = D y k) ∧ (0 ≤ D2 M 9 ∧ D2 M 9 ≤ n) ∧ match x.1 with
  | some v => w = .inl v ∧ D2 M 9 = x.2 ∧ D2 M 10 = D M 10
  | none => (∃ u, w = .inl u) ∧ D2 M 10 = x.2
theorem jup_o {D : JD} {a k v y z : Int} (h : ¬ (y = a ∧ z = k)) : jup D a k v y z = D y z := by
  by_cases q : y = a
  · rw [q]; exact jup_nk (fun w => h ⟨q, w⟩)
  · exact jup_ne q
theorem num_bad {G : JG} {S : JS} {D : JD} {d : Nat} {M F l m s e v z : Int} (hM : jMo S M) (hF : D M 10 = F) (rF : i32 F) (F0 : F < 0) : JX G yX8_number cX8_number 8 (some .int) (d + 1) (0, 0) (0, 0) S D 142 [some (.inr (.inr (some M))), some (.inl l), some (.inl m), some (.inl s), some (.inl e), some (.inl 0), some (.inl v), some (.inl z)] [] (jrP S (fun w D2 => w = .inl v ∧ D2 = jup (jup D M 10 s) M 9 e)) := by
  obtain ⟨mk, m0, m1, m2, m4, m5, m8, m12, y1, l1, y2, l2, y3, l3, y4, l4, y5, l5, y6, l6, y7, l7⟩ := id hM
  refine x_iload dX8_number_142 rfl ?_
  refine x_if_eq (tgt := 157) dX8_number_144 (by decide) ⟨by omega, by omega⟩ (fun hb144 => ?_) (fun h => (h (by omega)).elim)
  refine x_aload_n dX8_number_157 rfl ?_
  refine x_iload_n dX8_number_158 rfl ?_
  refine c_RX8_193d dX8_number_159 rfl (kX8_fail hM hF rF) (by assumption) (Nat.le_of_ble_eq_true rfl) (Nat.le_of_ble_eq_true rfl) ⟨Nat.le_refl _, Nat.le_refl _⟩ ?_
  rw [if_pos F0]
  refine x_aload_n dX8_number_162 rfl ?_
  refine x_iload dX8_number_163 rfl ?_
  refine pf_RX8_190 dX8_number_165 rfl (by assumption) ?_
  refine x_iload dX8_number_168 rfl ?_
  exact x_ireturn dX8_number_170 rfl rfl ⟨Nat.le_refl _, Nat.le_refl _⟩ ⟨rfl, _, rfl, rfl, rfl⟩
theorem num_loop {G : JG} {S : JS} {D : JD} {d : Nat} {M n : Int} {f : Int → Int} {F l m s e : Int} (hM : jMo S M) (hn : D M 7 = n) (hf : D (M + 6) = f) (n0 : 0 ≤ n) (n1 : n ≤ 60) (fr : ∀ z : Int, 0 ≤ f z ∧ f z ≤ 65535) (hF : D M 10 = F) (rF : i32 F) (F0 : F < 0) (rl : i32 l) (rm : i32 m) (he : e ≤ n) : ∀ (k : Nat) (z v : Int), z + (k : Int) = e → 0 ≤ z → (k ≤ 3 ∧ 0 ≤ v ∧ (k = 0 → v < 1000) ∧ (k = 1 → v < 100) ∧ (k = 2 → v < 10) ∧ (k = 3 → v < 1)) →
    JX G yX8_number cX8_number 8 (some .int) (d + 1) (0, 0) (0, 0) S D 75 [some (.inr (.inr (some M))), some (.inl l), some (.inl m), some (.inl s), some (.inl e), some (.inl 1), some (.inl v), some (.inl z)] [] (jrP S (fun w D2 => jDm D D2 M s e l m (oDg f k z v) w)) := by
  obtain ⟨mk, m0, m1, m2, m4, m5, m8, m12, y1, l1, y2, l2, y3, l3, y4, l4, y5, l5, y6, l6, y7, l7⟩ := id hM
  intro k
  induction k with
  | zero =>
    intro z v hz z0 hv
    refine x_iload dX8_number_75 rfl ?_
    refine x_iload dX8_number_77 rfl ?_
    refine x_ic_ge (tgt := 142) dX8_number_79 (by decide) ⟨by omega, by omega⟩ ⟨by omega, by omega⟩ (fun hb79 => ?_) (fun h => (h (by omega)).elim)
    refine x_iload dX8_number_142 rfl ?_
    refine x_if_eq (tgt := 157) dX8_number_144 (by decide) ⟨by omega, by omega⟩ (fun h => absurd h (by omega)) (fun hb144 => ?_)
    refine x_iload dX8_number_147 rfl ?_
    refine x_iload_n dX8_number_149 rfl ?_
    refine x_iload_n dX8_number_150 rfl ?_
    refine c_RX8_49d dX8_number_151 rfl (kX8_in ⟨by omega, by omega⟩ rl rm) (Nat.le_of_ble_eq_true rfl) (Nat.le_of_ble_eq_true rfl) ⟨Nat.le_refl _, Nat.le_refl _⟩ ?_
    refine x_if_ne (tgt := 162) dX8_number_154 (by decide) ⟨by split <;> omega, by split <;> omega⟩ (fun hb154 => ?_) (fun hb154 => ?_)
    · first | rw [if_pos F0] | skip
      refine x_aload_n dX8_number_162 rfl ?_
      refine x_iload dX8_number_163 rfl ?_
      refine pf_RX8_190 dX8_number_165 rfl (by assumption) ?_
      refine x_iload dX8_number_168 rfl ?_
      exact x_ireturn dX8_number_170 rfl rfl ⟨Nat.le_refl _, Nat.le_refl _⟩ ⟨rfl, _, rfl, by show (if l ≤ v ∧ v ≤ m then _ else _); first | (rw [if_pos (by omega)]; exact ⟨rfl, rfl⟩) | (rw [if_neg (by omega)]; exact ⟨⟨_, rfl⟩, rfl⟩)⟩
    · refine x_aload_n dX8_number_157 rfl ?_
      refine x_iload_n dX8_number_158 rfl ?_
      refine c_RX8_193d dX8_number_159 rfl (kX8_fail hM hF rF) (by assumption) (Nat.le_of_ble_eq_true rfl) (Nat.le_of_ble_eq_true rfl) ⟨Nat.le_refl _, Nat.le_refl _⟩ ?_
      first | rw [if_pos F0] | skip
      refine x_aload_n dX8_number_162 rfl ?_
      refine x_iload dX8_number_163 rfl ?_
      refine pf_RX8_190 dX8_number_165 rfl (by assumption) ?_
      refine x_iload dX8_number_168 rfl ?_
      exact x_ireturn dX8_number_170 rfl rfl ⟨Nat.le_refl _, Nat.le_refl _⟩ ⟨rfl, _, rfl, by show (if l ≤ v ∧ v ≤ m then _ else _); first | (rw [if_pos (by omega)]; exact ⟨rfl, rfl⟩) | (rw [if_neg (by omega)]; exact ⟨⟨_, rfl⟩, rfl⟩)⟩
  | succ k ih =>
    intro z v hz z0 hv
    have fz := fr z
    rw [show oDg f (k + 1) z v = if 48 ≤ f z ∧ f z ≤ 57 then oDg f k (z + 1) (v * 10 + (f z - 48)) else none from rfl]
    have ev : 10 * v + f z - 48 = v * 10 + (f z - 48) := by omega
    refine x_iload dX8_number_75 rfl ?_
    refine x_iload dX8_number_77 rfl ?_
    refine x_ic_ge (tgt := 142) dX8_number_79 (by decide) ⟨by omega, by omega⟩ ⟨by omega, by omega⟩ (fun h => absurd h (by omega)) (fun hb79 => ?_)
    refine x_iload dX8_number_82 rfl ?_
    refine x_if_eq (tgt := 142) dX8_number_84 (by decide) ⟨by omega, by omega⟩ (fun h => absurd h (by omega)) (fun hb84 => ?_)
    refine x_aload_n dX8_number_87 rfl ?_
    refine gf_RX8_26 dX8_number_88 rfl (by assumption) ?_
    rw [m8]
    refine x_iload dX8_number_91 rfl ?_
    refine x_cald dX8_number_93 (by assumption) ⟨by omega, by omega⟩ ?_
    rw [hf]
    refine x_bipush dX8_number_94 (by decide) ?_
    refine x_ic_lt (tgt := 115) dX8_number_96 (by decide) ⟨by omega, by omega⟩ ⟨by omega, by omega⟩ (fun hb96 => ?_) (fun hb96 => ?_)
    · refine x_iconst dX8_number_115 ?_
      refine x_istore dX8_number_116 (by decide) ?_
      show JX _ _ _ _ _ _ _ _ _ _ _ [_, _, _, _, _, _, _, _] _ _
      refine x_bipush dX8_number_118 (by decide) ?_
      refine x_iload dX8_number_120 rfl ?_
      refine x_imul dX8_number_122 ?_
      refine x_aload_n dX8_number_123 rfl ?_
      refine gf_RX8_26 dX8_number_124 rfl (by assumption) ?_
      rw [m8]
      refine x_iload dX8_number_127 rfl ?_
      refine x_cald dX8_number_129 (by assumption) ⟨by omega, by omega⟩ ?_
      rw [hf]
      refine x_iadd dX8_number_130 ?_
      refine x_bipush dX8_number_131 (by decide) ?_
      refine x_isub dX8_number_133 ?_
      refine x_istore dX8_number_134 (by decide) ?_
      show JX _ _ _ _ _ _ _ _ _ _ _ [_, _, _, _, _, _, _, _] _ _
      refine x_iinc dX8_number_136 rfl (by decide) ?_
      show JX _ _ _ _ _ _ _ _ _ _ _ [_, _, _, _, _, _, _, _] _ _
      refine x_goto (tgt := 75) dX8_number_139 (by decide) ?_
      first
        | (rw [if_pos (by omega), ev]; exact ih (z + 1) _ (by omega) (by omega) (by omega))
        | (rw [if_neg (by omega)]
           refine x_iload dX8_number_75 rfl ?_
           refine x_iload dX8_number_77 rfl ?_
           have nb : JX G yX8_number cX8_number 8 (some .int) (d + 1) (0, 0) (0, 0) S D 142 [some (.inr (.inr (some M))), some (.inl l), some (.inl m), some (.inl s), some (.inl e), some (.inl 0), some (.inl (10 * v + f z - 48)), some (.inl (z + 1))] [] (jrP S (fun w D2 => jDm D D2 M s e l m none w)) := (num_bad hM hF rF F0).mono (by rintro v9 S2 D2 ⟨rfl, w, rfl, rfl, g2⟩; exact ⟨rfl, _, rfl, ⟨_, rfl⟩, g2⟩)
           refine x_ic_ge (tgt := 142) dX8_number_79 (by decide) ⟨by omega, by omega⟩ ⟨by omega, by omega⟩ (fun hb79 => nb) (fun hb79 => ?_)
           refine x_iload dX8_number_82 rfl ?_
           exact x_if_eq (tgt := 142) dX8_number_84 (by decide) ⟨by omega, by omega⟩ (fun hb84 => nb) (fun hh => absurd rfl hh))
    · refine x_aload_n dX8_number_99 rfl ?_
      refine gf_RX8_26 dX8_number_100 rfl (by assumption) ?_
      rw [m8]
      refine x_iload dX8_number_103 rfl ?_
      refine x_cald dX8_number_105 (by assumption) ⟨by omega, by omega⟩ ?_
      rw [hf]
      refine x_bipush dX8_number_106 (by decide) ?_
      refine x_ic_gt (tgt := 115) dX8_number_108 (by decide) ⟨by omega, by omega⟩ ⟨by omega, by omega⟩ (fun hb108 => ?_) (fun hb108 => ?_)
      · refine x_iconst dX8_number_115 ?_
        refine x_istore dX8_number_116 (by decide) ?_
        show JX _ _ _ _ _ _ _ _ _ _ _ [_, _, _, _, _, _, _, _] _ _
        refine x_bipush dX8_number_118 (by decide) ?_
        refine x_iload dX8_number_120 rfl ?_
        refine x_imul dX8_number_122 ?_
        refine x_aload_n dX8_number_123 rfl ?_
        refine gf_RX8_26 dX8_number_124 rfl (by assumption) ?_
        rw [m8]
        refine x_iload dX8_number_127 rfl ?_
        refine x_cald dX8_number_129 (by assumption) ⟨by omega, by omega⟩ ?_
        rw [hf]
        refine x_iadd dX8_number_130 ?_
        refine x_bipush dX8_number_131 (by decide) ?_
        refine x_isub dX8_number_133 ?_
        refine x_istore dX8_number_134 (by decide) ?_
        show JX _ _ _ _ _ _ _ _ _ _ _ [_, _, _, _, _, _, _, _] _ _
        refine x_iinc dX8_number_136 rfl (by decide) ?_
        show JX _ _ _ _ _ _ _ _ _ _ _ [_, _, _, _, _, _, _, _] _ _
        refine x_goto (tgt := 75) dX8_number_139 (by decide) ?_
        first
          | (rw [if_pos (by omega), ev]; exact ih (z + 1) _ (by omega) (by omega) (by omega))
          | (rw [if_neg (by omega)]
             refine x_iload dX8_number_75 rfl ?_
             refine x_iload dX8_number_77 rfl ?_
             have nb : JX G yX8_number cX8_number 8 (some .int) (d + 1) (0, 0) (0, 0) S D 142 [some (.inr (.inr (some M))), some (.inl l), some (.inl m), some (.inl s), some (.inl e), some (.inl 0), some (.inl (10 * v + f z - 48)), some (.inl (z + 1))] [] (jrP S (fun w D2 => jDm D D2 M s e l m none w)) := (num_bad hM hF rF F0).mono (by rintro v9 S2 D2 ⟨rfl, w, rfl, rfl, g2⟩; exact ⟨rfl, _, rfl, ⟨_, rfl⟩, g2⟩)
             refine x_ic_ge (tgt := 142) dX8_number_79 (by decide) ⟨by omega, by omega⟩ ⟨by omega, by omega⟩ (fun hb79 => nb) (fun hb79 => ?_)
             refine x_iload dX8_number_82 rfl ?_
             exact x_if_eq (tgt := 142) dX8_number_84 (by decide) ⟨by omega, by omega⟩ (fun hb84 => nb) (fun hh => absurd rfl hh))
      · refine x_iconst dX8_number_111 ?_
        refine x_goto (tgt := 116) dX8_number_112 (by decide) ?_
        refine x_istore dX8_number_116 (by decide) ?_
        show JX _ _ _ _ _ _ _ _ _ _ _ [_, _, _, _, _, _, _, _] _ _
        refine x_bipush dX8_number_118 (by decide) ?_
        refine x_iload dX8_number_120 rfl ?_
        refine x_imul dX8_number_122 ?_
        refine x_aload_n dX8_number_123 rfl ?_
        refine gf_RX8_26 dX8_number_124 rfl (by assumption) ?_
        rw [m8]
        refine x_iload dX8_number_127 rfl ?_
        refine x_cald dX8_number_129 (by assumption) ⟨by omega, by omega⟩ ?_
        rw [hf]
        refine x_iadd dX8_number_130 ?_
        refine x_bipush dX8_number_131 (by decide) ?_
        refine x_isub dX8_number_133 ?_
        refine x_istore dX8_number_134 (by decide) ?_
        show JX _ _ _ _ _ _ _ _ _ _ _ [_, _, _, _, _, _, _, _] _ _
        refine x_iinc dX8_number_136 rfl (by decide) ?_
        show JX _ _ _ _ _ _ _ _ _ _ _ [_, _, _, _, _, _, _, _] _ _
        refine x_goto (tgt := 75) dX8_number_139 (by decide) ?_
        first
          | (rw [if_pos (by omega), ev]; exact ih (z + 1) _ (by omega) (by omega) (by omega))
          | (rw [if_neg (by omega)]
             refine x_iload dX8_number_75 rfl ?_
             refine x_iload dX8_number_77 rfl ?_
             have nb : JX G yX8_number cX8_number 8 (some .int) (d + 1) (0, 0) (0, 0) S D 142 [some (.inr (.inr (some M))), some (.inl l), some (.inl m), some (.inl s), some (.inl e), some (.inl 0), some (.inl (10 * v + f z - 48)), some (.inl (z + 1))] [] (jrP S (fun w D2 => jDm D D2 M s e l m none w)) := (num_bad hM hF rF F0).mono (by rintro v9 S2 D2 ⟨rfl, w, rfl, rfl, g2⟩; exact ⟨rfl, _, rfl, ⟨_, rfl⟩, g2⟩)
             refine x_ic_ge (tgt := 142) dX8_number_79 (by decide) ⟨by omega, by omega⟩ ⟨by omega, by omega⟩ (fun hb79 => nb) (fun hb79 => ?_)
             refine x_iload dX8_number_82 rfl ?_
             exact x_if_eq (tgt := 142) dX8_number_84 (by decide) ⟨by omega, by omega⟩ (fun hb84 => nb) (fun hh => absurd rfl hh))
theorem kX8_number_F {G : JG} {S : JS} {D : JD} {d : Nat} {M n : Int} {f : Int → Int} {F l m : Int} (hM : jMo S M) (hn : D M 7 = n) (hf : D (M + 6) = f) (n0 : 0 ≤ n) (n1 : n ≤ 60) (fr : ∀ z : Int, 0 ≤ f z ∧ f z ≤ 65535) (hF : D M 10 = F) (rF : i32 F) (F0 : 0 ≤ F) : JM G yX8_number cX8_number 8 (some .int) (d + 1) (0, 0) S D [.inr (.inr (some M)), .inl l, .inl m] (jr (.inl 0) S D) := by
  obtain ⟨mk, m0, m1, m2, m4, m5, m8, m12, y1, l1, y2, l2, y3, l3, y4, l4, y5, l5, y6, l6, y7, l7⟩ := id hM
  show JX _ _ _ _ _ _ _ _ _ _ _ [_, _, _, _, _, _, _, _] _ _
  refine x_aload_n dX8_number_0 rfl ?_
  refine gf_RX8_187 dX8_number_1 rfl (by assumption) ?_
  rw [hF]
  refine x_if_lt (tgt := 9) dX8_number_4 (by decide) rF (fun h => absurd h (by omega)) (fun hb4 => ?_)
  refine x_iconst dX8_number_7 ?_
  exact x_ireturn dX8_number_8 rfl rfl ⟨Nat.le_refl _, Nat.le_refl _⟩ ⟨rfl, rfl, rfl⟩
theorem kX8_number_a {G : JG} {S : JS} {D : JD} {d : Nat} {M n : Int} {f : Int → Int} {p F l m : Int} (hM : jMo S M) (hn : D M 7 = n) (hf : D (M + 6) = f) (n0 : 0 ≤ n) (n1 : n ≤ 60) (fr : ∀ z : Int, 0 ≤ f z ∧ f z ≤ 65535) (hp : D M 9 = p) (p0 : 0 ≤ p) (p1 : p ≤ n) (hF : D M 10 = F) (rF : i32 F) (F0 : F < 0) (rl : i32 l) (rm : i32 m) (h : ¬ (p < n ∧ f p = 32)) : JM G yX8_number cX8_number 8 (some .int) (d + 1) (0, 0) S D [.inr (.inr (some M)), .inl l, .inl m] (jrP S (fun w D2 => jNm D D2 M n (oNm f n p l m) w)) := by
  obtain ⟨mk, m0, m1, m2, m4, m5, m8, m12, y1, l1, y2, l2, y3, l3, y4, l4, y5, l5, y6, l6, y7, l7⟩ := id hM
  have fp := fr p
  show JX _ _ _ _ _ _ _ _ _ _ _ [_, _, _, _, _, _, _, _] _ _
  refine x_aload_n dX8_number_0 rfl ?_
  refine gf_RX8_187 dX8_number_1 rfl (by assumption) ?_
  rw [hF]
  refine x_if_lt (tgt := 9) dX8_number_4 (by decide) rF (fun hb4 => ?_) (fun h => (h (by omega)).elim)
  refine x_aload_n dX8_number_9 rfl ?_
  refine gf_RX8_190 dX8_number_10 rfl (by assumption) ?_
  rw [hp]
  refine x_aload_n dX8_number_13 rfl ?_
  refine gf_RX8_180 dX8_number_14 rfl (by assumption) ?_
  rw [hn]
  refine x_ic_ge (tgt := 34) dX8_number_17 (by decide) ⟨by omega, by omega⟩ ⟨by omega, by omega⟩ (fun hb17 => ?_) (fun hb17 => ?_)
  · refine x_aload_n dX8_number_34 rfl ?_
    refine x_aload_n dX8_number_35 rfl ?_
    refine gf_RX8_190 dX8_number_36 rfl (by assumption) ?_
    rw [hp]
    refine c_RX8_193d dX8_number_39 rfl (kX8_fail hM hF rF) (by assumption) (Nat.le_of_ble_eq_true rfl) (Nat.le_of_ble_eq_true rfl) ⟨Nat.le_refl _, Nat.le_refl _⟩ ?_
    rw [if_pos F0]
    refine x_iconst dX8_number_42 ?_
    exact x_ireturn dX8_number_43 rfl rfl ⟨Nat.le_refl _, Nat.le_refl _⟩ ⟨rfl, _, rfl, by unfold oNm; rw [if_neg h]; exact ⟨fun y k q => jup_o (fun w => q ⟨w.1, Or.inr w.2⟩), by rw [jup_nk (by omega), hp]; exact ⟨p0, p1⟩, ⟨_, rfl⟩, jup_eq⟩⟩
  · refine x_aload_n dX8_number_20 rfl ?_
    refine gf_RX8_26 dX8_number_21 rfl (by assumption) ?_
    rw [m8]
    refine x_aload_n dX8_number_24 rfl ?_
    refine gf_RX8_190 dX8_number_25 rfl (by assumption) ?_
    rw [hp]
    refine x_cald dX8_number_28 (by assumption) ⟨by omega, by omega⟩ ?_
    rw [hf]
    refine x_bipush dX8_number_29 (by decide) ?_
    refine x_ic_eq (tgt := 44) dX8_number_31 (by decide) ⟨by omega, by omega⟩ ⟨by omega, by omega⟩ (fun h => absurd h (by omega)) (fun hb31 => ?_)
    refine x_aload_n dX8_number_34 rfl ?_
    refine x_aload_n dX8_number_35 rfl ?_
    refine gf_RX8_190 dX8_number_36 rfl (by assumption) ?_
    rw [hp]
    refine c_RX8_193d dX8_number_39 rfl (kX8_fail hM hF rF) (by assumption) (Nat.le_of_ble_eq_true rfl) (Nat.le_of_ble_eq_true rfl) ⟨Nat.le_refl _, Nat.le_refl _⟩ ?_
    rw [if_pos F0]
    refine x_iconst dX8_number_42 ?_
    exact x_ireturn dX8_number_43 rfl rfl ⟨Nat.le_refl _, Nat.le_refl _⟩ ⟨rfl, _, rfl, by unfold oNm; rw [if_neg h]; exact ⟨fun y k q => jup_o (fun w => q ⟨w.1, Or.inr w.2⟩), by rw [jup_nk (by omega), hp]; exact ⟨p0, p1⟩, ⟨_, rfl⟩, jup_eq⟩⟩
theorem kX8_number_b {G : JG} {S : JS} {D : JD} {d : Nat} {M n : Int} {f : Int → Int} {p F l m : Int} (hM : jMo S M) (hn : D M 7 = n) (hf : D (M + 6) = f) (n0 : 0 ≤ n) (n1 : n ≤ 60) (fr : ∀ z : Int, 0 ≤ f z ∧ f z ≤ 65535) (hp : D M 9 = p) (p0 : 0 ≤ p) (p1 : p ≤ n) (hF : D M 10 = F) (rF : i32 F) (F0 : F < 0) (rl : i32 l) (rm : i32 m) (h : p < n ∧ f p = 32) (hb : oE f n (p + 1) = p + 1 ∨ 3 < oE f n (p + 1) - (p + 1)) : JM G yX8_number cX8_number 8 (some .int) (d + 1) (0, 0) S D [.inr (.inr (some M)), .inl l, .inl m] (jrP S (fun w D2 => jNm D D2 M n (oNm f n p l m) w)) := by
  obtain ⟨mk, m0, m1, m2, m4, m5, m8, m12, y1, l1, y2, l2, y3, l3, y4, l4, y5, l5, y6, l6, y7, l7⟩ := id hM
  have fp := fr p
  have eb := oE_b (f := f) (n := n) (p := p + 1) (by omega)
  show JX _ _ _ _ _ _ _ _ _ _ _ [_, _, _, _, _, _, _, _] _ _
  refine x_aload_n dX8_number_0 rfl ?_
  refine gf_RX8_187 dX8_number_1 rfl (by assumption) ?_
  rw [hF]
  refine x_if_lt (tgt := 9) dX8_number_4 (by decide) rF (fun hb4 => ?_) (fun h => (h (by omega)).elim)
  refine x_aload_n dX8_number_9 rfl ?_
  refine gf_RX8_190 dX8_number_10 rfl (by assumption) ?_
  rw [hp]
  refine x_aload_n dX8_number_13 rfl ?_
  refine gf_RX8_180 dX8_number_14 rfl (by assumption) ?_
  rw [hn]
  refine x_ic_ge (tgt := 34) dX8_number_17 (by decide) ⟨by omega, by omega⟩ ⟨by omega, by omega⟩ (fun h => absurd h (by omega)) (fun hb17 => ?_)
  refine x_aload_n dX8_number_20 rfl ?_
  refine gf_RX8_26 dX8_number_21 rfl (by assumption) ?_
  rw [m8]
  refine x_aload_n dX8_number_24 rfl ?_
  refine gf_RX8_190 dX8_number_25 rfl (by assumption) ?_
  rw [hp]
  refine x_cald dX8_number_28 (by assumption) ⟨by omega, by omega⟩ ?_
  rw [hf]
  refine x_bipush dX8_number_29 (by decide) ?_
  refine x_ic_eq (tgt := 44) dX8_number_31 (by decide) ⟨by omega, by omega⟩ ⟨by omega, by omega⟩ (fun hb31 => ?_) (fun h => (h (by omega)).elim)
  refine x_aload_n dX8_number_44 rfl ?_
  refine gf_RX8_190 dX8_number_45 rfl (by assumption) ?_
  rw [hp]
  refine x_iconst dX8_number_48 ?_
  refine x_iadd dX8_number_49 ?_
  refine x_istore_n dX8_number_50 (by decide) ?_
  show JX _ _ _ _ _ _ _ _ _ _ _ [_, _, _, _, _, _, _, _] _ _
  refine x_aload_n dX8_number_51 rfl ?_
  refine x_iload_n dX8_number_52 rfl ?_
  refine c_RX8_197d dX8_number_53 rfl (kX8_endOf hM hn hf n0 n1 fr (by omega) (by omega)) (by assumption) (Nat.le_of_ble_eq_true rfl) (Nat.le_of_ble_eq_true rfl) ⟨Nat.le_refl _, Nat.le_refl _⟩ ?_
  refine x_istore dX8_number_56 (by decide) ?_
  show JX _ _ _ _ _ _ _ _ _ _ _ [_, _, _, _, _, _, _, _] _ _
  refine x_iload dX8_number_58 rfl ?_
  refine x_iload_n dX8_number_60 rfl ?_
  refine x_isub dX8_number_61 ?_
  refine x_iconst dX8_number_62 ?_
  refine x_iconst dX8_number_63 ?_
  refine c_RX8_49d dX8_number_64 rfl (kX8_in ⟨by omega, by omega⟩ ⟨by omega, by omega⟩ ⟨by omega, by omega⟩) (Nat.le_of_ble_eq_true rfl) (Nat.le_of_ble_eq_true rfl) ⟨Nat.le_refl _, Nat.le_refl _⟩ ?_
  rw [if_neg (by omega)]
  refine x_istore dX8_number_67 (by decide) ?_
  show JX _ _ _ _ _ _ _ _ _ _ _ [_, _, _, _, _, _, _, _] _ _
  refine x_iconst dX8_number_69 ?_
  refine x_istore dX8_number_70 (by decide) ?_
  show JX _ _ _ _ _ _ _ _ _ _ _ [_, _, _, _, _, _, _, _] _ _
  refine x_iload_n dX8_number_72 rfl ?_
  refine x_istore dX8_number_73 (by decide) ?_
  show JX _ _ _ _ _ _ _ _ _ _ _ [_, _, _, _, _, _, _, _] _ _
  have nb : JX G yX8_number cX8_number 8 (some .int) (d + 1) (0, 0) (0, 0) S D 142 [some (.inr (.inr (some M))), some (.inl l), some (.inl m), some (.inl (p + 1)), some (.inl (oE f n (p + 1))), some (.inl 0), some (.inl 0), some (.inl (p + 1))] [] (jrP S (fun w D2 => jNm D D2 M n (oNm f n p l m) w)) := (num_bad hM hF rF F0).mono (by
    rintro v9 S2 D2 ⟨rfl, w, rfl, rfl, g2⟩
    refine ⟨rfl, _, rfl, ?_⟩
    unfold oNm
    rw [if_pos h, if_pos hb, g2]
    exact ⟨(fun y k q => by rw [jup_o (fun w => q ⟨w.1, Or.inl w.2⟩), jup_o (fun w => q ⟨w.1, Or.inr w.2⟩)]), by rw [jup_eq]; omega, ⟨_, rfl⟩, by rw [jup_nk (by omega), jup_eq]⟩)
  refine x_iload dX8_number_75 rfl ?_
  refine x_iload dX8_number_77 rfl ?_
  refine x_ic_ge (tgt := 142) dX8_number_79 (by decide) ⟨by omega, by omega⟩ ⟨by omega, by omega⟩ (fun hb79 => nb) (fun hb79 => ?_)
  refine x_iload dX8_number_82 rfl ?_
  exact x_if_eq (tgt := 142) dX8_number_84 (by decide) ⟨by omega, by omega⟩ (fun hb84 => nb) (fun hh => absurd rfl hh)
theorem kX8_number_c {G : JG} {S : JS} {D : JD} {d : Nat} {M n : Int} {f : Int → Int} {p F l m : Int} (hM : jMo S M) (hn : D M 7 = n) (hf : D (M + 6) = f) (n0 : 0 ≤ n) (n1 : n ≤ 60) (fr : ∀ z : Int, 0 ≤ f z ∧ f z ≤ 65535) (hp : D M 9 = p) (p0 : 0 ≤ p) (p1 : p ≤ n) (hF : D M 10 = F) (rF : i32 F) (F0 : F < 0) (rl : i32 l) (rm : i32 m) (h : p < n ∧ f p = 32) (hb : ¬ (oE f n (p + 1) = p + 1 ∨ 3 < oE f n (p + 1) - (p + 1))) : JM G yX8_number cX8_number 8 (some .int) (d + 1) (0, 0) S D [.inr (.inr (some M)), .inl l, .inl m] (jrP S (fun w D2 => jNm D D2 M n (oNm f n p l m) w)) := by
  obtain ⟨mk, m0, m1, m2, m4, m5, m8, m12, y1, l1, y2, l2, y3, l3, y4, l4, y5, l5, y6, l6, y7, l7⟩ := id hM
  have fp := fr p
  have eb := oE_b (f := f) (n := n) (p := p + 1) (by omega)
  show JX _ _ _ _ _ _ _ _ _ _ _ [_, _, _, _, _, _, _, _] _ _
  refine x_aload_n dX8_number_0 rfl ?_
  refine gf_RX8_187 dX8_number_1 rfl (by assumption) ?_
  rw [hF]
  refine x_if_lt (tgt := 9) dX8_number_4 (by decide) rF (fun hb4 => ?_) (fun h => (h (by omega)).elim)
  refine x_aload_n dX8_number_9 rfl ?_
  refine gf_RX8_190 dX8_number_10 rfl (by assumption) ?_
  rw [hp]
  refine x_aload_n dX8_number_13 rfl ?_
  refine gf_RX8_180 dX8_number_14 rfl (by assumption) ?_
  rw [hn]
  refine x_ic_ge (tgt := 34) dX8_number_17 (by decide) ⟨by omega, by omega⟩ ⟨by omega, by omega⟩ (fun h => absurd h (by omega)) (fun hb17 => ?_)
  refine x_aload_n dX8_number_20 rfl ?_
  refine gf_RX8_26 dX8_number_21 rfl (by assumption) ?_
  rw [m8]
  refine x_aload_n dX8_number_24 rfl ?_
  refine gf_RX8_190 dX8_number_25 rfl (by assumption) ?_
  rw [hp]
  refine x_cald dX8_number_28 (by assumption) ⟨by omega, by omega⟩ ?_
  rw [hf]
  refine x_bipush dX8_number_29 (by decide) ?_
  refine x_ic_eq (tgt := 44) dX8_number_31 (by decide) ⟨by omega, by omega⟩ ⟨by omega, by omega⟩ (fun hb31 => ?_) (fun h => (h (by omega)).elim)
  refine x_aload_n dX8_number_44 rfl ?_
  refine gf_RX8_190 dX8_number_45 rfl (by assumption) ?_
  rw [hp]
  refine x_iconst dX8_number_48 ?_
  refine x_iadd dX8_number_49 ?_
  refine x_istore_n dX8_number_50 (by decide) ?_
  show JX _ _ _ _ _ _ _ _ _ _ _ [_, _, _, _, _, _, _, _] _ _
  refine x_aload_n dX8_number_51 rfl ?_
  refine x_iload_n dX8_number_52 rfl ?_
  refine c_RX8_197d dX8_number_53 rfl (kX8_endOf hM hn hf n0 n1 fr (by omega) (by omega)) (by assumption) (Nat.le_of_ble_eq_true rfl) (Nat.le_of_ble_eq_true rfl) ⟨Nat.le_refl _, Nat.le_refl _⟩ ?_
  refine x_istore dX8_number_56 (by decide) ?_
  show JX _ _ _ _ _ _ _ _ _ _ _ [_, _, _, _, _, _, _, _] _ _
  refine x_iload dX8_number_58 rfl ?_
  refine x_iload_n dX8_number_60 rfl ?_
  refine x_isub dX8_number_61 ?_
  refine x_iconst dX8_number_62 ?_
  refine x_iconst dX8_number_63 ?_
  refine c_RX8_49d dX8_number_64 rfl (kX8_in ⟨by omega, by omega⟩ ⟨by omega, by omega⟩ ⟨by omega, by omega⟩) (Nat.le_of_ble_eq_true rfl) (Nat.le_of_ble_eq_true rfl) ⟨Nat.le_refl _, Nat.le_refl _⟩ ?_
  rw [if_pos (by omega)]
  refine x_istore dX8_number_67 (by decide) ?_
  show JX _ _ _ _ _ _ _ _ _ _ _ [_, _, _, _, _, _, _, _] _ _
  refine x_iconst dX8_number_69 ?_
  refine x_istore dX8_number_70 (by decide) ?_
  show JX _ _ _ _ _ _ _ _ _ _ _ [_, _, _, _, _, _, _, _] _ _
  refine x_iload_n dX8_number_72 rfl ?_
  refine x_istore dX8_number_73 (by decide) ?_
  show JX _ _ _ _ _ _ _ _ _ _ _ [_, _, _, _, _, _, _, _] _ _
  refine (num_loop hM hn hf n0 n1 fr hF rF F0 rl rm eb.2 (oE f n (p + 1) - (p + 1)).toNat (p + 1) 0 (by omega) (by omega) (by omega)).mono ?_
  rintro v9 S2 D2 ⟨rfl, w, rfl, hq⟩
  refine ⟨rfl, w, rfl, ?_⟩
  unfold oNm
  rw [if_pos h, if_neg hb]
  cases hd : oDg f (oE f n (p + 1) - (p + 1)).toNat (p + 1) 0 with
  | none =>
    rw [hd] at hq
    obtain ⟨⟨u, rfl⟩, rfl⟩ := hq
    exact ⟨(fun y k q => by rw [jup_o (fun w => q ⟨w.1, Or.inl w.2⟩), jup_o (fun w => q ⟨w.1, Or.inr w.2⟩)]), by rw [jup_eq]; omega, ⟨_, rfl⟩, by rw [jup_nk (by omega), jup_eq]⟩
  | some v =>
    rw [hd] at hq
    have hq2 : (if l ≤ v ∧ v ≤ m then w = .inl v ∧ D2 = jup D M 9 (oE f n (p + 1)) else (∃ u, w = .inl u) ∧ D2 = jup (jup D M 10 (p + 1)) M 9 (oE f n (p + 1))) := hq
    show jNm D D2 M n (if l ≤ v ∧ v ≤ m then (some v, oE f n (p + 1)) else (none, p + 1)) w
    by_cases hv : l ≤ v ∧ v ≤ m
    · rw [if_pos hv] at hq2 ⊢
      obtain ⟨rfl, rfl⟩ := hq2
      exact ⟨fun y k q => jup_o (fun w => q ⟨w.1, Or.inl w.2⟩), by rw [jup_eq]; omega, rfl, jup_eq, jup_nk (by omega)⟩
    · rw [if_neg hv] at hq2 ⊢
      obtain ⟨⟨u, rfl⟩, rfl⟩ := hq2
      exact ⟨(fun y k q => by rw [jup_o (fun w => q ⟨w.1, Or.inl w.2⟩), jup_o (fun w => q ⟨w.1, Or.inr w.2⟩)]), by rw [jup_eq]; omega, ⟨_, rfl⟩, by rw [jup_nk (by omega), jup_eq]⟩
theorem kX8_number {G : JG} {S : JS} {D : JD} {d : Nat} {M n : Int} {f : Int → Int} {p F l m : Int} (hM : jMo S M) (hn : D M 7 = n) (hf : D (M + 6) = f) (n0 : 0 ≤ n) (n1 : n ≤ 60) (fr : ∀ z : Int, 0 ≤ f z ∧ f z ≤ 65535) (hp : D M 9 = p) (p0 : 0 ≤ p) (p1 : p ≤ n) (hF : D M 10 = F) (rF : i32 F) (F0 : F < 0) (rl : i32 l) (rm : i32 m) : JM G yX8_number cX8_number 8 (some .int) (d + 1) (0, 0) S D [.inr (.inr (some M)), .inl l, .inl m] (jrP S (fun w D2 => jNm D D2 M n (oNm f n p l m) w)) := by
  by_cases h : p < n ∧ f p = 32
  · by_cases hb : oE f n (p + 1) = p + 1 ∨ 3 < oE f n (p + 1) - (p + 1)
    · exact kX8_number_b hM hn hf n0 n1 fr hp p0 p1 hF rF F0 rl rm h hb
    · exact kX8_number_c hM hn hf n0 n1 fr hp p0 p1 hF rF F0 rl rm h hb
  · exact kX8_number_a hM hn hf n0 n1 fr hp p0 p1 hF rF F0 rl rm h
