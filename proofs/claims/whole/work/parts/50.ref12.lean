/-! THE REFERENCE: its history; the end of an act -/
def jMh (D : JD) (M n : Int) (hs : Int → Int → Int) : Prop := D M 3 = n ∧ 0 ≤ n ∧ n ≤ 5 ∧ ∀ k j : Int, 0 ≤ k → k < n → 0 ≤ j → j < 213 → D (M + 3) (213 * k + j) = hs k j
def jMr (D0 : JD) (M m : Int) (r : Int → Int) (D2 : JD) : Prop := D2 M 3 = m + 1 ∧ (∀ k : Int, k ≠ 3 → D2 M k = D0 M k) ∧ (∀ x : Int, x ≠ M → x ≠ M + 3 → D2 x = D0 x) ∧ (∀ j : Int, 0 ≤ j → j < 213 * m → D2 (M + 3) j = D0 (M + 3) j) ∧ ∀ j : Int, 0 ≤ j → j < 213 → D2 (M + 3) (213 * m + j) = r j
theorem jMh.frame {D D2 : JD} {M n : Int} {hs : Int → Int → Int} (h : jMh D M n hs) (e3 : D2 M 3 = D M 3) (e : D2 (M + 3) = D (M + 3)) : jMh D2 M n hs := by
  obtain ⟨a1, a2, a3, a4⟩ := h
  exact ⟨by rw [e3]; exact a1, a2, a3, fun k j x y z w => by rw [e]; exact a4 k j x y z w⟩
theorem rec_copy {G : JG} {S : JS} {D0 : JD} {d : Nat} {M m : Int} {r : Int → Int} (hM : jMo S M) (m0 : 0 ≤ m) (m4 : m ≤ 4) : ∀ (n i : Nat) (D : JD), (i : Int) + n = 213 → D M 3 = m → (∀ k : Int, 0 ≤ k → k < 213 → D (M + 2) k = r k) → (∀ x : Int, x ≠ M + 3 → D x = D0 x) → (∀ j : Int, 0 ≤ j → j < 213 * m → D (M + 3) j = D0 (M + 3) j) → (∀ j : Int, 0 ≤ j → j < i → D (M + 3) (213 * m + j) = r j) →
    JX G yX8_record cX8_record 2 none d (0, 0) (0, 0) S D 56 [some (.inr (.inr (some M))), some (.inl i)] [] (jnP S (jMr D0 M m r)) := by
  intro n
  induction n with
  | zero =>
    intro i D hn h3 hsc hX hlo hhi
    obtain ⟨mk, m0, m1, m2, m4, m5, m8, m12, y1, l1, y2, l2, y3, l3, y4, l4, y5, l5, y6, l6, y7, l7⟩ := id hM
    refine x_iload_n dX8_record_56 rfl ?_
    refine x_sipush dX8_record_57 (by decide) ?_
    refine x_ic_ge (tgt := 90) dX8_record_60 (by decide) ⟨by omega, by omega⟩ ⟨by omega, by omega⟩ (fun hb60 => ?_) (fun h => (h (by omega)).elim)
    refine x_aload_n dX8_record_90 rfl ?_
    refine x_dup dX8_record_91 (fun _ h => by cases h) ?_
    refine gf_RX8_38 dX8_record_92 rfl (by assumption) ?_
    rw [h3]
    refine x_iconst dX8_record_95 ?_
    refine x_iadd dX8_record_96 ?_
    refine pf_RX8_38 dX8_record_97 rfl (by assumption) ?_
    exact x_return dX8_record_100 rfl ⟨Nat.le_refl _, Nat.le_refl _⟩ ⟨rfl, rfl, jup_eq, fun k hk => by rw [jup_nk hk, hX M (by omega)], fun x p q => by rw [jup_off p, hX x q], fun j p q => by rw [jup_off (by omega)]; exact hlo j p q, fun j p q => by rw [jup_off (by omega)]; exact hhi j p (by omega)⟩
  | succ n ih =>
    intro i D hn h3 hsc hX hlo hhi
    obtain ⟨mk, m0, m1, m2, m4, m5, m8, m12, y1, l1, y2, l2, y3, l3, y4, l4, y5, l5, y6, l6, y7, l7⟩ := id hM
    refine x_iload_n dX8_record_56 rfl ?_
    refine x_sipush dX8_record_57 (by decide) ?_
    refine x_ic_ge (tgt := 90) dX8_record_60 (by decide) ⟨by omega, by omega⟩ ⟨by omega, by omega⟩ (fun h => absurd h (by omega)) (fun hb60 => ?_)
    refine x_aload_n dX8_record_63 rfl ?_
    refine gf_RX8_16 dX8_record_64 rfl (by assumption) ?_
    rw [m2]
    refine x_sipush dX8_record_67 (by decide) ?_
    refine x_aload_n dX8_record_70 rfl ?_
    refine gf_RX8_38 dX8_record_71 rfl (by assumption) ?_
    rw [h3]
    refine x_imul dX8_record_74 ?_
    refine x_iload_n dX8_record_75 rfl ?_
    refine x_iadd dX8_record_76 ?_
    refine x_aload_n dX8_record_77 rfl ?_
    refine gf_RX8_13 dX8_record_78 rfl (by assumption) ?_
    rw [m1]
    refine x_iload_n dX8_record_81 rfl ?_
    refine x_iald dX8_record_82 (by assumption) ⟨by omega, by omega⟩ ?_
    rw [hsc _ (by omega) (by omega)]
    refine x_iast dX8_record_83 (by assumption) ⟨by omega, by omega⟩ ?_
    refine x_iinc dX8_record_84 rfl (by decide) ?_
    show JX _ _ _ _ _ _ _ _ _ _ _ [_, _] _ _
    refine x_goto (tgt := 56) dX8_record_87 (by decide) ?_
    exact ih (i + 1) _ (by omega) (by rw [jup_ne (by omega)]; exact h3) (fun k x y => by rw [jup_ne (by omega)]; exact hsc k x y) (fun x hx => by rw [jup_off hx]; exact hX x hx) (fun j x y => by rw [jup_nk (by omega)]; exact hlo j x y) (fun j x y => by
          by_cases q : j = i
          · rw [q, jup_eq]
          · rw [jup_nk (by omega)]; exact hhi j x (by omega))
theorem rec_shift {G : JG} {S : JS} {D0 : JD} {d : Nat} {M : Int} {Q : Option JV → JS → JD → Prop} (hM : jMo S M)
    (K : ∀ D : JD, D M 3 = 4 → (∀ x : Int, x ≠ M + 3 → D x = D0 x) → (∀ j : Int, 0 ≤ j → j < 852 → D (M + 3) j = D0 (M + 3) (j + 213)) → JX G yX8_record cX8_record 2 none d (0, 0) (0, 0) S D 54 [some (.inr (.inr (some M))), some (.inl 852)] [] Q) : ∀ (n i : Nat) (D : JD), (i : Int) + n = 852 → D M 3 = 4 → (∀ x : Int, x ≠ M + 3 → D x = D0 x) → (∀ j : Int, 0 ≤ j → j < i → D (M + 3) j = D0 (M + 3) (j + 213)) → (∀ j : Int, i ≤ j → D (M + 3) j = D0 (M + 3) j) →
    JX G yX8_record cX8_record 2 none d (0, 0) (0, 0) S D 20 [some (.inr (.inr (some M))), some (.inl i)] [] Q := by
  intro n
  induction n with
  | zero =>
    intro i D hn h3 hX hlo hhi
    obtain ⟨mk, m0, m1, m2, m4, m5, m8, m12, y1, l1, y2, l2, y3, l3, y4, l4, y5, l5, y6, l6, y7, l7⟩ := id hM
    have ei : i = 852 := by omega
    subst ei
    refine x_iload_n dX8_record_20 rfl ?_
    refine x_sipush dX8_record_21 (by decide) ?_
    refine x_aload_n dX8_record_24 rfl ?_
    refine gf_RX8_38 dX8_record_25 rfl (by assumption) ?_
    rw [h3]
    refine x_imul dX8_record_28 ?_
    refine x_ic_ge (tgt := 54) dX8_record_29 (by decide) ⟨by omega, by omega⟩ ⟨by omega, by omega⟩ (fun hb29 => ?_) (fun h => (h (by omega)).elim)
    exact K D h3 hX (fun j x y => hlo j x y)
  | succ n ih =>
    intro i D hn h3 hX hlo hhi
    obtain ⟨mk, m0, m1, m2, m4, m5, m8, m12, y1, l1, y2, l2, y3, l3, y4, l4, y5, l5, y6, l6, y7, l7⟩ := id hM
    refine x_iload_n dX8_record_20 rfl ?_
    refine x_sipush dX8_record_21 (by decide) ?_
    refine x_aload_n dX8_record_24 rfl ?_
    refine gf_RX8_38 dX8_record_25 rfl (by assumption) ?_
    rw [h3]
    refine x_imul dX8_record_28 ?_
    refine x_ic_ge (tgt := 54) dX8_record_29 (by decide) ⟨by omega, by omega⟩ ⟨by omega, by omega⟩ (fun h => absurd h (by omega)) (fun hb29 => ?_)
    refine x_aload_n dX8_record_32 rfl ?_
    refine gf_RX8_16 dX8_record_33 rfl (by assumption) ?_
    rw [m2]
    refine x_iload_n dX8_record_36 rfl ?_
    refine x_aload_n dX8_record_37 rfl ?_
    refine gf_RX8_16 dX8_record_38 rfl (by assumption) ?_
    rw [m2]
    refine x_iload_n dX8_record_41 rfl ?_
    refine x_sipush dX8_record_42 (by decide) ?_
    refine x_iadd dX8_record_45 ?_
    refine x_iald dX8_record_46 (by assumption) ⟨by omega, by omega⟩ ?_
    rw [hhi _ (by omega)]
    refine x_iast dX8_record_47 (by assumption) ⟨by omega, by omega⟩ ?_
    refine x_iinc dX8_record_48 rfl (by decide) ?_
    show JX _ _ _ _ _ _ _ _ _ _ _ [_, _] _ _
    refine x_goto (tgt := 20) dX8_record_51 (by decide) ?_
    exact ih (i + 1) _ (by omega) (by rw [jup_ne (by omega)]; exact h3) (fun x hx => by rw [jup_off hx]; exact hX x hx) (fun j x y => by
          by_cases q : j = i
          · rw [q, jup_eq]
          · rw [jup_nk q]; exact hlo j x (by omega)) (fun j x => by rw [jup_nk (by omega)]; exact hhi j (by omega))
theorem kX8_record_p {G : JG} {S : JS} {D : JD} {d : Nat} {M n : Int} {hs : Int → Int → Int} {r : Int → Int} (hM : jMo S M) (hm : jMh D M n hs) (hsc : ∀ k : Int, 0 ≤ k → k < 213 → D (M + 2) k = r k) (hn : ¬ n = 5) : JM G yX8_record cX8_record 2 none d (0, 0) S D [.inr (.inr (some M))] (jnP S (fun D2 => jMh D2 M (sRecN n) (sRecH n hs r) ∧ (∀ x : Int, x ≠ M → x ≠ M + 3 → D2 x = D x) ∧ ∀ k : Int, k ≠ 3 → D2 M k = D M k)) := by
  obtain ⟨mk, m0, m1, m2, m4, m5, m8, m12, y1, l1, y2, l2, y3, l3, y4, l4, y5, l5, y6, l6, y7, l7⟩ := id hM
  obtain ⟨a1, a2, a3, a4⟩ := hm
  show JX _ _ _ _ _ _ _ _ _ _ _ [_, _] _ _
  refine x_aload_n dX8_record_0 rfl ?_
  refine gf_RX8_38 dX8_record_1 rfl (by assumption) ?_
  rw [a1]
  refine x_iconst dX8_record_4 ?_
  refine x_ic_ne (tgt := 54) dX8_record_5 (by decide) ⟨by omega, by omega⟩ ⟨by omega, by omega⟩ (fun hb5 => ?_) (fun h => (h (by omega)).elim)
  refine x_iconst dX8_record_54 ?_
  refine x_istore_n dX8_record_55 (by decide) ?_
  show JX _ _ _ _ _ _ _ _ _ _ _ [_, _] _ _
  refine (rec_copy (D0 := D) (m := n) (r := r) hM a2 (by omega) 213 0 D (by omega) a1 hsc (fun _ _ => rfl) (fun _ _ _ => rfl) (fun j x y => absurd y (by omega))).mono ?_
  rintro v S2 D2 ⟨rfl, rfl, g1, g2, g3, g4, g5⟩
  refine ⟨rfl, rfl, ⟨?_, ?_, ?_, ?_⟩, g3, g2⟩
  · rw [g1]; unfold sRecN; rw [if_neg hn]
  · unfold sRecN; rw [if_neg hn]; omega
  · unfold sRecN; rw [if_neg hn]; omega
  · intro k j x y z w
    unfold sRecN at y
    rw [if_neg hn] at y
    unfold sRecH
    rw [if_neg hn]
    by_cases q : k = n
    · rw [if_pos q, q]; exact g5 j z w
    · rw [if_neg q, g4 _ (by omega) (by omega)]; exact a4 k j x (by omega) z w
theorem kX8_record_f {G : JG} {S : JS} {D : JD} {d : Nat} {M n : Int} {hs : Int → Int → Int} {r : Int → Int} (hM : jMo S M) (hm : jMh D M n hs) (hsc : ∀ k : Int, 0 ≤ k → k < 213 → D (M + 2) k = r k) (hn : n = 5) : JM G yX8_record cX8_record 2 none d (0, 0) S D [.inr (.inr (some M))] (jnP S (fun D2 => jMh D2 M (sRecN n) (sRecH n hs r) ∧ (∀ x : Int, x ≠ M → x ≠ M + 3 → D2 x = D x) ∧ ∀ k : Int, k ≠ 3 → D2 M k = D M k)) := by
  obtain ⟨mk, m0, m1, m2, m4, m5, m8, m12, y1, l1, y2, l2, y3, l3, y4, l4, y5, l5, y6, l6, y7, l7⟩ := id hM
  obtain ⟨a1, a2, a3, a4⟩ := hm
  show JX _ _ _ _ _ _ _ _ _ _ _ [_, _] _ _
  refine x_aload_n dX8_record_0 rfl ?_
  refine gf_RX8_38 dX8_record_1 rfl (by assumption) ?_
  rw [a1]
  refine x_iconst dX8_record_4 ?_
  refine x_ic_ne (tgt := 54) dX8_record_5 (by decide) ⟨by omega, by omega⟩ ⟨by omega, by omega⟩ (fun h => absurd h (by omega)) (fun hb5 => ?_)
  refine x_aload_n dX8_record_8 rfl ?_
  refine x_dup dX8_record_9 (fun _ h => by cases h) ?_
  refine gf_RX8_38 dX8_record_10 rfl (by assumption) ?_
  rw [a1]
  refine x_iconst dX8_record_13 ?_
  refine x_isub dX8_record_14 ?_
  refine pf_RX8_38 dX8_record_15 rfl (by assumption) ?_
  refine x_iconst dX8_record_18 ?_
  refine x_istore_n dX8_record_19 (by decide) ?_
  show JX _ _ _ _ _ _ _ _ _ _ _ [_, _] _ _
  refine rec_shift (D0 := jup D M 3 (n - 1)) hM (fun D9 h3 hX hlo => ?_) 852 0 (jup D M 3 (n - 1)) (by omega) (by rw [jup_eq]; omega) (fun _ _ => rfl) (fun j x y => absurd y (by omega)) (fun _ _ => rfl)
  have hsc9 : ∀ k : Int, 0 ≤ k → k < 213 → D9 (M + 2) k = r k := fun k x y => by rw [hX _ (by omega), jup_off (by omega)]; exact hsc k x y
  refine x_iconst dX8_record_54 ?_
  refine x_istore_n dX8_record_55 (by decide) ?_
  refine (rec_copy (D0 := D9) (m := 4) (r := r) hM (by omega) (by omega) 213 0 D9 (by omega) h3 hsc9 (fun _ _ => rfl) (fun _ _ _ => rfl) (fun j x y => absurd y (by omega))).mono ?_
  rintro v S2 D2 ⟨rfl, rfl, g1, g2, g3, g4, g5⟩
  refine ⟨rfl, rfl, ⟨?_, ?_, ?_, ?_⟩, fun x p q => by rw [g3 x p q, hX x q, jup_off p], fun k hk => by rw [g2 k hk, hX M (by omega), jup_nk hk]⟩
  · rw [g1]; unfold sRecN; rw [if_pos hn]; rfl
  · unfold sRecN; rw [if_pos hn]; omega
  · unfold sRecN; rw [if_pos hn]; omega
  · intro k j x y z w
    unfold sRecN at y
    rw [if_pos hn] at y
    unfold sRecH
    rw [if_pos hn]
    by_cases q : k < 4
    · rw [if_pos q, g4 _ (by omega) (by omega), hlo _ (by omega) (by omega), jup_off (by omega), show 213 * k + j + 213 = 213 * (k + 1) + j by omega]
      exact a4 (k + 1) j (by omega) (by omega) z w
    · rw [if_neg q, show k = 4 by omega]; exact g5 j z w
theorem kX8_record {G : JG} {S : JS} {D : JD} {d : Nat} {M n : Int} {hs : Int → Int → Int} {r : Int → Int} (hM : jMo S M) (hm : jMh D M n hs) (hsc : ∀ k : Int, 0 ≤ k → k < 213 → D (M + 2) k = r k) : JM G yX8_record cX8_record 2 none d (0, 0) S D [.inr (.inr (some M))] (jnP S (fun D2 => jMh D2 M (sRecN n) (sRecH n hs r) ∧ (∀ x : Int, x ≠ M → x ≠ M + 3 → D2 x = D x) ∧ ∀ k : Int, k ≠ 3 → D2 M k = D M k)) := by
  by_cases hn : n = 5
  · exact kX8_record_f hM hm hsc hn
  · exact kX8_record_p hM hm hsc hn
/-- an act's end on the reference -/
def jRf (D : JD) (M n : Int) (hs : Int → Int → Int) (r : Int → Int) (z : Zr) (w : JV) (D2 : JD) : Prop :=
  w = .inl z.1 ∧ (∀ x : Int, x ≠ M → x ≠ M + 1 → x ≠ M + 2 → x ≠ M + 3 → D2 x = D x) ∧ (∀ k : Int, k ≠ 3 → k ≠ 6 → D2 M k = D M k) ∧ (match z.2.1 with
    | some r2 => D2 (M + 1) = sAll r2 ∧ jMh D2 M (sRecN n) (sRecH n hs r) ∧ D2 M 6 = D M 6
    | none => D2 (M + 1) = r ∧ jMh D2 M n hs ∧ D2 M 6 = (if z.2.2 = 0 then D M 6 else z.2.2))
/-- a good answer: told, or a state with its new row -/
def zGood (t : Int) (z : Zr) : Prop := match z.2.1 with
  | some r2 => 0 ≤ z.1 ∧ z.1 ≤ 1000000000 ∧ z.2.2 = 0 ∧ rIn (t + 1) r2
  | none => z.1 ≤ -100000001 ∧ -100000005 ≤ z.1
theorem zGood_s {t v : Int} {r2 : Int → Int} (h0 : 0 ≤ v) (h1 : v ≤ 1000000000) (h : rIn (t + 1) r2) : zGood t (v, some r2, 0) := ⟨h0, h1, rfl, h⟩
theorem zGood_n {t v e : Int} (h0 : v ≤ -100000001) (h1 : -100000005 ≤ v) : zGood t (v, none, e) := ⟨h0, h1⟩
theorem jRf.from {D D1 : JD} {M n : Int} {hs : Int → Int → Int} {r : Int → Int} {z : Zr} {w : JV} {D2 : JD} (h : jRf D1 M n hs r z w D2) (e : ∀ x : Int, x ≠ M + 2 → D1 x = D x) : jRf D M n hs r z w D2 := by
  obtain ⟨h1, h2, h3, h4⟩ := h
  have eM : D1 M = D M := e M (by omega)
  refine ⟨h1, fun x a b c y => by rw [h2 x a b c y, e x c], fun k a b => by rw [h3 k a b, eM], ?_⟩
  rw [eM] at h4
  exact h4
theorem jRf_none {D : JD} {M n : Int} {hs : Int → Int → Int} {r : Int → Int} {v : Int} (hr : D (M + 1) = r) (hm : jMh D M n hs) : jRf D M n hs r (v, none, 0) (.inl v) D := ⟨rfl, fun _ _ _ _ _ => rfl, fun _ _ _ => rfl, hr, hm, by rw [if_pos rfl]⟩
theorem jRf_ref {D : JD} {M n : Int} {hs : Int → Int → Int} {r : Int → Int} {v e : Int} (hr : D (M + 1) = r) (hm : jMh D M n hs) (he : e ≠ 0) : jRf D M n hs r (v, none, e) (.inl v) (jup D M 6 e) :=
  ⟨rfl, fun x h _ _ _ => jup_off h, fun k _ h => jup_nk h, by rw [jup_off (by omega)]; exact hr, hm.frame (jup_nk (by omega)) (jup_off (by omega)), by show jup D M 6 e M 6 = (if e = 0 then D M 6 else e); rw [if_neg he, jup_eq]⟩
theorem kX8_done_n {G : JG} {S : JS} {D : JD} {d : Nat} {D1 : JD} {M v e : Int} {r : Int → Int} (hM : jMo S M) (hv : v ≤ -100000001 ∧ -100000005 ≤ v) : JM G yX8_done cX8_done 2 (some .int) (d + 6) (0, 0) S D [.inr (.inr (some M)), .inl v] (jr (.inl v) S D) := by
  obtain ⟨mk, m0, m1, m2, m4, m5, m8, m12, y1, l1, y2, l2, y3, l3, y4, l4, y5, l5, y6, l6, y7, l7⟩ := id hM
  show JX _ _ _ _ _ _ _ _ _ _ _ [_, _] _ _
  refine x_iload_n dX8_done_0 rfl ?_
  refine x_ldc (e := -100000001) dX8_done_1 ct_RX8_41 (by decide) ?_
  refine x_ic_gt (tgt := 8) dX8_done_3 (by decide) ⟨by omega, by omega⟩ ⟨by omega, by omega⟩ (fun h => absurd h (by omega)) (fun hb3 => ?_)
  refine x_iload_n dX8_done_6 rfl ?_
  exact x_ireturn dX8_done_7 rfl rfl ⟨Nat.le_refl _, Nat.le_refl _⟩ ⟨rfl, rfl, rfl⟩
theorem kX8_done_s {G : JG} {S : JS} {D : JD} {d : Nat} {D1 : JD} {M n t : Int} {hs : Int → Int → Int} {r : Int → Int} {v : Int} {r2 : Int → Int} (hM : jMo S M) (hm : jMh D1 M n hs) (hsc : ∀ k : Int, 0 ≤ k → k < 213 → D1 (M + 2) k = r k) (ht : t + 1 ≤ 60000) (hd : jDo D1 M r (v, some r2, 0) (.inl v) D) (hg : zGood t (v, some r2, 0)) : JM G yX8_done cX8_done 2 (some .int) (d + 6) (0, 0) S D [.inr (.inr (some M)), .inl v] (jrP S (jRf D1 M n hs r (v, some r2, 0))) := by
  obtain ⟨mk, m0, m1, m2, m4, m5, m8, m12, y1, l1, y2, l2, y3, l3, y4, l4, y5, l5, y6, l6, y7, l7⟩ := id hM
  obtain ⟨-, d1, d2, d3, d4⟩ := hd
  obtain ⟨v0, v1, -, hI⟩ := hg
  have hm2 : jMh D M n hs := hm.frame (d2 3 (by omega)) (d1 _ (by omega) (by omega))
  have hsc2 : ∀ k : Int, 0 ≤ k → k < 213 → D (M + 2) k = r k := fun k x y => by rw [d1 _ (by omega) (by omega)]; exact hsc k x y
  have d3' : D (M + 1) = r2 := d3
  have d4' : D M 6 = D1 M 6 := by rw [d4, if_pos rfl]
  replace v0 : 0 ≤ v := v0
  replace v1 : v ≤ 1000000000 := v1
  replace hI : rIn (t + 1) r2 := hI
  show JX _ _ _ _ _ _ _ _ _ _ _ [_, _] _ _
  refine x_iload_n dX8_done_0 rfl ?_
  refine x_ldc (e := -100000001) dX8_done_1 ct_RX8_41 (by decide) ?_
  refine x_ic_gt (tgt := 8) dX8_done_3 (by decide) ⟨by omega, by omega⟩ ⟨by omega, by omega⟩ (fun hb3 => ?_) (fun h => (h (by omega)).elim)
  refine x_aload_n dX8_done_8 rfl ?_
  refine c_RX8_42p dX8_done_9 rfl (kX8_record hM hm2 hsc2) (by assumption) (Nat.le_of_ble_eq_true rfl) (Nat.le_of_ble_eq_true rfl) ⟨Nat.le_refl _, Nat.le_refl _⟩ (fun D3 h3 => ?_)
  obtain ⟨q1, q2, q3⟩ := h3
  have hr3 : D3 (M + 1) = r2 := by rw [q2 _ (by omega) (by omega)]; exact d3'
  refine x_aload_n dX8_done_12 rfl ?_
  refine c_RX8_45p dX8_done_13 rfl (kX8_shareAll hM hr3 hI ht) (by assumption) (Nat.le_of_ble_eq_true rfl) (Nat.le_of_ble_eq_true rfl) ⟨Nat.le_refl _, Nat.le_refl _⟩ (fun D4 h4 => ?_)
  obtain ⟨w1, w2⟩ := h4
  refine x_iload_n dX8_done_16 rfl ?_
  exact x_ireturn dX8_done_17 rfl rfl ⟨Nat.le_refl _, Nat.le_refl _⟩ ⟨rfl, _, rfl, rfl, fun x p q u y => by rw [w2 x q, q2 x p y, d1 x p q], fun k p q => by rw [w2 M (by omega), q3 k p, d2 k q], w1, q1.frame (by rw [w2 M (by omega)]) (w2 _ (by omega)), by rw [w2 M (by omega), q3 6 (by omega), d4']⟩
theorem kX8_doneZ {G : JG} {S : JS} {D : JD} {d : Nat} {D1 : JD} {M n t : Int} {hs : Int → Int → Int} {r : Int → Int} {z : Zr} (hM : jMo S M) (hm : jMh D1 M n hs) (hsc : ∀ k : Int, 0 ≤ k → k < 213 → D1 (M + 2) k = r k) (ht : t + 1 ≤ 60000) (hd : jDo D1 M r z (.inl z.1) D) (hg : zGood t z) : JM G yX8_done cX8_done 2 (some .int) (d + 6) (0, 0) S D [.inr (.inr (some M)), .inl z.1] (jrP S (jRf D1 M n hs r z)) := by
  obtain ⟨v, o, e⟩ := z
  cases o with
  | none =>
    refine (kX8_done_n (D1 := D1) (e := e) (r := r) hM hg).mono ?_
    rintro w S2 D2 ⟨rfl, rfl, rfl⟩
    obtain ⟨-, d1, d2, d3, d4⟩ := hd
    exact ⟨rfl, _, rfl, rfl, fun x p q _ _ => d1 x p q, fun k _ p => d2 k p, d3, hm.frame (d2 3 (by omega)) (d1 _ (by omega) (by omega)), d4⟩
  | some r2 =>
    have he : e = 0 := hg.2.2.1
    subst he
    exact kX8_done_s hM hm hsc ht hd hg
